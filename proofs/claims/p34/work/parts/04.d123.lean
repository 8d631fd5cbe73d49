theorem dX1_init_0 : decode cX1_init 0 = .ok (.aload_n 0, 1) := by decide +kernel
theorem dX1_init_1 : decode cX1_init 1 = .ok (.invokespecial 3, 3) := by decide +kernel
theorem dX1_init_4 : decode cX1_init 4 = .ok (.aload_n 0, 1) := by decide +kernel
theorem dX1_init_5 : decode cX1_init 5 = .ok (.bipush 60, 2) := by decide +kernel
theorem dX1_init_7 : decode cX1_init 7 = .ok (.newarray .int, 2) := by decide +kernel
theorem dX1_init_9 : decode cX1_init 9 = .ok (.putfield 9, 3) := by decide +kernel
theorem dX1_init_12 : decode cX1_init 12 = .ok (.aload_n 0, 1) := by decide +kernel
theorem dX1_init_13 : decode cX1_init 13 = .ok (.bipush 60, 2) := by decide +kernel
theorem dX1_init_15 : decode cX1_init 15 = .ok (.anewarray 15, 3) := by decide +kernel
theorem dX1_init_18 : decode cX1_init 18 = .ok (.putfield 17, 3) := by decide +kernel
theorem dX1_init_21 : decode cX1_init 21 = .ok (.aload_n 0, 1) := by decide +kernel
theorem dX1_init_22 : decode cX1_init 22 = .ok (.bipush 60, 2) := by decide +kernel
theorem dX1_init_24 : decode cX1_init 24 = .ok (.newarray .int, 2) := by decide +kernel
theorem dX1_init_26 : decode cX1_init 26 = .ok (.putfield 21, 3) := by decide +kernel
theorem dX1_init_29 : decode cX1_init 29 = .ok (.aload_n 0, 1) := by decide +kernel
theorem dX1_init_30 : decode cX1_init 30 = .ok (.bipush 60, 2) := by decide +kernel
theorem dX1_init_32 : decode cX1_init 32 = .ok (.newarray .int, 2) := by decide +kernel
theorem dX1_init_34 : decode cX1_init 34 = .ok (.putfield 24, 3) := by decide +kernel
theorem dX1_init_37 : decode cX1_init 37 = .ok (.return_, 1) := by decide +kernel
theorem dX2_init_0 : decode cX2_init 0 = .ok (.aload_n 0, 1) := by decide +kernel
theorem dX2_init_1 : decode cX2_init 1 = .ok (.invokespecial 1, 3) := by decide +kernel
theorem dX2_init_4 : decode cX2_init 4 = .ok (.return_, 1) := by decide +kernel
theorem dX2_forget_0 : decode cX2_forget 0 = .ok (.aload_n 0, 1) := by decide +kernel
theorem dX2_forget_1 : decode cX2_forget 1 = .ok (.iconst 0, 1) := by decide +kernel
theorem dX2_forget_2 : decode cX2_forget 2 = .ok (.putfield 7, 3) := by decide +kernel
theorem dX2_forget_5 : decode cX2_forget 5 = .ok (.return_, 1) := by decide +kernel
theorem dX2_offer_0 : decode cX2_offer 0 = .ok (.iload_n 1, 1) := by decide +kernel
theorem dX2_offer_1 : decode cX2_offer 1 = .ok (.aload_n 0, 1) := by decide +kernel
theorem dX2_offer_2 : decode cX2_offer 2 = .ok (.getfield 7, 3) := by decide +kernel
theorem dX2_offer_5 : decode cX2_offer 5 = .ok (.if_icmp .le 24, 3) := by decide +kernel
theorem dX2_offer_8 : decode cX2_offer 8 = .ok (.aload_n 0, 1) := by decide +kernel
theorem dX2_offer_9 : decode cX2_offer 9 = .ok (.iload_n 1, 1) := by decide +kernel
theorem dX2_offer_10 : decode cX2_offer 10 = .ok (.putfield 7, 3) := by decide +kernel
theorem dX2_offer_13 : decode cX2_offer 13 = .ok (.aload_n 0, 1) := by decide +kernel
theorem dX2_offer_14 : decode cX2_offer 14 = .ok (.iload_n 2, 1) := by decide +kernel
theorem dX2_offer_15 : decode cX2_offer 15 = .ok (.putfield 13, 3) := by decide +kernel
theorem dX2_offer_18 : decode cX2_offer 18 = .ok (.aload_n 0, 1) := by decide +kernel
theorem dX2_offer_19 : decode cX2_offer 19 = .ok (.iload_n 3, 1) := by decide +kernel
theorem dX2_offer_20 : decode cX2_offer 20 = .ok (.putfield 16, 3) := by decide +kernel
theorem dX2_offer_23 : decode cX2_offer 23 = .ok (.aload_n 0, 1) := by decide +kernel
theorem dX2_offer_24 : decode cX2_offer 24 = .ok (.iload 4, 2) := by decide +kernel
theorem dX2_offer_26 : decode cX2_offer 26 = .ok (.putfield 19, 3) := by decide +kernel
theorem dX2_offer_29 : decode cX2_offer 29 = .ok (.return_, 1) := by decide +kernel
theorem dX3_init_0 : decode cX3_init 0 = .ok (.aload_n 0, 1) := by decide +kernel
theorem dX3_init_1 : decode cX3_init 1 = .ok (.invokespecial 3, 3) := by decide +kernel
theorem dX3_init_4 : decode cX3_init 4 = .ok (.aload_n 0, 1) := by decide +kernel
theorem dX3_init_5 : decode cX3_init 5 = .ok (.bipush 6, 2) := by decide +kernel
theorem dX3_init_7 : decode cX3_init 7 = .ok (.newarray .int, 2) := by decide +kernel
theorem dX3_init_9 : decode cX3_init 9 = .ok (.putfield 9, 3) := by decide +kernel
theorem dX3_init_12 : decode cX3_init 12 = .ok (.aload_n 0, 1) := by decide +kernel
theorem dX3_init_13 : decode cX3_init 13 = .ok (.bipush 6, 2) := by decide +kernel
theorem dX3_init_15 : decode cX3_init 15 = .ok (.newarray .int, 2) := by decide +kernel
theorem dX3_init_17 : decode cX3_init 17 = .ok (.putfield 15, 3) := by decide +kernel
theorem dX3_init_20 : decode cX3_init 20 = .ok (.aload_n 0, 1) := by decide +kernel
theorem dX3_init_21 : decode cX3_init 21 = .ok (.bipush 6, 2) := by decide +kernel
theorem dX3_init_23 : decode cX3_init 23 = .ok (.newarray .int, 2) := by decide +kernel
theorem dX3_init_25 : decode cX3_init 25 = .ok (.putfield 18, 3) := by decide +kernel
theorem dX3_init_28 : decode cX3_init 28 = .ok (.aload_n 0, 1) := by decide +kernel
theorem dX3_init_29 : decode cX3_init 29 = .ok (.bipush 16, 2) := by decide +kernel
theorem dX3_init_31 : decode cX3_init 31 = .ok (.newarray .int, 2) := by decide +kernel
theorem dX3_init_33 : decode cX3_init 33 = .ok (.putfield 21, 3) := by decide +kernel
theorem dX3_init_36 : decode cX3_init 36 = .ok (.aload_n 0, 1) := by decide +kernel
theorem dX3_init_37 : decode cX3_init 37 = .ok (.bipush 16, 2) := by decide +kernel
theorem dX3_init_39 : decode cX3_init 39 = .ok (.newarray .int, 2) := by decide +kernel
theorem dX3_init_41 : decode cX3_init 41 = .ok (.putfield 24, 3) := by decide +kernel
theorem dX3_init_44 : decode cX3_init 44 = .ok (.aload_n 0, 1) := by decide +kernel
theorem dX3_init_45 : decode cX3_init 45 = .ok (.bipush 16, 2) := by decide +kernel
theorem dX3_init_47 : decode cX3_init 47 = .ok (.newarray .int, 2) := by decide +kernel
theorem dX3_init_49 : decode cX3_init 49 = .ok (.putfield 27, 3) := by decide +kernel
theorem dX3_init_52 : decode cX3_init 52 = .ok (.aload_n 0, 1) := by decide +kernel
theorem dX3_init_53 : decode cX3_init 53 = .ok (.bipush 16, 2) := by decide +kernel
theorem dX3_init_55 : decode cX3_init 55 = .ok (.newarray .int, 2) := by decide +kernel
theorem dX3_init_57 : decode cX3_init 57 = .ok (.putfield 30, 3) := by decide +kernel
theorem dX3_init_60 : decode cX3_init 60 = .ok (.aload_n 0, 1) := by decide +kernel
theorem dX3_init_61 : decode cX3_init 61 = .ok (.bipush 16, 2) := by decide +kernel
theorem dX3_init_63 : decode cX3_init 63 = .ok (.newarray .int, 2) := by decide +kernel
theorem dX3_init_65 : decode cX3_init 65 = .ok (.putfield 33, 3) := by decide +kernel
theorem dX3_init_68 : decode cX3_init 68 = .ok (.iconst 0, 1) := by decide +kernel
theorem dX3_init_69 : decode cX3_init 69 = .ok (.istore_n 1, 1) := by decide +kernel
theorem dX3_init_70 : decode cX3_init 70 = .ok (.iload_n 1, 1) := by decide +kernel
theorem dX3_init_71 : decode cX3_init 71 = .ok (.bipush 6, 2) := by decide +kernel
theorem dX3_init_73 : decode cX3_init 73 = .ok (.if_icmp .ge 29, 3) := by decide +kernel
theorem dX3_init_76 : decode cX3_init 76 = .ok (.aload_n 0, 1) := by decide +kernel
theorem dX3_init_77 : decode cX3_init 77 = .ok (.getfield 9, 3) := by decide +kernel
theorem dX3_init_80 : decode cX3_init 80 = .ok (.iload_n 1, 1) := by decide +kernel
theorem dX3_init_81 : decode cX3_init 81 = .ok (.bipush 30, 2) := by decide +kernel
theorem dX3_init_83 : decode cX3_init 83 = .ok (.iastore, 1) := by decide +kernel
theorem dX3_init_84 : decode cX3_init 84 = .ok (.aload_n 0, 1) := by decide +kernel
theorem dX3_init_85 : decode cX3_init 85 = .ok (.getfield 15, 3) := by decide +kernel
theorem dX3_init_88 : decode cX3_init 88 = .ok (.iload_n 1, 1) := by decide +kernel
theorem dX3_init_89 : decode cX3_init 89 = .ok (.bipush 10, 2) := by decide +kernel
theorem dX3_init_91 : decode cX3_init 91 = .ok (.iload_n 1, 1) := by decide +kernel
theorem dX3_init_92 : decode cX3_init 92 = .ok (.iconst 1, 1) := by decide +kernel
theorem dX3_init_93 : decode cX3_init 93 = .ok (.iadd, 1) := by decide +kernel
theorem dX3_init_94 : decode cX3_init 94 = .ok (.imul, 1) := by decide +kernel
theorem dX3_init_95 : decode cX3_init 95 = .ok (.iastore, 1) := by decide +kernel
theorem dX3_init_96 : decode cX3_init 96 = .ok (.iinc 1 1, 3) := by decide +kernel
theorem dX3_init_99 : decode cX3_init 99 = .ok (.goto (-29), 3) := by decide +kernel
theorem dX3_init_102 : decode cX3_init 102 = .ok (.return_, 1) := by decide +kernel
theorem dX3_copyFrom_0 : decode cX3_copyFrom 0 = .ok (.aload_n 1, 1) := by decide +kernel
theorem dX3_copyFrom_1 : decode cX3_copyFrom 1 = .ok (.getfield 9, 3) := by decide +kernel
theorem dX3_copyFrom_4 : decode cX3_copyFrom 4 = .ok (.iconst 0, 1) := by decide +kernel
theorem dX3_copyFrom_5 : decode cX3_copyFrom 5 = .ok (.aload_n 0, 1) := by decide +kernel
theorem dX3_copyFrom_6 : decode cX3_copyFrom 6 = .ok (.getfield 9, 3) := by decide +kernel
theorem dX3_copyFrom_9 : decode cX3_copyFrom 9 = .ok (.iconst 0, 1) := by decide +kernel
theorem dX3_copyFrom_10 : decode cX3_copyFrom 10 = .ok (.bipush 6, 2) := by decide +kernel
theorem dX3_copyFrom_12 : decode cX3_copyFrom 12 = .ok (.invokestatic 36, 3) := by decide +kernel
theorem dX3_copyFrom_15 : decode cX3_copyFrom 15 = .ok (.aload_n 1, 1) := by decide +kernel
theorem dX3_copyFrom_16 : decode cX3_copyFrom 16 = .ok (.getfield 15, 3) := by decide +kernel
theorem dX3_copyFrom_19 : decode cX3_copyFrom 19 = .ok (.iconst 0, 1) := by decide +kernel
theorem dX3_copyFrom_20 : decode cX3_copyFrom 20 = .ok (.aload_n 0, 1) := by decide +kernel
theorem dX3_copyFrom_21 : decode cX3_copyFrom 21 = .ok (.getfield 15, 3) := by decide +kernel
theorem dX3_copyFrom_24 : decode cX3_copyFrom 24 = .ok (.iconst 0, 1) := by decide +kernel
theorem dX3_copyFrom_25 : decode cX3_copyFrom 25 = .ok (.bipush 6, 2) := by decide +kernel
theorem dX3_copyFrom_27 : decode cX3_copyFrom 27 = .ok (.invokestatic 36, 3) := by decide +kernel
theorem dX3_copyFrom_30 : decode cX3_copyFrom 30 = .ok (.aload_n 1, 1) := by decide +kernel
theorem dX3_copyFrom_31 : decode cX3_copyFrom 31 = .ok (.getfield 18, 3) := by decide +kernel
theorem dX3_copyFrom_34 : decode cX3_copyFrom 34 = .ok (.iconst 0, 1) := by decide +kernel
theorem dX3_copyFrom_35 : decode cX3_copyFrom 35 = .ok (.aload_n 0, 1) := by decide +kernel
theorem dX3_copyFrom_36 : decode cX3_copyFrom 36 = .ok (.getfield 18, 3) := by decide +kernel
theorem dX3_copyFrom_39 : decode cX3_copyFrom 39 = .ok (.iconst 0, 1) := by decide +kernel
theorem dX3_copyFrom_40 : decode cX3_copyFrom 40 = .ok (.bipush 6, 2) := by decide +kernel
theorem dX3_copyFrom_42 : decode cX3_copyFrom 42 = .ok (.invokestatic 36, 3) := by decide +kernel
theorem dX3_copyFrom_45 : decode cX3_copyFrom 45 = .ok (.aload_n 1, 1) := by decide +kernel
theorem dX3_copyFrom_46 : decode cX3_copyFrom 46 = .ok (.getfield 21, 3) := by decide +kernel
theorem dX3_copyFrom_49 : decode cX3_copyFrom 49 = .ok (.iconst 0, 1) := by decide +kernel
theorem dX3_copyFrom_50 : decode cX3_copyFrom 50 = .ok (.aload_n 0, 1) := by decide +kernel
theorem dX3_copyFrom_51 : decode cX3_copyFrom 51 = .ok (.getfield 21, 3) := by decide +kernel
theorem dX3_copyFrom_54 : decode cX3_copyFrom 54 = .ok (.iconst 0, 1) := by decide +kernel
theorem dX3_copyFrom_55 : decode cX3_copyFrom 55 = .ok (.bipush 16, 2) := by decide +kernel
theorem dX3_copyFrom_57 : decode cX3_copyFrom 57 = .ok (.invokestatic 36, 3) := by decide +kernel
theorem dX3_copyFrom_60 : decode cX3_copyFrom 60 = .ok (.aload_n 1, 1) := by decide +kernel
theorem dX3_copyFrom_61 : decode cX3_copyFrom 61 = .ok (.getfield 24, 3) := by decide +kernel
theorem dX3_copyFrom_64 : decode cX3_copyFrom 64 = .ok (.iconst 0, 1) := by decide +kernel
theorem dX3_copyFrom_65 : decode cX3_copyFrom 65 = .ok (.aload_n 0, 1) := by decide +kernel
theorem dX3_copyFrom_66 : decode cX3_copyFrom 66 = .ok (.getfield 24, 3) := by decide +kernel
theorem dX3_copyFrom_69 : decode cX3_copyFrom 69 = .ok (.iconst 0, 1) := by decide +kernel
theorem dX3_copyFrom_70 : decode cX3_copyFrom 70 = .ok (.bipush 16, 2) := by decide +kernel
theorem dX3_copyFrom_72 : decode cX3_copyFrom 72 = .ok (.invokestatic 36, 3) := by decide +kernel
theorem dX3_copyFrom_75 : decode cX3_copyFrom 75 = .ok (.aload_n 1, 1) := by decide +kernel
theorem dX3_copyFrom_76 : decode cX3_copyFrom 76 = .ok (.getfield 27, 3) := by decide +kernel
theorem dX3_copyFrom_79 : decode cX3_copyFrom 79 = .ok (.iconst 0, 1) := by decide +kernel
theorem dX3_copyFrom_80 : decode cX3_copyFrom 80 = .ok (.aload_n 0, 1) := by decide +kernel
theorem dX3_copyFrom_81 : decode cX3_copyFrom 81 = .ok (.getfield 27, 3) := by decide +kernel
theorem dX3_copyFrom_84 : decode cX3_copyFrom 84 = .ok (.iconst 0, 1) := by decide +kernel
theorem dX3_copyFrom_85 : decode cX3_copyFrom 85 = .ok (.bipush 16, 2) := by decide +kernel
theorem dX3_copyFrom_87 : decode cX3_copyFrom 87 = .ok (.invokestatic 36, 3) := by decide +kernel
theorem dX3_copyFrom_90 : decode cX3_copyFrom 90 = .ok (.aload_n 1, 1) := by decide +kernel
theorem dX3_copyFrom_91 : decode cX3_copyFrom 91 = .ok (.getfield 30, 3) := by decide +kernel
theorem dX3_copyFrom_94 : decode cX3_copyFrom 94 = .ok (.iconst 0, 1) := by decide +kernel
theorem dX3_copyFrom_95 : decode cX3_copyFrom 95 = .ok (.aload_n 0, 1) := by decide +kernel
theorem dX3_copyFrom_96 : decode cX3_copyFrom 96 = .ok (.getfield 30, 3) := by decide +kernel
theorem dX3_copyFrom_99 : decode cX3_copyFrom 99 = .ok (.iconst 0, 1) := by decide +kernel
theorem dX3_copyFrom_100 : decode cX3_copyFrom 100 = .ok (.bipush 16, 2) := by decide +kernel
theorem dX3_copyFrom_102 : decode cX3_copyFrom 102 = .ok (.invokestatic 36, 3) := by decide +kernel
theorem dX3_copyFrom_105 : decode cX3_copyFrom 105 = .ok (.aload_n 1, 1) := by decide +kernel
theorem dX3_copyFrom_106 : decode cX3_copyFrom 106 = .ok (.getfield 33, 3) := by decide +kernel
theorem dX3_copyFrom_109 : decode cX3_copyFrom 109 = .ok (.iconst 0, 1) := by decide +kernel
theorem dX3_copyFrom_110 : decode cX3_copyFrom 110 = .ok (.aload_n 0, 1) := by decide +kernel
theorem dX3_copyFrom_111 : decode cX3_copyFrom 111 = .ok (.getfield 33, 3) := by decide +kernel
theorem dX3_copyFrom_114 : decode cX3_copyFrom 114 = .ok (.iconst 0, 1) := by decide +kernel
theorem dX3_copyFrom_115 : decode cX3_copyFrom 115 = .ok (.bipush 16, 2) := by decide +kernel
theorem dX3_copyFrom_117 : decode cX3_copyFrom 117 = .ok (.invokestatic 36, 3) := by decide +kernel
theorem dX3_copyFrom_120 : decode cX3_copyFrom 120 = .ok (.aload_n 0, 1) := by decide +kernel
theorem dX3_copyFrom_121 : decode cX3_copyFrom 121 = .ok (.aload_n 1, 1) := by decide +kernel
theorem dX3_copyFrom_122 : decode cX3_copyFrom 122 = .ok (.getfield 42, 3) := by decide +kernel
theorem dX3_copyFrom_125 : decode cX3_copyFrom 125 = .ok (.putfield 42, 3) := by decide +kernel
theorem dX3_copyFrom_128 : decode cX3_copyFrom 128 = .ok (.aload_n 0, 1) := by decide +kernel
theorem dX3_copyFrom_129 : decode cX3_copyFrom 129 = .ok (.aload_n 1, 1) := by decide +kernel
theorem dX3_copyFrom_130 : decode cX3_copyFrom 130 = .ok (.getfield 46, 3) := by decide +kernel
theorem dX3_copyFrom_133 : decode cX3_copyFrom 133 = .ok (.putfield 46, 3) := by decide +kernel
theorem dX3_copyFrom_136 : decode cX3_copyFrom 136 = .ok (.aload_n 0, 1) := by decide +kernel
theorem dX3_copyFrom_137 : decode cX3_copyFrom 137 = .ok (.aload_n 1, 1) := by decide +kernel
theorem dX3_copyFrom_138 : decode cX3_copyFrom 138 = .ok (.getfield 49, 3) := by decide +kernel
theorem dX3_copyFrom_141 : decode cX3_copyFrom 141 = .ok (.putfield 49, 3) := by decide +kernel
theorem dX3_copyFrom_144 : decode cX3_copyFrom 144 = .ok (.return_, 1) := by decide +kernel
theorem dX3_hasRecord_0 : decode cX3_hasRecord 0 = .ok (.iload_n 1, 1) := by decide +kernel
theorem dX3_hasRecord_1 : decode cX3_hasRecord 1 = .ok (.ifCond .lt 15, 3) := by decide +kernel
theorem dX3_hasRecord_4 : decode cX3_hasRecord 4 = .ok (.iload_n 1, 1) := by decide +kernel
theorem dX3_hasRecord_5 : decode cX3_hasRecord 5 = .ok (.aload_n 0, 1) := by decide +kernel
theorem dX3_hasRecord_6 : decode cX3_hasRecord 6 = .ok (.getfield 42, 3) := by decide +kernel
theorem dX3_hasRecord_9 : decode cX3_hasRecord 9 = .ok (.if_icmp .ge 7, 3) := by decide +kernel
theorem dX3_hasRecord_12 : decode cX3_hasRecord 12 = .ok (.iconst 1, 1) := by decide +kernel
theorem dX3_hasRecord_13 : decode cX3_hasRecord 13 = .ok (.goto 4, 3) := by decide +kernel
theorem dX3_hasRecord_16 : decode cX3_hasRecord 16 = .ok (.iconst 0, 1) := by decide +kernel
theorem dX3_hasRecord_17 : decode cX3_hasRecord 17 = .ok (.ireturn, 1) := by decide +kernel
theorem dX3_freeRoom_0 : decode cX3_freeRoom 0 = .ok (.aload_n 0, 1) := by decide +kernel
theorem dX3_freeRoom_1 : decode cX3_freeRoom 1 = .ok (.getfield 9, 3) := by decide +kernel
theorem dX3_freeRoom_4 : decode cX3_freeRoom 4 = .ok (.iload_n 1, 1) := by decide +kernel
theorem dX3_freeRoom_5 : decode cX3_freeRoom 5 = .ok (.iaload, 1) := by decide +kernel
theorem dX3_freeRoom_6 : decode cX3_freeRoom 6 = .ok (.aload_n 0, 1) := by decide +kernel
theorem dX3_freeRoom_7 : decode cX3_freeRoom 7 = .ok (.getfield 18, 3) := by decide +kernel
theorem dX3_freeRoom_10 : decode cX3_freeRoom 10 = .ok (.iload_n 1, 1) := by decide +kernel
theorem dX3_freeRoom_11 : decode cX3_freeRoom 11 = .ok (.iaload, 1) := by decide +kernel
theorem dX3_freeRoom_12 : decode cX3_freeRoom 12 = .ok (.isub, 1) := by decide +kernel
theorem dX3_freeRoom_13 : decode cX3_freeRoom 13 = .ok (.ireturn, 1) := by decide +kernel
theorem dX3_weightOf_0 : decode cX3_weightOf 0 = .ok (.iconst 2, 1) := by decide +kernel
theorem dX3_weightOf_1 : decode cX3_weightOf 1 = .ok (.aload_n 0, 1) := by decide +kernel
theorem dX3_weightOf_2 : decode cX3_weightOf 2 = .ok (.getfield 30, 3) := by decide +kernel
theorem dX3_weightOf_5 : decode cX3_weightOf 5 = .ok (.iload_n 1, 1) := by decide +kernel
theorem dX3_weightOf_6 : decode cX3_weightOf 6 = .ok (.iaload, 1) := by decide +kernel
theorem dX3_weightOf_7 : decode cX3_weightOf 7 = .ok (.imul, 1) := by decide +kernel
theorem dX3_weightOf_8 : decode cX3_weightOf 8 = .ok (.aload_n 0, 1) := by decide +kernel
theorem dX3_weightOf_9 : decode cX3_weightOf 9 = .ok (.getfield 33, 3) := by decide +kernel
theorem dX3_weightOf_12 : decode cX3_weightOf 12 = .ok (.iload_n 1, 1) := by decide +kernel
theorem dX3_weightOf_13 : decode cX3_weightOf 13 = .ok (.iaload, 1) := by decide +kernel
theorem dX3_weightOf_14 : decode cX3_weightOf 14 = .ok (.iadd, 1) := by decide +kernel
theorem dX3_weightOf_15 : decode cX3_weightOf 15 = .ok (.ireturn, 1) := by decide +kernel
theorem dX3_isMisplaced_0 : decode cX3_isMisplaced 0 = .ok (.aload_n 0, 1) := by decide +kernel
theorem dX3_isMisplaced_1 : decode cX3_isMisplaced 1 = .ok (.getfield 24, 3) := by decide +kernel
theorem dX3_isMisplaced_4 : decode cX3_isMisplaced 4 = .ok (.iload_n 1, 1) := by decide +kernel
theorem dX3_isMisplaced_5 : decode cX3_isMisplaced 5 = .ok (.iaload, 1) := by decide +kernel
theorem dX3_isMisplaced_6 : decode cX3_isMisplaced 6 = .ok (.aload_n 0, 1) := by decide +kernel
theorem dX3_isMisplaced_7 : decode cX3_isMisplaced 7 = .ok (.getfield 27, 3) := by decide +kernel
theorem dX3_isMisplaced_10 : decode cX3_isMisplaced 10 = .ok (.iload_n 1, 1) := by decide +kernel
theorem dX3_isMisplaced_11 : decode cX3_isMisplaced 11 = .ok (.iaload, 1) := by decide +kernel
theorem dX3_isMisplaced_12 : decode cX3_isMisplaced 12 = .ok (.if_icmp .eq 7, 3) := by decide +kernel
theorem dX3_isMisplaced_15 : decode cX3_isMisplaced 15 = .ok (.iconst 1, 1) := by decide +kernel
theorem dX3_isMisplaced_16 : decode cX3_isMisplaced 16 = .ok (.goto 4, 3) := by decide +kernel
theorem dX3_isMisplaced_19 : decode cX3_isMisplaced 19 = .ok (.iconst 0, 1) := by decide +kernel
theorem dX3_isMisplaced_20 : decode cX3_isMisplaced 20 = .ok (.ireturn, 1) := by decide +kernel
set_option maxRecDepth 20000 in
theorem ggX3_countMisplaced_X3_isMisplaced : GoodIn wsX3_countMisplaced wsX3_isMisplaced := goodIn_r _ [6, 7, 8, 9, 10, 11, 12, 13, 14, 15, 16, 17, 18, 19] (by decide +kernel) (by decide +kernel)
set_option maxRecDepth 20000 in
theorem gX3_countMisplaced_X3_isMisplaced : GoodIn wsX3_countMisplaced (wsV RX3 52 RX3 yX3_isMisplaced wsX3_isMisplaced) := goodIn_app (goodIn_of _ (by decide +kernel)) ggX3_countMisplaced_X3_isMisplaced
theorem dX3_countMisplaced_0 : decode cX3_countMisplaced 0 = .ok (.iconst 0, 1) := by decide +kernel
theorem dX3_countMisplaced_1 : decode cX3_countMisplaced 1 = .ok (.istore_n 1, 1) := by decide +kernel
theorem dX3_countMisplaced_2 : decode cX3_countMisplaced 2 = .ok (.iconst 0, 1) := by decide +kernel
theorem dX3_countMisplaced_3 : decode cX3_countMisplaced 3 = .ok (.istore_n 2, 1) := by decide +kernel
theorem dX3_countMisplaced_4 : decode cX3_countMisplaced 4 = .ok (.iload_n 2, 1) := by decide +kernel
theorem dX3_countMisplaced_5 : decode cX3_countMisplaced 5 = .ok (.aload_n 0, 1) := by decide +kernel
theorem dX3_countMisplaced_6 : decode cX3_countMisplaced 6 = .ok (.getfield 42, 3) := by decide +kernel
theorem dX3_countMisplaced_9 : decode cX3_countMisplaced 9 = .ok (.if_icmp .ge 20, 3) := by decide +kernel
theorem dX3_countMisplaced_12 : decode cX3_countMisplaced 12 = .ok (.aload_n 0, 1) := by decide +kernel
theorem dX3_countMisplaced_13 : decode cX3_countMisplaced 13 = .ok (.iload_n 2, 1) := by decide +kernel
theorem dX3_countMisplaced_14 : decode cX3_countMisplaced 14 = .ok (.invokevirtual 52, 3) := by decide +kernel
theorem dX3_countMisplaced_17 : decode cX3_countMisplaced 17 = .ok (.ifCond .eq 6, 3) := by decide +kernel
theorem dX3_countMisplaced_20 : decode cX3_countMisplaced 20 = .ok (.iinc 1 1, 3) := by decide +kernel
theorem dX3_countMisplaced_23 : decode cX3_countMisplaced 23 = .ok (.iinc 2 1, 3) := by decide +kernel
theorem dX3_countMisplaced_26 : decode cX3_countMisplaced 26 = .ok (.goto (-22), 3) := by decide +kernel
theorem dX3_countMisplaced_29 : decode cX3_countMisplaced 29 = .ok (.iload_n 1, 1) := by decide +kernel
theorem dX3_countMisplaced_30 : decode cX3_countMisplaced 30 = .ok (.ireturn, 1) := by decide +kernel
set_option maxRecDepth 20000 in
theorem ggX3_totalCost_X3_weightOf : GoodIn wsX3_totalCost wsX3_weightOf := goodIn_r _ [8, 9, 10, 11, 12, 13, 14, 15, 16, 17, 18, 19, 20, 21] (by decide +kernel) (by decide +kernel)
set_option maxRecDepth 20000 in
theorem gX3_totalCost_X3_weightOf : GoodIn wsX3_totalCost (wsV RX3 56 RX3 yX3_weightOf wsX3_weightOf) := goodIn_app (goodIn_of _ (by decide +kernel)) ggX3_totalCost_X3_weightOf
theorem dX3_totalCost_0 : decode cX3_totalCost 0 = .ok (.iconst 0, 1) := by decide +kernel
theorem dX3_totalCost_1 : decode cX3_totalCost 1 = .ok (.istore_n 1, 1) := by decide +kernel
theorem dX3_totalCost_2 : decode cX3_totalCost 2 = .ok (.iconst 0, 1) := by decide +kernel
theorem dX3_totalCost_3 : decode cX3_totalCost 3 = .ok (.istore_n 2, 1) := by decide +kernel
theorem dX3_totalCost_4 : decode cX3_totalCost 4 = .ok (.iload_n 2, 1) := by decide +kernel
theorem dX3_totalCost_5 : decode cX3_totalCost 5 = .ok (.aload_n 0, 1) := by decide +kernel
theorem dX3_totalCost_6 : decode cX3_totalCost 6 = .ok (.getfield 42, 3) := by decide +kernel
theorem dX3_totalCost_9 : decode cX3_totalCost 9 = .ok (.if_icmp .ge 29, 3) := by decide +kernel
theorem dX3_totalCost_12 : decode cX3_totalCost 12 = .ok (.iload_n 1, 1) := by decide +kernel
theorem dX3_totalCost_13 : decode cX3_totalCost 13 = .ok (.aload_n 0, 1) := by decide +kernel
theorem dX3_totalCost_14 : decode cX3_totalCost 14 = .ok (.iload_n 2, 1) := by decide +kernel
theorem dX3_totalCost_15 : decode cX3_totalCost 15 = .ok (.invokevirtual 56, 3) := by decide +kernel
theorem dX3_totalCost_18 : decode cX3_totalCost 18 = .ok (.aload_n 0, 1) := by decide +kernel
theorem dX3_totalCost_19 : decode cX3_totalCost 19 = .ok (.getfield 15, 3) := by decide +kernel
theorem dX3_totalCost_22 : decode cX3_totalCost 22 = .ok (.aload_n 0, 1) := by decide +kernel
theorem dX3_totalCost_23 : decode cX3_totalCost 23 = .ok (.getfield 27, 3) := by decide +kernel
theorem dX3_totalCost_26 : decode cX3_totalCost 26 = .ok (.iload_n 2, 1) := by decide +kernel
theorem dX3_totalCost_27 : decode cX3_totalCost 27 = .ok (.iaload, 1) := by decide +kernel
theorem dX3_totalCost_28 : decode cX3_totalCost 28 = .ok (.iaload, 1) := by decide +kernel
theorem dX3_totalCost_29 : decode cX3_totalCost 29 = .ok (.imul, 1) := by decide +kernel
theorem dX3_totalCost_30 : decode cX3_totalCost 30 = .ok (.iadd, 1) := by decide +kernel
theorem dX3_totalCost_31 : decode cX3_totalCost 31 = .ok (.istore_n 1, 1) := by decide +kernel
theorem dX3_totalCost_32 : decode cX3_totalCost 32 = .ok (.iinc 2 1, 3) := by decide +kernel
theorem dX3_totalCost_35 : decode cX3_totalCost 35 = .ok (.goto (-31), 3) := by decide +kernel
theorem dX3_totalCost_38 : decode cX3_totalCost 38 = .ok (.iload_n 1, 1) := by decide +kernel
theorem dX3_totalCost_39 : decode cX3_totalCost 39 = .ok (.ireturn, 1) := by decide +kernel
set_option maxRecDepth 20000 in
theorem ggX3_canTakeIn_X3_freeRoom : GoodIn wsX3_canTakeIn wsX3_freeRoom := goodIn_r _ [6, 7, 8, 9, 10, 11, 12, 13, 14, 15, 16, 17, 18, 19] (by decide +kernel) (by decide +kernel)
set_option maxRecDepth 20000 in
theorem gX3_canTakeIn_X3_freeRoom : GoodIn wsX3_canTakeIn (wsV RX3 60 RX3 yX3_freeRoom wsX3_freeRoom) := goodIn_app (goodIn_of _ (by decide +kernel)) ggX3_canTakeIn_X3_freeRoom
theorem dX3_canTakeIn_0 : decode cX3_canTakeIn 0 = .ok (.aload_n 0, 1) := by decide +kernel
theorem dX3_canTakeIn_1 : decode cX3_canTakeIn 1 = .ok (.getfield 42, 3) := by decide +kernel
theorem dX3_canTakeIn_4 : decode cX3_canTakeIn 4 = .ok (.bipush 16, 2) := by decide +kernel
theorem dX3_canTakeIn_6 : decode cX3_canTakeIn 6 = .ok (.if_icmp .ge 16, 3) := by decide +kernel
theorem dX3_canTakeIn_9 : decode cX3_canTakeIn 9 = .ok (.aload_n 0, 1) := by decide +kernel
theorem dX3_canTakeIn_10 : decode cX3_canTakeIn 10 = .ok (.iload_n 2, 1) := by decide +kernel
theorem dX3_canTakeIn_11 : decode cX3_canTakeIn 11 = .ok (.invokevirtual 60, 3) := by decide +kernel
theorem dX3_canTakeIn_14 : decode cX3_canTakeIn 14 = .ok (.iload_n 1, 1) := by decide +kernel
theorem dX3_canTakeIn_15 : decode cX3_canTakeIn 15 = .ok (.if_icmp .lt 7, 3) := by decide +kernel
theorem dX3_canTakeIn_18 : decode cX3_canTakeIn 18 = .ok (.iconst 1, 1) := by decide +kernel
theorem dX3_canTakeIn_19 : decode cX3_canTakeIn 19 = .ok (.goto 4, 3) := by decide +kernel
theorem dX3_canTakeIn_22 : decode cX3_canTakeIn 22 = .ok (.iconst 0, 1) := by decide +kernel
theorem dX3_canTakeIn_23 : decode cX3_canTakeIn 23 = .ok (.ireturn, 1) := by decide +kernel
theorem dX3_takeIn_0 : decode cX3_takeIn 0 = .ok (.aload_n 0, 1) := by decide +kernel
theorem dX3_takeIn_1 : decode cX3_takeIn 1 = .ok (.getfield 42, 3) := by decide +kernel
theorem dX3_takeIn_4 : decode cX3_takeIn 4 = .ok (.istore_n 3, 1) := by decide +kernel
theorem dX3_takeIn_5 : decode cX3_takeIn 5 = .ok (.aload_n 0, 1) := by decide +kernel
theorem dX3_takeIn_6 : decode cX3_takeIn 6 = .ok (.dup, 1) := by decide +kernel
theorem dX3_takeIn_7 : decode cX3_takeIn 7 = .ok (.getfield 42, 3) := by decide +kernel
theorem dX3_takeIn_10 : decode cX3_takeIn 10 = .ok (.iconst 1, 1) := by decide +kernel
theorem dX3_takeIn_11 : decode cX3_takeIn 11 = .ok (.iadd, 1) := by decide +kernel
theorem dX3_takeIn_12 : decode cX3_takeIn 12 = .ok (.putfield 42, 3) := by decide +kernel
theorem dX3_takeIn_15 : decode cX3_takeIn 15 = .ok (.aload_n 0, 1) := by decide +kernel
theorem dX3_takeIn_16 : decode cX3_takeIn 16 = .ok (.getfield 21, 3) := by decide +kernel
theorem dX3_takeIn_19 : decode cX3_takeIn 19 = .ok (.iload_n 3, 1) := by decide +kernel
theorem dX3_takeIn_20 : decode cX3_takeIn 20 = .ok (.iload_n 1, 1) := by decide +kernel
theorem dX3_takeIn_21 : decode cX3_takeIn 21 = .ok (.iastore, 1) := by decide +kernel
theorem dX3_takeIn_22 : decode cX3_takeIn 22 = .ok (.aload_n 0, 1) := by decide +kernel
theorem dX3_takeIn_23 : decode cX3_takeIn 23 = .ok (.getfield 24, 3) := by decide +kernel
theorem dX3_takeIn_26 : decode cX3_takeIn 26 = .ok (.iload_n 3, 1) := by decide +kernel
theorem dX3_takeIn_27 : decode cX3_takeIn 27 = .ok (.iload_n 2, 1) := by decide +kernel
theorem dX3_takeIn_28 : decode cX3_takeIn 28 = .ok (.iastore, 1) := by decide +kernel
theorem dX3_takeIn_29 : decode cX3_takeIn 29 = .ok (.aload_n 0, 1) := by decide +kernel
theorem dX3_takeIn_30 : decode cX3_takeIn 30 = .ok (.getfield 27, 3) := by decide +kernel
theorem dX3_takeIn_33 : decode cX3_takeIn 33 = .ok (.iload_n 3, 1) := by decide +kernel
theorem dX3_takeIn_34 : decode cX3_takeIn 34 = .ok (.iload_n 2, 1) := by decide +kernel
theorem dX3_takeIn_35 : decode cX3_takeIn 35 = .ok (.iastore, 1) := by decide +kernel
theorem dX3_takeIn_36 : decode cX3_takeIn 36 = .ok (.aload_n 0, 1) := by decide +kernel
theorem dX3_takeIn_37 : decode cX3_takeIn 37 = .ok (.getfield 30, 3) := by decide +kernel
theorem dX3_takeIn_40 : decode cX3_takeIn 40 = .ok (.iload_n 3, 1) := by decide +kernel
theorem dX3_takeIn_41 : decode cX3_takeIn 41 = .ok (.iconst 0, 1) := by decide +kernel
theorem dX3_takeIn_42 : decode cX3_takeIn 42 = .ok (.iastore, 1) := by decide +kernel
theorem dX3_takeIn_43 : decode cX3_takeIn 43 = .ok (.aload_n 0, 1) := by decide +kernel
theorem dX3_takeIn_44 : decode cX3_takeIn 44 = .ok (.getfield 33, 3) := by decide +kernel
theorem dX3_takeIn_47 : decode cX3_takeIn 47 = .ok (.iload_n 3, 1) := by decide +kernel
theorem dX3_takeIn_48 : decode cX3_takeIn 48 = .ok (.iconst 0, 1) := by decide +kernel
theorem dX3_takeIn_49 : decode cX3_takeIn 49 = .ok (.iastore, 1) := by decide +kernel
theorem dX3_takeIn_50 : decode cX3_takeIn 50 = .ok (.aload_n 0, 1) := by decide +kernel
theorem dX3_takeIn_51 : decode cX3_takeIn 51 = .ok (.getfield 18, 3) := by decide +kernel
theorem dX3_takeIn_54 : decode cX3_takeIn 54 = .ok (.iload_n 2, 1) := by decide +kernel
theorem dX3_takeIn_55 : decode cX3_takeIn 55 = .ok (.dup2, 1) := by decide +kernel
theorem dX3_takeIn_56 : decode cX3_takeIn 56 = .ok (.iaload, 1) := by decide +kernel
theorem dX3_takeIn_57 : decode cX3_takeIn 57 = .ok (.iload_n 1, 1) := by decide +kernel
theorem dX3_takeIn_58 : decode cX3_takeIn 58 = .ok (.iadd, 1) := by decide +kernel
theorem dX3_takeIn_59 : decode cX3_takeIn 59 = .ok (.iastore, 1) := by decide +kernel
theorem dX3_takeIn_60 : decode cX3_takeIn 60 = .ok (.iload_n 3, 1) := by decide +kernel
theorem dX3_takeIn_61 : decode cX3_takeIn 61 = .ok (.ireturn, 1) := by decide +kernel
theorem dX3_takeOut_0 : decode cX3_takeOut 0 = .ok (.aload_n 0, 1) := by decide +kernel
theorem dX3_takeOut_1 : decode cX3_takeOut 1 = .ok (.getfield 24, 3) := by decide +kernel
theorem dX3_takeOut_4 : decode cX3_takeOut 4 = .ok (.iload_n 1, 1) := by decide +kernel
theorem dX3_takeOut_5 : decode cX3_takeOut 5 = .ok (.iaload, 1) := by decide +kernel
theorem dX3_takeOut_6 : decode cX3_takeOut 6 = .ok (.istore_n 2, 1) := by decide +kernel
theorem dX3_takeOut_7 : decode cX3_takeOut 7 = .ok (.aload_n 0, 1) := by decide +kernel
theorem dX3_takeOut_8 : decode cX3_takeOut 8 = .ok (.getfield 18, 3) := by decide +kernel
theorem dX3_takeOut_11 : decode cX3_takeOut 11 = .ok (.iload_n 2, 1) := by decide +kernel
theorem dX3_takeOut_12 : decode cX3_takeOut 12 = .ok (.dup2, 1) := by decide +kernel
theorem dX3_takeOut_13 : decode cX3_takeOut 13 = .ok (.iaload, 1) := by decide +kernel
theorem dX3_takeOut_14 : decode cX3_takeOut 14 = .ok (.aload_n 0, 1) := by decide +kernel
theorem dX3_takeOut_15 : decode cX3_takeOut 15 = .ok (.getfield 21, 3) := by decide +kernel
theorem dX3_takeOut_18 : decode cX3_takeOut 18 = .ok (.iload_n 1, 1) := by decide +kernel
theorem dX3_takeOut_19 : decode cX3_takeOut 19 = .ok (.iaload, 1) := by decide +kernel
theorem dX3_takeOut_20 : decode cX3_takeOut 20 = .ok (.isub, 1) := by decide +kernel
theorem dX3_takeOut_21 : decode cX3_takeOut 21 = .ok (.iastore, 1) := by decide +kernel
theorem dX3_takeOut_22 : decode cX3_takeOut 22 = .ok (.aload_n 0, 1) := by decide +kernel
theorem dX3_takeOut_23 : decode cX3_takeOut 23 = .ok (.dup, 1) := by decide +kernel
theorem dX3_takeOut_24 : decode cX3_takeOut 24 = .ok (.getfield 42, 3) := by decide +kernel
theorem dX3_takeOut_27 : decode cX3_takeOut 27 = .ok (.iconst 1, 1) := by decide +kernel
theorem dX3_takeOut_28 : decode cX3_takeOut 28 = .ok (.isub, 1) := by decide +kernel
theorem dX3_takeOut_29 : decode cX3_takeOut 29 = .ok (.putfield 42, 3) := by decide +kernel
theorem dX3_takeOut_32 : decode cX3_takeOut 32 = .ok (.iload_n 1, 1) := by decide +kernel
theorem dX3_takeOut_33 : decode cX3_takeOut 33 = .ok (.istore_n 3, 1) := by decide +kernel
theorem dX3_takeOut_34 : decode cX3_takeOut 34 = .ok (.iload_n 3, 1) := by decide +kernel
theorem dX3_takeOut_35 : decode cX3_takeOut 35 = .ok (.aload_n 0, 1) := by decide +kernel
theorem dX3_takeOut_36 : decode cX3_takeOut 36 = .ok (.getfield 42, 3) := by decide +kernel
theorem dX3_takeOut_39 : decode cX3_takeOut 39 = .ok (.if_icmp .ge 79, 3) := by decide +kernel
theorem dX3_takeOut_42 : decode cX3_takeOut 42 = .ok (.aload_n 0, 1) := by decide +kernel
theorem dX3_takeOut_43 : decode cX3_takeOut 43 = .ok (.getfield 21, 3) := by decide +kernel
theorem dX3_takeOut_46 : decode cX3_takeOut 46 = .ok (.iload_n 3, 1) := by decide +kernel
theorem dX3_takeOut_47 : decode cX3_takeOut 47 = .ok (.aload_n 0, 1) := by decide +kernel
theorem dX3_takeOut_48 : decode cX3_takeOut 48 = .ok (.getfield 21, 3) := by decide +kernel
theorem dX3_takeOut_51 : decode cX3_takeOut 51 = .ok (.iload_n 3, 1) := by decide +kernel
theorem dX3_takeOut_52 : decode cX3_takeOut 52 = .ok (.iconst 1, 1) := by decide +kernel
theorem dX3_takeOut_53 : decode cX3_takeOut 53 = .ok (.iadd, 1) := by decide +kernel
theorem dX3_takeOut_54 : decode cX3_takeOut 54 = .ok (.iaload, 1) := by decide +kernel
theorem dX3_takeOut_55 : decode cX3_takeOut 55 = .ok (.iastore, 1) := by decide +kernel
theorem dX3_takeOut_56 : decode cX3_takeOut 56 = .ok (.aload_n 0, 1) := by decide +kernel
theorem dX3_takeOut_57 : decode cX3_takeOut 57 = .ok (.getfield 24, 3) := by decide +kernel
theorem dX3_takeOut_60 : decode cX3_takeOut 60 = .ok (.iload_n 3, 1) := by decide +kernel
theorem dX3_takeOut_61 : decode cX3_takeOut 61 = .ok (.aload_n 0, 1) := by decide +kernel
theorem dX3_takeOut_62 : decode cX3_takeOut 62 = .ok (.getfield 24, 3) := by decide +kernel
theorem dX3_takeOut_65 : decode cX3_takeOut 65 = .ok (.iload_n 3, 1) := by decide +kernel
theorem dX3_takeOut_66 : decode cX3_takeOut 66 = .ok (.iconst 1, 1) := by decide +kernel
theorem dX3_takeOut_67 : decode cX3_takeOut 67 = .ok (.iadd, 1) := by decide +kernel
theorem dX3_takeOut_68 : decode cX3_takeOut 68 = .ok (.iaload, 1) := by decide +kernel
theorem dX3_takeOut_69 : decode cX3_takeOut 69 = .ok (.iastore, 1) := by decide +kernel
theorem dX3_takeOut_70 : decode cX3_takeOut 70 = .ok (.aload_n 0, 1) := by decide +kernel
theorem dX3_takeOut_71 : decode cX3_takeOut 71 = .ok (.getfield 27, 3) := by decide +kernel
theorem dX3_takeOut_74 : decode cX3_takeOut 74 = .ok (.iload_n 3, 1) := by decide +kernel
theorem dX3_takeOut_75 : decode cX3_takeOut 75 = .ok (.aload_n 0, 1) := by decide +kernel
theorem dX3_takeOut_76 : decode cX3_takeOut 76 = .ok (.getfield 27, 3) := by decide +kernel
theorem dX3_takeOut_79 : decode cX3_takeOut 79 = .ok (.iload_n 3, 1) := by decide +kernel
theorem dX3_takeOut_80 : decode cX3_takeOut 80 = .ok (.iconst 1, 1) := by decide +kernel
theorem dX3_takeOut_81 : decode cX3_takeOut 81 = .ok (.iadd, 1) := by decide +kernel
theorem dX3_takeOut_82 : decode cX3_takeOut 82 = .ok (.iaload, 1) := by decide +kernel
theorem dX3_takeOut_83 : decode cX3_takeOut 83 = .ok (.iastore, 1) := by decide +kernel
theorem dX3_takeOut_84 : decode cX3_takeOut 84 = .ok (.aload_n 0, 1) := by decide +kernel
theorem dX3_takeOut_85 : decode cX3_takeOut 85 = .ok (.getfield 30, 3) := by decide +kernel
theorem dX3_takeOut_88 : decode cX3_takeOut 88 = .ok (.iload_n 3, 1) := by decide +kernel
theorem dX3_takeOut_89 : decode cX3_takeOut 89 = .ok (.aload_n 0, 1) := by decide +kernel
theorem dX3_takeOut_90 : decode cX3_takeOut 90 = .ok (.getfield 30, 3) := by decide +kernel
theorem dX3_takeOut_93 : decode cX3_takeOut 93 = .ok (.iload_n 3, 1) := by decide +kernel
theorem dX3_takeOut_94 : decode cX3_takeOut 94 = .ok (.iconst 1, 1) := by decide +kernel
theorem dX3_takeOut_95 : decode cX3_takeOut 95 = .ok (.iadd, 1) := by decide +kernel
theorem dX3_takeOut_96 : decode cX3_takeOut 96 = .ok (.iaload, 1) := by decide +kernel
theorem dX3_takeOut_97 : decode cX3_takeOut 97 = .ok (.iastore, 1) := by decide +kernel
theorem dX3_takeOut_98 : decode cX3_takeOut 98 = .ok (.aload_n 0, 1) := by decide +kernel
theorem dX3_takeOut_99 : decode cX3_takeOut 99 = .ok (.getfield 33, 3) := by decide +kernel
theorem dX3_takeOut_102 : decode cX3_takeOut 102 = .ok (.iload_n 3, 1) := by decide +kernel
theorem dX3_takeOut_103 : decode cX3_takeOut 103 = .ok (.aload_n 0, 1) := by decide +kernel
theorem dX3_takeOut_104 : decode cX3_takeOut 104 = .ok (.getfield 33, 3) := by decide +kernel
theorem dX3_takeOut_107 : decode cX3_takeOut 107 = .ok (.iload_n 3, 1) := by decide +kernel
theorem dX3_takeOut_108 : decode cX3_takeOut 108 = .ok (.iconst 1, 1) := by decide +kernel
theorem dX3_takeOut_109 : decode cX3_takeOut 109 = .ok (.iadd, 1) := by decide +kernel
theorem dX3_takeOut_110 : decode cX3_takeOut 110 = .ok (.iaload, 1) := by decide +kernel
theorem dX3_takeOut_111 : decode cX3_takeOut 111 = .ok (.iastore, 1) := by decide +kernel
theorem dX3_takeOut_112 : decode cX3_takeOut 112 = .ok (.iinc 3 1, 3) := by decide +kernel
theorem dX3_takeOut_115 : decode cX3_takeOut 115 = .ok (.goto (-81), 3) := by decide +kernel
theorem dX3_takeOut_118 : decode cX3_takeOut 118 = .ok (.iload_n 2, 1) := by decide +kernel
theorem dX3_takeOut_119 : decode cX3_takeOut 119 = .ok (.ireturn, 1) := by decide +kernel
set_option maxRecDepth 20000 in
theorem ggX3_canStandOn_X3_freeRoom : GoodIn wsX3_canStandOn wsX3_freeRoom := goodIn_r _ [7, 8, 9, 10, 11, 12, 13, 14, 15, 16, 17, 18, 19, 20] (by decide +kernel) (by decide +kernel)
set_option maxRecDepth 20000 in
theorem gX3_canStandOn_X3_freeRoom : GoodIn wsX3_canStandOn (wsV RX3 60 RX3 yX3_freeRoom wsX3_freeRoom) := goodIn_app (goodIn_of _ (by decide +kernel)) ggX3_canStandOn_X3_freeRoom
theorem dX3_canStandOn_0 : decode cX3_canStandOn 0 = .ok (.aload_n 0, 1) := by decide +kernel
theorem dX3_canStandOn_1 : decode cX3_canStandOn 1 = .ok (.getfield 24, 3) := by decide +kernel
theorem dX3_canStandOn_4 : decode cX3_canStandOn 4 = .ok (.iload_n 1, 1) := by decide +kernel
theorem dX3_canStandOn_5 : decode cX3_canStandOn 5 = .ok (.iaload, 1) := by decide +kernel
theorem dX3_canStandOn_6 : decode cX3_canStandOn 6 = .ok (.iload_n 2, 1) := by decide +kernel
theorem dX3_canStandOn_7 : decode cX3_canStandOn 7 = .ok (.if_icmp .eq 17, 3) := by decide +kernel
theorem dX3_canStandOn_10 : decode cX3_canStandOn 10 = .ok (.aload_n 0, 1) := by decide +kernel
theorem dX3_canStandOn_11 : decode cX3_canStandOn 11 = .ok (.iload_n 2, 1) := by decide +kernel
theorem dX3_canStandOn_12 : decode cX3_canStandOn 12 = .ok (.invokevirtual 60, 3) := by decide +kernel
theorem dX3_canStandOn_15 : decode cX3_canStandOn 15 = .ok (.aload_n 0, 1) := by decide +kernel
theorem dX3_canStandOn_16 : decode cX3_canStandOn 16 = .ok (.getfield 21, 3) := by decide +kernel
theorem dX3_canStandOn_19 : decode cX3_canStandOn 19 = .ok (.iload_n 1, 1) := by decide +kernel
theorem dX3_canStandOn_20 : decode cX3_canStandOn 20 = .ok (.iaload, 1) := by decide +kernel
theorem dX3_canStandOn_21 : decode cX3_canStandOn 21 = .ok (.if_icmp .lt 7, 3) := by decide +kernel
theorem dX3_canStandOn_24 : decode cX3_canStandOn 24 = .ok (.iconst 1, 1) := by decide +kernel
theorem dX3_canStandOn_25 : decode cX3_canStandOn 25 = .ok (.goto 4, 3) := by decide +kernel
theorem dX3_canStandOn_28 : decode cX3_canStandOn 28 = .ok (.iconst 0, 1) := by decide +kernel
theorem dX3_canStandOn_29 : decode cX3_canStandOn 29 = .ok (.ireturn, 1) := by decide +kernel
theorem dX3_putOn_0 : decode cX3_putOn 0 = .ok (.aload_n 0, 1) := by decide +kernel
theorem dX3_putOn_1 : decode cX3_putOn 1 = .ok (.getfield 24, 3) := by decide +kernel
theorem dX3_putOn_4 : decode cX3_putOn 4 = .ok (.iload_n 1, 1) := by decide +kernel
theorem dX3_putOn_5 : decode cX3_putOn 5 = .ok (.iaload, 1) := by decide +kernel
theorem dX3_putOn_6 : decode cX3_putOn 6 = .ok (.istore_n 3, 1) := by decide +kernel
theorem dX3_putOn_7 : decode cX3_putOn 7 = .ok (.aload_n 0, 1) := by decide +kernel
theorem dX3_putOn_8 : decode cX3_putOn 8 = .ok (.getfield 18, 3) := by decide +kernel
theorem dX3_putOn_11 : decode cX3_putOn 11 = .ok (.iload_n 3, 1) := by decide +kernel
theorem dX3_putOn_12 : decode cX3_putOn 12 = .ok (.dup2, 1) := by decide +kernel
theorem dX3_putOn_13 : decode cX3_putOn 13 = .ok (.iaload, 1) := by decide +kernel
theorem dX3_putOn_14 : decode cX3_putOn 14 = .ok (.aload_n 0, 1) := by decide +kernel
theorem dX3_putOn_15 : decode cX3_putOn 15 = .ok (.getfield 21, 3) := by decide +kernel
theorem dX3_putOn_18 : decode cX3_putOn 18 = .ok (.iload_n 1, 1) := by decide +kernel
theorem dX3_putOn_19 : decode cX3_putOn 19 = .ok (.iaload, 1) := by decide +kernel
theorem dX3_putOn_20 : decode cX3_putOn 20 = .ok (.isub, 1) := by decide +kernel
theorem dX3_putOn_21 : decode cX3_putOn 21 = .ok (.iastore, 1) := by decide +kernel
theorem dX3_putOn_22 : decode cX3_putOn 22 = .ok (.aload_n 0, 1) := by decide +kernel
theorem dX3_putOn_23 : decode cX3_putOn 23 = .ok (.getfield 18, 3) := by decide +kernel
theorem dX3_putOn_26 : decode cX3_putOn 26 = .ok (.iload_n 2, 1) := by decide +kernel
theorem dX3_putOn_27 : decode cX3_putOn 27 = .ok (.dup2, 1) := by decide +kernel
theorem dX3_putOn_28 : decode cX3_putOn 28 = .ok (.iaload, 1) := by decide +kernel
theorem dX3_putOn_29 : decode cX3_putOn 29 = .ok (.aload_n 0, 1) := by decide +kernel
theorem dX3_putOn_30 : decode cX3_putOn 30 = .ok (.getfield 21, 3) := by decide +kernel
theorem dX3_putOn_33 : decode cX3_putOn 33 = .ok (.iload_n 1, 1) := by decide +kernel
theorem dX3_putOn_34 : decode cX3_putOn 34 = .ok (.iaload, 1) := by decide +kernel
theorem dX3_putOn_35 : decode cX3_putOn 35 = .ok (.iadd, 1) := by decide +kernel
theorem dX3_putOn_36 : decode cX3_putOn 36 = .ok (.iastore, 1) := by decide +kernel
theorem dX3_putOn_37 : decode cX3_putOn 37 = .ok (.aload_n 0, 1) := by decide +kernel
theorem dX3_putOn_38 : decode cX3_putOn 38 = .ok (.getfield 24, 3) := by decide +kernel
theorem dX3_putOn_41 : decode cX3_putOn 41 = .ok (.iload_n 1, 1) := by decide +kernel
theorem dX3_putOn_42 : decode cX3_putOn 42 = .ok (.iload_n 2, 1) := by decide +kernel
theorem dX3_putOn_43 : decode cX3_putOn 43 = .ok (.iastore, 1) := by decide +kernel
theorem dX3_putOn_44 : decode cX3_putOn 44 = .ok (.iload_n 3, 1) := by decide +kernel
theorem dX3_putOn_45 : decode cX3_putOn 45 = .ok (.ireturn, 1) := by decide +kernel
set_option maxRecDepth 20000 in
theorem ggX3_fetch_X3_walkOf : GoodIn wsX3_fetch wsX3_walkOf := goodIn_r _ [9, 3, 10, 4, 11, 12, 13, 8, 14, 15, 16, 17, 18, 19, 20, 21, 22, 23, 24, 25, 26, 27, 28, 29] (by decide +kernel) (by decide +kernel)
set_option maxRecDepth 20000 in
theorem gX3_fetch_X3_walkOf : GoodIn wsX3_fetch (wsV RX3 63 RX3 yX3_walkOf wsX3_walkOf) := goodIn_app (goodIn_of _ (by decide +kernel)) ggX3_fetch_X3_walkOf
theorem dX3_fetch_0 : decode cX3_fetch 0 = .ok (.aload_n 0, 1) := by decide +kernel
theorem dX3_fetch_1 : decode cX3_fetch 1 = .ok (.iload_n 1, 1) := by decide +kernel
theorem dX3_fetch_2 : decode cX3_fetch 2 = .ok (.invokevirtual 63, 3) := by decide +kernel
theorem dX3_fetch_5 : decode cX3_fetch 5 = .ok (.istore_n 2, 1) := by decide +kernel
theorem dX3_fetch_6 : decode cX3_fetch 6 = .ok (.aload_n 0, 1) := by decide +kernel
theorem dX3_fetch_7 : decode cX3_fetch 7 = .ok (.getfield 30, 3) := by decide +kernel
theorem dX3_fetch_10 : decode cX3_fetch 10 = .ok (.iload_n 1, 1) := by decide +kernel
theorem dX3_fetch_11 : decode cX3_fetch 11 = .ok (.dup2, 1) := by decide +kernel
theorem dX3_fetch_12 : decode cX3_fetch 12 = .ok (.iaload, 1) := by decide +kernel
theorem dX3_fetch_13 : decode cX3_fetch 13 = .ok (.iconst 1, 1) := by decide +kernel
theorem dX3_fetch_14 : decode cX3_fetch 14 = .ok (.iadd, 1) := by decide +kernel
theorem dX3_fetch_15 : decode cX3_fetch 15 = .ok (.iastore, 1) := by decide +kernel
theorem dX3_fetch_16 : decode cX3_fetch 16 = .ok (.aload_n 0, 1) := by decide +kernel
theorem dX3_fetch_17 : decode cX3_fetch 17 = .ok (.dup, 1) := by decide +kernel
theorem dX3_fetch_18 : decode cX3_fetch 18 = .ok (.getfield 46, 3) := by decide +kernel
theorem dX3_fetch_21 : decode cX3_fetch 21 = .ok (.iload_n 2, 1) := by decide +kernel
theorem dX3_fetch_22 : decode cX3_fetch 22 = .ok (.iadd, 1) := by decide +kernel
theorem dX3_fetch_23 : decode cX3_fetch 23 = .ok (.putfield 46, 3) := by decide +kernel
theorem dX3_fetch_26 : decode cX3_fetch 26 = .ok (.aload_n 0, 1) := by decide +kernel
theorem dX3_fetch_27 : decode cX3_fetch 27 = .ok (.getfield 27, 3) := by decide +kernel
theorem dX3_fetch_30 : decode cX3_fetch 30 = .ok (.iload_n 1, 1) := by decide +kernel
theorem dX3_fetch_31 : decode cX3_fetch 31 = .ok (.aload_n 0, 1) := by decide +kernel
theorem dX3_fetch_32 : decode cX3_fetch 32 = .ok (.getfield 24, 3) := by decide +kernel
theorem dX3_fetch_35 : decode cX3_fetch 35 = .ok (.iload_n 1, 1) := by decide +kernel
theorem dX3_fetch_36 : decode cX3_fetch 36 = .ok (.iaload, 1) := by decide +kernel
theorem dX3_fetch_37 : decode cX3_fetch 37 = .ok (.iastore, 1) := by decide +kernel
theorem dX3_fetch_38 : decode cX3_fetch 38 = .ok (.iload_n 2, 1) := by decide +kernel
theorem dX3_fetch_39 : decode cX3_fetch 39 = .ok (.ireturn, 1) := by decide +kernel
set_option maxRecDepth 20000 in
theorem ggX3_walkOf_X3_isMisplaced : GoodIn wsX3_walkOf wsX3_isMisplaced := goodIn_r _ [8, 3, 1, 13, 14, 15, 16, 17, 18, 19, 20, 21, 22, 23] (by decide +kernel) (by decide +kernel)
set_option maxRecDepth 20000 in
theorem gX3_walkOf_X3_isMisplaced : GoodIn wsX3_walkOf (wsV RX3 52 RX3 yX3_isMisplaced wsX3_isMisplaced) := goodIn_app (goodIn_of _ (by decide +kernel)) ggX3_walkOf_X3_isMisplaced
set_option maxRecDepth 20000 in
theorem ggX3_walkOf_X3_isSearchedBefore : GoodIn wsX3_walkOf wsX3_isSearchedBefore := goodIn_r _ [12, 2, 13, 14, 15, 16, 17, 18, 19, 20, 21, 22, 23] (by decide +kernel) (by decide +kernel)
set_option maxRecDepth 20000 in
theorem gX3_walkOf_X3_isSearchedBefore : GoodIn wsX3_walkOf (wsV RX3 66 RX3 yX3_isSearchedBefore wsX3_isSearchedBefore) := goodIn_app (goodIn_of _ (by decide +kernel)) ggX3_walkOf_X3_isSearchedBefore
theorem dX3_walkOf_0 : decode cX3_walkOf 0 = .ok (.aload_n 0, 1) := by decide +kernel
theorem dX3_walkOf_1 : decode cX3_walkOf 1 = .ok (.getfield 27, 3) := by decide +kernel
theorem dX3_walkOf_4 : decode cX3_walkOf 4 = .ok (.iload_n 1, 1) := by decide +kernel
theorem dX3_walkOf_5 : decode cX3_walkOf 5 = .ok (.iaload, 1) := by decide +kernel
theorem dX3_walkOf_6 : decode cX3_walkOf 6 = .ok (.istore_n 2, 1) := by decide +kernel
theorem dX3_walkOf_7 : decode cX3_walkOf 7 = .ok (.aload_n 0, 1) := by decide +kernel
theorem dX3_walkOf_8 : decode cX3_walkOf 8 = .ok (.getfield 15, 3) := by decide +kernel
theorem dX3_walkOf_11 : decode cX3_walkOf 11 = .ok (.iload_n 2, 1) := by decide +kernel
theorem dX3_walkOf_12 : decode cX3_walkOf 12 = .ok (.iaload, 1) := by decide +kernel
theorem dX3_walkOf_13 : decode cX3_walkOf 13 = .ok (.istore_n 3, 1) := by decide +kernel
theorem dX3_walkOf_14 : decode cX3_walkOf 14 = .ok (.aload_n 0, 1) := by decide +kernel
theorem dX3_walkOf_15 : decode cX3_walkOf 15 = .ok (.iload_n 1, 1) := by decide +kernel
theorem dX3_walkOf_16 : decode cX3_walkOf 16 = .ok (.invokevirtual 52, 3) := by decide +kernel
theorem dX3_walkOf_19 : decode cX3_walkOf 19 = .ok (.ifCond .ne 5, 3) := by decide +kernel
theorem dX3_walkOf_22 : decode cX3_walkOf 22 = .ok (.iload_n 3, 1) := by decide +kernel
theorem dX3_walkOf_23 : decode cX3_walkOf 23 = .ok (.ireturn, 1) := by decide +kernel
theorem dX3_walkOf_24 : decode cX3_walkOf 24 = .ok (.iconst 0, 1) := by decide +kernel
theorem dX3_walkOf_25 : decode cX3_walkOf 25 = .ok (.istore 4, 2) := by decide +kernel
theorem dX3_walkOf_27 : decode cX3_walkOf 27 = .ok (.iload 4, 2) := by decide +kernel
theorem dX3_walkOf_29 : decode cX3_walkOf 29 = .ok (.bipush 6, 2) := by decide +kernel
theorem dX3_walkOf_31 : decode cX3_walkOf 31 = .ok (.if_icmp .ge 40, 3) := by decide +kernel
theorem dX3_walkOf_34 : decode cX3_walkOf 34 = .ok (.iload 4, 2) := by decide +kernel
theorem dX3_walkOf_36 : decode cX3_walkOf 36 = .ok (.iload_n 2, 1) := by decide +kernel
theorem dX3_walkOf_37 : decode cX3_walkOf 37 = .ok (.if_icmp .eq 28, 3) := by decide +kernel
theorem dX3_walkOf_40 : decode cX3_walkOf 40 = .ok (.aload_n 0, 1) := by decide +kernel
theorem dX3_walkOf_41 : decode cX3_walkOf 41 = .ok (.aload_n 0, 1) := by decide +kernel
theorem dX3_walkOf_42 : decode cX3_walkOf 42 = .ok (.getfield 24, 3) := by decide +kernel
theorem dX3_walkOf_45 : decode cX3_walkOf 45 = .ok (.iload_n 1, 1) := by decide +kernel
theorem dX3_walkOf_46 : decode cX3_walkOf 46 = .ok (.iaload, 1) := by decide +kernel
theorem dX3_walkOf_47 : decode cX3_walkOf 47 = .ok (.iload 4, 2) := by decide +kernel
theorem dX3_walkOf_49 : decode cX3_walkOf 49 = .ok (.invokevirtual 66, 3) := by decide +kernel
theorem dX3_walkOf_52 : decode cX3_walkOf 52 = .ok (.ifCond .ne 13, 3) := by decide +kernel
theorem dX3_walkOf_55 : decode cX3_walkOf 55 = .ok (.iload_n 3, 1) := by decide +kernel
theorem dX3_walkOf_56 : decode cX3_walkOf 56 = .ok (.aload_n 0, 1) := by decide +kernel
theorem dX3_walkOf_57 : decode cX3_walkOf 57 = .ok (.getfield 15, 3) := by decide +kernel
theorem dX3_walkOf_60 : decode cX3_walkOf 60 = .ok (.iload 4, 2) := by decide +kernel
theorem dX3_walkOf_62 : decode cX3_walkOf 62 = .ok (.iaload, 1) := by decide +kernel
theorem dX3_walkOf_63 : decode cX3_walkOf 63 = .ok (.iadd, 1) := by decide +kernel
theorem dX3_walkOf_64 : decode cX3_walkOf 64 = .ok (.istore_n 3, 1) := by decide +kernel
theorem dX3_walkOf_65 : decode cX3_walkOf 65 = .ok (.iinc 4 1, 3) := by decide +kernel
theorem dX3_walkOf_68 : decode cX3_walkOf 68 = .ok (.goto (-41), 3) := by decide +kernel
theorem dX3_walkOf_71 : decode cX3_walkOf 71 = .ok (.iload_n 3, 1) := by decide +kernel
theorem dX3_walkOf_72 : decode cX3_walkOf 72 = .ok (.ireturn, 1) := by decide +kernel
theorem dX3_isSearchedBefore_0 : decode cX3_isSearchedBefore 0 = .ok (.aload_n 0, 1) := by decide +kernel
theorem dX3_isSearchedBefore_1 : decode cX3_isSearchedBefore 1 = .ok (.getfield 15, 3) := by decide +kernel
theorem dX3_isSearchedBefore_4 : decode cX3_isSearchedBefore 4 = .ok (.iload_n 1, 1) := by decide +kernel
theorem dX3_isSearchedBefore_5 : decode cX3_isSearchedBefore 5 = .ok (.iaload, 1) := by decide +kernel
theorem dX3_isSearchedBefore_6 : decode cX3_isSearchedBefore 6 = .ok (.aload_n 0, 1) := by decide +kernel
theorem dX3_isSearchedBefore_7 : decode cX3_isSearchedBefore 7 = .ok (.getfield 15, 3) := by decide +kernel
theorem dX3_isSearchedBefore_10 : decode cX3_isSearchedBefore 10 = .ok (.iload_n 2, 1) := by decide +kernel
theorem dX3_isSearchedBefore_11 : decode cX3_isSearchedBefore 11 = .ok (.iaload, 1) := by decide +kernel
theorem dX3_isSearchedBefore_12 : decode cX3_isSearchedBefore 12 = .ok (.if_icmp .lt 23, 3) := by decide +kernel
theorem dX3_isSearchedBefore_15 : decode cX3_isSearchedBefore 15 = .ok (.aload_n 0, 1) := by decide +kernel
theorem dX3_isSearchedBefore_16 : decode cX3_isSearchedBefore 16 = .ok (.getfield 15, 3) := by decide +kernel
theorem dX3_isSearchedBefore_19 : decode cX3_isSearchedBefore 19 = .ok (.iload_n 1, 1) := by decide +kernel
theorem dX3_isSearchedBefore_20 : decode cX3_isSearchedBefore 20 = .ok (.iaload, 1) := by decide +kernel
theorem dX3_isSearchedBefore_21 : decode cX3_isSearchedBefore 21 = .ok (.aload_n 0, 1) := by decide +kernel
theorem dX3_isSearchedBefore_22 : decode cX3_isSearchedBefore 22 = .ok (.getfield 15, 3) := by decide +kernel
theorem dX3_isSearchedBefore_25 : decode cX3_isSearchedBefore 25 = .ok (.iload_n 2, 1) := by decide +kernel
theorem dX3_isSearchedBefore_26 : decode cX3_isSearchedBefore 26 = .ok (.iaload, 1) := by decide +kernel
theorem dX3_isSearchedBefore_27 : decode cX3_isSearchedBefore 27 = .ok (.if_icmp .ne 12, 3) := by decide +kernel
theorem dX3_isSearchedBefore_30 : decode cX3_isSearchedBefore 30 = .ok (.iload_n 1, 1) := by decide +kernel
theorem dX3_isSearchedBefore_31 : decode cX3_isSearchedBefore 31 = .ok (.iload_n 2, 1) := by decide +kernel
theorem dX3_isSearchedBefore_32 : decode cX3_isSearchedBefore 32 = .ok (.if_icmp .ge 7, 3) := by decide +kernel
theorem dX3_isSearchedBefore_35 : decode cX3_isSearchedBefore 35 = .ok (.iconst 1, 1) := by decide +kernel
theorem dX3_isSearchedBefore_36 : decode cX3_isSearchedBefore 36 = .ok (.goto 4, 3) := by decide +kernel
theorem dX3_isSearchedBefore_39 : decode cX3_isSearchedBefore 39 = .ok (.iconst 0, 1) := by decide +kernel
theorem dX3_isSearchedBefore_40 : decode cX3_isSearchedBefore 40 = .ok (.ireturn, 1) := by decide +kernel
theorem dX3_beginMonth_0 : decode cX3_beginMonth 0 = .ok (.iconst 0, 1) := by decide +kernel
theorem dX3_beginMonth_1 : decode cX3_beginMonth 1 = .ok (.istore_n 1, 1) := by decide +kernel
theorem dX3_beginMonth_2 : decode cX3_beginMonth 2 = .ok (.iconst 0, 1) := by decide +kernel
theorem dX3_beginMonth_3 : decode cX3_beginMonth 3 = .ok (.istore_n 2, 1) := by decide +kernel
theorem dX3_beginMonth_4 : decode cX3_beginMonth 4 = .ok (.iload_n 2, 1) := by decide +kernel
theorem dX3_beginMonth_5 : decode cX3_beginMonth 5 = .ok (.aload_n 0, 1) := by decide +kernel
theorem dX3_beginMonth_6 : decode cX3_beginMonth 6 = .ok (.getfield 42, 3) := by decide +kernel
theorem dX3_beginMonth_9 : decode cX3_beginMonth 9 = .ok (.if_icmp .ge 37, 3) := by decide +kernel
theorem dX3_beginMonth_12 : decode cX3_beginMonth 12 = .ok (.iload_n 1, 1) := by decide +kernel
theorem dX3_beginMonth_13 : decode cX3_beginMonth 13 = .ok (.aload_n 0, 1) := by decide +kernel
theorem dX3_beginMonth_14 : decode cX3_beginMonth 14 = .ok (.getfield 30, 3) := by decide +kernel
theorem dX3_beginMonth_17 : decode cX3_beginMonth 17 = .ok (.iload_n 2, 1) := by decide +kernel
theorem dX3_beginMonth_18 : decode cX3_beginMonth 18 = .ok (.iaload, 1) := by decide +kernel
theorem dX3_beginMonth_19 : decode cX3_beginMonth 19 = .ok (.iadd, 1) := by decide +kernel
theorem dX3_beginMonth_20 : decode cX3_beginMonth 20 = .ok (.istore_n 1, 1) := by decide +kernel
theorem dX3_beginMonth_21 : decode cX3_beginMonth 21 = .ok (.aload_n 0, 1) := by decide +kernel
theorem dX3_beginMonth_22 : decode cX3_beginMonth 22 = .ok (.getfield 33, 3) := by decide +kernel
theorem dX3_beginMonth_25 : decode cX3_beginMonth 25 = .ok (.iload_n 2, 1) := by decide +kernel
theorem dX3_beginMonth_26 : decode cX3_beginMonth 26 = .ok (.aload_n 0, 1) := by decide +kernel
theorem dX3_beginMonth_27 : decode cX3_beginMonth 27 = .ok (.getfield 30, 3) := by decide +kernel
theorem dX3_beginMonth_30 : decode cX3_beginMonth 30 = .ok (.iload_n 2, 1) := by decide +kernel
theorem dX3_beginMonth_31 : decode cX3_beginMonth 31 = .ok (.iaload, 1) := by decide +kernel
theorem dX3_beginMonth_32 : decode cX3_beginMonth 32 = .ok (.iastore, 1) := by decide +kernel
theorem dX3_beginMonth_33 : decode cX3_beginMonth 33 = .ok (.aload_n 0, 1) := by decide +kernel
theorem dX3_beginMonth_34 : decode cX3_beginMonth 34 = .ok (.getfield 30, 3) := by decide +kernel
theorem dX3_beginMonth_37 : decode cX3_beginMonth 37 = .ok (.iload_n 2, 1) := by decide +kernel
theorem dX3_beginMonth_38 : decode cX3_beginMonth 38 = .ok (.iconst 0, 1) := by decide +kernel
theorem dX3_beginMonth_39 : decode cX3_beginMonth 39 = .ok (.iastore, 1) := by decide +kernel
theorem dX3_beginMonth_40 : decode cX3_beginMonth 40 = .ok (.iinc 2 1, 3) := by decide +kernel
theorem dX3_beginMonth_43 : decode cX3_beginMonth 43 = .ok (.goto (-39), 3) := by decide +kernel
theorem dX3_beginMonth_46 : decode cX3_beginMonth 46 = .ok (.iload_n 1, 1) := by decide +kernel
theorem dX3_beginMonth_47 : decode cX3_beginMonth 47 = .ok (.ireturn, 1) := by decide +kernel
set_option maxRecDepth 20000 in
theorem ggX3_makeBestSteps_X3_findBestStep : GoodIn wsX3_makeBestSteps wsX3_findBestStep := goodIn_r _ [6, 7, 8, 9, 10, 11, 12, 13, 14, 15, 16, 5, 17, 18, 19, 20, 21, 22, 23, 24, 25, 26, 27, 28, 29, 30, 31, 32, 33, 34, 35, 36, 37, 38, 39, 40, 41, 42, 43, 44, 45, 46, 47, 48, 49, 50, 51, 52, 53, 54, 55, 56, 57, 58, 59, 60, 81, 82, 83, 84, 85, 86, 87, 88, 89, 90, 91, 77, 78, 79, 80] (by decide +kernel) (by decide +kernel)
set_option maxRecDepth 20000 in
theorem gX3_makeBestSteps_X3_findBestStep : GoodIn wsX3_makeBestSteps (wsV RX3 70 RX3 yX3_findBestStep wsX3_findBestStep) := goodIn_app (goodIn_of _ (by decide +kernel)) ggX3_makeBestSteps_X3_findBestStep
set_option maxRecDepth 20000 in
theorem ggX3_makeBestSteps_X3_makeStep : GoodIn wsX3_makeBestSteps wsX3_makeStep := goodIn_r _ [64, 65, 66, 67, 68, 69, 70, 71, 5, 72, 19, 73, 74, 75, 76, 18, 30, 24, 77, 78, 79, 80, 81, 82, 83, 84, 85, 86, 87, 88, 89, 90, 91] (by decide +kernel) (by decide +kernel)
set_option maxRecDepth 20000 in
theorem gX3_makeBestSteps_X3_makeStep : GoodIn wsX3_makeBestSteps (wsV RX3 79 RX3 yX3_makeStep wsX3_makeStep) := goodIn_app (goodIn_of _ (by decide +kernel)) ggX3_makeBestSteps_X3_makeStep
theorem dX3_makeBestSteps_0 : decode cX3_makeBestSteps 0 = .ok (.iconst 0, 1) := by decide +kernel
theorem dX3_makeBestSteps_1 : decode cX3_makeBestSteps 1 = .ok (.istore_n 3, 1) := by decide +kernel
theorem dX3_makeBestSteps_2 : decode cX3_makeBestSteps 2 = .ok (.iload_n 3, 1) := by decide +kernel
theorem dX3_makeBestSteps_3 : decode cX3_makeBestSteps 3 = .ok (.iload_n 1, 1) := by decide +kernel
theorem dX3_makeBestSteps_4 : decode cX3_makeBestSteps 4 = .ok (.if_icmp .ge 29, 3) := by decide +kernel
theorem dX3_makeBestSteps_7 : decode cX3_makeBestSteps 7 = .ok (.aload_n 0, 1) := by decide +kernel
theorem dX3_makeBestSteps_8 : decode cX3_makeBestSteps 8 = .ok (.aload_n 2, 1) := by decide +kernel
theorem dX3_makeBestSteps_9 : decode cX3_makeBestSteps 9 = .ok (.invokevirtual 70, 3) := by decide +kernel
theorem dX3_makeBestSteps_12 : decode cX3_makeBestSteps 12 = .ok (.aload_n 2, 1) := by decide +kernel
theorem dX3_makeBestSteps_13 : decode cX3_makeBestSteps 13 = .ok (.getfield 74, 3) := by decide +kernel
theorem dX3_makeBestSteps_16 : decode cX3_makeBestSteps 16 = .ok (.iconst 1, 1) := by decide +kernel
theorem dX3_makeBestSteps_17 : decode cX3_makeBestSteps 17 = .ok (.if_icmp .ge 5, 3) := by decide +kernel
theorem dX3_makeBestSteps_20 : decode cX3_makeBestSteps 20 = .ok (.iload_n 3, 1) := by decide +kernel
theorem dX3_makeBestSteps_21 : decode cX3_makeBestSteps 21 = .ok (.ireturn, 1) := by decide +kernel
theorem dX3_makeBestSteps_22 : decode cX3_makeBestSteps 22 = .ok (.aload_n 0, 1) := by decide +kernel
theorem dX3_makeBestSteps_23 : decode cX3_makeBestSteps 23 = .ok (.aload_n 2, 1) := by decide +kernel
theorem dX3_makeBestSteps_24 : decode cX3_makeBestSteps 24 = .ok (.invokevirtual 79, 3) := by decide +kernel
theorem dX3_makeBestSteps_27 : decode cX3_makeBestSteps 27 = .ok (.iinc 3 1, 3) := by decide +kernel
theorem dX3_makeBestSteps_30 : decode cX3_makeBestSteps 30 = .ok (.goto (-28), 3) := by decide +kernel
theorem dX3_makeBestSteps_33 : decode cX3_makeBestSteps 33 = .ok (.iload_n 1, 1) := by decide +kernel
theorem dX3_makeBestSteps_34 : decode cX3_makeBestSteps 34 = .ok (.ireturn, 1) := by decide +kernel
set_option maxRecDepth 20000 in
theorem ggX3_findBestStep_X2_forget : GoodIn wsX3_findBestStep wsX2_forget := goodIn_r _ [6, 7, 67, 68, 69, 70] (by decide +kernel) (by decide +kernel)
set_option maxRecDepth 20000 in
theorem gX3_findBestStep_X2_forget : GoodIn wsX3_findBestStep (wsV RX3 82 RX2 yX2_forget wsX2_forget) := goodIn_app (goodIn_of _ (by decide +kernel)) ggX3_findBestStep_X2_forget
set_option maxRecDepth 20000 in
theorem ggX3_findBestStep_X3_isMisplaced : GoodIn wsX3_findBestStep wsX3_isMisplaced := goodIn_r _ [12, 13, 14, 56, 57, 58, 59, 60, 61, 62, 63, 64, 65, 66] (by decide +kernel) (by decide +kernel)
set_option maxRecDepth 20000 in
theorem gX3_findBestStep_X3_isMisplaced : GoodIn wsX3_findBestStep (wsV RX3 52 RX3 yX3_isMisplaced wsX3_isMisplaced) := goodIn_app (goodIn_of _ (by decide +kernel)) ggX3_findBestStep_X3_isMisplaced
set_option maxRecDepth 20000 in
theorem ggX3_findBestStep_X3_offerMoves : GoodIn wsX3_findBestStep wsX3_offerMoves := goodIn_r _ [18, 13, 19, 20, 21, 22, 11, 23, 24, 25, 26, 27, 28, 29, 30, 31, 32, 33, 34, 35, 36, 37, 38, 39, 5, 40, 7, 41, 42, 43, 56, 57, 58, 59, 60, 61, 62, 63, 64, 65, 66, 67, 68, 69, 70] (by decide +kernel) (by decide +kernel)
set_option maxRecDepth 20000 in
theorem gX3_findBestStep_X3_offerMoves : GoodIn wsX3_findBestStep (wsV RX3 85 RX3 yX3_offerMoves wsX3_offerMoves) := goodIn_app (goodIn_of _ (by decide +kernel)) ggX3_findBestStep_X3_offerMoves
set_option maxRecDepth 20000 in
theorem ggX3_findBestStep_X3_offerExchanges : GoodIn wsX3_findBestStep wsX3_offerExchanges := goodIn_r _ [47, 1, 13, 8, 9, 10, 11, 12, 14, 48, 49, 50, 51, 19, 20, 21, 22, 23, 24, 25, 52, 53, 54, 55, 30, 31, 32, 33, 34, 35, 36, 37, 38, 39, 5, 40, 7, 41, 42, 43, 56, 57, 58, 59, 60, 61, 62, 63, 64, 65, 66, 67, 68, 69, 70] (by decide +kernel) (by decide +kernel)
set_option maxRecDepth 20000 in
theorem gX3_findBestStep_X3_offerExchanges : GoodIn wsX3_findBestStep (wsV RX3 89 RX3 yX3_offerExchanges wsX3_offerExchanges) := goodIn_app (goodIn_of _ (by decide +kernel)) ggX3_findBestStep_X3_offerExchanges
theorem dX3_findBestStep_0 : decode cX3_findBestStep 0 = .ok (.aload_n 1, 1) := by decide +kernel
theorem dX3_findBestStep_1 : decode cX3_findBestStep 1 = .ok (.invokevirtual 82, 3) := by decide +kernel
theorem dX3_findBestStep_4 : decode cX3_findBestStep 4 = .ok (.iconst 0, 1) := by decide +kernel
theorem dX3_findBestStep_5 : decode cX3_findBestStep 5 = .ok (.istore_n 2, 1) := by decide +kernel
theorem dX3_findBestStep_6 : decode cX3_findBestStep 6 = .ok (.iload_n 2, 1) := by decide +kernel
theorem dX3_findBestStep_7 : decode cX3_findBestStep 7 = .ok (.aload_n 0, 1) := by decide +kernel
theorem dX3_findBestStep_8 : decode cX3_findBestStep 8 = .ok (.getfield 42, 3) := by decide +kernel
theorem dX3_findBestStep_11 : decode cX3_findBestStep 11 = .ok (.if_icmp .ge 23, 3) := by decide +kernel
theorem dX3_findBestStep_14 : decode cX3_findBestStep 14 = .ok (.aload_n 0, 1) := by decide +kernel
theorem dX3_findBestStep_15 : decode cX3_findBestStep 15 = .ok (.iload_n 2, 1) := by decide +kernel
theorem dX3_findBestStep_16 : decode cX3_findBestStep 16 = .ok (.invokevirtual 52, 3) := by decide +kernel
theorem dX3_findBestStep_19 : decode cX3_findBestStep 19 = .ok (.ifCond .ne 9, 3) := by decide +kernel
theorem dX3_findBestStep_22 : decode cX3_findBestStep 22 = .ok (.aload_n 0, 1) := by decide +kernel
theorem dX3_findBestStep_23 : decode cX3_findBestStep 23 = .ok (.iload_n 2, 1) := by decide +kernel
theorem dX3_findBestStep_24 : decode cX3_findBestStep 24 = .ok (.aload_n 1, 1) := by decide +kernel
theorem dX3_findBestStep_25 : decode cX3_findBestStep 25 = .ok (.invokevirtual 85, 3) := by decide +kernel
theorem dX3_findBestStep_28 : decode cX3_findBestStep 28 = .ok (.iinc 2 1, 3) := by decide +kernel
theorem dX3_findBestStep_31 : decode cX3_findBestStep 31 = .ok (.goto (-25), 3) := by decide +kernel
theorem dX3_findBestStep_34 : decode cX3_findBestStep 34 = .ok (.iconst 0, 1) := by decide +kernel
theorem dX3_findBestStep_35 : decode cX3_findBestStep 35 = .ok (.istore_n 2, 1) := by decide +kernel
theorem dX3_findBestStep_36 : decode cX3_findBestStep 36 = .ok (.iload_n 2, 1) := by decide +kernel
theorem dX3_findBestStep_37 : decode cX3_findBestStep 37 = .ok (.aload_n 0, 1) := by decide +kernel
theorem dX3_findBestStep_38 : decode cX3_findBestStep 38 = .ok (.getfield 42, 3) := by decide +kernel
theorem dX3_findBestStep_41 : decode cX3_findBestStep 41 = .ok (.if_icmp .ge 23, 3) := by decide +kernel
theorem dX3_findBestStep_44 : decode cX3_findBestStep 44 = .ok (.aload_n 0, 1) := by decide +kernel
theorem dX3_findBestStep_45 : decode cX3_findBestStep 45 = .ok (.iload_n 2, 1) := by decide +kernel
theorem dX3_findBestStep_46 : decode cX3_findBestStep 46 = .ok (.invokevirtual 52, 3) := by decide +kernel
theorem dX3_findBestStep_49 : decode cX3_findBestStep 49 = .ok (.ifCond .ne 9, 3) := by decide +kernel
theorem dX3_findBestStep_52 : decode cX3_findBestStep 52 = .ok (.aload_n 0, 1) := by decide +kernel
theorem dX3_findBestStep_53 : decode cX3_findBestStep 53 = .ok (.iload_n 2, 1) := by decide +kernel
theorem dX3_findBestStep_54 : decode cX3_findBestStep 54 = .ok (.aload_n 1, 1) := by decide +kernel
theorem dX3_findBestStep_55 : decode cX3_findBestStep 55 = .ok (.invokevirtual 89, 3) := by decide +kernel
theorem dX3_findBestStep_58 : decode cX3_findBestStep 58 = .ok (.iinc 2 1, 3) := by decide +kernel
theorem dX3_findBestStep_61 : decode cX3_findBestStep 61 = .ok (.goto (-25), 3) := by decide +kernel
theorem dX3_findBestStep_64 : decode cX3_findBestStep 64 = .ok (.return_, 1) := by decide +kernel
set_option maxRecDepth 20000 in
theorem ggX3_offerMoves_X3_freeRoom : GoodIn wsX3_offerMoves wsX3_freeRoom := goodIn_r _ [7, 8, 9, 30, 31, 32, 33, 34, 35, 36, 37, 38, 39, 40] (by decide +kernel) (by decide +kernel)
set_option maxRecDepth 20000 in
theorem gX3_offerMoves_X3_freeRoom : GoodIn wsX3_offerMoves (wsV RX3 60 RX3 yX3_freeRoom wsX3_freeRoom) := goodIn_app (goodIn_of _ (by decide +kernel)) ggX3_offerMoves_X3_freeRoom
set_option maxRecDepth 20000 in
theorem ggX3_offerMoves_X3_moveGain : GoodIn wsX3_offerMoves wsX3_moveGain := goodIn_r _ [13, 14, 1, 15, 16, 17, 6, 18, 19, 20, 30, 31, 32, 33, 34, 35, 36, 37, 38, 39, 40] (by decide +kernel) (by decide +kernel)
set_option maxRecDepth 20000 in
theorem gX3_offerMoves_X3_moveGain : GoodIn wsX3_offerMoves (wsV RX3 92 RX3 yX3_moveGain wsX3_moveGain) := goodIn_app (goodIn_of _ (by decide +kernel)) ggX3_offerMoves_X3_moveGain
set_option maxRecDepth 20000 in
theorem ggX3_offerMoves_X2_offer : GoodIn wsX3_offerMoves wsX2_offer := goodIn_r _ [25, 26, 27, 28, 29, 41, 42, 43, 44] (by decide +kernel) (by decide +kernel)
set_option maxRecDepth 20000 in
theorem gX3_offerMoves_X2_offer : GoodIn wsX3_offerMoves (wsV RX3 96 RX2 yX2_offer wsX2_offer) := goodIn_app (goodIn_of _ (by decide +kernel)) ggX3_offerMoves_X2_offer
theorem dX3_offerMoves_0 : decode cX3_offerMoves 0 = .ok (.iconst 0, 1) := by decide +kernel
theorem dX3_offerMoves_1 : decode cX3_offerMoves 1 = .ok (.istore_n 3, 1) := by decide +kernel
theorem dX3_offerMoves_2 : decode cX3_offerMoves 2 = .ok (.iload_n 3, 1) := by decide +kernel
theorem dX3_offerMoves_3 : decode cX3_offerMoves 3 = .ok (.bipush 6, 2) := by decide +kernel
theorem dX3_offerMoves_5 : decode cX3_offerMoves 5 = .ok (.if_icmp .ge 46, 3) := by decide +kernel
theorem dX3_offerMoves_8 : decode cX3_offerMoves 8 = .ok (.iload_n 3, 1) := by decide +kernel
theorem dX3_offerMoves_9 : decode cX3_offerMoves 9 = .ok (.aload_n 0, 1) := by decide +kernel
theorem dX3_offerMoves_10 : decode cX3_offerMoves 10 = .ok (.getfield 24, 3) := by decide +kernel
theorem dX3_offerMoves_13 : decode cX3_offerMoves 13 = .ok (.iload_n 1, 1) := by decide +kernel
theorem dX3_offerMoves_14 : decode cX3_offerMoves 14 = .ok (.iaload, 1) := by decide +kernel
theorem dX3_offerMoves_15 : decode cX3_offerMoves 15 = .ok (.if_icmp .eq 30, 3) := by decide +kernel
theorem dX3_offerMoves_18 : decode cX3_offerMoves 18 = .ok (.aload_n 0, 1) := by decide +kernel
theorem dX3_offerMoves_19 : decode cX3_offerMoves 19 = .ok (.iload_n 3, 1) := by decide +kernel
theorem dX3_offerMoves_20 : decode cX3_offerMoves 20 = .ok (.invokevirtual 60, 3) := by decide +kernel
theorem dX3_offerMoves_23 : decode cX3_offerMoves 23 = .ok (.aload_n 0, 1) := by decide +kernel
theorem dX3_offerMoves_24 : decode cX3_offerMoves 24 = .ok (.getfield 21, 3) := by decide +kernel
theorem dX3_offerMoves_27 : decode cX3_offerMoves 27 = .ok (.iload_n 1, 1) := by decide +kernel
theorem dX3_offerMoves_28 : decode cX3_offerMoves 28 = .ok (.iaload, 1) := by decide +kernel
theorem dX3_offerMoves_29 : decode cX3_offerMoves 29 = .ok (.if_icmp .lt 16, 3) := by decide +kernel
theorem dX3_offerMoves_32 : decode cX3_offerMoves 32 = .ok (.aload_n 2, 1) := by decide +kernel
theorem dX3_offerMoves_33 : decode cX3_offerMoves 33 = .ok (.aload_n 0, 1) := by decide +kernel
theorem dX3_offerMoves_34 : decode cX3_offerMoves 34 = .ok (.iload_n 1, 1) := by decide +kernel
theorem dX3_offerMoves_35 : decode cX3_offerMoves 35 = .ok (.iload_n 3, 1) := by decide +kernel
theorem dX3_offerMoves_36 : decode cX3_offerMoves 36 = .ok (.invokevirtual 92, 3) := by decide +kernel
theorem dX3_offerMoves_39 : decode cX3_offerMoves 39 = .ok (.iload_n 1, 1) := by decide +kernel
theorem dX3_offerMoves_40 : decode cX3_offerMoves 40 = .ok (.iload_n 3, 1) := by decide +kernel
theorem dX3_offerMoves_41 : decode cX3_offerMoves 41 = .ok (.iconst (-1), 1) := by decide +kernel
theorem dX3_offerMoves_42 : decode cX3_offerMoves 42 = .ok (.invokevirtual 96, 3) := by decide +kernel
theorem dX3_offerMoves_45 : decode cX3_offerMoves 45 = .ok (.iinc 3 1, 3) := by decide +kernel
theorem dX3_offerMoves_48 : decode cX3_offerMoves 48 = .ok (.goto (-46), 3) := by decide +kernel
theorem dX3_offerMoves_51 : decode cX3_offerMoves 51 = .ok (.return_, 1) := by decide +kernel
set_option maxRecDepth 20000 in
theorem ggX3_moveGain_X3_weightOf : GoodIn wsX3_moveGain wsX3_weightOf := goodIn_r _ [7, 8, 9, 10, 11, 12, 13, 14, 15, 16, 17, 18, 19, 20] (by decide +kernel) (by decide +kernel)
set_option maxRecDepth 20000 in
theorem gX3_moveGain_X3_weightOf : GoodIn wsX3_moveGain (wsV RX3 56 RX3 yX3_weightOf wsX3_weightOf) := goodIn_app (goodIn_of _ (by decide +kernel)) ggX3_moveGain_X3_weightOf
theorem dX3_moveGain_0 : decode cX3_moveGain 0 = .ok (.aload_n 0, 1) := by decide +kernel
theorem dX3_moveGain_1 : decode cX3_moveGain 1 = .ok (.iload_n 1, 1) := by decide +kernel
theorem dX3_moveGain_2 : decode cX3_moveGain 2 = .ok (.invokevirtual 56, 3) := by decide +kernel
theorem dX3_moveGain_5 : decode cX3_moveGain 5 = .ok (.aload_n 0, 1) := by decide +kernel
theorem dX3_moveGain_6 : decode cX3_moveGain 6 = .ok (.getfield 15, 3) := by decide +kernel
theorem dX3_moveGain_9 : decode cX3_moveGain 9 = .ok (.aload_n 0, 1) := by decide +kernel
theorem dX3_moveGain_10 : decode cX3_moveGain 10 = .ok (.getfield 24, 3) := by decide +kernel
theorem dX3_moveGain_13 : decode cX3_moveGain 13 = .ok (.iload_n 1, 1) := by decide +kernel
theorem dX3_moveGain_14 : decode cX3_moveGain 14 = .ok (.iaload, 1) := by decide +kernel
theorem dX3_moveGain_15 : decode cX3_moveGain 15 = .ok (.iaload, 1) := by decide +kernel
theorem dX3_moveGain_16 : decode cX3_moveGain 16 = .ok (.aload_n 0, 1) := by decide +kernel
theorem dX3_moveGain_17 : decode cX3_moveGain 17 = .ok (.getfield 15, 3) := by decide +kernel
theorem dX3_moveGain_20 : decode cX3_moveGain 20 = .ok (.iload_n 2, 1) := by decide +kernel
theorem dX3_moveGain_21 : decode cX3_moveGain 21 = .ok (.iaload, 1) := by decide +kernel
theorem dX3_moveGain_22 : decode cX3_moveGain 22 = .ok (.isub, 1) := by decide +kernel
theorem dX3_moveGain_23 : decode cX3_moveGain 23 = .ok (.imul, 1) := by decide +kernel
theorem dX3_moveGain_24 : decode cX3_moveGain 24 = .ok (.ireturn, 1) := by decide +kernel
set_option maxRecDepth 20000 in
theorem ggX3_offerExchanges_X3_isMisplaced : GoodIn wsX3_offerExchanges wsX3_isMisplaced := goodIn_r _ [7, 2, 8, 40, 41, 42, 43, 44, 45, 46, 47, 48, 49, 50] (by decide +kernel) (by decide +kernel)
set_option maxRecDepth 20000 in
theorem gX3_offerExchanges_X3_isMisplaced : GoodIn wsX3_offerExchanges (wsV RX3 52 RX3 yX3_isMisplaced wsX3_isMisplaced) := goodIn_app (goodIn_of _ (by decide +kernel)) ggX3_offerExchanges_X3_isMisplaced
set_option maxRecDepth 20000 in
theorem ggX3_offerExchanges_X3_canExchange : GoodIn wsX3_offerExchanges wsX3_canExchange := goodIn_r _ [12, 13, 2, 14, 15, 16, 6, 17, 18, 19, 40, 41, 42, 43, 44, 45, 46, 47, 48, 49, 50] (by decide +kernel) (by decide +kernel)
set_option maxRecDepth 20000 in
theorem gX3_offerExchanges_X3_canExchange : GoodIn wsX3_offerExchanges (wsV RX3 100 RX3 yX3_canExchange wsX3_canExchange) := goodIn_app (goodIn_of _ (by decide +kernel)) ggX3_offerExchanges_X3_canExchange
set_option maxRecDepth 20000 in
theorem ggX3_offerExchanges_X3_exchangeGain : GoodIn wsX3_offerExchanges wsX3_exchangeGain := goodIn_r _ [23, 24, 2, 25, 26, 27, 6, 28, 29, 30, 40, 41, 42, 43, 44, 45, 46, 47, 48, 49, 50] (by decide +kernel) (by decide +kernel)
set_option maxRecDepth 20000 in
theorem gX3_offerExchanges_X3_exchangeGain : GoodIn wsX3_offerExchanges (wsV RX3 103 RX3 yX3_exchangeGain wsX3_exchangeGain) := goodIn_app (goodIn_of _ (by decide +kernel)) ggX3_offerExchanges_X3_exchangeGain
set_option maxRecDepth 20000 in
theorem ggX3_offerExchanges_X2_offer : GoodIn wsX3_offerExchanges wsX2_offer := goodIn_r _ [35, 36, 37, 38, 39, 51, 52, 53, 54] (by decide +kernel) (by decide +kernel)
set_option maxRecDepth 20000 in
theorem gX3_offerExchanges_X2_offer : GoodIn wsX3_offerExchanges (wsV RX3 96 RX2 yX2_offer wsX2_offer) := goodIn_app (goodIn_of _ (by decide +kernel)) ggX3_offerExchanges_X2_offer
theorem dX3_offerExchanges_0 : decode cX3_offerExchanges 0 = .ok (.iload_n 1, 1) := by decide +kernel
theorem dX3_offerExchanges_1 : decode cX3_offerExchanges 1 = .ok (.iconst 1, 1) := by decide +kernel
theorem dX3_offerExchanges_2 : decode cX3_offerExchanges 2 = .ok (.iadd, 1) := by decide +kernel
theorem dX3_offerExchanges_3 : decode cX3_offerExchanges 3 = .ok (.istore_n 3, 1) := by decide +kernel
theorem dX3_offerExchanges_4 : decode cX3_offerExchanges 4 = .ok (.iload_n 3, 1) := by decide +kernel
theorem dX3_offerExchanges_5 : decode cX3_offerExchanges 5 = .ok (.aload_n 0, 1) := by decide +kernel
theorem dX3_offerExchanges_6 : decode cX3_offerExchanges 6 = .ok (.getfield 42, 3) := by decide +kernel
theorem dX3_offerExchanges_9 : decode cX3_offerExchanges 9 = .ok (.if_icmp .ge 44, 3) := by decide +kernel
theorem dX3_offerExchanges_12 : decode cX3_offerExchanges 12 = .ok (.aload_n 0, 1) := by decide +kernel
theorem dX3_offerExchanges_13 : decode cX3_offerExchanges 13 = .ok (.iload_n 3, 1) := by decide +kernel
theorem dX3_offerExchanges_14 : decode cX3_offerExchanges 14 = .ok (.invokevirtual 52, 3) := by decide +kernel
theorem dX3_offerExchanges_17 : decode cX3_offerExchanges 17 = .ok (.ifCond .ne 30, 3) := by decide +kernel
theorem dX3_offerExchanges_20 : decode cX3_offerExchanges 20 = .ok (.aload_n 0, 1) := by decide +kernel
theorem dX3_offerExchanges_21 : decode cX3_offerExchanges 21 = .ok (.iload_n 1, 1) := by decide +kernel
theorem dX3_offerExchanges_22 : decode cX3_offerExchanges 22 = .ok (.iload_n 3, 1) := by decide +kernel
theorem dX3_offerExchanges_23 : decode cX3_offerExchanges 23 = .ok (.invokevirtual 100, 3) := by decide +kernel
theorem dX3_offerExchanges_26 : decode cX3_offerExchanges 26 = .ok (.ifCond .eq 21, 3) := by decide +kernel
theorem dX3_offerExchanges_29 : decode cX3_offerExchanges 29 = .ok (.aload_n 2, 1) := by decide +kernel
theorem dX3_offerExchanges_30 : decode cX3_offerExchanges 30 = .ok (.aload_n 0, 1) := by decide +kernel
theorem dX3_offerExchanges_31 : decode cX3_offerExchanges 31 = .ok (.iload_n 1, 1) := by decide +kernel
theorem dX3_offerExchanges_32 : decode cX3_offerExchanges 32 = .ok (.iload_n 3, 1) := by decide +kernel
theorem dX3_offerExchanges_33 : decode cX3_offerExchanges 33 = .ok (.invokevirtual 103, 3) := by decide +kernel
theorem dX3_offerExchanges_36 : decode cX3_offerExchanges 36 = .ok (.iload_n 1, 1) := by decide +kernel
theorem dX3_offerExchanges_37 : decode cX3_offerExchanges 37 = .ok (.aload_n 0, 1) := by decide +kernel
theorem dX3_offerExchanges_38 : decode cX3_offerExchanges 38 = .ok (.getfield 24, 3) := by decide +kernel
theorem dX3_offerExchanges_41 : decode cX3_offerExchanges 41 = .ok (.iload_n 3, 1) := by decide +kernel
theorem dX3_offerExchanges_42 : decode cX3_offerExchanges 42 = .ok (.iaload, 1) := by decide +kernel
theorem dX3_offerExchanges_43 : decode cX3_offerExchanges 43 = .ok (.iload_n 3, 1) := by decide +kernel
theorem dX3_offerExchanges_44 : decode cX3_offerExchanges 44 = .ok (.invokevirtual 96, 3) := by decide +kernel
theorem dX3_offerExchanges_47 : decode cX3_offerExchanges 47 = .ok (.iinc 3 1, 3) := by decide +kernel
theorem dX3_offerExchanges_50 : decode cX3_offerExchanges 50 = .ok (.goto (-46), 3) := by decide +kernel
theorem dX3_offerExchanges_53 : decode cX3_offerExchanges 53 = .ok (.return_, 1) := by decide +kernel
set_option maxRecDepth 20000 in
theorem ggX3_canExchange_X3_freeRoom : GoodIn wsX3_canExchange wsX3_freeRoom := goodIn_r _ [7, 8, 9, 10, 11, 12, 13, 14, 15, 16, 17, 18, 19, 20] (by decide +kernel) (by decide +kernel)
set_option maxRecDepth 20000 in
theorem gX3_canExchange_X3_freeRoom : GoodIn wsX3_canExchange (wsV RX3 60 RX3 yX3_freeRoom wsX3_freeRoom) := goodIn_app (goodIn_of _ (by decide +kernel)) ggX3_canExchange_X3_freeRoom
theorem dX3_canExchange_0 : decode cX3_canExchange 0 = .ok (.aload_n 0, 1) := by decide +kernel
theorem dX3_canExchange_1 : decode cX3_canExchange 1 = .ok (.getfield 21, 3) := by decide +kernel
theorem dX3_canExchange_4 : decode cX3_canExchange 4 = .ok (.iload_n 2, 1) := by decide +kernel
theorem dX3_canExchange_5 : decode cX3_canExchange 5 = .ok (.iaload, 1) := by decide +kernel
theorem dX3_canExchange_6 : decode cX3_canExchange 6 = .ok (.aload_n 0, 1) := by decide +kernel
theorem dX3_canExchange_7 : decode cX3_canExchange 7 = .ok (.getfield 21, 3) := by decide +kernel
theorem dX3_canExchange_10 : decode cX3_canExchange 10 = .ok (.iload_n 1, 1) := by decide +kernel
theorem dX3_canExchange_11 : decode cX3_canExchange 11 = .ok (.iaload, 1) := by decide +kernel
theorem dX3_canExchange_12 : decode cX3_canExchange 12 = .ok (.isub, 1) := by decide +kernel
theorem dX3_canExchange_13 : decode cX3_canExchange 13 = .ok (.istore_n 3, 1) := by decide +kernel
theorem dX3_canExchange_14 : decode cX3_canExchange 14 = .ok (.aload_n 0, 1) := by decide +kernel
theorem dX3_canExchange_15 : decode cX3_canExchange 15 = .ok (.getfield 24, 3) := by decide +kernel
theorem dX3_canExchange_18 : decode cX3_canExchange 18 = .ok (.iload_n 1, 1) := by decide +kernel
theorem dX3_canExchange_19 : decode cX3_canExchange 19 = .ok (.iaload, 1) := by decide +kernel
theorem dX3_canExchange_20 : decode cX3_canExchange 20 = .ok (.aload_n 0, 1) := by decide +kernel
theorem dX3_canExchange_21 : decode cX3_canExchange 21 = .ok (.getfield 24, 3) := by decide +kernel
theorem dX3_canExchange_24 : decode cX3_canExchange 24 = .ok (.iload_n 2, 1) := by decide +kernel
theorem dX3_canExchange_25 : decode cX3_canExchange 25 = .ok (.iaload, 1) := by decide +kernel
theorem dX3_canExchange_26 : decode cX3_canExchange 26 = .ok (.if_icmp .eq 36, 3) := by decide +kernel
theorem dX3_canExchange_29 : decode cX3_canExchange 29 = .ok (.aload_n 0, 1) := by decide +kernel
theorem dX3_canExchange_30 : decode cX3_canExchange 30 = .ok (.aload_n 0, 1) := by decide +kernel
theorem dX3_canExchange_31 : decode cX3_canExchange 31 = .ok (.getfield 24, 3) := by decide +kernel
theorem dX3_canExchange_34 : decode cX3_canExchange 34 = .ok (.iload_n 1, 1) := by decide +kernel
theorem dX3_canExchange_35 : decode cX3_canExchange 35 = .ok (.iaload, 1) := by decide +kernel
theorem dX3_canExchange_36 : decode cX3_canExchange 36 = .ok (.invokevirtual 60, 3) := by decide +kernel
theorem dX3_canExchange_39 : decode cX3_canExchange 39 = .ok (.iload_n 3, 1) := by decide +kernel
theorem dX3_canExchange_40 : decode cX3_canExchange 40 = .ok (.if_icmp .lt 22, 3) := by decide +kernel
theorem dX3_canExchange_43 : decode cX3_canExchange 43 = .ok (.aload_n 0, 1) := by decide +kernel
theorem dX3_canExchange_44 : decode cX3_canExchange 44 = .ok (.aload_n 0, 1) := by decide +kernel
theorem dX3_canExchange_45 : decode cX3_canExchange 45 = .ok (.getfield 24, 3) := by decide +kernel
theorem dX3_canExchange_48 : decode cX3_canExchange 48 = .ok (.iload_n 2, 1) := by decide +kernel
theorem dX3_canExchange_49 : decode cX3_canExchange 49 = .ok (.iaload, 1) := by decide +kernel
theorem dX3_canExchange_50 : decode cX3_canExchange 50 = .ok (.invokevirtual 60, 3) := by decide +kernel
theorem dX3_canExchange_53 : decode cX3_canExchange 53 = .ok (.iload_n 3, 1) := by decide +kernel
theorem dX3_canExchange_54 : decode cX3_canExchange 54 = .ok (.ineg, 1) := by decide +kernel
theorem dX3_canExchange_55 : decode cX3_canExchange 55 = .ok (.if_icmp .lt 7, 3) := by decide +kernel
theorem dX3_canExchange_58 : decode cX3_canExchange 58 = .ok (.iconst 1, 1) := by decide +kernel
theorem dX3_canExchange_59 : decode cX3_canExchange 59 = .ok (.goto 4, 3) := by decide +kernel
theorem dX3_canExchange_62 : decode cX3_canExchange 62 = .ok (.iconst 0, 1) := by decide +kernel
theorem dX3_canExchange_63 : decode cX3_canExchange 63 = .ok (.ireturn, 1) := by decide +kernel
set_option maxRecDepth 20000 in
theorem ggX3_exchangeGain_X3_weightOf : GoodIn wsX3_exchangeGain wsX3_weightOf := goodIn_r _ [7, 8, 9, 10, 11, 12, 13, 14, 15, 16, 17, 18, 19, 20] (by decide +kernel) (by decide +kernel)
set_option maxRecDepth 20000 in
theorem gX3_exchangeGain_X3_weightOf : GoodIn wsX3_exchangeGain (wsV RX3 56 RX3 yX3_weightOf wsX3_weightOf) := goodIn_app (goodIn_of _ (by decide +kernel)) ggX3_exchangeGain_X3_weightOf
theorem dX3_exchangeGain_0 : decode cX3_exchangeGain 0 = .ok (.aload_n 0, 1) := by decide +kernel
theorem dX3_exchangeGain_1 : decode cX3_exchangeGain 1 = .ok (.iload_n 1, 1) := by decide +kernel
theorem dX3_exchangeGain_2 : decode cX3_exchangeGain 2 = .ok (.invokevirtual 56, 3) := by decide +kernel
theorem dX3_exchangeGain_5 : decode cX3_exchangeGain 5 = .ok (.aload_n 0, 1) := by decide +kernel
theorem dX3_exchangeGain_6 : decode cX3_exchangeGain 6 = .ok (.iload_n 2, 1) := by decide +kernel
theorem dX3_exchangeGain_7 : decode cX3_exchangeGain 7 = .ok (.invokevirtual 56, 3) := by decide +kernel
theorem dX3_exchangeGain_10 : decode cX3_exchangeGain 10 = .ok (.isub, 1) := by decide +kernel
theorem dX3_exchangeGain_11 : decode cX3_exchangeGain 11 = .ok (.aload_n 0, 1) := by decide +kernel
theorem dX3_exchangeGain_12 : decode cX3_exchangeGain 12 = .ok (.getfield 15, 3) := by decide +kernel
theorem dX3_exchangeGain_15 : decode cX3_exchangeGain 15 = .ok (.aload_n 0, 1) := by decide +kernel
theorem dX3_exchangeGain_16 : decode cX3_exchangeGain 16 = .ok (.getfield 24, 3) := by decide +kernel
theorem dX3_exchangeGain_19 : decode cX3_exchangeGain 19 = .ok (.iload_n 1, 1) := by decide +kernel
theorem dX3_exchangeGain_20 : decode cX3_exchangeGain 20 = .ok (.iaload, 1) := by decide +kernel
theorem dX3_exchangeGain_21 : decode cX3_exchangeGain 21 = .ok (.iaload, 1) := by decide +kernel
theorem dX3_exchangeGain_22 : decode cX3_exchangeGain 22 = .ok (.aload_n 0, 1) := by decide +kernel
theorem dX3_exchangeGain_23 : decode cX3_exchangeGain 23 = .ok (.getfield 15, 3) := by decide +kernel
theorem dX3_exchangeGain_26 : decode cX3_exchangeGain 26 = .ok (.aload_n 0, 1) := by decide +kernel
theorem dX3_exchangeGain_27 : decode cX3_exchangeGain 27 = .ok (.getfield 24, 3) := by decide +kernel
theorem dX3_exchangeGain_30 : decode cX3_exchangeGain 30 = .ok (.iload_n 2, 1) := by decide +kernel
theorem dX3_exchangeGain_31 : decode cX3_exchangeGain 31 = .ok (.iaload, 1) := by decide +kernel
theorem dX3_exchangeGain_32 : decode cX3_exchangeGain 32 = .ok (.iaload, 1) := by decide +kernel
theorem dX3_exchangeGain_33 : decode cX3_exchangeGain 33 = .ok (.isub, 1) := by decide +kernel
theorem dX3_exchangeGain_34 : decode cX3_exchangeGain 34 = .ok (.imul, 1) := by decide +kernel
theorem dX3_exchangeGain_35 : decode cX3_exchangeGain 35 = .ok (.ireturn, 1) := by decide +kernel
set_option maxRecDepth 20000 in
theorem ggX3_makeStep_X3_bring : GoodIn wsX3_makeStep wsX3_bring := goodIn_r _ [9, 10, 11, 12, 13, 8, 14, 15, 16, 17, 22, 23, 24, 25, 26, 27, 28, 29, 30, 31, 32] (by decide +kernel) (by decide +kernel)
set_option maxRecDepth 20000 in
theorem gX3_makeStep_X3_bring : GoodIn wsX3_makeStep (wsV RX3 112 RX3 yX3_bring wsX3_bring) := goodIn_app (goodIn_of _ (by decide +kernel)) ggX3_makeStep_X3_bring
theorem dX3_makeStep_0 : decode cX3_makeStep 0 = .ok (.aload_n 0, 1) := by decide +kernel
theorem dX3_makeStep_1 : decode cX3_makeStep 1 = .ok (.aload_n 1, 1) := by decide +kernel
theorem dX3_makeStep_2 : decode cX3_makeStep 2 = .ok (.getfield 106, 3) := by decide +kernel
theorem dX3_makeStep_5 : decode cX3_makeStep 5 = .ok (.aload_n 1, 1) := by decide +kernel
theorem dX3_makeStep_6 : decode cX3_makeStep 6 = .ok (.getfield 109, 3) := by decide +kernel
theorem dX3_makeStep_9 : decode cX3_makeStep 9 = .ok (.invokevirtual 112, 3) := by decide +kernel
theorem dX3_makeStep_12 : decode cX3_makeStep 12 = .ok (.istore_n 2, 1) := by decide +kernel
theorem dX3_makeStep_13 : decode cX3_makeStep 13 = .ok (.aload_n 1, 1) := by decide +kernel
theorem dX3_makeStep_14 : decode cX3_makeStep 14 = .ok (.getfield 115, 3) := by decide +kernel
theorem dX3_makeStep_17 : decode cX3_makeStep 17 = .ok (.iconst (-1), 1) := by decide +kernel
theorem dX3_makeStep_18 : decode cX3_makeStep 18 = .ok (.if_icmp .eq 13, 3) := by decide +kernel
theorem dX3_makeStep_21 : decode cX3_makeStep 21 = .ok (.aload_n 0, 1) := by decide +kernel
theorem dX3_makeStep_22 : decode cX3_makeStep 22 = .ok (.aload_n 1, 1) := by decide +kernel
theorem dX3_makeStep_23 : decode cX3_makeStep 23 = .ok (.getfield 115, 3) := by decide +kernel
theorem dX3_makeStep_26 : decode cX3_makeStep 26 = .ok (.iload_n 2, 1) := by decide +kernel
theorem dX3_makeStep_27 : decode cX3_makeStep 27 = .ok (.invokevirtual 112, 3) := by decide +kernel
theorem dX3_makeStep_30 : decode cX3_makeStep 30 = .ok (.pop, 1) := by decide +kernel
theorem dX3_makeStep_31 : decode cX3_makeStep 31 = .ok (.aload_n 0, 1) := by decide +kernel
theorem dX3_makeStep_32 : decode cX3_makeStep 32 = .ok (.dup, 1) := by decide +kernel
theorem dX3_makeStep_33 : decode cX3_makeStep 33 = .ok (.getfield 49, 3) := by decide +kernel
theorem dX3_makeStep_36 : decode cX3_makeStep 36 = .ok (.iconst 1, 1) := by decide +kernel
theorem dX3_makeStep_37 : decode cX3_makeStep 37 = .ok (.iadd, 1) := by decide +kernel
theorem dX3_makeStep_38 : decode cX3_makeStep 38 = .ok (.putfield 49, 3) := by decide +kernel
theorem dX3_makeStep_41 : decode cX3_makeStep 41 = .ok (.return_, 1) := by decide +kernel
set_option maxRecDepth 20000 in
theorem ggX3_bring_X3_putOn : GoodIn wsX3_bring wsX3_putOn := goodIn_r _ [6, 7, 8, 9, 10, 11, 12, 13, 14, 15, 16, 17, 18, 19, 20] (by decide +kernel) (by decide +kernel)
set_option maxRecDepth 20000 in
theorem gX3_bring_X3_putOn : GoodIn wsX3_bring (wsV RX3 118 RX3 yX3_putOn wsX3_putOn) := goodIn_app (goodIn_of _ (by decide +kernel)) ggX3_bring_X3_putOn
theorem dX3_bring_0 : decode cX3_bring 0 = .ok (.aload_n 0, 1) := by decide +kernel
theorem dX3_bring_1 : decode cX3_bring 1 = .ok (.getfield 27, 3) := by decide +kernel
theorem dX3_bring_4 : decode cX3_bring 4 = .ok (.iload_n 1, 1) := by decide +kernel
theorem dX3_bring_5 : decode cX3_bring 5 = .ok (.iload_n 2, 1) := by decide +kernel
theorem dX3_bring_6 : decode cX3_bring 6 = .ok (.iastore, 1) := by decide +kernel
theorem dX3_bring_7 : decode cX3_bring 7 = .ok (.aload_n 0, 1) := by decide +kernel
theorem dX3_bring_8 : decode cX3_bring 8 = .ok (.iload_n 1, 1) := by decide +kernel
theorem dX3_bring_9 : decode cX3_bring 9 = .ok (.iload_n 2, 1) := by decide +kernel
theorem dX3_bring_10 : decode cX3_bring 10 = .ok (.invokevirtual 118, 3) := by decide +kernel
theorem dX3_bring_13 : decode cX3_bring 13 = .ok (.ireturn, 1) := by decide +kernel
