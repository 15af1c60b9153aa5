theorem dX0_init_0 : decode cX0_init 0 = .ok (.aload_n 0, 1) := by decide +kernel
theorem dX0_init_1 : decode cX0_init 1 = .ok (.invokespecial 3, 3) := by decide +kernel
theorem dX0_init_4 : decode cX0_init 4 = .ok (.aload_n 0, 1) := by decide +kernel
theorem dX0_init_5 : decode cX0_init 5 = .ok (.aload_n 1, 1) := by decide +kernel
theorem dX0_init_6 : decode cX0_init 6 = .ok (.putfield 9, 3) := by decide +kernel
theorem dX0_init_9 : decode cX0_init 9 = .ok (.aload_n 0, 1) := by decide +kernel
theorem dX0_init_10 : decode cX0_init 10 = .ok (.aload_n 2, 1) := by decide +kernel
theorem dX0_init_11 : decode cX0_init 11 = .ok (.putfield 15, 3) := by decide +kernel
theorem dX0_init_14 : decode cX0_init 14 = .ok (.aload_n 0, 1) := by decide +kernel
theorem dX0_init_15 : decode cX0_init 15 = .ok (.aload_n 3, 1) := by decide +kernel
theorem dX0_init_16 : decode cX0_init 16 = .ok (.putfield 19, 3) := by decide +kernel
theorem dX0_init_19 : decode cX0_init 19 = .ok (.aload_n 0, 1) := by decide +kernel
theorem dX0_init_20 : decode cX0_init 20 = .ok (.bipush 7, 2) := by decide +kernel
theorem dX0_init_22 : decode cX0_init 22 = .ok (.newarray .long, 2) := by decide +kernel
theorem dX0_init_24 : decode cX0_init 24 = .ok (.putfield 23, 3) := by decide +kernel
theorem dX0_init_27 : decode cX0_init 27 = .ok (.return_, 1) := by decide +kernel
set_option maxRecDepth 20000 in
theorem ggX0_lower_X1_size : GoodIn wsX0_lower wsX1_size := goodIn_r _ [7, 8, 42, 43, 44, 45, 46] (by decide +kernel) (by decide +kernel)
set_option maxRecDepth 20000 in
theorem gX0_lower_X1_size : GoodIn wsX0_lower (wsV RX0 27 RX1 yX1_size wsX1_size) := goodIn_app (goodIn_of _ (by decide +kernel)) ggX0_lower_X1_size
set_option maxRecDepth 20000 in
theorem ggX0_lower_X6_isLeader : GoodIn wsX0_lower wsX6_isLeader := goodIn_r _ [13, 14, 15, 16, 12, 17, 18, 19, 20, 21, 22, 6, 23, 8, 24, 25, 26, 27, 28, 29, 30, 31, 32, 33, 47, 48, 49, 50, 42, 43, 44, 45, 46] (by decide +kernel) (by decide +kernel)
set_option maxRecDepth 20000 in
theorem gX0_lower_X6_isLeader : GoodIn wsX0_lower (wsV RX0 33 RX6 yX6_isLeader wsX6_isLeader) := goodIn_app (goodIn_of _ (by decide +kernel)) ggX0_lower_X6_isLeader
set_option maxRecDepth 20000 in
theorem ggX0_lower_X9_powerOfTen : GoodIn wsX0_lower wsX9_powerOfTen := goodIn_r _ [36, 37] (by decide +kernel) (by decide +kernel)
set_option maxRecDepth 20000 in
theorem gX0_lower_X9_powerOfTen_n39 : GoodIn wsX0_lower (wsX9_powerOfTen) := ggX0_lower_X9_powerOfTen
theorem dX0_lower_0 : decode cX0_lower 0 = .ok (.iconst 0, 1) := by decide +kernel
theorem dX0_lower_1 : decode cX0_lower 1 = .ok (.istore_n 2, 1) := by decide +kernel
theorem dX0_lower_2 : decode cX0_lower 2 = .ok (.iconst 0, 1) := by decide +kernel
theorem dX0_lower_3 : decode cX0_lower 3 = .ok (.istore_n 3, 1) := by decide +kernel
theorem dX0_lower_4 : decode cX0_lower 4 = .ok (.iload_n 3, 1) := by decide +kernel
theorem dX0_lower_5 : decode cX0_lower 5 = .ok (.aload_n 0, 1) := by decide +kernel
theorem dX0_lower_6 : decode cX0_lower 6 = .ok (.getfield 9, 3) := by decide +kernel
theorem dX0_lower_9 : decode cX0_lower 9 = .ok (.invokevirtual 27, 3) := by decide +kernel
theorem dX0_lower_12 : decode cX0_lower 12 = .ok (.if_icmp .ge 23, 3) := by decide +kernel
theorem dX0_lower_15 : decode cX0_lower 15 = .ok (.aload_n 0, 1) := by decide +kernel
theorem dX0_lower_16 : decode cX0_lower 16 = .ok (.getfield 15, 3) := by decide +kernel
theorem dX0_lower_19 : decode cX0_lower 19 = .ok (.iload_n 3, 1) := by decide +kernel
theorem dX0_lower_20 : decode cX0_lower 20 = .ok (.invokevirtual 33, 3) := by decide +kernel
theorem dX0_lower_23 : decode cX0_lower 23 = .ok (.ifCond .eq 6, 3) := by decide +kernel
theorem dX0_lower_26 : decode cX0_lower 26 = .ok (.iinc 2 1, 3) := by decide +kernel
theorem dX0_lower_29 : decode cX0_lower 29 = .ok (.iinc 3 1, 3) := by decide +kernel
theorem dX0_lower_32 : decode cX0_lower 32 = .ok (.goto (-28), 3) := by decide +kernel
theorem dX0_lower_35 : decode cX0_lower 35 = .ok (.iload_n 2, 1) := by decide +kernel
theorem dX0_lower_36 : decode cX0_lower 36 = .ok (.iload_n 1, 1) := by decide +kernel
theorem dX0_lower_37 : decode cX0_lower 37 = .ok (.imul, 1) := by decide +kernel
theorem dX0_lower_38 : decode cX0_lower 38 = .ok (.invokestatic 39, 3) := by decide +kernel
theorem dX0_lower_41 : decode cX0_lower 41 = .ok (.lreturn, 1) := by decide +kernel
set_option maxRecDepth 20000 in
theorem ggX0_setFalls_X6_whoIsIn : GoodIn wsX0_setFalls wsX6_whoIsIn := goodIn_r _ [7, 8, 70, 71, 72, 73] (by decide +kernel) (by decide +kernel)
set_option maxRecDepth 20000 in
theorem gX0_setFalls_X6_whoIsIn : GoodIn wsX0_setFalls (wsV RX0 43 RX6 yX6_whoIsIn wsX6_whoIsIn) := goodIn_app (goodIn_of _ (by decide +kernel)) ggX0_setFalls_X6_whoIsIn
set_option maxRecDepth 20000 in
theorem ggX0_setFalls_X1_size : GoodIn wsX0_setFalls wsX1_size := goodIn_r _ [13, 14, 74, 75, 76, 77, 78] (by decide +kernel) (by decide +kernel)
set_option maxRecDepth 20000 in
theorem gX0_setFalls_X1_size : GoodIn wsX0_setFalls (wsV RX0 27 RX1 yX1_size wsX1_size) := goodIn_app (goodIn_of _ (by decide +kernel)) ggX0_setFalls_X1_size
set_option maxRecDepth 20000 in
theorem ggX0_setFalls_X6_isLeader : GoodIn wsX0_setFalls wsX6_isLeader := goodIn_r _ [18, 19, 20, 21, 6, 22, 23, 8, 24, 25, 26, 12, 27, 14, 28, 29, 30, 31, 32, 33, 34, 35, 36, 37, 70, 71, 72, 73, 74, 75, 76, 77, 78] (by decide +kernel) (by decide +kernel)
set_option maxRecDepth 20000 in
theorem gX0_setFalls_X6_isLeader : GoodIn wsX0_setFalls (wsV RX0 33 RX6 yX6_isLeader wsX6_isLeader) := goodIn_app (goodIn_of _ (by decide +kernel)) ggX0_setFalls_X6_isLeader
set_option maxRecDepth 20000 in
theorem ggX0_setFalls_X6_groupOf : GoodIn wsX0_setFalls wsX6_groupOf := goodIn_r _ [41, 23, 42, 10, 11, 12, 13, 14, 19, 20, 21, 6, 22, 8, 24, 25, 26, 27, 28, 29, 30, 31, 32, 33, 34, 35, 36, 37, 70, 71, 72, 73, 74, 75, 76, 77, 78] (by decide +kernel) (by decide +kernel)
set_option maxRecDepth 20000 in
theorem gX0_setFalls_X6_groupOf : GoodIn wsX0_setFalls (wsV RX0 46 RX6 yX6_groupOf wsX6_groupOf) := goodIn_app (goodIn_of _ (by decide +kernel)) ggX0_setFalls_X6_groupOf
set_option maxRecDepth 20000 in
theorem ggX0_setFalls_X6_streak : GoodIn wsX0_setFalls wsX6_streak := goodIn_r _ [46, 47, 70, 71, 72, 73] (by decide +kernel) (by decide +kernel)
set_option maxRecDepth 20000 in
theorem gX0_setFalls_X6_streak : GoodIn wsX0_setFalls (wsV RX0 50 RX6 yX6_streak wsX6_streak) := goodIn_app (goodIn_of _ (by decide +kernel)) ggX0_setFalls_X6_streak
set_option maxRecDepth 20000 in
theorem ggX0_setFalls_X1_errsOf : GoodIn wsX0_setFalls wsX1_errsOf := goodIn_r _ [51, 52, 53, 54, 55, 56, 57, 58, 12, 59, 60, 37, 25, 26, 27, 14, 61, 62, 63, 64, 65, 74, 75, 76, 77, 78] (by decide +kernel) (by decide +kernel)
set_option maxRecDepth 20000 in
theorem gX0_setFalls_X1_errsOf : GoodIn wsX0_setFalls (wsV RX0 53 RX1 yX1_errsOf wsX1_errsOf) := goodIn_app (goodIn_of _ (by decide +kernel)) ggX0_setFalls_X1_errsOf
theorem dX0_setFalls_0 : decode cX0_setFalls 0 = .ok (.iload_n 2, 1) := by decide +kernel
theorem dX0_setFalls_1 : decode cX0_setFalls 1 = .ok (.aload_n 0, 1) := by decide +kernel
theorem dX0_setFalls_2 : decode cX0_setFalls 2 = .ok (.getfield 15, 3) := by decide +kernel
theorem dX0_setFalls_5 : decode cX0_setFalls 5 = .ok (.invokevirtual 43, 3) := by decide +kernel
theorem dX0_setFalls_8 : decode cX0_setFalls 8 = .ok (.iconst (-1), 1) := by decide +kernel
theorem dX0_setFalls_9 : decode cX0_setFalls 9 = .ok (.ixor, 1) := by decide +kernel
theorem dX0_setFalls_10 : decode cX0_setFalls 10 = .ok (.iand, 1) := by decide +kernel
theorem dX0_setFalls_11 : decode cX0_setFalls 11 = .ok (.ifCond .eq 5, 3) := by decide +kernel
theorem dX0_setFalls_14 : decode cX0_setFalls 14 = .ok (.lconst 0, 1) := by decide +kernel
theorem dX0_setFalls_15 : decode cX0_setFalls 15 = .ok (.lreturn, 1) := by decide +kernel
theorem dX0_setFalls_16 : decode cX0_setFalls 16 = .ok (.lconst 1, 1) := by decide +kernel
theorem dX0_setFalls_17 : decode cX0_setFalls 17 = .ok (.lstore_n 3, 1) := by decide +kernel
theorem dX0_setFalls_18 : decode cX0_setFalls 18 = .ok (.iconst 0, 1) := by decide +kernel
theorem dX0_setFalls_19 : decode cX0_setFalls 19 = .ok (.istore 5, 2) := by decide +kernel
theorem dX0_setFalls_21 : decode cX0_setFalls 21 = .ok (.iload 5, 2) := by decide +kernel
theorem dX0_setFalls_23 : decode cX0_setFalls 23 = .ok (.aload_n 0, 1) := by decide +kernel
theorem dX0_setFalls_24 : decode cX0_setFalls 24 = .ok (.getfield 9, 3) := by decide +kernel
theorem dX0_setFalls_27 : decode cX0_setFalls 27 = .ok (.invokevirtual 27, 3) := by decide +kernel
theorem dX0_setFalls_30 : decode cX0_setFalls 30 = .ok (.if_icmp .ge 89, 3) := by decide +kernel
theorem dX0_setFalls_33 : decode cX0_setFalls 33 = .ok (.aload_n 0, 1) := by decide +kernel
theorem dX0_setFalls_34 : decode cX0_setFalls 34 = .ok (.getfield 15, 3) := by decide +kernel
theorem dX0_setFalls_37 : decode cX0_setFalls 37 = .ok (.iload 5, 2) := by decide +kernel
theorem dX0_setFalls_39 : decode cX0_setFalls 39 = .ok (.invokevirtual 33, 3) := by decide +kernel
theorem dX0_setFalls_42 : decode cX0_setFalls 42 = .ok (.ifCond .eq 71, 3) := by decide +kernel
theorem dX0_setFalls_45 : decode cX0_setFalls 45 = .ok (.aload_n 0, 1) := by decide +kernel
theorem dX0_setFalls_46 : decode cX0_setFalls 46 = .ok (.getfield 15, 3) := by decide +kernel
theorem dX0_setFalls_49 : decode cX0_setFalls 49 = .ok (.iload 5, 2) := by decide +kernel
theorem dX0_setFalls_51 : decode cX0_setFalls 51 = .ok (.invokevirtual 46, 3) := by decide +kernel
theorem dX0_setFalls_54 : decode cX0_setFalls 54 = .ok (.istore 6, 2) := by decide +kernel
theorem dX0_setFalls_56 : decode cX0_setFalls 56 = .ok (.aload_n 0, 1) := by decide +kernel
theorem dX0_setFalls_57 : decode cX0_setFalls 57 = .ok (.getfield 9, 3) := by decide +kernel
theorem dX0_setFalls_60 : decode cX0_setFalls 60 = .ok (.iload 5, 2) := by decide +kernel
theorem dX0_setFalls_62 : decode cX0_setFalls 62 = .ok (.iload_n 1, 1) := by decide +kernel
theorem dX0_setFalls_63 : decode cX0_setFalls 63 = .ok (.aload_n 0, 1) := by decide +kernel
theorem dX0_setFalls_64 : decode cX0_setFalls 64 = .ok (.getfield 15, 3) := by decide +kernel
theorem dX0_setFalls_67 : decode cX0_setFalls 67 = .ok (.invokevirtual 50, 3) := by decide +kernel
theorem dX0_setFalls_70 : decode cX0_setFalls 70 = .ok (.invokevirtual 53, 3) := by decide +kernel
theorem dX0_setFalls_73 : decode cX0_setFalls 73 = .ok (.istore 7, 2) := by decide +kernel
theorem dX0_setFalls_75 : decode cX0_setFalls 75 = .ok (.iload 6, 2) := by decide +kernel
theorem dX0_setFalls_77 : decode cX0_setFalls 77 = .ok (.iload_n 2, 1) := by decide +kernel
theorem dX0_setFalls_78 : decode cX0_setFalls 78 = .ok (.iand, 1) := by decide +kernel
theorem dX0_setFalls_79 : decode cX0_setFalls 79 = .ok (.iload 6, 2) := by decide +kernel
theorem dX0_setFalls_81 : decode cX0_setFalls 81 = .ok (.if_icmp .ne 12, 3) := by decide +kernel
theorem dX0_setFalls_84 : decode cX0_setFalls 84 = .ok (.lload_n 3, 1) := by decide +kernel
theorem dX0_setFalls_85 : decode cX0_setFalls 85 = .ok (.iload 7, 2) := by decide +kernel
theorem dX0_setFalls_87 : decode cX0_setFalls 87 = .ok (.i2l, 1) := by decide +kernel
theorem dX0_setFalls_88 : decode cX0_setFalls 88 = .ok (.lmul, 1) := by decide +kernel
theorem dX0_setFalls_89 : decode cX0_setFalls 89 = .ok (.lstore_n 3, 1) := by decide +kernel
theorem dX0_setFalls_90 : decode cX0_setFalls 90 = .ok (.goto 23, 3) := by decide +kernel
theorem dX0_setFalls_93 : decode cX0_setFalls 93 = .ok (.lload_n 3, 1) := by decide +kernel
theorem dX0_setFalls_94 : decode cX0_setFalls 94 = .ok (.iload 6, 2) := by decide +kernel
theorem dX0_setFalls_96 : decode cX0_setFalls 96 = .ok (.iload_n 2, 1) := by decide +kernel
theorem dX0_setFalls_97 : decode cX0_setFalls 97 = .ok (.iand, 1) := by decide +kernel
theorem dX0_setFalls_98 : decode cX0_setFalls 98 = .ok (.ifCond .ne 12, 3) := by decide +kernel
theorem dX0_setFalls_101 : decode cX0_setFalls 101 = .ok (.bipush 10, 2) := by decide +kernel
theorem dX0_setFalls_103 : decode cX0_setFalls 103 = .ok (.iload 7, 2) := by decide +kernel
theorem dX0_setFalls_105 : decode cX0_setFalls 105 = .ok (.isub, 1) := by decide +kernel
theorem dX0_setFalls_106 : decode cX0_setFalls 106 = .ok (.i2l, 1) := by decide +kernel
theorem dX0_setFalls_107 : decode cX0_setFalls 107 = .ok (.goto 4, 3) := by decide +kernel
theorem dX0_setFalls_110 : decode cX0_setFalls 110 = .ok (.lconst 0, 1) := by decide +kernel
theorem dX0_setFalls_111 : decode cX0_setFalls 111 = .ok (.lmul, 1) := by decide +kernel
theorem dX0_setFalls_112 : decode cX0_setFalls 112 = .ok (.lstore_n 3, 1) := by decide +kernel
theorem dX0_setFalls_113 : decode cX0_setFalls 113 = .ok (.iinc 5 1, 3) := by decide +kernel
theorem dX0_setFalls_116 : decode cX0_setFalls 116 = .ok (.goto (-95), 3) := by decide +kernel
theorem dX0_setFalls_119 : decode cX0_setFalls 119 = .ok (.lload_n 3, 1) := by decide +kernel
theorem dX0_setFalls_120 : decode cX0_setFalls 120 = .ok (.lreturn, 1) := by decide +kernel
set_option maxRecDepth 20000 in
theorem ggX0_numberFalls_X1_size : GoodIn wsX0_numberFalls wsX1_size := goodIn_r _ [8, 9, 79, 80, 81, 82, 83] (by decide +kernel) (by decide +kernel)
set_option maxRecDepth 20000 in
theorem gX0_numberFalls_X1_size : GoodIn wsX0_numberFalls (wsV RX0 27 RX1 yX1_size wsX1_size) := goodIn_app (goodIn_of _ (by decide +kernel)) ggX0_numberFalls_X1_size
set_option maxRecDepth 20000 in
theorem ggX0_numberFalls_X6_isLeader : GoodIn wsX0_numberFalls wsX6_isLeader := goodIn_r _ [14, 15, 16, 17, 13, 18, 19, 20, 21, 22, 23, 7, 24, 9, 25, 26, 27, 28, 29, 30, 31, 32, 33, 34, 84, 85, 86, 87, 79, 80, 81, 82, 83] (by decide +kernel) (by decide +kernel)
set_option maxRecDepth 20000 in
theorem gX0_numberFalls_X6_isLeader : GoodIn wsX0_numberFalls (wsV RX0 33 RX6 yX6_isLeader wsX6_isLeader) := goodIn_app (goodIn_of _ (by decide +kernel)) ggX0_numberFalls_X6_isLeader
set_option maxRecDepth 20000 in
theorem ggX0_numberFalls_X6_groupOf : GoodIn wsX0_numberFalls wsX6_groupOf := goodIn_r _ [38, 19, 39, 5, 6, 7, 8, 9, 15, 16, 17, 13, 18, 20, 21, 22, 23, 24, 25, 26, 27, 28, 29, 30, 31, 32, 33, 34, 84, 85, 86, 87, 79, 80, 81, 82, 83] (by decide +kernel) (by decide +kernel)
set_option maxRecDepth 20000 in
theorem gX0_numberFalls_X6_groupOf : GoodIn wsX0_numberFalls (wsV RX0 46 RX6 yX6_groupOf wsX6_groupOf) := goodIn_app (goodIn_of _ (by decide +kernel)) ggX0_numberFalls_X6_groupOf
set_option maxRecDepth 20000 in
theorem ggX0_numberFalls_J6_bitCount_0f7a4 : GoodIn wsX0_numberFalls wsJ6_bitCount_0f7a4 := goodIn_r _ [43, 44, 45, 46] (by decide +kernel) (by decide +kernel)
set_option maxRecDepth 20000 in
theorem gX0_numberFalls_J6_bitCount_0f7a4 : GoodIn wsX0_numberFalls (va_wsS RX0 57 yJ6_bitCount_0f7a4 wsJ6_bitCount_0f7a4) := goodIn_app (goodIn_of _ (by decide +kernel)) ggX0_numberFalls_J6_bitCount_0f7a4
set_option maxRecDepth 20000 in
theorem ggX0_numberFalls_X6_streak : GoodIn wsX0_numberFalls wsX6_streak := goodIn_r _ [50, 51, 84, 85, 86, 87] (by decide +kernel) (by decide +kernel)
set_option maxRecDepth 20000 in
theorem gX0_numberFalls_X6_streak : GoodIn wsX0_numberFalls (wsV RX0 50 RX6 yX6_streak wsX6_streak) := goodIn_app (goodIn_of _ (by decide +kernel)) ggX0_numberFalls_X6_streak
set_option maxRecDepth 20000 in
theorem ggX0_numberFalls_X1_errsOf : GoodIn wsX0_numberFalls wsX1_errsOf := goodIn_r _ [55, 56, 57, 58, 59, 60, 61, 62, 7, 63, 64, 34, 22, 23, 24, 9, 65, 66, 67, 68, 69, 79, 80, 81, 82, 83] (by decide +kernel) (by decide +kernel)
set_option maxRecDepth 20000 in
theorem gX0_numberFalls_X1_errsOf : GoodIn wsX0_numberFalls (wsV RX0 53 RX1 yX1_errsOf wsX1_errsOf) := goodIn_app (goodIn_of _ (by decide +kernel)) ggX0_numberFalls_X1_errsOf
set_option maxRecDepth 20000 in
theorem ggX0_numberFalls_X0_addGroup : GoodIn wsX0_numberFalls wsX0_addGroup := goodIn_r _ [74, 1, 75, 76, 77, 78] (by decide +kernel) (by decide +kernel)
set_option maxRecDepth 20000 in
theorem gX0_numberFalls_X0_addGroup : GoodIn wsX0_numberFalls (wsV RX0 62 RX0 yX0_addGroup wsX0_addGroup) := goodIn_app (goodIn_of _ (by decide +kernel)) ggX0_numberFalls_X0_addGroup
theorem dX0_numberFalls_0 : decode cX0_numberFalls 0 = .ok (.iconst 0, 1) := by decide +kernel
theorem dX0_numberFalls_1 : decode cX0_numberFalls 1 = .ok (.istore_n 3, 1) := by decide +kernel
theorem dX0_numberFalls_2 : decode cX0_numberFalls 2 = .ok (.iload_n 3, 1) := by decide +kernel
theorem dX0_numberFalls_3 : decode cX0_numberFalls 3 = .ok (.bipush 6, 2) := by decide +kernel
theorem dX0_numberFalls_5 : decode cX0_numberFalls 5 = .ok (.if_icmp .gt 24, 3) := by decide +kernel
theorem dX0_numberFalls_8 : decode cX0_numberFalls 8 = .ok (.aload_n 0, 1) := by decide +kernel
theorem dX0_numberFalls_9 : decode cX0_numberFalls 9 = .ok (.getfield 23, 3) := by decide +kernel
theorem dX0_numberFalls_12 : decode cX0_numberFalls 12 = .ok (.iload_n 3, 1) := by decide +kernel
theorem dX0_numberFalls_13 : decode cX0_numberFalls 13 = .ok (.iload_n 3, 1) := by decide +kernel
theorem dX0_numberFalls_14 : decode cX0_numberFalls 14 = .ok (.ifCond .ne 7, 3) := by decide +kernel
theorem dX0_numberFalls_17 : decode cX0_numberFalls 17 = .ok (.lconst 1, 1) := by decide +kernel
theorem dX0_numberFalls_18 : decode cX0_numberFalls 18 = .ok (.goto 4, 3) := by decide +kernel
theorem dX0_numberFalls_21 : decode cX0_numberFalls 21 = .ok (.lconst 0, 1) := by decide +kernel
theorem dX0_numberFalls_22 : decode cX0_numberFalls 22 = .ok (.lastore, 1) := by decide +kernel
theorem dX0_numberFalls_23 : decode cX0_numberFalls 23 = .ok (.iinc 3 1, 3) := by decide +kernel
theorem dX0_numberFalls_26 : decode cX0_numberFalls 26 = .ok (.goto (-24), 3) := by decide +kernel
theorem dX0_numberFalls_29 : decode cX0_numberFalls 29 = .ok (.iconst 0, 1) := by decide +kernel
theorem dX0_numberFalls_30 : decode cX0_numberFalls 30 = .ok (.istore_n 3, 1) := by decide +kernel
theorem dX0_numberFalls_31 : decode cX0_numberFalls 31 = .ok (.iload_n 3, 1) := by decide +kernel
theorem dX0_numberFalls_32 : decode cX0_numberFalls 32 = .ok (.aload_n 0, 1) := by decide +kernel
theorem dX0_numberFalls_33 : decode cX0_numberFalls 33 = .ok (.getfield 9, 3) := by decide +kernel
theorem dX0_numberFalls_36 : decode cX0_numberFalls 36 = .ok (.invokevirtual 27, 3) := by decide +kernel
theorem dX0_numberFalls_39 : decode cX0_numberFalls 39 = .ok (.if_icmp .ge 51, 3) := by decide +kernel
theorem dX0_numberFalls_42 : decode cX0_numberFalls 42 = .ok (.aload_n 0, 1) := by decide +kernel
theorem dX0_numberFalls_43 : decode cX0_numberFalls 43 = .ok (.getfield 15, 3) := by decide +kernel
theorem dX0_numberFalls_46 : decode cX0_numberFalls 46 = .ok (.iload_n 3, 1) := by decide +kernel
theorem dX0_numberFalls_47 : decode cX0_numberFalls 47 = .ok (.invokevirtual 33, 3) := by decide +kernel
theorem dX0_numberFalls_50 : decode cX0_numberFalls 50 = .ok (.ifCond .eq 34, 3) := by decide +kernel
theorem dX0_numberFalls_53 : decode cX0_numberFalls 53 = .ok (.aload_n 0, 1) := by decide +kernel
theorem dX0_numberFalls_54 : decode cX0_numberFalls 54 = .ok (.aload_n 0, 1) := by decide +kernel
theorem dX0_numberFalls_55 : decode cX0_numberFalls 55 = .ok (.getfield 15, 3) := by decide +kernel
theorem dX0_numberFalls_58 : decode cX0_numberFalls 58 = .ok (.iload_n 3, 1) := by decide +kernel
theorem dX0_numberFalls_59 : decode cX0_numberFalls 59 = .ok (.invokevirtual 46, 3) := by decide +kernel
theorem dX0_numberFalls_62 : decode cX0_numberFalls 62 = .ok (.invokestatic 57, 3) := by decide +kernel
theorem dX0_numberFalls_65 : decode cX0_numberFalls 65 = .ok (.aload_n 0, 1) := by decide +kernel
theorem dX0_numberFalls_66 : decode cX0_numberFalls 66 = .ok (.getfield 9, 3) := by decide +kernel
theorem dX0_numberFalls_69 : decode cX0_numberFalls 69 = .ok (.iload_n 3, 1) := by decide +kernel
theorem dX0_numberFalls_70 : decode cX0_numberFalls 70 = .ok (.iload_n 1, 1) := by decide +kernel
theorem dX0_numberFalls_71 : decode cX0_numberFalls 71 = .ok (.aload_n 0, 1) := by decide +kernel
theorem dX0_numberFalls_72 : decode cX0_numberFalls 72 = .ok (.getfield 15, 3) := by decide +kernel
theorem dX0_numberFalls_75 : decode cX0_numberFalls 75 = .ok (.invokevirtual 50, 3) := by decide +kernel
theorem dX0_numberFalls_78 : decode cX0_numberFalls 78 = .ok (.invokevirtual 53, 3) := by decide +kernel
theorem dX0_numberFalls_81 : decode cX0_numberFalls 81 = .ok (.invokevirtual 62, 3) := by decide +kernel
theorem dX0_numberFalls_84 : decode cX0_numberFalls 84 = .ok (.iinc 3 1, 3) := by decide +kernel
theorem dX0_numberFalls_87 : decode cX0_numberFalls 87 = .ok (.goto (-56), 3) := by decide +kernel
theorem dX0_numberFalls_90 : decode cX0_numberFalls 90 = .ok (.iload_n 2, 1) := by decide +kernel
theorem dX0_numberFalls_91 : decode cX0_numberFalls 91 = .ok (.ifCond .lt 18, 3) := by decide +kernel
theorem dX0_numberFalls_94 : decode cX0_numberFalls 94 = .ok (.iload_n 2, 1) := by decide +kernel
theorem dX0_numberFalls_95 : decode cX0_numberFalls 95 = .ok (.bipush 6, 2) := by decide +kernel
theorem dX0_numberFalls_97 : decode cX0_numberFalls 97 = .ok (.if_icmp .gt 12, 3) := by decide +kernel
theorem dX0_numberFalls_100 : decode cX0_numberFalls 100 = .ok (.aload_n 0, 1) := by decide +kernel
theorem dX0_numberFalls_101 : decode cX0_numberFalls 101 = .ok (.getfield 23, 3) := by decide +kernel
theorem dX0_numberFalls_104 : decode cX0_numberFalls 104 = .ok (.iload_n 2, 1) := by decide +kernel
theorem dX0_numberFalls_105 : decode cX0_numberFalls 105 = .ok (.laload, 1) := by decide +kernel
theorem dX0_numberFalls_106 : decode cX0_numberFalls 106 = .ok (.goto 4, 3) := by decide +kernel
theorem dX0_numberFalls_109 : decode cX0_numberFalls 109 = .ok (.lconst 0, 1) := by decide +kernel
theorem dX0_numberFalls_110 : decode cX0_numberFalls 110 = .ok (.lreturn, 1) := by decide +kernel
theorem dX0_addGroup_0 : decode cX0_addGroup 0 = .ok (.bipush 6, 2) := by decide +kernel
theorem dX0_addGroup_2 : decode cX0_addGroup 2 = .ok (.istore_n 3, 1) := by decide +kernel
theorem dX0_addGroup_3 : decode cX0_addGroup 3 = .ok (.iload_n 3, 1) := by decide +kernel
theorem dX0_addGroup_4 : decode cX0_addGroup 4 = .ok (.ifCond .lt 52, 3) := by decide +kernel
theorem dX0_addGroup_7 : decode cX0_addGroup 7 = .ok (.iload_n 3, 1) := by decide +kernel
theorem dX0_addGroup_8 : decode cX0_addGroup 8 = .ok (.iload_n 1, 1) := by decide +kernel
theorem dX0_addGroup_9 : decode cX0_addGroup 9 = .ok (.if_icmp .lt 14, 3) := by decide +kernel
theorem dX0_addGroup_12 : decode cX0_addGroup 12 = .ok (.aload_n 0, 1) := by decide +kernel
theorem dX0_addGroup_13 : decode cX0_addGroup 13 = .ok (.getfield 23, 3) := by decide +kernel
theorem dX0_addGroup_16 : decode cX0_addGroup 16 = .ok (.iload_n 3, 1) := by decide +kernel
theorem dX0_addGroup_17 : decode cX0_addGroup 17 = .ok (.iload_n 1, 1) := by decide +kernel
theorem dX0_addGroup_18 : decode cX0_addGroup 18 = .ok (.isub, 1) := by decide +kernel
theorem dX0_addGroup_19 : decode cX0_addGroup 19 = .ok (.laload, 1) := by decide +kernel
theorem dX0_addGroup_20 : decode cX0_addGroup 20 = .ok (.goto 4, 3) := by decide +kernel
theorem dX0_addGroup_23 : decode cX0_addGroup 23 = .ok (.lconst 0, 1) := by decide +kernel
theorem dX0_addGroup_24 : decode cX0_addGroup 24 = .ok (.lstore 4, 2) := by decide +kernel
theorem dX0_addGroup_26 : decode cX0_addGroup 26 = .ok (.aload_n 0, 1) := by decide +kernel
theorem dX0_addGroup_27 : decode cX0_addGroup 27 = .ok (.getfield 23, 3) := by decide +kernel
theorem dX0_addGroup_30 : decode cX0_addGroup 30 = .ok (.iload_n 3, 1) := by decide +kernel
theorem dX0_addGroup_31 : decode cX0_addGroup 31 = .ok (.aload_n 0, 1) := by decide +kernel
theorem dX0_addGroup_32 : decode cX0_addGroup 32 = .ok (.getfield 23, 3) := by decide +kernel
theorem dX0_addGroup_35 : decode cX0_addGroup 35 = .ok (.iload_n 3, 1) := by decide +kernel
theorem dX0_addGroup_36 : decode cX0_addGroup 36 = .ok (.laload, 1) := by decide +kernel
theorem dX0_addGroup_37 : decode cX0_addGroup 37 = .ok (.bipush 10, 2) := by decide +kernel
theorem dX0_addGroup_39 : decode cX0_addGroup 39 = .ok (.iload_n 2, 1) := by decide +kernel
theorem dX0_addGroup_40 : decode cX0_addGroup 40 = .ok (.isub, 1) := by decide +kernel
theorem dX0_addGroup_41 : decode cX0_addGroup 41 = .ok (.i2l, 1) := by decide +kernel
theorem dX0_addGroup_42 : decode cX0_addGroup 42 = .ok (.lmul, 1) := by decide +kernel
theorem dX0_addGroup_43 : decode cX0_addGroup 43 = .ok (.lload 4, 2) := by decide +kernel
theorem dX0_addGroup_45 : decode cX0_addGroup 45 = .ok (.iload_n 2, 1) := by decide +kernel
theorem dX0_addGroup_46 : decode cX0_addGroup 46 = .ok (.i2l, 1) := by decide +kernel
theorem dX0_addGroup_47 : decode cX0_addGroup 47 = .ok (.lmul, 1) := by decide +kernel
theorem dX0_addGroup_48 : decode cX0_addGroup 48 = .ok (.ladd, 1) := by decide +kernel
theorem dX0_addGroup_49 : decode cX0_addGroup 49 = .ok (.lastore, 1) := by decide +kernel
theorem dX0_addGroup_50 : decode cX0_addGroup 50 = .ok (.iinc 3 (-1), 3) := by decide +kernel
theorem dX0_addGroup_53 : decode cX0_addGroup 53 = .ok (.goto (-50), 3) := by decide +kernel
theorem dX0_addGroup_56 : decode cX0_addGroup 56 = .ok (.return_, 1) := by decide +kernel
set_option maxRecDepth 20000 in
theorem ggX0_leaderStays_X6_streak : GoodIn wsX0_leaderStays wsX6_streak := goodIn_r _ [8, 9, 53, 54, 55, 56] (by decide +kernel) (by decide +kernel)
set_option maxRecDepth 20000 in
theorem gX0_leaderStays_X6_streak : GoodIn wsX0_leaderStays (wsV RX0 50 RX6 yX6_streak wsX6_streak) := goodIn_app (goodIn_of _ (by decide +kernel)) ggX0_leaderStays_X6_streak
set_option maxRecDepth 20000 in
theorem ggX0_leaderStays_X7_length : GoodIn wsX0_leaderStays wsX7_length := goodIn_r _ [14, 15, 57, 58] (by decide +kernel) (by decide +kernel)
set_option maxRecDepth 20000 in
theorem gX0_leaderStays_X7_length : GoodIn wsX0_leaderStays (wsV RX0 66 RX7 yX7_length wsX7_length) := goodIn_app (goodIn_of _ (by decide +kernel)) ggX0_leaderStays_X7_length
set_option maxRecDepth 20000 in
theorem ggX0_leaderStays_X7_orderAt : GoodIn wsX0_leaderStays wsX7_orderAt := goodIn_r _ [19, 15, 20, 57, 58] (by decide +kernel) (by decide +kernel)
set_option maxRecDepth 20000 in
theorem gX0_leaderStays_X7_orderAt : GoodIn wsX0_leaderStays (wsV RX0 71 RX7 yX7_orderAt wsX7_orderAt) := goodIn_app (goodIn_of _ (by decide +kernel)) ggX0_leaderStays_X7_orderAt
set_option maxRecDepth 20000 in
theorem ggX0_leaderStays_X1_errsOf : GoodIn wsX0_leaderStays wsX1_errsOf := goodIn_r _ [25, 26, 27, 28, 29, 30, 31, 32, 24, 33, 34, 35, 36, 37, 38, 39, 40, 41, 42, 43, 44, 59, 60, 61, 62, 63] (by decide +kernel) (by decide +kernel)
set_option maxRecDepth 20000 in
theorem gX0_leaderStays_X1_errsOf : GoodIn wsX0_leaderStays (wsV RX0 53 RX1 yX1_errsOf wsX1_errsOf) := goodIn_app (goodIn_of _ (by decide +kernel)) ggX0_leaderStays_X1_errsOf
set_option maxRecDepth 20000 in
theorem ggX0_leaderStays_X9_streakBehind : GoodIn wsX0_leaderStays wsX9_streakBehind := goodIn_r _ [47, 48, 27, 28, 29] (by decide +kernel) (by decide +kernel)
set_option maxRecDepth 20000 in
theorem gX0_leaderStays_X9_streakBehind_n74 : GoodIn wsX0_leaderStays (wsX9_streakBehind) := ggX0_leaderStays_X9_streakBehind
theorem dX0_leaderStays_0 : decode cX0_leaderStays 0 = .ok (.lconst 1, 1) := by decide +kernel
theorem dX0_leaderStays_1 : decode cX0_leaderStays 1 = .ok (.lstore_n 2, 1) := by decide +kernel
theorem dX0_leaderStays_2 : decode cX0_leaderStays 2 = .ok (.aload_n 0, 1) := by decide +kernel
theorem dX0_leaderStays_3 : decode cX0_leaderStays 3 = .ok (.getfield 15, 3) := by decide +kernel
theorem dX0_leaderStays_6 : decode cX0_leaderStays 6 = .ok (.invokevirtual 50, 3) := by decide +kernel
theorem dX0_leaderStays_9 : decode cX0_leaderStays 9 = .ok (.istore 4, 2) := by decide +kernel
theorem dX0_leaderStays_11 : decode cX0_leaderStays 11 = .ok (.iconst 0, 1) := by decide +kernel
theorem dX0_leaderStays_12 : decode cX0_leaderStays 12 = .ok (.istore 5, 2) := by decide +kernel
theorem dX0_leaderStays_14 : decode cX0_leaderStays 14 = .ok (.iload 5, 2) := by decide +kernel
theorem dX0_leaderStays_16 : decode cX0_leaderStays 16 = .ok (.aload_n 0, 1) := by decide +kernel
theorem dX0_leaderStays_17 : decode cX0_leaderStays 17 = .ok (.getfield 19, 3) := by decide +kernel
theorem dX0_leaderStays_20 : decode cX0_leaderStays 20 = .ok (.invokevirtual 66, 3) := by decide +kernel
theorem dX0_leaderStays_23 : decode cX0_leaderStays 23 = .ok (.if_icmp .ge 48, 3) := by decide +kernel
theorem dX0_leaderStays_26 : decode cX0_leaderStays 26 = .ok (.aload_n 0, 1) := by decide +kernel
theorem dX0_leaderStays_27 : decode cX0_leaderStays 27 = .ok (.getfield 19, 3) := by decide +kernel
theorem dX0_leaderStays_30 : decode cX0_leaderStays 30 = .ok (.iload 5, 2) := by decide +kernel
theorem dX0_leaderStays_32 : decode cX0_leaderStays 32 = .ok (.invokevirtual 71, 3) := by decide +kernel
theorem dX0_leaderStays_35 : decode cX0_leaderStays 35 = .ok (.istore 6, 2) := by decide +kernel
theorem dX0_leaderStays_37 : decode cX0_leaderStays 37 = .ok (.lload_n 2, 1) := by decide +kernel
theorem dX0_leaderStays_38 : decode cX0_leaderStays 38 = .ok (.bipush 10, 2) := by decide +kernel
theorem dX0_leaderStays_40 : decode cX0_leaderStays 40 = .ok (.aload_n 0, 1) := by decide +kernel
theorem dX0_leaderStays_41 : decode cX0_leaderStays 41 = .ok (.getfield 9, 3) := by decide +kernel
theorem dX0_leaderStays_44 : decode cX0_leaderStays 44 = .ok (.iload_n 1, 1) := by decide +kernel
theorem dX0_leaderStays_45 : decode cX0_leaderStays 45 = .ok (.iload 6, 2) := by decide +kernel
theorem dX0_leaderStays_47 : decode cX0_leaderStays 47 = .ok (.iload 4, 2) := by decide +kernel
theorem dX0_leaderStays_49 : decode cX0_leaderStays 49 = .ok (.invokevirtual 53, 3) := by decide +kernel
theorem dX0_leaderStays_52 : decode cX0_leaderStays 52 = .ok (.isub, 1) := by decide +kernel
theorem dX0_leaderStays_53 : decode cX0_leaderStays 53 = .ok (.i2l, 1) := by decide +kernel
theorem dX0_leaderStays_54 : decode cX0_leaderStays 54 = .ok (.lmul, 1) := by decide +kernel
theorem dX0_leaderStays_55 : decode cX0_leaderStays 55 = .ok (.lstore_n 2, 1) := by decide +kernel
theorem dX0_leaderStays_56 : decode cX0_leaderStays 56 = .ok (.iload 6, 2) := by decide +kernel
theorem dX0_leaderStays_58 : decode cX0_leaderStays 58 = .ok (.iload 4, 2) := by decide +kernel
theorem dX0_leaderStays_60 : decode cX0_leaderStays 60 = .ok (.invokestatic 74, 3) := by decide +kernel
theorem dX0_leaderStays_63 : decode cX0_leaderStays 63 = .ok (.istore 4, 2) := by decide +kernel
theorem dX0_leaderStays_65 : decode cX0_leaderStays 65 = .ok (.iinc 5 1, 3) := by decide +kernel
theorem dX0_leaderStays_68 : decode cX0_leaderStays 68 = .ok (.goto (-54), 3) := by decide +kernel
theorem dX0_leaderStays_71 : decode cX0_leaderStays 71 = .ok (.lload_n 2, 1) := by decide +kernel
theorem dX0_leaderStays_72 : decode cX0_leaderStays 72 = .ok (.lreturn, 1) := by decide +kernel
set_option maxRecDepth 20000 in
theorem ggX0_justOneStays_X7_length : GoodIn wsX0_justOneStays wsX7_length := goodIn_r _ [8, 9, 97, 98] (by decide +kernel) (by decide +kernel)
set_option maxRecDepth 20000 in
theorem gX0_justOneStays_X7_length : GoodIn wsX0_justOneStays (wsV RX0 66 RX7 yX7_length wsX7_length) := goodIn_app (goodIn_of _ (by decide +kernel)) ggX0_justOneStays_X7_length
set_option maxRecDepth 20000 in
theorem ggX0_justOneStays_X9_powerOfTen : GoodIn wsX0_justOneStays wsX9_powerOfTen := goodIn_r _ [12, 13] (by decide +kernel) (by decide +kernel)
set_option maxRecDepth 20000 in
theorem gX0_justOneStays_X9_powerOfTen_n39 : GoodIn wsX0_justOneStays (wsX9_powerOfTen) := ggX0_justOneStays_X9_powerOfTen
set_option maxRecDepth 20000 in
theorem ggX0_justOneStays_X1_size : GoodIn wsX0_justOneStays wsX1_size := goodIn_r _ [18, 19, 99, 100, 101, 102, 103] (by decide +kernel) (by decide +kernel)
set_option maxRecDepth 20000 in
theorem gX0_justOneStays_X1_size : GoodIn wsX0_justOneStays (wsV RX0 27 RX1 yX1_size wsX1_size) := goodIn_app (goodIn_of _ (by decide +kernel)) ggX0_justOneStays_X1_size
set_option maxRecDepth 20000 in
theorem ggX0_justOneStays_X6_isLeader : GoodIn wsX0_justOneStays wsX6_isLeader := goodIn_r _ [24, 25, 26, 27, 23, 28, 29, 30, 31, 32, 33, 17, 34, 19, 35, 36, 37, 38, 39, 40, 41, 42, 43, 44, 104, 105, 106, 107, 99, 100, 101, 102, 103] (by decide +kernel) (by decide +kernel)
set_option maxRecDepth 20000 in
theorem gX0_justOneStays_X6_isLeader : GoodIn wsX0_justOneStays (wsV RX0 33 RX6 yX6_isLeader wsX6_isLeader) := goodIn_app (goodIn_of _ (by decide +kernel)) ggX0_justOneStays_X6_isLeader
set_option maxRecDepth 20000 in
theorem ggX0_justOneStays_X0_leaderStays : GoodIn wsX0_justOneStays wsX0_leaderStays := goodIn_r _ [49, 3, 1, 2, 50, 51, 52, 23, 53, 54, 4, 5, 6, 7, 8, 9, 55, 56, 57, 58, 59, 60, 61, 62, 17, 63, 64, 65, 66, 67, 68, 69, 70, 71, 72, 44, 32, 33, 34, 19, 73, 74, 75, 76, 77, 78, 11, 79, 80, 93, 94, 95, 96, 104, 105, 106, 107, 97, 98, 99, 100, 101, 102, 103] (by decide +kernel) (by decide +kernel)
set_option maxRecDepth 20000 in
theorem gX0_justOneStays_X0_leaderStays : GoodIn wsX0_justOneStays (wsV RX0 78 RX0 yX0_leaderStays wsX0_leaderStays) := goodIn_app (goodIn_of _ (by decide +kernel)) ggX0_justOneStays_X0_leaderStays
set_option maxRecDepth 20000 in
theorem ggX0_justOneStays_X6_groupOf : GoodIn wsX0_justOneStays wsX6_groupOf := goodIn_r _ [84, 29, 85, 15, 16, 17, 18, 19, 25, 26, 27, 23, 28, 30, 31, 32, 33, 34, 35, 36, 37, 38, 39, 40, 41, 42, 43, 44, 104, 105, 106, 107, 99, 100, 101, 102, 103] (by decide +kernel) (by decide +kernel)
set_option maxRecDepth 20000 in
theorem gX0_justOneStays_X6_groupOf : GoodIn wsX0_justOneStays (wsV RX0 46 RX6 yX6_groupOf wsX6_groupOf) := goodIn_app (goodIn_of _ (by decide +kernel)) ggX0_justOneStays_X6_groupOf
set_option maxRecDepth 20000 in
theorem ggX0_justOneStays_J6_bitCount_0f7a4 : GoodIn wsX0_justOneStays wsJ6_bitCount_0f7a4 := goodIn_r _ [89, 90, 91, 92] (by decide +kernel) (by decide +kernel)
set_option maxRecDepth 20000 in
theorem gX0_justOneStays_J6_bitCount_0f7a4 : GoodIn wsX0_justOneStays (va_wsS RX0 57 yJ6_bitCount_0f7a4 wsJ6_bitCount_0f7a4) := goodIn_app (goodIn_of _ (by decide +kernel)) ggX0_justOneStays_J6_bitCount_0f7a4
theorem dX0_justOneStays_0 : decode cX0_justOneStays 0 = .ok (.aload_n 0, 1) := by decide +kernel
theorem dX0_justOneStays_1 : decode cX0_justOneStays 1 = .ok (.getfield 19, 3) := by decide +kernel
theorem dX0_justOneStays_4 : decode cX0_justOneStays 4 = .ok (.invokevirtual 66, 3) := by decide +kernel
theorem dX0_justOneStays_7 : decode cX0_justOneStays 7 = .ok (.invokestatic 39, 3) := by decide +kernel
theorem dX0_justOneStays_10 : decode cX0_justOneStays 10 = .ok (.lstore_n 1, 1) := by decide +kernel
theorem dX0_justOneStays_11 : decode cX0_justOneStays 11 = .ok (.lconst 1, 1) := by decide +kernel
theorem dX0_justOneStays_12 : decode cX0_justOneStays 12 = .ok (.lstore_n 3, 1) := by decide +kernel
theorem dX0_justOneStays_13 : decode cX0_justOneStays 13 = .ok (.lconst 0, 1) := by decide +kernel
theorem dX0_justOneStays_14 : decode cX0_justOneStays 14 = .ok (.lstore 5, 2) := by decide +kernel
theorem dX0_justOneStays_16 : decode cX0_justOneStays 16 = .ok (.iconst 0, 1) := by decide +kernel
theorem dX0_justOneStays_17 : decode cX0_justOneStays 17 = .ok (.istore 7, 2) := by decide +kernel
theorem dX0_justOneStays_19 : decode cX0_justOneStays 19 = .ok (.iload 7, 2) := by decide +kernel
theorem dX0_justOneStays_21 : decode cX0_justOneStays 21 = .ok (.aload_n 0, 1) := by decide +kernel
theorem dX0_justOneStays_22 : decode cX0_justOneStays 22 = .ok (.getfield 9, 3) := by decide +kernel
theorem dX0_justOneStays_25 : decode cX0_justOneStays 25 = .ok (.invokevirtual 27, 3) := by decide +kernel
theorem dX0_justOneStays_28 : decode cX0_justOneStays 28 = .ok (.if_icmp .ge 84, 3) := by decide +kernel
theorem dX0_justOneStays_31 : decode cX0_justOneStays 31 = .ok (.aload_n 0, 1) := by decide +kernel
theorem dX0_justOneStays_32 : decode cX0_justOneStays 32 = .ok (.getfield 15, 3) := by decide +kernel
theorem dX0_justOneStays_35 : decode cX0_justOneStays 35 = .ok (.iload 7, 2) := by decide +kernel
theorem dX0_justOneStays_37 : decode cX0_justOneStays 37 = .ok (.invokevirtual 33, 3) := by decide +kernel
theorem dX0_justOneStays_40 : decode cX0_justOneStays 40 = .ok (.ifCond .eq 66, 3) := by decide +kernel
theorem dX0_justOneStays_43 : decode cX0_justOneStays 43 = .ok (.aload_n 0, 1) := by decide +kernel
theorem dX0_justOneStays_44 : decode cX0_justOneStays 44 = .ok (.iload 7, 2) := by decide +kernel
theorem dX0_justOneStays_46 : decode cX0_justOneStays 46 = .ok (.invokevirtual 78, 3) := by decide +kernel
theorem dX0_justOneStays_49 : decode cX0_justOneStays 49 = .ok (.lstore 8, 2) := by decide +kernel
theorem dX0_justOneStays_51 : decode cX0_justOneStays 51 = .ok (.lload_n 1, 1) := by decide +kernel
theorem dX0_justOneStays_52 : decode cX0_justOneStays 52 = .ok (.lload 8, 2) := by decide +kernel
theorem dX0_justOneStays_54 : decode cX0_justOneStays 54 = .ok (.lsub, 1) := by decide +kernel
theorem dX0_justOneStays_55 : decode cX0_justOneStays 55 = .ok (.lstore 10, 2) := by decide +kernel
theorem dX0_justOneStays_57 : decode cX0_justOneStays 57 = .ok (.aload_n 0, 1) := by decide +kernel
theorem dX0_justOneStays_58 : decode cX0_justOneStays 58 = .ok (.getfield 15, 3) := by decide +kernel
theorem dX0_justOneStays_61 : decode cX0_justOneStays 61 = .ok (.iload 7, 2) := by decide +kernel
theorem dX0_justOneStays_63 : decode cX0_justOneStays 63 = .ok (.invokevirtual 46, 3) := by decide +kernel
theorem dX0_justOneStays_66 : decode cX0_justOneStays 66 = .ok (.invokestatic 57, 3) := by decide +kernel
theorem dX0_justOneStays_69 : decode cX0_justOneStays 69 = .ok (.iconst 1, 1) := by decide +kernel
theorem dX0_justOneStays_70 : decode cX0_justOneStays 70 = .ok (.if_icmp .ne 7, 3) := by decide +kernel
theorem dX0_justOneStays_73 : decode cX0_justOneStays 73 = .ok (.iconst 1, 1) := by decide +kernel
theorem dX0_justOneStays_74 : decode cX0_justOneStays 74 = .ok (.goto 4, 3) := by decide +kernel
theorem dX0_justOneStays_77 : decode cX0_justOneStays 77 = .ok (.iconst 0, 1) := by decide +kernel
theorem dX0_justOneStays_78 : decode cX0_justOneStays 78 = .ok (.istore 12, 2) := by decide +kernel
theorem dX0_justOneStays_80 : decode cX0_justOneStays 80 = .ok (.lload 5, 2) := by decide +kernel
theorem dX0_justOneStays_82 : decode cX0_justOneStays 82 = .ok (.lload 10, 2) := by decide +kernel
theorem dX0_justOneStays_84 : decode cX0_justOneStays 84 = .ok (.lmul, 1) := by decide +kernel
theorem dX0_justOneStays_85 : decode cX0_justOneStays 85 = .ok (.iload 12, 2) := by decide +kernel
theorem dX0_justOneStays_87 : decode cX0_justOneStays 87 = .ok (.ifCond .eq 10, 3) := by decide +kernel
theorem dX0_justOneStays_90 : decode cX0_justOneStays 90 = .ok (.lload_n 3, 1) := by decide +kernel
theorem dX0_justOneStays_91 : decode cX0_justOneStays 91 = .ok (.lload 8, 2) := by decide +kernel
theorem dX0_justOneStays_93 : decode cX0_justOneStays 93 = .ok (.lmul, 1) := by decide +kernel
theorem dX0_justOneStays_94 : decode cX0_justOneStays 94 = .ok (.goto 4, 3) := by decide +kernel
theorem dX0_justOneStays_97 : decode cX0_justOneStays 97 = .ok (.lconst 0, 1) := by decide +kernel
theorem dX0_justOneStays_98 : decode cX0_justOneStays 98 = .ok (.ladd, 1) := by decide +kernel
theorem dX0_justOneStays_99 : decode cX0_justOneStays 99 = .ok (.lstore 5, 2) := by decide +kernel
theorem dX0_justOneStays_101 : decode cX0_justOneStays 101 = .ok (.lload_n 3, 1) := by decide +kernel
theorem dX0_justOneStays_102 : decode cX0_justOneStays 102 = .ok (.lload 10, 2) := by decide +kernel
theorem dX0_justOneStays_104 : decode cX0_justOneStays 104 = .ok (.lmul, 1) := by decide +kernel
theorem dX0_justOneStays_105 : decode cX0_justOneStays 105 = .ok (.lstore_n 3, 1) := by decide +kernel
theorem dX0_justOneStays_106 : decode cX0_justOneStays 106 = .ok (.iinc 7 1, 3) := by decide +kernel
theorem dX0_justOneStays_109 : decode cX0_justOneStays 109 = .ok (.goto (-90), 3) := by decide +kernel
theorem dX0_justOneStays_112 : decode cX0_justOneStays 112 = .ok (.lload 5, 2) := by decide +kernel
theorem dX0_justOneStays_114 : decode cX0_justOneStays 114 = .ok (.lreturn, 1) := by decide +kernel
set_option maxRecDepth 20000 in
theorem ggX0_bestRow_X0_rowNumber : GoodIn wsX0_bestRow wsX0_rowNumber := goodIn_r _ [6] (by decide +kernel) (by decide +kernel)
set_option maxRecDepth 20000 in
theorem gX0_bestRow_X0_rowNumber : GoodIn wsX0_bestRow (va_wsS RX0 83 yX0_rowNumber wsX0_rowNumber) := goodIn_app (goodIn_of _ (by decide +kernel)) ggX0_bestRow_X0_rowNumber
set_option maxRecDepth 20000 in
theorem ggX0_bestRow_X7_read : GoodIn wsX0_bestRow wsX7_read := goodIn_r _ [11, 12, 13, 14, 15, 16, 111, 112] (by decide +kernel) (by decide +kernel)
set_option maxRecDepth 20000 in
theorem gX0_bestRow_X7_read : GoodIn wsX0_bestRow (wsV RX0 86 RX7 yX7_read wsX7_read) := goodIn_app (goodIn_of _ (by decide +kernel)) ggX0_bestRow_X7_read
set_option maxRecDepth 20000 in
theorem ggX0_bestRow_X0_justOneStays : GoodIn wsX0_bestRow wsX0_justOneStays := goodIn_r _ [20, 2, 21, 22, 23, 24, 25, 10, 26, 12, 27, 15, 28, 29, 30, 31, 32, 33, 34, 35, 36, 37, 38, 39, 40, 41, 42, 43, 44, 45, 46, 47, 48, 49, 50, 51, 52, 53, 54, 55, 56, 57, 58, 59, 60, 61, 62, 63, 5, 64, 65, 66, 67, 68, 69, 70, 71, 72, 73, 13, 74, 75, 76, 77, 78, 79, 80, 81, 82, 83, 84, 85, 86, 87, 88, 89, 90, 91, 92, 93, 94, 95, 96, 97, 98, 99, 100, 101, 102, 103, 104, 105, 106, 107, 108, 109, 110, 111, 112, 113, 114, 115, 116, 117, 118, 119, 120, 121] (by decide +kernel) (by decide +kernel)
set_option maxRecDepth 20000 in
theorem gX0_bestRow_X0_justOneStays : GoodIn wsX0_bestRow (wsV RX0 90 RX0 yX0_justOneStays wsX0_justOneStays) := goodIn_app (goodIn_of _ (by decide +kernel)) ggX0_bestRow_X0_justOneStays
theorem dX0_bestRow_0 : decode cX0_bestRow 0 = .ok (.iconst 0, 1) := by decide +kernel
theorem dX0_bestRow_1 : decode cX0_bestRow 1 = .ok (.istore_n 2, 1) := by decide +kernel
theorem dX0_bestRow_2 : decode cX0_bestRow 2 = .ok (.ldc2_w 81, 3) := by decide +kernel
theorem dX0_bestRow_5 : decode cX0_bestRow 5 = .ok (.lstore_n 3, 1) := by decide +kernel
theorem dX0_bestRow_6 : decode cX0_bestRow 6 = .ok (.iconst 0, 1) := by decide +kernel
theorem dX0_bestRow_7 : decode cX0_bestRow 7 = .ok (.istore 5, 2) := by decide +kernel
theorem dX0_bestRow_9 : decode cX0_bestRow 9 = .ok (.iload 5, 2) := by decide +kernel
theorem dX0_bestRow_11 : decode cX0_bestRow 11 = .ok (.iconst 1, 1) := by decide +kernel
theorem dX0_bestRow_12 : decode cX0_bestRow 12 = .ok (.iconst 2, 1) := by decide +kernel
theorem dX0_bestRow_13 : decode cX0_bestRow 13 = .ok (.iload_n 1, 1) := by decide +kernel
theorem dX0_bestRow_14 : decode cX0_bestRow 14 = .ok (.imul, 1) := by decide +kernel
theorem dX0_bestRow_15 : decode cX0_bestRow 15 = .ok (.ishl, 1) := by decide +kernel
theorem dX0_bestRow_16 : decode cX0_bestRow 16 = .ok (.if_icmp .ge 49, 3) := by decide +kernel
theorem dX0_bestRow_19 : decode cX0_bestRow 19 = .ok (.iload 5, 2) := by decide +kernel
theorem dX0_bestRow_21 : decode cX0_bestRow 21 = .ok (.iload_n 1, 1) := by decide +kernel
theorem dX0_bestRow_22 : decode cX0_bestRow 22 = .ok (.invokestatic 83, 3) := by decide +kernel
theorem dX0_bestRow_25 : decode cX0_bestRow 25 = .ok (.istore 6, 2) := by decide +kernel
theorem dX0_bestRow_27 : decode cX0_bestRow 27 = .ok (.aload_n 0, 1) := by decide +kernel
theorem dX0_bestRow_28 : decode cX0_bestRow 28 = .ok (.getfield 19, 3) := by decide +kernel
theorem dX0_bestRow_31 : decode cX0_bestRow 31 = .ok (.iload 6, 2) := by decide +kernel
theorem dX0_bestRow_33 : decode cX0_bestRow 33 = .ok (.iload_n 1, 1) := by decide +kernel
theorem dX0_bestRow_34 : decode cX0_bestRow 34 = .ok (.invokevirtual 86, 3) := by decide +kernel
theorem dX0_bestRow_37 : decode cX0_bestRow 37 = .ok (.ifCond .eq 22, 3) := by decide +kernel
theorem dX0_bestRow_40 : decode cX0_bestRow 40 = .ok (.aload_n 0, 1) := by decide +kernel
theorem dX0_bestRow_41 : decode cX0_bestRow 41 = .ok (.invokevirtual 90, 3) := by decide +kernel
theorem dX0_bestRow_44 : decode cX0_bestRow 44 = .ok (.lstore 7, 2) := by decide +kernel
theorem dX0_bestRow_46 : decode cX0_bestRow 46 = .ok (.lload 7, 2) := by decide +kernel
theorem dX0_bestRow_48 : decode cX0_bestRow 48 = .ok (.lload_n 3, 1) := by decide +kernel
theorem dX0_bestRow_49 : decode cX0_bestRow 49 = .ok (.lcmp, 1) := by decide +kernel
theorem dX0_bestRow_50 : decode cX0_bestRow 50 = .ok (.ifCond .le 9, 3) := by decide +kernel
theorem dX0_bestRow_53 : decode cX0_bestRow 53 = .ok (.lload 7, 2) := by decide +kernel
theorem dX0_bestRow_55 : decode cX0_bestRow 55 = .ok (.lstore_n 3, 1) := by decide +kernel
theorem dX0_bestRow_56 : decode cX0_bestRow 56 = .ok (.iload 6, 2) := by decide +kernel
theorem dX0_bestRow_58 : decode cX0_bestRow 58 = .ok (.istore_n 2, 1) := by decide +kernel
theorem dX0_bestRow_59 : decode cX0_bestRow 59 = .ok (.iinc 5 1, 3) := by decide +kernel
theorem dX0_bestRow_62 : decode cX0_bestRow 62 = .ok (.goto (-53), 3) := by decide +kernel
theorem dX0_bestRow_65 : decode cX0_bestRow 65 = .ok (.iload_n 2, 1) := by decide +kernel
theorem dX0_bestRow_66 : decode cX0_bestRow 66 = .ok (.ireturn, 1) := by decide +kernel
theorem dX0_rowNumber_0 : decode cX0_rowNumber 0 = .ok (.iconst 0, 1) := by decide +kernel
theorem dX0_rowNumber_1 : decode cX0_rowNumber 1 = .ok (.istore_n 2, 1) := by decide +kernel
theorem dX0_rowNumber_2 : decode cX0_rowNumber 2 = .ok (.iload_n 1, 1) := by decide +kernel
theorem dX0_rowNumber_3 : decode cX0_rowNumber 3 = .ok (.iconst 1, 1) := by decide +kernel
theorem dX0_rowNumber_4 : decode cX0_rowNumber 4 = .ok (.isub, 1) := by decide +kernel
theorem dX0_rowNumber_5 : decode cX0_rowNumber 5 = .ok (.istore_n 3, 1) := by decide +kernel
theorem dX0_rowNumber_6 : decode cX0_rowNumber 6 = .ok (.iload_n 3, 1) := by decide +kernel
theorem dX0_rowNumber_7 : decode cX0_rowNumber 7 = .ok (.ifCond .lt 24, 3) := by decide +kernel
theorem dX0_rowNumber_10 : decode cX0_rowNumber 10 = .ok (.iload_n 2, 1) := by decide +kernel
theorem dX0_rowNumber_11 : decode cX0_rowNumber 11 = .ok (.bipush 10, 2) := by decide +kernel
theorem dX0_rowNumber_13 : decode cX0_rowNumber 13 = .ok (.imul, 1) := by decide +kernel
theorem dX0_rowNumber_14 : decode cX0_rowNumber 14 = .ok (.iload_n 0, 1) := by decide +kernel
theorem dX0_rowNumber_15 : decode cX0_rowNumber 15 = .ok (.iconst 2, 1) := by decide +kernel
theorem dX0_rowNumber_16 : decode cX0_rowNumber 16 = .ok (.iload_n 3, 1) := by decide +kernel
theorem dX0_rowNumber_17 : decode cX0_rowNumber 17 = .ok (.imul, 1) := by decide +kernel
theorem dX0_rowNumber_18 : decode cX0_rowNumber 18 = .ok (.ishr, 1) := by decide +kernel
theorem dX0_rowNumber_19 : decode cX0_rowNumber 19 = .ok (.iconst 3, 1) := by decide +kernel
theorem dX0_rowNumber_20 : decode cX0_rowNumber 20 = .ok (.iand, 1) := by decide +kernel
theorem dX0_rowNumber_21 : decode cX0_rowNumber 21 = .ok (.iadd, 1) := by decide +kernel
theorem dX0_rowNumber_22 : decode cX0_rowNumber 22 = .ok (.iconst 1, 1) := by decide +kernel
theorem dX0_rowNumber_23 : decode cX0_rowNumber 23 = .ok (.iadd, 1) := by decide +kernel
theorem dX0_rowNumber_24 : decode cX0_rowNumber 24 = .ok (.istore_n 2, 1) := by decide +kernel
theorem dX0_rowNumber_25 : decode cX0_rowNumber 25 = .ok (.iinc 3 (-1), 3) := by decide +kernel
theorem dX0_rowNumber_28 : decode cX0_rowNumber 28 = .ok (.goto (-22), 3) := by decide +kernel
theorem dX0_rowNumber_31 : decode cX0_rowNumber 31 = .ok (.iload_n 2, 1) := by decide +kernel
theorem dX0_rowNumber_32 : decode cX0_rowNumber 32 = .ok (.ireturn, 1) := by decide +kernel
set_option maxRecDepth 20000 in
theorem ggX0_ordersThatCould_X0_setFalls : GoodIn wsX0_ordersThatCould wsX0_setFalls := goodIn_r _ [5, 6, 7, 8, 9, 10, 11, 12, 13, 14, 15, 16, 17, 18, 19, 20, 21, 22, 23, 24, 25, 26, 27, 28, 29, 30, 31, 32, 33, 34, 35, 36, 37, 38, 39, 40, 41, 42, 43, 44, 45, 46, 47, 48, 49, 50, 51, 52, 53, 54, 55, 56, 57, 58, 59, 60, 61, 62, 63, 64, 65, 66, 67, 68, 69, 70, 71, 72, 73, 74, 75, 76, 77, 78, 79, 80, 81, 82, 83] (by decide +kernel) (by decide +kernel)
set_option maxRecDepth 20000 in
theorem gX0_ordersThatCould_X0_setFalls : GoodIn wsX0_ordersThatCould (wsV RX0 94 RX0 yX0_setFalls wsX0_setFalls) := goodIn_app (goodIn_of _ (by decide +kernel)) ggX0_ordersThatCould_X0_setFalls
theorem dX0_ordersThatCould_0 : decode cX0_ordersThatCould 0 = .ok (.iconst 0, 1) := by decide +kernel
theorem dX0_ordersThatCould_1 : decode cX0_ordersThatCould 1 = .ok (.istore_n 2, 1) := by decide +kernel
theorem dX0_ordersThatCould_2 : decode cX0_ordersThatCould 2 = .ok (.iconst 1, 1) := by decide +kernel
theorem dX0_ordersThatCould_3 : decode cX0_ordersThatCould 3 = .ok (.istore_n 3, 1) := by decide +kernel
theorem dX0_ordersThatCould_4 : decode cX0_ordersThatCould 4 = .ok (.iload_n 3, 1) := by decide +kernel
theorem dX0_ordersThatCould_5 : decode cX0_ordersThatCould 5 = .ok (.iconst 4, 1) := by decide +kernel
theorem dX0_ordersThatCould_6 : decode cX0_ordersThatCould 6 = .ok (.if_icmp .gt 26, 3) := by decide +kernel
theorem dX0_ordersThatCould_9 : decode cX0_ordersThatCould 9 = .ok (.aload_n 0, 1) := by decide +kernel
theorem dX0_ordersThatCould_10 : decode cX0_ordersThatCould 10 = .ok (.iload_n 3, 1) := by decide +kernel
theorem dX0_ordersThatCould_11 : decode cX0_ordersThatCould 11 = .ok (.iload_n 1, 1) := by decide +kernel
theorem dX0_ordersThatCould_12 : decode cX0_ordersThatCould 12 = .ok (.invokevirtual 94, 3) := by decide +kernel
theorem dX0_ordersThatCould_15 : decode cX0_ordersThatCould 15 = .ok (.lconst 0, 1) := by decide +kernel
theorem dX0_ordersThatCould_16 : decode cX0_ordersThatCould 16 = .ok (.lcmp, 1) := by decide +kernel
theorem dX0_ordersThatCould_17 : decode cX0_ordersThatCould 17 = .ok (.ifCond .le 9, 3) := by decide +kernel
theorem dX0_ordersThatCould_20 : decode cX0_ordersThatCould 20 = .ok (.iload_n 2, 1) := by decide +kernel
theorem dX0_ordersThatCould_21 : decode cX0_ordersThatCould 21 = .ok (.iconst 1, 1) := by decide +kernel
theorem dX0_ordersThatCould_22 : decode cX0_ordersThatCould 22 = .ok (.iload_n 3, 1) := by decide +kernel
theorem dX0_ordersThatCould_23 : decode cX0_ordersThatCould 23 = .ok (.ishl, 1) := by decide +kernel
theorem dX0_ordersThatCould_24 : decode cX0_ordersThatCould 24 = .ok (.ior, 1) := by decide +kernel
theorem dX0_ordersThatCould_25 : decode cX0_ordersThatCould 25 = .ok (.istore_n 2, 1) := by decide +kernel
theorem dX0_ordersThatCould_26 : decode cX0_ordersThatCould 26 = .ok (.iinc 3 1, 3) := by decide +kernel
theorem dX0_ordersThatCould_29 : decode cX0_ordersThatCould 29 = .ok (.goto (-25), 3) := by decide +kernel
theorem dX0_ordersThatCould_32 : decode cX0_ordersThatCould 32 = .ok (.iload_n 2, 1) := by decide +kernel
theorem dX0_ordersThatCould_33 : decode cX0_ordersThatCould 33 = .ok (.ireturn, 1) := by decide +kernel
set_option maxRecDepth 20000 in
theorem ggX0_likeliestOrder_X0_setFalls : GoodIn wsX0_likeliestOrder wsX0_setFalls := goodIn_r _ [5, 6, 7, 8, 9, 10, 11, 12, 13, 14, 15, 16, 17, 18, 19, 20, 21, 22, 23, 24, 25, 26, 27, 28, 29, 30, 31, 32, 33, 34, 35, 36, 37, 38, 39, 40, 41, 42, 43, 44, 45, 46, 47, 48, 49, 50, 51, 52, 53, 54, 55, 56, 57, 58, 59, 60, 61, 62, 63, 64, 65, 66, 67, 68, 69, 70, 71, 72, 73, 74, 75, 76, 77, 78, 79, 80, 81, 82, 83] (by decide +kernel) (by decide +kernel)
set_option maxRecDepth 20000 in
theorem gX0_likeliestOrder_X0_setFalls : GoodIn wsX0_likeliestOrder (wsV RX0 94 RX0 yX0_setFalls wsX0_setFalls) := goodIn_app (goodIn_of _ (by decide +kernel)) ggX0_likeliestOrder_X0_setFalls
theorem dX0_likeliestOrder_0 : decode cX0_likeliestOrder 0 = .ok (.bipush (-9), 2) := by decide +kernel
theorem dX0_likeliestOrder_2 : decode cX0_likeliestOrder 2 = .ok (.istore_n 2, 1) := by decide +kernel
theorem dX0_likeliestOrder_3 : decode cX0_likeliestOrder 3 = .ok (.lconst 0, 1) := by decide +kernel
theorem dX0_likeliestOrder_4 : decode cX0_likeliestOrder 4 = .ok (.lstore_n 3, 1) := by decide +kernel
theorem dX0_likeliestOrder_5 : decode cX0_likeliestOrder 5 = .ok (.iconst 1, 1) := by decide +kernel
theorem dX0_likeliestOrder_6 : decode cX0_likeliestOrder 6 = .ok (.istore 5, 2) := by decide +kernel
theorem dX0_likeliestOrder_8 : decode cX0_likeliestOrder 8 = .ok (.iload 5, 2) := by decide +kernel
theorem dX0_likeliestOrder_10 : decode cX0_likeliestOrder 10 = .ok (.iconst 4, 1) := by decide +kernel
theorem dX0_likeliestOrder_11 : decode cX0_likeliestOrder 11 = .ok (.if_icmp .gt 31, 3) := by decide +kernel
theorem dX0_likeliestOrder_14 : decode cX0_likeliestOrder 14 = .ok (.aload_n 0, 1) := by decide +kernel
theorem dX0_likeliestOrder_15 : decode cX0_likeliestOrder 15 = .ok (.iload 5, 2) := by decide +kernel
theorem dX0_likeliestOrder_17 : decode cX0_likeliestOrder 17 = .ok (.iload_n 1, 1) := by decide +kernel
theorem dX0_likeliestOrder_18 : decode cX0_likeliestOrder 18 = .ok (.invokevirtual 94, 3) := by decide +kernel
theorem dX0_likeliestOrder_21 : decode cX0_likeliestOrder 21 = .ok (.lstore 6, 2) := by decide +kernel
theorem dX0_likeliestOrder_23 : decode cX0_likeliestOrder 23 = .ok (.lload 6, 2) := by decide +kernel
theorem dX0_likeliestOrder_25 : decode cX0_likeliestOrder 25 = .ok (.lload_n 3, 1) := by decide +kernel
theorem dX0_likeliestOrder_26 : decode cX0_likeliestOrder 26 = .ok (.lcmp, 1) := by decide +kernel
theorem dX0_likeliestOrder_27 : decode cX0_likeliestOrder 27 = .ok (.ifCond .le 9, 3) := by decide +kernel
theorem dX0_likeliestOrder_30 : decode cX0_likeliestOrder 30 = .ok (.lload 6, 2) := by decide +kernel
theorem dX0_likeliestOrder_32 : decode cX0_likeliestOrder 32 = .ok (.lstore_n 3, 1) := by decide +kernel
theorem dX0_likeliestOrder_33 : decode cX0_likeliestOrder 33 = .ok (.iload 5, 2) := by decide +kernel
theorem dX0_likeliestOrder_35 : decode cX0_likeliestOrder 35 = .ok (.istore_n 2, 1) := by decide +kernel
theorem dX0_likeliestOrder_36 : decode cX0_likeliestOrder 36 = .ok (.iinc 5 1, 3) := by decide +kernel
theorem dX0_likeliestOrder_39 : decode cX0_likeliestOrder 39 = .ok (.goto (-31), 3) := by decide +kernel
theorem dX0_likeliestOrder_42 : decode cX0_likeliestOrder 42 = .ok (.iload_n 2, 1) := by decide +kernel
theorem dX0_likeliestOrder_43 : decode cX0_likeliestOrder 43 = .ok (.ireturn, 1) := by decide +kernel
