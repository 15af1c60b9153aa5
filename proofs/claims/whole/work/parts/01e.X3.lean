theorem dX3_init_0 : decode cX3_init 0 = .ok (.aload_n 0, 1) := by decide +kernel
theorem dX3_init_1 : decode cX3_init 1 = .ok (.invokespecial 1, 3) := by decide +kernel
theorem dX3_init_4 : decode cX3_init 4 = .ok (.aload_n 0, 1) := by decide +kernel
theorem dX3_init_5 : decode cX3_init 5 = .ok (.iconst 0, 1) := by decide +kernel
theorem dX3_init_6 : decode cX3_init 6 = .ok (.putfield 7, 3) := by decide +kernel
theorem dX3_init_9 : decode cX3_init 9 = .ok (.return_, 1) := by decide +kernel
theorem dX3_isKept_0 : decode cX3_isKept 0 = .ok (.aload_n 0, 1) := by decide +kernel
theorem dX3_isKept_1 : decode cX3_isKept 1 = .ok (.getfield 7, 3) := by decide +kernel
theorem dX3_isKept_4 : decode cX3_isKept 4 = .ok (.ireturn, 1) := by decide +kernel
theorem dX3_forget_0 : decode cX3_forget 0 = .ok (.aload_n 0, 1) := by decide +kernel
theorem dX3_forget_1 : decode cX3_forget 1 = .ok (.iconst 0, 1) := by decide +kernel
theorem dX3_forget_2 : decode cX3_forget 2 = .ok (.putfield 7, 3) := by decide +kernel
theorem dX3_forget_5 : decode cX3_forget 5 = .ok (.return_, 1) := by decide +kernel
set_option maxRecDepth 20000 in
theorem ggX3_take_X6_whoIsIn : GoodIn wsX3_take wsX6_whoIsIn := goodIn_r _ [9, 10, 25, 26, 27, 28] (by decide +kernel) (by decide +kernel)
set_option maxRecDepth 20000 in
theorem gX3_take_X6_whoIsIn : GoodIn wsX3_take (wsV RX3 13 RX6 yX6_whoIsIn wsX6_whoIsIn) := goodIn_app (goodIn_of _ (by decide +kernel)) ggX3_take_X6_whoIsIn
set_option maxRecDepth 20000 in
theorem ggX3_take_X6_streak : GoodIn wsX3_take wsX6_streak := goodIn_r _ [14, 15, 25, 26, 27, 28] (by decide +kernel) (by decide +kernel)
set_option maxRecDepth 20000 in
theorem gX3_take_X6_streak : GoodIn wsX3_take (wsV RX3 23 RX6 yX6_streak wsX6_streak) := goodIn_app (goodIn_of _ (by decide +kernel)) ggX3_take_X6_streak
set_option maxRecDepth 20000 in
theorem ggX3_take_X6_theLot : GoodIn wsX3_take wsX6_theLot := goodIn_r _ [19, 20, 25, 26, 27, 28] (by decide +kernel) (by decide +kernel)
set_option maxRecDepth 20000 in
theorem gX3_take_X6_theLot : GoodIn wsX3_take (wsV RX3 28 RX6 yX6_theLot wsX6_theLot) := goodIn_app (goodIn_of _ (by decide +kernel)) ggX3_take_X6_theLot
theorem dX3_take_0 : decode cX3_take 0 = .ok (.aload_n 0, 1) := by decide +kernel
theorem dX3_take_1 : decode cX3_take 1 = .ok (.iconst 1, 1) := by decide +kernel
theorem dX3_take_2 : decode cX3_take 2 = .ok (.putfield 7, 3) := by decide +kernel
theorem dX3_take_5 : decode cX3_take 5 = .ok (.aload_n 0, 1) := by decide +kernel
theorem dX3_take_6 : decode cX3_take 6 = .ok (.aload_n 1, 1) := by decide +kernel
theorem dX3_take_7 : decode cX3_take 7 = .ok (.invokevirtual 13, 3) := by decide +kernel
theorem dX3_take_10 : decode cX3_take 10 = .ok (.putfield 19, 3) := by decide +kernel
theorem dX3_take_13 : decode cX3_take 13 = .ok (.aload_n 0, 1) := by decide +kernel
theorem dX3_take_14 : decode cX3_take 14 = .ok (.aload_n 1, 1) := by decide +kernel
theorem dX3_take_15 : decode cX3_take 15 = .ok (.invokevirtual 23, 3) := by decide +kernel
theorem dX3_take_18 : decode cX3_take 18 = .ok (.putfield 26, 3) := by decide +kernel
theorem dX3_take_21 : decode cX3_take 21 = .ok (.aload_n 0, 1) := by decide +kernel
theorem dX3_take_22 : decode cX3_take 22 = .ok (.aload_n 1, 1) := by decide +kernel
theorem dX3_take_23 : decode cX3_take 23 = .ok (.invokevirtual 28, 3) := by decide +kernel
theorem dX3_take_26 : decode cX3_take 26 = .ok (.putfield 31, 3) := by decide +kernel
theorem dX3_take_29 : decode cX3_take 29 = .ok (.return_, 1) := by decide +kernel
set_option maxRecDepth 20000 in
theorem ggX3_giveTo_X6_become : GoodIn wsX3_giveTo wsX6_become := goodIn_r _ [8, 9, 10, 20, 21, 22, 23] (by decide +kernel) (by decide +kernel)
set_option maxRecDepth 20000 in
theorem gX3_giveTo_X6_become : GoodIn wsX3_giveTo (wsV RX3 34 RX6 yX6_become wsX6_become) := goodIn_app (goodIn_of _ (by decide +kernel)) ggX3_giveTo_X6_become
set_option maxRecDepth 20000 in
theorem ggX3_giveTo_X6_setLot : GoodIn wsX3_giveTo wsX6_setLot := goodIn_r _ [14, 15, 20, 21, 22, 23] (by decide +kernel) (by decide +kernel)
set_option maxRecDepth 20000 in
theorem gX3_giveTo_X6_setLot : GoodIn wsX3_giveTo (wsV RX3 38 RX6 yX6_setLot wsX6_setLot) := goodIn_app (goodIn_of _ (by decide +kernel)) ggX3_giveTo_X6_setLot
theorem dX3_giveTo_0 : decode cX3_giveTo 0 = .ok (.aload_n 1, 1) := by decide +kernel
theorem dX3_giveTo_1 : decode cX3_giveTo 1 = .ok (.aload_n 0, 1) := by decide +kernel
theorem dX3_giveTo_2 : decode cX3_giveTo 2 = .ok (.getfield 19, 3) := by decide +kernel
theorem dX3_giveTo_5 : decode cX3_giveTo 5 = .ok (.aload_n 0, 1) := by decide +kernel
theorem dX3_giveTo_6 : decode cX3_giveTo 6 = .ok (.getfield 26, 3) := by decide +kernel
theorem dX3_giveTo_9 : decode cX3_giveTo 9 = .ok (.invokevirtual 34, 3) := by decide +kernel
theorem dX3_giveTo_12 : decode cX3_giveTo 12 = .ok (.aload_n 1, 1) := by decide +kernel
theorem dX3_giveTo_13 : decode cX3_giveTo 13 = .ok (.aload_n 0, 1) := by decide +kernel
theorem dX3_giveTo_14 : decode cX3_giveTo 14 = .ok (.getfield 31, 3) := by decide +kernel
theorem dX3_giveTo_17 : decode cX3_giveTo 17 = .ok (.invokevirtual 38, 3) := by decide +kernel
theorem dX3_giveTo_20 : decode cX3_giveTo 20 = .ok (.return_, 1) := by decide +kernel
