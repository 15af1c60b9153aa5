theorem dX4_init_0 : decode cX4_init 0 = .ok (.aload_n 0, 1) := by decide +kernel
theorem dX4_init_1 : decode cX4_init 1 = .ok (.invokespecial 3, 3) := by decide +kernel
theorem dX4_init_4 : decode cX4_init 4 = .ok (.aload_n 0, 1) := by decide +kernel
theorem dX4_init_5 : decode cX4_init 5 = .ok (.aload_n 1, 1) := by decide +kernel
theorem dX4_init_6 : decode cX4_init 6 = .ok (.putfield 9, 3) := by decide +kernel
theorem dX4_init_9 : decode cX4_init 9 = .ok (.aload_n 0, 1) := by decide +kernel
theorem dX4_init_10 : decode cX4_init 10 = .ok (.aload_n 2, 1) := by decide +kernel
theorem dX4_init_11 : decode cX4_init 11 = .ok (.putfield 15, 3) := by decide +kernel
theorem dX4_init_14 : decode cX4_init 14 = .ok (.return_, 1) := by decide +kernel
theorem dX4_theTrace_0 : decode cX4_theTrace 0 = .ok (.aload_n 0, 1) := by decide +kernel
theorem dX4_theTrace_1 : decode cX4_theTrace 1 = .ok (.getfield 19, 3) := by decide +kernel
theorem dX4_theTrace_4 : decode cX4_theTrace 4 = .ok (.lreturn, 1) := by decide +kernel
set_option maxRecDepth 20000 in
theorem ggX4_rateAs_X4_asChild : GoodIn wsX4_rateAs wsX4_asChild := goodIn_r _ [6, 7, 8, 9, 10, 11, 12, 13, 14, 15, 16, 17, 18, 19, 78, 79, 80, 81, 82, 83, 84, 85] (by decide +kernel) (by decide +kernel)
set_option maxRecDepth 20000 in
theorem gX4_rateAs_X4_asChild : GoodIn wsX4_rateAs (wsV RX4 23 RX4 yX4_asChild wsX4_asChild) := goodIn_app (goodIn_of _ (by decide +kernel)) ggX4_rateAs_X4_asChild
set_option maxRecDepth 20000 in
theorem ggX4_rateAs_X4_asDreamer : GoodIn wsX4_rateAs wsX4_asDreamer := goodIn_r _ [23, 7, 24, 25, 2, 3, 4, 5, 6, 8, 9, 10, 11, 12, 13, 14, 15, 16, 17, 18, 19, 26, 27, 28, 29, 30, 31, 78, 79, 80, 81, 82, 83, 84, 85, 86, 87, 88, 89] (by decide +kernel) (by decide +kernel)
set_option maxRecDepth 20000 in
theorem gX4_rateAs_X4_asDreamer : GoodIn wsX4_rateAs (wsV RX4 27 RX4 yX4_asDreamer wsX4_asDreamer) := goodIn_app (goodIn_of _ (by decide +kernel)) ggX4_rateAs_X4_asDreamer
set_option maxRecDepth 20000 in
theorem ggX4_rateAs_X4_asWatcher : GoodIn wsX4_rateAs wsX4_asWatcher := goodIn_r _ [35, 7, 36, 8, 2, 3, 4, 5, 6, 9, 10, 11, 12, 13, 14, 15, 16, 17, 18, 19, 37, 38, 39, 40, 41, 78, 79, 80, 81, 82, 83, 84, 85] (by decide +kernel) (by decide +kernel)
set_option maxRecDepth 20000 in
theorem gX4_rateAs_X4_asWatcher : GoodIn wsX4_rateAs (wsV RX4 30 RX4 yX4_asWatcher wsX4_asWatcher) := goodIn_app (goodIn_of _ (by decide +kernel)) ggX4_rateAs_X4_asWatcher
set_option maxRecDepth 20000 in
theorem ggX4_rateAs_X4_asRunner : GoodIn wsX4_rateAs wsX4_asRunner := goodIn_r _ [45, 7, 46, 20, 21, 22, 5, 23, 24, 25, 2, 3, 4, 6, 8, 9, 10, 11, 12, 13, 14, 15, 16, 17, 18, 19, 26, 27, 28, 29, 30, 31, 78, 79, 80, 81, 82, 83, 84, 85, 86, 87, 88, 89] (by decide +kernel) (by decide +kernel)
set_option maxRecDepth 20000 in
theorem gX4_rateAs_X4_asRunner : GoodIn wsX4_rateAs (wsV RX4 33 RX4 yX4_asRunner wsX4_asRunner) := goodIn_app (goodIn_of _ (by decide +kernel)) ggX4_rateAs_X4_asRunner
set_option maxRecDepth 20000 in
theorem ggX4_rateAs_X4_asCopier : GoodIn wsX4_rateAs wsX4_asCopier := goodIn_r _ [50, 7, 51, 8, 32, 33, 34, 5, 35, 36, 2, 3, 4, 6, 9, 10, 11, 12, 13, 14, 15, 16, 17, 18, 19, 37, 38, 39, 40, 41, 52, 53, 54, 55, 56, 57, 58, 59, 60, 78, 79, 80, 81, 82, 83, 84, 85] (by decide +kernel) (by decide +kernel)
set_option maxRecDepth 20000 in
theorem gX4_rateAs_X4_asCopier : GoodIn wsX4_rateAs (wsV RX4 36 RX4 yX4_asCopier wsX4_asCopier) := goodIn_app (goodIn_of _ (by decide +kernel)) ggX4_rateAs_X4_asCopier
set_option maxRecDepth 20000 in
theorem ggX4_rateAs_X4_asListener : GoodIn wsX4_rateAs wsX4_asListener := goodIn_r _ [64, 7, 65, 25, 2, 3, 4, 5, 6, 8, 9, 10, 11, 12, 13, 14, 15, 16, 17, 18, 19, 66, 67, 68, 29, 69, 70, 71, 72, 73, 74, 75, 76, 77, 78, 79, 80, 81, 82, 83, 84, 85, 86, 87, 88, 89] (by decide +kernel) (by decide +kernel)
set_option maxRecDepth 20000 in
theorem gX4_rateAs_X4_asListener : GoodIn wsX4_rateAs (wsV RX4 39 RX4 yX4_asListener wsX4_asListener) := goodIn_app (goodIn_of _ (by decide +kernel)) ggX4_rateAs_X4_asListener
theorem dX4_rateAs_0 : decode cX4_rateAs 0 = .ok (.iload_n 1, 1) := by decide +kernel
theorem dX4_rateAs_1 : decode cX4_rateAs 1 = .ok (.tableswitch 75 0 5 #[39, 45, 51, 57, 63, 69], 39) := by decide +kernel
theorem dX4_rateAs_40 : decode cX4_rateAs 40 = .ok (.aload_n 0, 1) := by decide +kernel
theorem dX4_rateAs_41 : decode cX4_rateAs 41 = .ok (.iload_n 2, 1) := by decide +kernel
theorem dX4_rateAs_42 : decode cX4_rateAs 42 = .ok (.invokevirtual 23, 3) := by decide +kernel
theorem dX4_rateAs_45 : decode cX4_rateAs 45 = .ok (.ireturn, 1) := by decide +kernel
theorem dX4_rateAs_46 : decode cX4_rateAs 46 = .ok (.aload_n 0, 1) := by decide +kernel
theorem dX4_rateAs_47 : decode cX4_rateAs 47 = .ok (.iload_n 2, 1) := by decide +kernel
theorem dX4_rateAs_48 : decode cX4_rateAs 48 = .ok (.invokevirtual 27, 3) := by decide +kernel
theorem dX4_rateAs_51 : decode cX4_rateAs 51 = .ok (.ireturn, 1) := by decide +kernel
theorem dX4_rateAs_52 : decode cX4_rateAs 52 = .ok (.aload_n 0, 1) := by decide +kernel
theorem dX4_rateAs_53 : decode cX4_rateAs 53 = .ok (.iload_n 2, 1) := by decide +kernel
theorem dX4_rateAs_54 : decode cX4_rateAs 54 = .ok (.invokevirtual 30, 3) := by decide +kernel
theorem dX4_rateAs_57 : decode cX4_rateAs 57 = .ok (.ireturn, 1) := by decide +kernel
theorem dX4_rateAs_58 : decode cX4_rateAs 58 = .ok (.aload_n 0, 1) := by decide +kernel
theorem dX4_rateAs_59 : decode cX4_rateAs 59 = .ok (.iload_n 2, 1) := by decide +kernel
theorem dX4_rateAs_60 : decode cX4_rateAs 60 = .ok (.invokevirtual 33, 3) := by decide +kernel
theorem dX4_rateAs_63 : decode cX4_rateAs 63 = .ok (.ireturn, 1) := by decide +kernel
theorem dX4_rateAs_64 : decode cX4_rateAs 64 = .ok (.aload_n 0, 1) := by decide +kernel
theorem dX4_rateAs_65 : decode cX4_rateAs 65 = .ok (.iload_n 2, 1) := by decide +kernel
theorem dX4_rateAs_66 : decode cX4_rateAs 66 = .ok (.invokevirtual 36, 3) := by decide +kernel
theorem dX4_rateAs_69 : decode cX4_rateAs 69 = .ok (.ireturn, 1) := by decide +kernel
theorem dX4_rateAs_70 : decode cX4_rateAs 70 = .ok (.aload_n 0, 1) := by decide +kernel
theorem dX4_rateAs_71 : decode cX4_rateAs 71 = .ok (.iload_n 2, 1) := by decide +kernel
theorem dX4_rateAs_72 : decode cX4_rateAs 72 = .ok (.invokevirtual 39, 3) := by decide +kernel
theorem dX4_rateAs_75 : decode cX4_rateAs 75 = .ok (.ireturn, 1) := by decide +kernel
theorem dX4_rateAs_76 : decode cX4_rateAs 76 = .ok (.ldc 42, 2) := by decide +kernel
theorem dX4_rateAs_78 : decode cX4_rateAs 78 = .ok (.ireturn, 1) := by decide +kernel
set_option maxRecDepth 20000 in
theorem ggX4_asChild_X1_slipOf : GoodIn wsX4_asChild wsX1_slipOf := goodIn_r _ [7, 8, 9, 10, 11, 6, 12, 13, 17, 18, 19, 20, 21] (by decide +kernel) (by decide +kernel)
set_option maxRecDepth 20000 in
theorem gX4_asChild_X1_slipOf : GoodIn wsX4_asChild (wsV RX4 43 RX1 yX1_slipOf wsX1_slipOf) := goodIn_app (goodIn_of _ (by decide +kernel)) ggX4_asChild_X1_slipOf
theorem dX4_asChild_0 : decode cX4_asChild 0 = .ok (.aload_n 0, 1) := by decide +kernel
theorem dX4_asChild_1 : decode cX4_asChild 1 = .ok (.dup, 1) := by decide +kernel
theorem dX4_asChild_2 : decode cX4_asChild 2 = .ok (.getfield 19, 3) := by decide +kernel
theorem dX4_asChild_5 : decode cX4_asChild 5 = .ok (.lconst 1, 1) := by decide +kernel
theorem dX4_asChild_6 : decode cX4_asChild 6 = .ok (.ladd, 1) := by decide +kernel
theorem dX4_asChild_7 : decode cX4_asChild 7 = .ok (.putfield 19, 3) := by decide +kernel
theorem dX4_asChild_10 : decode cX4_asChild 10 = .ok (.aload_n 0, 1) := by decide +kernel
theorem dX4_asChild_11 : decode cX4_asChild 11 = .ok (.getfield 9, 3) := by decide +kernel
theorem dX4_asChild_14 : decode cX4_asChild 14 = .ok (.iload_n 1, 1) := by decide +kernel
theorem dX4_asChild_15 : decode cX4_asChild 15 = .ok (.invokevirtual 43, 3) := by decide +kernel
theorem dX4_asChild_18 : decode cX4_asChild 18 = .ok (.ireturn, 1) := by decide +kernel
set_option maxRecDepth 20000 in
theorem ggX4_asDreamer_X4_asChild : GoodIn wsX4_asDreamer wsX4_asChild := goodIn_r _ [8, 1, 9, 10, 11, 12, 13, 14, 15, 16, 17, 18, 19, 20, 27, 28, 29, 30, 31, 32, 33, 34] (by decide +kernel) (by decide +kernel)
set_option maxRecDepth 20000 in
theorem gX4_asDreamer_X4_asChild : GoodIn wsX4_asDreamer (wsV RX4 23 RX4 yX4_asChild wsX4_asChild) := goodIn_app (goodIn_of _ (by decide +kernel)) ggX4_asDreamer_X4_asChild
set_option maxRecDepth 20000 in
theorem ggX4_asDreamer_X6_streak : GoodIn wsX4_asDreamer wsX6_streak := goodIn_r _ [25, 26, 35, 36, 37, 38] (by decide +kernel) (by decide +kernel)
set_option maxRecDepth 20000 in
theorem gX4_asDreamer_X6_streak : GoodIn wsX4_asDreamer (wsV RX4 50 RX6 yX6_streak wsX6_streak) := goodIn_app (goodIn_of _ (by decide +kernel)) ggX4_asDreamer_X6_streak
theorem dX4_asDreamer_0 : decode cX4_asDreamer 0 = .ok (.aload_n 0, 1) := by decide +kernel
theorem dX4_asDreamer_1 : decode cX4_asDreamer 1 = .ok (.dup, 1) := by decide +kernel
theorem dX4_asDreamer_2 : decode cX4_asDreamer 2 = .ok (.getfield 19, 3) := by decide +kernel
theorem dX4_asDreamer_5 : decode cX4_asDreamer 5 = .ok (.ldc2_w 48, 3) := by decide +kernel
theorem dX4_asDreamer_8 : decode cX4_asDreamer 8 = .ok (.ladd, 1) := by decide +kernel
theorem dX4_asDreamer_9 : decode cX4_asDreamer 9 = .ok (.putfield 19, 3) := by decide +kernel
theorem dX4_asDreamer_12 : decode cX4_asDreamer 12 = .ok (.aload_n 0, 1) := by decide +kernel
theorem dX4_asDreamer_13 : decode cX4_asDreamer 13 = .ok (.iload_n 1, 1) := by decide +kernel
theorem dX4_asDreamer_14 : decode cX4_asDreamer 14 = .ok (.invokevirtual 23, 3) := by decide +kernel
theorem dX4_asDreamer_17 : decode cX4_asDreamer 17 = .ok (.aload_n 0, 1) := by decide +kernel
theorem dX4_asDreamer_18 : decode cX4_asDreamer 18 = .ok (.getfield 15, 3) := by decide +kernel
theorem dX4_asDreamer_21 : decode cX4_asDreamer 21 = .ok (.invokevirtual 50, 3) := by decide +kernel
theorem dX4_asDreamer_24 : decode cX4_asDreamer 24 = .ok (.iadd, 1) := by decide +kernel
theorem dX4_asDreamer_25 : decode cX4_asDreamer 25 = .ok (.ireturn, 1) := by decide +kernel
set_option maxRecDepth 20000 in
theorem ggX4_asWatcher_X4_asChild : GoodIn wsX4_asWatcher wsX4_asChild := goodIn_r _ [8, 1, 3, 9, 10, 11, 12, 13, 14, 15, 16, 17, 18, 19, 25, 26, 27, 28, 29, 30, 31, 32] (by decide +kernel) (by decide +kernel)
set_option maxRecDepth 20000 in
theorem gX4_asWatcher_X4_asChild : GoodIn wsX4_asWatcher (wsV RX4 23 RX4 yX4_asChild wsX4_asChild) := goodIn_app (goodIn_of _ (by decide +kernel)) ggX4_asWatcher_X4_asChild
set_option maxRecDepth 20000 in
theorem ggX4_asWatcher_X1_lateOf : GoodIn wsX4_asWatcher wsX1_lateOf := goodIn_r _ [23, 24, 15, 16, 17, 12, 18, 19, 28, 29, 30, 31, 32] (by decide +kernel) (by decide +kernel)
set_option maxRecDepth 20000 in
theorem gX4_asWatcher_X1_lateOf : GoodIn wsX4_asWatcher (wsV RX4 58 RX1 yX1_lateOf wsX1_lateOf) := goodIn_app (goodIn_of _ (by decide +kernel)) ggX4_asWatcher_X1_lateOf
theorem dX4_asWatcher_0 : decode cX4_asWatcher 0 = .ok (.aload_n 0, 1) := by decide +kernel
theorem dX4_asWatcher_1 : decode cX4_asWatcher 1 = .ok (.dup, 1) := by decide +kernel
theorem dX4_asWatcher_2 : decode cX4_asWatcher 2 = .ok (.getfield 19, 3) := by decide +kernel
theorem dX4_asWatcher_5 : decode cX4_asWatcher 5 = .ok (.ldc2_w 56, 3) := by decide +kernel
theorem dX4_asWatcher_8 : decode cX4_asWatcher 8 = .ok (.ladd, 1) := by decide +kernel
theorem dX4_asWatcher_9 : decode cX4_asWatcher 9 = .ok (.putfield 19, 3) := by decide +kernel
theorem dX4_asWatcher_12 : decode cX4_asWatcher 12 = .ok (.aload_n 0, 1) := by decide +kernel
theorem dX4_asWatcher_13 : decode cX4_asWatcher 13 = .ok (.iload_n 1, 1) := by decide +kernel
theorem dX4_asWatcher_14 : decode cX4_asWatcher 14 = .ok (.invokevirtual 23, 3) := by decide +kernel
theorem dX4_asWatcher_17 : decode cX4_asWatcher 17 = .ok (.aload_n 0, 1) := by decide +kernel
theorem dX4_asWatcher_18 : decode cX4_asWatcher 18 = .ok (.getfield 9, 3) := by decide +kernel
theorem dX4_asWatcher_21 : decode cX4_asWatcher 21 = .ok (.iload_n 1, 1) := by decide +kernel
theorem dX4_asWatcher_22 : decode cX4_asWatcher 22 = .ok (.invokevirtual 58, 3) := by decide +kernel
theorem dX4_asWatcher_25 : decode cX4_asWatcher 25 = .ok (.isub, 1) := by decide +kernel
theorem dX4_asWatcher_26 : decode cX4_asWatcher 26 = .ok (.ireturn, 1) := by decide +kernel
set_option maxRecDepth 20000 in
theorem ggX4_asRunner_X4_asDreamer : GoodIn wsX4_asRunner wsX4_asDreamer := goodIn_r _ [7, 1, 8, 9, 10, 11, 12, 6, 13, 14, 15, 16, 17, 18, 19, 20, 21, 22, 23, 24, 25, 26, 27, 28, 29, 30, 31, 32, 33, 34, 35, 36, 37, 38, 39, 40, 41, 42, 43] (by decide +kernel) (by decide +kernel)
set_option maxRecDepth 20000 in
theorem gX4_asRunner_X4_asDreamer : GoodIn wsX4_asRunner (wsV RX4 27 RX4 yX4_asDreamer wsX4_asDreamer) := goodIn_app (goodIn_of _ (by decide +kernel)) ggX4_asRunner_X4_asDreamer
theorem dX4_asRunner_0 : decode cX4_asRunner 0 = .ok (.aload_n 0, 1) := by decide +kernel
theorem dX4_asRunner_1 : decode cX4_asRunner 1 = .ok (.dup, 1) := by decide +kernel
theorem dX4_asRunner_2 : decode cX4_asRunner 2 = .ok (.getfield 19, 3) := by decide +kernel
theorem dX4_asRunner_5 : decode cX4_asRunner 5 = .ok (.ldc2_w 61, 3) := by decide +kernel
theorem dX4_asRunner_8 : decode cX4_asRunner 8 = .ok (.ladd, 1) := by decide +kernel
theorem dX4_asRunner_9 : decode cX4_asRunner 9 = .ok (.putfield 19, 3) := by decide +kernel
theorem dX4_asRunner_12 : decode cX4_asRunner 12 = .ok (.iconst 2, 1) := by decide +kernel
theorem dX4_asRunner_13 : decode cX4_asRunner 13 = .ok (.aload_n 0, 1) := by decide +kernel
theorem dX4_asRunner_14 : decode cX4_asRunner 14 = .ok (.iload_n 1, 1) := by decide +kernel
theorem dX4_asRunner_15 : decode cX4_asRunner 15 = .ok (.invokevirtual 27, 3) := by decide +kernel
theorem dX4_asRunner_18 : decode cX4_asRunner 18 = .ok (.imul, 1) := by decide +kernel
theorem dX4_asRunner_19 : decode cX4_asRunner 19 = .ok (.ireturn, 1) := by decide +kernel
set_option maxRecDepth 20000 in
theorem ggX4_asCopier_X4_asWatcher : GoodIn wsX4_asCopier wsX4_asWatcher := goodIn_r _ [8, 1, 9, 3, 10, 11, 12, 7, 13, 14, 15, 16, 17, 18, 19, 20, 21, 22, 23, 24, 25, 26, 27, 28, 29, 39, 40, 41, 42, 43, 44, 45, 46] (by decide +kernel) (by decide +kernel)
set_option maxRecDepth 20000 in
theorem gX4_asCopier_X4_asWatcher : GoodIn wsX4_asCopier (wsV RX4 30 RX4 yX4_asWatcher wsX4_asWatcher) := goodIn_app (goodIn_of _ (by decide +kernel)) ggX4_asCopier_X4_asWatcher
set_option maxRecDepth 20000 in
theorem ggX4_asCopier_X1_howManyCopy : GoodIn wsX4_asCopier wsX1_howManyCopy := goodIn_r _ [33, 24, 34, 35, 36, 17, 37, 38, 20, 21, 22, 23, 42, 43, 44, 45, 46] (by decide +kernel) (by decide +kernel)
set_option maxRecDepth 20000 in
theorem gX4_asCopier_X1_howManyCopy : GoodIn wsX4_asCopier (wsV RX4 65 RX1 yX1_howManyCopy wsX1_howManyCopy) := goodIn_app (goodIn_of _ (by decide +kernel)) ggX4_asCopier_X1_howManyCopy
theorem dX4_asCopier_0 : decode cX4_asCopier 0 = .ok (.aload_n 0, 1) := by decide +kernel
theorem dX4_asCopier_1 : decode cX4_asCopier 1 = .ok (.dup, 1) := by decide +kernel
theorem dX4_asCopier_2 : decode cX4_asCopier 2 = .ok (.getfield 19, 3) := by decide +kernel
theorem dX4_asCopier_5 : decode cX4_asCopier 5 = .ok (.ldc2_w 63, 3) := by decide +kernel
theorem dX4_asCopier_8 : decode cX4_asCopier 8 = .ok (.ladd, 1) := by decide +kernel
theorem dX4_asCopier_9 : decode cX4_asCopier 9 = .ok (.putfield 19, 3) := by decide +kernel
theorem dX4_asCopier_12 : decode cX4_asCopier 12 = .ok (.aload_n 0, 1) := by decide +kernel
theorem dX4_asCopier_13 : decode cX4_asCopier 13 = .ok (.iload_n 1, 1) := by decide +kernel
theorem dX4_asCopier_14 : decode cX4_asCopier 14 = .ok (.invokevirtual 30, 3) := by decide +kernel
theorem dX4_asCopier_17 : decode cX4_asCopier 17 = .ok (.aload_n 0, 1) := by decide +kernel
theorem dX4_asCopier_18 : decode cX4_asCopier 18 = .ok (.getfield 9, 3) := by decide +kernel
theorem dX4_asCopier_21 : decode cX4_asCopier 21 = .ok (.iload_n 1, 1) := by decide +kernel
theorem dX4_asCopier_22 : decode cX4_asCopier 22 = .ok (.invokevirtual 65, 3) := by decide +kernel
theorem dX4_asCopier_25 : decode cX4_asCopier 25 = .ok (.iadd, 1) := by decide +kernel
theorem dX4_asCopier_26 : decode cX4_asCopier 26 = .ok (.ireturn, 1) := by decide +kernel
set_option maxRecDepth 20000 in
theorem ggX4_asListener_X4_asChild : GoodIn wsX4_asListener wsX4_asChild := goodIn_r _ [8, 1, 9, 10, 11, 12, 13, 14, 15, 16, 17, 18, 19, 20, 34, 35, 36, 37, 38, 39, 40, 41] (by decide +kernel) (by decide +kernel)
set_option maxRecDepth 20000 in
theorem gX4_asListener_X4_asChild : GoodIn wsX4_asListener (wsV RX4 23 RX4 yX4_asChild wsX4_asChild) := goodIn_app (goodIn_of _ (by decide +kernel)) ggX4_asListener_X4_asChild
set_option maxRecDepth 20000 in
theorem ggX4_asListener_X6_howManyIn : GoodIn wsX4_asListener wsX6_howManyIn := goodIn_r _ [25, 26, 27, 28, 29, 30, 31, 32, 33, 42, 43, 44, 45] (by decide +kernel) (by decide +kernel)
set_option maxRecDepth 20000 in
theorem gX4_asListener_X6_howManyIn : GoodIn wsX4_asListener (wsV RX4 70 RX6 yX6_howManyIn wsX6_howManyIn) := goodIn_app (goodIn_of _ (by decide +kernel)) ggX4_asListener_X6_howManyIn
theorem dX4_asListener_0 : decode cX4_asListener 0 = .ok (.aload_n 0, 1) := by decide +kernel
theorem dX4_asListener_1 : decode cX4_asListener 1 = .ok (.dup, 1) := by decide +kernel
theorem dX4_asListener_2 : decode cX4_asListener 2 = .ok (.getfield 19, 3) := by decide +kernel
theorem dX4_asListener_5 : decode cX4_asListener 5 = .ok (.ldc2_w 68, 3) := by decide +kernel
theorem dX4_asListener_8 : decode cX4_asListener 8 = .ok (.ladd, 1) := by decide +kernel
theorem dX4_asListener_9 : decode cX4_asListener 9 = .ok (.putfield 19, 3) := by decide +kernel
theorem dX4_asListener_12 : decode cX4_asListener 12 = .ok (.aload_n 0, 1) := by decide +kernel
theorem dX4_asListener_13 : decode cX4_asListener 13 = .ok (.iload_n 1, 1) := by decide +kernel
theorem dX4_asListener_14 : decode cX4_asListener 14 = .ok (.invokevirtual 23, 3) := by decide +kernel
theorem dX4_asListener_17 : decode cX4_asListener 17 = .ok (.aload_n 0, 1) := by decide +kernel
theorem dX4_asListener_18 : decode cX4_asListener 18 = .ok (.getfield 15, 3) := by decide +kernel
theorem dX4_asListener_21 : decode cX4_asListener 21 = .ok (.invokevirtual 70, 3) := by decide +kernel
theorem dX4_asListener_24 : decode cX4_asListener 24 = .ok (.iadd, 1) := by decide +kernel
theorem dX4_asListener_25 : decode cX4_asListener 25 = .ok (.ireturn, 1) := by decide +kernel
