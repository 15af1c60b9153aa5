theorem dX6_init_0 : decode cX6_init 0 = .ok (.aload_n 0, 1) := by decide +kernel
theorem dX6_init_1 : decode cX6_init 1 = .ok (.invokespecial 3, 3) := by decide +kernel
theorem dX6_init_4 : decode cX6_init 4 = .ok (.aload_n 0, 1) := by decide +kernel
theorem dX6_init_5 : decode cX6_init 5 = .ok (.aload_n 1, 1) := by decide +kernel
theorem dX6_init_6 : decode cX6_init 6 = .ok (.putfield 9, 3) := by decide +kernel
theorem dX6_init_9 : decode cX6_init 9 = .ok (.aload_n 0, 1) := by decide +kernel
theorem dX6_init_10 : decode cX6_init 10 = .ok (.iconst 1, 1) := by decide +kernel
theorem dX6_init_11 : decode cX6_init 11 = .ok (.putfield 15, 3) := by decide +kernel
theorem dX6_init_14 : decode cX6_init 14 = .ok (.return_, 1) := by decide +kernel
set_option maxRecDepth 20000 in
theorem ggX6_startAnew_X1_everyone : GoodIn wsX6_startAnew wsX1_everyone := goodIn_r _ [6, 7, 19, 20, 21, 22, 23] (by decide +kernel) (by decide +kernel)
set_option maxRecDepth 20000 in
theorem gX6_startAnew_X1_everyone : GoodIn wsX6_startAnew (wsV RX6 19 RX1 yX1_everyone wsX1_everyone) := goodIn_app (goodIn_of _ (by decide +kernel)) ggX6_startAnew_X1_everyone
set_option maxRecDepth 20000 in
theorem ggX6_startAnew_X6_become : GoodIn wsX6_startAnew wsX6_become := goodIn_r _ [12, 13, 14, 15, 16, 17, 18] (by decide +kernel) (by decide +kernel)
set_option maxRecDepth 20000 in
theorem gX6_startAnew_X6_become : GoodIn wsX6_startAnew (wsV RX6 25 RX6 yX6_become wsX6_become) := goodIn_app (goodIn_of _ (by decide +kernel)) ggX6_startAnew_X6_become
theorem dX6_startAnew_0 : decode cX6_startAnew 0 = .ok (.aload_n 0, 1) := by decide +kernel
theorem dX6_startAnew_1 : decode cX6_startAnew 1 = .ok (.aload_n 0, 1) := by decide +kernel
theorem dX6_startAnew_2 : decode cX6_startAnew 2 = .ok (.getfield 9, 3) := by decide +kernel
theorem dX6_startAnew_5 : decode cX6_startAnew 5 = .ok (.invokevirtual 19, 3) := by decide +kernel
theorem dX6_startAnew_8 : decode cX6_startAnew 8 = .ok (.iconst 0, 1) := by decide +kernel
theorem dX6_startAnew_9 : decode cX6_startAnew 9 = .ok (.invokevirtual 25, 3) := by decide +kernel
theorem dX6_startAnew_12 : decode cX6_startAnew 12 = .ok (.return_, 1) := by decide +kernel
theorem dX6_become_0 : decode cX6_become 0 = .ok (.aload_n 0, 1) := by decide +kernel
theorem dX6_become_1 : decode cX6_become 1 = .ok (.iload_n 1, 1) := by decide +kernel
theorem dX6_become_2 : decode cX6_become 2 = .ok (.putfield 29, 3) := by decide +kernel
theorem dX6_become_5 : decode cX6_become 5 = .ok (.aload_n 0, 1) := by decide +kernel
theorem dX6_become_6 : decode cX6_become 6 = .ok (.iload_n 2, 1) := by decide +kernel
theorem dX6_become_7 : decode cX6_become 7 = .ok (.putfield 32, 3) := by decide +kernel
theorem dX6_become_10 : decode cX6_become 10 = .ok (.return_, 1) := by decide +kernel
theorem dX6_whoIsIn_0 : decode cX6_whoIsIn 0 = .ok (.aload_n 0, 1) := by decide +kernel
theorem dX6_whoIsIn_1 : decode cX6_whoIsIn 1 = .ok (.getfield 29, 3) := by decide +kernel
theorem dX6_whoIsIn_4 : decode cX6_whoIsIn 4 = .ok (.ireturn, 1) := by decide +kernel
set_option maxRecDepth 20000 in
theorem ggX6_howManyIn_J6_bitCount_0f7a4 : GoodIn wsX6_howManyIn wsJ6_bitCount_0f7a4 := goodIn_r _ [5, 6, 7, 8] (by decide +kernel) (by decide +kernel)
set_option maxRecDepth 20000 in
theorem gX6_howManyIn_J6_bitCount_0f7a4 : GoodIn wsX6_howManyIn (va_wsS RX6 35 yJ6_bitCount_0f7a4 wsJ6_bitCount_0f7a4) := goodIn_app (goodIn_of _ (by decide +kernel)) ggX6_howManyIn_J6_bitCount_0f7a4
theorem dX6_howManyIn_0 : decode cX6_howManyIn 0 = .ok (.aload_n 0, 1) := by decide +kernel
theorem dX6_howManyIn_1 : decode cX6_howManyIn 1 = .ok (.getfield 29, 3) := by decide +kernel
theorem dX6_howManyIn_4 : decode cX6_howManyIn 4 = .ok (.invokestatic 35, 3) := by decide +kernel
theorem dX6_howManyIn_7 : decode cX6_howManyIn 7 = .ok (.ireturn, 1) := by decide +kernel
theorem dX6_streak_0 : decode cX6_streak 0 = .ok (.aload_n 0, 1) := by decide +kernel
theorem dX6_streak_1 : decode cX6_streak 1 = .ok (.getfield 32, 3) := by decide +kernel
theorem dX6_streak_4 : decode cX6_streak 4 = .ok (.ireturn, 1) := by decide +kernel
theorem dX6_theLot_0 : decode cX6_theLot 0 = .ok (.aload_n 0, 1) := by decide +kernel
theorem dX6_theLot_1 : decode cX6_theLot 1 = .ok (.getfield 15, 3) := by decide +kernel
theorem dX6_theLot_4 : decode cX6_theLot 4 = .ok (.ireturn, 1) := by decide +kernel
theorem dX6_setLot_0 : decode cX6_setLot 0 = .ok (.aload_n 0, 1) := by decide +kernel
theorem dX6_setLot_1 : decode cX6_setLot 1 = .ok (.iload_n 1, 1) := by decide +kernel
theorem dX6_setLot_2 : decode cX6_setLot 2 = .ok (.putfield 15, 3) := by decide +kernel
theorem dX6_setLot_5 : decode cX6_setLot 5 = .ok (.return_, 1) := by decide +kernel
set_option maxRecDepth 20000 in
theorem ggX6_isIn_X1_has : GoodIn wsX6_isIn wsX1_has := goodIn_r _ [7, 8, 13, 14, 15, 16, 17] (by decide +kernel) (by decide +kernel)
set_option maxRecDepth 20000 in
theorem gX6_isIn_X1_has : GoodIn wsX6_isIn (wsV RX6 41 RX1 yX1_has wsX1_has) := goodIn_app (goodIn_of _ (by decide +kernel)) ggX6_isIn_X1_has
theorem dX6_isIn_0 : decode cX6_isIn 0 = .ok (.aload_n 0, 1) := by decide +kernel
theorem dX6_isIn_1 : decode cX6_isIn 1 = .ok (.getfield 9, 3) := by decide +kernel
theorem dX6_isIn_4 : decode cX6_isIn 4 = .ok (.iload_n 1, 1) := by decide +kernel
theorem dX6_isIn_5 : decode cX6_isIn 5 = .ok (.invokevirtual 41, 3) := by decide +kernel
theorem dX6_isIn_8 : decode cX6_isIn 8 = .ok (.ifCond .eq 19, 3) := by decide +kernel
theorem dX6_isIn_11 : decode cX6_isIn 11 = .ok (.aload_n 0, 1) := by decide +kernel
theorem dX6_isIn_12 : decode cX6_isIn 12 = .ok (.getfield 29, 3) := by decide +kernel
theorem dX6_isIn_15 : decode cX6_isIn 15 = .ok (.iload_n 1, 1) := by decide +kernel
theorem dX6_isIn_16 : decode cX6_isIn 16 = .ok (.ishr, 1) := by decide +kernel
theorem dX6_isIn_17 : decode cX6_isIn 17 = .ok (.iconst 1, 1) := by decide +kernel
theorem dX6_isIn_18 : decode cX6_isIn 18 = .ok (.iand, 1) := by decide +kernel
theorem dX6_isIn_19 : decode cX6_isIn 19 = .ok (.iconst 1, 1) := by decide +kernel
theorem dX6_isIn_20 : decode cX6_isIn 20 = .ok (.if_icmp .ne 7, 3) := by decide +kernel
theorem dX6_isIn_23 : decode cX6_isIn 23 = .ok (.iconst 1, 1) := by decide +kernel
theorem dX6_isIn_24 : decode cX6_isIn 24 = .ok (.goto 4, 3) := by decide +kernel
theorem dX6_isIn_27 : decode cX6_isIn 27 = .ok (.iconst 0, 1) := by decide +kernel
theorem dX6_isIn_28 : decode cX6_isIn 28 = .ok (.ireturn, 1) := by decide +kernel
theorem dX6_letIn_0 : decode cX6_letIn 0 = .ok (.aload_n 0, 1) := by decide +kernel
theorem dX6_letIn_1 : decode cX6_letIn 1 = .ok (.dup, 1) := by decide +kernel
theorem dX6_letIn_2 : decode cX6_letIn 2 = .ok (.getfield 29, 3) := by decide +kernel
theorem dX6_letIn_5 : decode cX6_letIn 5 = .ok (.iconst 1, 1) := by decide +kernel
theorem dX6_letIn_6 : decode cX6_letIn 6 = .ok (.iload_n 1, 1) := by decide +kernel
theorem dX6_letIn_7 : decode cX6_letIn 7 = .ok (.ishl, 1) := by decide +kernel
theorem dX6_letIn_8 : decode cX6_letIn 8 = .ok (.ior, 1) := by decide +kernel
theorem dX6_letIn_9 : decode cX6_letIn 9 = .ok (.putfield 29, 3) := by decide +kernel
theorem dX6_letIn_12 : decode cX6_letIn 12 = .ok (.return_, 1) := by decide +kernel
set_option maxRecDepth 20000 in
theorem ggX6_leaderOf_X1_copiedBy : GoodIn wsX6_leaderOf wsX1_copiedBy := goodIn_r _ [6, 7, 8, 9, 10, 5, 11, 12, 24, 25, 26, 27, 28] (by decide +kernel) (by decide +kernel)
set_option maxRecDepth 20000 in
theorem gX6_leaderOf_X1_copiedBy : GoodIn wsX6_leaderOf (wsV RX6 45 RX1 yX1_copiedBy wsX1_copiedBy) := goodIn_app (goodIn_of _ (by decide +kernel)) ggX6_leaderOf_X1_copiedBy
set_option maxRecDepth 20000 in
theorem ggX6_leaderOf_X6_isIn : GoodIn wsX6_leaderOf wsX6_isIn := goodIn_r _ [17, 1, 18, 19, 9, 10, 5, 11, 12, 20, 21, 22, 23, 24, 25, 26, 27, 28] (by decide +kernel) (by decide +kernel)
set_option maxRecDepth 20000 in
theorem gX6_leaderOf_X6_isIn : GoodIn wsX6_leaderOf (wsV RX6 48 RX6 yX6_isIn wsX6_isIn) := goodIn_app (goodIn_of _ (by decide +kernel)) ggX6_leaderOf_X6_isIn
theorem dX6_leaderOf_0 : decode cX6_leaderOf 0 = .ok (.iload_n 1, 1) := by decide +kernel
theorem dX6_leaderOf_1 : decode cX6_leaderOf 1 = .ok (.istore_n 2, 1) := by decide +kernel
theorem dX6_leaderOf_2 : decode cX6_leaderOf 2 = .ok (.iconst 0, 1) := by decide +kernel
theorem dX6_leaderOf_3 : decode cX6_leaderOf 3 = .ok (.istore_n 3, 1) := by decide +kernel
theorem dX6_leaderOf_4 : decode cX6_leaderOf 4 = .ok (.iload_n 3, 1) := by decide +kernel
theorem dX6_leaderOf_5 : decode cX6_leaderOf 5 = .ok (.bipush 6, 2) := by decide +kernel
theorem dX6_leaderOf_7 : decode cX6_leaderOf 7 = .ok (.if_icmp .ge 33, 3) := by decide +kernel
theorem dX6_leaderOf_10 : decode cX6_leaderOf 10 = .ok (.aload_n 0, 1) := by decide +kernel
theorem dX6_leaderOf_11 : decode cX6_leaderOf 11 = .ok (.getfield 9, 3) := by decide +kernel
theorem dX6_leaderOf_14 : decode cX6_leaderOf 14 = .ok (.iload_n 2, 1) := by decide +kernel
theorem dX6_leaderOf_15 : decode cX6_leaderOf 15 = .ok (.invokevirtual 45, 3) := by decide +kernel
theorem dX6_leaderOf_18 : decode cX6_leaderOf 18 = .ok (.istore 4, 2) := by decide +kernel
theorem dX6_leaderOf_20 : decode cX6_leaderOf 20 = .ok (.aload_n 0, 1) := by decide +kernel
theorem dX6_leaderOf_21 : decode cX6_leaderOf 21 = .ok (.iload 4, 2) := by decide +kernel
theorem dX6_leaderOf_23 : decode cX6_leaderOf 23 = .ok (.invokevirtual 48, 3) := by decide +kernel
theorem dX6_leaderOf_26 : decode cX6_leaderOf 26 = .ok (.ifCond .ne 5, 3) := by decide +kernel
theorem dX6_leaderOf_29 : decode cX6_leaderOf 29 = .ok (.iload_n 2, 1) := by decide +kernel
theorem dX6_leaderOf_30 : decode cX6_leaderOf 30 = .ok (.ireturn, 1) := by decide +kernel
theorem dX6_leaderOf_31 : decode cX6_leaderOf 31 = .ok (.iload 4, 2) := by decide +kernel
theorem dX6_leaderOf_33 : decode cX6_leaderOf 33 = .ok (.istore_n 2, 1) := by decide +kernel
theorem dX6_leaderOf_34 : decode cX6_leaderOf 34 = .ok (.iinc 3 1, 3) := by decide +kernel
theorem dX6_leaderOf_37 : decode cX6_leaderOf 37 = .ok (.goto (-33), 3) := by decide +kernel
theorem dX6_leaderOf_40 : decode cX6_leaderOf 40 = .ok (.iload_n 2, 1) := by decide +kernel
theorem dX6_leaderOf_41 : decode cX6_leaderOf 41 = .ok (.ireturn, 1) := by decide +kernel
set_option maxRecDepth 20000 in
theorem ggX6_isLeader_X6_isIn : GoodIn wsX6_isLeader wsX6_isIn := goodIn_r _ [5, 6, 7, 8, 9, 10, 11, 12, 13, 24, 25, 26, 27, 28, 29, 30, 31, 32] (by decide +kernel) (by decide +kernel)
set_option maxRecDepth 20000 in
theorem gX6_isLeader_X6_isIn : GoodIn wsX6_isLeader (wsV RX6 48 RX6 yX6_isIn wsX6_isIn) := goodIn_app (goodIn_of _ (by decide +kernel)) ggX6_isLeader_X6_isIn
set_option maxRecDepth 20000 in
theorem ggX6_isLeader_X6_leaderOf : GoodIn wsX6_isLeader wsX6_leaderOf := goodIn_r _ [17, 6, 18, 19, 20, 11, 21, 22, 23, 9, 10, 12, 13, 1, 2, 3, 4, 5, 7, 8, 24, 25, 26, 27, 28, 29, 30, 31, 32] (by decide +kernel) (by decide +kernel)
set_option maxRecDepth 20000 in
theorem gX6_isLeader_X6_leaderOf : GoodIn wsX6_isLeader (wsV RX6 51 RX6 yX6_leaderOf wsX6_leaderOf) := goodIn_app (goodIn_of _ (by decide +kernel)) ggX6_isLeader_X6_leaderOf
theorem dX6_isLeader_0 : decode cX6_isLeader 0 = .ok (.aload_n 0, 1) := by decide +kernel
theorem dX6_isLeader_1 : decode cX6_isLeader 1 = .ok (.iload_n 1, 1) := by decide +kernel
theorem dX6_isLeader_2 : decode cX6_isLeader 2 = .ok (.invokevirtual 48, 3) := by decide +kernel
theorem dX6_isLeader_5 : decode cX6_isLeader 5 = .ok (.ifCond .eq 16, 3) := by decide +kernel
theorem dX6_isLeader_8 : decode cX6_isLeader 8 = .ok (.aload_n 0, 1) := by decide +kernel
theorem dX6_isLeader_9 : decode cX6_isLeader 9 = .ok (.iload_n 1, 1) := by decide +kernel
theorem dX6_isLeader_10 : decode cX6_isLeader 10 = .ok (.invokevirtual 51, 3) := by decide +kernel
theorem dX6_isLeader_13 : decode cX6_isLeader 13 = .ok (.iload_n 1, 1) := by decide +kernel
theorem dX6_isLeader_14 : decode cX6_isLeader 14 = .ok (.if_icmp .ne 7, 3) := by decide +kernel
theorem dX6_isLeader_17 : decode cX6_isLeader 17 = .ok (.iconst 1, 1) := by decide +kernel
theorem dX6_isLeader_18 : decode cX6_isLeader 18 = .ok (.goto 4, 3) := by decide +kernel
theorem dX6_isLeader_21 : decode cX6_isLeader 21 = .ok (.iconst 0, 1) := by decide +kernel
theorem dX6_isLeader_22 : decode cX6_isLeader 22 = .ok (.ireturn, 1) := by decide +kernel
set_option maxRecDepth 20000 in
theorem ggX6_groupOf_X1_size : GoodIn wsX6_groupOf wsX1_size := goodIn_r _ [6, 7, 32, 33, 34, 35, 36] (by decide +kernel) (by decide +kernel)
set_option maxRecDepth 20000 in
theorem gX6_groupOf_X1_size : GoodIn wsX6_groupOf (wsV RX6 54 RX1 yX1_size wsX1_size) := goodIn_app (goodIn_of _ (by decide +kernel)) ggX6_groupOf_X1_size
set_option maxRecDepth 20000 in
theorem ggX6_groupOf_X6_isIn : GoodIn wsX6_groupOf wsX6_isIn := goodIn_r _ [12, 1, 13, 14, 15, 16, 5, 17, 7, 28, 29, 30, 31, 32, 33, 34, 35, 36] (by decide +kernel) (by decide +kernel)
set_option maxRecDepth 20000 in
theorem gX6_groupOf_X6_isIn : GoodIn wsX6_groupOf (wsV RX6 48 RX6 yX6_isIn wsX6_isIn) := goodIn_app (goodIn_of _ (by decide +kernel)) ggX6_groupOf_X6_isIn
set_option maxRecDepth 20000 in
theorem ggX6_groupOf_X6_leaderOf : GoodIn wsX6_groupOf wsX6_leaderOf := goodIn_r _ [21, 1, 22, 23, 24, 5, 25, 26, 27, 15, 16, 17, 7, 8, 9, 10, 11, 12, 13, 14, 28, 29, 30, 31, 32, 33, 34, 35, 36] (by decide +kernel) (by decide +kernel)
set_option maxRecDepth 20000 in
theorem gX6_groupOf_X6_leaderOf : GoodIn wsX6_groupOf (wsV RX6 51 RX6 yX6_leaderOf wsX6_leaderOf) := goodIn_app (goodIn_of _ (by decide +kernel)) ggX6_groupOf_X6_leaderOf
theorem dX6_groupOf_0 : decode cX6_groupOf 0 = .ok (.iconst 0, 1) := by decide +kernel
theorem dX6_groupOf_1 : decode cX6_groupOf 1 = .ok (.istore_n 2, 1) := by decide +kernel
theorem dX6_groupOf_2 : decode cX6_groupOf 2 = .ok (.iconst 0, 1) := by decide +kernel
theorem dX6_groupOf_3 : decode cX6_groupOf 3 = .ok (.istore_n 3, 1) := by decide +kernel
theorem dX6_groupOf_4 : decode cX6_groupOf 4 = .ok (.iload_n 3, 1) := by decide +kernel
theorem dX6_groupOf_5 : decode cX6_groupOf 5 = .ok (.aload_n 0, 1) := by decide +kernel
theorem dX6_groupOf_6 : decode cX6_groupOf 6 = .ok (.getfield 9, 3) := by decide +kernel
theorem dX6_groupOf_9 : decode cX6_groupOf 9 = .ok (.invokevirtual 54, 3) := by decide +kernel
theorem dX6_groupOf_12 : decode cX6_groupOf 12 = .ok (.if_icmp .ge 32, 3) := by decide +kernel
theorem dX6_groupOf_15 : decode cX6_groupOf 15 = .ok (.aload_n 0, 1) := by decide +kernel
theorem dX6_groupOf_16 : decode cX6_groupOf 16 = .ok (.iload_n 3, 1) := by decide +kernel
theorem dX6_groupOf_17 : decode cX6_groupOf 17 = .ok (.invokevirtual 48, 3) := by decide +kernel
theorem dX6_groupOf_20 : decode cX6_groupOf 20 = .ok (.ifCond .eq 18, 3) := by decide +kernel
theorem dX6_groupOf_23 : decode cX6_groupOf 23 = .ok (.aload_n 0, 1) := by decide +kernel
theorem dX6_groupOf_24 : decode cX6_groupOf 24 = .ok (.iload_n 3, 1) := by decide +kernel
theorem dX6_groupOf_25 : decode cX6_groupOf 25 = .ok (.invokevirtual 51, 3) := by decide +kernel
theorem dX6_groupOf_28 : decode cX6_groupOf 28 = .ok (.iload_n 1, 1) := by decide +kernel
theorem dX6_groupOf_29 : decode cX6_groupOf 29 = .ok (.if_icmp .ne 9, 3) := by decide +kernel
theorem dX6_groupOf_32 : decode cX6_groupOf 32 = .ok (.iload_n 2, 1) := by decide +kernel
theorem dX6_groupOf_33 : decode cX6_groupOf 33 = .ok (.iconst 1, 1) := by decide +kernel
theorem dX6_groupOf_34 : decode cX6_groupOf 34 = .ok (.iload_n 3, 1) := by decide +kernel
theorem dX6_groupOf_35 : decode cX6_groupOf 35 = .ok (.ishl, 1) := by decide +kernel
theorem dX6_groupOf_36 : decode cX6_groupOf 36 = .ok (.ior, 1) := by decide +kernel
theorem dX6_groupOf_37 : decode cX6_groupOf 37 = .ok (.istore_n 2, 1) := by decide +kernel
theorem dX6_groupOf_38 : decode cX6_groupOf 38 = .ok (.iinc 3 1, 3) := by decide +kernel
theorem dX6_groupOf_41 : decode cX6_groupOf 41 = .ok (.goto (-37), 3) := by decide +kernel
theorem dX6_groupOf_44 : decode cX6_groupOf 44 = .ok (.iload_n 2, 1) := by decide +kernel
theorem dX6_groupOf_45 : decode cX6_groupOf 45 = .ok (.ireturn, 1) := by decide +kernel
set_option maxRecDepth 20000 in
theorem ggX6_obey_X1_size : GoodIn wsX6_obey wsX1_size := goodIn_r _ [8, 9, 73, 74, 75, 76, 77] (by decide +kernel) (by decide +kernel)
set_option maxRecDepth 20000 in
theorem gX6_obey_X1_size : GoodIn wsX6_obey (wsV RX6 54 RX1 yX1_size wsX1_size) := goodIn_app (goodIn_of _ (by decide +kernel)) ggX6_obey_X1_size
set_option maxRecDepth 20000 in
theorem ggX6_obey_X6_isLeader : GoodIn wsX6_obey wsX6_isLeader := goodIn_r _ [14, 15, 16, 17, 13, 18, 1, 3, 19, 20, 21, 7, 22, 9, 23, 24, 25, 26, 27, 28, 29, 30, 31, 32, 69, 70, 71, 72, 73, 74, 75, 76, 77] (by decide +kernel) (by decide +kernel)
set_option maxRecDepth 20000 in
theorem gX6_obey_X6_isLeader : GoodIn wsX6_obey (wsV RX6 57 RX6 yX6_isLeader wsX6_isLeader) := goodIn_app (goodIn_of _ (by decide +kernel)) ggX6_obey_X6_isLeader
set_option maxRecDepth 20000 in
theorem ggX6_obey_X6_draw : GoodIn wsX6_obey wsX6_draw := goodIn_r _ [36, 37, 38, 69, 70, 71, 72] (by decide +kernel) (by decide +kernel)
set_option maxRecDepth 20000 in
theorem gX6_obey_X6_draw : GoodIn wsX6_obey (wsV RX6 60 RX6 yX6_draw wsX6_draw) := goodIn_app (goodIn_of _ (by decide +kernel)) ggX6_obey_X6_draw
set_option maxRecDepth 20000 in
theorem ggX6_obey_X1_errsOf : GoodIn wsX6_obey wsX1_errsOf := goodIn_r _ [42, 43, 44, 45, 46, 47, 48, 49, 7, 50, 51, 32, 20, 21, 22, 9, 52, 53, 54, 55, 56, 73, 74, 75, 76, 77] (by decide +kernel) (by decide +kernel)
set_option maxRecDepth 20000 in
theorem gX6_obey_X1_errsOf : GoodIn wsX6_obey (wsV RX6 63 RX1 yX1_errsOf wsX1_errsOf) := goodIn_app (goodIn_of _ (by decide +kernel)) ggX6_obey_X1_errsOf
set_option maxRecDepth 20000 in
theorem ggX6_obey_X6_groupOf : GoodIn wsX6_obey wsX6_groupOf := goodIn_r _ [60, 1, 4, 5, 6, 7, 8, 9, 15, 16, 17, 13, 18, 3, 19, 20, 21, 22, 23, 24, 25, 26, 27, 28, 29, 30, 31, 32, 69, 70, 71, 72, 73, 74, 75, 76, 77] (by decide +kernel) (by decide +kernel)
set_option maxRecDepth 20000 in
theorem gX6_obey_X6_groupOf : GoodIn wsX6_obey (wsV RX6 67 RX6 yX6_groupOf wsX6_groupOf) := goodIn_app (goodIn_of _ (by decide +kernel)) ggX6_obey_X6_groupOf
set_option maxRecDepth 20000 in
theorem ggX6_obey_X9_streakBehind : GoodIn wsX6_obey wsX9_streakBehind := goodIn_r _ [63, 64, 44, 45, 46] (by decide +kernel) (by decide +kernel)
set_option maxRecDepth 20000 in
theorem gX6_obey_X9_streakBehind_n70 : GoodIn wsX6_obey (wsX9_streakBehind) := ggX6_obey_X9_streakBehind
set_option maxRecDepth 20000 in
theorem ggX6_obey_X6_become : GoodIn wsX6_obey wsX6_become := goodIn_r _ [68, 3, 2, 69, 70, 71, 72] (by decide +kernel) (by decide +kernel)
set_option maxRecDepth 20000 in
theorem gX6_obey_X6_become : GoodIn wsX6_obey (wsV RX6 25 RX6 yX6_become wsX6_become) := goodIn_app (goodIn_of _ (by decide +kernel)) ggX6_obey_X6_become
theorem dX6_obey_0 : decode cX6_obey 0 = .ok (.iconst 0, 1) := by decide +kernel
theorem dX6_obey_1 : decode cX6_obey 1 = .ok (.istore_n 2, 1) := by decide +kernel
theorem dX6_obey_2 : decode cX6_obey 2 = .ok (.iconst 0, 1) := by decide +kernel
theorem dX6_obey_3 : decode cX6_obey 3 = .ok (.istore_n 3, 1) := by decide +kernel
theorem dX6_obey_4 : decode cX6_obey 4 = .ok (.iload_n 3, 1) := by decide +kernel
theorem dX6_obey_5 : decode cX6_obey 5 = .ok (.aload_n 0, 1) := by decide +kernel
theorem dX6_obey_6 : decode cX6_obey 6 = .ok (.getfield 9, 3) := by decide +kernel
theorem dX6_obey_9 : decode cX6_obey 9 = .ok (.invokevirtual 54, 3) := by decide +kernel
theorem dX6_obey_12 : decode cX6_obey 12 = .ok (.if_icmp .ge 45, 3) := by decide +kernel
theorem dX6_obey_15 : decode cX6_obey 15 = .ok (.aload_n 0, 1) := by decide +kernel
theorem dX6_obey_16 : decode cX6_obey 16 = .ok (.iload_n 3, 1) := by decide +kernel
theorem dX6_obey_17 : decode cX6_obey 17 = .ok (.invokevirtual 57, 3) := by decide +kernel
theorem dX6_obey_20 : decode cX6_obey 20 = .ok (.ifCond .eq 31, 3) := by decide +kernel
theorem dX6_obey_23 : decode cX6_obey 23 = .ok (.aload_n 0, 1) := by decide +kernel
theorem dX6_obey_24 : decode cX6_obey 24 = .ok (.invokevirtual 60, 3) := by decide +kernel
theorem dX6_obey_27 : decode cX6_obey 27 = .ok (.aload_n 0, 1) := by decide +kernel
theorem dX6_obey_28 : decode cX6_obey 28 = .ok (.getfield 9, 3) := by decide +kernel
theorem dX6_obey_31 : decode cX6_obey 31 = .ok (.iload_n 3, 1) := by decide +kernel
theorem dX6_obey_32 : decode cX6_obey 32 = .ok (.iload_n 1, 1) := by decide +kernel
theorem dX6_obey_33 : decode cX6_obey 33 = .ok (.aload_n 0, 1) := by decide +kernel
theorem dX6_obey_34 : decode cX6_obey 34 = .ok (.getfield 32, 3) := by decide +kernel
theorem dX6_obey_37 : decode cX6_obey 37 = .ok (.invokevirtual 63, 3) := by decide +kernel
theorem dX6_obey_40 : decode cX6_obey 40 = .ok (.if_icmp .ge 11, 3) := by decide +kernel
theorem dX6_obey_43 : decode cX6_obey 43 = .ok (.iload_n 2, 1) := by decide +kernel
theorem dX6_obey_44 : decode cX6_obey 44 = .ok (.aload_n 0, 1) := by decide +kernel
theorem dX6_obey_45 : decode cX6_obey 45 = .ok (.iload_n 3, 1) := by decide +kernel
theorem dX6_obey_46 : decode cX6_obey 46 = .ok (.invokevirtual 67, 3) := by decide +kernel
theorem dX6_obey_49 : decode cX6_obey 49 = .ok (.ior, 1) := by decide +kernel
theorem dX6_obey_50 : decode cX6_obey 50 = .ok (.istore_n 2, 1) := by decide +kernel
theorem dX6_obey_51 : decode cX6_obey 51 = .ok (.iinc 3 1, 3) := by decide +kernel
theorem dX6_obey_54 : decode cX6_obey 54 = .ok (.goto (-50), 3) := by decide +kernel
theorem dX6_obey_57 : decode cX6_obey 57 = .ok (.aload_n 0, 1) := by decide +kernel
theorem dX6_obey_58 : decode cX6_obey 58 = .ok (.aload_n 0, 1) := by decide +kernel
theorem dX6_obey_59 : decode cX6_obey 59 = .ok (.getfield 29, 3) := by decide +kernel
theorem dX6_obey_62 : decode cX6_obey 62 = .ok (.iload_n 2, 1) := by decide +kernel
theorem dX6_obey_63 : decode cX6_obey 63 = .ok (.iconst (-1), 1) := by decide +kernel
theorem dX6_obey_64 : decode cX6_obey 64 = .ok (.ixor, 1) := by decide +kernel
theorem dX6_obey_65 : decode cX6_obey 65 = .ok (.iand, 1) := by decide +kernel
theorem dX6_obey_66 : decode cX6_obey 66 = .ok (.iload_n 1, 1) := by decide +kernel
theorem dX6_obey_67 : decode cX6_obey 67 = .ok (.aload_n 0, 1) := by decide +kernel
theorem dX6_obey_68 : decode cX6_obey 68 = .ok (.getfield 32, 3) := by decide +kernel
theorem dX6_obey_71 : decode cX6_obey 71 = .ok (.invokestatic 70, 3) := by decide +kernel
theorem dX6_obey_74 : decode cX6_obey 74 = .ok (.invokevirtual 25, 3) := by decide +kernel
theorem dX6_obey_77 : decode cX6_obey 77 = .ok (.iload_n 2, 1) := by decide +kernel
theorem dX6_obey_78 : decode cX6_obey 78 = .ok (.ireturn, 1) := by decide +kernel
theorem dX6_draw_0 : decode cX6_draw 0 = .ok (.aload_n 0, 1) := by decide +kernel
theorem dX6_draw_1 : decode cX6_draw 1 = .ok (.aload_n 0, 1) := by decide +kernel
theorem dX6_draw_2 : decode cX6_draw 2 = .ok (.getfield 15, 3) := by decide +kernel
theorem dX6_draw_5 : decode cX6_draw 5 = .ok (.ldc 74, 2) := by decide +kernel
theorem dX6_draw_7 : decode cX6_draw 7 = .ok (.imul, 1) := by decide +kernel
theorem dX6_draw_8 : decode cX6_draw 8 = .ok (.sipush 12345, 3) := by decide +kernel
theorem dX6_draw_11 : decode cX6_draw 11 = .ok (.iadd, 1) := by decide +kernel
theorem dX6_draw_12 : decode cX6_draw 12 = .ok (.putfield 15, 3) := by decide +kernel
theorem dX6_draw_15 : decode cX6_draw 15 = .ok (.aload_n 0, 1) := by decide +kernel
theorem dX6_draw_16 : decode cX6_draw 16 = .ok (.getfield 15, 3) := by decide +kernel
theorem dX6_draw_19 : decode cX6_draw 19 = .ok (.bipush 16, 2) := by decide +kernel
theorem dX6_draw_21 : decode cX6_draw 21 = .ok (.iushr, 1) := by decide +kernel
theorem dX6_draw_22 : decode cX6_draw 22 = .ok (.bipush 10, 2) := by decide +kernel
theorem dX6_draw_24 : decode cX6_draw 24 = .ok (.irem, 1) := by decide +kernel
theorem dX6_draw_25 : decode cX6_draw 25 = .ok (.ireturn, 1) := by decide +kernel
set_option maxRecDepth 20000 in
theorem ggX6_fewestSaidAhead_X6_leaderOf : GoodIn wsX6_fewestSaidAhead wsX6_leaderOf := goodIn_r _ [7, 2, 8, 9, 10, 11, 12, 13, 14, 15, 16, 17, 18, 19, 20, 21, 6, 22, 23, 24, 47, 48, 49, 50, 51, 52, 53, 54, 55] (by decide +kernel) (by decide +kernel)
set_option maxRecDepth 20000 in
theorem gX6_fewestSaidAhead_X6_leaderOf : GoodIn wsX6_fewestSaidAhead (wsV RX6 51 RX6 yX6_leaderOf wsX6_leaderOf) := goodIn_app (goodIn_of _ (by decide +kernel)) ggX6_fewestSaidAhead_X6_leaderOf
set_option maxRecDepth 20000 in
theorem ggX6_fewestSaidAhead_X1_errsOf : GoodIn wsX6_fewestSaidAhead wsX1_errsOf := goodIn_r _ [28, 29, 30, 31, 32, 33, 34, 35, 11, 36, 37, 14, 15, 16, 17, 18, 38, 39, 40, 41, 42, 51, 52, 53, 54, 55] (by decide +kernel) (by decide +kernel)
set_option maxRecDepth 20000 in
theorem gX6_fewestSaidAhead_X1_errsOf : GoodIn wsX6_fewestSaidAhead (wsV RX6 63 RX1 yX1_errsOf wsX1_errsOf) := goodIn_app (goodIn_of _ (by decide +kernel)) ggX6_fewestSaidAhead_X1_errsOf
set_option maxRecDepth 20000 in
theorem ggX6_fewestSaidAhead_X9_streakBehind : GoodIn wsX6_fewestSaidAhead wsX9_streakBehind := goodIn_r _ [45, 46, 30, 31, 32] (by decide +kernel) (by decide +kernel)
set_option maxRecDepth 20000 in
theorem gX6_fewestSaidAhead_X9_streakBehind_n70 : GoodIn wsX6_fewestSaidAhead (wsX9_streakBehind) := ggX6_fewestSaidAhead_X9_streakBehind
theorem dX6_fewestSaidAhead_0 : decode cX6_fewestSaidAhead 0 = .ok (.aload_n 0, 1) := by decide +kernel
theorem dX6_fewestSaidAhead_1 : decode cX6_fewestSaidAhead 1 = .ok (.iload_n 1, 1) := by decide +kernel
theorem dX6_fewestSaidAhead_2 : decode cX6_fewestSaidAhead 2 = .ok (.invokevirtual 51, 3) := by decide +kernel
theorem dX6_fewestSaidAhead_5 : decode cX6_fewestSaidAhead 5 = .ok (.istore_n 3, 1) := by decide +kernel
theorem dX6_fewestSaidAhead_6 : decode cX6_fewestSaidAhead 6 = .ok (.aload_n 0, 1) := by decide +kernel
theorem dX6_fewestSaidAhead_7 : decode cX6_fewestSaidAhead 7 = .ok (.getfield 32, 3) := by decide +kernel
theorem dX6_fewestSaidAhead_10 : decode cX6_fewestSaidAhead 10 = .ok (.istore 4, 2) := by decide +kernel
theorem dX6_fewestSaidAhead_12 : decode cX6_fewestSaidAhead 12 = .ok (.iconst 0, 1) := by decide +kernel
theorem dX6_fewestSaidAhead_13 : decode cX6_fewestSaidAhead 13 = .ok (.istore 5, 2) := by decide +kernel
theorem dX6_fewestSaidAhead_15 : decode cX6_fewestSaidAhead 15 = .ok (.iload 5, 2) := by decide +kernel
theorem dX6_fewestSaidAhead_17 : decode cX6_fewestSaidAhead 17 = .ok (.bipush 9, 2) := by decide +kernel
theorem dX6_fewestSaidAhead_19 : decode cX6_fewestSaidAhead 19 = .ok (.if_icmp .gt 35, 3) := by decide +kernel
theorem dX6_fewestSaidAhead_22 : decode cX6_fewestSaidAhead 22 = .ok (.aload_n 0, 1) := by decide +kernel
theorem dX6_fewestSaidAhead_23 : decode cX6_fewestSaidAhead 23 = .ok (.getfield 9, 3) := by decide +kernel
theorem dX6_fewestSaidAhead_26 : decode cX6_fewestSaidAhead 26 = .ok (.iload_n 3, 1) := by decide +kernel
theorem dX6_fewestSaidAhead_27 : decode cX6_fewestSaidAhead 27 = .ok (.iconst 2, 1) := by decide +kernel
theorem dX6_fewestSaidAhead_28 : decode cX6_fewestSaidAhead 28 = .ok (.iload 4, 2) := by decide +kernel
theorem dX6_fewestSaidAhead_30 : decode cX6_fewestSaidAhead 30 = .ok (.invokevirtual 63, 3) := by decide +kernel
theorem dX6_fewestSaidAhead_33 : decode cX6_fewestSaidAhead 33 = .ok (.iload_n 2, 1) := by decide +kernel
theorem dX6_fewestSaidAhead_34 : decode cX6_fewestSaidAhead 34 = .ok (.if_icmp .lt 6, 3) := by decide +kernel
theorem dX6_fewestSaidAhead_37 : decode cX6_fewestSaidAhead 37 = .ok (.iload 5, 2) := by decide +kernel
theorem dX6_fewestSaidAhead_39 : decode cX6_fewestSaidAhead 39 = .ok (.ireturn, 1) := by decide +kernel
theorem dX6_fewestSaidAhead_40 : decode cX6_fewestSaidAhead 40 = .ok (.iconst 1, 1) := by decide +kernel
theorem dX6_fewestSaidAhead_41 : decode cX6_fewestSaidAhead 41 = .ok (.iload 4, 2) := by decide +kernel
theorem dX6_fewestSaidAhead_43 : decode cX6_fewestSaidAhead 43 = .ok (.invokestatic 70, 3) := by decide +kernel
theorem dX6_fewestSaidAhead_46 : decode cX6_fewestSaidAhead 46 = .ok (.istore 4, 2) := by decide +kernel
theorem dX6_fewestSaidAhead_48 : decode cX6_fewestSaidAhead 48 = .ok (.iinc 5 1, 3) := by decide +kernel
theorem dX6_fewestSaidAhead_51 : decode cX6_fewestSaidAhead 51 = .ok (.goto (-36), 3) := by decide +kernel
theorem dX6_fewestSaidAhead_54 : decode cX6_fewestSaidAhead 54 = .ok (.bipush (-9), 2) := by decide +kernel
theorem dX6_fewestSaidAhead_56 : decode cX6_fewestSaidAhead 56 = .ok (.ireturn, 1) := by decide +kernel
set_option maxRecDepth 20000 in
theorem ggX6_isFair_X1_littleOnes : GoodIn wsX6_isFair wsX1_littleOnes := goodIn_r _ [7, 8, 13, 14, 15, 16, 17] (by decide +kernel) (by decide +kernel)
set_option maxRecDepth 20000 in
theorem gX6_isFair_X1_littleOnes : GoodIn wsX6_isFair (wsV RX6 75 RX1 yX1_littleOnes wsX1_littleOnes) := goodIn_app (goodIn_of _ (by decide +kernel)) ggX6_isFair_X1_littleOnes
theorem dX6_isFair_0 : decode cX6_isFair 0 = .ok (.aload_n 0, 1) := by decide +kernel
theorem dX6_isFair_1 : decode cX6_isFair 1 = .ok (.getfield 9, 3) := by decide +kernel
theorem dX6_isFair_4 : decode cX6_isFair 4 = .ok (.invokevirtual 75, 3) := by decide +kernel
theorem dX6_isFair_7 : decode cX6_isFair 7 = .ok (.aload_n 0, 1) := by decide +kernel
theorem dX6_isFair_8 : decode cX6_isFair 8 = .ok (.getfield 29, 3) := by decide +kernel
theorem dX6_isFair_11 : decode cX6_isFair 11 = .ok (.iconst (-1), 1) := by decide +kernel
theorem dX6_isFair_12 : decode cX6_isFair 12 = .ok (.ixor, 1) := by decide +kernel
theorem dX6_isFair_13 : decode cX6_isFair 13 = .ok (.iand, 1) := by decide +kernel
theorem dX6_isFair_14 : decode cX6_isFair 14 = .ok (.istore_n 1, 1) := by decide +kernel
theorem dX6_isFair_15 : decode cX6_isFair 15 = .ok (.aload_n 0, 1) := by decide +kernel
theorem dX6_isFair_16 : decode cX6_isFair 16 = .ok (.getfield 29, 3) := by decide +kernel
theorem dX6_isFair_19 : decode cX6_isFair 19 = .ok (.aload_n 0, 1) := by decide +kernel
theorem dX6_isFair_20 : decode cX6_isFair 20 = .ok (.getfield 9, 3) := by decide +kernel
theorem dX6_isFair_23 : decode cX6_isFair 23 = .ok (.invokevirtual 75, 3) := by decide +kernel
theorem dX6_isFair_26 : decode cX6_isFair 26 = .ok (.iconst (-1), 1) := by decide +kernel
theorem dX6_isFair_27 : decode cX6_isFair 27 = .ok (.ixor, 1) := by decide +kernel
theorem dX6_isFair_28 : decode cX6_isFair 28 = .ok (.iand, 1) := by decide +kernel
theorem dX6_isFair_29 : decode cX6_isFair 29 = .ok (.istore_n 2, 1) := by decide +kernel
theorem dX6_isFair_30 : decode cX6_isFair 30 = .ok (.iload_n 1, 1) := by decide +kernel
theorem dX6_isFair_31 : decode cX6_isFair 31 = .ok (.ifCond .eq 7, 3) := by decide +kernel
theorem dX6_isFair_34 : decode cX6_isFair 34 = .ok (.iload_n 2, 1) := by decide +kernel
theorem dX6_isFair_35 : decode cX6_isFair 35 = .ok (.ifCond .ne 7, 3) := by decide +kernel
theorem dX6_isFair_38 : decode cX6_isFair 38 = .ok (.iconst 1, 1) := by decide +kernel
theorem dX6_isFair_39 : decode cX6_isFair 39 = .ok (.goto 4, 3) := by decide +kernel
theorem dX6_isFair_42 : decode cX6_isFair 42 = .ok (.iconst 0, 1) := by decide +kernel
theorem dX6_isFair_43 : decode cX6_isFair 43 = .ok (.ireturn, 1) := by decide +kernel
