theorem dX1_init_0 : decode cX1_init 0 = .ok (.aload_n 0, 1) := by decide +kernel
theorem dX1_init_1 : decode cX1_init 1 = .ok (.invokespecial 3, 3) := by decide +kernel
theorem dX1_init_4 : decode cX1_init 4 = .ok (.aload_n 0, 1) := by decide +kernel
theorem dX1_init_5 : decode cX1_init 5 = .ok (.bipush 6, 2) := by decide +kernel
theorem dX1_init_7 : decode cX1_init 7 = .ok (.newarray .int, 2) := by decide +kernel
theorem dX1_init_9 : decode cX1_init 9 = .ok (.putfield 9, 3) := by decide +kernel
theorem dX1_init_12 : decode cX1_init 12 = .ok (.aload_n 0, 1) := by decide +kernel
theorem dX1_init_13 : decode cX1_init 13 = .ok (.bipush 6, 2) := by decide +kernel
theorem dX1_init_15 : decode cX1_init 15 = .ok (.newarray .int, 2) := by decide +kernel
theorem dX1_init_17 : decode cX1_init 17 = .ok (.putfield 15, 3) := by decide +kernel
theorem dX1_init_20 : decode cX1_init 20 = .ok (.aload_n 0, 1) := by decide +kernel
theorem dX1_init_21 : decode cX1_init 21 = .ok (.bipush 6, 2) := by decide +kernel
theorem dX1_init_23 : decode cX1_init 23 = .ok (.newarray .int, 2) := by decide +kernel
theorem dX1_init_25 : decode cX1_init 25 = .ok (.putfield 18, 3) := by decide +kernel
theorem dX1_init_28 : decode cX1_init 28 = .ok (.return_, 1) := by decide +kernel
theorem dX1_forget_0 : decode cX1_forget 0 = .ok (.aload_n 0, 1) := by decide +kernel
theorem dX1_forget_1 : decode cX1_forget 1 = .ok (.iconst 0, 1) := by decide +kernel
theorem dX1_forget_2 : decode cX1_forget 2 = .ok (.putfield 21, 3) := by decide +kernel
theorem dX1_forget_5 : decode cX1_forget 5 = .ok (.aload_n 0, 1) := by decide +kernel
theorem dX1_forget_6 : decode cX1_forget 6 = .ok (.iconst 0, 1) := by decide +kernel
theorem dX1_forget_7 : decode cX1_forget 7 = .ok (.putfield 25, 3) := by decide +kernel
theorem dX1_forget_10 : decode cX1_forget 10 = .ok (.return_, 1) := by decide +kernel
theorem dX1_add_0 : decode cX1_add 0 = .ok (.aload_n 0, 1) := by decide +kernel
theorem dX1_add_1 : decode cX1_add 1 = .ok (.getfield 21, 3) := by decide +kernel
theorem dX1_add_4 : decode cX1_add 4 = .ok (.bipush 6, 2) := by decide +kernel
theorem dX1_add_6 : decode cX1_add 6 = .ok (.if_icmp .ge 43, 3) := by decide +kernel
theorem dX1_add_9 : decode cX1_add 9 = .ok (.aload_n 0, 1) := by decide +kernel
theorem dX1_add_10 : decode cX1_add 10 = .ok (.getfield 9, 3) := by decide +kernel
theorem dX1_add_13 : decode cX1_add 13 = .ok (.aload_n 0, 1) := by decide +kernel
theorem dX1_add_14 : decode cX1_add 14 = .ok (.getfield 21, 3) := by decide +kernel
theorem dX1_add_17 : decode cX1_add 17 = .ok (.iload_n 1, 1) := by decide +kernel
theorem dX1_add_18 : decode cX1_add 18 = .ok (.iastore, 1) := by decide +kernel
theorem dX1_add_19 : decode cX1_add 19 = .ok (.aload_n 0, 1) := by decide +kernel
theorem dX1_add_20 : decode cX1_add 20 = .ok (.getfield 15, 3) := by decide +kernel
theorem dX1_add_23 : decode cX1_add 23 = .ok (.aload_n 0, 1) := by decide +kernel
theorem dX1_add_24 : decode cX1_add 24 = .ok (.getfield 21, 3) := by decide +kernel
theorem dX1_add_27 : decode cX1_add 27 = .ok (.iload_n 2, 1) := by decide +kernel
theorem dX1_add_28 : decode cX1_add 28 = .ok (.iastore, 1) := by decide +kernel
theorem dX1_add_29 : decode cX1_add 29 = .ok (.aload_n 0, 1) := by decide +kernel
theorem dX1_add_30 : decode cX1_add 30 = .ok (.getfield 18, 3) := by decide +kernel
theorem dX1_add_33 : decode cX1_add 33 = .ok (.aload_n 0, 1) := by decide +kernel
theorem dX1_add_34 : decode cX1_add 34 = .ok (.getfield 21, 3) := by decide +kernel
theorem dX1_add_37 : decode cX1_add 37 = .ok (.iload_n 3, 1) := by decide +kernel
theorem dX1_add_38 : decode cX1_add 38 = .ok (.iastore, 1) := by decide +kernel
theorem dX1_add_39 : decode cX1_add 39 = .ok (.aload_n 0, 1) := by decide +kernel
theorem dX1_add_40 : decode cX1_add 40 = .ok (.dup, 1) := by decide +kernel
theorem dX1_add_41 : decode cX1_add 41 = .ok (.getfield 21, 3) := by decide +kernel
theorem dX1_add_44 : decode cX1_add 44 = .ok (.iconst 1, 1) := by decide +kernel
theorem dX1_add_45 : decode cX1_add 45 = .ok (.iadd, 1) := by decide +kernel
theorem dX1_add_46 : decode cX1_add 46 = .ok (.putfield 21, 3) := by decide +kernel
theorem dX1_add_49 : decode cX1_add 49 = .ok (.return_, 1) := by decide +kernel
theorem dX1_makeLittle_0 : decode cX1_makeLittle 0 = .ok (.aload_n 0, 1) := by decide +kernel
theorem dX1_makeLittle_1 : decode cX1_makeLittle 1 = .ok (.dup, 1) := by decide +kernel
theorem dX1_makeLittle_2 : decode cX1_makeLittle 2 = .ok (.getfield 25, 3) := by decide +kernel
theorem dX1_makeLittle_5 : decode cX1_makeLittle 5 = .ok (.iconst 1, 1) := by decide +kernel
theorem dX1_makeLittle_6 : decode cX1_makeLittle 6 = .ok (.iload_n 1, 1) := by decide +kernel
theorem dX1_makeLittle_7 : decode cX1_makeLittle 7 = .ok (.ishl, 1) := by decide +kernel
theorem dX1_makeLittle_8 : decode cX1_makeLittle 8 = .ok (.ior, 1) := by decide +kernel
theorem dX1_makeLittle_9 : decode cX1_makeLittle 9 = .ok (.putfield 25, 3) := by decide +kernel
theorem dX1_makeLittle_12 : decode cX1_makeLittle 12 = .ok (.return_, 1) := by decide +kernel
set_option maxRecDepth 20000 in
theorem ggX1_takeOver_X1_forget : GoodIn wsX1_takeOver wsX1_forget := goodIn_r _ [7, 1, 2, 31, 32, 33, 34, 35] (by decide +kernel) (by decide +kernel)
set_option maxRecDepth 20000 in
theorem gX1_takeOver_X1_forget : GoodIn wsX1_takeOver (wsV RX1 28 RX1 yX1_forget wsX1_forget) := goodIn_app (goodIn_of _ (by decide +kernel)) ggX1_takeOver_X1_forget
set_option maxRecDepth 20000 in
theorem ggX1_takeOver_X1_slipOf : GoodIn wsX1_takeOver wsX1_slipOf := goodIn_r _ [11, 12, 13, 14, 15, 6, 16, 1, 31, 32, 33, 34, 35] (by decide +kernel) (by decide +kernel)
set_option maxRecDepth 20000 in
theorem gX1_takeOver_X1_slipOf : GoodIn wsX1_takeOver (wsV RX1 31 RX1 yX1_slipOf wsX1_slipOf) := goodIn_app (goodIn_of _ (by decide +kernel)) ggX1_takeOver_X1_slipOf
set_option maxRecDepth 20000 in
theorem ggX1_takeOver_X1_lateOf : GoodIn wsX1_takeOver wsX1_lateOf := goodIn_r _ [20, 21, 13, 14, 15, 6, 16, 1, 31, 32, 33, 34, 35] (by decide +kernel) (by decide +kernel)
set_option maxRecDepth 20000 in
theorem gX1_takeOver_X1_lateOf : GoodIn wsX1_takeOver (wsV RX1 35 RX1 yX1_lateOf wsX1_lateOf) := goodIn_app (goodIn_of _ (by decide +kernel)) ggX1_takeOver_X1_lateOf
set_option maxRecDepth 20000 in
theorem ggX1_takeOver_X1_copiedBy : GoodIn wsX1_takeOver wsX1_copiedBy := goodIn_r _ [25, 26, 13, 14, 15, 6, 16, 1, 31, 32, 33, 34, 35] (by decide +kernel) (by decide +kernel)
set_option maxRecDepth 20000 in
theorem gX1_takeOver_X1_copiedBy : GoodIn wsX1_takeOver (wsV RX1 38 RX1 yX1_copiedBy wsX1_copiedBy) := goodIn_app (goodIn_of _ (by decide +kernel)) ggX1_takeOver_X1_copiedBy
set_option maxRecDepth 20000 in
theorem ggX1_takeOver_X1_add : GoodIn wsX1_takeOver wsX1_add := goodIn_r _ [30, 1, 12, 21, 26, 31, 32, 33, 34, 35] (by decide +kernel) (by decide +kernel)
set_option maxRecDepth 20000 in
theorem gX1_takeOver_X1_add : GoodIn wsX1_takeOver (wsV RX1 41 RX1 yX1_add wsX1_add) := goodIn_app (goodIn_of _ (by decide +kernel)) ggX1_takeOver_X1_add
theorem dX1_takeOver_0 : decode cX1_takeOver 0 = .ok (.aload_n 0, 1) := by decide +kernel
theorem dX1_takeOver_1 : decode cX1_takeOver 1 = .ok (.invokevirtual 28, 3) := by decide +kernel
theorem dX1_takeOver_4 : decode cX1_takeOver 4 = .ok (.iconst 0, 1) := by decide +kernel
theorem dX1_takeOver_5 : decode cX1_takeOver 5 = .ok (.istore_n 2, 1) := by decide +kernel
theorem dX1_takeOver_6 : decode cX1_takeOver 6 = .ok (.iload_n 2, 1) := by decide +kernel
theorem dX1_takeOver_7 : decode cX1_takeOver 7 = .ok (.aload_n 1, 1) := by decide +kernel
theorem dX1_takeOver_8 : decode cX1_takeOver 8 = .ok (.getfield 21, 3) := by decide +kernel
theorem dX1_takeOver_11 : decode cX1_takeOver 11 = .ok (.if_icmp .ge 28, 3) := by decide +kernel
theorem dX1_takeOver_14 : decode cX1_takeOver 14 = .ok (.aload_n 0, 1) := by decide +kernel
theorem dX1_takeOver_15 : decode cX1_takeOver 15 = .ok (.aload_n 1, 1) := by decide +kernel
theorem dX1_takeOver_16 : decode cX1_takeOver 16 = .ok (.iload_n 2, 1) := by decide +kernel
theorem dX1_takeOver_17 : decode cX1_takeOver 17 = .ok (.invokevirtual 31, 3) := by decide +kernel
theorem dX1_takeOver_20 : decode cX1_takeOver 20 = .ok (.aload_n 1, 1) := by decide +kernel
theorem dX1_takeOver_21 : decode cX1_takeOver 21 = .ok (.iload_n 2, 1) := by decide +kernel
theorem dX1_takeOver_22 : decode cX1_takeOver 22 = .ok (.invokevirtual 35, 3) := by decide +kernel
theorem dX1_takeOver_25 : decode cX1_takeOver 25 = .ok (.aload_n 1, 1) := by decide +kernel
theorem dX1_takeOver_26 : decode cX1_takeOver 26 = .ok (.iload_n 2, 1) := by decide +kernel
theorem dX1_takeOver_27 : decode cX1_takeOver 27 = .ok (.invokevirtual 38, 3) := by decide +kernel
theorem dX1_takeOver_30 : decode cX1_takeOver 30 = .ok (.invokevirtual 41, 3) := by decide +kernel
theorem dX1_takeOver_33 : decode cX1_takeOver 33 = .ok (.iinc 2 1, 3) := by decide +kernel
theorem dX1_takeOver_36 : decode cX1_takeOver 36 = .ok (.goto (-30), 3) := by decide +kernel
theorem dX1_takeOver_39 : decode cX1_takeOver 39 = .ok (.aload_n 0, 1) := by decide +kernel
theorem dX1_takeOver_40 : decode cX1_takeOver 40 = .ok (.aload_n 1, 1) := by decide +kernel
theorem dX1_takeOver_41 : decode cX1_takeOver 41 = .ok (.getfield 25, 3) := by decide +kernel
theorem dX1_takeOver_44 : decode cX1_takeOver 44 = .ok (.putfield 25, 3) := by decide +kernel
theorem dX1_takeOver_47 : decode cX1_takeOver 47 = .ok (.return_, 1) := by decide +kernel
theorem dX1_size_0 : decode cX1_size 0 = .ok (.aload_n 0, 1) := by decide +kernel
theorem dX1_size_1 : decode cX1_size 1 = .ok (.getfield 21, 3) := by decide +kernel
theorem dX1_size_4 : decode cX1_size 4 = .ok (.ireturn, 1) := by decide +kernel
theorem dX1_littleOnes_0 : decode cX1_littleOnes 0 = .ok (.aload_n 0, 1) := by decide +kernel
theorem dX1_littleOnes_1 : decode cX1_littleOnes 1 = .ok (.getfield 25, 3) := by decide +kernel
theorem dX1_littleOnes_4 : decode cX1_littleOnes 4 = .ok (.ireturn, 1) := by decide +kernel
theorem dX1_has_0 : decode cX1_has 0 = .ok (.iload_n 1, 1) := by decide +kernel
theorem dX1_has_1 : decode cX1_has 1 = .ok (.ifCond .lt 15, 3) := by decide +kernel
theorem dX1_has_4 : decode cX1_has 4 = .ok (.iload_n 1, 1) := by decide +kernel
theorem dX1_has_5 : decode cX1_has 5 = .ok (.aload_n 0, 1) := by decide +kernel
theorem dX1_has_6 : decode cX1_has 6 = .ok (.getfield 21, 3) := by decide +kernel
theorem dX1_has_9 : decode cX1_has 9 = .ok (.if_icmp .ge 7, 3) := by decide +kernel
theorem dX1_has_12 : decode cX1_has 12 = .ok (.iconst 1, 1) := by decide +kernel
theorem dX1_has_13 : decode cX1_has 13 = .ok (.goto 4, 3) := by decide +kernel
theorem dX1_has_16 : decode cX1_has 16 = .ok (.iconst 0, 1) := by decide +kernel
theorem dX1_has_17 : decode cX1_has 17 = .ok (.ireturn, 1) := by decide +kernel
theorem dX1_everyone_0 : decode cX1_everyone 0 = .ok (.iconst 1, 1) := by decide +kernel
theorem dX1_everyone_1 : decode cX1_everyone 1 = .ok (.aload_n 0, 1) := by decide +kernel
theorem dX1_everyone_2 : decode cX1_everyone 2 = .ok (.getfield 21, 3) := by decide +kernel
theorem dX1_everyone_5 : decode cX1_everyone 5 = .ok (.ishl, 1) := by decide +kernel
theorem dX1_everyone_6 : decode cX1_everyone 6 = .ok (.iconst 1, 1) := by decide +kernel
theorem dX1_everyone_7 : decode cX1_everyone 7 = .ok (.isub, 1) := by decide +kernel
theorem dX1_everyone_8 : decode cX1_everyone 8 = .ok (.ireturn, 1) := by decide +kernel
set_option maxRecDepth 20000 in
theorem ggX1_isSet_X1_everyone : GoodIn wsX1_isSet wsX1_everyone := goodIn_r _ [5, 6, 7, 8, 9, 10, 11] (by decide +kernel) (by decide +kernel)
set_option maxRecDepth 20000 in
theorem gX1_isSet_X1_everyone : GoodIn wsX1_isSet (wsV RX1 45 RX1 yX1_everyone wsX1_everyone) := goodIn_app (goodIn_of _ (by decide +kernel)) ggX1_isSet_X1_everyone
theorem dX1_isSet_0 : decode cX1_isSet 0 = .ok (.iload_n 1, 1) := by decide +kernel
theorem dX1_isSet_1 : decode cX1_isSet 1 = .ok (.aload_n 0, 1) := by decide +kernel
theorem dX1_isSet_2 : decode cX1_isSet 2 = .ok (.invokevirtual 45, 3) := by decide +kernel
theorem dX1_isSet_5 : decode cX1_isSet 5 = .ok (.iconst (-1), 1) := by decide +kernel
theorem dX1_isSet_6 : decode cX1_isSet 6 = .ok (.ixor, 1) := by decide +kernel
theorem dX1_isSet_7 : decode cX1_isSet 7 = .ok (.iand, 1) := by decide +kernel
theorem dX1_isSet_8 : decode cX1_isSet 8 = .ok (.ifCond .ne 7, 3) := by decide +kernel
theorem dX1_isSet_11 : decode cX1_isSet 11 = .ok (.iconst 1, 1) := by decide +kernel
theorem dX1_isSet_12 : decode cX1_isSet 12 = .ok (.goto 4, 3) := by decide +kernel
theorem dX1_isSet_15 : decode cX1_isSet 15 = .ok (.iconst 0, 1) := by decide +kernel
theorem dX1_isSet_16 : decode cX1_isSet 16 = .ok (.ireturn, 1) := by decide +kernel
set_option maxRecDepth 20000 in
theorem ggX1_isLittle_X1_has : GoodIn wsX1_isLittle wsX1_has := goodIn_r _ [6, 7, 8, 9, 10, 11, 12] (by decide +kernel) (by decide +kernel)
set_option maxRecDepth 20000 in
theorem gX1_isLittle_X1_has : GoodIn wsX1_isLittle (wsV RX1 49 RX1 yX1_has wsX1_has) := goodIn_app (goodIn_of _ (by decide +kernel)) ggX1_isLittle_X1_has
theorem dX1_isLittle_0 : decode cX1_isLittle 0 = .ok (.aload_n 0, 1) := by decide +kernel
theorem dX1_isLittle_1 : decode cX1_isLittle 1 = .ok (.iload_n 1, 1) := by decide +kernel
theorem dX1_isLittle_2 : decode cX1_isLittle 2 = .ok (.invokevirtual 49, 3) := by decide +kernel
theorem dX1_isLittle_5 : decode cX1_isLittle 5 = .ok (.ifCond .eq 19, 3) := by decide +kernel
theorem dX1_isLittle_8 : decode cX1_isLittle 8 = .ok (.aload_n 0, 1) := by decide +kernel
theorem dX1_isLittle_9 : decode cX1_isLittle 9 = .ok (.getfield 25, 3) := by decide +kernel
theorem dX1_isLittle_12 : decode cX1_isLittle 12 = .ok (.iload_n 1, 1) := by decide +kernel
theorem dX1_isLittle_13 : decode cX1_isLittle 13 = .ok (.ishr, 1) := by decide +kernel
theorem dX1_isLittle_14 : decode cX1_isLittle 14 = .ok (.iconst 1, 1) := by decide +kernel
theorem dX1_isLittle_15 : decode cX1_isLittle 15 = .ok (.iand, 1) := by decide +kernel
theorem dX1_isLittle_16 : decode cX1_isLittle 16 = .ok (.iconst 1, 1) := by decide +kernel
theorem dX1_isLittle_17 : decode cX1_isLittle 17 = .ok (.if_icmp .ne 7, 3) := by decide +kernel
theorem dX1_isLittle_20 : decode cX1_isLittle 20 = .ok (.iconst 1, 1) := by decide +kernel
theorem dX1_isLittle_21 : decode cX1_isLittle 21 = .ok (.goto 4, 3) := by decide +kernel
theorem dX1_isLittle_24 : decode cX1_isLittle 24 = .ok (.iconst 0, 1) := by decide +kernel
theorem dX1_isLittle_25 : decode cX1_isLittle 25 = .ok (.ireturn, 1) := by decide +kernel
set_option maxRecDepth 20000 in
theorem ggX1_slipOf_X1_has : GoodIn wsX1_slipOf wsX1_has := goodIn_r _ [6, 7, 8, 9, 10, 11, 12] (by decide +kernel) (by decide +kernel)
set_option maxRecDepth 20000 in
theorem gX1_slipOf_X1_has : GoodIn wsX1_slipOf (wsV RX1 49 RX1 yX1_has wsX1_has) := goodIn_app (goodIn_of _ (by decide +kernel)) ggX1_slipOf_X1_has
theorem dX1_slipOf_0 : decode cX1_slipOf 0 = .ok (.aload_n 0, 1) := by decide +kernel
theorem dX1_slipOf_1 : decode cX1_slipOf 1 = .ok (.iload_n 1, 1) := by decide +kernel
theorem dX1_slipOf_2 : decode cX1_slipOf 2 = .ok (.invokevirtual 49, 3) := by decide +kernel
theorem dX1_slipOf_5 : decode cX1_slipOf 5 = .ok (.ifCond .eq 12, 3) := by decide +kernel
theorem dX1_slipOf_8 : decode cX1_slipOf 8 = .ok (.aload_n 0, 1) := by decide +kernel
theorem dX1_slipOf_9 : decode cX1_slipOf 9 = .ok (.getfield 9, 3) := by decide +kernel
theorem dX1_slipOf_12 : decode cX1_slipOf 12 = .ok (.iload_n 1, 1) := by decide +kernel
theorem dX1_slipOf_13 : decode cX1_slipOf 13 = .ok (.iaload, 1) := by decide +kernel
theorem dX1_slipOf_14 : decode cX1_slipOf 14 = .ok (.goto 4, 3) := by decide +kernel
theorem dX1_slipOf_17 : decode cX1_slipOf 17 = .ok (.iconst 0, 1) := by decide +kernel
theorem dX1_slipOf_18 : decode cX1_slipOf 18 = .ok (.ireturn, 1) := by decide +kernel
set_option maxRecDepth 20000 in
theorem ggX1_lateOf_X1_has : GoodIn wsX1_lateOf wsX1_has := goodIn_r _ [6, 7, 8, 9, 10, 11, 12] (by decide +kernel) (by decide +kernel)
set_option maxRecDepth 20000 in
theorem gX1_lateOf_X1_has : GoodIn wsX1_lateOf (wsV RX1 49 RX1 yX1_has wsX1_has) := goodIn_app (goodIn_of _ (by decide +kernel)) ggX1_lateOf_X1_has
theorem dX1_lateOf_0 : decode cX1_lateOf 0 = .ok (.aload_n 0, 1) := by decide +kernel
theorem dX1_lateOf_1 : decode cX1_lateOf 1 = .ok (.iload_n 1, 1) := by decide +kernel
theorem dX1_lateOf_2 : decode cX1_lateOf 2 = .ok (.invokevirtual 49, 3) := by decide +kernel
theorem dX1_lateOf_5 : decode cX1_lateOf 5 = .ok (.ifCond .eq 12, 3) := by decide +kernel
theorem dX1_lateOf_8 : decode cX1_lateOf 8 = .ok (.aload_n 0, 1) := by decide +kernel
theorem dX1_lateOf_9 : decode cX1_lateOf 9 = .ok (.getfield 15, 3) := by decide +kernel
theorem dX1_lateOf_12 : decode cX1_lateOf 12 = .ok (.iload_n 1, 1) := by decide +kernel
theorem dX1_lateOf_13 : decode cX1_lateOf 13 = .ok (.iaload, 1) := by decide +kernel
theorem dX1_lateOf_14 : decode cX1_lateOf 14 = .ok (.goto 4, 3) := by decide +kernel
theorem dX1_lateOf_17 : decode cX1_lateOf 17 = .ok (.iconst 0, 1) := by decide +kernel
theorem dX1_lateOf_18 : decode cX1_lateOf 18 = .ok (.ireturn, 1) := by decide +kernel
set_option maxRecDepth 20000 in
theorem ggX1_copiedBy_X1_has : GoodIn wsX1_copiedBy wsX1_has := goodIn_r _ [6, 7, 8, 9, 10, 11, 12] (by decide +kernel) (by decide +kernel)
set_option maxRecDepth 20000 in
theorem gX1_copiedBy_X1_has : GoodIn wsX1_copiedBy (wsV RX1 49 RX1 yX1_has wsX1_has) := goodIn_app (goodIn_of _ (by decide +kernel)) ggX1_copiedBy_X1_has
theorem dX1_copiedBy_0 : decode cX1_copiedBy 0 = .ok (.aload_n 0, 1) := by decide +kernel
theorem dX1_copiedBy_1 : decode cX1_copiedBy 1 = .ok (.iload_n 1, 1) := by decide +kernel
theorem dX1_copiedBy_2 : decode cX1_copiedBy 2 = .ok (.invokevirtual 49, 3) := by decide +kernel
theorem dX1_copiedBy_5 : decode cX1_copiedBy 5 = .ok (.ifCond .eq 12, 3) := by decide +kernel
theorem dX1_copiedBy_8 : decode cX1_copiedBy 8 = .ok (.aload_n 0, 1) := by decide +kernel
theorem dX1_copiedBy_9 : decode cX1_copiedBy 9 = .ok (.getfield 18, 3) := by decide +kernel
theorem dX1_copiedBy_12 : decode cX1_copiedBy 12 = .ok (.iload_n 1, 1) := by decide +kernel
theorem dX1_copiedBy_13 : decode cX1_copiedBy 13 = .ok (.iaload, 1) := by decide +kernel
theorem dX1_copiedBy_14 : decode cX1_copiedBy 14 = .ok (.goto 5, 3) := by decide +kernel
theorem dX1_copiedBy_17 : decode cX1_copiedBy 17 = .ok (.bipush 9, 2) := by decide +kernel
theorem dX1_copiedBy_19 : decode cX1_copiedBy 19 = .ok (.ireturn, 1) := by decide +kernel
set_option maxRecDepth 20000 in
theorem ggX1_howManyCopy_X1_copiedBy : GoodIn wsX1_howManyCopy wsX1_copiedBy := goodIn_r _ [6, 7, 8, 9, 10, 5, 11, 1, 12, 13, 14, 15, 16] (by decide +kernel) (by decide +kernel)
set_option maxRecDepth 20000 in
theorem gX1_howManyCopy_X1_copiedBy : GoodIn wsX1_howManyCopy (wsV RX1 38 RX1 yX1_copiedBy wsX1_copiedBy) := goodIn_app (goodIn_of _ (by decide +kernel)) ggX1_howManyCopy_X1_copiedBy
theorem dX1_howManyCopy_0 : decode cX1_howManyCopy 0 = .ok (.iconst 0, 1) := by decide +kernel
theorem dX1_howManyCopy_1 : decode cX1_howManyCopy 1 = .ok (.istore_n 2, 1) := by decide +kernel
theorem dX1_howManyCopy_2 : decode cX1_howManyCopy 2 = .ok (.iconst 0, 1) := by decide +kernel
theorem dX1_howManyCopy_3 : decode cX1_howManyCopy 3 = .ok (.istore_n 3, 1) := by decide +kernel
theorem dX1_howManyCopy_4 : decode cX1_howManyCopy 4 = .ok (.iload_n 3, 1) := by decide +kernel
theorem dX1_howManyCopy_5 : decode cX1_howManyCopy 5 = .ok (.aload_n 0, 1) := by decide +kernel
theorem dX1_howManyCopy_6 : decode cX1_howManyCopy 6 = .ok (.getfield 21, 3) := by decide +kernel
theorem dX1_howManyCopy_9 : decode cX1_howManyCopy 9 = .ok (.if_icmp .ge 21, 3) := by decide +kernel
theorem dX1_howManyCopy_12 : decode cX1_howManyCopy 12 = .ok (.aload_n 0, 1) := by decide +kernel
theorem dX1_howManyCopy_13 : decode cX1_howManyCopy 13 = .ok (.iload_n 3, 1) := by decide +kernel
theorem dX1_howManyCopy_14 : decode cX1_howManyCopy 14 = .ok (.invokevirtual 38, 3) := by decide +kernel
theorem dX1_howManyCopy_17 : decode cX1_howManyCopy 17 = .ok (.iload_n 1, 1) := by decide +kernel
theorem dX1_howManyCopy_18 : decode cX1_howManyCopy 18 = .ok (.if_icmp .ne 6, 3) := by decide +kernel
theorem dX1_howManyCopy_21 : decode cX1_howManyCopy 21 = .ok (.iinc 2 1, 3) := by decide +kernel
theorem dX1_howManyCopy_24 : decode cX1_howManyCopy 24 = .ok (.iinc 3 1, 3) := by decide +kernel
theorem dX1_howManyCopy_27 : decode cX1_howManyCopy 27 = .ok (.goto (-23), 3) := by decide +kernel
theorem dX1_howManyCopy_30 : decode cX1_howManyCopy 30 = .ok (.iload_n 2, 1) := by decide +kernel
theorem dX1_howManyCopy_31 : decode cX1_howManyCopy 31 = .ok (.ireturn, 1) := by decide +kernel
set_option maxRecDepth 20000 in
theorem ggX1_errsOf_X1_slipOf : GoodIn wsX1_errsOf wsX1_slipOf := goodIn_r _ [9, 10, 11, 12, 13, 8, 14, 15, 21, 22, 23, 24, 25] (by decide +kernel) (by decide +kernel)
set_option maxRecDepth 20000 in
theorem gX1_errsOf_X1_slipOf : GoodIn wsX1_errsOf (wsV RX1 31 RX1 yX1_slipOf wsX1_slipOf) := goodIn_app (goodIn_of _ (by decide +kernel)) ggX1_errsOf_X1_slipOf
set_option maxRecDepth 20000 in
theorem ggX1_errsOf_X1_lateOf : GoodIn wsX1_errsOf wsX1_lateOf := goodIn_r _ [19, 20, 11, 12, 13, 8, 14, 15, 21, 22, 23, 24, 25] (by decide +kernel) (by decide +kernel)
set_option maxRecDepth 20000 in
theorem gX1_errsOf_X1_lateOf : GoodIn wsX1_errsOf (wsV RX1 35 RX1 yX1_lateOf wsX1_lateOf) := goodIn_app (goodIn_of _ (by decide +kernel)) ggX1_errsOf_X1_lateOf
theorem dX1_errsOf_0 : decode cX1_errsOf 0 = .ok (.iload_n 2, 1) := by decide +kernel
theorem dX1_errsOf_1 : decode cX1_errsOf 1 = .ok (.tableswitch 66 2 4 #[27, 40, 55], 27) := by decide +kernel
theorem dX1_errsOf_28 : decode cX1_errsOf 28 = .ok (.bipush 10, 2) := by decide +kernel
theorem dX1_errsOf_30 : decode cX1_errsOf 30 = .ok (.aload_n 0, 1) := by decide +kernel
theorem dX1_errsOf_31 : decode cX1_errsOf 31 = .ok (.iload_n 1, 1) := by decide +kernel
theorem dX1_errsOf_32 : decode cX1_errsOf 32 = .ok (.invokevirtual 31, 3) := by decide +kernel
theorem dX1_errsOf_35 : decode cX1_errsOf 35 = .ok (.iload_n 3, 1) := by decide +kernel
theorem dX1_errsOf_36 : decode cX1_errsOf 36 = .ok (.iadd, 1) := by decide +kernel
theorem dX1_errsOf_37 : decode cX1_errsOf 37 = .ok (.invokestatic 53, 3) := by decide +kernel
theorem dX1_errsOf_40 : decode cX1_errsOf 40 = .ok (.ireturn, 1) := by decide +kernel
theorem dX1_errsOf_41 : decode cX1_errsOf 41 = .ok (.bipush 10, 2) := by decide +kernel
theorem dX1_errsOf_43 : decode cX1_errsOf 43 = .ok (.aload_n 0, 1) := by decide +kernel
theorem dX1_errsOf_44 : decode cX1_errsOf 44 = .ok (.iload_n 1, 1) := by decide +kernel
theorem dX1_errsOf_45 : decode cX1_errsOf 45 = .ok (.invokevirtual 31, 3) := by decide +kernel
theorem dX1_errsOf_48 : decode cX1_errsOf 48 = .ok (.iload_n 3, 1) := by decide +kernel
theorem dX1_errsOf_49 : decode cX1_errsOf 49 = .ok (.iadd, 1) := by decide +kernel
theorem dX1_errsOf_50 : decode cX1_errsOf 50 = .ok (.iconst 2, 1) := by decide +kernel
theorem dX1_errsOf_51 : decode cX1_errsOf 51 = .ok (.iadd, 1) := by decide +kernel
theorem dX1_errsOf_52 : decode cX1_errsOf 52 = .ok (.invokestatic 53, 3) := by decide +kernel
theorem dX1_errsOf_55 : decode cX1_errsOf 55 = .ok (.ireturn, 1) := by decide +kernel
theorem dX1_errsOf_56 : decode cX1_errsOf 56 = .ok (.bipush 10, 2) := by decide +kernel
theorem dX1_errsOf_58 : decode cX1_errsOf 58 = .ok (.aload_n 0, 1) := by decide +kernel
theorem dX1_errsOf_59 : decode cX1_errsOf 59 = .ok (.iload_n 1, 1) := by decide +kernel
theorem dX1_errsOf_60 : decode cX1_errsOf 60 = .ok (.invokevirtual 35, 3) := by decide +kernel
theorem dX1_errsOf_63 : decode cX1_errsOf 63 = .ok (.invokestatic 53, 3) := by decide +kernel
theorem dX1_errsOf_66 : decode cX1_errsOf 66 = .ok (.ireturn, 1) := by decide +kernel
theorem dX1_errsOf_67 : decode cX1_errsOf 67 = .ok (.iconst 0, 1) := by decide +kernel
theorem dX1_errsOf_68 : decode cX1_errsOf 68 = .ok (.ireturn, 1) := by decide +kernel
