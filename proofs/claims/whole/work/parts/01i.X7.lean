theorem dX7_init_0 : decode cX7_init 0 = .ok (.aload_n 0, 1) := by decide +kernel
theorem dX7_init_1 : decode cX7_init 1 = .ok (.invokespecial 3, 3) := by decide +kernel
theorem dX7_init_4 : decode cX7_init 4 = .ok (.aload_n 0, 1) := by decide +kernel
theorem dX7_init_5 : decode cX7_init 5 = .ok (.bipush 9, 2) := by decide +kernel
theorem dX7_init_7 : decode cX7_init 7 = .ok (.newarray .int, 2) := by decide +kernel
theorem dX7_init_9 : decode cX7_init 9 = .ok (.putfield 9, 3) := by decide +kernel
theorem dX7_init_12 : decode cX7_init 12 = .ok (.return_, 1) := by decide +kernel
theorem dX7_length_0 : decode cX7_length 0 = .ok (.aload_n 0, 1) := by decide +kernel
theorem dX7_length_1 : decode cX7_length 1 = .ok (.getfield 15, 3) := by decide +kernel
theorem dX7_length_4 : decode cX7_length 4 = .ok (.ireturn, 1) := by decide +kernel
set_option maxRecDepth 20000 in
theorem ggX7_read_X9_isOrder : GoodIn wsX7_read wsX9_isOrder := goodIn_r _ [5] (by decide +kernel) (by decide +kernel)
set_option maxRecDepth 20000 in
theorem gX7_read_X9_isOrder_n19 : GoodIn wsX7_read (wsX9_isOrder) := ggX7_read_X9_isOrder
theorem dX7_read_0 : decode cX7_read 0 = .ok (.iload_n 1, 1) := by decide +kernel
theorem dX7_read_1 : decode cX7_read 1 = .ok (.istore_n 3, 1) := by decide +kernel
theorem dX7_read_2 : decode cX7_read 2 = .ok (.aload_n 0, 1) := by decide +kernel
theorem dX7_read_3 : decode cX7_read 3 = .ok (.iconst 0, 1) := by decide +kernel
theorem dX7_read_4 : decode cX7_read 4 = .ok (.putfield 15, 3) := by decide +kernel
theorem dX7_read_7 : decode cX7_read 7 = .ok (.iconst 0, 1) := by decide +kernel
theorem dX7_read_8 : decode cX7_read 8 = .ok (.istore 4, 2) := by decide +kernel
theorem dX7_read_10 : decode cX7_read 10 = .ok (.iload 4, 2) := by decide +kernel
theorem dX7_read_12 : decode cX7_read 12 = .ok (.iload_n 2, 1) := by decide +kernel
theorem dX7_read_13 : decode cX7_read 13 = .ok (.if_icmp .ge 58, 3) := by decide +kernel
theorem dX7_read_16 : decode cX7_read 16 = .ok (.iload 4, 2) := by decide +kernel
theorem dX7_read_18 : decode cX7_read 18 = .ok (.bipush 9, 2) := by decide +kernel
theorem dX7_read_20 : decode cX7_read 20 = .ok (.if_icmp .ge 51, 3) := by decide +kernel
theorem dX7_read_23 : decode cX7_read 23 = .ok (.iload_n 3, 1) := by decide +kernel
theorem dX7_read_24 : decode cX7_read 24 = .ok (.ifCond .le 47, 3) := by decide +kernel
theorem dX7_read_27 : decode cX7_read 27 = .ok (.iload_n 3, 1) := by decide +kernel
theorem dX7_read_28 : decode cX7_read 28 = .ok (.bipush 10, 2) := by decide +kernel
theorem dX7_read_30 : decode cX7_read 30 = .ok (.irem, 1) := by decide +kernel
theorem dX7_read_31 : decode cX7_read 31 = .ok (.invokestatic 19, 3) := by decide +kernel
theorem dX7_read_34 : decode cX7_read 34 = .ok (.ifCond .ne 5, 3) := by decide +kernel
theorem dX7_read_37 : decode cX7_read 37 = .ok (.iconst 0, 1) := by decide +kernel
theorem dX7_read_38 : decode cX7_read 38 = .ok (.ireturn, 1) := by decide +kernel
theorem dX7_read_39 : decode cX7_read 39 = .ok (.aload_n 0, 1) := by decide +kernel
theorem dX7_read_40 : decode cX7_read 40 = .ok (.getfield 9, 3) := by decide +kernel
theorem dX7_read_43 : decode cX7_read 43 = .ok (.iload 4, 2) := by decide +kernel
theorem dX7_read_45 : decode cX7_read 45 = .ok (.iload_n 3, 1) := by decide +kernel
theorem dX7_read_46 : decode cX7_read 46 = .ok (.bipush 10, 2) := by decide +kernel
theorem dX7_read_48 : decode cX7_read 48 = .ok (.irem, 1) := by decide +kernel
theorem dX7_read_49 : decode cX7_read 49 = .ok (.iastore, 1) := by decide +kernel
theorem dX7_read_50 : decode cX7_read 50 = .ok (.iload_n 3, 1) := by decide +kernel
theorem dX7_read_51 : decode cX7_read 51 = .ok (.bipush 10, 2) := by decide +kernel
theorem dX7_read_53 : decode cX7_read 53 = .ok (.idiv, 1) := by decide +kernel
theorem dX7_read_54 : decode cX7_read 54 = .ok (.istore_n 3, 1) := by decide +kernel
theorem dX7_read_55 : decode cX7_read 55 = .ok (.aload_n 0, 1) := by decide +kernel
theorem dX7_read_56 : decode cX7_read 56 = .ok (.dup, 1) := by decide +kernel
theorem dX7_read_57 : decode cX7_read 57 = .ok (.getfield 15, 3) := by decide +kernel
theorem dX7_read_60 : decode cX7_read 60 = .ok (.iconst 1, 1) := by decide +kernel
theorem dX7_read_61 : decode cX7_read 61 = .ok (.iadd, 1) := by decide +kernel
theorem dX7_read_62 : decode cX7_read 62 = .ok (.putfield 15, 3) := by decide +kernel
theorem dX7_read_65 : decode cX7_read 65 = .ok (.iinc 4 1, 3) := by decide +kernel
theorem dX7_read_68 : decode cX7_read 68 = .ok (.goto (-58), 3) := by decide +kernel
theorem dX7_read_71 : decode cX7_read 71 = .ok (.iload_n 3, 1) := by decide +kernel
theorem dX7_read_72 : decode cX7_read 72 = .ok (.ifCond .ne 7, 3) := by decide +kernel
theorem dX7_read_75 : decode cX7_read 75 = .ok (.iconst 1, 1) := by decide +kernel
theorem dX7_read_76 : decode cX7_read 76 = .ok (.goto 4, 3) := by decide +kernel
theorem dX7_read_79 : decode cX7_read 79 = .ok (.iconst 0, 1) := by decide +kernel
theorem dX7_read_80 : decode cX7_read 80 = .ok (.ireturn, 1) := by decide +kernel
theorem dX7_orderAt_0 : decode cX7_orderAt 0 = .ok (.iload_n 1, 1) := by decide +kernel
theorem dX7_orderAt_1 : decode cX7_orderAt 1 = .ok (.ifCond .lt 27, 3) := by decide +kernel
theorem dX7_orderAt_4 : decode cX7_orderAt 4 = .ok (.iload_n 1, 1) := by decide +kernel
theorem dX7_orderAt_5 : decode cX7_orderAt 5 = .ok (.aload_n 0, 1) := by decide +kernel
theorem dX7_orderAt_6 : decode cX7_orderAt 6 = .ok (.getfield 15, 3) := by decide +kernel
theorem dX7_orderAt_9 : decode cX7_orderAt 9 = .ok (.if_icmp .ge 19, 3) := by decide +kernel
theorem dX7_orderAt_12 : decode cX7_orderAt 12 = .ok (.aload_n 0, 1) := by decide +kernel
theorem dX7_orderAt_13 : decode cX7_orderAt 13 = .ok (.getfield 9, 3) := by decide +kernel
theorem dX7_orderAt_16 : decode cX7_orderAt 16 = .ok (.aload_n 0, 1) := by decide +kernel
theorem dX7_orderAt_17 : decode cX7_orderAt 17 = .ok (.getfield 15, 3) := by decide +kernel
theorem dX7_orderAt_20 : decode cX7_orderAt 20 = .ok (.iconst 1, 1) := by decide +kernel
theorem dX7_orderAt_21 : decode cX7_orderAt 21 = .ok (.isub, 1) := by decide +kernel
theorem dX7_orderAt_22 : decode cX7_orderAt 22 = .ok (.iload_n 1, 1) := by decide +kernel
theorem dX7_orderAt_23 : decode cX7_orderAt 23 = .ok (.isub, 1) := by decide +kernel
theorem dX7_orderAt_24 : decode cX7_orderAt 24 = .ok (.iaload, 1) := by decide +kernel
theorem dX7_orderAt_25 : decode cX7_orderAt 25 = .ok (.goto 5, 3) := by decide +kernel
theorem dX7_orderAt_28 : decode cX7_orderAt 28 = .ok (.bipush (-9), 2) := by decide +kernel
theorem dX7_orderAt_30 : decode cX7_orderAt 30 = .ok (.ireturn, 1) := by decide +kernel
