theorem dX2_init_0 : decode cX2_init 0 = .ok (.aload_n 0, 1) := by decide +kernel
theorem dX2_init_1 : decode cX2_init 1 = .ok (.invokespecial 3, 3) := by decide +kernel
theorem dX2_init_4 : decode cX2_init 4 = .ok (.aload_n 0, 1) := by decide +kernel
theorem dX2_init_5 : decode cX2_init 5 = .ok (.bipush 12, 2) := by decide +kernel
theorem dX2_init_7 : decode cX2_init 7 = .ok (.newarray .int, 2) := by decide +kernel
theorem dX2_init_9 : decode cX2_init 9 = .ok (.putfield 9, 3) := by decide +kernel
theorem dX2_init_12 : decode cX2_init 12 = .ok (.aload_n 0, 1) := by decide +kernel
theorem dX2_init_13 : decode cX2_init 13 = .ok (.bipush 12, 2) := by decide +kernel
theorem dX2_init_15 : decode cX2_init 15 = .ok (.newarray .int, 2) := by decide +kernel
theorem dX2_init_17 : decode cX2_init 17 = .ok (.putfield 15, 3) := by decide +kernel
theorem dX2_init_20 : decode cX2_init 20 = .ok (.return_, 1) := by decide +kernel
theorem dX2_size_0 : decode cX2_size 0 = .ok (.aload_n 0, 1) := by decide +kernel
theorem dX2_size_1 : decode cX2_size 1 = .ok (.getfield 18, 3) := by decide +kernel
theorem dX2_size_4 : decode cX2_size 4 = .ok (.ireturn, 1) := by decide +kernel
theorem dX2_forget_0 : decode cX2_forget 0 = .ok (.aload_n 0, 1) := by decide +kernel
theorem dX2_forget_1 : decode cX2_forget 1 = .ok (.iconst 0, 1) := by decide +kernel
theorem dX2_forget_2 : decode cX2_forget 2 = .ok (.putfield 18, 3) := by decide +kernel
theorem dX2_forget_5 : decode cX2_forget 5 = .ok (.return_, 1) := by decide +kernel
set_option maxRecDepth 20000 in
theorem ggX2_add_X2_loseOldest : GoodIn wsX2_add wsX2_loseOldest := goodIn_r _ [8, 1, 2, 9, 10, 11, 12, 3, 13, 14, 15] (by decide +kernel) (by decide +kernel)
set_option maxRecDepth 20000 in
theorem gX2_add_X2_loseOldest : GoodIn wsX2_add (wsV RX2 22 RX2 yX2_loseOldest wsX2_loseOldest) := goodIn_app (goodIn_of _ (by decide +kernel)) ggX2_add_X2_loseOldest
theorem dX2_add_0 : decode cX2_add 0 = .ok (.aload_n 0, 1) := by decide +kernel
theorem dX2_add_1 : decode cX2_add 1 = .ok (.getfield 18, 3) := by decide +kernel
theorem dX2_add_4 : decode cX2_add 4 = .ok (.bipush 12, 2) := by decide +kernel
theorem dX2_add_6 : decode cX2_add 6 = .ok (.if_icmp .lt 7, 3) := by decide +kernel
theorem dX2_add_9 : decode cX2_add 9 = .ok (.aload_n 0, 1) := by decide +kernel
theorem dX2_add_10 : decode cX2_add 10 = .ok (.invokevirtual 22, 3) := by decide +kernel
theorem dX2_add_13 : decode cX2_add 13 = .ok (.aload_n 0, 1) := by decide +kernel
theorem dX2_add_14 : decode cX2_add 14 = .ok (.getfield 9, 3) := by decide +kernel
theorem dX2_add_17 : decode cX2_add 17 = .ok (.aload_n 0, 1) := by decide +kernel
theorem dX2_add_18 : decode cX2_add 18 = .ok (.getfield 18, 3) := by decide +kernel
theorem dX2_add_21 : decode cX2_add 21 = .ok (.iload_n 1, 1) := by decide +kernel
theorem dX2_add_22 : decode cX2_add 22 = .ok (.iastore, 1) := by decide +kernel
theorem dX2_add_23 : decode cX2_add 23 = .ok (.aload_n 0, 1) := by decide +kernel
theorem dX2_add_24 : decode cX2_add 24 = .ok (.getfield 15, 3) := by decide +kernel
theorem dX2_add_27 : decode cX2_add 27 = .ok (.aload_n 0, 1) := by decide +kernel
theorem dX2_add_28 : decode cX2_add 28 = .ok (.getfield 18, 3) := by decide +kernel
theorem dX2_add_31 : decode cX2_add 31 = .ok (.iload_n 2, 1) := by decide +kernel
theorem dX2_add_32 : decode cX2_add 32 = .ok (.iastore, 1) := by decide +kernel
theorem dX2_add_33 : decode cX2_add 33 = .ok (.aload_n 0, 1) := by decide +kernel
theorem dX2_add_34 : decode cX2_add 34 = .ok (.dup, 1) := by decide +kernel
theorem dX2_add_35 : decode cX2_add 35 = .ok (.getfield 18, 3) := by decide +kernel
theorem dX2_add_38 : decode cX2_add 38 = .ok (.iconst 1, 1) := by decide +kernel
theorem dX2_add_39 : decode cX2_add 39 = .ok (.iadd, 1) := by decide +kernel
theorem dX2_add_40 : decode cX2_add 40 = .ok (.putfield 18, 3) := by decide +kernel
theorem dX2_add_43 : decode cX2_add 43 = .ok (.return_, 1) := by decide +kernel
theorem dX2_loseOldest_0 : decode cX2_loseOldest 0 = .ok (.aload_n 0, 1) := by decide +kernel
theorem dX2_loseOldest_1 : decode cX2_loseOldest 1 = .ok (.bipush 11, 2) := by decide +kernel
theorem dX2_loseOldest_3 : decode cX2_loseOldest 3 = .ok (.putfield 18, 3) := by decide +kernel
theorem dX2_loseOldest_6 : decode cX2_loseOldest 6 = .ok (.aload_n 0, 1) := by decide +kernel
theorem dX2_loseOldest_7 : decode cX2_loseOldest 7 = .ok (.getfield 9, 3) := by decide +kernel
theorem dX2_loseOldest_10 : decode cX2_loseOldest 10 = .ok (.iconst 1, 1) := by decide +kernel
theorem dX2_loseOldest_11 : decode cX2_loseOldest 11 = .ok (.aload_n 0, 1) := by decide +kernel
theorem dX2_loseOldest_12 : decode cX2_loseOldest 12 = .ok (.getfield 9, 3) := by decide +kernel
theorem dX2_loseOldest_15 : decode cX2_loseOldest 15 = .ok (.iconst 0, 1) := by decide +kernel
theorem dX2_loseOldest_16 : decode cX2_loseOldest 16 = .ok (.aload_n 0, 1) := by decide +kernel
theorem dX2_loseOldest_17 : decode cX2_loseOldest 17 = .ok (.getfield 18, 3) := by decide +kernel
theorem dX2_loseOldest_20 : decode cX2_loseOldest 20 = .ok (.invokestatic 25, 3) := by decide +kernel
theorem dX2_loseOldest_23 : decode cX2_loseOldest 23 = .ok (.aload_n 0, 1) := by decide +kernel
theorem dX2_loseOldest_24 : decode cX2_loseOldest 24 = .ok (.getfield 15, 3) := by decide +kernel
theorem dX2_loseOldest_27 : decode cX2_loseOldest 27 = .ok (.iconst 1, 1) := by decide +kernel
theorem dX2_loseOldest_28 : decode cX2_loseOldest 28 = .ok (.aload_n 0, 1) := by decide +kernel
theorem dX2_loseOldest_29 : decode cX2_loseOldest 29 = .ok (.getfield 15, 3) := by decide +kernel
theorem dX2_loseOldest_32 : decode cX2_loseOldest 32 = .ok (.iconst 0, 1) := by decide +kernel
theorem dX2_loseOldest_33 : decode cX2_loseOldest 33 = .ok (.aload_n 0, 1) := by decide +kernel
theorem dX2_loseOldest_34 : decode cX2_loseOldest 34 = .ok (.getfield 18, 3) := by decide +kernel
theorem dX2_loseOldest_37 : decode cX2_loseOldest 37 = .ok (.invokestatic 25, 3) := by decide +kernel
theorem dX2_loseOldest_40 : decode cX2_loseOldest 40 = .ok (.return_, 1) := by decide +kernel
theorem dX2_dropLatest_0 : decode cX2_dropLatest 0 = .ok (.aload_n 0, 1) := by decide +kernel
theorem dX2_dropLatest_1 : decode cX2_dropLatest 1 = .ok (.getfield 18, 3) := by decide +kernel
theorem dX2_dropLatest_4 : decode cX2_dropLatest 4 = .ok (.ifCond .le 13, 3) := by decide +kernel
theorem dX2_dropLatest_7 : decode cX2_dropLatest 7 = .ok (.aload_n 0, 1) := by decide +kernel
theorem dX2_dropLatest_8 : decode cX2_dropLatest 8 = .ok (.dup, 1) := by decide +kernel
theorem dX2_dropLatest_9 : decode cX2_dropLatest 9 = .ok (.getfield 18, 3) := by decide +kernel
theorem dX2_dropLatest_12 : decode cX2_dropLatest 12 = .ok (.iconst 1, 1) := by decide +kernel
theorem dX2_dropLatest_13 : decode cX2_dropLatest 13 = .ok (.isub, 1) := by decide +kernel
theorem dX2_dropLatest_14 : decode cX2_dropLatest 14 = .ok (.putfield 18, 3) := by decide +kernel
theorem dX2_dropLatest_17 : decode cX2_dropLatest 17 = .ok (.return_, 1) := by decide +kernel
theorem dX2_droppedIn_0 : decode cX2_droppedIn 0 = .ok (.aload_n 0, 1) := by decide +kernel
theorem dX2_droppedIn_1 : decode cX2_droppedIn 1 = .ok (.getfield 18, 3) := by decide +kernel
theorem dX2_droppedIn_4 : decode cX2_droppedIn 4 = .ok (.bipush 12, 2) := by decide +kernel
theorem dX2_droppedIn_6 : decode cX2_droppedIn 6 = .ok (.if_icmp .ge 15, 3) := by decide +kernel
theorem dX2_droppedIn_9 : decode cX2_droppedIn 9 = .ok (.aload_n 0, 1) := by decide +kernel
theorem dX2_droppedIn_10 : decode cX2_droppedIn 10 = .ok (.getfield 9, 3) := by decide +kernel
theorem dX2_droppedIn_13 : decode cX2_droppedIn 13 = .ok (.aload_n 0, 1) := by decide +kernel
theorem dX2_droppedIn_14 : decode cX2_droppedIn 14 = .ok (.getfield 18, 3) := by decide +kernel
theorem dX2_droppedIn_17 : decode cX2_droppedIn 17 = .ok (.iaload, 1) := by decide +kernel
theorem dX2_droppedIn_18 : decode cX2_droppedIn 18 = .ok (.goto 4, 3) := by decide +kernel
theorem dX2_droppedIn_21 : decode cX2_droppedIn 21 = .ok (.iconst 0, 1) := by decide +kernel
theorem dX2_droppedIn_22 : decode cX2_droppedIn 22 = .ok (.ireturn, 1) := by decide +kernel
theorem dX2_droppedStreak_0 : decode cX2_droppedStreak 0 = .ok (.aload_n 0, 1) := by decide +kernel
theorem dX2_droppedStreak_1 : decode cX2_droppedStreak 1 = .ok (.getfield 18, 3) := by decide +kernel
theorem dX2_droppedStreak_4 : decode cX2_droppedStreak 4 = .ok (.bipush 12, 2) := by decide +kernel
theorem dX2_droppedStreak_6 : decode cX2_droppedStreak 6 = .ok (.if_icmp .ge 15, 3) := by decide +kernel
theorem dX2_droppedStreak_9 : decode cX2_droppedStreak 9 = .ok (.aload_n 0, 1) := by decide +kernel
theorem dX2_droppedStreak_10 : decode cX2_droppedStreak 10 = .ok (.getfield 15, 3) := by decide +kernel
theorem dX2_droppedStreak_13 : decode cX2_droppedStreak 13 = .ok (.aload_n 0, 1) := by decide +kernel
theorem dX2_droppedStreak_14 : decode cX2_droppedStreak 14 = .ok (.getfield 18, 3) := by decide +kernel
theorem dX2_droppedStreak_17 : decode cX2_droppedStreak 17 = .ok (.iaload, 1) := by decide +kernel
theorem dX2_droppedStreak_18 : decode cX2_droppedStreak 18 = .ok (.goto 4, 3) := by decide +kernel
theorem dX2_droppedStreak_21 : decode cX2_droppedStreak 21 = .ok (.iconst 0, 1) := by decide +kernel
theorem dX2_droppedStreak_22 : decode cX2_droppedStreak 22 = .ok (.ireturn, 1) := by decide +kernel
