set_option maxRecDepth 20000 in
theorem ggX5_init_X1_init : GoodIn wsX5_init wsX1_init := goodIn_r _ [11, 12, 2, 3, 13, 14, 15, 16, 23, 24, 25, 26, 27] (by decide +kernel) (by decide +kernel)
set_option maxRecDepth 20000 in
theorem gX5_init_X1_init : GoodIn wsX5_init (wsX1_init) := ggX5_init_X1_init
theorem dX5_init_0 : decode cX5_init 0 = .ok (.aload_n 0, 1) := by decide +kernel
theorem dX5_init_1 : decode cX5_init 1 = .ok (.invokespecial 3, 3) := by decide +kernel
theorem dX5_init_4 : decode cX5_init 4 = .ok (.aload_n 0, 1) := by decide +kernel
theorem dX5_init_5 : decode cX5_init 5 = .ok (.aload_n 1, 1) := by decide +kernel
theorem dX5_init_6 : decode cX5_init 6 = .ok (.putfield 9, 3) := by decide +kernel
theorem dX5_init_9 : decode cX5_init 9 = .ok (.aload_n 0, 1) := by decide +kernel
theorem dX5_init_10 : decode cX5_init 10 = .ok (.new 15, 3) := by decide +kernel
theorem dX5_init_13 : decode cX5_init 13 = .ok (.dup, 1) := by decide +kernel
theorem dX5_init_14 : decode cX5_init 14 = .ok (.invokespecial 17, 3) := by decide +kernel
theorem dX5_init_17 : decode cX5_init 17 = .ok (.putfield 18, 3) := by decide +kernel
theorem dX5_init_20 : decode cX5_init 20 = .ok (.return_, 1) := by decide +kernel
set_option maxRecDepth 20000 in
theorem ggX5_readItems_X1_forget : GoodIn wsX5_readItems wsX1_forget := goodIn_r _ [8, 9, 10, 138, 139, 140, 141, 142] (by decide +kernel) (by decide +kernel)
set_option maxRecDepth 20000 in
theorem gX5_readItems_X1_forget : GoodIn wsX5_readItems (wsV RX5 22 RX1 yX1_forget wsX1_forget) := goodIn_app (goodIn_of _ (by decide +kernel)) ggX5_readItems_X1_forget
set_option maxRecDepth 20000 in
theorem ggX5_readItems_X5_advance : GoodIn wsX5_readItems wsX5_advance := goodIn_r _ [15, 2, 16, 17, 3, 18, 19, 20, 21, 22, 23, 24, 25, 26, 27, 28, 29, 30, 14, 31, 32, 33, 34, 35, 36, 37, 38, 39, 40, 41, 42, 43, 44, 45, 46, 47, 48, 49, 50, 51, 52, 53, 54, 55, 56, 57, 58, 59, 60, 61, 62, 63, 64, 65, 66, 67, 68, 69, 70, 71, 72, 73, 74, 75, 76, 77, 78, 79, 80, 81, 82, 83, 84, 85, 86, 87, 88, 89, 90, 91, 92, 93, 94, 95, 96, 97, 98, 99, 100, 132, 133, 134, 135, 136, 137, 143, 144] (by decide +kernel) (by decide +kernel)
set_option maxRecDepth 20000 in
theorem gX5_readItems_X5_advance : GoodIn wsX5_readItems (wsV RX5 29 RX5 yX5_advance wsX5_advance) := goodIn_app (goodIn_of _ (by decide +kernel)) ggX5_readItems_X5_advance
set_option maxRecDepth 20000 in
theorem ggX5_readItems_X5_readChild : GoodIn wsX5_readItems wsX5_readChild := goodIn_r _ [104, 1, 96, 3, 105, 106, 107, 7, 108, 9, 11, 12, 13, 14, 15, 2, 16, 17, 18, 19, 20, 21, 22, 23, 24, 25, 26, 27, 28, 29, 30, 31, 32, 33, 34, 35, 36, 37, 38, 39, 40, 41, 42, 43, 44, 45, 46, 47, 48, 49, 50, 51, 52, 53, 54, 55, 56, 57, 58, 59, 60, 61, 62, 63, 64, 65, 66, 67, 68, 69, 70, 71, 72, 73, 74, 75, 76, 77, 78, 79, 80, 81, 82, 83, 84, 85, 86, 87, 88, 89, 90, 91, 92, 93, 94, 95, 97, 98, 99, 100, 109, 110, 111, 112, 113, 114, 115, 116, 117, 118, 119, 120, 121, 122, 123, 132, 133, 134, 135, 136, 137, 138, 139, 140, 141, 142, 143, 144] (by decide +kernel) (by decide +kernel)
set_option maxRecDepth 20000 in
theorem gX5_readItems_X5_readChild : GoodIn wsX5_readItems (wsV RX5 35 RX5 yX5_readChild wsX5_readChild) := goodIn_app (goodIn_of _ (by decide +kernel)) ggX5_readItems_X5_readChild
set_option maxRecDepth 20000 in
theorem ggX5_readItems_X5_readLittle : GoodIn wsX5_readItems wsX5_readLittle := goodIn_r _ [127, 3, 1, 96, 11, 12, 13, 14, 15, 2, 16, 17, 18, 19, 20, 21, 22, 23, 24, 25, 26, 27, 28, 29, 30, 31, 32, 33, 34, 35, 36, 37, 38, 39, 40, 41, 42, 43, 44, 45, 46, 47, 48, 49, 50, 51, 52, 53, 54, 55, 56, 57, 58, 59, 60, 61, 62, 63, 64, 65, 66, 67, 68, 69, 70, 71, 72, 73, 74, 75, 76, 77, 78, 79, 80, 81, 82, 83, 84, 85, 86, 87, 88, 89, 90, 91, 92, 93, 94, 95, 97, 98, 99, 100, 113, 114, 115, 7, 116, 9, 128, 129, 130, 131, 10, 132, 133, 134, 135, 136, 137, 143, 144, 138, 139, 140, 141, 142] (by decide +kernel) (by decide +kernel)
set_option maxRecDepth 20000 in
theorem gX5_readItems_X5_readLittle : GoodIn wsX5_readItems (wsV RX5 39 RX5 yX5_readLittle wsX5_readLittle) := goodIn_app (goodIn_of _ (by decide +kernel)) ggX5_readItems_X5_readLittle
theorem dX5_readItems_0 : decode cX5_readItems 0 = .ok (.aload_n 0, 1) := by decide +kernel
theorem dX5_readItems_1 : decode cX5_readItems 1 = .ok (.getfield 18, 3) := by decide +kernel
theorem dX5_readItems_4 : decode cX5_readItems 4 = .ok (.invokevirtual 22, 3) := by decide +kernel
theorem dX5_readItems_7 : decode cX5_readItems 7 = .ok (.aload_n 0, 1) := by decide +kernel
theorem dX5_readItems_8 : decode cX5_readItems 8 = .ok (.iconst 0, 1) := by decide +kernel
theorem dX5_readItems_9 : decode cX5_readItems 9 = .ok (.putfield 25, 3) := by decide +kernel
theorem dX5_readItems_12 : decode cX5_readItems 12 = .ok (.aload_n 0, 1) := by decide +kernel
theorem dX5_readItems_13 : decode cX5_readItems 13 = .ok (.invokevirtual 29, 3) := by decide +kernel
theorem dX5_readItems_16 : decode cX5_readItems 16 = .ok (.iconst 0, 1) := by decide +kernel
theorem dX5_readItems_17 : decode cX5_readItems 17 = .ok (.istore_n 1, 1) := by decide +kernel
theorem dX5_readItems_18 : decode cX5_readItems 18 = .ok (.iload_n 1, 1) := by decide +kernel
theorem dX5_readItems_19 : decode cX5_readItems 19 = .ok (.sipush 200, 3) := by decide +kernel
theorem dX5_readItems_22 : decode cX5_readItems 22 = .ok (.if_icmp .gt 60, 3) := by decide +kernel
theorem dX5_readItems_25 : decode cX5_readItems 25 = .ok (.aload_n 0, 1) := by decide +kernel
theorem dX5_readItems_26 : decode cX5_readItems 26 = .ok (.getfield 32, 3) := by decide +kernel
theorem dX5_readItems_29 : decode cX5_readItems 29 = .ok (.ifCond .ne 5, 3) := by decide +kernel
theorem dX5_readItems_32 : decode cX5_readItems 32 = .ok (.iload_n 1, 1) := by decide +kernel
theorem dX5_readItems_33 : decode cX5_readItems 33 = .ok (.ireturn, 1) := by decide +kernel
theorem dX5_readItems_34 : decode cX5_readItems 34 = .ok (.aload_n 0, 1) := by decide +kernel
theorem dX5_readItems_35 : decode cX5_readItems 35 = .ok (.getfield 32, 3) := by decide +kernel
theorem dX5_readItems_38 : decode cX5_readItems 38 = .ok (.iconst 4, 1) := by decide +kernel
theorem dX5_readItems_39 : decode cX5_readItems 39 = .ok (.if_icmp .ne 10, 3) := by decide +kernel
theorem dX5_readItems_42 : decode cX5_readItems 42 = .ok (.aload_n 0, 1) := by decide +kernel
theorem dX5_readItems_43 : decode cX5_readItems 43 = .ok (.invokevirtual 35, 3) := by decide +kernel
theorem dX5_readItems_46 : decode cX5_readItems 46 = .ok (.goto 23, 3) := by decide +kernel
theorem dX5_readItems_49 : decode cX5_readItems 49 = .ok (.aload_n 0, 1) := by decide +kernel
theorem dX5_readItems_50 : decode cX5_readItems 50 = .ok (.getfield 32, 3) := by decide +kernel
theorem dX5_readItems_53 : decode cX5_readItems 53 = .ok (.iconst 5, 1) := by decide +kernel
theorem dX5_readItems_54 : decode cX5_readItems 54 = .ok (.if_icmp .ne 14, 3) := by decide +kernel
theorem dX5_readItems_57 : decode cX5_readItems 57 = .ok (.aload_n 0, 1) := by decide +kernel
theorem dX5_readItems_58 : decode cX5_readItems 58 = .ok (.invokevirtual 39, 3) := by decide +kernel
theorem dX5_readItems_61 : decode cX5_readItems 61 = .ok (.ifCond .eq 7, 3) := by decide +kernel
theorem dX5_readItems_64 : decode cX5_readItems 64 = .ok (.iconst 1, 1) := by decide +kernel
theorem dX5_readItems_65 : decode cX5_readItems 65 = .ok (.goto 4, 3) := by decide +kernel
theorem dX5_readItems_68 : decode cX5_readItems 68 = .ok (.iconst 0, 1) := by decide +kernel
theorem dX5_readItems_69 : decode cX5_readItems 69 = .ok (.istore_n 2, 1) := by decide +kernel
theorem dX5_readItems_70 : decode cX5_readItems 70 = .ok (.iload_n 2, 1) := by decide +kernel
theorem dX5_readItems_71 : decode cX5_readItems 71 = .ok (.ifCond .ne 5, 3) := by decide +kernel
theorem dX5_readItems_74 : decode cX5_readItems 74 = .ok (.iconst (-1), 1) := by decide +kernel
theorem dX5_readItems_75 : decode cX5_readItems 75 = .ok (.ireturn, 1) := by decide +kernel
theorem dX5_readItems_76 : decode cX5_readItems 76 = .ok (.iinc 1 1, 3) := by decide +kernel
theorem dX5_readItems_79 : decode cX5_readItems 79 = .ok (.goto (-61), 3) := by decide +kernel
theorem dX5_readItems_82 : decode cX5_readItems 82 = .ok (.iconst (-1), 1) := by decide +kernel
theorem dX5_readItems_83 : decode cX5_readItems 83 = .ok (.ireturn, 1) := by decide +kernel
theorem dX5_fault_0 : decode cX5_fault 0 = .ok (.aload_n 0, 1) := by decide +kernel
theorem dX5_fault_1 : decode cX5_fault 1 = .ok (.getfield 42, 3) := by decide +kernel
theorem dX5_fault_4 : decode cX5_fault 4 = .ok (.ireturn, 1) := by decide +kernel
theorem dX5_found_0 : decode cX5_found 0 = .ok (.aload_n 0, 1) := by decide +kernel
theorem dX5_found_1 : decode cX5_found 1 = .ok (.getfield 18, 3) := by decide +kernel
theorem dX5_found_4 : decode cX5_found 4 = .ok (.areturn, 1) := by decide +kernel
set_option maxRecDepth 20000 in
theorem ggX5_readChild_X1_size : GoodIn wsX5_readChild wsX1_size := goodIn_r _ [8, 9, 121, 122, 123, 124, 125] (by decide +kernel) (by decide +kernel)
set_option maxRecDepth 20000 in
theorem gX5_readChild_X1_size : GoodIn wsX5_readChild (wsV RX5 45 RX1 yX1_size wsX1_size) := goodIn_app (goodIn_of _ (by decide +kernel)) ggX5_readChild_X1_size
set_option maxRecDepth 20000 in
theorem ggX5_readChild_X5_advance : GoodIn wsX5_readChild wsX5_advance := goodIn_r _ [14, 15, 16, 17, 3, 18, 19, 20, 21, 22, 23, 24, 25, 26, 27, 28, 29, 30, 13, 31, 32, 33, 34, 35, 36, 37, 38, 39, 40, 41, 42, 43, 44, 45, 46, 47, 48, 49, 50, 51, 52, 53, 54, 55, 56, 57, 58, 59, 60, 61, 62, 63, 64, 65, 66, 67, 68, 69, 70, 71, 72, 73, 74, 75, 76, 77, 78, 79, 80, 81, 82, 83, 84, 85, 86, 87, 88, 89, 90, 91, 92, 93, 94, 95, 2, 96, 97, 98, 99, 115, 116, 117, 118, 119, 120, 126, 127] (by decide +kernel) (by decide +kernel)
set_option maxRecDepth 20000 in
theorem gX5_readChild_X5_advance : GoodIn wsX5_readChild (wsV RX5 29 RX5 yX5_advance wsX5_advance) := goodIn_app (goodIn_of _ (by decide +kernel)) ggX5_readChild_X5_advance
set_option maxRecDepth 20000 in
theorem ggX5_readChild_X5_isNumberUpTo : GoodIn wsX5_readChild wsX5_isNumberUpTo := goodIn_r _ [103, 3, 2, 115, 116, 117, 118, 119, 120] (by decide +kernel) (by decide +kernel)
set_option maxRecDepth 20000 in
theorem gX5_readChild_X5_isNumberUpTo : GoodIn wsX5_readChild (wsV RX5 49 RX5 yX5_isNumberUpTo wsX5_isNumberUpTo) := goodIn_app (goodIn_of _ (by decide +kernel)) ggX5_readChild_X5_isNumberUpTo
set_option maxRecDepth 20000 in
theorem ggX5_readChild_X1_has : GoodIn wsX5_readChild wsX1_has := goodIn_r _ [107, 9, 121, 122, 123, 124, 125] (by decide +kernel) (by decide +kernel)
set_option maxRecDepth 20000 in
theorem gX5_readChild_X1_has : GoodIn wsX5_readChild (wsV RX5 56 RX1 yX1_has wsX1_has) := goodIn_app (goodIn_of _ (by decide +kernel)) ggX5_readChild_X1_has
set_option maxRecDepth 20000 in
theorem ggX5_readChild_X1_add : GoodIn wsX5_readChild wsX1_add := goodIn_r _ [111, 9, 112, 113, 114, 121, 122, 123, 124, 125] (by decide +kernel) (by decide +kernel)
set_option maxRecDepth 20000 in
theorem gX5_readChild_X1_add : GoodIn wsX5_readChild (wsV RX5 59 RX1 yX1_add wsX1_add) := goodIn_app (goodIn_of _ (by decide +kernel)) ggX5_readChild_X1_add
theorem dX5_readChild_0 : decode cX5_readChild 0 = .ok (.aload_n 0, 1) := by decide +kernel
theorem dX5_readChild_1 : decode cX5_readChild 1 = .ok (.getfield 18, 3) := by decide +kernel
theorem dX5_readChild_4 : decode cX5_readChild 4 = .ok (.invokevirtual 45, 3) := by decide +kernel
theorem dX5_readChild_7 : decode cX5_readChild 7 = .ok (.bipush 6, 2) := by decide +kernel
theorem dX5_readChild_9 : decode cX5_readChild 9 = .ok (.if_icmp .lt 5, 3) := by decide +kernel
theorem dX5_readChild_12 : decode cX5_readChild 12 = .ok (.iconst 0, 1) := by decide +kernel
theorem dX5_readChild_13 : decode cX5_readChild 13 = .ok (.ireturn, 1) := by decide +kernel
theorem dX5_readChild_14 : decode cX5_readChild 14 = .ok (.aload_n 0, 1) := by decide +kernel
theorem dX5_readChild_15 : decode cX5_readChild 15 = .ok (.invokevirtual 29, 3) := by decide +kernel
theorem dX5_readChild_18 : decode cX5_readChild 18 = .ok (.aload_n 0, 1) := by decide +kernel
theorem dX5_readChild_19 : decode cX5_readChild 19 = .ok (.bipush 9, 2) := by decide +kernel
theorem dX5_readChild_21 : decode cX5_readChild 21 = .ok (.invokevirtual 49, 3) := by decide +kernel
theorem dX5_readChild_24 : decode cX5_readChild 24 = .ok (.ifCond .ne 5, 3) := by decide +kernel
theorem dX5_readChild_27 : decode cX5_readChild 27 = .ok (.iconst 0, 1) := by decide +kernel
theorem dX5_readChild_28 : decode cX5_readChild 28 = .ok (.ireturn, 1) := by decide +kernel
theorem dX5_readChild_29 : decode cX5_readChild 29 = .ok (.aload_n 0, 1) := by decide +kernel
theorem dX5_readChild_30 : decode cX5_readChild 30 = .ok (.getfield 53, 3) := by decide +kernel
theorem dX5_readChild_33 : decode cX5_readChild 33 = .ok (.istore_n 1, 1) := by decide +kernel
theorem dX5_readChild_34 : decode cX5_readChild 34 = .ok (.aload_n 0, 1) := by decide +kernel
theorem dX5_readChild_35 : decode cX5_readChild 35 = .ok (.invokevirtual 29, 3) := by decide +kernel
theorem dX5_readChild_38 : decode cX5_readChild 38 = .ok (.aload_n 0, 1) := by decide +kernel
theorem dX5_readChild_39 : decode cX5_readChild 39 = .ok (.bipush 9, 2) := by decide +kernel
theorem dX5_readChild_41 : decode cX5_readChild 41 = .ok (.invokevirtual 49, 3) := by decide +kernel
theorem dX5_readChild_44 : decode cX5_readChild 44 = .ok (.ifCond .ne 5, 3) := by decide +kernel
theorem dX5_readChild_47 : decode cX5_readChild 47 = .ok (.iconst 0, 1) := by decide +kernel
theorem dX5_readChild_48 : decode cX5_readChild 48 = .ok (.ireturn, 1) := by decide +kernel
theorem dX5_readChild_49 : decode cX5_readChild 49 = .ok (.aload_n 0, 1) := by decide +kernel
theorem dX5_readChild_50 : decode cX5_readChild 50 = .ok (.getfield 53, 3) := by decide +kernel
theorem dX5_readChild_53 : decode cX5_readChild 53 = .ok (.istore_n 2, 1) := by decide +kernel
theorem dX5_readChild_54 : decode cX5_readChild 54 = .ok (.aload_n 0, 1) := by decide +kernel
theorem dX5_readChild_55 : decode cX5_readChild 55 = .ok (.invokevirtual 29, 3) := by decide +kernel
theorem dX5_readChild_58 : decode cX5_readChild 58 = .ok (.aload_n 0, 1) := by decide +kernel
theorem dX5_readChild_59 : decode cX5_readChild 59 = .ok (.getfield 32, 3) := by decide +kernel
theorem dX5_readChild_62 : decode cX5_readChild 62 = .ok (.iconst 3, 1) := by decide +kernel
theorem dX5_readChild_63 : decode cX5_readChild 63 = .ok (.if_icmp .ne 26, 3) := by decide +kernel
theorem dX5_readChild_66 : decode cX5_readChild 66 = .ok (.aload_n 0, 1) := by decide +kernel
theorem dX5_readChild_67 : decode cX5_readChild 67 = .ok (.getfield 53, 3) := by decide +kernel
theorem dX5_readChild_70 : decode cX5_readChild 70 = .ok (.bipush 9, 2) := by decide +kernel
theorem dX5_readChild_72 : decode cX5_readChild 72 = .ok (.if_icmp .eq 19, 3) := by decide +kernel
theorem dX5_readChild_75 : decode cX5_readChild 75 = .ok (.aload_n 0, 1) := by decide +kernel
theorem dX5_readChild_76 : decode cX5_readChild 76 = .ok (.getfield 18, 3) := by decide +kernel
theorem dX5_readChild_79 : decode cX5_readChild 79 = .ok (.aload_n 0, 1) := by decide +kernel
theorem dX5_readChild_80 : decode cX5_readChild 80 = .ok (.getfield 53, 3) := by decide +kernel
theorem dX5_readChild_83 : decode cX5_readChild 83 = .ok (.invokevirtual 56, 3) := by decide +kernel
theorem dX5_readChild_86 : decode cX5_readChild 86 = .ok (.ifCond .ne 5, 3) := by decide +kernel
theorem dX5_readChild_89 : decode cX5_readChild 89 = .ok (.iconst 0, 1) := by decide +kernel
theorem dX5_readChild_90 : decode cX5_readChild 90 = .ok (.ireturn, 1) := by decide +kernel
theorem dX5_readChild_91 : decode cX5_readChild 91 = .ok (.aload_n 0, 1) := by decide +kernel
theorem dX5_readChild_92 : decode cX5_readChild 92 = .ok (.getfield 53, 3) := by decide +kernel
theorem dX5_readChild_95 : decode cX5_readChild 95 = .ok (.istore_n 3, 1) := by decide +kernel
theorem dX5_readChild_96 : decode cX5_readChild 96 = .ok (.aload_n 0, 1) := by decide +kernel
theorem dX5_readChild_97 : decode cX5_readChild 97 = .ok (.invokevirtual 29, 3) := by decide +kernel
theorem dX5_readChild_100 : decode cX5_readChild 100 = .ok (.aload_n 0, 1) := by decide +kernel
theorem dX5_readChild_101 : decode cX5_readChild 101 = .ok (.getfield 32, 3) := by decide +kernel
theorem dX5_readChild_104 : decode cX5_readChild 104 = .ok (.iconst 2, 1) := by decide +kernel
theorem dX5_readChild_105 : decode cX5_readChild 105 = .ok (.if_icmp .eq 5, 3) := by decide +kernel
theorem dX5_readChild_108 : decode cX5_readChild 108 = .ok (.iconst 0, 1) := by decide +kernel
theorem dX5_readChild_109 : decode cX5_readChild 109 = .ok (.ireturn, 1) := by decide +kernel
theorem dX5_readChild_110 : decode cX5_readChild 110 = .ok (.aload_n 0, 1) := by decide +kernel
theorem dX5_readChild_111 : decode cX5_readChild 111 = .ok (.getfield 18, 3) := by decide +kernel
theorem dX5_readChild_114 : decode cX5_readChild 114 = .ok (.iload_n 1, 1) := by decide +kernel
theorem dX5_readChild_115 : decode cX5_readChild 115 = .ok (.iload_n 2, 1) := by decide +kernel
theorem dX5_readChild_116 : decode cX5_readChild 116 = .ok (.iload_n 3, 1) := by decide +kernel
theorem dX5_readChild_117 : decode cX5_readChild 117 = .ok (.invokevirtual 59, 3) := by decide +kernel
theorem dX5_readChild_120 : decode cX5_readChild 120 = .ok (.aload_n 0, 1) := by decide +kernel
theorem dX5_readChild_121 : decode cX5_readChild 121 = .ok (.invokevirtual 29, 3) := by decide +kernel
theorem dX5_readChild_124 : decode cX5_readChild 124 = .ok (.iconst 1, 1) := by decide +kernel
theorem dX5_readChild_125 : decode cX5_readChild 125 = .ok (.ireturn, 1) := by decide +kernel
set_option maxRecDepth 20000 in
theorem ggX5_readLittle_X5_advance : GoodIn wsX5_readLittle wsX5_advance := goodIn_r _ [8, 9, 10, 11, 1, 12, 13, 14, 15, 16, 17, 18, 19, 20, 21, 22, 23, 24, 7, 25, 26, 27, 28, 29, 30, 31, 32, 33, 34, 35, 36, 37, 38, 39, 40, 41, 42, 43, 44, 45, 46, 47, 48, 49, 50, 51, 52, 53, 54, 55, 56, 57, 58, 59, 60, 61, 62, 63, 64, 65, 66, 67, 68, 69, 70, 71, 72, 73, 74, 75, 76, 77, 78, 79, 80, 81, 82, 83, 84, 85, 86, 87, 88, 89, 3, 90, 91, 92, 93, 105, 106, 107, 108, 109, 110, 111, 112] (by decide +kernel) (by decide +kernel)
set_option maxRecDepth 20000 in
theorem gX5_readLittle_X5_advance : GoodIn wsX5_readLittle (wsV RX5 29 RX5 yX5_advance wsX5_advance) := goodIn_app (goodIn_of _ (by decide +kernel)) ggX5_readLittle_X5_advance
set_option maxRecDepth 20000 in
theorem ggX5_readLittle_X1_has : GoodIn wsX5_readLittle wsX1_has := goodIn_r _ [98, 99, 113, 114, 115, 116, 117] (by decide +kernel) (by decide +kernel)
set_option maxRecDepth 20000 in
theorem gX5_readLittle_X1_has : GoodIn wsX5_readLittle (wsV RX5 56 RX1 yX1_has wsX1_has) := goodIn_app (goodIn_of _ (by decide +kernel)) ggX5_readLittle_X1_has
set_option maxRecDepth 20000 in
theorem ggX5_readLittle_X1_makeLittle : GoodIn wsX5_readLittle wsX1_makeLittle := goodIn_r _ [103, 104, 113, 114, 115, 116, 117] (by decide +kernel) (by decide +kernel)
set_option maxRecDepth 20000 in
theorem gX5_readLittle_X1_makeLittle : GoodIn wsX5_readLittle (wsV RX5 63 RX1 yX1_makeLittle wsX1_makeLittle) := goodIn_app (goodIn_of _ (by decide +kernel)) ggX5_readLittle_X1_makeLittle
theorem dX5_readLittle_0 : decode cX5_readLittle 0 = .ok (.aload_n 0, 1) := by decide +kernel
theorem dX5_readLittle_1 : decode cX5_readLittle 1 = .ok (.invokevirtual 29, 3) := by decide +kernel
theorem dX5_readLittle_4 : decode cX5_readLittle 4 = .ok (.aload_n 0, 1) := by decide +kernel
theorem dX5_readLittle_5 : decode cX5_readLittle 5 = .ok (.getfield 32, 3) := by decide +kernel
theorem dX5_readLittle_8 : decode cX5_readLittle 8 = .ok (.iconst 3, 1) := by decide +kernel
theorem dX5_readLittle_9 : decode cX5_readLittle 9 = .ok (.if_icmp .ne 17, 3) := by decide +kernel
theorem dX5_readLittle_12 : decode cX5_readLittle 12 = .ok (.aload_n 0, 1) := by decide +kernel
theorem dX5_readLittle_13 : decode cX5_readLittle 13 = .ok (.getfield 18, 3) := by decide +kernel
theorem dX5_readLittle_16 : decode cX5_readLittle 16 = .ok (.aload_n 0, 1) := by decide +kernel
theorem dX5_readLittle_17 : decode cX5_readLittle 17 = .ok (.getfield 53, 3) := by decide +kernel
theorem dX5_readLittle_20 : decode cX5_readLittle 20 = .ok (.invokevirtual 56, 3) := by decide +kernel
theorem dX5_readLittle_23 : decode cX5_readLittle 23 = .ok (.ifCond .ne 5, 3) := by decide +kernel
theorem dX5_readLittle_26 : decode cX5_readLittle 26 = .ok (.iconst 0, 1) := by decide +kernel
theorem dX5_readLittle_27 : decode cX5_readLittle 27 = .ok (.ireturn, 1) := by decide +kernel
theorem dX5_readLittle_28 : decode cX5_readLittle 28 = .ok (.aload_n 0, 1) := by decide +kernel
theorem dX5_readLittle_29 : decode cX5_readLittle 29 = .ok (.getfield 53, 3) := by decide +kernel
theorem dX5_readLittle_32 : decode cX5_readLittle 32 = .ok (.istore_n 1, 1) := by decide +kernel
theorem dX5_readLittle_33 : decode cX5_readLittle 33 = .ok (.aload_n 0, 1) := by decide +kernel
theorem dX5_readLittle_34 : decode cX5_readLittle 34 = .ok (.invokevirtual 29, 3) := by decide +kernel
theorem dX5_readLittle_37 : decode cX5_readLittle 37 = .ok (.aload_n 0, 1) := by decide +kernel
theorem dX5_readLittle_38 : decode cX5_readLittle 38 = .ok (.getfield 32, 3) := by decide +kernel
theorem dX5_readLittle_41 : decode cX5_readLittle 41 = .ok (.iconst 2, 1) := by decide +kernel
theorem dX5_readLittle_42 : decode cX5_readLittle 42 = .ok (.if_icmp .eq 5, 3) := by decide +kernel
theorem dX5_readLittle_45 : decode cX5_readLittle 45 = .ok (.iconst 0, 1) := by decide +kernel
theorem dX5_readLittle_46 : decode cX5_readLittle 46 = .ok (.ireturn, 1) := by decide +kernel
theorem dX5_readLittle_47 : decode cX5_readLittle 47 = .ok (.aload_n 0, 1) := by decide +kernel
theorem dX5_readLittle_48 : decode cX5_readLittle 48 = .ok (.getfield 18, 3) := by decide +kernel
theorem dX5_readLittle_51 : decode cX5_readLittle 51 = .ok (.iload_n 1, 1) := by decide +kernel
theorem dX5_readLittle_52 : decode cX5_readLittle 52 = .ok (.invokevirtual 63, 3) := by decide +kernel
theorem dX5_readLittle_55 : decode cX5_readLittle 55 = .ok (.aload_n 0, 1) := by decide +kernel
theorem dX5_readLittle_56 : decode cX5_readLittle 56 = .ok (.invokevirtual 29, 3) := by decide +kernel
theorem dX5_readLittle_59 : decode cX5_readLittle 59 = .ok (.iconst 1, 1) := by decide +kernel
theorem dX5_readLittle_60 : decode cX5_readLittle 60 = .ok (.ireturn, 1) := by decide +kernel
theorem dX5_isNumberUpTo_0 : decode cX5_isNumberUpTo 0 = .ok (.aload_n 0, 1) := by decide +kernel
theorem dX5_isNumberUpTo_1 : decode cX5_isNumberUpTo 1 = .ok (.getfield 32, 3) := by decide +kernel
theorem dX5_isNumberUpTo_4 : decode cX5_isNumberUpTo 4 = .ok (.iconst 3, 1) := by decide +kernel
theorem dX5_isNumberUpTo_5 : decode cX5_isNumberUpTo 5 = .ok (.if_icmp .ne 15, 3) := by decide +kernel
theorem dX5_isNumberUpTo_8 : decode cX5_isNumberUpTo 8 = .ok (.aload_n 0, 1) := by decide +kernel
theorem dX5_isNumberUpTo_9 : decode cX5_isNumberUpTo 9 = .ok (.getfield 53, 3) := by decide +kernel
theorem dX5_isNumberUpTo_12 : decode cX5_isNumberUpTo 12 = .ok (.iload_n 1, 1) := by decide +kernel
theorem dX5_isNumberUpTo_13 : decode cX5_isNumberUpTo 13 = .ok (.if_icmp .gt 7, 3) := by decide +kernel
theorem dX5_isNumberUpTo_16 : decode cX5_isNumberUpTo 16 = .ok (.iconst 1, 1) := by decide +kernel
theorem dX5_isNumberUpTo_17 : decode cX5_isNumberUpTo 17 = .ok (.goto 4, 3) := by decide +kernel
theorem dX5_isNumberUpTo_20 : decode cX5_isNumberUpTo 20 = .ok (.iconst 0, 1) := by decide +kernel
theorem dX5_isNumberUpTo_21 : decode cX5_isNumberUpTo 21 = .ok (.ireturn, 1) := by decide +kernel
set_option maxRecDepth 20000 in
theorem ggX5_advance_X8_length : GoodIn wsX5_advance wsX8_length := goodIn_r _ [9, 10, 95, 96] (by decide +kernel) (by decide +kernel)
set_option maxRecDepth 20000 in
theorem gX5_advance_X8_length : GoodIn wsX5_advance (wsV RX5 67 RX8 yX8_length wsX8_length) := goodIn_app (goodIn_of _ (by decide +kernel)) ggX5_advance_X8_length
set_option maxRecDepth 20000 in
theorem ggX5_advance_X8_byteAt : GoodIn wsX5_advance wsX8_byteAt := goodIn_r _ [14, 10, 15, 95, 96] (by decide +kernel) (by decide +kernel)
set_option maxRecDepth 20000 in
theorem gX5_advance_X8_byteAt : GoodIn wsX5_advance (wsV RX5 72 RX8 yX8_byteAt wsX8_byteAt) := goodIn_app (goodIn_of _ (by decide +kernel)) ggX5_advance_X8_byteAt
set_option maxRecDepth 20000 in
theorem ggX5_advance_X5_isLetter : GoodIn wsX5_advance wsX5_isLetter := goodIn_r _ [19] (by decide +kernel) (by decide +kernel)
set_option maxRecDepth 20000 in
theorem gX5_advance_X5_isLetter : GoodIn wsX5_advance (va_wsS RX5 76 yX5_isLetter wsX5_isLetter) := goodIn_app (goodIn_of _ (by decide +kernel)) ggX5_advance_X5_isLetter
set_option maxRecDepth 20000 in
theorem ggX5_advance_X5_advanceOverWord : GoodIn wsX5_advance wsX5_advanceOverWord := goodIn_r _ [23, 1, 3, 4, 5, 6, 7, 8, 9, 10, 11, 12, 13, 14, 15, 16, 17, 18, 19, 24, 25, 26, 27, 2, 28, 29, 30, 31, 32, 33, 34, 35, 36, 37, 38, 39, 40, 41, 42, 43, 44, 45, 46, 47, 48, 49, 50, 51, 52, 53, 54, 55, 56, 57, 58, 59, 60, 61, 62, 63, 64, 65, 66, 67, 68, 69, 70, 71, 72, 73, 74, 75, 76, 89, 90, 91, 92, 93, 94, 95, 96] (by decide +kernel) (by decide +kernel)
set_option maxRecDepth 20000 in
theorem gX5_advance_X5_advanceOverWord : GoodIn wsX5_advance (wsV RX5 79 RX5 yX5_advanceOverWord wsX5_advanceOverWord) := goodIn_app (goodIn_of _ (by decide +kernel)) ggX5_advance_X5_advanceOverWord
set_option maxRecDepth 20000 in
theorem ggX5_advance_X5_isDigit : GoodIn wsX5_advance wsX5_isDigit := goodIn_r _ [79] (by decide +kernel) (by decide +kernel)
set_option maxRecDepth 20000 in
theorem gX5_advance_X5_isDigit : GoodIn wsX5_advance (va_wsS RX5 82 yX5_isDigit wsX5_isDigit) := goodIn_app (goodIn_of _ (by decide +kernel)) ggX5_advance_X5_isDigit
set_option maxRecDepth 20000 in
theorem ggX5_advance_X5_advanceOverNumber : GoodIn wsX5_advance wsX5_advanceOverNumber := goodIn_r _ [83, 3, 2, 84, 1, 85, 86, 87, 88, 4, 11, 12, 13, 8, 14, 10, 15, 5, 6, 7, 9, 77, 78, 18, 79, 89, 90, 91, 92, 93, 94, 95, 96] (by decide +kernel) (by decide +kernel)
set_option maxRecDepth 20000 in
theorem gX5_advance_X5_advanceOverNumber : GoodIn wsX5_advance (wsV RX5 85 RX5 yX5_advanceOverNumber wsX5_advanceOverNumber) := goodIn_app (goodIn_of _ (by decide +kernel)) ggX5_advance_X5_advanceOverNumber
theorem dX5_advance_0 : decode cX5_advance 0 = .ok (.aload_n 0, 1) := by decide +kernel
theorem dX5_advance_1 : decode cX5_advance 1 = .ok (.aload_n 0, 1) := by decide +kernel
theorem dX5_advance_2 : decode cX5_advance 2 = .ok (.getfield 25, 3) := by decide +kernel
theorem dX5_advance_5 : decode cX5_advance 5 = .ok (.putfield 42, 3) := by decide +kernel
theorem dX5_advance_8 : decode cX5_advance 8 = .ok (.aload_n 0, 1) := by decide +kernel
theorem dX5_advance_9 : decode cX5_advance 9 = .ok (.getfield 42, 3) := by decide +kernel
theorem dX5_advance_12 : decode cX5_advance 12 = .ok (.aload_n 0, 1) := by decide +kernel
theorem dX5_advance_13 : decode cX5_advance 13 = .ok (.getfield 9, 3) := by decide +kernel
theorem dX5_advance_16 : decode cX5_advance 16 = .ok (.invokevirtual 67, 3) := by decide +kernel
theorem dX5_advance_19 : decode cX5_advance 19 = .ok (.if_icmp .ge 32, 3) := by decide +kernel
theorem dX5_advance_22 : decode cX5_advance 22 = .ok (.aload_n 0, 1) := by decide +kernel
theorem dX5_advance_23 : decode cX5_advance 23 = .ok (.getfield 9, 3) := by decide +kernel
theorem dX5_advance_26 : decode cX5_advance 26 = .ok (.aload_n 0, 1) := by decide +kernel
theorem dX5_advance_27 : decode cX5_advance 27 = .ok (.getfield 42, 3) := by decide +kernel
theorem dX5_advance_30 : decode cX5_advance 30 = .ok (.invokevirtual 72, 3) := by decide +kernel
theorem dX5_advance_33 : decode cX5_advance 33 = .ok (.bipush 32, 2) := by decide +kernel
theorem dX5_advance_35 : decode cX5_advance 35 = .ok (.if_icmp .ne 16, 3) := by decide +kernel
theorem dX5_advance_38 : decode cX5_advance 38 = .ok (.aload_n 0, 1) := by decide +kernel
theorem dX5_advance_39 : decode cX5_advance 39 = .ok (.dup, 1) := by decide +kernel
theorem dX5_advance_40 : decode cX5_advance 40 = .ok (.getfield 42, 3) := by decide +kernel
theorem dX5_advance_43 : decode cX5_advance 43 = .ok (.iconst 1, 1) := by decide +kernel
theorem dX5_advance_44 : decode cX5_advance 44 = .ok (.iadd, 1) := by decide +kernel
theorem dX5_advance_45 : decode cX5_advance 45 = .ok (.putfield 42, 3) := by decide +kernel
theorem dX5_advance_48 : decode cX5_advance 48 = .ok (.goto (-40), 3) := by decide +kernel
theorem dX5_advance_51 : decode cX5_advance 51 = .ok (.aload_n 0, 1) := by decide +kernel
theorem dX5_advance_52 : decode cX5_advance 52 = .ok (.aload_n 0, 1) := by decide +kernel
theorem dX5_advance_53 : decode cX5_advance 53 = .ok (.getfield 42, 3) := by decide +kernel
theorem dX5_advance_56 : decode cX5_advance 56 = .ok (.iconst 1, 1) := by decide +kernel
theorem dX5_advance_57 : decode cX5_advance 57 = .ok (.iadd, 1) := by decide +kernel
theorem dX5_advance_58 : decode cX5_advance 58 = .ok (.putfield 25, 3) := by decide +kernel
theorem dX5_advance_61 : decode cX5_advance 61 = .ok (.aload_n 0, 1) := by decide +kernel
theorem dX5_advance_62 : decode cX5_advance 62 = .ok (.getfield 9, 3) := by decide +kernel
theorem dX5_advance_65 : decode cX5_advance 65 = .ok (.aload_n 0, 1) := by decide +kernel
theorem dX5_advance_66 : decode cX5_advance 66 = .ok (.getfield 42, 3) := by decide +kernel
theorem dX5_advance_69 : decode cX5_advance 69 = .ok (.invokevirtual 72, 3) := by decide +kernel
theorem dX5_advance_72 : decode cX5_advance 72 = .ok (.istore_n 1, 1) := by decide +kernel
theorem dX5_advance_73 : decode cX5_advance 73 = .ok (.iload_n 1, 1) := by decide +kernel
theorem dX5_advance_74 : decode cX5_advance 74 = .ok (.ifCond .ge 11, 3) := by decide +kernel
theorem dX5_advance_77 : decode cX5_advance 77 = .ok (.aload_n 0, 1) := by decide +kernel
theorem dX5_advance_78 : decode cX5_advance 78 = .ok (.iconst 0, 1) := by decide +kernel
theorem dX5_advance_79 : decode cX5_advance 79 = .ok (.putfield 32, 3) := by decide +kernel
theorem dX5_advance_82 : decode cX5_advance 82 = .ok (.goto 46, 3) := by decide +kernel
theorem dX5_advance_85 : decode cX5_advance 85 = .ok (.iload_n 1, 1) := by decide +kernel
theorem dX5_advance_86 : decode cX5_advance 86 = .ok (.invokestatic 76, 3) := by decide +kernel
theorem dX5_advance_89 : decode cX5_advance 89 = .ok (.ifCond .eq 10, 3) := by decide +kernel
theorem dX5_advance_92 : decode cX5_advance 92 = .ok (.aload_n 0, 1) := by decide +kernel
theorem dX5_advance_93 : decode cX5_advance 93 = .ok (.invokevirtual 79, 3) := by decide +kernel
theorem dX5_advance_96 : decode cX5_advance 96 = .ok (.goto 32, 3) := by decide +kernel
theorem dX5_advance_99 : decode cX5_advance 99 = .ok (.iload_n 1, 1) := by decide +kernel
theorem dX5_advance_100 : decode cX5_advance 100 = .ok (.invokestatic 82, 3) := by decide +kernel
theorem dX5_advance_103 : decode cX5_advance 103 = .ok (.ifCond .eq 10, 3) := by decide +kernel
theorem dX5_advance_106 : decode cX5_advance 106 = .ok (.aload_n 0, 1) := by decide +kernel
theorem dX5_advance_107 : decode cX5_advance 107 = .ok (.invokevirtual 85, 3) := by decide +kernel
theorem dX5_advance_110 : decode cX5_advance 110 = .ok (.goto 18, 3) := by decide +kernel
theorem dX5_advance_113 : decode cX5_advance 113 = .ok (.aload_n 0, 1) := by decide +kernel
theorem dX5_advance_114 : decode cX5_advance 114 = .ok (.iload_n 1, 1) := by decide +kernel
theorem dX5_advance_115 : decode cX5_advance 115 = .ok (.bipush 59, 2) := by decide +kernel
theorem dX5_advance_117 : decode cX5_advance 117 = .ok (.if_icmp .ne 7, 3) := by decide +kernel
theorem dX5_advance_120 : decode cX5_advance 120 = .ok (.iconst 2, 1) := by decide +kernel
theorem dX5_advance_121 : decode cX5_advance 121 = .ok (.goto 4, 3) := by decide +kernel
theorem dX5_advance_124 : decode cX5_advance 124 = .ok (.iconst 1, 1) := by decide +kernel
theorem dX5_advance_125 : decode cX5_advance 125 = .ok (.putfield 32, 3) := by decide +kernel
theorem dX5_advance_128 : decode cX5_advance 128 = .ok (.return_, 1) := by decide +kernel
set_option maxRecDepth 20000 in
theorem ggX5_advanceOverWord_X8_length : GoodIn wsX5_advanceOverWord wsX8_length := goodIn_r _ [8, 9, 79, 80] (by decide +kernel) (by decide +kernel)
set_option maxRecDepth 20000 in
theorem gX5_advanceOverWord_X8_length : GoodIn wsX5_advanceOverWord (wsV RX5 67 RX8 yX8_length wsX8_length) := goodIn_app (goodIn_of _ (by decide +kernel)) ggX5_advanceOverWord_X8_length
set_option maxRecDepth 20000 in
theorem ggX5_advanceOverWord_X8_byteAt : GoodIn wsX5_advanceOverWord wsX8_byteAt := goodIn_r _ [13, 9, 14, 79, 80] (by decide +kernel) (by decide +kernel)
set_option maxRecDepth 20000 in
theorem gX5_advanceOverWord_X8_byteAt : GoodIn wsX5_advanceOverWord (wsV RX5 72 RX8 yX8_byteAt wsX8_byteAt) := goodIn_app (goodIn_of _ (by decide +kernel)) ggX5_advanceOverWord_X8_byteAt
set_option maxRecDepth 20000 in
theorem ggX5_advanceOverWord_X5_isLetter : GoodIn wsX5_advanceOverWord wsX5_isLetter := goodIn_r _ [18] (by decide +kernel) (by decide +kernel)
set_option maxRecDepth 20000 in
theorem gX5_advanceOverWord_X5_isLetter : GoodIn wsX5_advanceOverWord (va_wsS RX5 76 yX5_isLetter wsX5_isLetter) := goodIn_app (goodIn_of _ (by decide +kernel)) ggX5_advanceOverWord_X5_isLetter
set_option maxRecDepth 20000 in
theorem ggX5_advanceOverWord_X5_spells : GoodIn wsX5_advanceOverWord wsX5_spells := goodIn_r _ [22, 1, 23, 2, 24, 25, 26, 27, 28, 29, 30, 31, 32, 33, 34, 35, 10, 11, 12, 7, 13, 9, 14, 36, 37, 38, 39, 40, 41, 42, 43, 44, 45, 46, 47, 48, 49, 50, 51, 52, 53, 54, 55, 56, 57, 58, 59, 60, 61, 62, 63, 64, 65, 66, 67, 68, 69, 70, 71, 72, 73, 74, 75, 76, 77, 78, 79, 80] (by decide +kernel) (by decide +kernel)
set_option maxRecDepth 20000 in
theorem gX5_advanceOverWord_X5_spells : GoodIn wsX5_advanceOverWord (wsV RX5 90 RX5 yX5_spells wsX5_spells) := goodIn_app (goodIn_of _ (by decide +kernel)) ggX5_advanceOverWord_X5_spells
theorem dX5_advanceOverWord_0 : decode cX5_advanceOverWord 0 = .ok (.aload_n 0, 1) := by decide +kernel
theorem dX5_advanceOverWord_1 : decode cX5_advanceOverWord 1 = .ok (.getfield 25, 3) := by decide +kernel
theorem dX5_advanceOverWord_4 : decode cX5_advanceOverWord 4 = .ok (.aload_n 0, 1) := by decide +kernel
theorem dX5_advanceOverWord_5 : decode cX5_advanceOverWord 5 = .ok (.getfield 9, 3) := by decide +kernel
theorem dX5_advanceOverWord_8 : decode cX5_advanceOverWord 8 = .ok (.invokevirtual 67, 3) := by decide +kernel
theorem dX5_advanceOverWord_11 : decode cX5_advanceOverWord 11 = .ok (.if_icmp .ge 33, 3) := by decide +kernel
theorem dX5_advanceOverWord_14 : decode cX5_advanceOverWord 14 = .ok (.aload_n 0, 1) := by decide +kernel
theorem dX5_advanceOverWord_15 : decode cX5_advanceOverWord 15 = .ok (.getfield 9, 3) := by decide +kernel
theorem dX5_advanceOverWord_18 : decode cX5_advanceOverWord 18 = .ok (.aload_n 0, 1) := by decide +kernel
theorem dX5_advanceOverWord_19 : decode cX5_advanceOverWord 19 = .ok (.getfield 25, 3) := by decide +kernel
theorem dX5_advanceOverWord_22 : decode cX5_advanceOverWord 22 = .ok (.invokevirtual 72, 3) := by decide +kernel
theorem dX5_advanceOverWord_25 : decode cX5_advanceOverWord 25 = .ok (.invokestatic 76, 3) := by decide +kernel
theorem dX5_advanceOverWord_28 : decode cX5_advanceOverWord 28 = .ok (.ifCond .eq 16, 3) := by decide +kernel
theorem dX5_advanceOverWord_31 : decode cX5_advanceOverWord 31 = .ok (.aload_n 0, 1) := by decide +kernel
theorem dX5_advanceOverWord_32 : decode cX5_advanceOverWord 32 = .ok (.dup, 1) := by decide +kernel
theorem dX5_advanceOverWord_33 : decode cX5_advanceOverWord 33 = .ok (.getfield 25, 3) := by decide +kernel
theorem dX5_advanceOverWord_36 : decode cX5_advanceOverWord 36 = .ok (.iconst 1, 1) := by decide +kernel
theorem dX5_advanceOverWord_37 : decode cX5_advanceOverWord 37 = .ok (.iadd, 1) := by decide +kernel
theorem dX5_advanceOverWord_38 : decode cX5_advanceOverWord 38 = .ok (.putfield 25, 3) := by decide +kernel
theorem dX5_advanceOverWord_41 : decode cX5_advanceOverWord 41 = .ok (.goto (-41), 3) := by decide +kernel
theorem dX5_advanceOverWord_44 : decode cX5_advanceOverWord 44 = .ok (.aload_n 0, 1) := by decide +kernel
theorem dX5_advanceOverWord_45 : decode cX5_advanceOverWord 45 = .ok (.ldc 88, 2) := by decide +kernel
theorem dX5_advanceOverWord_47 : decode cX5_advanceOverWord 47 = .ok (.invokevirtual 90, 3) := by decide +kernel
theorem dX5_advanceOverWord_50 : decode cX5_advanceOverWord 50 = .ok (.ifCond .eq 11, 3) := by decide +kernel
theorem dX5_advanceOverWord_53 : decode cX5_advanceOverWord 53 = .ok (.aload_n 0, 1) := by decide +kernel
theorem dX5_advanceOverWord_54 : decode cX5_advanceOverWord 54 = .ok (.iconst 4, 1) := by decide +kernel
theorem dX5_advanceOverWord_55 : decode cX5_advanceOverWord 55 = .ok (.putfield 32, 3) := by decide +kernel
theorem dX5_advanceOverWord_58 : decode cX5_advanceOverWord 58 = .ok (.goto 21, 3) := by decide +kernel
theorem dX5_advanceOverWord_61 : decode cX5_advanceOverWord 61 = .ok (.aload_n 0, 1) := by decide +kernel
theorem dX5_advanceOverWord_62 : decode cX5_advanceOverWord 62 = .ok (.aload_n 0, 1) := by decide +kernel
theorem dX5_advanceOverWord_63 : decode cX5_advanceOverWord 63 = .ok (.ldc 94, 2) := by decide +kernel
theorem dX5_advanceOverWord_65 : decode cX5_advanceOverWord 65 = .ok (.invokevirtual 90, 3) := by decide +kernel
theorem dX5_advanceOverWord_68 : decode cX5_advanceOverWord 68 = .ok (.ifCond .eq 7, 3) := by decide +kernel
theorem dX5_advanceOverWord_71 : decode cX5_advanceOverWord 71 = .ok (.iconst 5, 1) := by decide +kernel
theorem dX5_advanceOverWord_72 : decode cX5_advanceOverWord 72 = .ok (.goto 4, 3) := by decide +kernel
theorem dX5_advanceOverWord_75 : decode cX5_advanceOverWord 75 = .ok (.iconst 1, 1) := by decide +kernel
theorem dX5_advanceOverWord_76 : decode cX5_advanceOverWord 76 = .ok (.putfield 32, 3) := by decide +kernel
theorem dX5_advanceOverWord_79 : decode cX5_advanceOverWord 79 = .ok (.return_, 1) := by decide +kernel
set_option maxRecDepth 20000 in
theorem ggX5_advanceOverNumber_X8_byteAt : GoodIn wsX5_advanceOverNumber wsX8_byteAt := goodIn_r _ [14, 15, 16, 31, 32] (by decide +kernel) (by decide +kernel)
set_option maxRecDepth 20000 in
theorem gX5_advanceOverNumber_X8_byteAt : GoodIn wsX5_advanceOverNumber (wsV RX5 72 RX8 yX8_byteAt wsX8_byteAt) := goodIn_app (goodIn_of _ (by decide +kernel)) ggX5_advanceOverNumber_X8_byteAt
set_option maxRecDepth 20000 in
theorem ggX5_advanceOverNumber_X8_length : GoodIn wsX5_advanceOverNumber wsX8_length := goodIn_r _ [20, 15, 31, 32] (by decide +kernel) (by decide +kernel)
set_option maxRecDepth 20000 in
theorem gX5_advanceOverNumber_X8_length : GoodIn wsX5_advanceOverNumber (wsV RX5 67 RX8 yX8_length wsX8_length) := goodIn_app (goodIn_of _ (by decide +kernel)) ggX5_advanceOverNumber_X8_length
set_option maxRecDepth 20000 in
theorem ggX5_advanceOverNumber_X5_isDigit : GoodIn wsX5_advanceOverNumber wsX5_isDigit := goodIn_r _ [24] (by decide +kernel) (by decide +kernel)
set_option maxRecDepth 20000 in
theorem gX5_advanceOverNumber_X5_isDigit : GoodIn wsX5_advanceOverNumber (va_wsS RX5 82 yX5_isDigit wsX5_isDigit) := goodIn_app (goodIn_of _ (by decide +kernel)) ggX5_advanceOverNumber_X5_isDigit
theorem dX5_advanceOverNumber_0 : decode cX5_advanceOverNumber 0 = .ok (.aload_n 0, 1) := by decide +kernel
theorem dX5_advanceOverNumber_1 : decode cX5_advanceOverNumber 1 = .ok (.getfield 9, 3) := by decide +kernel
theorem dX5_advanceOverNumber_4 : decode cX5_advanceOverNumber 4 = .ok (.aload_n 0, 1) := by decide +kernel
theorem dX5_advanceOverNumber_5 : decode cX5_advanceOverNumber 5 = .ok (.getfield 42, 3) := by decide +kernel
theorem dX5_advanceOverNumber_8 : decode cX5_advanceOverNumber 8 = .ok (.invokevirtual 72, 3) := by decide +kernel
theorem dX5_advanceOverNumber_11 : decode cX5_advanceOverNumber 11 = .ok (.istore_n 1, 1) := by decide +kernel
theorem dX5_advanceOverNumber_12 : decode cX5_advanceOverNumber 12 = .ok (.aload_n 0, 1) := by decide +kernel
theorem dX5_advanceOverNumber_13 : decode cX5_advanceOverNumber 13 = .ok (.iload_n 1, 1) := by decide +kernel
theorem dX5_advanceOverNumber_14 : decode cX5_advanceOverNumber 14 = .ok (.bipush 48, 2) := by decide +kernel
theorem dX5_advanceOverNumber_16 : decode cX5_advanceOverNumber 16 = .ok (.isub, 1) := by decide +kernel
theorem dX5_advanceOverNumber_17 : decode cX5_advanceOverNumber 17 = .ok (.putfield 53, 3) := by decide +kernel
theorem dX5_advanceOverNumber_20 : decode cX5_advanceOverNumber 20 = .ok (.aload_n 0, 1) := by decide +kernel
theorem dX5_advanceOverNumber_21 : decode cX5_advanceOverNumber 21 = .ok (.getfield 25, 3) := by decide +kernel
theorem dX5_advanceOverNumber_24 : decode cX5_advanceOverNumber 24 = .ok (.aload_n 0, 1) := by decide +kernel
theorem dX5_advanceOverNumber_25 : decode cX5_advanceOverNumber 25 = .ok (.getfield 9, 3) := by decide +kernel
theorem dX5_advanceOverNumber_28 : decode cX5_advanceOverNumber 28 = .ok (.invokevirtual 67, 3) := by decide +kernel
theorem dX5_advanceOverNumber_31 : decode cX5_advanceOverNumber 31 = .ok (.if_icmp .ge 64, 3) := by decide +kernel
theorem dX5_advanceOverNumber_34 : decode cX5_advanceOverNumber 34 = .ok (.aload_n 0, 1) := by decide +kernel
theorem dX5_advanceOverNumber_35 : decode cX5_advanceOverNumber 35 = .ok (.getfield 9, 3) := by decide +kernel
theorem dX5_advanceOverNumber_38 : decode cX5_advanceOverNumber 38 = .ok (.aload_n 0, 1) := by decide +kernel
theorem dX5_advanceOverNumber_39 : decode cX5_advanceOverNumber 39 = .ok (.getfield 25, 3) := by decide +kernel
theorem dX5_advanceOverNumber_42 : decode cX5_advanceOverNumber 42 = .ok (.invokevirtual 72, 3) := by decide +kernel
theorem dX5_advanceOverNumber_45 : decode cX5_advanceOverNumber 45 = .ok (.invokestatic 82, 3) := by decide +kernel
theorem dX5_advanceOverNumber_48 : decode cX5_advanceOverNumber 48 = .ok (.ifCond .eq 47, 3) := by decide +kernel
theorem dX5_advanceOverNumber_51 : decode cX5_advanceOverNumber 51 = .ok (.aload_n 0, 1) := by decide +kernel
theorem dX5_advanceOverNumber_52 : decode cX5_advanceOverNumber 52 = .ok (.bipush 100, 2) := by decide +kernel
theorem dX5_advanceOverNumber_54 : decode cX5_advanceOverNumber 54 = .ok (.aload_n 0, 1) := by decide +kernel
theorem dX5_advanceOverNumber_55 : decode cX5_advanceOverNumber 55 = .ok (.getfield 53, 3) := by decide +kernel
theorem dX5_advanceOverNumber_58 : decode cX5_advanceOverNumber 58 = .ok (.bipush 10, 2) := by decide +kernel
theorem dX5_advanceOverNumber_60 : decode cX5_advanceOverNumber 60 = .ok (.imul, 1) := by decide +kernel
theorem dX5_advanceOverNumber_61 : decode cX5_advanceOverNumber 61 = .ok (.aload_n 0, 1) := by decide +kernel
theorem dX5_advanceOverNumber_62 : decode cX5_advanceOverNumber 62 = .ok (.getfield 9, 3) := by decide +kernel
theorem dX5_advanceOverNumber_65 : decode cX5_advanceOverNumber 65 = .ok (.aload_n 0, 1) := by decide +kernel
theorem dX5_advanceOverNumber_66 : decode cX5_advanceOverNumber 66 = .ok (.getfield 25, 3) := by decide +kernel
theorem dX5_advanceOverNumber_69 : decode cX5_advanceOverNumber 69 = .ok (.invokevirtual 72, 3) := by decide +kernel
theorem dX5_advanceOverNumber_72 : decode cX5_advanceOverNumber 72 = .ok (.iadd, 1) := by decide +kernel
theorem dX5_advanceOverNumber_73 : decode cX5_advanceOverNumber 73 = .ok (.bipush 48, 2) := by decide +kernel
theorem dX5_advanceOverNumber_75 : decode cX5_advanceOverNumber 75 = .ok (.isub, 1) := by decide +kernel
theorem dX5_advanceOverNumber_76 : decode cX5_advanceOverNumber 76 = .ok (.invokestatic 96, 3) := by decide +kernel
theorem dX5_advanceOverNumber_79 : decode cX5_advanceOverNumber 79 = .ok (.putfield 53, 3) := by decide +kernel
theorem dX5_advanceOverNumber_82 : decode cX5_advanceOverNumber 82 = .ok (.aload_n 0, 1) := by decide +kernel
theorem dX5_advanceOverNumber_83 : decode cX5_advanceOverNumber 83 = .ok (.dup, 1) := by decide +kernel
theorem dX5_advanceOverNumber_84 : decode cX5_advanceOverNumber 84 = .ok (.getfield 25, 3) := by decide +kernel
theorem dX5_advanceOverNumber_87 : decode cX5_advanceOverNumber 87 = .ok (.iconst 1, 1) := by decide +kernel
theorem dX5_advanceOverNumber_88 : decode cX5_advanceOverNumber 88 = .ok (.iadd, 1) := by decide +kernel
theorem dX5_advanceOverNumber_89 : decode cX5_advanceOverNumber 89 = .ok (.putfield 25, 3) := by decide +kernel
theorem dX5_advanceOverNumber_92 : decode cX5_advanceOverNumber 92 = .ok (.goto (-72), 3) := by decide +kernel
theorem dX5_advanceOverNumber_95 : decode cX5_advanceOverNumber 95 = .ok (.iload_n 1, 1) := by decide +kernel
theorem dX5_advanceOverNumber_96 : decode cX5_advanceOverNumber 96 = .ok (.bipush 48, 2) := by decide +kernel
theorem dX5_advanceOverNumber_98 : decode cX5_advanceOverNumber 98 = .ok (.if_icmp .ne 20, 3) := by decide +kernel
theorem dX5_advanceOverNumber_101 : decode cX5_advanceOverNumber 101 = .ok (.aload_n 0, 1) := by decide +kernel
theorem dX5_advanceOverNumber_102 : decode cX5_advanceOverNumber 102 = .ok (.getfield 25, 3) := by decide +kernel
theorem dX5_advanceOverNumber_105 : decode cX5_advanceOverNumber 105 = .ok (.aload_n 0, 1) := by decide +kernel
theorem dX5_advanceOverNumber_106 : decode cX5_advanceOverNumber 106 = .ok (.getfield 42, 3) := by decide +kernel
theorem dX5_advanceOverNumber_109 : decode cX5_advanceOverNumber 109 = .ok (.isub, 1) := by decide +kernel
theorem dX5_advanceOverNumber_110 : decode cX5_advanceOverNumber 110 = .ok (.iconst 1, 1) := by decide +kernel
theorem dX5_advanceOverNumber_111 : decode cX5_advanceOverNumber 111 = .ok (.if_icmp .le 7, 3) := by decide +kernel
theorem dX5_advanceOverNumber_114 : decode cX5_advanceOverNumber 114 = .ok (.iconst 1, 1) := by decide +kernel
theorem dX5_advanceOverNumber_115 : decode cX5_advanceOverNumber 115 = .ok (.goto 4, 3) := by decide +kernel
theorem dX5_advanceOverNumber_118 : decode cX5_advanceOverNumber 118 = .ok (.iconst 0, 1) := by decide +kernel
theorem dX5_advanceOverNumber_119 : decode cX5_advanceOverNumber 119 = .ok (.istore_n 2, 1) := by decide +kernel
theorem dX5_advanceOverNumber_120 : decode cX5_advanceOverNumber 120 = .ok (.aload_n 0, 1) := by decide +kernel
theorem dX5_advanceOverNumber_121 : decode cX5_advanceOverNumber 121 = .ok (.aload_n 0, 1) := by decide +kernel
theorem dX5_advanceOverNumber_122 : decode cX5_advanceOverNumber 122 = .ok (.getfield 53, 3) := by decide +kernel
theorem dX5_advanceOverNumber_125 : decode cX5_advanceOverNumber 125 = .ok (.bipush 99, 2) := by decide +kernel
theorem dX5_advanceOverNumber_127 : decode cX5_advanceOverNumber 127 = .ok (.if_icmp .gt 7, 3) := by decide +kernel
theorem dX5_advanceOverNumber_130 : decode cX5_advanceOverNumber 130 = .ok (.iload_n 2, 1) := by decide +kernel
theorem dX5_advanceOverNumber_131 : decode cX5_advanceOverNumber 131 = .ok (.ifCond .eq 7, 3) := by decide +kernel
theorem dX5_advanceOverNumber_134 : decode cX5_advanceOverNumber 134 = .ok (.iconst 1, 1) := by decide +kernel
theorem dX5_advanceOverNumber_135 : decode cX5_advanceOverNumber 135 = .ok (.goto 4, 3) := by decide +kernel
theorem dX5_advanceOverNumber_138 : decode cX5_advanceOverNumber 138 = .ok (.iconst 3, 1) := by decide +kernel
theorem dX5_advanceOverNumber_139 : decode cX5_advanceOverNumber 139 = .ok (.putfield 32, 3) := by decide +kernel
theorem dX5_advanceOverNumber_142 : decode cX5_advanceOverNumber 142 = .ok (.return_, 1) := by decide +kernel
set_option maxRecDepth 20000 in
theorem ggX5_spells_J0_length_8abf5 : GoodIn wsX5_spells wsJ0_length_8abf5 := goodIn_r _ [8, 9, 10, 11, 12, 7, 13, 14, 15] (by decide +kernel) (by decide +kernel)
set_option maxRecDepth 20000 in
theorem gX5_spells_J0_length_8abf5 : GoodIn wsX5_spells (wsV RX5 102 RJ0 yJ0_length_8abf5 wsJ0_length_8abf5) := goodIn_app (goodIn_of _ (by decide +kernel)) ggX5_spells_J0_length_8abf5
set_option maxRecDepth 20000 in
theorem ggX5_spells_X8_byteAt : GoodIn wsX5_spells wsX8_byteAt := goodIn_r _ [20, 21, 22, 66, 67] (by decide +kernel) (by decide +kernel)
set_option maxRecDepth 20000 in
theorem gX5_spells_X8_byteAt : GoodIn wsX5_spells (wsV RX5 72 RX8 yX8_byteAt wsX8_byteAt) := goodIn_app (goodIn_of _ (by decide +kernel)) ggX5_spells_X8_byteAt
set_option maxRecDepth 20000 in
theorem ggX5_spells_J0_charAt_5068e : GoodIn wsX5_spells wsJ0_charAt_5068e := goodIn_r _ [26, 9, 27, 28, 29, 7, 30, 14, 15, 31, 32, 33, 34, 35, 36, 37, 38, 39, 40, 41, 42, 43, 44, 45, 46, 47, 48, 49, 50, 51, 52, 53, 54, 55, 56, 57, 58, 59] (by decide +kernel) (by decide +kernel)
set_option maxRecDepth 20000 in
theorem gX5_spells_J0_charAt_5068e : GoodIn wsX5_spells (wsV RX5 105 RJ0 yJ0_charAt_5068e wsJ0_charAt_5068e) := goodIn_app (goodIn_of _ (by decide +kernel)) ggX5_spells_J0_charAt_5068e
theorem dX5_spells_0 : decode cX5_spells 0 = .ok (.aload_n 0, 1) := by decide +kernel
theorem dX5_spells_1 : decode cX5_spells 1 = .ok (.getfield 25, 3) := by decide +kernel
theorem dX5_spells_4 : decode cX5_spells 4 = .ok (.aload_n 0, 1) := by decide +kernel
theorem dX5_spells_5 : decode cX5_spells 5 = .ok (.getfield 42, 3) := by decide +kernel
theorem dX5_spells_8 : decode cX5_spells 8 = .ok (.isub, 1) := by decide +kernel
theorem dX5_spells_9 : decode cX5_spells 9 = .ok (.aload_n 1, 1) := by decide +kernel
theorem dX5_spells_10 : decode cX5_spells 10 = .ok (.invokevirtual 102, 3) := by decide +kernel
theorem dX5_spells_13 : decode cX5_spells 13 = .ok (.if_icmp .eq 5, 3) := by decide +kernel
theorem dX5_spells_16 : decode cX5_spells 16 = .ok (.iconst 0, 1) := by decide +kernel
theorem dX5_spells_17 : decode cX5_spells 17 = .ok (.ireturn, 1) := by decide +kernel
theorem dX5_spells_18 : decode cX5_spells 18 = .ok (.iconst 0, 1) := by decide +kernel
theorem dX5_spells_19 : decode cX5_spells 19 = .ok (.istore_n 2, 1) := by decide +kernel
theorem dX5_spells_20 : decode cX5_spells 20 = .ok (.iload_n 2, 1) := by decide +kernel
theorem dX5_spells_21 : decode cX5_spells 21 = .ok (.aload_n 1, 1) := by decide +kernel
theorem dX5_spells_22 : decode cX5_spells 22 = .ok (.invokevirtual 102, 3) := by decide +kernel
theorem dX5_spells_25 : decode cX5_spells 25 = .ok (.if_icmp .ge 32, 3) := by decide +kernel
theorem dX5_spells_28 : decode cX5_spells 28 = .ok (.aload_n 0, 1) := by decide +kernel
theorem dX5_spells_29 : decode cX5_spells 29 = .ok (.getfield 9, 3) := by decide +kernel
theorem dX5_spells_32 : decode cX5_spells 32 = .ok (.aload_n 0, 1) := by decide +kernel
theorem dX5_spells_33 : decode cX5_spells 33 = .ok (.getfield 42, 3) := by decide +kernel
theorem dX5_spells_36 : decode cX5_spells 36 = .ok (.iload_n 2, 1) := by decide +kernel
theorem dX5_spells_37 : decode cX5_spells 37 = .ok (.iadd, 1) := by decide +kernel
theorem dX5_spells_38 : decode cX5_spells 38 = .ok (.invokevirtual 72, 3) := by decide +kernel
theorem dX5_spells_41 : decode cX5_spells 41 = .ok (.aload_n 1, 1) := by decide +kernel
theorem dX5_spells_42 : decode cX5_spells 42 = .ok (.iload_n 2, 1) := by decide +kernel
theorem dX5_spells_43 : decode cX5_spells 43 = .ok (.invokevirtual 105, 3) := by decide +kernel
theorem dX5_spells_46 : decode cX5_spells 46 = .ok (.if_icmp .eq 5, 3) := by decide +kernel
theorem dX5_spells_49 : decode cX5_spells 49 = .ok (.iconst 0, 1) := by decide +kernel
theorem dX5_spells_50 : decode cX5_spells 50 = .ok (.ireturn, 1) := by decide +kernel
theorem dX5_spells_51 : decode cX5_spells 51 = .ok (.iinc 2 1, 3) := by decide +kernel
theorem dX5_spells_54 : decode cX5_spells 54 = .ok (.goto (-34), 3) := by decide +kernel
theorem dX5_spells_57 : decode cX5_spells 57 = .ok (.iconst 1, 1) := by decide +kernel
theorem dX5_spells_58 : decode cX5_spells 58 = .ok (.ireturn, 1) := by decide +kernel
theorem dX5_isLetter_0 : decode cX5_isLetter 0 = .ok (.iload_n 0, 1) := by decide +kernel
theorem dX5_isLetter_1 : decode cX5_isLetter 1 = .ok (.bipush 97, 2) := by decide +kernel
theorem dX5_isLetter_3 : decode cX5_isLetter 3 = .ok (.if_icmp .lt 13, 3) := by decide +kernel
theorem dX5_isLetter_6 : decode cX5_isLetter 6 = .ok (.iload_n 0, 1) := by decide +kernel
theorem dX5_isLetter_7 : decode cX5_isLetter 7 = .ok (.bipush 122, 2) := by decide +kernel
theorem dX5_isLetter_9 : decode cX5_isLetter 9 = .ok (.if_icmp .gt 7, 3) := by decide +kernel
theorem dX5_isLetter_12 : decode cX5_isLetter 12 = .ok (.iconst 1, 1) := by decide +kernel
theorem dX5_isLetter_13 : decode cX5_isLetter 13 = .ok (.goto 4, 3) := by decide +kernel
theorem dX5_isLetter_16 : decode cX5_isLetter 16 = .ok (.iconst 0, 1) := by decide +kernel
theorem dX5_isLetter_17 : decode cX5_isLetter 17 = .ok (.ireturn, 1) := by decide +kernel
theorem dX5_isDigit_0 : decode cX5_isDigit 0 = .ok (.iload_n 0, 1) := by decide +kernel
theorem dX5_isDigit_1 : decode cX5_isDigit 1 = .ok (.bipush 48, 2) := by decide +kernel
theorem dX5_isDigit_3 : decode cX5_isDigit 3 = .ok (.if_icmp .lt 13, 3) := by decide +kernel
theorem dX5_isDigit_6 : decode cX5_isDigit 6 = .ok (.iload_n 0, 1) := by decide +kernel
theorem dX5_isDigit_7 : decode cX5_isDigit 7 = .ok (.bipush 57, 2) := by decide +kernel
theorem dX5_isDigit_9 : decode cX5_isDigit 9 = .ok (.if_icmp .gt 7, 3) := by decide +kernel
theorem dX5_isDigit_12 : decode cX5_isDigit 12 = .ok (.iconst 1, 1) := by decide +kernel
theorem dX5_isDigit_13 : decode cX5_isDigit 13 = .ok (.goto 4, 3) := by decide +kernel
theorem dX5_isDigit_16 : decode cX5_isDigit 16 = .ok (.iconst 0, 1) := by decide +kernel
theorem dX5_isDigit_17 : decode cX5_isDigit 17 = .ok (.ireturn, 1) := by decide +kernel
