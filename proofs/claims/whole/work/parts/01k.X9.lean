set_option maxRecDepth 20000 in
theorem ggX9_init_X8_init : GoodIn wsX9_init wsX8_init := goodIn_r _ [42, 43, 2, 3, 44, 45, 98, 99] (by decide +kernel) (by decide +kernel)
set_option maxRecDepth 20000 in
theorem gX9_init_X8_init : GoodIn wsX9_init (wsX8_init) := ggX9_init_X8_init
set_option maxRecDepth 20000 in
theorem ggX9_init_X5_init : GoodIn wsX9_init wsX5_init := goodIn_r _ [48, 49, 2, 3, 50, 51, 13, 14, 52, 53, 54, 55, 56, 44, 57, 58, 59, 109, 110, 111, 112, 113, 114, 115, 116, 117, 118, 119] (by decide +kernel) (by decide +kernel)
set_option maxRecDepth 20000 in
theorem gX9_init_X5_init : GoodIn wsX9_init (wsX5_init) := ggX9_init_X5_init
set_option maxRecDepth 20000 in
theorem ggX9_init_X1_init : GoodIn wsX9_init wsX1_init := goodIn_r _ [55, 56, 2, 3, 44, 57, 58, 59, 115, 116, 117, 118, 119] (by decide +kernel) (by decide +kernel)
set_option maxRecDepth 20000 in
theorem gX9_init_X1_init : GoodIn wsX9_init (wsX1_init) := ggX9_init_X1_init
set_option maxRecDepth 20000 in
theorem ggX9_init_X6_init : GoodIn wsX9_init wsX6_init := goodIn_r _ [63, 64, 2, 3, 65, 66, 120, 121, 122, 123] (by decide +kernel) (by decide +kernel)
set_option maxRecDepth 20000 in
theorem gX9_init_X6_init : GoodIn wsX9_init (wsX6_init) := ggX9_init_X6_init
set_option maxRecDepth 20000 in
theorem ggX9_init_X2_init : GoodIn wsX9_init wsX2_init := goodIn_r _ [69, 70, 2, 3, 44, 71, 72, 124, 125, 126] (by decide +kernel) (by decide +kernel)
set_option maxRecDepth 20000 in
theorem gX9_init_X2_init : GoodIn wsX9_init (wsX2_init) := ggX9_init_X2_init
set_option maxRecDepth 20000 in
theorem ggX9_init_X3_init : GoodIn wsX9_init wsX3_init := goodIn_r _ [75, 76, 2, 3, 77, 127, 128, 129, 130] (by decide +kernel) (by decide +kernel)
set_option maxRecDepth 20000 in
theorem gX9_init_X3_init : GoodIn wsX9_init (wsX3_init) := ggX9_init_X3_init
set_option maxRecDepth 20000 in
theorem ggX9_init_X7_init : GoodIn wsX9_init wsX7_init := goodIn_r _ [80, 81, 2, 3, 44, 82, 131, 132] (by decide +kernel) (by decide +kernel)
set_option maxRecDepth 20000 in
theorem gX9_init_X7_init : GoodIn wsX9_init (wsX7_init) := ggX9_init_X7_init
set_option maxRecDepth 20000 in
theorem ggX9_init_X0_init : GoodIn wsX9_init wsX0_init := goodIn_r _ [85, 86, 2, 3, 87, 88, 89, 90, 91, 133, 134, 135, 136] (by decide +kernel) (by decide +kernel)
set_option maxRecDepth 20000 in
theorem gX9_init_X0_init : GoodIn wsX9_init (wsX0_init) := ggX9_init_X0_init
set_option maxRecDepth 20000 in
theorem ggX9_init_X4_init : GoodIn wsX9_init wsX4_init := goodIn_r _ [94, 95, 2, 3, 96, 97, 137, 138, 139] (by decide +kernel) (by decide +kernel)
set_option maxRecDepth 20000 in
theorem gX9_init_X4_init : GoodIn wsX9_init (wsX4_init) := ggX9_init_X4_init
theorem dX9_init_0 : decode cX9_init 0 = .ok (.aload_n 0, 1) := by decide +kernel
theorem dX9_init_1 : decode cX9_init 1 = .ok (.invokespecial 1, 3) := by decide +kernel
theorem dX9_init_4 : decode cX9_init 4 = .ok (.aload_n 0, 1) := by decide +kernel
theorem dX9_init_5 : decode cX9_init 5 = .ok (.new 7, 3) := by decide +kernel
theorem dX9_init_8 : decode cX9_init 8 = .ok (.dup, 1) := by decide +kernel
theorem dX9_init_9 : decode cX9_init 9 = .ok (.invokespecial 9, 3) := by decide +kernel
theorem dX9_init_12 : decode cX9_init 12 = .ok (.putfield 10, 3) := by decide +kernel
theorem dX9_init_15 : decode cX9_init 15 = .ok (.aload_n 0, 1) := by decide +kernel
theorem dX9_init_16 : decode cX9_init 16 = .ok (.new 16, 3) := by decide +kernel
theorem dX9_init_19 : decode cX9_init 19 = .ok (.dup, 1) := by decide +kernel
theorem dX9_init_20 : decode cX9_init 20 = .ok (.aload_n 0, 1) := by decide +kernel
theorem dX9_init_21 : decode cX9_init 21 = .ok (.getfield 10, 3) := by decide +kernel
theorem dX9_init_24 : decode cX9_init 24 = .ok (.invokespecial 18, 3) := by decide +kernel
theorem dX9_init_27 : decode cX9_init 27 = .ok (.putfield 21, 3) := by decide +kernel
theorem dX9_init_30 : decode cX9_init 30 = .ok (.aload_n 0, 1) := by decide +kernel
theorem dX9_init_31 : decode cX9_init 31 = .ok (.new 25, 3) := by decide +kernel
theorem dX9_init_34 : decode cX9_init 34 = .ok (.dup, 1) := by decide +kernel
theorem dX9_init_35 : decode cX9_init 35 = .ok (.invokespecial 27, 3) := by decide +kernel
theorem dX9_init_38 : decode cX9_init 38 = .ok (.putfield 28, 3) := by decide +kernel
theorem dX9_init_41 : decode cX9_init 41 = .ok (.aload_n 0, 1) := by decide +kernel
theorem dX9_init_42 : decode cX9_init 42 = .ok (.new 32, 3) := by decide +kernel
theorem dX9_init_45 : decode cX9_init 45 = .ok (.dup, 1) := by decide +kernel
theorem dX9_init_46 : decode cX9_init 46 = .ok (.aload_n 0, 1) := by decide +kernel
theorem dX9_init_47 : decode cX9_init 47 = .ok (.getfield 28, 3) := by decide +kernel
theorem dX9_init_50 : decode cX9_init 50 = .ok (.invokespecial 34, 3) := by decide +kernel
theorem dX9_init_53 : decode cX9_init 53 = .ok (.putfield 37, 3) := by decide +kernel
theorem dX9_init_56 : decode cX9_init 56 = .ok (.aload_n 0, 1) := by decide +kernel
theorem dX9_init_57 : decode cX9_init 57 = .ok (.new 41, 3) := by decide +kernel
theorem dX9_init_60 : decode cX9_init 60 = .ok (.dup, 1) := by decide +kernel
theorem dX9_init_61 : decode cX9_init 61 = .ok (.invokespecial 43, 3) := by decide +kernel
theorem dX9_init_64 : decode cX9_init 64 = .ok (.putfield 44, 3) := by decide +kernel
theorem dX9_init_67 : decode cX9_init 67 = .ok (.aload_n 0, 1) := by decide +kernel
theorem dX9_init_68 : decode cX9_init 68 = .ok (.iconst 2, 1) := by decide +kernel
theorem dX9_init_69 : decode cX9_init 69 = .ok (.anewarray 48, 3) := by decide +kernel
theorem dX9_init_72 : decode cX9_init 72 = .ok (.putfield 50, 3) := by decide +kernel
theorem dX9_init_75 : decode cX9_init 75 = .ok (.iconst 0, 1) := by decide +kernel
theorem dX9_init_76 : decode cX9_init 76 = .ok (.istore_n 1, 1) := by decide +kernel
theorem dX9_init_77 : decode cX9_init 77 = .ok (.iload_n 1, 1) := by decide +kernel
theorem dX9_init_78 : decode cX9_init 78 = .ok (.iconst 2, 1) := by decide +kernel
theorem dX9_init_79 : decode cX9_init 79 = .ok (.if_icmp .ge 22, 3) := by decide +kernel
theorem dX9_init_82 : decode cX9_init 82 = .ok (.aload_n 0, 1) := by decide +kernel
theorem dX9_init_83 : decode cX9_init 83 = .ok (.getfield 50, 3) := by decide +kernel
theorem dX9_init_86 : decode cX9_init 86 = .ok (.iload_n 1, 1) := by decide +kernel
theorem dX9_init_87 : decode cX9_init 87 = .ok (.new 48, 3) := by decide +kernel
theorem dX9_init_90 : decode cX9_init 90 = .ok (.dup, 1) := by decide +kernel
theorem dX9_init_91 : decode cX9_init 91 = .ok (.invokespecial 54, 3) := by decide +kernel
theorem dX9_init_94 : decode cX9_init 94 = .ok (.aastore, 1) := by decide +kernel
theorem dX9_init_95 : decode cX9_init 95 = .ok (.iinc 1 1, 3) := by decide +kernel
theorem dX9_init_98 : decode cX9_init 98 = .ok (.goto (-21), 3) := by decide +kernel
theorem dX9_init_101 : decode cX9_init 101 = .ok (.aload_n 0, 1) := by decide +kernel
theorem dX9_init_102 : decode cX9_init 102 = .ok (.new 55, 3) := by decide +kernel
theorem dX9_init_105 : decode cX9_init 105 = .ok (.dup, 1) := by decide +kernel
theorem dX9_init_106 : decode cX9_init 106 = .ok (.invokespecial 57, 3) := by decide +kernel
theorem dX9_init_109 : decode cX9_init 109 = .ok (.putfield 58, 3) := by decide +kernel
theorem dX9_init_112 : decode cX9_init 112 = .ok (.aload_n 0, 1) := by decide +kernel
theorem dX9_init_113 : decode cX9_init 113 = .ok (.new 62, 3) := by decide +kernel
theorem dX9_init_116 : decode cX9_init 116 = .ok (.dup, 1) := by decide +kernel
theorem dX9_init_117 : decode cX9_init 117 = .ok (.aload_n 0, 1) := by decide +kernel
theorem dX9_init_118 : decode cX9_init 118 = .ok (.getfield 28, 3) := by decide +kernel
theorem dX9_init_121 : decode cX9_init 121 = .ok (.aload_n 0, 1) := by decide +kernel
theorem dX9_init_122 : decode cX9_init 122 = .ok (.getfield 37, 3) := by decide +kernel
theorem dX9_init_125 : decode cX9_init 125 = .ok (.aload_n 0, 1) := by decide +kernel
theorem dX9_init_126 : decode cX9_init 126 = .ok (.getfield 58, 3) := by decide +kernel
theorem dX9_init_129 : decode cX9_init 129 = .ok (.invokespecial 64, 3) := by decide +kernel
theorem dX9_init_132 : decode cX9_init 132 = .ok (.putfield 67, 3) := by decide +kernel
theorem dX9_init_135 : decode cX9_init 135 = .ok (.aload_n 0, 1) := by decide +kernel
theorem dX9_init_136 : decode cX9_init 136 = .ok (.new 71, 3) := by decide +kernel
theorem dX9_init_139 : decode cX9_init 139 = .ok (.dup, 1) := by decide +kernel
theorem dX9_init_140 : decode cX9_init 140 = .ok (.aload_n 0, 1) := by decide +kernel
theorem dX9_init_141 : decode cX9_init 141 = .ok (.getfield 28, 3) := by decide +kernel
theorem dX9_init_144 : decode cX9_init 144 = .ok (.aload_n 0, 1) := by decide +kernel
theorem dX9_init_145 : decode cX9_init 145 = .ok (.getfield 37, 3) := by decide +kernel
theorem dX9_init_148 : decode cX9_init 148 = .ok (.invokespecial 73, 3) := by decide +kernel
theorem dX9_init_151 : decode cX9_init 151 = .ok (.putfield 76, 3) := by decide +kernel
theorem dX9_init_154 : decode cX9_init 154 = .ok (.return_, 1) := by decide +kernel
set_option maxRecDepth 20000 in
theorem ggX9_type_X8_length : GoodIn wsX9_type wsX8_length := goodIn_r _ [6, 7, 22, 23] (by decide +kernel) (by decide +kernel)
set_option maxRecDepth 20000 in
theorem gX9_type_X8_length : GoodIn wsX9_type (wsV RX9 80 RX8 yX8_length wsX8_length) := goodIn_app (goodIn_of _ (by decide +kernel)) ggX9_type_X8_length
set_option maxRecDepth 20000 in
theorem ggX9_type_X8_append : GoodIn wsX9_type wsX8_append := goodIn_r _ [11, 7, 12, 22, 23] (by decide +kernel) (by decide +kernel)
set_option maxRecDepth 20000 in
theorem gX9_type_X8_append : GoodIn wsX9_type (wsV RX9 84 RX8 yX8_append wsX8_append) := goodIn_app (goodIn_of _ (by decide +kernel)) ggX9_type_X8_append
theorem dX9_type_0 : decode cX9_type 0 = .ok (.iload_n 3, 1) := by decide +kernel
theorem dX9_type_1 : decode cX9_type 1 = .ok (.iconst 1, 1) := by decide +kernel
theorem dX9_type_2 : decode cX9_type 2 = .ok (.if_icmp .lt 9, 3) := by decide +kernel
theorem dX9_type_5 : decode cX9_type 5 = .ok (.iload_n 3, 1) := by decide +kernel
theorem dX9_type_6 : decode cX9_type 6 = .ok (.bipush 8, 2) := by decide +kernel
theorem dX9_type_8 : decode cX9_type 8 = .ok (.if_icmp .le 5, 3) := by decide +kernel
theorem dX9_type_11 : decode cX9_type 11 = .ok (.iconst (-1), 1) := by decide +kernel
theorem dX9_type_12 : decode cX9_type 12 = .ok (.ireturn, 1) := by decide +kernel
theorem dX9_type_13 : decode cX9_type 13 = .ok (.aload_n 0, 1) := by decide +kernel
theorem dX9_type_14 : decode cX9_type 14 = .ok (.getfield 10, 3) := by decide +kernel
theorem dX9_type_17 : decode cX9_type 17 = .ok (.invokevirtual 80, 3) := by decide +kernel
theorem dX9_type_20 : decode cX9_type 20 = .ok (.iload_n 3, 1) := by decide +kernel
theorem dX9_type_21 : decode cX9_type 21 = .ok (.iadd, 1) := by decide +kernel
theorem dX9_type_22 : decode cX9_type 22 = .ok (.sipush 200, 3) := by decide +kernel
theorem dX9_type_25 : decode cX9_type 25 = .ok (.if_icmp .le 6, 3) := by decide +kernel
theorem dX9_type_28 : decode cX9_type 28 = .ok (.bipush (-3), 2) := by decide +kernel
theorem dX9_type_30 : decode cX9_type 30 = .ok (.ireturn, 1) := by decide +kernel
theorem dX9_type_31 : decode cX9_type 31 = .ok (.iload_n 3, 1) := by decide +kernel
theorem dX9_type_32 : decode cX9_type 32 = .ok (.iconst 1, 1) := by decide +kernel
theorem dX9_type_33 : decode cX9_type 33 = .ok (.isub, 1) := by decide +kernel
theorem dX9_type_34 : decode cX9_type 34 = .ok (.istore 4, 2) := by decide +kernel
theorem dX9_type_36 : decode cX9_type 36 = .ok (.iload 4, 2) := by decide +kernel
theorem dX9_type_38 : decode cX9_type 38 = .ok (.ifCond .lt 28, 3) := by decide +kernel
theorem dX9_type_41 : decode cX9_type 41 = .ok (.aload_n 0, 1) := by decide +kernel
theorem dX9_type_42 : decode cX9_type 42 = .ok (.getfield 10, 3) := by decide +kernel
theorem dX9_type_45 : decode cX9_type 45 = .ok (.lload_n 1, 1) := by decide +kernel
theorem dX9_type_46 : decode cX9_type 46 = .ok (.bipush 8, 2) := by decide +kernel
theorem dX9_type_48 : decode cX9_type 48 = .ok (.iload 4, 2) := by decide +kernel
theorem dX9_type_50 : decode cX9_type 50 = .ok (.imul, 1) := by decide +kernel
theorem dX9_type_51 : decode cX9_type 51 = .ok (.lushr, 1) := by decide +kernel
theorem dX9_type_52 : decode cX9_type 52 = .ok (.l2i, 1) := by decide +kernel
theorem dX9_type_53 : decode cX9_type 53 = .ok (.sipush 255, 3) := by decide +kernel
theorem dX9_type_56 : decode cX9_type 56 = .ok (.iand, 1) := by decide +kernel
theorem dX9_type_57 : decode cX9_type 57 = .ok (.invokevirtual 84, 3) := by decide +kernel
theorem dX9_type_60 : decode cX9_type 60 = .ok (.iinc 4 (-1), 3) := by decide +kernel
theorem dX9_type_63 : decode cX9_type 63 = .ok (.goto (-27), 3) := by decide +kernel
theorem dX9_type_66 : decode cX9_type 66 = .ok (.aload_n 0, 1) := by decide +kernel
theorem dX9_type_67 : decode cX9_type 67 = .ok (.getfield 10, 3) := by decide +kernel
theorem dX9_type_70 : decode cX9_type 70 = .ok (.invokevirtual 80, 3) := by decide +kernel
theorem dX9_type_73 : decode cX9_type 73 = .ok (.ireturn, 1) := by decide +kernel
set_option maxRecDepth 20000 in
theorem ggX9_clear_X8_length : GoodIn wsX9_clear wsX8_length := goodIn_r _ [6, 7, 21, 22] (by decide +kernel) (by decide +kernel)
set_option maxRecDepth 20000 in
theorem gX9_clear_X8_length : GoodIn wsX9_clear (wsV RX9 80 RX8 yX8_length wsX8_length) := goodIn_app (goodIn_of _ (by decide +kernel)) ggX9_clear_X8_length
set_option maxRecDepth 20000 in
theorem ggX9_clear_X8_drop : GoodIn wsX9_clear wsX8_drop := goodIn_r _ [11, 7, 21, 22] (by decide +kernel) (by decide +kernel)
set_option maxRecDepth 20000 in
theorem gX9_clear_X8_drop : GoodIn wsX9_clear (wsV RX9 88 RX8 yX8_drop wsX8_drop) := goodIn_app (goodIn_of _ (by decide +kernel)) ggX9_clear_X8_drop
theorem dX9_clear_0 : decode cX9_clear 0 = .ok (.aload_n 0, 1) := by decide +kernel
theorem dX9_clear_1 : decode cX9_clear 1 = .ok (.getfield 10, 3) := by decide +kernel
theorem dX9_clear_4 : decode cX9_clear 4 = .ok (.invokevirtual 80, 3) := by decide +kernel
theorem dX9_clear_7 : decode cX9_clear 7 = .ok (.istore_n 1, 1) := by decide +kernel
theorem dX9_clear_8 : decode cX9_clear 8 = .ok (.aload_n 0, 1) := by decide +kernel
theorem dX9_clear_9 : decode cX9_clear 9 = .ok (.getfield 10, 3) := by decide +kernel
theorem dX9_clear_12 : decode cX9_clear 12 = .ok (.invokevirtual 88, 3) := by decide +kernel
theorem dX9_clear_15 : decode cX9_clear 15 = .ok (.iload_n 1, 1) := by decide +kernel
theorem dX9_clear_16 : decode cX9_clear 16 = .ok (.ireturn, 1) := by decide +kernel
set_option maxRecDepth 20000 in
theorem ggX9_children_X5_readItems : GoodIn wsX9_children wsX5_readItems := goodIn_r _ [11, 12, 13, 14, 15, 16, 17, 18, 19, 20, 21, 22, 23, 24, 10, 25, 26, 27, 28, 29, 30, 31, 32, 33, 34, 35, 36, 37, 38, 39, 40, 41, 42, 43, 44, 45, 46, 47, 48, 49, 50, 51, 52, 53, 54, 55, 56, 57, 58, 59, 60, 61, 62, 63, 64, 65, 66, 67, 68, 69, 70, 71, 72, 73, 74, 75, 76, 77, 78, 79, 80, 81, 82, 83, 84, 85, 86, 87, 88, 89, 90, 91, 92, 93, 94, 95, 96, 97, 98, 99, 100, 101, 102, 103, 104, 105, 106, 107, 108, 109, 110, 111, 112, 113, 114, 115, 116, 117, 118, 119, 120, 121, 122, 123, 124, 125, 126, 127, 128, 129, 130, 131, 132, 133, 134, 135, 136, 137, 138, 139, 140, 141, 210, 211, 212, 213, 214, 215, 216, 217, 218, 219, 220, 221, 222] (by decide +kernel) (by decide +kernel)
set_option maxRecDepth 20000 in
theorem gX9_children_X5_readItems : GoodIn wsX9_children (wsV RX9 91 RX5 yX5_readItems wsX5_readItems) := goodIn_app (goodIn_of _ (by decide +kernel)) ggX9_children_X5_readItems
set_option maxRecDepth 20000 in
theorem ggX9_children_X5_fault : GoodIn wsX9_children wsX5_fault := goodIn_r _ [145, 26, 210, 211, 212, 213, 214, 215] (by decide +kernel) (by decide +kernel)
set_option maxRecDepth 20000 in
theorem gX9_children_X5_fault : GoodIn wsX9_children (wsV RX9 94 RX5 yX5_fault wsX5_fault) := goodIn_app (goodIn_of _ (by decide +kernel)) ggX9_children_X5_fault
set_option maxRecDepth 20000 in
theorem ggX9_children_X5_found : GoodIn wsX9_children wsX5_found := goodIn_r _ [149, 12, 210, 211, 212, 213, 214, 215] (by decide +kernel) (by decide +kernel)
set_option maxRecDepth 20000 in
theorem gX9_children_X5_found : GoodIn wsX9_children (wsV RX9 97 RX5 yX5_found wsX5_found) := goodIn_app (goodIn_of _ (by decide +kernel)) ggX9_children_X5_found
set_option maxRecDepth 20000 in
theorem ggX9_children_X1_takeOver : GoodIn wsX9_children wsX1_takeOver := goodIn_r _ [153, 20, 21, 154, 16, 17, 18, 19, 155, 156, 157, 158, 131, 159, 124, 125, 126, 160, 161, 162, 163, 132, 164, 165, 166, 167, 133, 168, 128, 129, 130, 216, 217, 218, 219, 220] (by decide +kernel) (by decide +kernel)
set_option maxRecDepth 20000 in
theorem gX9_children_X1_takeOver : GoodIn wsX9_children (wsV RX9 101 RX1 yX1_takeOver wsX1_takeOver) := goodIn_app (goodIn_of _ (by decide +kernel)) ggX9_children_X1_takeOver
set_option maxRecDepth 20000 in
theorem ggX9_children_X6_startAnew : GoodIn wsX9_children wsX6_startAnew := goodIn_r _ [173, 174, 175, 176, 177, 18, 178, 20, 179, 180, 181, 172, 182, 183, 184, 223, 224, 225, 226, 216, 217, 218, 219, 220] (by decide +kernel) (by decide +kernel)
set_option maxRecDepth 20000 in
theorem gX9_children_X6_startAnew : GoodIn wsX9_children (wsV RX9 104 RX6 yX6_startAnew wsX6_startAnew) := goodIn_app (goodIn_of _ (by decide +kernel)) ggX9_children_X6_startAnew
set_option maxRecDepth 20000 in
theorem ggX9_children_X2_forget : GoodIn wsX9_children wsX2_forget := goodIn_r _ [189, 190, 227, 228, 229] (by decide +kernel) (by decide +kernel)
set_option maxRecDepth 20000 in
theorem gX9_children_X2_forget : GoodIn wsX9_children (wsV RX9 107 RX2 yX2_forget wsX2_forget) := goodIn_app (goodIn_of _ (by decide +kernel)) ggX9_children_X2_forget
set_option maxRecDepth 20000 in
theorem ggX9_children_X3_forget : GoodIn wsX9_children wsX3_forget := goodIn_r _ [195, 196, 230, 231, 232, 233] (by decide +kernel) (by decide +kernel)
set_option maxRecDepth 20000 in
theorem gX9_children_X3_forget : GoodIn wsX9_children (wsV RX9 110 RX3 yX3_forget wsX3_forget) := goodIn_app (goodIn_of _ (by decide +kernel)) ggX9_children_X3_forget
set_option maxRecDepth 20000 in
theorem ggX9_children_X8_drop : GoodIn wsX9_children wsX8_drop := goodIn_r _ [200, 33, 221, 222] (by decide +kernel) (by decide +kernel)
set_option maxRecDepth 20000 in
theorem gX9_children_X8_drop : GoodIn wsX9_children (wsV RX9 88 RX8 yX8_drop wsX8_drop) := goodIn_app (goodIn_of _ (by decide +kernel)) ggX9_children_X8_drop
theorem dX9_children_0 : decode cX9_children 0 = .ok (.aload_n 0, 1) := by decide +kernel
theorem dX9_children_1 : decode cX9_children 1 = .ok (.getfield 21, 3) := by decide +kernel
theorem dX9_children_4 : decode cX9_children 4 = .ok (.invokevirtual 91, 3) := by decide +kernel
theorem dX9_children_7 : decode cX9_children 7 = .ok (.istore_n 1, 1) := by decide +kernel
theorem dX9_children_8 : decode cX9_children 8 = .ok (.iload_n 1, 1) := by decide +kernel
theorem dX9_children_9 : decode cX9_children 9 = .ok (.ifCond .ge 14, 3) := by decide +kernel
theorem dX9_children_12 : decode cX9_children 12 = .ok (.bipush (-10), 2) := by decide +kernel
theorem dX9_children_14 : decode cX9_children 14 = .ok (.aload_n 0, 1) := by decide +kernel
theorem dX9_children_15 : decode cX9_children 15 = .ok (.getfield 21, 3) := by decide +kernel
theorem dX9_children_18 : decode cX9_children 18 = .ok (.invokevirtual 94, 3) := by decide +kernel
theorem dX9_children_21 : decode cX9_children 21 = .ok (.isub, 1) := by decide +kernel
theorem dX9_children_22 : decode cX9_children 22 = .ok (.ireturn, 1) := by decide +kernel
theorem dX9_children_23 : decode cX9_children 23 = .ok (.aload_n 0, 1) := by decide +kernel
theorem dX9_children_24 : decode cX9_children 24 = .ok (.getfield 28, 3) := by decide +kernel
theorem dX9_children_27 : decode cX9_children 27 = .ok (.aload_n 0, 1) := by decide +kernel
theorem dX9_children_28 : decode cX9_children 28 = .ok (.getfield 21, 3) := by decide +kernel
theorem dX9_children_31 : decode cX9_children 31 = .ok (.invokevirtual 97, 3) := by decide +kernel
theorem dX9_children_34 : decode cX9_children 34 = .ok (.invokevirtual 101, 3) := by decide +kernel
theorem dX9_children_37 : decode cX9_children 37 = .ok (.aload_n 0, 1) := by decide +kernel
theorem dX9_children_38 : decode cX9_children 38 = .ok (.getfield 37, 3) := by decide +kernel
theorem dX9_children_41 : decode cX9_children 41 = .ok (.invokevirtual 104, 3) := by decide +kernel
theorem dX9_children_44 : decode cX9_children 44 = .ok (.aload_n 0, 1) := by decide +kernel
theorem dX9_children_45 : decode cX9_children 45 = .ok (.getfield 44, 3) := by decide +kernel
theorem dX9_children_48 : decode cX9_children 48 = .ok (.invokevirtual 107, 3) := by decide +kernel
theorem dX9_children_51 : decode cX9_children 51 = .ok (.iconst 0, 1) := by decide +kernel
theorem dX9_children_52 : decode cX9_children 52 = .ok (.istore_n 2, 1) := by decide +kernel
theorem dX9_children_53 : decode cX9_children 53 = .ok (.iload_n 2, 1) := by decide +kernel
theorem dX9_children_54 : decode cX9_children 54 = .ok (.iconst 2, 1) := by decide +kernel
theorem dX9_children_55 : decode cX9_children 55 = .ok (.if_icmp .ge 18, 3) := by decide +kernel
theorem dX9_children_58 : decode cX9_children 58 = .ok (.aload_n 0, 1) := by decide +kernel
theorem dX9_children_59 : decode cX9_children 59 = .ok (.getfield 50, 3) := by decide +kernel
theorem dX9_children_62 : decode cX9_children 62 = .ok (.iload_n 2, 1) := by decide +kernel
theorem dX9_children_63 : decode cX9_children 63 = .ok (.aaload, 1) := by decide +kernel
theorem dX9_children_64 : decode cX9_children 64 = .ok (.invokevirtual 110, 3) := by decide +kernel
theorem dX9_children_67 : decode cX9_children 67 = .ok (.iinc 2 1, 3) := by decide +kernel
theorem dX9_children_70 : decode cX9_children 70 = .ok (.goto (-17), 3) := by decide +kernel
theorem dX9_children_73 : decode cX9_children 73 = .ok (.aload_n 0, 1) := by decide +kernel
theorem dX9_children_74 : decode cX9_children 74 = .ok (.getfield 10, 3) := by decide +kernel
theorem dX9_children_77 : decode cX9_children 77 = .ok (.invokevirtual 88, 3) := by decide +kernel
theorem dX9_children_80 : decode cX9_children 80 = .ok (.iload_n 1, 1) := by decide +kernel
theorem dX9_children_81 : decode cX9_children 81 = .ok (.ireturn, 1) := by decide +kernel
set_option maxRecDepth 20000 in
theorem ggX9_child_X1_has : GoodIn wsX9_child wsX1_has := goodIn_r _ [7, 8, 53, 54, 55, 56, 57] (by decide +kernel) (by decide +kernel)
set_option maxRecDepth 20000 in
theorem gX9_child_X1_has : GoodIn wsX9_child (wsV RX9 111 RX1 yX1_has wsX1_has) := goodIn_app (goodIn_of _ (by decide +kernel)) ggX9_child_X1_has
set_option maxRecDepth 20000 in
theorem ggX9_child_X1_slipOf : GoodIn wsX9_child wsX1_slipOf := goodIn_r _ [12, 13, 14, 4, 5, 6, 7, 8, 53, 54, 55, 56, 57] (by decide +kernel) (by decide +kernel)
set_option maxRecDepth 20000 in
theorem gX9_child_X1_slipOf : GoodIn wsX9_child (wsV RX9 115 RX1 yX1_slipOf wsX1_slipOf) := goodIn_app (goodIn_of _ (by decide +kernel)) ggX9_child_X1_slipOf
set_option maxRecDepth 20000 in
theorem ggX9_child_X1_lateOf : GoodIn wsX9_child wsX1_lateOf := goodIn_r _ [18, 19, 14, 4, 5, 6, 7, 8, 53, 54, 55, 56, 57] (by decide +kernel) (by decide +kernel)
set_option maxRecDepth 20000 in
theorem gX9_child_X1_lateOf : GoodIn wsX9_child (wsV RX9 119 RX1 yX1_lateOf wsX1_lateOf) := goodIn_app (goodIn_of _ (by decide +kernel)) ggX9_child_X1_lateOf
set_option maxRecDepth 20000 in
theorem ggX9_child_X1_copiedBy : GoodIn wsX9_child wsX1_copiedBy := goodIn_r _ [23, 24, 14, 4, 5, 6, 7, 8, 53, 54, 55, 56, 57] (by decide +kernel) (by decide +kernel)
set_option maxRecDepth 20000 in
theorem gX9_child_X1_copiedBy : GoodIn wsX9_child (wsV RX9 122 RX1 yX1_copiedBy wsX1_copiedBy) := goodIn_app (goodIn_of _ (by decide +kernel)) ggX9_child_X1_copiedBy
set_option maxRecDepth 20000 in
theorem ggX9_child_X1_isLittle : GoodIn wsX9_child wsX1_isLittle := goodIn_r _ [28, 29, 14, 4, 5, 6, 7, 8, 53, 54, 55, 56, 57] (by decide +kernel) (by decide +kernel)
set_option maxRecDepth 20000 in
theorem gX9_child_X1_isLittle : GoodIn wsX9_child (wsV RX9 125 RX1 yX1_isLittle wsX1_isLittle) := goodIn_app (goodIn_of _ (by decide +kernel)) ggX9_child_X1_isLittle
set_option maxRecDepth 20000 in
theorem ggX9_child_X6_isIn : GoodIn wsX9_child wsX6_isIn := goodIn_r _ [34, 35, 36, 37, 4, 5, 6, 7, 8, 58, 59, 60, 61, 53, 54, 55, 56, 57] (by decide +kernel) (by decide +kernel)
set_option maxRecDepth 20000 in
theorem gX9_child_X6_isIn : GoodIn wsX9_child (wsV RX9 128 RX6 yX6_isIn wsX6_isIn) := goodIn_app (goodIn_of _ (by decide +kernel)) ggX9_child_X6_isIn
set_option maxRecDepth 20000 in
theorem ggX9_child_X6_leaderOf : GoodIn wsX9_child wsX6_leaderOf := goodIn_r _ [41, 35, 42, 21, 22, 6, 23, 24, 14, 4, 5, 7, 8, 43, 31, 32, 33, 34, 36, 37, 58, 59, 60, 61, 53, 54, 55, 56, 57] (by decide +kernel) (by decide +kernel)
set_option maxRecDepth 20000 in
theorem gX9_child_X6_leaderOf : GoodIn wsX9_child (wsV RX9 131 RX6 yX6_leaderOf wsX6_leaderOf) := goodIn_app (goodIn_of _ (by decide +kernel)) ggX9_child_X6_leaderOf
theorem dX9_child_0 : decode cX9_child 0 = .ok (.aload_n 0, 1) := by decide +kernel
theorem dX9_child_1 : decode cX9_child 1 = .ok (.getfield 28, 3) := by decide +kernel
theorem dX9_child_4 : decode cX9_child 4 = .ok (.iload_n 1, 1) := by decide +kernel
theorem dX9_child_5 : decode cX9_child 5 = .ok (.invokevirtual 111, 3) := by decide +kernel
theorem dX9_child_8 : decode cX9_child 8 = .ok (.ifCond .ne 5, 3) := by decide +kernel
theorem dX9_child_11 : decode cX9_child 11 = .ok (.iconst (-1), 1) := by decide +kernel
theorem dX9_child_12 : decode cX9_child 12 = .ok (.ireturn, 1) := by decide +kernel
theorem dX9_child_13 : decode cX9_child 13 = .ok (.iload_n 2, 1) := by decide +kernel
theorem dX9_child_14 : decode cX9_child 14 = .ok (.tableswitch 124 0 5 #[38, 47, 56, 65, 82, 99], 38) := by decide +kernel
theorem dX9_child_52 : decode cX9_child 52 = .ok (.aload_n 0, 1) := by decide +kernel
theorem dX9_child_53 : decode cX9_child 53 = .ok (.getfield 28, 3) := by decide +kernel
theorem dX9_child_56 : decode cX9_child 56 = .ok (.iload_n 1, 1) := by decide +kernel
theorem dX9_child_57 : decode cX9_child 57 = .ok (.invokevirtual 115, 3) := by decide +kernel
theorem dX9_child_60 : decode cX9_child 60 = .ok (.ireturn, 1) := by decide +kernel
theorem dX9_child_61 : decode cX9_child 61 = .ok (.aload_n 0, 1) := by decide +kernel
theorem dX9_child_62 : decode cX9_child 62 = .ok (.getfield 28, 3) := by decide +kernel
theorem dX9_child_65 : decode cX9_child 65 = .ok (.iload_n 1, 1) := by decide +kernel
theorem dX9_child_66 : decode cX9_child 66 = .ok (.invokevirtual 119, 3) := by decide +kernel
theorem dX9_child_69 : decode cX9_child 69 = .ok (.ireturn, 1) := by decide +kernel
theorem dX9_child_70 : decode cX9_child 70 = .ok (.aload_n 0, 1) := by decide +kernel
theorem dX9_child_71 : decode cX9_child 71 = .ok (.getfield 28, 3) := by decide +kernel
theorem dX9_child_74 : decode cX9_child 74 = .ok (.iload_n 1, 1) := by decide +kernel
theorem dX9_child_75 : decode cX9_child 75 = .ok (.invokevirtual 122, 3) := by decide +kernel
theorem dX9_child_78 : decode cX9_child 78 = .ok (.ireturn, 1) := by decide +kernel
theorem dX9_child_79 : decode cX9_child 79 = .ok (.aload_n 0, 1) := by decide +kernel
theorem dX9_child_80 : decode cX9_child 80 = .ok (.getfield 28, 3) := by decide +kernel
theorem dX9_child_83 : decode cX9_child 83 = .ok (.iload_n 1, 1) := by decide +kernel
theorem dX9_child_84 : decode cX9_child 84 = .ok (.invokevirtual 125, 3) := by decide +kernel
theorem dX9_child_87 : decode cX9_child 87 = .ok (.ifCond .eq 7, 3) := by decide +kernel
theorem dX9_child_90 : decode cX9_child 90 = .ok (.iconst 1, 1) := by decide +kernel
theorem dX9_child_91 : decode cX9_child 91 = .ok (.goto 4, 3) := by decide +kernel
theorem dX9_child_94 : decode cX9_child 94 = .ok (.iconst 0, 1) := by decide +kernel
theorem dX9_child_95 : decode cX9_child 95 = .ok (.ireturn, 1) := by decide +kernel
theorem dX9_child_96 : decode cX9_child 96 = .ok (.aload_n 0, 1) := by decide +kernel
theorem dX9_child_97 : decode cX9_child 97 = .ok (.getfield 37, 3) := by decide +kernel
theorem dX9_child_100 : decode cX9_child 100 = .ok (.iload_n 1, 1) := by decide +kernel
theorem dX9_child_101 : decode cX9_child 101 = .ok (.invokevirtual 128, 3) := by decide +kernel
theorem dX9_child_104 : decode cX9_child 104 = .ok (.ifCond .eq 7, 3) := by decide +kernel
theorem dX9_child_107 : decode cX9_child 107 = .ok (.iconst 1, 1) := by decide +kernel
theorem dX9_child_108 : decode cX9_child 108 = .ok (.goto 4, 3) := by decide +kernel
theorem dX9_child_111 : decode cX9_child 111 = .ok (.iconst 0, 1) := by decide +kernel
theorem dX9_child_112 : decode cX9_child 112 = .ok (.ireturn, 1) := by decide +kernel
theorem dX9_child_113 : decode cX9_child 113 = .ok (.aload_n 0, 1) := by decide +kernel
theorem dX9_child_114 : decode cX9_child 114 = .ok (.getfield 37, 3) := by decide +kernel
theorem dX9_child_117 : decode cX9_child 117 = .ok (.iload_n 1, 1) := by decide +kernel
theorem dX9_child_118 : decode cX9_child 118 = .ok (.invokevirtual 128, 3) := by decide +kernel
theorem dX9_child_121 : decode cX9_child 121 = .ok (.ifCond .eq 14, 3) := by decide +kernel
theorem dX9_child_124 : decode cX9_child 124 = .ok (.aload_n 0, 1) := by decide +kernel
theorem dX9_child_125 : decode cX9_child 125 = .ok (.getfield 37, 3) := by decide +kernel
theorem dX9_child_128 : decode cX9_child 128 = .ok (.iload_n 1, 1) := by decide +kernel
theorem dX9_child_129 : decode cX9_child 129 = .ok (.invokevirtual 131, 3) := by decide +kernel
theorem dX9_child_132 : decode cX9_child 132 = .ok (.goto 5, 3) := by decide +kernel
theorem dX9_child_135 : decode cX9_child 135 = .ok (.bipush (-9), 2) := by decide +kernel
theorem dX9_child_137 : decode cX9_child 137 = .ok (.ireturn, 1) := by decide +kernel
theorem dX9_child_138 : decode cX9_child 138 = .ok (.iconst (-1), 1) := by decide +kernel
theorem dX9_child_139 : decode cX9_child 139 = .ok (.ireturn, 1) := by decide +kernel
set_option maxRecDepth 20000 in
theorem ggX9_now_X6_whoIsIn : GoodIn wsX9_now wsX6_whoIsIn := goodIn_r _ [7, 8, 40, 41, 42, 43] (by decide +kernel) (by decide +kernel)
set_option maxRecDepth 20000 in
theorem gX9_now_X6_whoIsIn : GoodIn wsX9_now (wsV RX9 134 RX6 yX6_whoIsIn wsX6_whoIsIn) := goodIn_app (goodIn_of _ (by decide +kernel)) ggX9_now_X6_whoIsIn
set_option maxRecDepth 20000 in
theorem ggX9_now_X6_streak : GoodIn wsX9_now wsX6_streak := goodIn_r _ [12, 13, 40, 41, 42, 43] (by decide +kernel) (by decide +kernel)
set_option maxRecDepth 20000 in
theorem gX9_now_X6_streak : GoodIn wsX9_now (wsV RX9 137 RX6 yX6_streak wsX6_streak) := goodIn_app (goodIn_of _ (by decide +kernel)) ggX9_now_X6_streak
set_option maxRecDepth 20000 in
theorem ggX9_now_X6_isFair : GoodIn wsX9_now wsX6_isFair := goodIn_r _ [17, 18, 8, 19, 20, 21, 22, 23, 24, 40, 41, 42, 43, 44, 45, 46, 47, 48] (by decide +kernel) (by decide +kernel)
set_option maxRecDepth 20000 in
theorem gX9_now_X6_isFair : GoodIn wsX9_now (wsV RX9 140 RX6 yX6_isFair wsX6_isFair) := goodIn_app (goodIn_of _ (by decide +kernel)) ggX9_now_X6_isFair
set_option maxRecDepth 20000 in
theorem ggX9_now_X2_size : GoodIn wsX9_now wsX2_size := goodIn_r _ [29, 30, 49, 50, 51] (by decide +kernel) (by decide +kernel)
set_option maxRecDepth 20000 in
theorem gX9_now_X2_size : GoodIn wsX9_now (wsV RX9 144 RX2 yX2_size wsX2_size) := goodIn_app (goodIn_of _ (by decide +kernel)) ggX9_now_X2_size
theorem dX9_now_0 : decode cX9_now 0 = .ok (.iload_n 1, 1) := by decide +kernel
theorem dX9_now_1 : decode cX9_now 1 = .ok (.tableswitch 71 0 3 #[31, 39, 47, 63], 31) := by decide +kernel
theorem dX9_now_32 : decode cX9_now 32 = .ok (.aload_n 0, 1) := by decide +kernel
theorem dX9_now_33 : decode cX9_now 33 = .ok (.getfield 37, 3) := by decide +kernel
theorem dX9_now_36 : decode cX9_now 36 = .ok (.invokevirtual 134, 3) := by decide +kernel
theorem dX9_now_39 : decode cX9_now 39 = .ok (.ireturn, 1) := by decide +kernel
theorem dX9_now_40 : decode cX9_now 40 = .ok (.aload_n 0, 1) := by decide +kernel
theorem dX9_now_41 : decode cX9_now 41 = .ok (.getfield 37, 3) := by decide +kernel
theorem dX9_now_44 : decode cX9_now 44 = .ok (.invokevirtual 137, 3) := by decide +kernel
theorem dX9_now_47 : decode cX9_now 47 = .ok (.ireturn, 1) := by decide +kernel
theorem dX9_now_48 : decode cX9_now 48 = .ok (.aload_n 0, 1) := by decide +kernel
theorem dX9_now_49 : decode cX9_now 49 = .ok (.getfield 37, 3) := by decide +kernel
theorem dX9_now_52 : decode cX9_now 52 = .ok (.invokevirtual 140, 3) := by decide +kernel
theorem dX9_now_55 : decode cX9_now 55 = .ok (.ifCond .eq 7, 3) := by decide +kernel
theorem dX9_now_58 : decode cX9_now 58 = .ok (.iconst 1, 1) := by decide +kernel
theorem dX9_now_59 : decode cX9_now 59 = .ok (.goto 4, 3) := by decide +kernel
theorem dX9_now_62 : decode cX9_now 62 = .ok (.iconst 0, 1) := by decide +kernel
theorem dX9_now_63 : decode cX9_now 63 = .ok (.ireturn, 1) := by decide +kernel
theorem dX9_now_64 : decode cX9_now 64 = .ok (.aload_n 0, 1) := by decide +kernel
theorem dX9_now_65 : decode cX9_now 65 = .ok (.getfield 44, 3) := by decide +kernel
theorem dX9_now_68 : decode cX9_now 68 = .ok (.invokevirtual 144, 3) := by decide +kernel
theorem dX9_now_71 : decode cX9_now 71 = .ok (.ireturn, 1) := by decide +kernel
theorem dX9_now_72 : decode cX9_now 72 = .ok (.iconst (-1), 1) := by decide +kernel
theorem dX9_now_73 : decode cX9_now 73 = .ok (.ireturn, 1) := by decide +kernel
set_option maxRecDepth 20000 in
theorem ggX9_errs_X1_has : GoodIn wsX9_errs wsX1_has := goodIn_r _ [7, 8, 54, 55, 56, 57, 58] (by decide +kernel) (by decide +kernel)
set_option maxRecDepth 20000 in
theorem gX9_errs_X1_has : GoodIn wsX9_errs (wsV RX9 111 RX1 yX1_has wsX1_has) := goodIn_app (goodIn_of _ (by decide +kernel)) ggX9_errs_X1_has
set_option maxRecDepth 20000 in
theorem ggX9_errs_X9_isOrder : GoodIn wsX9_errs wsX9_isOrder := goodIn_r _ [12] (by decide +kernel) (by decide +kernel)
set_option maxRecDepth 20000 in
theorem gX9_errs_X9_isOrder : GoodIn wsX9_errs (va_wsS RX9 147 yX9_isOrder wsX9_isOrder) := goodIn_app (goodIn_of _ (by decide +kernel)) ggX9_errs_X9_isOrder
set_option maxRecDepth 20000 in
theorem ggX9_errs_X6_isIn : GoodIn wsX9_errs wsX6_isIn := goodIn_r _ [17, 18, 19, 20, 4, 5, 6, 7, 8, 59, 60, 61, 62, 54, 55, 56, 57, 58] (by decide +kernel) (by decide +kernel)
set_option maxRecDepth 20000 in
theorem gX9_errs_X6_isIn : GoodIn wsX9_errs (wsV RX9 128 RX6 yX6_isIn wsX6_isIn) := goodIn_app (goodIn_of _ (by decide +kernel)) ggX9_errs_X6_isIn
set_option maxRecDepth 20000 in
theorem ggX9_errs_X6_streak : GoodIn wsX9_errs wsX6_streak := goodIn_r _ [24, 25, 59, 60, 61, 62] (by decide +kernel) (by decide +kernel)
set_option maxRecDepth 20000 in
theorem gX9_errs_X6_streak : GoodIn wsX9_errs (wsV RX9 137 RX6 yX6_streak wsX6_streak) := goodIn_app (goodIn_of _ (by decide +kernel)) ggX9_errs_X6_streak
set_option maxRecDepth 20000 in
theorem ggX9_errs_X1_errsOf : GoodIn wsX9_errs wsX1_errsOf := goodIn_r _ [29, 30, 31, 32, 33, 34, 35, 36, 6, 37, 38, 39, 4, 5, 7, 8, 40, 41, 42, 43, 44, 54, 55, 56, 57, 58] (by decide +kernel) (by decide +kernel)
set_option maxRecDepth 20000 in
theorem gX9_errs_X1_errsOf : GoodIn wsX9_errs (wsV RX9 150 RX1 yX1_errsOf wsX1_errsOf) := goodIn_app (goodIn_of _ (by decide +kernel)) ggX9_errs_X1_errsOf
theorem dX9_errs_0 : decode cX9_errs 0 = .ok (.aload_n 0, 1) := by decide +kernel
theorem dX9_errs_1 : decode cX9_errs 1 = .ok (.getfield 28, 3) := by decide +kernel
theorem dX9_errs_4 : decode cX9_errs 4 = .ok (.iload_n 1, 1) := by decide +kernel
theorem dX9_errs_5 : decode cX9_errs 5 = .ok (.invokevirtual 111, 3) := by decide +kernel
theorem dX9_errs_8 : decode cX9_errs 8 = .ok (.ifCond .eq 10, 3) := by decide +kernel
theorem dX9_errs_11 : decode cX9_errs 11 = .ok (.iload_n 2, 1) := by decide +kernel
theorem dX9_errs_12 : decode cX9_errs 12 = .ok (.invokestatic 147, 3) := by decide +kernel
theorem dX9_errs_15 : decode cX9_errs 15 = .ok (.ifCond .ne 5, 3) := by decide +kernel
theorem dX9_errs_18 : decode cX9_errs 18 = .ok (.iconst (-1), 1) := by decide +kernel
theorem dX9_errs_19 : decode cX9_errs 19 = .ok (.ireturn, 1) := by decide +kernel
theorem dX9_errs_20 : decode cX9_errs 20 = .ok (.aload_n 0, 1) := by decide +kernel
theorem dX9_errs_21 : decode cX9_errs 21 = .ok (.getfield 37, 3) := by decide +kernel
theorem dX9_errs_24 : decode cX9_errs 24 = .ok (.iload_n 1, 1) := by decide +kernel
theorem dX9_errs_25 : decode cX9_errs 25 = .ok (.invokevirtual 128, 3) := by decide +kernel
theorem dX9_errs_28 : decode cX9_errs 28 = .ok (.ifCond .ne 6, 3) := by decide +kernel
theorem dX9_errs_31 : decode cX9_errs 31 = .ok (.bipush (-2), 2) := by decide +kernel
theorem dX9_errs_33 : decode cX9_errs 33 = .ok (.ireturn, 1) := by decide +kernel
theorem dX9_errs_34 : decode cX9_errs 34 = .ok (.aload_n 0, 1) := by decide +kernel
theorem dX9_errs_35 : decode cX9_errs 35 = .ok (.getfield 28, 3) := by decide +kernel
theorem dX9_errs_38 : decode cX9_errs 38 = .ok (.iload_n 1, 1) := by decide +kernel
theorem dX9_errs_39 : decode cX9_errs 39 = .ok (.iload_n 2, 1) := by decide +kernel
theorem dX9_errs_40 : decode cX9_errs 40 = .ok (.aload_n 0, 1) := by decide +kernel
theorem dX9_errs_41 : decode cX9_errs 41 = .ok (.getfield 37, 3) := by decide +kernel
theorem dX9_errs_44 : decode cX9_errs 44 = .ok (.invokevirtual 137, 3) := by decide +kernel
theorem dX9_errs_47 : decode cX9_errs 47 = .ok (.invokevirtual 150, 3) := by decide +kernel
theorem dX9_errs_50 : decode cX9_errs 50 = .ok (.ireturn, 1) := by decide +kernel
set_option maxRecDepth 20000 in
theorem ggX9_call_X9_isOrder : GoodIn wsX9_call wsX9_isOrder := goodIn_r _ [6] (by decide +kernel) (by decide +kernel)
set_option maxRecDepth 20000 in
theorem gX9_call_X9_isOrder : GoodIn wsX9_call (va_wsS RX9 147 yX9_isOrder wsX9_isOrder) := goodIn_app (goodIn_of _ (by decide +kernel)) ggX9_call_X9_isOrder
set_option maxRecDepth 20000 in
theorem ggX9_call_X6_whoIsIn : GoodIn wsX9_call wsX6_whoIsIn := goodIn_r _ [11, 12, 111, 112, 113, 114] (by decide +kernel) (by decide +kernel)
set_option maxRecDepth 20000 in
theorem gX9_call_X6_whoIsIn : GoodIn wsX9_call (wsV RX9 134 RX6 yX6_whoIsIn wsX6_whoIsIn) := goodIn_app (goodIn_of _ (by decide +kernel)) ggX9_call_X6_whoIsIn
set_option maxRecDepth 20000 in
theorem ggX9_call_X6_streak : GoodIn wsX9_call wsX6_streak := goodIn_r _ [16, 17, 111, 112, 113, 114] (by decide +kernel) (by decide +kernel)
set_option maxRecDepth 20000 in
theorem gX9_call_X6_streak : GoodIn wsX9_call (wsV RX9 137 RX6 yX6_streak wsX6_streak) := goodIn_app (goodIn_of _ (by decide +kernel)) ggX9_call_X6_streak
set_option maxRecDepth 20000 in
theorem ggX9_call_X2_add : GoodIn wsX9_call wsX2_add := goodIn_r _ [22, 23, 24, 25, 26, 27, 28, 21, 29, 30, 31, 32, 33, 115, 116, 117] (by decide +kernel) (by decide +kernel)
set_option maxRecDepth 20000 in
theorem gX9_call_X2_add : GoodIn wsX9_call (wsV RX9 154 RX2 yX2_add wsX2_add) := goodIn_app (goodIn_of _ (by decide +kernel)) ggX9_call_X2_add
set_option maxRecDepth 20000 in
theorem ggX9_call_X6_obey : GoodIn wsX9_call wsX6_obey := goodIn_r _ [37, 38, 17, 12, 39, 40, 41, 42, 43, 44, 45, 46, 47, 10, 48, 49, 50, 51, 52, 53, 54, 55, 56, 57, 58, 59, 60, 61, 62, 63, 64, 65, 66, 67, 68, 69, 70, 71, 72, 73, 74, 75, 76, 77, 78, 79, 80, 81, 82, 83, 84, 85, 86, 87, 88, 89, 90, 91, 92, 93, 94, 95, 5, 96, 97, 98, 99, 100, 101, 111, 112, 113, 114, 118, 119, 120, 121, 122] (by decide +kernel) (by decide +kernel)
set_option maxRecDepth 20000 in
theorem gX9_call_X6_obey : GoodIn wsX9_call (wsV RX9 158 RX6 yX6_obey wsX6_obey) := goodIn_app (goodIn_of _ (by decide +kernel)) ggX9_call_X6_obey
theorem dX9_call_0 : decode cX9_call 0 = .ok (.iload_n 1, 1) := by decide +kernel
theorem dX9_call_1 : decode cX9_call 1 = .ok (.invokestatic 147, 3) := by decide +kernel
theorem dX9_call_4 : decode cX9_call 4 = .ok (.ifCond .ne 5, 3) := by decide +kernel
theorem dX9_call_7 : decode cX9_call 7 = .ok (.iconst (-1), 1) := by decide +kernel
theorem dX9_call_8 : decode cX9_call 8 = .ok (.ireturn, 1) := by decide +kernel
theorem dX9_call_9 : decode cX9_call 9 = .ok (.aload_n 0, 1) := by decide +kernel
theorem dX9_call_10 : decode cX9_call 10 = .ok (.getfield 37, 3) := by decide +kernel
theorem dX9_call_13 : decode cX9_call 13 = .ok (.invokevirtual 134, 3) := by decide +kernel
theorem dX9_call_16 : decode cX9_call 16 = .ok (.ifCond .ne 6, 3) := by decide +kernel
theorem dX9_call_19 : decode cX9_call 19 = .ok (.bipush (-2), 2) := by decide +kernel
theorem dX9_call_21 : decode cX9_call 21 = .ok (.ireturn, 1) := by decide +kernel
theorem dX9_call_22 : decode cX9_call 22 = .ok (.aload_n 0, 1) := by decide +kernel
theorem dX9_call_23 : decode cX9_call 23 = .ok (.getfield 44, 3) := by decide +kernel
theorem dX9_call_26 : decode cX9_call 26 = .ok (.aload_n 0, 1) := by decide +kernel
theorem dX9_call_27 : decode cX9_call 27 = .ok (.getfield 37, 3) := by decide +kernel
theorem dX9_call_30 : decode cX9_call 30 = .ok (.invokevirtual 134, 3) := by decide +kernel
theorem dX9_call_33 : decode cX9_call 33 = .ok (.aload_n 0, 1) := by decide +kernel
theorem dX9_call_34 : decode cX9_call 34 = .ok (.getfield 37, 3) := by decide +kernel
theorem dX9_call_37 : decode cX9_call 37 = .ok (.invokevirtual 137, 3) := by decide +kernel
theorem dX9_call_40 : decode cX9_call 40 = .ok (.invokevirtual 154, 3) := by decide +kernel
theorem dX9_call_43 : decode cX9_call 43 = .ok (.aload_n 0, 1) := by decide +kernel
theorem dX9_call_44 : decode cX9_call 44 = .ok (.getfield 37, 3) := by decide +kernel
theorem dX9_call_47 : decode cX9_call 47 = .ok (.iload_n 1, 1) := by decide +kernel
theorem dX9_call_48 : decode cX9_call 48 = .ok (.invokevirtual 158, 3) := by decide +kernel
theorem dX9_call_51 : decode cX9_call 51 = .ok (.ireturn, 1) := by decide +kernel
set_option maxRecDepth 20000 in
theorem ggX9_comesBack_X1_has : GoodIn wsX9_comesBack wsX1_has := goodIn_r _ [8, 9, 67, 68, 69, 70, 71] (by decide +kernel) (by decide +kernel)
set_option maxRecDepth 20000 in
theorem gX9_comesBack_X1_has : GoodIn wsX9_comesBack (wsV RX9 111 RX1 yX1_has wsX1_has) := goodIn_app (goodIn_of _ (by decide +kernel)) ggX9_comesBack_X1_has
set_option maxRecDepth 20000 in
theorem ggX9_comesBack_X6_isIn : GoodIn wsX9_comesBack wsX6_isIn := goodIn_r _ [14, 15, 16, 17, 5, 6, 7, 8, 9, 72, 73, 74, 75, 67, 68, 69, 70, 71] (by decide +kernel) (by decide +kernel)
set_option maxRecDepth 20000 in
theorem gX9_comesBack_X6_isIn : GoodIn wsX9_comesBack (wsV RX9 128 RX6 yX6_isIn wsX6_isIn) := goodIn_app (goodIn_of _ (by decide +kernel)) ggX9_comesBack_X6_isIn
set_option maxRecDepth 20000 in
theorem ggX9_comesBack_X6_whoIsIn : GoodIn wsX9_comesBack wsX6_whoIsIn := goodIn_r _ [21, 16, 72, 73, 74, 75] (by decide +kernel) (by decide +kernel)
set_option maxRecDepth 20000 in
theorem gX9_comesBack_X6_whoIsIn : GoodIn wsX9_comesBack (wsV RX9 134 RX6 yX6_whoIsIn wsX6_whoIsIn) := goodIn_app (goodIn_of _ (by decide +kernel)) ggX9_comesBack_X6_whoIsIn
set_option maxRecDepth 20000 in
theorem ggX9_comesBack_X6_streak : GoodIn wsX9_comesBack wsX6_streak := goodIn_r _ [25, 26, 72, 73, 74, 75] (by decide +kernel) (by decide +kernel)
set_option maxRecDepth 20000 in
theorem gX9_comesBack_X6_streak : GoodIn wsX9_comesBack (wsV RX9 137 RX6 yX6_streak wsX6_streak) := goodIn_app (goodIn_of _ (by decide +kernel)) ggX9_comesBack_X6_streak
set_option maxRecDepth 20000 in
theorem ggX9_comesBack_X2_add : GoodIn wsX9_comesBack wsX2_add := goodIn_r _ [31, 32, 33, 34, 35, 36, 37, 30, 38, 39, 40, 41, 42, 76, 77, 78] (by decide +kernel) (by decide +kernel)
set_option maxRecDepth 20000 in
theorem gX9_comesBack_X2_add : GoodIn wsX9_comesBack (wsV RX9 154 RX2 yX2_add wsX2_add) := goodIn_app (goodIn_of _ (by decide +kernel)) ggX9_comesBack_X2_add
set_option maxRecDepth 20000 in
theorem ggX9_comesBack_X6_letIn : GoodIn wsX9_comesBack wsX6_letIn := goodIn_r _ [46, 16, 72, 73, 74, 75] (by decide +kernel) (by decide +kernel)
set_option maxRecDepth 20000 in
theorem gX9_comesBack_X6_letIn : GoodIn wsX9_comesBack (wsV RX9 161 RX6 yX6_letIn wsX6_letIn) := goodIn_app (goodIn_of _ (by decide +kernel)) ggX9_comesBack_X6_letIn
set_option maxRecDepth 20000 in
theorem ggX9_comesBack_X6_howManyIn : GoodIn wsX9_comesBack wsX6_howManyIn := goodIn_r _ [50, 16, 51, 52, 53, 54, 55, 56, 57, 72, 73, 74, 75] (by decide +kernel) (by decide +kernel)
set_option maxRecDepth 20000 in
theorem gX9_comesBack_X6_howManyIn : GoodIn wsX9_comesBack (wsV RX9 164 RX6 yX6_howManyIn wsX6_howManyIn) := goodIn_app (goodIn_of _ (by decide +kernel)) ggX9_comesBack_X6_howManyIn
theorem dX9_comesBack_0 : decode cX9_comesBack 0 = .ok (.aload_n 0, 1) := by decide +kernel
theorem dX9_comesBack_1 : decode cX9_comesBack 1 = .ok (.getfield 28, 3) := by decide +kernel
theorem dX9_comesBack_4 : decode cX9_comesBack 4 = .ok (.iload_n 1, 1) := by decide +kernel
theorem dX9_comesBack_5 : decode cX9_comesBack 5 = .ok (.invokevirtual 111, 3) := by decide +kernel
theorem dX9_comesBack_8 : decode cX9_comesBack 8 = .ok (.ifCond .ne 5, 3) := by decide +kernel
theorem dX9_comesBack_11 : decode cX9_comesBack 11 = .ok (.iconst (-1), 1) := by decide +kernel
theorem dX9_comesBack_12 : decode cX9_comesBack 12 = .ok (.ireturn, 1) := by decide +kernel
theorem dX9_comesBack_13 : decode cX9_comesBack 13 = .ok (.aload_n 0, 1) := by decide +kernel
theorem dX9_comesBack_14 : decode cX9_comesBack 14 = .ok (.getfield 37, 3) := by decide +kernel
theorem dX9_comesBack_17 : decode cX9_comesBack 17 = .ok (.iload_n 1, 1) := by decide +kernel
theorem dX9_comesBack_18 : decode cX9_comesBack 18 = .ok (.invokevirtual 128, 3) := by decide +kernel
theorem dX9_comesBack_21 : decode cX9_comesBack 21 = .ok (.ifCond .eq 6, 3) := by decide +kernel
theorem dX9_comesBack_24 : decode cX9_comesBack 24 = .ok (.bipush (-2), 2) := by decide +kernel
theorem dX9_comesBack_26 : decode cX9_comesBack 26 = .ok (.ireturn, 1) := by decide +kernel
theorem dX9_comesBack_27 : decode cX9_comesBack 27 = .ok (.aload_n 0, 1) := by decide +kernel
theorem dX9_comesBack_28 : decode cX9_comesBack 28 = .ok (.getfield 44, 3) := by decide +kernel
theorem dX9_comesBack_31 : decode cX9_comesBack 31 = .ok (.aload_n 0, 1) := by decide +kernel
theorem dX9_comesBack_32 : decode cX9_comesBack 32 = .ok (.getfield 37, 3) := by decide +kernel
theorem dX9_comesBack_35 : decode cX9_comesBack 35 = .ok (.invokevirtual 134, 3) := by decide +kernel
theorem dX9_comesBack_38 : decode cX9_comesBack 38 = .ok (.aload_n 0, 1) := by decide +kernel
theorem dX9_comesBack_39 : decode cX9_comesBack 39 = .ok (.getfield 37, 3) := by decide +kernel
theorem dX9_comesBack_42 : decode cX9_comesBack 42 = .ok (.invokevirtual 137, 3) := by decide +kernel
theorem dX9_comesBack_45 : decode cX9_comesBack 45 = .ok (.invokevirtual 154, 3) := by decide +kernel
theorem dX9_comesBack_48 : decode cX9_comesBack 48 = .ok (.aload_n 0, 1) := by decide +kernel
theorem dX9_comesBack_49 : decode cX9_comesBack 49 = .ok (.getfield 37, 3) := by decide +kernel
theorem dX9_comesBack_52 : decode cX9_comesBack 52 = .ok (.iload_n 1, 1) := by decide +kernel
theorem dX9_comesBack_53 : decode cX9_comesBack 53 = .ok (.invokevirtual 161, 3) := by decide +kernel
theorem dX9_comesBack_56 : decode cX9_comesBack 56 = .ok (.aload_n 0, 1) := by decide +kernel
theorem dX9_comesBack_57 : decode cX9_comesBack 57 = .ok (.getfield 37, 3) := by decide +kernel
theorem dX9_comesBack_60 : decode cX9_comesBack 60 = .ok (.invokevirtual 164, 3) := by decide +kernel
theorem dX9_comesBack_63 : decode cX9_comesBack 63 = .ok (.ireturn, 1) := by decide +kernel
set_option maxRecDepth 20000 in
theorem ggX9_undo_X2_size : GoodIn wsX9_undo wsX2_size := goodIn_r _ [7, 8, 39, 40, 41] (by decide +kernel) (by decide +kernel)
set_option maxRecDepth 20000 in
theorem gX9_undo_X2_size : GoodIn wsX9_undo (wsV RX9 144 RX2 yX2_size wsX2_size) := goodIn_app (goodIn_of _ (by decide +kernel)) ggX9_undo_X2_size
set_option maxRecDepth 20000 in
theorem ggX9_undo_X2_dropLatest : GoodIn wsX9_undo wsX2_dropLatest := goodIn_r _ [12, 8, 39, 40, 41] (by decide +kernel) (by decide +kernel)
set_option maxRecDepth 20000 in
theorem gX9_undo_X2_dropLatest : GoodIn wsX9_undo (wsV RX9 167 RX2 yX2_dropLatest wsX2_dropLatest) := goodIn_app (goodIn_of _ (by decide +kernel)) ggX9_undo_X2_dropLatest
set_option maxRecDepth 20000 in
theorem ggX9_undo_X2_droppedIn : GoodIn wsX9_undo wsX2_droppedIn := goodIn_r _ [16, 8, 17, 39, 40, 41] (by decide +kernel) (by decide +kernel)
set_option maxRecDepth 20000 in
theorem gX9_undo_X2_droppedIn : GoodIn wsX9_undo (wsV RX9 170 RX2 yX2_droppedIn wsX2_droppedIn) := goodIn_app (goodIn_of _ (by decide +kernel)) ggX9_undo_X2_droppedIn
set_option maxRecDepth 20000 in
theorem ggX9_undo_X2_droppedStreak : GoodIn wsX9_undo wsX2_droppedStreak := goodIn_r _ [21, 8, 22, 39, 40, 41] (by decide +kernel) (by decide +kernel)
set_option maxRecDepth 20000 in
theorem gX9_undo_X2_droppedStreak : GoodIn wsX9_undo (wsV RX9 173 RX2 yX2_droppedStreak wsX2_droppedStreak) := goodIn_app (goodIn_of _ (by decide +kernel)) ggX9_undo_X2_droppedStreak
set_option maxRecDepth 20000 in
theorem ggX9_undo_X6_become : GoodIn wsX9_undo wsX6_become := goodIn_r _ [27, 28, 29, 42, 43, 44, 45] (by decide +kernel) (by decide +kernel)
set_option maxRecDepth 20000 in
theorem gX9_undo_X6_become : GoodIn wsX9_undo (wsV RX9 176 RX6 yX6_become wsX6_become) := goodIn_app (goodIn_of _ (by decide +kernel)) ggX9_undo_X6_become
theorem dX9_undo_0 : decode cX9_undo 0 = .ok (.aload_n 0, 1) := by decide +kernel
theorem dX9_undo_1 : decode cX9_undo 1 = .ok (.getfield 44, 3) := by decide +kernel
theorem dX9_undo_4 : decode cX9_undo 4 = .ok (.invokevirtual 144, 3) := by decide +kernel
theorem dX9_undo_7 : decode cX9_undo 7 = .ok (.ifCond .ne 6, 3) := by decide +kernel
theorem dX9_undo_10 : decode cX9_undo 10 = .ok (.bipush (-2), 2) := by decide +kernel
theorem dX9_undo_12 : decode cX9_undo 12 = .ok (.ireturn, 1) := by decide +kernel
theorem dX9_undo_13 : decode cX9_undo 13 = .ok (.aload_n 0, 1) := by decide +kernel
theorem dX9_undo_14 : decode cX9_undo 14 = .ok (.getfield 44, 3) := by decide +kernel
theorem dX9_undo_17 : decode cX9_undo 17 = .ok (.invokevirtual 167, 3) := by decide +kernel
theorem dX9_undo_20 : decode cX9_undo 20 = .ok (.aload_n 0, 1) := by decide +kernel
theorem dX9_undo_21 : decode cX9_undo 21 = .ok (.getfield 37, 3) := by decide +kernel
theorem dX9_undo_24 : decode cX9_undo 24 = .ok (.aload_n 0, 1) := by decide +kernel
theorem dX9_undo_25 : decode cX9_undo 25 = .ok (.getfield 44, 3) := by decide +kernel
theorem dX9_undo_28 : decode cX9_undo 28 = .ok (.invokevirtual 170, 3) := by decide +kernel
theorem dX9_undo_31 : decode cX9_undo 31 = .ok (.aload_n 0, 1) := by decide +kernel
theorem dX9_undo_32 : decode cX9_undo 32 = .ok (.getfield 44, 3) := by decide +kernel
theorem dX9_undo_35 : decode cX9_undo 35 = .ok (.invokevirtual 173, 3) := by decide +kernel
theorem dX9_undo_38 : decode cX9_undo 38 = .ok (.invokevirtual 176, 3) := by decide +kernel
theorem dX9_undo_41 : decode cX9_undo 41 = .ok (.aload_n 0, 1) := by decide +kernel
theorem dX9_undo_42 : decode cX9_undo 42 = .ok (.getfield 44, 3) := by decide +kernel
theorem dX9_undo_45 : decode cX9_undo 45 = .ok (.invokevirtual 144, 3) := by decide +kernel
theorem dX9_undo_48 : decode cX9_undo 48 = .ok (.ireturn, 1) := by decide +kernel
set_option maxRecDepth 20000 in
theorem ggX9_lot_X6_theLot : GoodIn wsX9_lot wsX6_theLot := goodIn_r _ [6, 7, 21, 22, 23, 24] (by decide +kernel) (by decide +kernel)
set_option maxRecDepth 20000 in
theorem gX9_lot_X6_theLot : GoodIn wsX9_lot (wsV RX9 179 RX6 yX6_theLot wsX6_theLot) := goodIn_app (goodIn_of _ (by decide +kernel)) ggX9_lot_X6_theLot
set_option maxRecDepth 20000 in
theorem ggX9_lot_X6_setLot : GoodIn wsX9_lot wsX6_setLot := goodIn_r _ [11, 7, 21, 22, 23, 24] (by decide +kernel) (by decide +kernel)
set_option maxRecDepth 20000 in
theorem gX9_lot_X6_setLot : GoodIn wsX9_lot (wsV RX9 182 RX6 yX6_setLot wsX6_setLot) := goodIn_app (goodIn_of _ (by decide +kernel)) ggX9_lot_X6_setLot
theorem dX9_lot_0 : decode cX9_lot 0 = .ok (.aload_n 0, 1) := by decide +kernel
theorem dX9_lot_1 : decode cX9_lot 1 = .ok (.getfield 37, 3) := by decide +kernel
theorem dX9_lot_4 : decode cX9_lot 4 = .ok (.invokevirtual 179, 3) := by decide +kernel
theorem dX9_lot_7 : decode cX9_lot 7 = .ok (.istore_n 2, 1) := by decide +kernel
theorem dX9_lot_8 : decode cX9_lot 8 = .ok (.aload_n 0, 1) := by decide +kernel
theorem dX9_lot_9 : decode cX9_lot 9 = .ok (.getfield 37, 3) := by decide +kernel
theorem dX9_lot_12 : decode cX9_lot 12 = .ok (.iload_n 1, 1) := by decide +kernel
theorem dX9_lot_13 : decode cX9_lot 13 = .ok (.invokevirtual 182, 3) := by decide +kernel
theorem dX9_lot_16 : decode cX9_lot 16 = .ok (.iload_n 2, 1) := by decide +kernel
theorem dX9_lot_17 : decode cX9_lot 17 = .ok (.ireturn, 1) := by decide +kernel
set_option maxRecDepth 20000 in
theorem ggX9_falls_X9_isOrder : GoodIn wsX9_falls wsX9_isOrder := goodIn_r _ [7] (by decide +kernel) (by decide +kernel)
set_option maxRecDepth 20000 in
theorem gX9_falls_X9_isOrder : GoodIn wsX9_falls (va_wsS RX9 147 yX9_isOrder wsX9_isOrder) := goodIn_app (goodIn_of _ (by decide +kernel)) ggX9_falls_X9_isOrder
set_option maxRecDepth 20000 in
theorem ggX9_falls_X1_isSet : GoodIn wsX9_falls wsX1_isSet := goodIn_r _ [12, 13, 14, 15, 11, 16, 17, 111, 112, 113, 114, 115] (by decide +kernel) (by decide +kernel)
set_option maxRecDepth 20000 in
theorem gX9_falls_X1_isSet : GoodIn wsX9_falls (wsV RX9 185 RX1 yX1_isSet wsX1_isSet) := goodIn_app (goodIn_of _ (by decide +kernel)) ggX9_falls_X1_isSet
set_option maxRecDepth 20000 in
theorem ggX9_falls_X9_isHalf : GoodIn wsX9_falls wsX9_isHalf := goodIn_r _ [20] (by decide +kernel) (by decide +kernel)
set_option maxRecDepth 20000 in
theorem gX9_falls_X9_isHalf : GoodIn wsX9_falls (va_wsS RX9 188 yX9_isHalf wsX9_isHalf) := goodIn_app (goodIn_of _ (by decide +kernel)) ggX9_falls_X9_isHalf
set_option maxRecDepth 20000 in
theorem ggX9_falls_X0_setFalls : GoodIn wsX9_falls wsX0_setFalls := goodIn_r _ [25, 26, 27, 28, 29, 30, 31, 32, 33, 34, 35, 36, 11, 37, 17, 38, 39, 40, 41, 42, 43, 44, 45, 46, 47, 48, 49, 50, 51, 52, 53, 54, 55, 56, 57, 58, 59, 60, 61, 62, 63, 64, 65, 66, 67, 68, 69, 70, 71, 72, 73, 74, 75, 76, 77, 78, 79, 80, 81, 82, 83, 84, 85, 86, 87, 88, 116, 117, 118, 119, 120, 121, 122, 123, 111, 112, 113, 114, 115] (by decide +kernel) (by decide +kernel)
set_option maxRecDepth 20000 in
theorem gX9_falls_X0_setFalls : GoodIn wsX9_falls (wsV RX9 193 RX0 yX0_setFalls wsX0_setFalls) := goodIn_app (goodIn_of _ (by decide +kernel)) ggX9_falls_X0_setFalls
set_option maxRecDepth 20000 in
theorem ggX9_falls_X0_lower : GoodIn wsX9_falls wsX0_lower := goodIn_r _ [92, 27, 26, 34, 35, 36, 11, 37, 17, 38, 39, 40, 31, 41, 42, 43, 44, 45, 46, 33, 47, 48, 49, 50, 51, 52, 53, 54, 55, 56, 57, 58, 59, 60, 93, 6, 94, 95, 116, 117, 118, 119, 111, 112, 113, 114, 115, 120, 121, 122, 123] (by decide +kernel) (by decide +kernel)
set_option maxRecDepth 20000 in
theorem gX9_falls_X0_lower : GoodIn wsX9_falls (wsV RX9 197 RX0 yX0_lower wsX0_lower) := goodIn_app (goodIn_of _ (by decide +kernel)) ggX9_falls_X0_lower
set_option maxRecDepth 20000 in
theorem ggX9_falls_X9_leastTerms : GoodIn wsX9_falls wsX9_leastTerms := goodIn_r _ [98, 99, 100, 6, 101] (by decide +kernel) (by decide +kernel)
set_option maxRecDepth 20000 in
theorem gX9_falls_X9_leastTerms : GoodIn wsX9_falls (va_wsS RX9 201 yX9_leastTerms wsX9_leastTerms) := goodIn_app (goodIn_of _ (by decide +kernel)) ggX9_falls_X9_leastTerms
theorem dX9_falls_0 : decode cX9_falls 0 = .ok (.iload_n 1, 1) := by decide +kernel
theorem dX9_falls_1 : decode cX9_falls 1 = .ok (.invokestatic 147, 3) := by decide +kernel
theorem dX9_falls_4 : decode cX9_falls 4 = .ok (.ifCond .eq 21, 3) := by decide +kernel
theorem dX9_falls_7 : decode cX9_falls 7 = .ok (.aload_n 0, 1) := by decide +kernel
theorem dX9_falls_8 : decode cX9_falls 8 = .ok (.getfield 28, 3) := by decide +kernel
theorem dX9_falls_11 : decode cX9_falls 11 = .ok (.iload_n 2, 1) := by decide +kernel
theorem dX9_falls_12 : decode cX9_falls 12 = .ok (.invokevirtual 185, 3) := by decide +kernel
theorem dX9_falls_15 : decode cX9_falls 15 = .ok (.ifCond .eq 10, 3) := by decide +kernel
theorem dX9_falls_18 : decode cX9_falls 18 = .ok (.iload_n 3, 1) := by decide +kernel
theorem dX9_falls_19 : decode cX9_falls 19 = .ok (.invokestatic 188, 3) := by decide +kernel
theorem dX9_falls_22 : decode cX9_falls 22 = .ok (.ifCond .ne 7, 3) := by decide +kernel
theorem dX9_falls_25 : decode cX9_falls 25 = .ok (.ldc2_w 191, 3) := by decide +kernel
theorem dX9_falls_28 : decode cX9_falls 28 = .ok (.lreturn, 1) := by decide +kernel
theorem dX9_falls_29 : decode cX9_falls 29 = .ok (.aload_n 0, 1) := by decide +kernel
theorem dX9_falls_30 : decode cX9_falls 30 = .ok (.getfield 67, 3) := by decide +kernel
theorem dX9_falls_33 : decode cX9_falls 33 = .ok (.iload_n 1, 1) := by decide +kernel
theorem dX9_falls_34 : decode cX9_falls 34 = .ok (.iload_n 2, 1) := by decide +kernel
theorem dX9_falls_35 : decode cX9_falls 35 = .ok (.invokevirtual 193, 3) := by decide +kernel
theorem dX9_falls_38 : decode cX9_falls 38 = .ok (.aload_n 0, 1) := by decide +kernel
theorem dX9_falls_39 : decode cX9_falls 39 = .ok (.getfield 67, 3) := by decide +kernel
theorem dX9_falls_42 : decode cX9_falls 42 = .ok (.iconst 1, 1) := by decide +kernel
theorem dX9_falls_43 : decode cX9_falls 43 = .ok (.invokevirtual 197, 3) := by decide +kernel
theorem dX9_falls_46 : decode cX9_falls 46 = .ok (.iload_n 3, 1) := by decide +kernel
theorem dX9_falls_47 : decode cX9_falls 47 = .ok (.invokestatic 201, 3) := by decide +kernel
theorem dX9_falls_50 : decode cX9_falls 50 = .ok (.lreturn, 1) := by decide +kernel
set_option maxRecDepth 20000 in
theorem ggX9_many_X9_isOrder : GoodIn wsX9_many wsX9_isOrder := goodIn_r _ [6] (by decide +kernel) (by decide +kernel)
set_option maxRecDepth 20000 in
theorem gX9_many_X9_isOrder : GoodIn wsX9_many (va_wsS RX9 147 yX9_isOrder wsX9_isOrder) := goodIn_app (goodIn_of _ (by decide +kernel)) ggX9_many_X9_isOrder
set_option maxRecDepth 20000 in
theorem ggX9_many_X9_isHalf : GoodIn wsX9_many wsX9_isHalf := goodIn_r _ [9] (by decide +kernel) (by decide +kernel)
set_option maxRecDepth 20000 in
theorem gX9_many_X9_isHalf : GoodIn wsX9_many (va_wsS RX9 188 yX9_isHalf wsX9_isHalf) := goodIn_app (goodIn_of _ (by decide +kernel)) ggX9_many_X9_isHalf
set_option maxRecDepth 20000 in
theorem ggX9_many_X0_numberFalls : GoodIn wsX9_many wsX0_numberFalls := goodIn_r _ [14, 15, 16, 17, 18, 19, 20, 21, 22, 23, 24, 25, 26, 27, 28, 29, 30, 31, 32, 33, 34, 35, 36, 37, 38, 39, 40, 41, 42, 43, 44, 45, 46, 47, 48, 49, 50, 51, 52, 53, 54, 55, 56, 57, 58, 59, 60, 61, 62, 63, 64, 65, 66, 67, 68, 69, 70, 71, 72, 73, 74, 75, 76, 77, 78, 79, 80, 81, 82, 83, 84, 85, 86, 13, 87, 110, 111, 112, 113, 114, 115, 116, 117, 118, 119, 120, 121, 122] (by decide +kernel) (by decide +kernel)
set_option maxRecDepth 20000 in
theorem gX9_many_X0_numberFalls : GoodIn wsX9_many (wsV RX9 205 RX0 yX0_numberFalls wsX0_numberFalls) := goodIn_app (goodIn_of _ (by decide +kernel)) ggX9_many_X0_numberFalls
set_option maxRecDepth 20000 in
theorem ggX9_many_X0_lower : GoodIn wsX9_many wsX0_lower := goodIn_r _ [91, 16, 17, 18, 19, 20, 21, 22, 23, 24, 25, 26, 27, 28, 29, 30, 31, 32, 33, 34, 35, 36, 37, 38, 39, 40, 41, 42, 43, 44, 45, 46, 47, 48, 92, 5, 93, 94, 110, 111, 112, 113, 114, 115, 116, 117, 118, 119, 120, 121, 122] (by decide +kernel) (by decide +kernel)
set_option maxRecDepth 20000 in
theorem gX9_many_X0_lower : GoodIn wsX9_many (wsV RX9 197 RX0 yX0_lower wsX0_lower) := goodIn_app (goodIn_of _ (by decide +kernel)) ggX9_many_X0_lower
set_option maxRecDepth 20000 in
theorem ggX9_many_X9_leastTerms : GoodIn wsX9_many wsX9_leastTerms := goodIn_r _ [97, 98, 99, 5, 100] (by decide +kernel) (by decide +kernel)
set_option maxRecDepth 20000 in
theorem gX9_many_X9_leastTerms : GoodIn wsX9_many (va_wsS RX9 201 yX9_leastTerms wsX9_leastTerms) := goodIn_app (goodIn_of _ (by decide +kernel)) ggX9_many_X9_leastTerms
theorem dX9_many_0 : decode cX9_many 0 = .ok (.iload_n 1, 1) := by decide +kernel
theorem dX9_many_1 : decode cX9_many 1 = .ok (.invokestatic 147, 3) := by decide +kernel
theorem dX9_many_4 : decode cX9_many 4 = .ok (.ifCond .eq 20, 3) := by decide +kernel
theorem dX9_many_7 : decode cX9_many 7 = .ok (.iload_n 2, 1) := by decide +kernel
theorem dX9_many_8 : decode cX9_many 8 = .ok (.ifCond .lt 16, 3) := by decide +kernel
theorem dX9_many_11 : decode cX9_many 11 = .ok (.iload_n 2, 1) := by decide +kernel
theorem dX9_many_12 : decode cX9_many 12 = .ok (.bipush 6, 2) := by decide +kernel
theorem dX9_many_14 : decode cX9_many 14 = .ok (.if_icmp .gt 10, 3) := by decide +kernel
theorem dX9_many_17 : decode cX9_many 17 = .ok (.iload_n 3, 1) := by decide +kernel
theorem dX9_many_18 : decode cX9_many 18 = .ok (.invokestatic 188, 3) := by decide +kernel
theorem dX9_many_21 : decode cX9_many 21 = .ok (.ifCond .ne 7, 3) := by decide +kernel
theorem dX9_many_24 : decode cX9_many 24 = .ok (.ldc2_w 191, 3) := by decide +kernel
theorem dX9_many_27 : decode cX9_many 27 = .ok (.lreturn, 1) := by decide +kernel
theorem dX9_many_28 : decode cX9_many 28 = .ok (.aload_n 0, 1) := by decide +kernel
theorem dX9_many_29 : decode cX9_many 29 = .ok (.getfield 67, 3) := by decide +kernel
theorem dX9_many_32 : decode cX9_many 32 = .ok (.iload_n 1, 1) := by decide +kernel
theorem dX9_many_33 : decode cX9_many 33 = .ok (.iload_n 2, 1) := by decide +kernel
theorem dX9_many_34 : decode cX9_many 34 = .ok (.invokevirtual 205, 3) := by decide +kernel
theorem dX9_many_37 : decode cX9_many 37 = .ok (.aload_n 0, 1) := by decide +kernel
theorem dX9_many_38 : decode cX9_many 38 = .ok (.getfield 67, 3) := by decide +kernel
theorem dX9_many_41 : decode cX9_many 41 = .ok (.iconst 1, 1) := by decide +kernel
theorem dX9_many_42 : decode cX9_many 42 = .ok (.invokevirtual 197, 3) := by decide +kernel
theorem dX9_many_45 : decode cX9_many 45 = .ok (.iload_n 3, 1) := by decide +kernel
theorem dX9_many_46 : decode cX9_many 46 = .ok (.invokestatic 201, 3) := by decide +kernel
theorem dX9_many_49 : decode cX9_many 49 = .ok (.lreturn, 1) := by decide +kernel
set_option maxRecDepth 20000 in
theorem ggX9_stays_X1_has : GoodIn wsX9_stays wsX1_has := goodIn_r _ [10, 11, 106, 107, 108, 109, 110] (by decide +kernel) (by decide +kernel)
set_option maxRecDepth 20000 in
theorem gX9_stays_X1_has : GoodIn wsX9_stays (wsV RX9 111 RX1 yX1_has wsX1_has) := goodIn_app (goodIn_of _ (by decide +kernel)) ggX9_stays_X1_has
set_option maxRecDepth 20000 in
theorem ggX9_stays_X7_read : GoodIn wsX9_stays wsX7_read := goodIn_r _ [16, 17, 18, 19, 20, 21, 111, 112] (by decide +kernel) (by decide +kernel)
set_option maxRecDepth 20000 in
theorem gX9_stays_X7_read : GoodIn wsX9_stays (wsV RX9 208 RX7 yX7_read wsX7_read) := goodIn_app (goodIn_of _ (by decide +kernel)) ggX9_stays_X7_read
set_option maxRecDepth 20000 in
theorem ggX9_stays_X9_isHalf : GoodIn wsX9_stays wsX9_isHalf := goodIn_r _ [24] (by decide +kernel) (by decide +kernel)
set_option maxRecDepth 20000 in
theorem gX9_stays_X9_isHalf : GoodIn wsX9_stays (va_wsS RX9 188 yX9_isHalf wsX9_isHalf) := goodIn_app (goodIn_of _ (by decide +kernel)) ggX9_stays_X9_isHalf
set_option maxRecDepth 20000 in
theorem ggX9_stays_X6_isIn : GoodIn wsX9_stays wsX6_isIn := goodIn_r _ [29, 30, 31, 32, 7, 8, 9, 10, 11, 113, 114, 115, 116, 106, 107, 108, 109, 110] (by decide +kernel) (by decide +kernel)
set_option maxRecDepth 20000 in
theorem gX9_stays_X6_isIn : GoodIn wsX9_stays (wsV RX9 128 RX6 yX6_isIn wsX6_isIn) := goodIn_app (goodIn_of _ (by decide +kernel)) ggX9_stays_X6_isIn
set_option maxRecDepth 20000 in
theorem ggX9_stays_X9_leastTerms : GoodIn wsX9_stays wsX9_leastTerms := goodIn_r _ [35, 36, 37, 20, 38] (by decide +kernel) (by decide +kernel)
set_option maxRecDepth 20000 in
theorem gX9_stays_X9_leastTerms : GoodIn wsX9_stays (va_wsS RX9 201 yX9_leastTerms wsX9_leastTerms) := goodIn_app (goodIn_of _ (by decide +kernel)) ggX9_stays_X9_leastTerms
set_option maxRecDepth 20000 in
theorem ggX9_stays_X6_leaderOf : GoodIn wsX9_stays wsX6_leaderOf := goodIn_r _ [42, 30, 43, 44, 45, 9, 46, 47, 48, 7, 8, 10, 11, 49, 26, 27, 28, 29, 31, 32, 113, 114, 115, 116, 106, 107, 108, 109, 110] (by decide +kernel) (by decide +kernel)
set_option maxRecDepth 20000 in
theorem gX9_stays_X6_leaderOf : GoodIn wsX9_stays (wsV RX9 131 RX6 yX6_leaderOf wsX6_leaderOf) := goodIn_app (goodIn_of _ (by decide +kernel)) ggX9_stays_X6_leaderOf
set_option maxRecDepth 20000 in
theorem ggX9_stays_X0_leaderStays : GoodIn wsX9_stays wsX0_leaderStays := goodIn_r _ [54, 55, 56, 57, 58, 59, 60, 28, 61, 62, 63, 64, 65, 15, 66, 17, 67, 68, 69, 70, 18, 71, 72, 73, 9, 74, 75, 76, 77, 78, 79, 80, 81, 82, 83, 48, 7, 8, 10, 11, 84, 85, 86, 87, 88, 89, 20, 90, 91, 117, 118, 119, 120, 113, 114, 115, 116, 111, 112, 106, 107, 108, 109, 110] (by decide +kernel) (by decide +kernel)
set_option maxRecDepth 20000 in
theorem gX9_stays_X0_leaderStays : GoodIn wsX9_stays (wsV RX9 212 RX0 yX0_leaderStays wsX0_leaderStays) := goodIn_app (goodIn_of _ (by decide +kernel)) ggX9_stays_X0_leaderStays
set_option maxRecDepth 20000 in
theorem ggX9_stays_X7_length : GoodIn wsX9_stays wsX7_length := goodIn_r _ [66, 17, 111, 112] (by decide +kernel) (by decide +kernel)
set_option maxRecDepth 20000 in
theorem gX9_stays_X7_length : GoodIn wsX9_stays (wsV RX9 215 RX7 yX7_length wsX7_length) := goodIn_app (goodIn_of _ (by decide +kernel)) ggX9_stays_X7_length
set_option maxRecDepth 20000 in
theorem ggX9_stays_X9_powerOfTen : GoodIn wsX9_stays wsX9_powerOfTen := goodIn_r _ [95, 96] (by decide +kernel) (by decide +kernel)
set_option maxRecDepth 20000 in
theorem gX9_stays_X9_powerOfTen : GoodIn wsX9_stays (va_wsS RX9 216 yX9_powerOfTen wsX9_powerOfTen) := goodIn_app (goodIn_of _ (by decide +kernel)) ggX9_stays_X9_powerOfTen
theorem dX9_stays_0 : decode cX9_stays 0 = .ok (.aload_n 0, 1) := by decide +kernel
theorem dX9_stays_1 : decode cX9_stays 1 = .ok (.getfield 28, 3) := by decide +kernel
theorem dX9_stays_4 : decode cX9_stays 4 = .ok (.iload_n 1, 1) := by decide +kernel
theorem dX9_stays_5 : decode cX9_stays 5 = .ok (.invokevirtual 111, 3) := by decide +kernel
theorem dX9_stays_8 : decode cX9_stays 8 = .ok (.ifCond .eq 23, 3) := by decide +kernel
theorem dX9_stays_11 : decode cX9_stays 11 = .ok (.aload_n 0, 1) := by decide +kernel
theorem dX9_stays_12 : decode cX9_stays 12 = .ok (.getfield 58, 3) := by decide +kernel
theorem dX9_stays_15 : decode cX9_stays 15 = .ok (.iload_n 2, 1) := by decide +kernel
theorem dX9_stays_16 : decode cX9_stays 16 = .ok (.bipush 9, 2) := by decide +kernel
theorem dX9_stays_18 : decode cX9_stays 18 = .ok (.invokevirtual 208, 3) := by decide +kernel
theorem dX9_stays_21 : decode cX9_stays 21 = .ok (.ifCond .eq 10, 3) := by decide +kernel
theorem dX9_stays_24 : decode cX9_stays 24 = .ok (.iload_n 3, 1) := by decide +kernel
theorem dX9_stays_25 : decode cX9_stays 25 = .ok (.invokestatic 188, 3) := by decide +kernel
theorem dX9_stays_28 : decode cX9_stays 28 = .ok (.ifCond .ne 7, 3) := by decide +kernel
theorem dX9_stays_31 : decode cX9_stays 31 = .ok (.ldc2_w 191, 3) := by decide +kernel
theorem dX9_stays_34 : decode cX9_stays 34 = .ok (.lreturn, 1) := by decide +kernel
theorem dX9_stays_35 : decode cX9_stays 35 = .ok (.aload_n 0, 1) := by decide +kernel
theorem dX9_stays_36 : decode cX9_stays 36 = .ok (.getfield 37, 3) := by decide +kernel
theorem dX9_stays_39 : decode cX9_stays 39 = .ok (.iload_n 1, 1) := by decide +kernel
theorem dX9_stays_40 : decode cX9_stays 40 = .ok (.invokevirtual 128, 3) := by decide +kernel
theorem dX9_stays_43 : decode cX9_stays 43 = .ok (.ifCond .ne 10, 3) := by decide +kernel
theorem dX9_stays_46 : decode cX9_stays 46 = .ok (.lconst 0, 1) := by decide +kernel
theorem dX9_stays_47 : decode cX9_stays 47 = .ok (.lconst 1, 1) := by decide +kernel
theorem dX9_stays_48 : decode cX9_stays 48 = .ok (.iload_n 3, 1) := by decide +kernel
theorem dX9_stays_49 : decode cX9_stays 49 = .ok (.invokestatic 201, 3) := by decide +kernel
theorem dX9_stays_52 : decode cX9_stays 52 = .ok (.lreturn, 1) := by decide +kernel
theorem dX9_stays_53 : decode cX9_stays 53 = .ok (.aload_n 0, 1) := by decide +kernel
theorem dX9_stays_54 : decode cX9_stays 54 = .ok (.getfield 67, 3) := by decide +kernel
theorem dX9_stays_57 : decode cX9_stays 57 = .ok (.aload_n 0, 1) := by decide +kernel
theorem dX9_stays_58 : decode cX9_stays 58 = .ok (.getfield 37, 3) := by decide +kernel
theorem dX9_stays_61 : decode cX9_stays 61 = .ok (.iload_n 1, 1) := by decide +kernel
theorem dX9_stays_62 : decode cX9_stays 62 = .ok (.invokevirtual 131, 3) := by decide +kernel
theorem dX9_stays_65 : decode cX9_stays 65 = .ok (.invokevirtual 212, 3) := by decide +kernel
theorem dX9_stays_68 : decode cX9_stays 68 = .ok (.aload_n 0, 1) := by decide +kernel
theorem dX9_stays_69 : decode cX9_stays 69 = .ok (.getfield 58, 3) := by decide +kernel
theorem dX9_stays_72 : decode cX9_stays 72 = .ok (.invokevirtual 215, 3) := by decide +kernel
theorem dX9_stays_75 : decode cX9_stays 75 = .ok (.invokestatic 216, 3) := by decide +kernel
theorem dX9_stays_78 : decode cX9_stays 78 = .ok (.iload_n 3, 1) := by decide +kernel
theorem dX9_stays_79 : decode cX9_stays 79 = .ok (.invokestatic 201, 3) := by decide +kernel
theorem dX9_stays_82 : decode cX9_stays 82 = .ok (.lreturn, 1) := by decide +kernel
set_option maxRecDepth 20000 in
theorem ggX9_left_X7_read : GoodIn wsX9_left wsX7_read := goodIn_r _ [8, 9, 10, 11, 12, 13, 129, 130] (by decide +kernel) (by decide +kernel)
set_option maxRecDepth 20000 in
theorem gX9_left_X7_read : GoodIn wsX9_left (wsV RX9 208 RX7 yX7_read wsX7_read) := goodIn_app (goodIn_of _ (by decide +kernel)) ggX9_left_X7_read
set_option maxRecDepth 20000 in
theorem ggX9_left_X9_isHalf : GoodIn wsX9_left wsX9_isHalf := goodIn_r _ [16] (by decide +kernel) (by decide +kernel)
set_option maxRecDepth 20000 in
theorem gX9_left_X9_isHalf : GoodIn wsX9_left (va_wsS RX9 188 yX9_isHalf wsX9_isHalf) := goodIn_app (goodIn_of _ (by decide +kernel)) ggX9_left_X9_isHalf
set_option maxRecDepth 20000 in
theorem ggX9_left_X0_justOneStays : GoodIn wsX9_left wsX0_justOneStays := goodIn_r _ [21, 22, 23, 24, 25, 26, 27, 7, 28, 9, 29, 12, 30, 31, 32, 33, 34, 35, 36, 37, 38, 39, 40, 41, 42, 43, 44, 45, 46, 47, 48, 49, 50, 51, 52, 53, 54, 55, 56, 57, 58, 59, 60, 61, 62, 63, 64, 65, 20, 66, 67, 68, 69, 70, 71, 72, 73, 74, 75, 10, 76, 77, 78, 79, 80, 81, 82, 83, 84, 85, 86, 87, 88, 89, 90, 91, 92, 93, 94, 95, 96, 97, 98, 99, 100, 101, 102, 103, 104, 105, 106, 107, 108, 131, 132, 133, 134, 129, 130, 135, 136, 137, 138, 139, 140, 141, 142, 143] (by decide +kernel) (by decide +kernel)
set_option maxRecDepth 20000 in
theorem gX9_left_X0_justOneStays : GoodIn wsX9_left (wsV RX9 219 RX0 yX0_justOneStays wsX0_justOneStays) := goodIn_app (goodIn_of _ (by decide +kernel)) ggX9_left_X0_justOneStays
set_option maxRecDepth 20000 in
theorem ggX9_left_X7_length : GoodIn wsX9_left wsX7_length := goodIn_r _ [28, 9, 129, 130] (by decide +kernel) (by decide +kernel)
set_option maxRecDepth 20000 in
theorem gX9_left_X7_length : GoodIn wsX9_left (wsV RX9 215 RX7 yX7_length wsX7_length) := goodIn_app (goodIn_of _ (by decide +kernel)) ggX9_left_X7_length
set_option maxRecDepth 20000 in
theorem ggX9_left_X0_lower : GoodIn wsX9_left wsX0_lower := goodIn_r _ [113, 23, 24, 32, 33, 34, 35, 36, 37, 38, 39, 40, 41, 42, 43, 44, 45, 46, 47, 48, 49, 50, 51, 52, 53, 54, 55, 56, 57, 58, 59, 60, 61, 62, 29, 12, 30, 31, 131, 132, 133, 134, 135, 136, 137, 138, 139, 140, 141, 142, 143] (by decide +kernel) (by decide +kernel)
set_option maxRecDepth 20000 in
theorem gX9_left_X0_lower : GoodIn wsX9_left (wsV RX9 197 RX0 yX0_lower wsX0_lower) := goodIn_app (goodIn_of _ (by decide +kernel)) ggX9_left_X0_lower
set_option maxRecDepth 20000 in
theorem ggX9_left_X9_leastTerms : GoodIn wsX9_left wsX9_leastTerms := goodIn_r _ [116, 117, 118, 12, 119] (by decide +kernel) (by decide +kernel)
set_option maxRecDepth 20000 in
theorem gX9_left_X9_leastTerms : GoodIn wsX9_left (va_wsS RX9 201 yX9_leastTerms wsX9_leastTerms) := goodIn_app (goodIn_of _ (by decide +kernel)) ggX9_left_X9_leastTerms
theorem dX9_left_0 : decode cX9_left 0 = .ok (.aload_n 0, 1) := by decide +kernel
theorem dX9_left_1 : decode cX9_left 1 = .ok (.getfield 58, 3) := by decide +kernel
theorem dX9_left_4 : decode cX9_left 4 = .ok (.iload_n 1, 1) := by decide +kernel
theorem dX9_left_5 : decode cX9_left 5 = .ok (.iconst 3, 1) := by decide +kernel
theorem dX9_left_6 : decode cX9_left 6 = .ok (.invokevirtual 208, 3) := by decide +kernel
theorem dX9_left_9 : decode cX9_left 9 = .ok (.ifCond .eq 10, 3) := by decide +kernel
theorem dX9_left_12 : decode cX9_left 12 = .ok (.iload_n 2, 1) := by decide +kernel
theorem dX9_left_13 : decode cX9_left 13 = .ok (.invokestatic 188, 3) := by decide +kernel
theorem dX9_left_16 : decode cX9_left 16 = .ok (.ifCond .ne 7, 3) := by decide +kernel
theorem dX9_left_19 : decode cX9_left 19 = .ok (.ldc2_w 191, 3) := by decide +kernel
theorem dX9_left_22 : decode cX9_left 22 = .ok (.lreturn, 1) := by decide +kernel
theorem dX9_left_23 : decode cX9_left 23 = .ok (.aload_n 0, 1) := by decide +kernel
theorem dX9_left_24 : decode cX9_left 24 = .ok (.getfield 67, 3) := by decide +kernel
theorem dX9_left_27 : decode cX9_left 27 = .ok (.invokevirtual 219, 3) := by decide +kernel
theorem dX9_left_30 : decode cX9_left 30 = .ok (.aload_n 0, 1) := by decide +kernel
theorem dX9_left_31 : decode cX9_left 31 = .ok (.getfield 67, 3) := by decide +kernel
theorem dX9_left_34 : decode cX9_left 34 = .ok (.aload_n 0, 1) := by decide +kernel
theorem dX9_left_35 : decode cX9_left 35 = .ok (.getfield 58, 3) := by decide +kernel
theorem dX9_left_38 : decode cX9_left 38 = .ok (.invokevirtual 215, 3) := by decide +kernel
theorem dX9_left_41 : decode cX9_left 41 = .ok (.invokevirtual 197, 3) := by decide +kernel
theorem dX9_left_44 : decode cX9_left 44 = .ok (.iload_n 2, 1) := by decide +kernel
theorem dX9_left_45 : decode cX9_left 45 = .ok (.invokestatic 201, 3) := by decide +kernel
theorem dX9_left_48 : decode cX9_left 48 = .ok (.lreturn, 1) := by decide +kernel
set_option maxRecDepth 20000 in
theorem ggX9_best_X0_bestRow : GoodIn wsX9_best wsX0_bestRow := goodIn_r _ [6, 7, 8, 9, 10, 5, 11, 12, 13, 14, 15, 16, 17, 18, 19, 20, 21, 22, 23, 24, 25, 26, 27, 28, 29, 30, 31, 32, 33, 34, 35, 36, 37, 38, 39, 40, 41, 42, 43, 44, 45, 46, 47, 48, 49, 50, 51, 52, 53, 54, 55, 56, 57, 58, 59, 60, 61, 62, 63, 64, 65, 66, 67, 68, 69, 70, 71, 72, 73, 74, 75, 76, 77, 78, 79, 80, 81, 82, 83, 84, 85, 86, 87, 88, 89, 90, 91, 92, 93, 94, 95, 96, 97, 98, 99, 100, 101, 102, 103, 104, 105, 106, 107, 108, 109, 110, 111, 121, 122, 123, 124, 125, 126, 127, 128, 129, 130, 131, 132, 133, 134, 135] (by decide +kernel) (by decide +kernel)
set_option maxRecDepth 20000 in
theorem gX9_best_X0_bestRow : GoodIn wsX9_best (wsV RX9 223 RX0 yX0_bestRow wsX0_bestRow) := goodIn_app (goodIn_of _ (by decide +kernel)) ggX9_best_X0_bestRow
theorem dX9_best_0 : decode cX9_best 0 = .ok (.iload_n 1, 1) := by decide +kernel
theorem dX9_best_1 : decode cX9_best 1 = .ok (.ifCond .lt 8, 3) := by decide +kernel
theorem dX9_best_4 : decode cX9_best 4 = .ok (.iload_n 1, 1) := by decide +kernel
theorem dX9_best_5 : decode cX9_best 5 = .ok (.iconst 3, 1) := by decide +kernel
theorem dX9_best_6 : decode cX9_best 6 = .ok (.if_icmp .le 5, 3) := by decide +kernel
theorem dX9_best_9 : decode cX9_best 9 = .ok (.iconst (-1), 1) := by decide +kernel
theorem dX9_best_10 : decode cX9_best 10 = .ok (.ireturn, 1) := by decide +kernel
theorem dX9_best_11 : decode cX9_best 11 = .ok (.aload_n 0, 1) := by decide +kernel
theorem dX9_best_12 : decode cX9_best 12 = .ok (.getfield 67, 3) := by decide +kernel
theorem dX9_best_15 : decode cX9_best 15 = .ok (.iload_n 1, 1) := by decide +kernel
theorem dX9_best_16 : decode cX9_best 16 = .ok (.invokevirtual 223, 3) := by decide +kernel
theorem dX9_best_19 : decode cX9_best 19 = .ok (.ireturn, 1) := by decide +kernel
set_option maxRecDepth 20000 in
theorem ggX9_lure_X1_has : GoodIn wsX9_lure wsX1_has := goodIn_r _ [7, 8, 64, 65, 66, 67, 68] (by decide +kernel) (by decide +kernel)
set_option maxRecDepth 20000 in
theorem gX9_lure_X1_has : GoodIn wsX9_lure (wsV RX9 111 RX1 yX1_has wsX1_has) := goodIn_app (goodIn_of _ (by decide +kernel)) ggX9_lure_X1_has
set_option maxRecDepth 20000 in
theorem ggX9_lure_X6_isIn : GoodIn wsX9_lure wsX6_isIn := goodIn_r _ [13, 14, 15, 16, 4, 5, 6, 7, 8, 69, 70, 71, 72, 64, 65, 66, 67, 68] (by decide +kernel) (by decide +kernel)
set_option maxRecDepth 20000 in
theorem gX9_lure_X6_isIn : GoodIn wsX9_lure (wsV RX9 128 RX6 yX6_isIn wsX6_isIn) := goodIn_app (goodIn_of _ (by decide +kernel)) ggX9_lure_X6_isIn
set_option maxRecDepth 20000 in
theorem ggX9_lure_X6_fewestSaidAhead : GoodIn wsX9_lure wsX6_fewestSaidAhead := goodIn_r _ [20, 21, 14, 22, 23, 24, 12, 25, 26, 27, 28, 6, 29, 30, 31, 4, 5, 7, 8, 32, 10, 11, 13, 15, 16, 33, 34, 35, 36, 37, 38, 39, 40, 41, 42, 43, 44, 45, 46, 47, 48, 49, 50, 51, 52, 53, 54, 69, 70, 71, 72, 64, 65, 66, 67, 68] (by decide +kernel) (by decide +kernel)
set_option maxRecDepth 20000 in
theorem gX9_lure_X6_fewestSaidAhead : GoodIn wsX9_lure (wsV RX9 226 RX6 yX6_fewestSaidAhead wsX6_fewestSaidAhead) := goodIn_app (goodIn_of _ (by decide +kernel)) ggX9_lure_X6_fewestSaidAhead
theorem dX9_lure_0 : decode cX9_lure 0 = .ok (.aload_n 0, 1) := by decide +kernel
theorem dX9_lure_1 : decode cX9_lure 1 = .ok (.getfield 28, 3) := by decide +kernel
theorem dX9_lure_4 : decode cX9_lure 4 = .ok (.iload_n 1, 1) := by decide +kernel
theorem dX9_lure_5 : decode cX9_lure 5 = .ok (.invokevirtual 111, 3) := by decide +kernel
theorem dX9_lure_8 : decode cX9_lure 8 = .ok (.ifCond .eq 13, 3) := by decide +kernel
theorem dX9_lure_11 : decode cX9_lure 11 = .ok (.iload_n 2, 1) := by decide +kernel
theorem dX9_lure_12 : decode cX9_lure 12 = .ok (.ifCond .lt 9, 3) := by decide +kernel
theorem dX9_lure_15 : decode cX9_lure 15 = .ok (.iload_n 2, 1) := by decide +kernel
theorem dX9_lure_16 : decode cX9_lure 16 = .ok (.bipush 10, 2) := by decide +kernel
theorem dX9_lure_18 : decode cX9_lure 18 = .ok (.if_icmp .le 5, 3) := by decide +kernel
theorem dX9_lure_21 : decode cX9_lure 21 = .ok (.iconst (-1), 1) := by decide +kernel
theorem dX9_lure_22 : decode cX9_lure 22 = .ok (.ireturn, 1) := by decide +kernel
theorem dX9_lure_23 : decode cX9_lure 23 = .ok (.aload_n 0, 1) := by decide +kernel
theorem dX9_lure_24 : decode cX9_lure 24 = .ok (.getfield 37, 3) := by decide +kernel
theorem dX9_lure_27 : decode cX9_lure 27 = .ok (.iload_n 1, 1) := by decide +kernel
theorem dX9_lure_28 : decode cX9_lure 28 = .ok (.invokevirtual 128, 3) := by decide +kernel
theorem dX9_lure_31 : decode cX9_lure 31 = .ok (.ifCond .eq 15, 3) := by decide +kernel
theorem dX9_lure_34 : decode cX9_lure 34 = .ok (.aload_n 0, 1) := by decide +kernel
theorem dX9_lure_35 : decode cX9_lure 35 = .ok (.getfield 37, 3) := by decide +kernel
theorem dX9_lure_38 : decode cX9_lure 38 = .ok (.iload_n 1, 1) := by decide +kernel
theorem dX9_lure_39 : decode cX9_lure 39 = .ok (.iload_n 2, 1) := by decide +kernel
theorem dX9_lure_40 : decode cX9_lure 40 = .ok (.invokevirtual 226, 3) := by decide +kernel
theorem dX9_lure_43 : decode cX9_lure 43 = .ok (.goto 5, 3) := by decide +kernel
theorem dX9_lure_46 : decode cX9_lure 46 = .ok (.bipush (-9), 2) := by decide +kernel
theorem dX9_lure_48 : decode cX9_lure 48 = .ok (.ireturn, 1) := by decide +kernel
set_option maxRecDepth 20000 in
theorem ggX9_could_X1_isSet : GoodIn wsX9_could wsX1_isSet := goodIn_r _ [7, 8, 9, 10, 6, 11, 12, 94, 95, 96, 97, 98] (by decide +kernel) (by decide +kernel)
set_option maxRecDepth 20000 in
theorem gX9_could_X1_isSet : GoodIn wsX9_could (wsV RX9 185 RX1 yX1_isSet wsX1_isSet) := goodIn_app (goodIn_of _ (by decide +kernel)) ggX9_could_X1_isSet
set_option maxRecDepth 20000 in
theorem ggX9_could_X0_ordersThatCould : GoodIn wsX9_could wsX0_ordersThatCould := goodIn_r _ [17, 18, 19, 20, 16, 21, 22, 23, 24, 25, 26, 27, 28, 29, 30, 31, 32, 6, 33, 12, 34, 35, 36, 37, 38, 39, 40, 41, 42, 43, 44, 45, 46, 47, 48, 49, 50, 51, 52, 53, 54, 55, 56, 57, 58, 59, 60, 61, 62, 63, 64, 65, 66, 67, 68, 69, 70, 71, 72, 73, 74, 75, 76, 77, 78, 79, 80, 81, 82, 83, 84, 99, 100, 101, 102, 103, 104, 105, 106, 94, 95, 96, 97, 98] (by decide +kernel) (by decide +kernel)
set_option maxRecDepth 20000 in
theorem gX9_could_X0_ordersThatCould : GoodIn wsX9_could (wsV RX9 230 RX0 yX0_ordersThatCould wsX0_ordersThatCould) := goodIn_app (goodIn_of _ (by decide +kernel)) ggX9_could_X0_ordersThatCould
theorem dX9_could_0 : decode cX9_could 0 = .ok (.aload_n 0, 1) := by decide +kernel
theorem dX9_could_1 : decode cX9_could 1 = .ok (.getfield 28, 3) := by decide +kernel
theorem dX9_could_4 : decode cX9_could 4 = .ok (.iload_n 1, 1) := by decide +kernel
theorem dX9_could_5 : decode cX9_could 5 = .ok (.invokevirtual 185, 3) := by decide +kernel
theorem dX9_could_8 : decode cX9_could 8 = .ok (.ifCond .eq 14, 3) := by decide +kernel
theorem dX9_could_11 : decode cX9_could 11 = .ok (.aload_n 0, 1) := by decide +kernel
theorem dX9_could_12 : decode cX9_could 12 = .ok (.getfield 67, 3) := by decide +kernel
theorem dX9_could_15 : decode cX9_could 15 = .ok (.iload_n 1, 1) := by decide +kernel
theorem dX9_could_16 : decode cX9_could 16 = .ok (.invokevirtual 230, 3) := by decide +kernel
theorem dX9_could_19 : decode cX9_could 19 = .ok (.goto 4, 3) := by decide +kernel
theorem dX9_could_22 : decode cX9_could 22 = .ok (.iconst (-1), 1) := by decide +kernel
theorem dX9_could_23 : decode cX9_could 23 = .ok (.ireturn, 1) := by decide +kernel
set_option maxRecDepth 20000 in
theorem ggX9_likeliest_X1_isSet : GoodIn wsX9_likeliest wsX1_isSet := goodIn_r _ [7, 8, 9, 10, 6, 11, 12, 94, 95, 96, 97, 98] (by decide +kernel) (by decide +kernel)
set_option maxRecDepth 20000 in
theorem gX9_likeliest_X1_isSet : GoodIn wsX9_likeliest (wsV RX9 185 RX1 yX1_isSet wsX1_isSet) := goodIn_app (goodIn_of _ (by decide +kernel)) ggX9_likeliest_X1_isSet
set_option maxRecDepth 20000 in
theorem ggX9_likeliest_X0_likeliestOrder : GoodIn wsX9_likeliest wsX0_likeliestOrder := goodIn_r _ [17, 18, 19, 20, 16, 21, 22, 23, 24, 25, 26, 27, 28, 29, 30, 31, 32, 6, 33, 12, 34, 35, 36, 37, 38, 39, 40, 41, 42, 43, 44, 45, 46, 47, 48, 49, 50, 51, 52, 53, 54, 55, 56, 57, 58, 59, 60, 61, 62, 63, 64, 65, 66, 67, 68, 69, 70, 71, 72, 73, 74, 75, 76, 77, 78, 79, 80, 81, 82, 83, 84, 99, 100, 101, 102, 103, 104, 105, 106, 94, 95, 96, 97, 98] (by decide +kernel) (by decide +kernel)
set_option maxRecDepth 20000 in
theorem gX9_likeliest_X0_likeliestOrder : GoodIn wsX9_likeliest (wsV RX9 233 RX0 yX0_likeliestOrder wsX0_likeliestOrder) := goodIn_app (goodIn_of _ (by decide +kernel)) ggX9_likeliest_X0_likeliestOrder
theorem dX9_likeliest_0 : decode cX9_likeliest 0 = .ok (.aload_n 0, 1) := by decide +kernel
theorem dX9_likeliest_1 : decode cX9_likeliest 1 = .ok (.getfield 28, 3) := by decide +kernel
theorem dX9_likeliest_4 : decode cX9_likeliest 4 = .ok (.iload_n 1, 1) := by decide +kernel
theorem dX9_likeliest_5 : decode cX9_likeliest 5 = .ok (.invokevirtual 185, 3) := by decide +kernel
theorem dX9_likeliest_8 : decode cX9_likeliest 8 = .ok (.ifCond .eq 14, 3) := by decide +kernel
theorem dX9_likeliest_11 : decode cX9_likeliest 11 = .ok (.aload_n 0, 1) := by decide +kernel
theorem dX9_likeliest_12 : decode cX9_likeliest 12 = .ok (.getfield 67, 3) := by decide +kernel
theorem dX9_likeliest_15 : decode cX9_likeliest 15 = .ok (.iload_n 1, 1) := by decide +kernel
theorem dX9_likeliest_16 : decode cX9_likeliest 16 = .ok (.invokevirtual 233, 3) := by decide +kernel
theorem dX9_likeliest_19 : decode cX9_likeliest 19 = .ok (.goto 4, 3) := by decide +kernel
theorem dX9_likeliest_22 : decode cX9_likeliest 22 = .ok (.iconst (-1), 1) := by decide +kernel
theorem dX9_likeliest_23 : decode cX9_likeliest 23 = .ok (.ireturn, 1) := by decide +kernel
set_option maxRecDepth 20000 in
theorem ggX9_rate_X1_has : GoodIn wsX9_rate wsX1_has := goodIn_r _ [8, 9, 95, 96, 97, 98, 99] (by decide +kernel) (by decide +kernel)
set_option maxRecDepth 20000 in
theorem gX9_rate_X1_has : GoodIn wsX9_rate (wsV RX9 111 RX1 yX1_has wsX1_has) := goodIn_app (goodIn_of _ (by decide +kernel)) ggX9_rate_X1_has
set_option maxRecDepth 20000 in
theorem ggX9_rate_X4_rateAs : GoodIn wsX9_rate wsX4_rateAs := goodIn_r _ [14, 15, 16, 17, 18, 13, 19, 20, 21, 22, 23, 24, 7, 25, 26, 27, 5, 6, 8, 9, 28, 29, 30, 31, 32, 33, 34, 35, 36, 37, 38, 39, 40, 41, 42, 43, 44, 45, 46, 47, 48, 49, 50, 51, 52, 53, 54, 55, 56, 57, 58, 59, 60, 61, 62, 63, 64, 65, 66, 67, 68, 69, 70, 71, 72, 73, 74, 75, 76, 77, 78, 79, 80, 81, 82, 83, 84, 85, 100, 101, 102, 95, 96, 97, 98, 99, 103, 104, 105, 106] (by decide +kernel) (by decide +kernel)
set_option maxRecDepth 20000 in
theorem gX9_rate_X4_rateAs : GoodIn wsX9_rate (wsV RX9 236 RX4 yX4_rateAs wsX4_rateAs) := goodIn_app (goodIn_of _ (by decide +kernel)) ggX9_rate_X4_rateAs
theorem dX9_rate_0 : decode cX9_rate 0 = .ok (.aload_n 0, 1) := by decide +kernel
theorem dX9_rate_1 : decode cX9_rate 1 = .ok (.getfield 28, 3) := by decide +kernel
theorem dX9_rate_4 : decode cX9_rate 4 = .ok (.iload_n 2, 1) := by decide +kernel
theorem dX9_rate_5 : decode cX9_rate 5 = .ok (.invokevirtual 111, 3) := by decide +kernel
theorem dX9_rate_8 : decode cX9_rate 8 = .ok (.ifCond .eq 15, 3) := by decide +kernel
theorem dX9_rate_11 : decode cX9_rate 11 = .ok (.aload_n 0, 1) := by decide +kernel
theorem dX9_rate_12 : decode cX9_rate 12 = .ok (.getfield 76, 3) := by decide +kernel
theorem dX9_rate_15 : decode cX9_rate 15 = .ok (.iload_n 1, 1) := by decide +kernel
theorem dX9_rate_16 : decode cX9_rate 16 = .ok (.iload_n 2, 1) := by decide +kernel
theorem dX9_rate_17 : decode cX9_rate 17 = .ok (.invokevirtual 236, 3) := by decide +kernel
theorem dX9_rate_20 : decode cX9_rate 20 = .ok (.goto 5, 3) := by decide +kernel
theorem dX9_rate_23 : decode cX9_rate 23 = .ok (.ldc 239, 2) := by decide +kernel
theorem dX9_rate_25 : decode cX9_rate 25 = .ok (.ireturn, 1) := by decide +kernel
set_option maxRecDepth 20000 in
theorem ggX9_keep_X9_isImage : GoodIn wsX9_keep wsX9_isImage := goodIn_r _ [6] (by decide +kernel) (by decide +kernel)
set_option maxRecDepth 20000 in
theorem gX9_keep_X9_isImage : GoodIn wsX9_keep (va_wsS RX9 240 yX9_isImage wsX9_isImage) := goodIn_app (goodIn_of _ (by decide +kernel)) ggX9_keep_X9_isImage
set_option maxRecDepth 20000 in
theorem ggX9_keep_X3_take : GoodIn wsX9_keep wsX3_take := goodIn_r _ [11, 12, 13, 14, 15, 16, 17, 18, 19, 20, 21, 22, 23, 24, 25, 26, 27, 28, 29, 30, 31, 52, 53, 54, 55, 56, 57, 58, 59] (by decide +kernel) (by decide +kernel)
set_option maxRecDepth 20000 in
theorem gX9_keep_X3_take : GoodIn wsX9_keep (wsV RX9 243 RX3 yX3_take wsX3_take) := goodIn_app (goodIn_of _ (by decide +kernel)) ggX9_keep_X3_take
set_option maxRecDepth 20000 in
theorem ggX9_keep_X6_howManyIn : GoodIn wsX9_keep wsX6_howManyIn := goodIn_r _ [35, 21, 36, 37, 38, 39, 40, 41, 42, 56, 57, 58, 59] (by decide +kernel) (by decide +kernel)
set_option maxRecDepth 20000 in
theorem gX9_keep_X6_howManyIn : GoodIn wsX9_keep (wsV RX9 164 RX6 yX6_howManyIn wsX6_howManyIn) := goodIn_app (goodIn_of _ (by decide +kernel)) ggX9_keep_X6_howManyIn
theorem dX9_keep_0 : decode cX9_keep 0 = .ok (.iload_n 1, 1) := by decide +kernel
theorem dX9_keep_1 : decode cX9_keep 1 = .ok (.invokestatic 240, 3) := by decide +kernel
theorem dX9_keep_4 : decode cX9_keep 4 = .ok (.ifCond .ne 5, 3) := by decide +kernel
theorem dX9_keep_7 : decode cX9_keep 7 = .ok (.iconst (-1), 1) := by decide +kernel
theorem dX9_keep_8 : decode cX9_keep 8 = .ok (.ireturn, 1) := by decide +kernel
theorem dX9_keep_9 : decode cX9_keep 9 = .ok (.aload_n 0, 1) := by decide +kernel
theorem dX9_keep_10 : decode cX9_keep 10 = .ok (.getfield 50, 3) := by decide +kernel
theorem dX9_keep_13 : decode cX9_keep 13 = .ok (.iload_n 1, 1) := by decide +kernel
theorem dX9_keep_14 : decode cX9_keep 14 = .ok (.aaload, 1) := by decide +kernel
theorem dX9_keep_15 : decode cX9_keep 15 = .ok (.aload_n 0, 1) := by decide +kernel
theorem dX9_keep_16 : decode cX9_keep 16 = .ok (.getfield 37, 3) := by decide +kernel
theorem dX9_keep_19 : decode cX9_keep 19 = .ok (.invokevirtual 243, 3) := by decide +kernel
theorem dX9_keep_22 : decode cX9_keep 22 = .ok (.aload_n 0, 1) := by decide +kernel
theorem dX9_keep_23 : decode cX9_keep 23 = .ok (.getfield 37, 3) := by decide +kernel
theorem dX9_keep_26 : decode cX9_keep 26 = .ok (.invokevirtual 164, 3) := by decide +kernel
theorem dX9_keep_29 : decode cX9_keep 29 = .ok (.ireturn, 1) := by decide +kernel
set_option maxRecDepth 20000 in
theorem ggX9_back_X9_isImage : GoodIn wsX9_back wsX9_isImage := goodIn_r _ [7] (by decide +kernel) (by decide +kernel)
set_option maxRecDepth 20000 in
theorem gX9_back_X9_isImage : GoodIn wsX9_back (va_wsS RX9 240 yX9_isImage wsX9_isImage) := goodIn_app (goodIn_of _ (by decide +kernel)) ggX9_back_X9_isImage
set_option maxRecDepth 20000 in
theorem ggX9_back_X3_isKept : GoodIn wsX9_back wsX3_isKept := goodIn_r _ [12, 13, 59, 60, 61, 62] (by decide +kernel) (by decide +kernel)
set_option maxRecDepth 20000 in
theorem gX9_back_X3_isKept : GoodIn wsX9_back (wsV RX9 247 RX3 yX3_isKept wsX3_isKept) := goodIn_app (goodIn_of _ (by decide +kernel)) ggX9_back_X3_isKept
set_option maxRecDepth 20000 in
theorem ggX9_back_X3_giveTo : GoodIn wsX9_back wsX3_giveTo := goodIn_r _ [17, 18, 19, 20, 21, 22, 23, 24, 25, 26, 27, 28, 29, 30, 31, 32, 59, 60, 61, 62, 63, 64, 65, 66] (by decide +kernel) (by decide +kernel)
set_option maxRecDepth 20000 in
theorem gX9_back_X3_giveTo : GoodIn wsX9_back (wsV RX9 250 RX3 yX3_giveTo wsX3_giveTo) := goodIn_app (goodIn_of _ (by decide +kernel)) ggX9_back_X3_giveTo
set_option maxRecDepth 20000 in
theorem ggX9_back_X2_forget : GoodIn wsX9_back wsX2_forget := goodIn_r _ [37, 38, 67, 68, 69] (by decide +kernel) (by decide +kernel)
set_option maxRecDepth 20000 in
theorem gX9_back_X2_forget : GoodIn wsX9_back (wsV RX9 107 RX2 yX2_forget wsX2_forget) := goodIn_app (goodIn_of _ (by decide +kernel)) ggX9_back_X2_forget
set_option maxRecDepth 20000 in
theorem ggX9_back_X6_howManyIn : GoodIn wsX9_back wsX6_howManyIn := goodIn_r _ [42, 26, 43, 44, 45, 46, 47, 48, 49, 63, 64, 65, 66] (by decide +kernel) (by decide +kernel)
set_option maxRecDepth 20000 in
theorem gX9_back_X6_howManyIn : GoodIn wsX9_back (wsV RX9 164 RX6 yX6_howManyIn wsX6_howManyIn) := goodIn_app (goodIn_of _ (by decide +kernel)) ggX9_back_X6_howManyIn
theorem dX9_back_0 : decode cX9_back 0 = .ok (.iload_n 1, 1) := by decide +kernel
theorem dX9_back_1 : decode cX9_back 1 = .ok (.invokestatic 240, 3) := by decide +kernel
theorem dX9_back_4 : decode cX9_back 4 = .ok (.ifCond .ne 5, 3) := by decide +kernel
theorem dX9_back_7 : decode cX9_back 7 = .ok (.iconst (-1), 1) := by decide +kernel
theorem dX9_back_8 : decode cX9_back 8 = .ok (.ireturn, 1) := by decide +kernel
theorem dX9_back_9 : decode cX9_back 9 = .ok (.aload_n 0, 1) := by decide +kernel
theorem dX9_back_10 : decode cX9_back 10 = .ok (.getfield 50, 3) := by decide +kernel
theorem dX9_back_13 : decode cX9_back 13 = .ok (.iload_n 1, 1) := by decide +kernel
theorem dX9_back_14 : decode cX9_back 14 = .ok (.aaload, 1) := by decide +kernel
theorem dX9_back_15 : decode cX9_back 15 = .ok (.invokevirtual 247, 3) := by decide +kernel
theorem dX9_back_18 : decode cX9_back 18 = .ok (.ifCond .ne 6, 3) := by decide +kernel
theorem dX9_back_21 : decode cX9_back 21 = .ok (.bipush (-2), 2) := by decide +kernel
theorem dX9_back_23 : decode cX9_back 23 = .ok (.ireturn, 1) := by decide +kernel
theorem dX9_back_24 : decode cX9_back 24 = .ok (.aload_n 0, 1) := by decide +kernel
theorem dX9_back_25 : decode cX9_back 25 = .ok (.getfield 50, 3) := by decide +kernel
theorem dX9_back_28 : decode cX9_back 28 = .ok (.iload_n 1, 1) := by decide +kernel
theorem dX9_back_29 : decode cX9_back 29 = .ok (.aaload, 1) := by decide +kernel
theorem dX9_back_30 : decode cX9_back 30 = .ok (.aload_n 0, 1) := by decide +kernel
theorem dX9_back_31 : decode cX9_back 31 = .ok (.getfield 37, 3) := by decide +kernel
theorem dX9_back_34 : decode cX9_back 34 = .ok (.invokevirtual 250, 3) := by decide +kernel
theorem dX9_back_37 : decode cX9_back 37 = .ok (.aload_n 0, 1) := by decide +kernel
theorem dX9_back_38 : decode cX9_back 38 = .ok (.getfield 44, 3) := by decide +kernel
theorem dX9_back_41 : decode cX9_back 41 = .ok (.invokevirtual 107, 3) := by decide +kernel
theorem dX9_back_44 : decode cX9_back 44 = .ok (.aload_n 0, 1) := by decide +kernel
theorem dX9_back_45 : decode cX9_back 45 = .ok (.getfield 37, 3) := by decide +kernel
theorem dX9_back_48 : decode cX9_back 48 = .ok (.invokevirtual 164, 3) := by decide +kernel
theorem dX9_back_51 : decode cX9_back 51 = .ok (.ireturn, 1) := by decide +kernel
set_option maxRecDepth 20000 in
theorem ggX9_count_X1_size : GoodIn wsX9_count wsX1_size := goodIn_r _ [8, 9, 44, 45, 46, 47, 48] (by decide +kernel) (by decide +kernel)
set_option maxRecDepth 20000 in
theorem gX9_count_X1_size : GoodIn wsX9_count (wsV RX9 253 RX1 yX1_size wsX1_size) := goodIn_app (goodIn_of _ (by decide +kernel)) ggX9_count_X1_size
set_option maxRecDepth 20000 in
theorem ggX9_count_X1_littleOnes : GoodIn wsX9_count wsX1_littleOnes := goodIn_r _ [13, 14, 44, 45, 46, 47, 48] (by decide +kernel) (by decide +kernel)
set_option maxRecDepth 20000 in
theorem gX9_count_X1_littleOnes : GoodIn wsX9_count (wsV RX9 254 RX1 yX1_littleOnes wsX1_littleOnes) := goodIn_app (goodIn_of _ (by decide +kernel)) ggX9_count_X1_littleOnes
set_option maxRecDepth 20000 in
theorem ggX9_count_J6_bitCount_0f7a4 : GoodIn wsX9_count wsJ6_bitCount_0f7a4 := goodIn_r _ [18, 19, 20, 21] (by decide +kernel) (by decide +kernel)
set_option maxRecDepth 20000 in
theorem gX9_count_J6_bitCount_0f7a4 : GoodIn wsX9_count (va_wsS RX9 257 yJ6_bitCount_0f7a4 wsJ6_bitCount_0f7a4) := goodIn_app (goodIn_of _ (by decide +kernel)) ggX9_count_J6_bitCount_0f7a4
set_option maxRecDepth 20000 in
theorem ggX9_count_X6_howManyIn : GoodIn wsX9_count wsX6_howManyIn := goodIn_r _ [26, 27, 28, 16, 17, 18, 19, 20, 21, 49, 50, 51, 52] (by decide +kernel) (by decide +kernel)
set_option maxRecDepth 20000 in
theorem gX9_count_X6_howManyIn : GoodIn wsX9_count (wsV RX9 164 RX6 yX6_howManyIn wsX6_howManyIn) := goodIn_app (goodIn_of _ (by decide +kernel)) ggX9_count_X6_howManyIn
set_option maxRecDepth 20000 in
theorem ggX9_count_X8_length : GoodIn wsX9_count wsX8_length := goodIn_r _ [33, 34, 53, 54] (by decide +kernel) (by decide +kernel)
set_option maxRecDepth 20000 in
theorem gX9_count_X8_length : GoodIn wsX9_count (wsV RX9 80 RX8 yX8_length wsX8_length) := goodIn_app (goodIn_of _ (by decide +kernel)) ggX9_count_X8_length
theorem dX9_count_0 : decode cX9_count 0 = .ok (.iload_n 1, 1) := by decide +kernel
theorem dX9_count_1 : decode cX9_count 1 = .ok (.tableswitch 66 0 3 #[31, 39, 50, 58], 31) := by decide +kernel
theorem dX9_count_32 : decode cX9_count 32 = .ok (.aload_n 0, 1) := by decide +kernel
theorem dX9_count_33 : decode cX9_count 33 = .ok (.getfield 28, 3) := by decide +kernel
theorem dX9_count_36 : decode cX9_count 36 = .ok (.invokevirtual 253, 3) := by decide +kernel
theorem dX9_count_39 : decode cX9_count 39 = .ok (.ireturn, 1) := by decide +kernel
theorem dX9_count_40 : decode cX9_count 40 = .ok (.aload_n 0, 1) := by decide +kernel
theorem dX9_count_41 : decode cX9_count 41 = .ok (.getfield 28, 3) := by decide +kernel
theorem dX9_count_44 : decode cX9_count 44 = .ok (.invokevirtual 254, 3) := by decide +kernel
theorem dX9_count_47 : decode cX9_count 47 = .ok (.invokestatic 257, 3) := by decide +kernel
theorem dX9_count_50 : decode cX9_count 50 = .ok (.ireturn, 1) := by decide +kernel
theorem dX9_count_51 : decode cX9_count 51 = .ok (.aload_n 0, 1) := by decide +kernel
theorem dX9_count_52 : decode cX9_count 52 = .ok (.getfield 37, 3) := by decide +kernel
theorem dX9_count_55 : decode cX9_count 55 = .ok (.invokevirtual 164, 3) := by decide +kernel
theorem dX9_count_58 : decode cX9_count 58 = .ok (.ireturn, 1) := by decide +kernel
theorem dX9_count_59 : decode cX9_count 59 = .ok (.aload_n 0, 1) := by decide +kernel
theorem dX9_count_60 : decode cX9_count 60 = .ok (.getfield 10, 3) := by decide +kernel
theorem dX9_count_63 : decode cX9_count 63 = .ok (.invokevirtual 80, 3) := by decide +kernel
theorem dX9_count_66 : decode cX9_count 66 = .ok (.ireturn, 1) := by decide +kernel
theorem dX9_count_67 : decode cX9_count 67 = .ok (.iconst (-1), 1) := by decide +kernel
theorem dX9_count_68 : decode cX9_count 68 = .ok (.ireturn, 1) := by decide +kernel
set_option maxRecDepth 20000 in
theorem ggX9_trace_X4_theTrace : GoodIn wsX9_trace wsX4_theTrace := goodIn_r _ [6, 7, 17, 18, 19] (by decide +kernel) (by decide +kernel)
set_option maxRecDepth 20000 in
theorem gX9_trace_X4_theTrace : GoodIn wsX9_trace (wsV RX9 262 RX4 yX4_theTrace wsX4_theTrace) := goodIn_app (goodIn_of _ (by decide +kernel)) ggX9_trace_X4_theTrace
theorem dX9_trace_0 : decode cX9_trace 0 = .ok (.aload_n 0, 1) := by decide +kernel
theorem dX9_trace_1 : decode cX9_trace 1 = .ok (.getfield 76, 3) := by decide +kernel
theorem dX9_trace_4 : decode cX9_trace 4 = .ok (.invokevirtual 262, 3) := by decide +kernel
theorem dX9_trace_7 : decode cX9_trace 7 = .ok (.lreturn, 1) := by decide +kernel
theorem dX9_isOrder_0 : decode cX9_isOrder 0 = .ok (.iload_n 0, 1) := by decide +kernel
theorem dX9_isOrder_1 : decode cX9_isOrder 1 = .ok (.iconst 1, 1) := by decide +kernel
theorem dX9_isOrder_2 : decode cX9_isOrder 2 = .ok (.if_icmp .lt 12, 3) := by decide +kernel
theorem dX9_isOrder_5 : decode cX9_isOrder 5 = .ok (.iload_n 0, 1) := by decide +kernel
theorem dX9_isOrder_6 : decode cX9_isOrder 6 = .ok (.iconst 4, 1) := by decide +kernel
theorem dX9_isOrder_7 : decode cX9_isOrder 7 = .ok (.if_icmp .gt 7, 3) := by decide +kernel
theorem dX9_isOrder_10 : decode cX9_isOrder 10 = .ok (.iconst 1, 1) := by decide +kernel
theorem dX9_isOrder_11 : decode cX9_isOrder 11 = .ok (.goto 4, 3) := by decide +kernel
theorem dX9_isOrder_14 : decode cX9_isOrder 14 = .ok (.iconst 0, 1) := by decide +kernel
theorem dX9_isOrder_15 : decode cX9_isOrder 15 = .ok (.ireturn, 1) := by decide +kernel
theorem dX9_isImage_0 : decode cX9_isImage 0 = .ok (.iload_n 0, 1) := by decide +kernel
theorem dX9_isImage_1 : decode cX9_isImage 1 = .ok (.ifCond .lt 12, 3) := by decide +kernel
theorem dX9_isImage_4 : decode cX9_isImage 4 = .ok (.iload_n 0, 1) := by decide +kernel
theorem dX9_isImage_5 : decode cX9_isImage 5 = .ok (.iconst 2, 1) := by decide +kernel
theorem dX9_isImage_6 : decode cX9_isImage 6 = .ok (.if_icmp .ge 7, 3) := by decide +kernel
theorem dX9_isImage_9 : decode cX9_isImage 9 = .ok (.iconst 1, 1) := by decide +kernel
theorem dX9_isImage_10 : decode cX9_isImage 10 = .ok (.goto 4, 3) := by decide +kernel
theorem dX9_isImage_13 : decode cX9_isImage 13 = .ok (.iconst 0, 1) := by decide +kernel
theorem dX9_isImage_14 : decode cX9_isImage 14 = .ok (.ireturn, 1) := by decide +kernel
theorem dX9_isHalf_0 : decode cX9_isHalf 0 = .ok (.iload_n 0, 1) := by decide +kernel
theorem dX9_isHalf_1 : decode cX9_isHalf 1 = .ok (.ifCond .eq 8, 3) := by decide +kernel
theorem dX9_isHalf_4 : decode cX9_isHalf 4 = .ok (.iload_n 0, 1) := by decide +kernel
theorem dX9_isHalf_5 : decode cX9_isHalf 5 = .ok (.iconst 1, 1) := by decide +kernel
theorem dX9_isHalf_6 : decode cX9_isHalf 6 = .ok (.if_icmp .ne 7, 3) := by decide +kernel
theorem dX9_isHalf_9 : decode cX9_isHalf 9 = .ok (.iconst 1, 1) := by decide +kernel
theorem dX9_isHalf_10 : decode cX9_isHalf 10 = .ok (.goto 4, 3) := by decide +kernel
theorem dX9_isHalf_13 : decode cX9_isHalf 13 = .ok (.iconst 0, 1) := by decide +kernel
theorem dX9_isHalf_14 : decode cX9_isHalf 14 = .ok (.ireturn, 1) := by decide +kernel
theorem dX9_streakBehind_0 : decode cX9_streakBehind 0 = .ok (.iload_n 0, 1) := by decide +kernel
theorem dX9_streakBehind_1 : decode cX9_streakBehind 1 = .ok (.iconst 1, 1) := by decide +kernel
theorem dX9_streakBehind_2 : decode cX9_streakBehind 2 = .ok (.if_icmp .eq 8, 3) := by decide +kernel
theorem dX9_streakBehind_5 : decode cX9_streakBehind 5 = .ok (.iload_n 0, 1) := by decide +kernel
theorem dX9_streakBehind_6 : decode cX9_streakBehind 6 = .ok (.iconst 4, 1) := by decide +kernel
theorem dX9_streakBehind_7 : decode cX9_streakBehind 7 = .ok (.if_icmp .ne 14, 3) := by decide +kernel
theorem dX9_streakBehind_10 : decode cX9_streakBehind 10 = .ok (.bipush 9, 2) := by decide +kernel
theorem dX9_streakBehind_12 : decode cX9_streakBehind 12 = .ok (.iload_n 1, 1) := by decide +kernel
theorem dX9_streakBehind_13 : decode cX9_streakBehind 13 = .ok (.iconst 1, 1) := by decide +kernel
theorem dX9_streakBehind_14 : decode cX9_streakBehind 14 = .ok (.iadd, 1) := by decide +kernel
theorem dX9_streakBehind_15 : decode cX9_streakBehind 15 = .ok (.invokestatic 265, 3) := by decide +kernel
theorem dX9_streakBehind_18 : decode cX9_streakBehind 18 = .ok (.goto 4, 3) := by decide +kernel
theorem dX9_streakBehind_21 : decode cX9_streakBehind 21 = .ok (.iconst 0, 1) := by decide +kernel
theorem dX9_streakBehind_22 : decode cX9_streakBehind 22 = .ok (.ireturn, 1) := by decide +kernel
theorem dX9_powerOfTen_0 : decode cX9_powerOfTen 0 = .ok (.lconst 1, 1) := by decide +kernel
theorem dX9_powerOfTen_1 : decode cX9_powerOfTen 1 = .ok (.lstore_n 1, 1) := by decide +kernel
theorem dX9_powerOfTen_2 : decode cX9_powerOfTen 2 = .ok (.iconst 0, 1) := by decide +kernel
theorem dX9_powerOfTen_3 : decode cX9_powerOfTen 3 = .ok (.istore_n 3, 1) := by decide +kernel
theorem dX9_powerOfTen_4 : decode cX9_powerOfTen 4 = .ok (.iload_n 3, 1) := by decide +kernel
theorem dX9_powerOfTen_5 : decode cX9_powerOfTen 5 = .ok (.iload_n 0, 1) := by decide +kernel
theorem dX9_powerOfTen_6 : decode cX9_powerOfTen 6 = .ok (.if_icmp .ge 15, 3) := by decide +kernel
theorem dX9_powerOfTen_9 : decode cX9_powerOfTen 9 = .ok (.lload_n 1, 1) := by decide +kernel
theorem dX9_powerOfTen_10 : decode cX9_powerOfTen 10 = .ok (.ldc2_w 270, 3) := by decide +kernel
theorem dX9_powerOfTen_13 : decode cX9_powerOfTen 13 = .ok (.lmul, 1) := by decide +kernel
theorem dX9_powerOfTen_14 : decode cX9_powerOfTen 14 = .ok (.lstore_n 1, 1) := by decide +kernel
theorem dX9_powerOfTen_15 : decode cX9_powerOfTen 15 = .ok (.iinc 3 1, 3) := by decide +kernel
theorem dX9_powerOfTen_18 : decode cX9_powerOfTen 18 = .ok (.goto (-14), 3) := by decide +kernel
theorem dX9_powerOfTen_21 : decode cX9_powerOfTen 21 = .ok (.lload_n 1, 1) := by decide +kernel
theorem dX9_powerOfTen_22 : decode cX9_powerOfTen 22 = .ok (.lreturn, 1) := by decide +kernel
set_option maxRecDepth 20000 in
theorem ggX9_leastTerms_X9_greatestDivisor : GoodIn wsX9_leastTerms wsX9_greatestDivisor := goodIn_r _ [4] (by decide +kernel) (by decide +kernel)
set_option maxRecDepth 20000 in
theorem gX9_leastTerms_X9_greatestDivisor : GoodIn wsX9_leastTerms (va_wsS RX9 272 yX9_greatestDivisor wsX9_greatestDivisor) := goodIn_app (goodIn_of _ (by decide +kernel)) ggX9_leastTerms_X9_greatestDivisor
theorem dX9_leastTerms_0 : decode cX9_leastTerms 0 = .ok (.lload_n 0, 1) := by decide +kernel
theorem dX9_leastTerms_1 : decode cX9_leastTerms 1 = .ok (.lload_n 2, 1) := by decide +kernel
theorem dX9_leastTerms_2 : decode cX9_leastTerms 2 = .ok (.invokestatic 272, 3) := by decide +kernel
theorem dX9_leastTerms_5 : decode cX9_leastTerms 5 = .ok (.lstore 5, 2) := by decide +kernel
theorem dX9_leastTerms_7 : decode cX9_leastTerms 7 = .ok (.iload 4, 2) := by decide +kernel
theorem dX9_leastTerms_9 : decode cX9_leastTerms 9 = .ok (.ifCond .ne 7, 3) := by decide +kernel
theorem dX9_leastTerms_12 : decode cX9_leastTerms 12 = .ok (.lload_n 0, 1) := by decide +kernel
theorem dX9_leastTerms_13 : decode cX9_leastTerms 13 = .ok (.goto 4, 3) := by decide +kernel
theorem dX9_leastTerms_16 : decode cX9_leastTerms 16 = .ok (.lload_n 2, 1) := by decide +kernel
theorem dX9_leastTerms_17 : decode cX9_leastTerms 17 = .ok (.lstore 7, 2) := by decide +kernel
theorem dX9_leastTerms_19 : decode cX9_leastTerms 19 = .ok (.lload 5, 2) := by decide +kernel
theorem dX9_leastTerms_21 : decode cX9_leastTerms 21 = .ok (.lconst 1, 1) := by decide +kernel
theorem dX9_leastTerms_22 : decode cX9_leastTerms 22 = .ok (.lcmp, 1) := by decide +kernel
theorem dX9_leastTerms_23 : decode cX9_leastTerms 23 = .ok (.ifCond .le 11, 3) := by decide +kernel
theorem dX9_leastTerms_26 : decode cX9_leastTerms 26 = .ok (.lload 7, 2) := by decide +kernel
theorem dX9_leastTerms_28 : decode cX9_leastTerms 28 = .ok (.lload 5, 2) := by decide +kernel
theorem dX9_leastTerms_30 : decode cX9_leastTerms 30 = .ok (.ldiv, 1) := by decide +kernel
theorem dX9_leastTerms_31 : decode cX9_leastTerms 31 = .ok (.goto 5, 3) := by decide +kernel
theorem dX9_leastTerms_34 : decode cX9_leastTerms 34 = .ok (.lload 7, 2) := by decide +kernel
theorem dX9_leastTerms_36 : decode cX9_leastTerms 36 = .ok (.lreturn, 1) := by decide +kernel
theorem dX9_greatestDivisor_0 : decode cX9_greatestDivisor 0 = .ok (.lload_n 0, 1) := by decide +kernel
theorem dX9_greatestDivisor_1 : decode cX9_greatestDivisor 1 = .ok (.lstore 4, 2) := by decide +kernel
theorem dX9_greatestDivisor_3 : decode cX9_greatestDivisor 3 = .ok (.lload_n 2, 1) := by decide +kernel
theorem dX9_greatestDivisor_4 : decode cX9_greatestDivisor 4 = .ok (.lstore 6, 2) := by decide +kernel
theorem dX9_greatestDivisor_6 : decode cX9_greatestDivisor 6 = .ok (.iconst 0, 1) := by decide +kernel
theorem dX9_greatestDivisor_7 : decode cX9_greatestDivisor 7 = .ok (.istore 8, 2) := by decide +kernel
theorem dX9_greatestDivisor_9 : decode cX9_greatestDivisor 9 = .ok (.iload 8, 2) := by decide +kernel
theorem dX9_greatestDivisor_11 : decode cX9_greatestDivisor 11 = .ok (.sipush 200, 3) := by decide +kernel
theorem dX9_greatestDivisor_14 : decode cX9_greatestDivisor 14 = .ok (.if_icmp .ge 31, 3) := by decide +kernel
theorem dX9_greatestDivisor_17 : decode cX9_greatestDivisor 17 = .ok (.lload 6, 2) := by decide +kernel
theorem dX9_greatestDivisor_19 : decode cX9_greatestDivisor 19 = .ok (.lconst 0, 1) := by decide +kernel
theorem dX9_greatestDivisor_20 : decode cX9_greatestDivisor 20 = .ok (.lcmp, 1) := by decide +kernel
theorem dX9_greatestDivisor_21 : decode cX9_greatestDivisor 21 = .ok (.ifCond .eq 24, 3) := by decide +kernel
theorem dX9_greatestDivisor_24 : decode cX9_greatestDivisor 24 = .ok (.lload 4, 2) := by decide +kernel
theorem dX9_greatestDivisor_26 : decode cX9_greatestDivisor 26 = .ok (.lload 6, 2) := by decide +kernel
theorem dX9_greatestDivisor_28 : decode cX9_greatestDivisor 28 = .ok (.lrem, 1) := by decide +kernel
theorem dX9_greatestDivisor_29 : decode cX9_greatestDivisor 29 = .ok (.lstore 9, 2) := by decide +kernel
theorem dX9_greatestDivisor_31 : decode cX9_greatestDivisor 31 = .ok (.lload 6, 2) := by decide +kernel
theorem dX9_greatestDivisor_33 : decode cX9_greatestDivisor 33 = .ok (.lstore 4, 2) := by decide +kernel
theorem dX9_greatestDivisor_35 : decode cX9_greatestDivisor 35 = .ok (.lload 9, 2) := by decide +kernel
theorem dX9_greatestDivisor_37 : decode cX9_greatestDivisor 37 = .ok (.lstore 6, 2) := by decide +kernel
theorem dX9_greatestDivisor_39 : decode cX9_greatestDivisor 39 = .ok (.iinc 8 1, 3) := by decide +kernel
theorem dX9_greatestDivisor_42 : decode cX9_greatestDivisor 42 = .ok (.goto (-33), 3) := by decide +kernel
theorem dX9_greatestDivisor_45 : decode cX9_greatestDivisor 45 = .ok (.lload 4, 2) := by decide +kernel
theorem dX9_greatestDivisor_47 : decode cX9_greatestDivisor 47 = .ok (.lreturn, 1) := by decide +kernel
