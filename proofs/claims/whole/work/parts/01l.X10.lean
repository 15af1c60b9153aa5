theorem dX10_init_0 : decode cX10_init 0 = .ok (.aload_n 0, 1) := by decide +kernel
theorem dX10_init_1 : decode cX10_init 1 = .ok (.invokespecial 1, 3) := by decide +kernel
theorem dX10_init_4 : decode cX10_init 4 = .ok (.aload_n 0, 1) := by decide +kernel
theorem dX10_init_5 : decode cX10_init 5 = .ok (.sipush 200, 3) := by decide +kernel
theorem dX10_init_8 : decode cX10_init 8 = .ok (.newarray .int, 2) := by decide +kernel
theorem dX10_init_10 : decode cX10_init 10 = .ok (.putfield 7, 3) := by decide +kernel
theorem dX10_init_13 : decode cX10_init 13 = .ok (.aload_n 0, 1) := by decide +kernel
theorem dX10_init_14 : decode cX10_init 14 = .ok (.bipush 6, 2) := by decide +kernel
theorem dX10_init_16 : decode cX10_init 16 = .ok (.newarray .int, 2) := by decide +kernel
theorem dX10_init_18 : decode cX10_init 18 = .ok (.putfield 13, 3) := by decide +kernel
theorem dX10_init_21 : decode cX10_init 21 = .ok (.aload_n 0, 1) := by decide +kernel
theorem dX10_init_22 : decode cX10_init 22 = .ok (.bipush 6, 2) := by decide +kernel
theorem dX10_init_24 : decode cX10_init 24 = .ok (.newarray .int, 2) := by decide +kernel
theorem dX10_init_26 : decode cX10_init 26 = .ok (.putfield 16, 3) := by decide +kernel
theorem dX10_init_29 : decode cX10_init 29 = .ok (.aload_n 0, 1) := by decide +kernel
theorem dX10_init_30 : decode cX10_init 30 = .ok (.bipush 6, 2) := by decide +kernel
theorem dX10_init_32 : decode cX10_init 32 = .ok (.newarray .int, 2) := by decide +kernel
theorem dX10_init_34 : decode cX10_init 34 = .ok (.putfield 19, 3) := by decide +kernel
theorem dX10_init_37 : decode cX10_init 37 = .ok (.aload_n 0, 1) := by decide +kernel
theorem dX10_init_38 : decode cX10_init 38 = .ok (.iconst 1, 1) := by decide +kernel
theorem dX10_init_39 : decode cX10_init 39 = .ok (.putfield 22, 3) := by decide +kernel
theorem dX10_init_42 : decode cX10_init 42 = .ok (.aload_n 0, 1) := by decide +kernel
theorem dX10_init_43 : decode cX10_init 43 = .ok (.bipush 24, 2) := by decide +kernel
theorem dX10_init_45 : decode cX10_init 45 = .ok (.newarray .int, 2) := by decide +kernel
theorem dX10_init_47 : decode cX10_init 47 = .ok (.putfield 26, 3) := by decide +kernel
theorem dX10_init_50 : decode cX10_init 50 = .ok (.aload_n 0, 1) := by decide +kernel
theorem dX10_init_51 : decode cX10_init 51 = .ok (.bipush 6, 2) := by decide +kernel
theorem dX10_init_53 : decode cX10_init 53 = .ok (.newarray .int, 2) := by decide +kernel
theorem dX10_init_55 : decode cX10_init 55 = .ok (.putfield 29, 3) := by decide +kernel
theorem dX10_init_58 : decode cX10_init 58 = .ok (.aload_n 0, 1) := by decide +kernel
theorem dX10_init_59 : decode cX10_init 59 = .ok (.iconst 2, 1) := by decide +kernel
theorem dX10_init_60 : decode cX10_init 60 = .ok (.newarray .boolean, 2) := by decide +kernel
theorem dX10_init_62 : decode cX10_init 62 = .ok (.putfield 32, 3) := by decide +kernel
theorem dX10_init_65 : decode cX10_init 65 = .ok (.aload_n 0, 1) := by decide +kernel
theorem dX10_init_66 : decode cX10_init 66 = .ok (.bipush 18, 2) := by decide +kernel
theorem dX10_init_68 : decode cX10_init 68 = .ok (.newarray .int, 2) := by decide +kernel
theorem dX10_init_70 : decode cX10_init 70 = .ok (.putfield 36, 3) := by decide +kernel
theorem dX10_init_73 : decode cX10_init 73 = .ok (.return_, 1) := by decide +kernel
theorem dX10_within_0 : decode cX10_within 0 = .ok (.lload_n 0, 1) := by decide +kernel
theorem dX10_within_1 : decode cX10_within 1 = .ok (.lload_n 2, 1) := by decide +kernel
theorem dX10_within_2 : decode cX10_within 2 = .ok (.lcmp, 1) := by decide +kernel
theorem dX10_within_3 : decode cX10_within 3 = .ok (.ifCond .lt 14, 3) := by decide +kernel
theorem dX10_within_6 : decode cX10_within 6 = .ok (.lload_n 0, 1) := by decide +kernel
theorem dX10_within_7 : decode cX10_within 7 = .ok (.lload 4, 2) := by decide +kernel
theorem dX10_within_9 : decode cX10_within 9 = .ok (.lcmp, 1) := by decide +kernel
theorem dX10_within_10 : decode cX10_within 10 = .ok (.ifCond .gt 7, 3) := by decide +kernel
theorem dX10_within_13 : decode cX10_within 13 = .ok (.iconst 1, 1) := by decide +kernel
theorem dX10_within_14 : decode cX10_within 14 = .ok (.goto 4, 3) := by decide +kernel
theorem dX10_within_17 : decode cX10_within 17 = .ok (.iconst 0, 1) := by decide +kernel
theorem dX10_within_18 : decode cX10_within 18 = .ok (.ireturn, 1) := by decide +kernel
theorem dX10_has_0 : decode cX10_has 0 = .ok (.iload_n 0, 1) := by decide +kernel
theorem dX10_has_1 : decode cX10_has 1 = .ok (.iload_n 1, 1) := by decide +kernel
theorem dX10_has_2 : decode cX10_has 2 = .ok (.ishr, 1) := by decide +kernel
theorem dX10_has_3 : decode cX10_has 3 = .ok (.iconst 1, 1) := by decide +kernel
theorem dX10_has_4 : decode cX10_has 4 = .ok (.iand, 1) := by decide +kernel
theorem dX10_has_5 : decode cX10_has 5 = .ok (.iconst 1, 1) := by decide +kernel
theorem dX10_has_6 : decode cX10_has 6 = .ok (.if_icmp .ne 7, 3) := by decide +kernel
theorem dX10_has_9 : decode cX10_has 9 = .ok (.iconst 1, 1) := by decide +kernel
theorem dX10_has_10 : decode cX10_has 10 = .ok (.goto 4, 3) := by decide +kernel
theorem dX10_has_13 : decode cX10_has 13 = .ok (.iconst 0, 1) := by decide +kernel
theorem dX10_has_14 : decode cX10_has 14 = .ok (.ireturn, 1) := by decide +kernel
theorem dX10_bits_0 : decode cX10_bits 0 = .ok (.iconst 0, 1) := by decide +kernel
theorem dX10_bits_1 : decode cX10_bits 1 = .ok (.istore_n 1, 1) := by decide +kernel
theorem dX10_bits_2 : decode cX10_bits 2 = .ok (.iload_n 0, 1) := by decide +kernel
theorem dX10_bits_3 : decode cX10_bits 3 = .ok (.istore_n 2, 1) := by decide +kernel
theorem dX10_bits_4 : decode cX10_bits 4 = .ok (.iload_n 2, 1) := by decide +kernel
theorem dX10_bits_5 : decode cX10_bits 5 = .ok (.ifCond .eq 15, 3) := by decide +kernel
theorem dX10_bits_8 : decode cX10_bits 8 = .ok (.iinc 1 1, 3) := by decide +kernel
theorem dX10_bits_11 : decode cX10_bits 11 = .ok (.iload_n 2, 1) := by decide +kernel
theorem dX10_bits_12 : decode cX10_bits 12 = .ok (.iload_n 2, 1) := by decide +kernel
theorem dX10_bits_13 : decode cX10_bits 13 = .ok (.iconst 1, 1) := by decide +kernel
theorem dX10_bits_14 : decode cX10_bits 14 = .ok (.isub, 1) := by decide +kernel
theorem dX10_bits_15 : decode cX10_bits 15 = .ok (.iand, 1) := by decide +kernel
theorem dX10_bits_16 : decode cX10_bits 16 = .ok (.istore_n 2, 1) := by decide +kernel
theorem dX10_bits_17 : decode cX10_bits 17 = .ok (.goto (-13), 3) := by decide +kernel
theorem dX10_bits_20 : decode cX10_bits 20 = .ok (.iload_n 1, 1) := by decide +kernel
theorem dX10_bits_21 : decode cX10_bits 21 = .ok (.ireturn, 1) := by decide +kernel
set_option maxRecDepth 20000 in
theorem ggX10_isChild_X10_within : GoodIn wsX10_isChild wsX10_within := goodIn_r _ [5] (by decide +kernel) (by decide +kernel)
set_option maxRecDepth 20000 in
theorem gX10_isChild_X10_within : GoodIn wsX10_isChild (va_wsS RX10 42 yX10_within wsX10_within) := goodIn_app (goodIn_of _ (by decide +kernel)) ggX10_isChild_X10_within
theorem dX10_isChild_0 : decode cX10_isChild 0 = .ok (.iload_n 1, 1) := by decide +kernel
theorem dX10_isChild_1 : decode cX10_isChild 1 = .ok (.i2l, 1) := by decide +kernel
theorem dX10_isChild_2 : decode cX10_isChild 2 = .ok (.lconst 0, 1) := by decide +kernel
theorem dX10_isChild_3 : decode cX10_isChild 3 = .ok (.aload_n 0, 1) := by decide +kernel
theorem dX10_isChild_4 : decode cX10_isChild 4 = .ok (.getfield 39, 3) := by decide +kernel
theorem dX10_isChild_7 : decode cX10_isChild 7 = .ok (.iconst 1, 1) := by decide +kernel
theorem dX10_isChild_8 : decode cX10_isChild 8 = .ok (.isub, 1) := by decide +kernel
theorem dX10_isChild_9 : decode cX10_isChild 9 = .ok (.i2l, 1) := by decide +kernel
theorem dX10_isChild_10 : decode cX10_isChild 10 = .ok (.invokestatic 42, 3) := by decide +kernel
theorem dX10_isChild_13 : decode cX10_isChild 13 = .ok (.ireturn, 1) := by decide +kernel
set_option maxRecDepth 20000 in
theorem ggX10_isOrder_X10_within : GoodIn wsX10_isOrder wsX10_within := goodIn_r _ [5] (by decide +kernel) (by decide +kernel)
set_option maxRecDepth 20000 in
theorem gX10_isOrder_X10_within : GoodIn wsX10_isOrder (va_wsS RX10 42 yX10_within wsX10_within) := goodIn_app (goodIn_of _ (by decide +kernel)) ggX10_isOrder_X10_within
theorem dX10_isOrder_0 : decode cX10_isOrder 0 = .ok (.iload_n 0, 1) := by decide +kernel
theorem dX10_isOrder_1 : decode cX10_isOrder 1 = .ok (.i2l, 1) := by decide +kernel
theorem dX10_isOrder_2 : decode cX10_isOrder 2 = .ok (.lconst 1, 1) := by decide +kernel
theorem dX10_isOrder_3 : decode cX10_isOrder 3 = .ok (.ldc2_w 46, 3) := by decide +kernel
theorem dX10_isOrder_6 : decode cX10_isOrder 6 = .ok (.invokestatic 42, 3) := by decide +kernel
theorem dX10_isOrder_9 : decode cX10_isOrder 9 = .ok (.ireturn, 1) := by decide +kernel
set_option maxRecDepth 20000 in
theorem ggX10_isSet_X10_within : GoodIn wsX10_isSet wsX10_within := goodIn_r _ [5] (by decide +kernel) (by decide +kernel)
set_option maxRecDepth 20000 in
theorem gX10_isSet_X10_within : GoodIn wsX10_isSet (va_wsS RX10 42 yX10_within wsX10_within) := goodIn_app (goodIn_of _ (by decide +kernel)) ggX10_isSet_X10_within
theorem dX10_isSet_0 : decode cX10_isSet 0 = .ok (.iload_n 1, 1) := by decide +kernel
theorem dX10_isSet_1 : decode cX10_isSet 1 = .ok (.i2l, 1) := by decide +kernel
theorem dX10_isSet_2 : decode cX10_isSet 2 = .ok (.lconst 0, 1) := by decide +kernel
theorem dX10_isSet_3 : decode cX10_isSet 3 = .ok (.iconst 1, 1) := by decide +kernel
theorem dX10_isSet_4 : decode cX10_isSet 4 = .ok (.aload_n 0, 1) := by decide +kernel
theorem dX10_isSet_5 : decode cX10_isSet 5 = .ok (.getfield 39, 3) := by decide +kernel
theorem dX10_isSet_8 : decode cX10_isSet 8 = .ok (.ishl, 1) := by decide +kernel
theorem dX10_isSet_9 : decode cX10_isSet 9 = .ok (.iconst 1, 1) := by decide +kernel
theorem dX10_isSet_10 : decode cX10_isSet 10 = .ok (.isub, 1) := by decide +kernel
theorem dX10_isSet_11 : decode cX10_isSet 11 = .ok (.i2l, 1) := by decide +kernel
theorem dX10_isSet_12 : decode cX10_isSet 12 = .ok (.invokestatic 42, 3) := by decide +kernel
theorem dX10_isSet_15 : decode cX10_isSet 15 = .ok (.ireturn, 1) := by decide +kernel
set_option maxRecDepth 20000 in
theorem ggX10_type_X10_within : GoodIn wsX10_type wsX10_within := goodIn_r _ [8] (by decide +kernel) (by decide +kernel)
set_option maxRecDepth 20000 in
theorem gX10_type_X10_within : GoodIn wsX10_type (va_wsS RX10 42 yX10_within wsX10_within) := goodIn_app (goodIn_of _ (by decide +kernel)) ggX10_type_X10_within
theorem dX10_type_0 : decode cX10_type 0 = .ok (.iload_n 3, 1) := by decide +kernel
theorem dX10_type_1 : decode cX10_type 1 = .ok (.i2l, 1) := by decide +kernel
theorem dX10_type_2 : decode cX10_type 2 = .ok (.lconst 1, 1) := by decide +kernel
theorem dX10_type_3 : decode cX10_type 3 = .ok (.ldc2_w 48, 3) := by decide +kernel
theorem dX10_type_6 : decode cX10_type 6 = .ok (.invokestatic 42, 3) := by decide +kernel
theorem dX10_type_9 : decode cX10_type 9 = .ok (.ifCond .ne 5, 3) := by decide +kernel
theorem dX10_type_12 : decode cX10_type 12 = .ok (.iconst (-1), 1) := by decide +kernel
theorem dX10_type_13 : decode cX10_type 13 = .ok (.ireturn, 1) := by decide +kernel
theorem dX10_type_14 : decode cX10_type 14 = .ok (.aload_n 0, 1) := by decide +kernel
theorem dX10_type_15 : decode cX10_type 15 = .ok (.getfield 50, 3) := by decide +kernel
theorem dX10_type_18 : decode cX10_type 18 = .ok (.iload_n 3, 1) := by decide +kernel
theorem dX10_type_19 : decode cX10_type 19 = .ok (.iadd, 1) := by decide +kernel
theorem dX10_type_20 : decode cX10_type 20 = .ok (.sipush 200, 3) := by decide +kernel
theorem dX10_type_23 : decode cX10_type 23 = .ok (.if_icmp .le 6, 3) := by decide +kernel
theorem dX10_type_26 : decode cX10_type 26 = .ok (.bipush (-3), 2) := by decide +kernel
theorem dX10_type_28 : decode cX10_type 28 = .ok (.ireturn, 1) := by decide +kernel
theorem dX10_type_29 : decode cX10_type 29 = .ok (.iload_n 3, 1) := by decide +kernel
theorem dX10_type_30 : decode cX10_type 30 = .ok (.iconst 1, 1) := by decide +kernel
theorem dX10_type_31 : decode cX10_type 31 = .ok (.isub, 1) := by decide +kernel
theorem dX10_type_32 : decode cX10_type 32 = .ok (.istore 4, 2) := by decide +kernel
theorem dX10_type_34 : decode cX10_type 34 = .ok (.iload 4, 2) := by decide +kernel
theorem dX10_type_36 : decode cX10_type 36 = .ok (.ifCond .lt 40, 3) := by decide +kernel
theorem dX10_type_39 : decode cX10_type 39 = .ok (.aload_n 0, 1) := by decide +kernel
theorem dX10_type_40 : decode cX10_type 40 = .ok (.getfield 7, 3) := by decide +kernel
theorem dX10_type_43 : decode cX10_type 43 = .ok (.aload_n 0, 1) := by decide +kernel
theorem dX10_type_44 : decode cX10_type 44 = .ok (.getfield 50, 3) := by decide +kernel
theorem dX10_type_47 : decode cX10_type 47 = .ok (.lload_n 1, 1) := by decide +kernel
theorem dX10_type_48 : decode cX10_type 48 = .ok (.bipush 8, 2) := by decide +kernel
theorem dX10_type_50 : decode cX10_type 50 = .ok (.iload 4, 2) := by decide +kernel
theorem dX10_type_52 : decode cX10_type 52 = .ok (.imul, 1) := by decide +kernel
theorem dX10_type_53 : decode cX10_type 53 = .ok (.lshr, 1) := by decide +kernel
theorem dX10_type_54 : decode cX10_type 54 = .ok (.ldc2_w 53, 3) := by decide +kernel
theorem dX10_type_57 : decode cX10_type 57 = .ok (.land, 1) := by decide +kernel
theorem dX10_type_58 : decode cX10_type 58 = .ok (.l2i, 1) := by decide +kernel
theorem dX10_type_59 : decode cX10_type 59 = .ok (.iastore, 1) := by decide +kernel
theorem dX10_type_60 : decode cX10_type 60 = .ok (.aload_n 0, 1) := by decide +kernel
theorem dX10_type_61 : decode cX10_type 61 = .ok (.dup, 1) := by decide +kernel
theorem dX10_type_62 : decode cX10_type 62 = .ok (.getfield 50, 3) := by decide +kernel
theorem dX10_type_65 : decode cX10_type 65 = .ok (.iconst 1, 1) := by decide +kernel
theorem dX10_type_66 : decode cX10_type 66 = .ok (.iadd, 1) := by decide +kernel
theorem dX10_type_67 : decode cX10_type 67 = .ok (.putfield 50, 3) := by decide +kernel
theorem dX10_type_70 : decode cX10_type 70 = .ok (.iinc 4 (-1), 3) := by decide +kernel
theorem dX10_type_73 : decode cX10_type 73 = .ok (.goto (-39), 3) := by decide +kernel
theorem dX10_type_76 : decode cX10_type 76 = .ok (.aload_n 0, 1) := by decide +kernel
theorem dX10_type_77 : decode cX10_type 77 = .ok (.getfield 50, 3) := by decide +kernel
theorem dX10_type_80 : decode cX10_type 80 = .ok (.ireturn, 1) := by decide +kernel
theorem dX10_clear_0 : decode cX10_clear 0 = .ok (.aload_n 0, 1) := by decide +kernel
theorem dX10_clear_1 : decode cX10_clear 1 = .ok (.getfield 50, 3) := by decide +kernel
theorem dX10_clear_4 : decode cX10_clear 4 = .ok (.istore_n 1, 1) := by decide +kernel
theorem dX10_clear_5 : decode cX10_clear 5 = .ok (.aload_n 0, 1) := by decide +kernel
theorem dX10_clear_6 : decode cX10_clear 6 = .ok (.iconst 0, 1) := by decide +kernel
theorem dX10_clear_7 : decode cX10_clear 7 = .ok (.putfield 50, 3) := by decide +kernel
theorem dX10_clear_10 : decode cX10_clear 10 = .ok (.iload_n 1, 1) := by decide +kernel
theorem dX10_clear_11 : decode cX10_clear 11 = .ok (.ireturn, 1) := by decide +kernel
theorem dX10_isLetter_0 : decode cX10_isLetter 0 = .ok (.iload_n 0, 1) := by decide +kernel
theorem dX10_isLetter_1 : decode cX10_isLetter 1 = .ok (.bipush 96, 2) := by decide +kernel
theorem dX10_isLetter_3 : decode cX10_isLetter 3 = .ok (.if_icmp .le 13, 3) := by decide +kernel
theorem dX10_isLetter_6 : decode cX10_isLetter 6 = .ok (.iload_n 0, 1) := by decide +kernel
theorem dX10_isLetter_7 : decode cX10_isLetter 7 = .ok (.bipush 123, 2) := by decide +kernel
theorem dX10_isLetter_9 : decode cX10_isLetter 9 = .ok (.if_icmp .ge 7, 3) := by decide +kernel
theorem dX10_isLetter_12 : decode cX10_isLetter 12 = .ok (.iconst 1, 1) := by decide +kernel
theorem dX10_isLetter_13 : decode cX10_isLetter 13 = .ok (.goto 4, 3) := by decide +kernel
theorem dX10_isLetter_16 : decode cX10_isLetter 16 = .ok (.iconst 0, 1) := by decide +kernel
theorem dX10_isLetter_17 : decode cX10_isLetter 17 = .ok (.ireturn, 1) := by decide +kernel
theorem dX10_isFigure_0 : decode cX10_isFigure 0 = .ok (.iload_n 0, 1) := by decide +kernel
theorem dX10_isFigure_1 : decode cX10_isFigure 1 = .ok (.bipush 47, 2) := by decide +kernel
theorem dX10_isFigure_3 : decode cX10_isFigure 3 = .ok (.if_icmp .le 13, 3) := by decide +kernel
theorem dX10_isFigure_6 : decode cX10_isFigure 6 = .ok (.iload_n 0, 1) := by decide +kernel
theorem dX10_isFigure_7 : decode cX10_isFigure 7 = .ok (.bipush 58, 2) := by decide +kernel
theorem dX10_isFigure_9 : decode cX10_isFigure 9 = .ok (.if_icmp .ge 7, 3) := by decide +kernel
theorem dX10_isFigure_12 : decode cX10_isFigure 12 = .ok (.iconst 1, 1) := by decide +kernel
theorem dX10_isFigure_13 : decode cX10_isFigure 13 = .ok (.goto 4, 3) := by decide +kernel
theorem dX10_isFigure_16 : decode cX10_isFigure 16 = .ok (.iconst 0, 1) := by decide +kernel
theorem dX10_isFigure_17 : decode cX10_isFigure 17 = .ok (.ireturn, 1) := by decide +kernel
set_option maxRecDepth 20000 in
theorem ggX10_next_X10_isLetter : GoodIn wsX10_next wsX10_isLetter := goodIn_r _ [16] (by decide +kernel) (by decide +kernel)
set_option maxRecDepth 20000 in
theorem gX10_next_X10_isLetter : GoodIn wsX10_next (va_wsS RX10 65 yX10_isLetter wsX10_isLetter) := goodIn_app (goodIn_of _ (by decide +kernel)) ggX10_next_X10_isLetter
set_option maxRecDepth 20000 in
theorem ggX10_next_X10_isFigure : GoodIn wsX10_next wsX10_isFigure := goodIn_r _ [19] (by decide +kernel) (by decide +kernel)
set_option maxRecDepth 20000 in
theorem gX10_next_X10_isFigure : GoodIn wsX10_next (va_wsS RX10 69 yX10_isFigure wsX10_isFigure) := goodIn_app (goodIn_of _ (by decide +kernel)) ggX10_next_X10_isFigure
theorem dX10_next_0 : decode cX10_next 0 = .ok (.aload_n 0, 1) := by decide +kernel
theorem dX10_next_1 : decode cX10_next 1 = .ok (.getfield 55, 3) := by decide +kernel
theorem dX10_next_4 : decode cX10_next 4 = .ok (.aload_n 0, 1) := by decide +kernel
theorem dX10_next_5 : decode cX10_next 5 = .ok (.getfield 50, 3) := by decide +kernel
theorem dX10_next_8 : decode cX10_next 8 = .ok (.if_icmp .ge 30, 3) := by decide +kernel
theorem dX10_next_11 : decode cX10_next 11 = .ok (.aload_n 0, 1) := by decide +kernel
theorem dX10_next_12 : decode cX10_next 12 = .ok (.getfield 7, 3) := by decide +kernel
theorem dX10_next_15 : decode cX10_next 15 = .ok (.aload_n 0, 1) := by decide +kernel
theorem dX10_next_16 : decode cX10_next 16 = .ok (.getfield 55, 3) := by decide +kernel
theorem dX10_next_19 : decode cX10_next 19 = .ok (.iaload, 1) := by decide +kernel
theorem dX10_next_20 : decode cX10_next 20 = .ok (.bipush 32, 2) := by decide +kernel
theorem dX10_next_22 : decode cX10_next 22 = .ok (.if_icmp .ne 16, 3) := by decide +kernel
theorem dX10_next_25 : decode cX10_next 25 = .ok (.aload_n 0, 1) := by decide +kernel
theorem dX10_next_26 : decode cX10_next 26 = .ok (.dup, 1) := by decide +kernel
theorem dX10_next_27 : decode cX10_next 27 = .ok (.getfield 55, 3) := by decide +kernel
theorem dX10_next_30 : decode cX10_next 30 = .ok (.iconst 1, 1) := by decide +kernel
theorem dX10_next_31 : decode cX10_next 31 = .ok (.iadd, 1) := by decide +kernel
theorem dX10_next_32 : decode cX10_next 32 = .ok (.putfield 55, 3) := by decide +kernel
theorem dX10_next_35 : decode cX10_next 35 = .ok (.goto (-35), 3) := by decide +kernel
theorem dX10_next_38 : decode cX10_next 38 = .ok (.aload_n 0, 1) := by decide +kernel
theorem dX10_next_39 : decode cX10_next 39 = .ok (.aload_n 0, 1) := by decide +kernel
theorem dX10_next_40 : decode cX10_next 40 = .ok (.getfield 55, 3) := by decide +kernel
theorem dX10_next_43 : decode cX10_next 43 = .ok (.putfield 58, 3) := by decide +kernel
theorem dX10_next_46 : decode cX10_next 46 = .ok (.aload_n 0, 1) := by decide +kernel
theorem dX10_next_47 : decode cX10_next 47 = .ok (.lconst 0, 1) := by decide +kernel
theorem dX10_next_48 : decode cX10_next 48 = .ok (.putfield 61, 3) := by decide +kernel
theorem dX10_next_51 : decode cX10_next 51 = .ok (.aload_n 0, 1) := by decide +kernel
theorem dX10_next_52 : decode cX10_next 52 = .ok (.getfield 55, 3) := by decide +kernel
theorem dX10_next_55 : decode cX10_next 55 = .ok (.aload_n 0, 1) := by decide +kernel
theorem dX10_next_56 : decode cX10_next 56 = .ok (.getfield 50, 3) := by decide +kernel
theorem dX10_next_59 : decode cX10_next 59 = .ok (.if_icmp .ge 15, 3) := by decide +kernel
theorem dX10_next_62 : decode cX10_next 62 = .ok (.aload_n 0, 1) := by decide +kernel
theorem dX10_next_63 : decode cX10_next 63 = .ok (.getfield 7, 3) := by decide +kernel
theorem dX10_next_66 : decode cX10_next 66 = .ok (.aload_n 0, 1) := by decide +kernel
theorem dX10_next_67 : decode cX10_next 67 = .ok (.getfield 55, 3) := by decide +kernel
theorem dX10_next_70 : decode cX10_next 70 = .ok (.iaload, 1) := by decide +kernel
theorem dX10_next_71 : decode cX10_next 71 = .ok (.goto 4, 3) := by decide +kernel
theorem dX10_next_74 : decode cX10_next 74 = .ok (.iconst (-1), 1) := by decide +kernel
theorem dX10_next_75 : decode cX10_next 75 = .ok (.istore_n 1, 1) := by decide +kernel
theorem dX10_next_76 : decode cX10_next 76 = .ok (.aload_n 0, 1) := by decide +kernel
theorem dX10_next_77 : decode cX10_next 77 = .ok (.iload_n 1, 1) := by decide +kernel
theorem dX10_next_78 : decode cX10_next 78 = .ok (.ifCond .ge 7, 3) := by decide +kernel
theorem dX10_next_81 : decode cX10_next 81 = .ok (.iconst 0, 1) := by decide +kernel
theorem dX10_next_82 : decode cX10_next 82 = .ok (.goto 36, 3) := by decide +kernel
theorem dX10_next_85 : decode cX10_next 85 = .ok (.iload_n 1, 1) := by decide +kernel
theorem dX10_next_86 : decode cX10_next 86 = .ok (.invokestatic 65, 3) := by decide +kernel
theorem dX10_next_89 : decode cX10_next 89 = .ok (.ifCond .eq 7, 3) := by decide +kernel
theorem dX10_next_92 : decode cX10_next 92 = .ok (.iconst 1, 1) := by decide +kernel
theorem dX10_next_93 : decode cX10_next 93 = .ok (.goto 25, 3) := by decide +kernel
theorem dX10_next_96 : decode cX10_next 96 = .ok (.iload_n 1, 1) := by decide +kernel
theorem dX10_next_97 : decode cX10_next 97 = .ok (.invokestatic 69, 3) := by decide +kernel
theorem dX10_next_100 : decode cX10_next 100 = .ok (.ifCond .eq 7, 3) := by decide +kernel
theorem dX10_next_103 : decode cX10_next 103 = .ok (.iconst 2, 1) := by decide +kernel
theorem dX10_next_104 : decode cX10_next 104 = .ok (.goto 14, 3) := by decide +kernel
theorem dX10_next_107 : decode cX10_next 107 = .ok (.iload_n 1, 1) := by decide +kernel
theorem dX10_next_108 : decode cX10_next 108 = .ok (.bipush 59, 2) := by decide +kernel
theorem dX10_next_110 : decode cX10_next 110 = .ok (.if_icmp .ne 7, 3) := by decide +kernel
theorem dX10_next_113 : decode cX10_next 113 = .ok (.iconst 3, 1) := by decide +kernel
theorem dX10_next_114 : decode cX10_next 114 = .ok (.goto 4, 3) := by decide +kernel
theorem dX10_next_117 : decode cX10_next 117 = .ok (.iconst 4, 1) := by decide +kernel
theorem dX10_next_118 : decode cX10_next 118 = .ok (.putfield 72, 3) := by decide +kernel
theorem dX10_next_121 : decode cX10_next 121 = .ok (.aload_n 0, 1) := by decide +kernel
theorem dX10_next_122 : decode cX10_next 122 = .ok (.dup, 1) := by decide +kernel
theorem dX10_next_123 : decode cX10_next 123 = .ok (.getfield 55, 3) := by decide +kernel
theorem dX10_next_126 : decode cX10_next 126 = .ok (.aload_n 0, 1) := by decide +kernel
theorem dX10_next_127 : decode cX10_next 127 = .ok (.getfield 72, 3) := by decide +kernel
theorem dX10_next_130 : decode cX10_next 130 = .ok (.iconst 3, 1) := by decide +kernel
theorem dX10_next_131 : decode cX10_next 131 = .ok (.if_icmp .ne 7, 3) := by decide +kernel
theorem dX10_next_134 : decode cX10_next 134 = .ok (.iconst 1, 1) := by decide +kernel
theorem dX10_next_135 : decode cX10_next 135 = .ok (.goto 4, 3) := by decide +kernel
theorem dX10_next_138 : decode cX10_next 138 = .ok (.iconst 0, 1) := by decide +kernel
theorem dX10_next_139 : decode cX10_next 139 = .ok (.iadd, 1) := by decide +kernel
theorem dX10_next_140 : decode cX10_next 140 = .ok (.putfield 55, 3) := by decide +kernel
theorem dX10_next_143 : decode cX10_next 143 = .ok (.aload_n 0, 1) := by decide +kernel
theorem dX10_next_144 : decode cX10_next 144 = .ok (.getfield 72, 3) := by decide +kernel
theorem dX10_next_147 : decode cX10_next 147 = .ok (.iconst 1, 1) := by decide +kernel
theorem dX10_next_148 : decode cX10_next 148 = .ok (.if_icmp .ne 89, 3) := by decide +kernel
theorem dX10_next_151 : decode cX10_next 151 = .ok (.aload_n 0, 1) := by decide +kernel
theorem dX10_next_152 : decode cX10_next 152 = .ok (.getfield 55, 3) := by decide +kernel
theorem dX10_next_155 : decode cX10_next 155 = .ok (.aload_n 0, 1) := by decide +kernel
theorem dX10_next_156 : decode cX10_next 156 = .ok (.getfield 50, 3) := by decide +kernel
theorem dX10_next_159 : decode cX10_next 159 = .ok (.if_icmp .ge 78, 3) := by decide +kernel
theorem dX10_next_162 : decode cX10_next 162 = .ok (.aload_n 0, 1) := by decide +kernel
theorem dX10_next_163 : decode cX10_next 163 = .ok (.getfield 7, 3) := by decide +kernel
theorem dX10_next_166 : decode cX10_next 166 = .ok (.aload_n 0, 1) := by decide +kernel
theorem dX10_next_167 : decode cX10_next 167 = .ok (.getfield 55, 3) := by decide +kernel
theorem dX10_next_170 : decode cX10_next 170 = .ok (.iaload, 1) := by decide +kernel
theorem dX10_next_171 : decode cX10_next 171 = .ok (.invokestatic 65, 3) := by decide +kernel
theorem dX10_next_174 : decode cX10_next 174 = .ok (.ifCond .eq 63, 3) := by decide +kernel
theorem dX10_next_177 : decode cX10_next 177 = .ok (.aload_n 0, 1) := by decide +kernel
theorem dX10_next_178 : decode cX10_next 178 = .ok (.aload_n 0, 1) := by decide +kernel
theorem dX10_next_179 : decode cX10_next 179 = .ok (.getfield 55, 3) := by decide +kernel
theorem dX10_next_182 : decode cX10_next 182 = .ok (.aload_n 0, 1) := by decide +kernel
theorem dX10_next_183 : decode cX10_next 183 = .ok (.getfield 58, 3) := by decide +kernel
theorem dX10_next_186 : decode cX10_next 186 = .ok (.isub, 1) := by decide +kernel
theorem dX10_next_187 : decode cX10_next 187 = .ok (.bipush 7, 2) := by decide +kernel
theorem dX10_next_189 : decode cX10_next 189 = .ok (.if_icmp .ge 29, 3) := by decide +kernel
theorem dX10_next_192 : decode cX10_next 192 = .ok (.ldc2_w 75, 3) := by decide +kernel
theorem dX10_next_195 : decode cX10_next 195 = .ok (.aload_n 0, 1) := by decide +kernel
theorem dX10_next_196 : decode cX10_next 196 = .ok (.getfield 61, 3) := by decide +kernel
theorem dX10_next_199 : decode cX10_next 199 = .ok (.lmul, 1) := by decide +kernel
theorem dX10_next_200 : decode cX10_next 200 = .ok (.aload_n 0, 1) := by decide +kernel
theorem dX10_next_201 : decode cX10_next 201 = .ok (.getfield 7, 3) := by decide +kernel
theorem dX10_next_204 : decode cX10_next 204 = .ok (.aload_n 0, 1) := by decide +kernel
theorem dX10_next_205 : decode cX10_next 205 = .ok (.getfield 55, 3) := by decide +kernel
theorem dX10_next_208 : decode cX10_next 208 = .ok (.iaload, 1) := by decide +kernel
theorem dX10_next_209 : decode cX10_next 209 = .ok (.i2l, 1) := by decide +kernel
theorem dX10_next_210 : decode cX10_next 210 = .ok (.ladd, 1) := by decide +kernel
theorem dX10_next_211 : decode cX10_next 211 = .ok (.ldc2_w 77, 3) := by decide +kernel
theorem dX10_next_214 : decode cX10_next 214 = .ok (.lsub, 1) := by decide +kernel
theorem dX10_next_215 : decode cX10_next 215 = .ok (.goto 6, 3) := by decide +kernel
theorem dX10_next_218 : decode cX10_next 218 = .ok (.ldc2_w 79, 3) := by decide +kernel
theorem dX10_next_221 : decode cX10_next 221 = .ok (.putfield 61, 3) := by decide +kernel
theorem dX10_next_224 : decode cX10_next 224 = .ok (.aload_n 0, 1) := by decide +kernel
theorem dX10_next_225 : decode cX10_next 225 = .ok (.dup, 1) := by decide +kernel
theorem dX10_next_226 : decode cX10_next 226 = .ok (.getfield 55, 3) := by decide +kernel
theorem dX10_next_229 : decode cX10_next 229 = .ok (.iconst 1, 1) := by decide +kernel
theorem dX10_next_230 : decode cX10_next 230 = .ok (.iadd, 1) := by decide +kernel
theorem dX10_next_231 : decode cX10_next 231 = .ok (.putfield 55, 3) := by decide +kernel
theorem dX10_next_234 : decode cX10_next 234 = .ok (.goto (-91), 3) := by decide +kernel
theorem dX10_next_237 : decode cX10_next 237 = .ok (.aload_n 0, 1) := by decide +kernel
theorem dX10_next_238 : decode cX10_next 238 = .ok (.getfield 72, 3) := by decide +kernel
theorem dX10_next_241 : decode cX10_next 241 = .ok (.iconst 2, 1) := by decide +kernel
theorem dX10_next_242 : decode cX10_next 242 = .ok (.if_icmp .ne 88, 3) := by decide +kernel
theorem dX10_next_245 : decode cX10_next 245 = .ok (.aload_n 0, 1) := by decide +kernel
theorem dX10_next_246 : decode cX10_next 246 = .ok (.getfield 55, 3) := by decide +kernel
theorem dX10_next_249 : decode cX10_next 249 = .ok (.aload_n 0, 1) := by decide +kernel
theorem dX10_next_250 : decode cX10_next 250 = .ok (.getfield 50, 3) := by decide +kernel
theorem dX10_next_253 : decode cX10_next 253 = .ok (.if_icmp .ge 77, 3) := by decide +kernel
theorem dX10_next_256 : decode cX10_next 256 = .ok (.aload_n 0, 1) := by decide +kernel
theorem dX10_next_257 : decode cX10_next 257 = .ok (.getfield 7, 3) := by decide +kernel
theorem dX10_next_260 : decode cX10_next 260 = .ok (.aload_n 0, 1) := by decide +kernel
theorem dX10_next_261 : decode cX10_next 261 = .ok (.getfield 55, 3) := by decide +kernel
theorem dX10_next_264 : decode cX10_next 264 = .ok (.iaload, 1) := by decide +kernel
theorem dX10_next_265 : decode cX10_next 265 = .ok (.invokestatic 69, 3) := by decide +kernel
theorem dX10_next_268 : decode cX10_next 268 = .ok (.ifCond .eq 62, 3) := by decide +kernel
theorem dX10_next_271 : decode cX10_next 271 = .ok (.aload_n 0, 1) := by decide +kernel
theorem dX10_next_272 : decode cX10_next 272 = .ok (.aload_n 0, 1) := by decide +kernel
theorem dX10_next_273 : decode cX10_next 273 = .ok (.getfield 55, 3) := by decide +kernel
theorem dX10_next_276 : decode cX10_next 276 = .ok (.aload_n 0, 1) := by decide +kernel
theorem dX10_next_277 : decode cX10_next 277 = .ok (.getfield 58, 3) := by decide +kernel
theorem dX10_next_280 : decode cX10_next 280 = .ok (.isub, 1) := by decide +kernel
theorem dX10_next_281 : decode cX10_next 281 = .ok (.iconst 2, 1) := by decide +kernel
theorem dX10_next_282 : decode cX10_next 282 = .ok (.if_icmp .ge 29, 3) := by decide +kernel
theorem dX10_next_285 : decode cX10_next 285 = .ok (.ldc2_w 81, 3) := by decide +kernel
theorem dX10_next_288 : decode cX10_next 288 = .ok (.aload_n 0, 1) := by decide +kernel
theorem dX10_next_289 : decode cX10_next 289 = .ok (.getfield 61, 3) := by decide +kernel
theorem dX10_next_292 : decode cX10_next 292 = .ok (.lmul, 1) := by decide +kernel
theorem dX10_next_293 : decode cX10_next 293 = .ok (.aload_n 0, 1) := by decide +kernel
theorem dX10_next_294 : decode cX10_next 294 = .ok (.getfield 7, 3) := by decide +kernel
theorem dX10_next_297 : decode cX10_next 297 = .ok (.aload_n 0, 1) := by decide +kernel
theorem dX10_next_298 : decode cX10_next 298 = .ok (.getfield 55, 3) := by decide +kernel
theorem dX10_next_301 : decode cX10_next 301 = .ok (.iaload, 1) := by decide +kernel
theorem dX10_next_302 : decode cX10_next 302 = .ok (.i2l, 1) := by decide +kernel
theorem dX10_next_303 : decode cX10_next 303 = .ok (.ladd, 1) := by decide +kernel
theorem dX10_next_304 : decode cX10_next 304 = .ok (.ldc2_w 83, 3) := by decide +kernel
theorem dX10_next_307 : decode cX10_next 307 = .ok (.lsub, 1) := by decide +kernel
theorem dX10_next_308 : decode cX10_next 308 = .ok (.goto 6, 3) := by decide +kernel
theorem dX10_next_311 : decode cX10_next 311 = .ok (.ldc2_w 85, 3) := by decide +kernel
theorem dX10_next_314 : decode cX10_next 314 = .ok (.putfield 61, 3) := by decide +kernel
theorem dX10_next_317 : decode cX10_next 317 = .ok (.aload_n 0, 1) := by decide +kernel
theorem dX10_next_318 : decode cX10_next 318 = .ok (.dup, 1) := by decide +kernel
theorem dX10_next_319 : decode cX10_next 319 = .ok (.getfield 55, 3) := by decide +kernel
theorem dX10_next_322 : decode cX10_next 322 = .ok (.iconst 1, 1) := by decide +kernel
theorem dX10_next_323 : decode cX10_next 323 = .ok (.iadd, 1) := by decide +kernel
theorem dX10_next_324 : decode cX10_next 324 = .ok (.putfield 55, 3) := by decide +kernel
theorem dX10_next_327 : decode cX10_next 327 = .ok (.goto (-90), 3) := by decide +kernel
theorem dX10_next_330 : decode cX10_next 330 = .ok (.aload_n 0, 1) := by decide +kernel
theorem dX10_next_331 : decode cX10_next 331 = .ok (.getfield 72, 3) := by decide +kernel
theorem dX10_next_334 : decode cX10_next 334 = .ok (.iconst 2, 1) := by decide +kernel
theorem dX10_next_335 : decode cX10_next 335 = .ok (.if_icmp .ne 35, 3) := by decide +kernel
theorem dX10_next_338 : decode cX10_next 338 = .ok (.aload_n 0, 1) := by decide +kernel
theorem dX10_next_339 : decode cX10_next 339 = .ok (.getfield 7, 3) := by decide +kernel
theorem dX10_next_342 : decode cX10_next 342 = .ok (.aload_n 0, 1) := by decide +kernel
theorem dX10_next_343 : decode cX10_next 343 = .ok (.getfield 58, 3) := by decide +kernel
theorem dX10_next_346 : decode cX10_next 346 = .ok (.iaload, 1) := by decide +kernel
theorem dX10_next_347 : decode cX10_next 347 = .ok (.bipush 48, 2) := by decide +kernel
theorem dX10_next_349 : decode cX10_next 349 = .ok (.if_icmp .ne 21, 3) := by decide +kernel
theorem dX10_next_352 : decode cX10_next 352 = .ok (.aload_n 0, 1) := by decide +kernel
theorem dX10_next_353 : decode cX10_next 353 = .ok (.getfield 55, 3) := by decide +kernel
theorem dX10_next_356 : decode cX10_next 356 = .ok (.aload_n 0, 1) := by decide +kernel
theorem dX10_next_357 : decode cX10_next 357 = .ok (.getfield 58, 3) := by decide +kernel
theorem dX10_next_360 : decode cX10_next 360 = .ok (.isub, 1) := by decide +kernel
theorem dX10_next_361 : decode cX10_next 361 = .ok (.iconst 1, 1) := by decide +kernel
theorem dX10_next_362 : decode cX10_next 362 = .ok (.if_icmp .le 8, 3) := by decide +kernel
theorem dX10_next_365 : decode cX10_next 365 = .ok (.aload_n 0, 1) := by decide +kernel
theorem dX10_next_366 : decode cX10_next 366 = .ok (.iconst 4, 1) := by decide +kernel
theorem dX10_next_367 : decode cX10_next 367 = .ok (.putfield 72, 3) := by decide +kernel
theorem dX10_next_370 : decode cX10_next 370 = .ok (.return_, 1) := by decide +kernel
set_option maxRecDepth 20000 in
theorem ggX10_takes_X10_next : GoodIn wsX10_takes wsX10_next := goodIn_r _ [7, 8, 9, 10, 11, 2, 1, 12, 13, 14, 15, 16, 17, 18, 19, 6, 20, 21, 22, 23, 27, 28, 29, 30, 31, 32, 33, 34, 35, 36, 37, 38, 39, 40, 41, 42, 43, 44, 45, 46, 47, 48, 49] (by decide +kernel) (by decide +kernel)
set_option maxRecDepth 20000 in
theorem gX10_takes_X10_next : GoodIn wsX10_takes (wsV RX10 87 RX10 yX10_next wsX10_next) := goodIn_app (goodIn_of _ (by decide +kernel)) ggX10_takes_X10_next
set_option maxRecDepth 20000 in
theorem ggX10_takes_X10_within : GoodIn wsX10_takes wsX10_within := goodIn_r _ [26] (by decide +kernel) (by decide +kernel)
set_option maxRecDepth 20000 in
theorem gX10_takes_X10_within : GoodIn wsX10_takes (va_wsS RX10 42 yX10_within wsX10_within) := goodIn_app (goodIn_of _ (by decide +kernel)) ggX10_takes_X10_within
theorem dX10_takes_0 : decode cX10_takes 0 = .ok (.aload_n 0, 1) := by decide +kernel
theorem dX10_takes_1 : decode cX10_takes 1 = .ok (.invokevirtual 87, 3) := by decide +kernel
theorem dX10_takes_4 : decode cX10_takes 4 = .ok (.aload_n 0, 1) := by decide +kernel
theorem dX10_takes_5 : decode cX10_takes 5 = .ok (.getfield 72, 3) := by decide +kernel
theorem dX10_takes_8 : decode cX10_takes 8 = .ok (.iconst 2, 1) := by decide +kernel
theorem dX10_takes_9 : decode cX10_takes 9 = .ok (.if_icmp .ne 21, 3) := by decide +kernel
theorem dX10_takes_12 : decode cX10_takes 12 = .ok (.aload_n 0, 1) := by decide +kernel
theorem dX10_takes_13 : decode cX10_takes 13 = .ok (.getfield 61, 3) := by decide +kernel
theorem dX10_takes_16 : decode cX10_takes 16 = .ok (.iload_n 1, 1) := by decide +kernel
theorem dX10_takes_17 : decode cX10_takes 17 = .ok (.i2l, 1) := by decide +kernel
theorem dX10_takes_18 : decode cX10_takes 18 = .ok (.iload_n 2, 1) := by decide +kernel
theorem dX10_takes_19 : decode cX10_takes 19 = .ok (.i2l, 1) := by decide +kernel
theorem dX10_takes_20 : decode cX10_takes 20 = .ok (.invokestatic 42, 3) := by decide +kernel
theorem dX10_takes_23 : decode cX10_takes 23 = .ok (.ifCond .eq 7, 3) := by decide +kernel
theorem dX10_takes_26 : decode cX10_takes 26 = .ok (.iconst 1, 1) := by decide +kernel
theorem dX10_takes_27 : decode cX10_takes 27 = .ok (.goto 4, 3) := by decide +kernel
theorem dX10_takes_30 : decode cX10_takes 30 = .ok (.iconst 0, 1) := by decide +kernel
theorem dX10_takes_31 : decode cX10_takes 31 = .ok (.ireturn, 1) := by decide +kernel
set_option maxRecDepth 20000 in
theorem ggX10_stops_X10_next : GoodIn wsX10_stops wsX10_next := goodIn_r _ [6, 7, 8, 9, 10, 11, 1, 12, 13, 14, 15, 16, 17, 18, 19, 5, 20, 21, 22, 23, 24, 25, 26, 27, 28, 29, 30, 31, 32, 33, 34, 35, 36, 37, 38, 39, 40, 41, 42, 43, 44, 45, 46] (by decide +kernel) (by decide +kernel)
set_option maxRecDepth 20000 in
theorem gX10_stops_X10_next : GoodIn wsX10_stops (wsV RX10 87 RX10 yX10_next wsX10_next) := goodIn_app (goodIn_of _ (by decide +kernel)) ggX10_stops_X10_next
theorem dX10_stops_0 : decode cX10_stops 0 = .ok (.aload_n 0, 1) := by decide +kernel
theorem dX10_stops_1 : decode cX10_stops 1 = .ok (.invokevirtual 87, 3) := by decide +kernel
theorem dX10_stops_4 : decode cX10_stops 4 = .ok (.aload_n 0, 1) := by decide +kernel
theorem dX10_stops_5 : decode cX10_stops 5 = .ok (.getfield 72, 3) := by decide +kernel
theorem dX10_stops_8 : decode cX10_stops 8 = .ok (.iconst 3, 1) := by decide +kernel
theorem dX10_stops_9 : decode cX10_stops 9 = .ok (.if_icmp .ne 7, 3) := by decide +kernel
theorem dX10_stops_12 : decode cX10_stops 12 = .ok (.iconst 1, 1) := by decide +kernel
theorem dX10_stops_13 : decode cX10_stops 13 = .ok (.goto 4, 3) := by decide +kernel
theorem dX10_stops_16 : decode cX10_stops 16 = .ok (.iconst 0, 1) := by decide +kernel
theorem dX10_stops_17 : decode cX10_stops 17 = .ok (.ireturn, 1) := by decide +kernel
set_option maxRecDepth 20000 in
theorem ggX10_takesChild_X10_takes : GoodIn wsX10_takesChild wsX10_takes := goodIn_r _ [9, 10, 2, 11, 12, 13, 8, 14, 15, 16, 17, 18, 19, 20, 21, 22, 23, 24, 25, 26, 27, 28, 29, 30, 31, 32, 33, 38, 39, 40, 41, 42, 43, 44, 45, 46, 47, 48, 49, 50, 51, 52, 53, 54, 55, 56, 57, 58, 59, 60] (by decide +kernel) (by decide +kernel)
set_option maxRecDepth 20000 in
theorem gX10_takesChild_X10_takes : GoodIn wsX10_takesChild (wsV RX10 93 RX10 yX10_takes wsX10_takes) := goodIn_app (goodIn_of _ (by decide +kernel)) ggX10_takesChild_X10_takes
set_option maxRecDepth 20000 in
theorem ggX10_takesChild_X10_stops : GoodIn wsX10_takesChild wsX10_stops := goodIn_r _ [37, 10, 11, 12, 13, 8, 14, 15, 16, 17, 18, 2, 19, 20, 21, 22, 23, 24, 25, 26, 27, 28, 29, 30, 38, 39, 40, 41, 42, 43, 44, 45, 46, 47, 48, 49, 50, 51, 52, 53, 54, 55, 56, 57, 58, 59, 60] (by decide +kernel) (by decide +kernel)
set_option maxRecDepth 20000 in
theorem gX10_takesChild_X10_stops : GoodIn wsX10_takesChild (wsV RX10 99 RX10 yX10_stops wsX10_stops) := goodIn_app (goodIn_of _ (by decide +kernel)) ggX10_takesChild_X10_stops
theorem dX10_takesChild_0 : decode cX10_takesChild 0 = .ok (.aload_n 0, 1) := by decide +kernel
theorem dX10_takesChild_1 : decode cX10_takesChild 1 = .ok (.getfield 90, 3) := by decide +kernel
theorem dX10_takesChild_4 : decode cX10_takesChild 4 = .ok (.bipush 6, 2) := by decide +kernel
theorem dX10_takesChild_6 : decode cX10_takesChild 6 = .ok (.if_icmp .ne 5, 3) := by decide +kernel
theorem dX10_takesChild_9 : decode cX10_takesChild 9 = .ok (.iconst 0, 1) := by decide +kernel
theorem dX10_takesChild_10 : decode cX10_takesChild 10 = .ok (.ireturn, 1) := by decide +kernel
theorem dX10_takesChild_11 : decode cX10_takesChild 11 = .ok (.iconst 0, 1) := by decide +kernel
theorem dX10_takesChild_12 : decode cX10_takesChild 12 = .ok (.istore_n 1, 1) := by decide +kernel
theorem dX10_takesChild_13 : decode cX10_takesChild 13 = .ok (.iload_n 1, 1) := by decide +kernel
theorem dX10_takesChild_14 : decode cX10_takesChild 14 = .ok (.iconst 3, 1) := by decide +kernel
theorem dX10_takesChild_15 : decode cX10_takesChild 15 = .ok (.if_icmp .ge 68, 3) := by decide +kernel
theorem dX10_takesChild_18 : decode cX10_takesChild 18 = .ok (.aload_n 0, 1) := by decide +kernel
theorem dX10_takesChild_19 : decode cX10_takesChild 19 = .ok (.iconst 0, 1) := by decide +kernel
theorem dX10_takesChild_20 : decode cX10_takesChild 20 = .ok (.bipush 9, 2) := by decide +kernel
theorem dX10_takesChild_22 : decode cX10_takesChild 22 = .ok (.invokevirtual 93, 3) := by decide +kernel
theorem dX10_takesChild_25 : decode cX10_takesChild 25 = .ok (.ifCond .eq 32, 3) := by decide +kernel
theorem dX10_takesChild_28 : decode cX10_takesChild 28 = .ok (.iload_n 1, 1) := by decide +kernel
theorem dX10_takesChild_29 : decode cX10_takesChild 29 = .ok (.iconst 2, 1) := by decide +kernel
theorem dX10_takesChild_30 : decode cX10_takesChild 30 = .ok (.if_icmp .ne 29, 3) := by decide +kernel
theorem dX10_takesChild_33 : decode cX10_takesChild 33 = .ok (.aload_n 0, 1) := by decide +kernel
theorem dX10_takesChild_34 : decode cX10_takesChild 34 = .ok (.getfield 61, 3) := by decide +kernel
theorem dX10_takesChild_37 : decode cX10_takesChild 37 = .ok (.ldc2_w 97, 3) := by decide +kernel
theorem dX10_takesChild_40 : decode cX10_takesChild 40 = .ok (.lcmp, 1) := by decide +kernel
theorem dX10_takesChild_41 : decode cX10_takesChild 41 = .ok (.ifCond .eq 18, 3) := by decide +kernel
theorem dX10_takesChild_44 : decode cX10_takesChild 44 = .ok (.aload_n 0, 1) := by decide +kernel
theorem dX10_takesChild_45 : decode cX10_takesChild 45 = .ok (.getfield 61, 3) := by decide +kernel
theorem dX10_takesChild_48 : decode cX10_takesChild 48 = .ok (.aload_n 0, 1) := by decide +kernel
theorem dX10_takesChild_49 : decode cX10_takesChild 49 = .ok (.getfield 90, 3) := by decide +kernel
theorem dX10_takesChild_52 : decode cX10_takesChild 52 = .ok (.i2l, 1) := by decide +kernel
theorem dX10_takesChild_53 : decode cX10_takesChild 53 = .ok (.lcmp, 1) := by decide +kernel
theorem dX10_takesChild_54 : decode cX10_takesChild 54 = .ok (.ifCond .lt 5, 3) := by decide +kernel
theorem dX10_takesChild_57 : decode cX10_takesChild 57 = .ok (.iconst 0, 1) := by decide +kernel
theorem dX10_takesChild_58 : decode cX10_takesChild 58 = .ok (.ireturn, 1) := by decide +kernel
theorem dX10_takesChild_59 : decode cX10_takesChild 59 = .ok (.aload_n 0, 1) := by decide +kernel
theorem dX10_takesChild_60 : decode cX10_takesChild 60 = .ok (.getfield 36, 3) := by decide +kernel
theorem dX10_takesChild_63 : decode cX10_takesChild 63 = .ok (.iconst 3, 1) := by decide +kernel
theorem dX10_takesChild_64 : decode cX10_takesChild 64 = .ok (.aload_n 0, 1) := by decide +kernel
theorem dX10_takesChild_65 : decode cX10_takesChild 65 = .ok (.getfield 90, 3) := by decide +kernel
theorem dX10_takesChild_68 : decode cX10_takesChild 68 = .ok (.imul, 1) := by decide +kernel
theorem dX10_takesChild_69 : decode cX10_takesChild 69 = .ok (.iload_n 1, 1) := by decide +kernel
theorem dX10_takesChild_70 : decode cX10_takesChild 70 = .ok (.iadd, 1) := by decide +kernel
theorem dX10_takesChild_71 : decode cX10_takesChild 71 = .ok (.aload_n 0, 1) := by decide +kernel
theorem dX10_takesChild_72 : decode cX10_takesChild 72 = .ok (.getfield 61, 3) := by decide +kernel
theorem dX10_takesChild_75 : decode cX10_takesChild 75 = .ok (.l2i, 1) := by decide +kernel
theorem dX10_takesChild_76 : decode cX10_takesChild 76 = .ok (.iastore, 1) := by decide +kernel
theorem dX10_takesChild_77 : decode cX10_takesChild 77 = .ok (.iinc 1 1, 3) := by decide +kernel
theorem dX10_takesChild_80 : decode cX10_takesChild 80 = .ok (.goto (-67), 3) := by decide +kernel
theorem dX10_takesChild_83 : decode cX10_takesChild 83 = .ok (.aload_n 0, 1) := by decide +kernel
theorem dX10_takesChild_84 : decode cX10_takesChild 84 = .ok (.dup, 1) := by decide +kernel
theorem dX10_takesChild_85 : decode cX10_takesChild 85 = .ok (.getfield 90, 3) := by decide +kernel
theorem dX10_takesChild_88 : decode cX10_takesChild 88 = .ok (.iconst 1, 1) := by decide +kernel
theorem dX10_takesChild_89 : decode cX10_takesChild 89 = .ok (.iadd, 1) := by decide +kernel
theorem dX10_takesChild_90 : decode cX10_takesChild 90 = .ok (.putfield 90, 3) := by decide +kernel
theorem dX10_takesChild_93 : decode cX10_takesChild 93 = .ok (.aload_n 0, 1) := by decide +kernel
theorem dX10_takesChild_94 : decode cX10_takesChild 94 = .ok (.invokevirtual 99, 3) := by decide +kernel
theorem dX10_takesChild_97 : decode cX10_takesChild 97 = .ok (.ireturn, 1) := by decide +kernel
set_option maxRecDepth 20000 in
theorem ggX10_takesLittle_X10_takes : GoodIn wsX10_takesLittle wsX10_takes := goodIn_r _ [8, 9, 3, 10, 11, 12, 7, 13, 14, 15, 16, 17, 18, 19, 20, 21, 22, 23, 24, 25, 26, 27, 28, 29, 30, 31, 32, 37, 38, 39, 40, 41, 42, 43, 44, 45, 46, 47, 48, 49, 50, 51, 52, 53, 54, 55, 56, 57, 58, 59] (by decide +kernel) (by decide +kernel)
set_option maxRecDepth 20000 in
theorem gX10_takesLittle_X10_takes : GoodIn wsX10_takesLittle (wsV RX10 93 RX10 yX10_takes wsX10_takes) := goodIn_app (goodIn_of _ (by decide +kernel)) ggX10_takesLittle_X10_takes
set_option maxRecDepth 20000 in
theorem ggX10_takesLittle_X10_stops : GoodIn wsX10_takesLittle wsX10_stops := goodIn_r _ [36, 9, 10, 11, 12, 7, 13, 14, 15, 16, 17, 3, 18, 19, 20, 21, 22, 23, 24, 25, 26, 27, 28, 29, 37, 38, 39, 40, 41, 42, 43, 44, 45, 46, 47, 48, 49, 50, 51, 52, 53, 54, 55, 56, 57, 58, 59] (by decide +kernel) (by decide +kernel)
set_option maxRecDepth 20000 in
theorem gX10_takesLittle_X10_stops : GoodIn wsX10_takesLittle (wsV RX10 99 RX10 yX10_stops wsX10_stops) := goodIn_app (goodIn_of _ (by decide +kernel)) ggX10_takesLittle_X10_stops
theorem dX10_takesLittle_0 : decode cX10_takesLittle 0 = .ok (.aload_n 0, 1) := by decide +kernel
theorem dX10_takesLittle_1 : decode cX10_takesLittle 1 = .ok (.iconst 0, 1) := by decide +kernel
theorem dX10_takesLittle_2 : decode cX10_takesLittle 2 = .ok (.aload_n 0, 1) := by decide +kernel
theorem dX10_takesLittle_3 : decode cX10_takesLittle 3 = .ok (.getfield 90, 3) := by decide +kernel
theorem dX10_takesLittle_6 : decode cX10_takesLittle 6 = .ok (.iconst 1, 1) := by decide +kernel
theorem dX10_takesLittle_7 : decode cX10_takesLittle 7 = .ok (.isub, 1) := by decide +kernel
theorem dX10_takesLittle_8 : decode cX10_takesLittle 8 = .ok (.invokevirtual 93, 3) := by decide +kernel
theorem dX10_takesLittle_11 : decode cX10_takesLittle 11 = .ok (.ifCond .ne 5, 3) := by decide +kernel
theorem dX10_takesLittle_14 : decode cX10_takesLittle 14 = .ok (.iconst 0, 1) := by decide +kernel
theorem dX10_takesLittle_15 : decode cX10_takesLittle 15 = .ok (.ireturn, 1) := by decide +kernel
theorem dX10_takesLittle_16 : decode cX10_takesLittle 16 = .ok (.aload_n 0, 1) := by decide +kernel
theorem dX10_takesLittle_17 : decode cX10_takesLittle 17 = .ok (.dup, 1) := by decide +kernel
theorem dX10_takesLittle_18 : decode cX10_takesLittle 18 = .ok (.getfield 103, 3) := by decide +kernel
theorem dX10_takesLittle_21 : decode cX10_takesLittle 21 = .ok (.iconst 1, 1) := by decide +kernel
theorem dX10_takesLittle_22 : decode cX10_takesLittle 22 = .ok (.aload_n 0, 1) := by decide +kernel
theorem dX10_takesLittle_23 : decode cX10_takesLittle 23 = .ok (.getfield 61, 3) := by decide +kernel
theorem dX10_takesLittle_26 : decode cX10_takesLittle 26 = .ok (.l2i, 1) := by decide +kernel
theorem dX10_takesLittle_27 : decode cX10_takesLittle 27 = .ok (.ishl, 1) := by decide +kernel
theorem dX10_takesLittle_28 : decode cX10_takesLittle 28 = .ok (.ior, 1) := by decide +kernel
theorem dX10_takesLittle_29 : decode cX10_takesLittle 29 = .ok (.putfield 103, 3) := by decide +kernel
theorem dX10_takesLittle_32 : decode cX10_takesLittle 32 = .ok (.aload_n 0, 1) := by decide +kernel
theorem dX10_takesLittle_33 : decode cX10_takesLittle 33 = .ok (.invokevirtual 99, 3) := by decide +kernel
theorem dX10_takesLittle_36 : decode cX10_takesLittle 36 = .ok (.ireturn, 1) := by decide +kernel
set_option maxRecDepth 20000 in
theorem ggX10_children_X10_next : GoodIn wsX10_children wsX10_next := goodIn_r _ [24, 1, 19, 25, 8, 5, 4, 26, 27, 28, 29, 30, 31, 32, 33, 23, 34, 35, 36, 37, 58, 59, 60, 61, 62, 63, 64, 65, 66, 67, 68, 69, 70, 71, 72, 73, 74, 75, 76, 77, 78, 79, 80] (by decide +kernel) (by decide +kernel)
set_option maxRecDepth 20000 in
theorem gX10_children_X10_next : GoodIn wsX10_children (wsV RX10 87 RX10 yX10_next wsX10_next) := goodIn_app (goodIn_of _ (by decide +kernel)) ggX10_children_X10_next
set_option maxRecDepth 20000 in
theorem ggX10_children_X10_takesChild : GoodIn wsX10_children wsX10_takesChild := goodIn_r _ [41, 2, 5, 42, 11, 43, 44, 45, 23, 46, 4, 20, 21, 22, 24, 1, 19, 25, 8, 26, 27, 28, 29, 30, 31, 32, 33, 34, 35, 36, 37, 47, 48, 49, 50, 51, 52, 53, 58, 59, 60, 61, 62, 63, 64, 65, 66, 67, 68, 69, 70, 71, 72, 73, 74, 75, 76, 77, 78, 79, 80] (by decide +kernel) (by decide +kernel)
set_option maxRecDepth 20000 in
theorem gX10_children_X10_takesChild : GoodIn wsX10_children (wsV RX10 108 RX10 yX10_takesChild wsX10_takesChild) := goodIn_app (goodIn_of _ (by decide +kernel)) ggX10_children_X10_takesChild
set_option maxRecDepth 20000 in
theorem ggX10_children_X10_takesLittle : GoodIn wsX10_children wsX10_takesLittle := goodIn_r _ [57, 2, 3, 5, 43, 44, 45, 23, 46, 4, 20, 21, 22, 24, 1, 19, 25, 8, 26, 27, 28, 29, 30, 31, 32, 33, 34, 35, 36, 37, 47, 48, 49, 50, 51, 52, 53, 58, 59, 60, 61, 62, 63, 64, 65, 66, 67, 68, 69, 70, 71, 72, 73, 74, 75, 76, 77, 78, 79, 80] (by decide +kernel) (by decide +kernel)
set_option maxRecDepth 20000 in
theorem gX10_children_X10_takesLittle : GoodIn wsX10_children (wsV RX10 113 RX10 yX10_takesLittle wsX10_takesLittle) := goodIn_app (goodIn_of _ (by decide +kernel)) ggX10_children_X10_takesLittle
theorem dX10_children_0 : decode cX10_children 0 = .ok (.aload_n 0, 1) := by decide +kernel
theorem dX10_children_1 : decode cX10_children 1 = .ok (.iconst 0, 1) := by decide +kernel
theorem dX10_children_2 : decode cX10_children 2 = .ok (.putfield 55, 3) := by decide +kernel
theorem dX10_children_5 : decode cX10_children 5 = .ok (.aload_n 0, 1) := by decide +kernel
theorem dX10_children_6 : decode cX10_children 6 = .ok (.iconst 0, 1) := by decide +kernel
theorem dX10_children_7 : decode cX10_children 7 = .ok (.putfield 90, 3) := by decide +kernel
theorem dX10_children_10 : decode cX10_children 10 = .ok (.aload_n 0, 1) := by decide +kernel
theorem dX10_children_11 : decode cX10_children 11 = .ok (.iconst 0, 1) := by decide +kernel
theorem dX10_children_12 : decode cX10_children 12 = .ok (.putfield 103, 3) := by decide +kernel
theorem dX10_children_15 : decode cX10_children 15 = .ok (.iconst 0, 1) := by decide +kernel
theorem dX10_children_16 : decode cX10_children 16 = .ok (.istore_n 1, 1) := by decide +kernel
theorem dX10_children_17 : decode cX10_children 17 = .ok (.aload_n 0, 1) := by decide +kernel
theorem dX10_children_18 : decode cX10_children 18 = .ok (.invokevirtual 87, 3) := by decide +kernel
theorem dX10_children_21 : decode cX10_children 21 = .ok (.aload_n 0, 1) := by decide +kernel
theorem dX10_children_22 : decode cX10_children 22 = .ok (.getfield 72, 3) := by decide +kernel
theorem dX10_children_25 : decode cX10_children 25 = .ok (.ifCond .eq 78, 3) := by decide +kernel
theorem dX10_children_28 : decode cX10_children 28 = .ok (.aload_n 0, 1) := by decide +kernel
theorem dX10_children_29 : decode cX10_children 29 = .ok (.getfield 72, 3) := by decide +kernel
theorem dX10_children_32 : decode cX10_children 32 = .ok (.iconst 1, 1) := by decide +kernel
theorem dX10_children_33 : decode cX10_children 33 = .ok (.if_icmp .ne 46, 3) := by decide +kernel
theorem dX10_children_36 : decode cX10_children 36 = .ok (.aload_n 0, 1) := by decide +kernel
theorem dX10_children_37 : decode cX10_children 37 = .ok (.getfield 61, 3) := by decide +kernel
theorem dX10_children_40 : decode cX10_children 40 = .ok (.ldc2_w 106, 3) := by decide +kernel
theorem dX10_children_43 : decode cX10_children 43 = .ok (.lcmp, 1) := by decide +kernel
theorem dX10_children_44 : decode cX10_children 44 = .ok (.ifCond .ne 13, 3) := by decide +kernel
theorem dX10_children_47 : decode cX10_children 47 = .ok (.aload_n 0, 1) := by decide +kernel
theorem dX10_children_48 : decode cX10_children 48 = .ok (.invokevirtual 108, 3) := by decide +kernel
theorem dX10_children_51 : decode cX10_children 51 = .ok (.ifCond .eq 28, 3) := by decide +kernel
theorem dX10_children_54 : decode cX10_children 54 = .ok (.goto 21, 3) := by decide +kernel
theorem dX10_children_57 : decode cX10_children 57 = .ok (.aload_n 0, 1) := by decide +kernel
theorem dX10_children_58 : decode cX10_children 58 = .ok (.getfield 61, 3) := by decide +kernel
theorem dX10_children_61 : decode cX10_children 61 = .ok (.ldc2_w 111, 3) := by decide +kernel
theorem dX10_children_64 : decode cX10_children 64 = .ok (.lcmp, 1) := by decide +kernel
theorem dX10_children_65 : decode cX10_children 65 = .ok (.ifCond .ne 14, 3) := by decide +kernel
theorem dX10_children_68 : decode cX10_children 68 = .ok (.aload_n 0, 1) := by decide +kernel
theorem dX10_children_69 : decode cX10_children 69 = .ok (.invokevirtual 113, 3) := by decide +kernel
theorem dX10_children_72 : decode cX10_children 72 = .ok (.ifCond .eq 7, 3) := by decide +kernel
theorem dX10_children_75 : decode cX10_children 75 = .ok (.iconst 1, 1) := by decide +kernel
theorem dX10_children_76 : decode cX10_children 76 = .ok (.goto 4, 3) := by decide +kernel
theorem dX10_children_79 : decode cX10_children 79 = .ok (.iconst 0, 1) := by decide +kernel
theorem dX10_children_80 : decode cX10_children 80 = .ok (.istore_n 2, 1) := by decide +kernel
theorem dX10_children_81 : decode cX10_children 81 = .ok (.iload_n 2, 1) := by decide +kernel
theorem dX10_children_82 : decode cX10_children 82 = .ok (.ifCond .ne 11, 3) := by decide +kernel
theorem dX10_children_85 : decode cX10_children 85 = .ok (.bipush (-10), 2) := by decide +kernel
theorem dX10_children_87 : decode cX10_children 87 = .ok (.aload_n 0, 1) := by decide +kernel
theorem dX10_children_88 : decode cX10_children 88 = .ok (.getfield 58, 3) := by decide +kernel
theorem dX10_children_91 : decode cX10_children 91 = .ok (.isub, 1) := by decide +kernel
theorem dX10_children_92 : decode cX10_children 92 = .ok (.ireturn, 1) := by decide +kernel
theorem dX10_children_93 : decode cX10_children 93 = .ok (.iinc 1 1, 3) := by decide +kernel
theorem dX10_children_96 : decode cX10_children 96 = .ok (.aload_n 0, 1) := by decide +kernel
theorem dX10_children_97 : decode cX10_children 97 = .ok (.invokevirtual 87, 3) := by decide +kernel
theorem dX10_children_100 : decode cX10_children 100 = .ok (.goto (-79), 3) := by decide +kernel
theorem dX10_children_103 : decode cX10_children 103 = .ok (.aload_n 0, 1) := by decide +kernel
theorem dX10_children_104 : decode cX10_children 104 = .ok (.aload_n 0, 1) := by decide +kernel
theorem dX10_children_105 : decode cX10_children 105 = .ok (.getfield 90, 3) := by decide +kernel
theorem dX10_children_108 : decode cX10_children 108 = .ok (.putfield 39, 3) := by decide +kernel
theorem dX10_children_111 : decode cX10_children 111 = .ok (.iconst 0, 1) := by decide +kernel
theorem dX10_children_112 : decode cX10_children 112 = .ok (.istore_n 2, 1) := by decide +kernel
theorem dX10_children_113 : decode cX10_children 113 = .ok (.iload_n 2, 1) := by decide +kernel
theorem dX10_children_114 : decode cX10_children 114 = .ok (.aload_n 0, 1) := by decide +kernel
theorem dX10_children_115 : decode cX10_children 115 = .ok (.getfield 39, 3) := by decide +kernel
theorem dX10_children_118 : decode cX10_children 118 = .ok (.if_icmp .ge 55, 3) := by decide +kernel
theorem dX10_children_121 : decode cX10_children 121 = .ok (.aload_n 0, 1) := by decide +kernel
theorem dX10_children_122 : decode cX10_children 122 = .ok (.getfield 13, 3) := by decide +kernel
theorem dX10_children_125 : decode cX10_children 125 = .ok (.iload_n 2, 1) := by decide +kernel
theorem dX10_children_126 : decode cX10_children 126 = .ok (.aload_n 0, 1) := by decide +kernel
theorem dX10_children_127 : decode cX10_children 127 = .ok (.getfield 36, 3) := by decide +kernel
theorem dX10_children_130 : decode cX10_children 130 = .ok (.iconst 3, 1) := by decide +kernel
theorem dX10_children_131 : decode cX10_children 131 = .ok (.iload_n 2, 1) := by decide +kernel
theorem dX10_children_132 : decode cX10_children 132 = .ok (.imul, 1) := by decide +kernel
theorem dX10_children_133 : decode cX10_children 133 = .ok (.iaload, 1) := by decide +kernel
theorem dX10_children_134 : decode cX10_children 134 = .ok (.iastore, 1) := by decide +kernel
theorem dX10_children_135 : decode cX10_children 135 = .ok (.aload_n 0, 1) := by decide +kernel
theorem dX10_children_136 : decode cX10_children 136 = .ok (.getfield 16, 3) := by decide +kernel
theorem dX10_children_139 : decode cX10_children 139 = .ok (.iload_n 2, 1) := by decide +kernel
theorem dX10_children_140 : decode cX10_children 140 = .ok (.aload_n 0, 1) := by decide +kernel
theorem dX10_children_141 : decode cX10_children 141 = .ok (.getfield 36, 3) := by decide +kernel
theorem dX10_children_144 : decode cX10_children 144 = .ok (.iconst 3, 1) := by decide +kernel
theorem dX10_children_145 : decode cX10_children 145 = .ok (.iload_n 2, 1) := by decide +kernel
theorem dX10_children_146 : decode cX10_children 146 = .ok (.imul, 1) := by decide +kernel
theorem dX10_children_147 : decode cX10_children 147 = .ok (.iconst 1, 1) := by decide +kernel
theorem dX10_children_148 : decode cX10_children 148 = .ok (.iadd, 1) := by decide +kernel
theorem dX10_children_149 : decode cX10_children 149 = .ok (.iaload, 1) := by decide +kernel
theorem dX10_children_150 : decode cX10_children 150 = .ok (.iastore, 1) := by decide +kernel
theorem dX10_children_151 : decode cX10_children 151 = .ok (.aload_n 0, 1) := by decide +kernel
theorem dX10_children_152 : decode cX10_children 152 = .ok (.getfield 19, 3) := by decide +kernel
theorem dX10_children_155 : decode cX10_children 155 = .ok (.iload_n 2, 1) := by decide +kernel
theorem dX10_children_156 : decode cX10_children 156 = .ok (.aload_n 0, 1) := by decide +kernel
theorem dX10_children_157 : decode cX10_children 157 = .ok (.getfield 36, 3) := by decide +kernel
theorem dX10_children_160 : decode cX10_children 160 = .ok (.iconst 3, 1) := by decide +kernel
theorem dX10_children_161 : decode cX10_children 161 = .ok (.iload_n 2, 1) := by decide +kernel
theorem dX10_children_162 : decode cX10_children 162 = .ok (.imul, 1) := by decide +kernel
theorem dX10_children_163 : decode cX10_children 163 = .ok (.iconst 2, 1) := by decide +kernel
theorem dX10_children_164 : decode cX10_children 164 = .ok (.iadd, 1) := by decide +kernel
theorem dX10_children_165 : decode cX10_children 165 = .ok (.iaload, 1) := by decide +kernel
theorem dX10_children_166 : decode cX10_children 166 = .ok (.iastore, 1) := by decide +kernel
theorem dX10_children_167 : decode cX10_children 167 = .ok (.iinc 2 1, 3) := by decide +kernel
theorem dX10_children_170 : decode cX10_children 170 = .ok (.goto (-57), 3) := by decide +kernel
theorem dX10_children_173 : decode cX10_children 173 = .ok (.aload_n 0, 1) := by decide +kernel
theorem dX10_children_174 : decode cX10_children 174 = .ok (.aload_n 0, 1) := by decide +kernel
theorem dX10_children_175 : decode cX10_children 175 = .ok (.getfield 103, 3) := by decide +kernel
theorem dX10_children_178 : decode cX10_children 178 = .ok (.putfield 116, 3) := by decide +kernel
theorem dX10_children_181 : decode cX10_children 181 = .ok (.aload_n 0, 1) := by decide +kernel
theorem dX10_children_182 : decode cX10_children 182 = .ok (.iconst 1, 1) := by decide +kernel
theorem dX10_children_183 : decode cX10_children 183 = .ok (.aload_n 0, 1) := by decide +kernel
theorem dX10_children_184 : decode cX10_children 184 = .ok (.getfield 39, 3) := by decide +kernel
theorem dX10_children_187 : decode cX10_children 187 = .ok (.ishl, 1) := by decide +kernel
theorem dX10_children_188 : decode cX10_children 188 = .ok (.iconst 1, 1) := by decide +kernel
theorem dX10_children_189 : decode cX10_children 189 = .ok (.isub, 1) := by decide +kernel
theorem dX10_children_190 : decode cX10_children 190 = .ok (.putfield 119, 3) := by decide +kernel
theorem dX10_children_193 : decode cX10_children 193 = .ok (.aload_n 0, 1) := by decide +kernel
theorem dX10_children_194 : decode cX10_children 194 = .ok (.iconst 0, 1) := by decide +kernel
theorem dX10_children_195 : decode cX10_children 195 = .ok (.putfield 122, 3) := by decide +kernel
theorem dX10_children_198 : decode cX10_children 198 = .ok (.aload_n 0, 1) := by decide +kernel
theorem dX10_children_199 : decode cX10_children 199 = .ok (.iconst 0, 1) := by decide +kernel
theorem dX10_children_200 : decode cX10_children 200 = .ok (.putfield 125, 3) := by decide +kernel
theorem dX10_children_203 : decode cX10_children 203 = .ok (.aload_n 0, 1) := by decide +kernel
theorem dX10_children_204 : decode cX10_children 204 = .ok (.getfield 32, 3) := by decide +kernel
theorem dX10_children_207 : decode cX10_children 207 = .ok (.iconst 0, 1) := by decide +kernel
theorem dX10_children_208 : decode cX10_children 208 = .ok (.iconst 0, 1) := by decide +kernel
theorem dX10_children_209 : decode cX10_children 209 = .ok (.bastore, 1) := by decide +kernel
theorem dX10_children_210 : decode cX10_children 210 = .ok (.aload_n 0, 1) := by decide +kernel
theorem dX10_children_211 : decode cX10_children 211 = .ok (.getfield 32, 3) := by decide +kernel
theorem dX10_children_214 : decode cX10_children 214 = .ok (.iconst 1, 1) := by decide +kernel
theorem dX10_children_215 : decode cX10_children 215 = .ok (.iconst 0, 1) := by decide +kernel
theorem dX10_children_216 : decode cX10_children 216 = .ok (.bastore, 1) := by decide +kernel
theorem dX10_children_217 : decode cX10_children 217 = .ok (.aload_n 0, 1) := by decide +kernel
theorem dX10_children_218 : decode cX10_children 218 = .ok (.iconst 0, 1) := by decide +kernel
theorem dX10_children_219 : decode cX10_children 219 = .ok (.putfield 50, 3) := by decide +kernel
theorem dX10_children_222 : decode cX10_children 222 = .ok (.iload_n 1, 1) := by decide +kernel
theorem dX10_children_223 : decode cX10_children 223 = .ok (.ireturn, 1) := by decide +kernel
set_option maxRecDepth 20000 in
theorem ggX10_leaderOf_X10_has : GoodIn wsX10_leaderOf wsX10_has := goodIn_r _ [6] (by decide +kernel) (by decide +kernel)
set_option maxRecDepth 20000 in
theorem gX10_leaderOf_X10_has : GoodIn wsX10_leaderOf (va_wsS RX10 128 yX10_has wsX10_has) := goodIn_app (goodIn_of _ (by decide +kernel)) ggX10_leaderOf_X10_has
theorem dX10_leaderOf_0 : decode cX10_leaderOf 0 = .ok (.iload_n 1, 1) := by decide +kernel
theorem dX10_leaderOf_1 : decode cX10_leaderOf 1 = .ok (.istore_n 2, 1) := by decide +kernel
theorem dX10_leaderOf_2 : decode cX10_leaderOf 2 = .ok (.aload_n 0, 1) := by decide +kernel
theorem dX10_leaderOf_3 : decode cX10_leaderOf 3 = .ok (.getfield 19, 3) := by decide +kernel
theorem dX10_leaderOf_6 : decode cX10_leaderOf 6 = .ok (.iload_n 2, 1) := by decide +kernel
theorem dX10_leaderOf_7 : decode cX10_leaderOf 7 = .ok (.iaload, 1) := by decide +kernel
theorem dX10_leaderOf_8 : decode cX10_leaderOf 8 = .ok (.bipush 9, 2) := by decide +kernel
theorem dX10_leaderOf_10 : decode cX10_leaderOf 10 = .ok (.if_icmp .eq 29, 3) := by decide +kernel
theorem dX10_leaderOf_13 : decode cX10_leaderOf 13 = .ok (.aload_n 0, 1) := by decide +kernel
theorem dX10_leaderOf_14 : decode cX10_leaderOf 14 = .ok (.getfield 119, 3) := by decide +kernel
theorem dX10_leaderOf_17 : decode cX10_leaderOf 17 = .ok (.aload_n 0, 1) := by decide +kernel
theorem dX10_leaderOf_18 : decode cX10_leaderOf 18 = .ok (.getfield 19, 3) := by decide +kernel
theorem dX10_leaderOf_21 : decode cX10_leaderOf 21 = .ok (.iload_n 2, 1) := by decide +kernel
theorem dX10_leaderOf_22 : decode cX10_leaderOf 22 = .ok (.iaload, 1) := by decide +kernel
theorem dX10_leaderOf_23 : decode cX10_leaderOf 23 = .ok (.invokestatic 128, 3) := by decide +kernel
theorem dX10_leaderOf_26 : decode cX10_leaderOf 26 = .ok (.ifCond .eq 13, 3) := by decide +kernel
theorem dX10_leaderOf_29 : decode cX10_leaderOf 29 = .ok (.aload_n 0, 1) := by decide +kernel
theorem dX10_leaderOf_30 : decode cX10_leaderOf 30 = .ok (.getfield 19, 3) := by decide +kernel
theorem dX10_leaderOf_33 : decode cX10_leaderOf 33 = .ok (.iload_n 2, 1) := by decide +kernel
theorem dX10_leaderOf_34 : decode cX10_leaderOf 34 = .ok (.iaload, 1) := by decide +kernel
theorem dX10_leaderOf_35 : decode cX10_leaderOf 35 = .ok (.istore_n 2, 1) := by decide +kernel
theorem dX10_leaderOf_36 : decode cX10_leaderOf 36 = .ok (.goto (-34), 3) := by decide +kernel
theorem dX10_leaderOf_39 : decode cX10_leaderOf 39 = .ok (.iload_n 2, 1) := by decide +kernel
theorem dX10_leaderOf_40 : decode cX10_leaderOf 40 = .ok (.ireturn, 1) := by decide +kernel
set_option maxRecDepth 20000 in
theorem ggX10_ledBy_X10_has : GoodIn wsX10_ledBy wsX10_has := goodIn_r _ [6] (by decide +kernel) (by decide +kernel)
set_option maxRecDepth 20000 in
theorem gX10_ledBy_X10_has : GoodIn wsX10_ledBy (va_wsS RX10 128 yX10_has wsX10_has) := goodIn_app (goodIn_of _ (by decide +kernel)) ggX10_ledBy_X10_has
set_option maxRecDepth 20000 in
theorem ggX10_ledBy_X10_leaderOf : GoodIn wsX10_ledBy wsX10_leaderOf := goodIn_r _ [10, 11, 2, 3, 4, 5, 6, 12, 13, 14, 15, 16, 17, 18, 19, 20, 21, 22, 23, 24, 25, 26, 27, 28, 29, 30, 31, 32, 33, 34] (by decide +kernel) (by decide +kernel)
set_option maxRecDepth 20000 in
theorem gX10_ledBy_X10_leaderOf : GoodIn wsX10_ledBy (wsV RX10 131 RX10 yX10_leaderOf wsX10_leaderOf) := goodIn_app (goodIn_of _ (by decide +kernel)) ggX10_ledBy_X10_leaderOf
theorem dX10_ledBy_0 : decode cX10_ledBy 0 = .ok (.iconst 0, 1) := by decide +kernel
theorem dX10_ledBy_1 : decode cX10_ledBy 1 = .ok (.istore_n 2, 1) := by decide +kernel
theorem dX10_ledBy_2 : decode cX10_ledBy 2 = .ok (.iconst 0, 1) := by decide +kernel
theorem dX10_ledBy_3 : decode cX10_ledBy 3 = .ok (.istore_n 3, 1) := by decide +kernel
theorem dX10_ledBy_4 : decode cX10_ledBy 4 = .ok (.iload_n 3, 1) := by decide +kernel
theorem dX10_ledBy_5 : decode cX10_ledBy 5 = .ok (.aload_n 0, 1) := by decide +kernel
theorem dX10_ledBy_6 : decode cX10_ledBy 6 = .ok (.getfield 39, 3) := by decide +kernel
theorem dX10_ledBy_9 : decode cX10_ledBy 9 = .ok (.if_icmp .ge 39, 3) := by decide +kernel
theorem dX10_ledBy_12 : decode cX10_ledBy 12 = .ok (.iload_n 2, 1) := by decide +kernel
theorem dX10_ledBy_13 : decode cX10_ledBy 13 = .ok (.aload_n 0, 1) := by decide +kernel
theorem dX10_ledBy_14 : decode cX10_ledBy 14 = .ok (.getfield 119, 3) := by decide +kernel
theorem dX10_ledBy_17 : decode cX10_ledBy 17 = .ok (.iload_n 3, 1) := by decide +kernel
theorem dX10_ledBy_18 : decode cX10_ledBy 18 = .ok (.invokestatic 128, 3) := by decide +kernel
theorem dX10_ledBy_21 : decode cX10_ledBy 21 = .ok (.ifCond .eq 18, 3) := by decide +kernel
theorem dX10_ledBy_24 : decode cX10_ledBy 24 = .ok (.aload_n 0, 1) := by decide +kernel
theorem dX10_ledBy_25 : decode cX10_ledBy 25 = .ok (.iload_n 3, 1) := by decide +kernel
theorem dX10_ledBy_26 : decode cX10_ledBy 26 = .ok (.invokevirtual 131, 3) := by decide +kernel
theorem dX10_ledBy_29 : decode cX10_ledBy 29 = .ok (.iload_n 1, 1) := by decide +kernel
theorem dX10_ledBy_30 : decode cX10_ledBy 30 = .ok (.if_icmp .ne 9, 3) := by decide +kernel
theorem dX10_ledBy_33 : decode cX10_ledBy 33 = .ok (.iconst 1, 1) := by decide +kernel
theorem dX10_ledBy_34 : decode cX10_ledBy 34 = .ok (.iload_n 3, 1) := by decide +kernel
theorem dX10_ledBy_35 : decode cX10_ledBy 35 = .ok (.ishl, 1) := by decide +kernel
theorem dX10_ledBy_36 : decode cX10_ledBy 36 = .ok (.goto 4, 3) := by decide +kernel
theorem dX10_ledBy_39 : decode cX10_ledBy 39 = .ok (.iconst 0, 1) := by decide +kernel
theorem dX10_ledBy_40 : decode cX10_ledBy 40 = .ok (.ior, 1) := by decide +kernel
theorem dX10_ledBy_41 : decode cX10_ledBy 41 = .ok (.istore_n 2, 1) := by decide +kernel
theorem dX10_ledBy_42 : decode cX10_ledBy 42 = .ok (.iinc 3 1, 3) := by decide +kernel
theorem dX10_ledBy_45 : decode cX10_ledBy 45 = .ok (.goto (-41), 3) := by decide +kernel
theorem dX10_ledBy_48 : decode cX10_ledBy 48 = .ok (.iload_n 2, 1) := by decide +kernel
theorem dX10_ledBy_49 : decode cX10_ledBy 49 = .ok (.ireturn, 1) := by decide +kernel
theorem dX10_errsOf_0 : decode cX10_errsOf 0 = .ok (.iload_n 2, 1) := by decide +kernel
theorem dX10_errsOf_1 : decode cX10_errsOf 1 = .ok (.iconst 1, 1) := by decide +kernel
theorem dX10_errsOf_2 : decode cX10_errsOf 2 = .ok (.if_icmp .ne 7, 3) := by decide +kernel
theorem dX10_errsOf_5 : decode cX10_errsOf 5 = .ok (.iconst 0, 1) := by decide +kernel
theorem dX10_errsOf_6 : decode cX10_errsOf 6 = .ok (.goto 43, 3) := by decide +kernel
theorem dX10_errsOf_9 : decode cX10_errsOf 9 = .ok (.iload_n 2, 1) := by decide +kernel
theorem dX10_errsOf_10 : decode cX10_errsOf 10 = .ok (.iconst 2, 1) := by decide +kernel
theorem dX10_errsOf_11 : decode cX10_errsOf 11 = .ok (.if_icmp .ne 14, 3) := by decide +kernel
theorem dX10_errsOf_14 : decode cX10_errsOf 14 = .ok (.aload_n 0, 1) := by decide +kernel
theorem dX10_errsOf_15 : decode cX10_errsOf 15 = .ok (.getfield 13, 3) := by decide +kernel
theorem dX10_errsOf_18 : decode cX10_errsOf 18 = .ok (.iload_n 1, 1) := by decide +kernel
theorem dX10_errsOf_19 : decode cX10_errsOf 19 = .ok (.iaload, 1) := by decide +kernel
theorem dX10_errsOf_20 : decode cX10_errsOf 20 = .ok (.iload_n 3, 1) := by decide +kernel
theorem dX10_errsOf_21 : decode cX10_errsOf 21 = .ok (.iadd, 1) := by decide +kernel
theorem dX10_errsOf_22 : decode cX10_errsOf 22 = .ok (.goto 27, 3) := by decide +kernel
theorem dX10_errsOf_25 : decode cX10_errsOf 25 = .ok (.iload_n 2, 1) := by decide +kernel
theorem dX10_errsOf_26 : decode cX10_errsOf 26 = .ok (.iconst 3, 1) := by decide +kernel
theorem dX10_errsOf_27 : decode cX10_errsOf 27 = .ok (.if_icmp .ne 16, 3) := by decide +kernel
theorem dX10_errsOf_30 : decode cX10_errsOf 30 = .ok (.aload_n 0, 1) := by decide +kernel
theorem dX10_errsOf_31 : decode cX10_errsOf 31 = .ok (.getfield 13, 3) := by decide +kernel
theorem dX10_errsOf_34 : decode cX10_errsOf 34 = .ok (.iload_n 1, 1) := by decide +kernel
theorem dX10_errsOf_35 : decode cX10_errsOf 35 = .ok (.iaload, 1) := by decide +kernel
theorem dX10_errsOf_36 : decode cX10_errsOf 36 = .ok (.iload_n 3, 1) := by decide +kernel
theorem dX10_errsOf_37 : decode cX10_errsOf 37 = .ok (.iadd, 1) := by decide +kernel
theorem dX10_errsOf_38 : decode cX10_errsOf 38 = .ok (.iconst 2, 1) := by decide +kernel
theorem dX10_errsOf_39 : decode cX10_errsOf 39 = .ok (.iadd, 1) := by decide +kernel
theorem dX10_errsOf_40 : decode cX10_errsOf 40 = .ok (.goto 9, 3) := by decide +kernel
theorem dX10_errsOf_43 : decode cX10_errsOf 43 = .ok (.aload_n 0, 1) := by decide +kernel
theorem dX10_errsOf_44 : decode cX10_errsOf 44 = .ok (.getfield 16, 3) := by decide +kernel
theorem dX10_errsOf_47 : decode cX10_errsOf 47 = .ok (.iload_n 1, 1) := by decide +kernel
theorem dX10_errsOf_48 : decode cX10_errsOf 48 = .ok (.iaload, 1) := by decide +kernel
theorem dX10_errsOf_49 : decode cX10_errsOf 49 = .ok (.istore 4, 2) := by decide +kernel
theorem dX10_errsOf_51 : decode cX10_errsOf 51 = .ok (.iload 4, 2) := by decide +kernel
theorem dX10_errsOf_53 : decode cX10_errsOf 53 = .ok (.bipush 10, 2) := by decide +kernel
theorem dX10_errsOf_55 : decode cX10_errsOf 55 = .ok (.if_icmp .ge 8, 3) := by decide +kernel
theorem dX10_errsOf_58 : decode cX10_errsOf 58 = .ok (.iload 4, 2) := by decide +kernel
theorem dX10_errsOf_60 : decode cX10_errsOf 60 = .ok (.goto 5, 3) := by decide +kernel
theorem dX10_errsOf_63 : decode cX10_errsOf 63 = .ok (.bipush 10, 2) := by decide +kernel
theorem dX10_errsOf_65 : decode cX10_errsOf 65 = .ok (.ireturn, 1) := by decide +kernel
theorem dX10_streakBehind_0 : decode cX10_streakBehind 0 = .ok (.iload_n 1, 1) := by decide +kernel
theorem dX10_streakBehind_1 : decode cX10_streakBehind 1 = .ok (.iconst 2, 1) := by decide +kernel
theorem dX10_streakBehind_2 : decode cX10_streakBehind 2 = .ok (.if_icmp .eq 8, 3) := by decide +kernel
theorem dX10_streakBehind_5 : decode cX10_streakBehind 5 = .ok (.iload_n 1, 1) := by decide +kernel
theorem dX10_streakBehind_6 : decode cX10_streakBehind 6 = .ok (.iconst 3, 1) := by decide +kernel
theorem dX10_streakBehind_7 : decode cX10_streakBehind 7 = .ok (.if_icmp .ne 7, 3) := by decide +kernel
theorem dX10_streakBehind_10 : decode cX10_streakBehind 10 = .ok (.iconst 0, 1) := by decide +kernel
theorem dX10_streakBehind_11 : decode cX10_streakBehind 11 = .ok (.goto 17, 3) := by decide +kernel
theorem dX10_streakBehind_14 : decode cX10_streakBehind 14 = .ok (.iload_n 0, 1) := by decide +kernel
theorem dX10_streakBehind_15 : decode cX10_streakBehind 15 = .ok (.bipush 9, 2) := by decide +kernel
theorem dX10_streakBehind_17 : decode cX10_streakBehind 17 = .ok (.if_icmp .ge 9, 3) := by decide +kernel
theorem dX10_streakBehind_20 : decode cX10_streakBehind 20 = .ok (.iload_n 0, 1) := by decide +kernel
theorem dX10_streakBehind_21 : decode cX10_streakBehind 21 = .ok (.iconst 1, 1) := by decide +kernel
theorem dX10_streakBehind_22 : decode cX10_streakBehind 22 = .ok (.iadd, 1) := by decide +kernel
theorem dX10_streakBehind_23 : decode cX10_streakBehind 23 = .ok (.goto 5, 3) := by decide +kernel
theorem dX10_streakBehind_26 : decode cX10_streakBehind 26 = .ok (.bipush 9, 2) := by decide +kernel
theorem dX10_streakBehind_28 : decode cX10_streakBehind 28 = .ok (.ireturn, 1) := by decide +kernel
theorem dX10_fair_0 : decode cX10_fair 0 = .ok (.iconst 1, 1) := by decide +kernel
theorem dX10_fair_1 : decode cX10_fair 1 = .ok (.aload_n 0, 1) := by decide +kernel
theorem dX10_fair_2 : decode cX10_fair 2 = .ok (.getfield 39, 3) := by decide +kernel
theorem dX10_fair_5 : decode cX10_fair 5 = .ok (.ishl, 1) := by decide +kernel
theorem dX10_fair_6 : decode cX10_fair 6 = .ok (.iconst 1, 1) := by decide +kernel
theorem dX10_fair_7 : decode cX10_fair 7 = .ok (.isub, 1) := by decide +kernel
theorem dX10_fair_8 : decode cX10_fair 8 = .ok (.istore_n 1, 1) := by decide +kernel
theorem dX10_fair_9 : decode cX10_fair 9 = .ok (.aload_n 0, 1) := by decide +kernel
theorem dX10_fair_10 : decode cX10_fair 10 = .ok (.getfield 116, 3) := by decide +kernel
theorem dX10_fair_13 : decode cX10_fair 13 = .ok (.aload_n 0, 1) := by decide +kernel
theorem dX10_fair_14 : decode cX10_fair 14 = .ok (.getfield 119, 3) := by decide +kernel
theorem dX10_fair_17 : decode cX10_fair 17 = .ok (.iconst (-1), 1) := by decide +kernel
theorem dX10_fair_18 : decode cX10_fair 18 = .ok (.ixor, 1) := by decide +kernel
theorem dX10_fair_19 : decode cX10_fair 19 = .ok (.iand, 1) := by decide +kernel
theorem dX10_fair_20 : decode cX10_fair 20 = .ok (.ifCond .eq 23, 3) := by decide +kernel
theorem dX10_fair_23 : decode cX10_fair 23 = .ok (.aload_n 0, 1) := by decide +kernel
theorem dX10_fair_24 : decode cX10_fair 24 = .ok (.getfield 119, 3) := by decide +kernel
theorem dX10_fair_27 : decode cX10_fair 27 = .ok (.iload_n 1, 1) := by decide +kernel
theorem dX10_fair_28 : decode cX10_fair 28 = .ok (.iand, 1) := by decide +kernel
theorem dX10_fair_29 : decode cX10_fair 29 = .ok (.aload_n 0, 1) := by decide +kernel
theorem dX10_fair_30 : decode cX10_fair 30 = .ok (.getfield 116, 3) := by decide +kernel
theorem dX10_fair_33 : decode cX10_fair 33 = .ok (.iconst (-1), 1) := by decide +kernel
theorem dX10_fair_34 : decode cX10_fair 34 = .ok (.ixor, 1) := by decide +kernel
theorem dX10_fair_35 : decode cX10_fair 35 = .ok (.iand, 1) := by decide +kernel
theorem dX10_fair_36 : decode cX10_fair 36 = .ok (.ifCond .eq 7, 3) := by decide +kernel
theorem dX10_fair_39 : decode cX10_fair 39 = .ok (.iconst 0, 1) := by decide +kernel
theorem dX10_fair_40 : decode cX10_fair 40 = .ok (.goto 4, 3) := by decide +kernel
theorem dX10_fair_43 : decode cX10_fair 43 = .ok (.iconst 1, 1) := by decide +kernel
theorem dX10_fair_44 : decode cX10_fair 44 = .ok (.ireturn, 1) := by decide +kernel
set_option maxRecDepth 20000 in
theorem ggX10_child_X10_isChild : GoodIn wsX10_child wsX10_isChild := goodIn_r _ [11, 12, 13, 14, 10, 15, 23, 24, 25, 26, 27, 28, 29, 30, 31, 32, 33, 34, 35, 36, 37, 38, 39, 40, 41, 42, 43, 44, 45] (by decide +kernel) (by decide +kernel)
set_option maxRecDepth 20000 in
theorem gX10_child_X10_isChild : GoodIn wsX10_child (wsV RX10 135 RX10 yX10_isChild wsX10_isChild) := goodIn_app (goodIn_of _ (by decide +kernel)) ggX10_child_X10_isChild
set_option maxRecDepth 20000 in
theorem ggX10_child_X10_within : GoodIn wsX10_child wsX10_within := goodIn_r _ [15] (by decide +kernel) (by decide +kernel)
set_option maxRecDepth 20000 in
theorem gX10_child_X10_within : GoodIn wsX10_child (va_wsS RX10 42 yX10_within wsX10_within) := goodIn_app (goodIn_of _ (by decide +kernel)) ggX10_child_X10_within
set_option maxRecDepth 20000 in
theorem ggX10_child_X10_has : GoodIn wsX10_child wsX10_has := goodIn_r _ [18] (by decide +kernel) (by decide +kernel)
set_option maxRecDepth 20000 in
theorem gX10_child_X10_has : GoodIn wsX10_child (va_wsS RX10 128 yX10_has wsX10_has) := goodIn_app (goodIn_of _ (by decide +kernel)) ggX10_child_X10_has
set_option maxRecDepth 20000 in
theorem ggX10_child_X10_leaderOf : GoodIn wsX10_child wsX10_leaderOf := goodIn_r _ [22, 4, 6, 16, 17, 10, 18, 23, 24, 25, 26, 27, 28, 29, 30, 31, 32, 33, 34, 35, 36, 37, 38, 39, 40, 41, 42, 43, 44, 45] (by decide +kernel) (by decide +kernel)
set_option maxRecDepth 20000 in
theorem gX10_child_X10_leaderOf : GoodIn wsX10_child (wsV RX10 131 RX10 yX10_leaderOf wsX10_leaderOf) := goodIn_app (goodIn_of _ (by decide +kernel)) ggX10_child_X10_leaderOf
theorem dX10_child_0 : decode cX10_child 0 = .ok (.aload_n 0, 1) := by decide +kernel
theorem dX10_child_1 : decode cX10_child 1 = .ok (.iload_n 1, 1) := by decide +kernel
theorem dX10_child_2 : decode cX10_child 2 = .ok (.invokevirtual 135, 3) := by decide +kernel
theorem dX10_child_5 : decode cX10_child 5 = .ok (.ifCond .eq 15, 3) := by decide +kernel
theorem dX10_child_8 : decode cX10_child 8 = .ok (.iload_n 2, 1) := by decide +kernel
theorem dX10_child_9 : decode cX10_child 9 = .ok (.i2l, 1) := by decide +kernel
theorem dX10_child_10 : decode cX10_child 10 = .ok (.lconst 0, 1) := by decide +kernel
theorem dX10_child_11 : decode cX10_child 11 = .ok (.ldc2_w 138, 3) := by decide +kernel
theorem dX10_child_14 : decode cX10_child 14 = .ok (.invokestatic 42, 3) := by decide +kernel
theorem dX10_child_17 : decode cX10_child 17 = .ok (.ifCond .ne 5, 3) := by decide +kernel
theorem dX10_child_20 : decode cX10_child 20 = .ok (.iconst (-1), 1) := by decide +kernel
theorem dX10_child_21 : decode cX10_child 21 = .ok (.ireturn, 1) := by decide +kernel
theorem dX10_child_22 : decode cX10_child 22 = .ok (.iload_n 2, 1) := by decide +kernel
theorem dX10_child_23 : decode cX10_child 23 = .ok (.tableswitch 72 0 4 #[33, 40, 47, 54, 63], 33) := by decide +kernel
theorem dX10_child_56 : decode cX10_child 56 = .ok (.aload_n 0, 1) := by decide +kernel
theorem dX10_child_57 : decode cX10_child 57 = .ok (.getfield 13, 3) := by decide +kernel
theorem dX10_child_60 : decode cX10_child 60 = .ok (.iload_n 1, 1) := by decide +kernel
theorem dX10_child_61 : decode cX10_child 61 = .ok (.iaload, 1) := by decide +kernel
theorem dX10_child_62 : decode cX10_child 62 = .ok (.ireturn, 1) := by decide +kernel
theorem dX10_child_63 : decode cX10_child 63 = .ok (.aload_n 0, 1) := by decide +kernel
theorem dX10_child_64 : decode cX10_child 64 = .ok (.getfield 16, 3) := by decide +kernel
theorem dX10_child_67 : decode cX10_child 67 = .ok (.iload_n 1, 1) := by decide +kernel
theorem dX10_child_68 : decode cX10_child 68 = .ok (.iaload, 1) := by decide +kernel
theorem dX10_child_69 : decode cX10_child 69 = .ok (.ireturn, 1) := by decide +kernel
theorem dX10_child_70 : decode cX10_child 70 = .ok (.aload_n 0, 1) := by decide +kernel
theorem dX10_child_71 : decode cX10_child 71 = .ok (.getfield 19, 3) := by decide +kernel
theorem dX10_child_74 : decode cX10_child 74 = .ok (.iload_n 1, 1) := by decide +kernel
theorem dX10_child_75 : decode cX10_child 75 = .ok (.iaload, 1) := by decide +kernel
theorem dX10_child_76 : decode cX10_child 76 = .ok (.ireturn, 1) := by decide +kernel
theorem dX10_child_77 : decode cX10_child 77 = .ok (.aload_n 0, 1) := by decide +kernel
theorem dX10_child_78 : decode cX10_child 78 = .ok (.getfield 116, 3) := by decide +kernel
theorem dX10_child_81 : decode cX10_child 81 = .ok (.iload_n 1, 1) := by decide +kernel
theorem dX10_child_82 : decode cX10_child 82 = .ok (.ishr, 1) := by decide +kernel
theorem dX10_child_83 : decode cX10_child 83 = .ok (.iconst 1, 1) := by decide +kernel
theorem dX10_child_84 : decode cX10_child 84 = .ok (.iand, 1) := by decide +kernel
theorem dX10_child_85 : decode cX10_child 85 = .ok (.ireturn, 1) := by decide +kernel
theorem dX10_child_86 : decode cX10_child 86 = .ok (.aload_n 0, 1) := by decide +kernel
theorem dX10_child_87 : decode cX10_child 87 = .ok (.getfield 119, 3) := by decide +kernel
theorem dX10_child_90 : decode cX10_child 90 = .ok (.iload_n 1, 1) := by decide +kernel
theorem dX10_child_91 : decode cX10_child 91 = .ok (.ishr, 1) := by decide +kernel
theorem dX10_child_92 : decode cX10_child 92 = .ok (.iconst 1, 1) := by decide +kernel
theorem dX10_child_93 : decode cX10_child 93 = .ok (.iand, 1) := by decide +kernel
theorem dX10_child_94 : decode cX10_child 94 = .ok (.ireturn, 1) := by decide +kernel
theorem dX10_child_95 : decode cX10_child 95 = .ok (.aload_n 0, 1) := by decide +kernel
theorem dX10_child_96 : decode cX10_child 96 = .ok (.getfield 119, 3) := by decide +kernel
theorem dX10_child_99 : decode cX10_child 99 = .ok (.iload_n 1, 1) := by decide +kernel
theorem dX10_child_100 : decode cX10_child 100 = .ok (.invokestatic 128, 3) := by decide +kernel
theorem dX10_child_103 : decode cX10_child 103 = .ok (.ifCond .eq 11, 3) := by decide +kernel
theorem dX10_child_106 : decode cX10_child 106 = .ok (.aload_n 0, 1) := by decide +kernel
theorem dX10_child_107 : decode cX10_child 107 = .ok (.iload_n 1, 1) := by decide +kernel
theorem dX10_child_108 : decode cX10_child 108 = .ok (.invokevirtual 131, 3) := by decide +kernel
theorem dX10_child_111 : decode cX10_child 111 = .ok (.goto 5, 3) := by decide +kernel
theorem dX10_child_114 : decode cX10_child 114 = .ok (.bipush (-9), 2) := by decide +kernel
theorem dX10_child_116 : decode cX10_child 116 = .ok (.ireturn, 1) := by decide +kernel
set_option maxRecDepth 20000 in
theorem ggX10_now_X10_fair : GoodIn wsX10_now wsX10_fair := goodIn_r _ [8, 9, 10, 1, 11, 12, 13, 14, 15, 16, 17, 18, 19, 20, 21, 22, 23, 24, 25, 26, 27, 28, 29, 30, 31, 32, 33] (by decide +kernel) (by decide +kernel)
set_option maxRecDepth 20000 in
theorem gX10_now_X10_fair : GoodIn wsX10_now (wsV RX10 140 RX10 yX10_fair wsX10_fair) := goodIn_app (goodIn_of _ (by decide +kernel)) ggX10_now_X10_fair
theorem dX10_now_0 : decode cX10_now 0 = .ok (.iload_n 1, 1) := by decide +kernel
theorem dX10_now_1 : decode cX10_now 1 = .ok (.ifCond .ne 10, 3) := by decide +kernel
theorem dX10_now_4 : decode cX10_now 4 = .ok (.aload_n 0, 1) := by decide +kernel
theorem dX10_now_5 : decode cX10_now 5 = .ok (.getfield 119, 3) := by decide +kernel
theorem dX10_now_8 : decode cX10_now 8 = .ok (.goto 40, 3) := by decide +kernel
theorem dX10_now_11 : decode cX10_now 11 = .ok (.iload_n 1, 1) := by decide +kernel
theorem dX10_now_12 : decode cX10_now 12 = .ok (.iconst 1, 1) := by decide +kernel
theorem dX10_now_13 : decode cX10_now 13 = .ok (.if_icmp .ne 10, 3) := by decide +kernel
theorem dX10_now_16 : decode cX10_now 16 = .ok (.aload_n 0, 1) := by decide +kernel
theorem dX10_now_17 : decode cX10_now 17 = .ok (.getfield 122, 3) := by decide +kernel
theorem dX10_now_20 : decode cX10_now 20 = .ok (.goto 28, 3) := by decide +kernel
theorem dX10_now_23 : decode cX10_now 23 = .ok (.iload_n 1, 1) := by decide +kernel
theorem dX10_now_24 : decode cX10_now 24 = .ok (.iconst 2, 1) := by decide +kernel
theorem dX10_now_25 : decode cX10_now 25 = .ok (.if_icmp .ne 10, 3) := by decide +kernel
theorem dX10_now_28 : decode cX10_now 28 = .ok (.aload_n 0, 1) := by decide +kernel
theorem dX10_now_29 : decode cX10_now 29 = .ok (.invokevirtual 140, 3) := by decide +kernel
theorem dX10_now_32 : decode cX10_now 32 = .ok (.goto 16, 3) := by decide +kernel
theorem dX10_now_35 : decode cX10_now 35 = .ok (.iload_n 1, 1) := by decide +kernel
theorem dX10_now_36 : decode cX10_now 36 = .ok (.iconst 3, 1) := by decide +kernel
theorem dX10_now_37 : decode cX10_now 37 = .ok (.if_icmp .ne 10, 3) := by decide +kernel
theorem dX10_now_40 : decode cX10_now 40 = .ok (.aload_n 0, 1) := by decide +kernel
theorem dX10_now_41 : decode cX10_now 41 = .ok (.getfield 125, 3) := by decide +kernel
theorem dX10_now_44 : decode cX10_now 44 = .ok (.goto 4, 3) := by decide +kernel
theorem dX10_now_47 : decode cX10_now 47 = .ok (.iconst (-1), 1) := by decide +kernel
theorem dX10_now_48 : decode cX10_now 48 = .ok (.ireturn, 1) := by decide +kernel
set_option maxRecDepth 20000 in
theorem ggX10_errs_X10_isChild : GoodIn wsX10_errs wsX10_isChild := goodIn_r _ [7, 8, 9, 10, 6, 11, 25, 26, 27, 28, 29, 30, 31, 32, 33, 34, 35, 36, 37, 38, 39, 40, 41, 42, 43, 44, 45, 46, 47] (by decide +kernel) (by decide +kernel)
set_option maxRecDepth 20000 in
theorem gX10_errs_X10_isChild : GoodIn wsX10_errs (wsV RX10 135 RX10 yX10_isChild wsX10_isChild) := goodIn_app (goodIn_of _ (by decide +kernel)) ggX10_errs_X10_isChild
set_option maxRecDepth 20000 in
theorem ggX10_errs_X10_isOrder : GoodIn wsX10_errs wsX10_isOrder := goodIn_r _ [14, 15, 9, 10, 6, 11] (by decide +kernel) (by decide +kernel)
set_option maxRecDepth 20000 in
theorem gX10_errs_X10_isOrder : GoodIn wsX10_errs (va_wsS RX10 144 yX10_isOrder wsX10_isOrder) := goodIn_app (goodIn_of _ (by decide +kernel)) ggX10_errs_X10_isOrder
set_option maxRecDepth 20000 in
theorem ggX10_errs_X10_has : GoodIn wsX10_errs wsX10_has := goodIn_r _ [18] (by decide +kernel) (by decide +kernel)
set_option maxRecDepth 20000 in
theorem gX10_errs_X10_has : GoodIn wsX10_errs (va_wsS RX10 128 yX10_has wsX10_has) := goodIn_app (goodIn_of _ (by decide +kernel)) ggX10_errs_X10_has
set_option maxRecDepth 20000 in
theorem ggX10_errs_X10_errsOf : GoodIn wsX10_errs wsX10_errsOf := goodIn_r _ [22, 23, 24, 25, 26, 27, 28, 29, 30, 31, 32, 33, 34, 35, 36, 37, 38, 39, 40, 41, 42, 43, 44, 45, 46, 47] (by decide +kernel) (by decide +kernel)
set_option maxRecDepth 20000 in
theorem gX10_errs_X10_errsOf : GoodIn wsX10_errs (wsV RX10 147 RX10 yX10_errsOf wsX10_errsOf) := goodIn_app (goodIn_of _ (by decide +kernel)) ggX10_errs_X10_errsOf
theorem dX10_errs_0 : decode cX10_errs 0 = .ok (.aload_n 0, 1) := by decide +kernel
theorem dX10_errs_1 : decode cX10_errs 1 = .ok (.iload_n 1, 1) := by decide +kernel
theorem dX10_errs_2 : decode cX10_errs 2 = .ok (.invokevirtual 135, 3) := by decide +kernel
theorem dX10_errs_5 : decode cX10_errs 5 = .ok (.ifCond .eq 10, 3) := by decide +kernel
theorem dX10_errs_8 : decode cX10_errs 8 = .ok (.iload_n 2, 1) := by decide +kernel
theorem dX10_errs_9 : decode cX10_errs 9 = .ok (.invokestatic 144, 3) := by decide +kernel
theorem dX10_errs_12 : decode cX10_errs 12 = .ok (.ifCond .ne 5, 3) := by decide +kernel
theorem dX10_errs_15 : decode cX10_errs 15 = .ok (.iconst (-1), 1) := by decide +kernel
theorem dX10_errs_16 : decode cX10_errs 16 = .ok (.ireturn, 1) := by decide +kernel
theorem dX10_errs_17 : decode cX10_errs 17 = .ok (.aload_n 0, 1) := by decide +kernel
theorem dX10_errs_18 : decode cX10_errs 18 = .ok (.getfield 119, 3) := by decide +kernel
theorem dX10_errs_21 : decode cX10_errs 21 = .ok (.iload_n 1, 1) := by decide +kernel
theorem dX10_errs_22 : decode cX10_errs 22 = .ok (.invokestatic 128, 3) := by decide +kernel
theorem dX10_errs_25 : decode cX10_errs 25 = .ok (.ifCond .eq 16, 3) := by decide +kernel
theorem dX10_errs_28 : decode cX10_errs 28 = .ok (.aload_n 0, 1) := by decide +kernel
theorem dX10_errs_29 : decode cX10_errs 29 = .ok (.iload_n 1, 1) := by decide +kernel
theorem dX10_errs_30 : decode cX10_errs 30 = .ok (.iload_n 2, 1) := by decide +kernel
theorem dX10_errs_31 : decode cX10_errs 31 = .ok (.aload_n 0, 1) := by decide +kernel
theorem dX10_errs_32 : decode cX10_errs 32 = .ok (.getfield 122, 3) := by decide +kernel
theorem dX10_errs_35 : decode cX10_errs 35 = .ok (.invokevirtual 147, 3) := by decide +kernel
theorem dX10_errs_38 : decode cX10_errs 38 = .ok (.goto 5, 3) := by decide +kernel
theorem dX10_errs_41 : decode cX10_errs 41 = .ok (.bipush (-2), 2) := by decide +kernel
theorem dX10_errs_43 : decode cX10_errs 43 = .ok (.ireturn, 1) := by decide +kernel
theorem dX10_remember_0 : decode cX10_remember 0 = .ok (.aload_n 0, 1) := by decide +kernel
theorem dX10_remember_1 : decode cX10_remember 1 = .ok (.getfield 125, 3) := by decide +kernel
theorem dX10_remember_4 : decode cX10_remember 4 = .ok (.bipush 12, 2) := by decide +kernel
theorem dX10_remember_6 : decode cX10_remember 6 = .ok (.if_icmp .ne 41, 3) := by decide +kernel
theorem dX10_remember_9 : decode cX10_remember 9 = .ok (.iconst 0, 1) := by decide +kernel
theorem dX10_remember_10 : decode cX10_remember 10 = .ok (.istore_n 1, 1) := by decide +kernel
theorem dX10_remember_11 : decode cX10_remember 11 = .ok (.iload_n 1, 1) := by decide +kernel
theorem dX10_remember_12 : decode cX10_remember 12 = .ok (.bipush 22, 2) := by decide +kernel
theorem dX10_remember_14 : decode cX10_remember 14 = .ok (.if_icmp .ge 23, 3) := by decide +kernel
theorem dX10_remember_17 : decode cX10_remember 17 = .ok (.aload_n 0, 1) := by decide +kernel
theorem dX10_remember_18 : decode cX10_remember 18 = .ok (.getfield 26, 3) := by decide +kernel
theorem dX10_remember_21 : decode cX10_remember 21 = .ok (.iload_n 1, 1) := by decide +kernel
theorem dX10_remember_22 : decode cX10_remember 22 = .ok (.aload_n 0, 1) := by decide +kernel
theorem dX10_remember_23 : decode cX10_remember 23 = .ok (.getfield 26, 3) := by decide +kernel
theorem dX10_remember_26 : decode cX10_remember 26 = .ok (.iload_n 1, 1) := by decide +kernel
theorem dX10_remember_27 : decode cX10_remember 27 = .ok (.iconst 2, 1) := by decide +kernel
theorem dX10_remember_28 : decode cX10_remember 28 = .ok (.iadd, 1) := by decide +kernel
theorem dX10_remember_29 : decode cX10_remember 29 = .ok (.iaload, 1) := by decide +kernel
theorem dX10_remember_30 : decode cX10_remember 30 = .ok (.iastore, 1) := by decide +kernel
theorem dX10_remember_31 : decode cX10_remember 31 = .ok (.iinc 1 1, 3) := by decide +kernel
theorem dX10_remember_34 : decode cX10_remember 34 = .ok (.goto (-23), 3) := by decide +kernel
theorem dX10_remember_37 : decode cX10_remember 37 = .ok (.aload_n 0, 1) := by decide +kernel
theorem dX10_remember_38 : decode cX10_remember 38 = .ok (.dup, 1) := by decide +kernel
theorem dX10_remember_39 : decode cX10_remember 39 = .ok (.getfield 125, 3) := by decide +kernel
theorem dX10_remember_42 : decode cX10_remember 42 = .ok (.iconst 1, 1) := by decide +kernel
theorem dX10_remember_43 : decode cX10_remember 43 = .ok (.isub, 1) := by decide +kernel
theorem dX10_remember_44 : decode cX10_remember 44 = .ok (.putfield 125, 3) := by decide +kernel
theorem dX10_remember_47 : decode cX10_remember 47 = .ok (.aload_n 0, 1) := by decide +kernel
theorem dX10_remember_48 : decode cX10_remember 48 = .ok (.getfield 26, 3) := by decide +kernel
theorem dX10_remember_51 : decode cX10_remember 51 = .ok (.iconst 2, 1) := by decide +kernel
theorem dX10_remember_52 : decode cX10_remember 52 = .ok (.aload_n 0, 1) := by decide +kernel
theorem dX10_remember_53 : decode cX10_remember 53 = .ok (.getfield 125, 3) := by decide +kernel
theorem dX10_remember_56 : decode cX10_remember 56 = .ok (.imul, 1) := by decide +kernel
theorem dX10_remember_57 : decode cX10_remember 57 = .ok (.aload_n 0, 1) := by decide +kernel
theorem dX10_remember_58 : decode cX10_remember 58 = .ok (.getfield 119, 3) := by decide +kernel
theorem dX10_remember_61 : decode cX10_remember 61 = .ok (.iastore, 1) := by decide +kernel
theorem dX10_remember_62 : decode cX10_remember 62 = .ok (.aload_n 0, 1) := by decide +kernel
theorem dX10_remember_63 : decode cX10_remember 63 = .ok (.getfield 26, 3) := by decide +kernel
theorem dX10_remember_66 : decode cX10_remember 66 = .ok (.iconst 2, 1) := by decide +kernel
theorem dX10_remember_67 : decode cX10_remember 67 = .ok (.aload_n 0, 1) := by decide +kernel
theorem dX10_remember_68 : decode cX10_remember 68 = .ok (.getfield 125, 3) := by decide +kernel
theorem dX10_remember_71 : decode cX10_remember 71 = .ok (.imul, 1) := by decide +kernel
theorem dX10_remember_72 : decode cX10_remember 72 = .ok (.iconst 1, 1) := by decide +kernel
theorem dX10_remember_73 : decode cX10_remember 73 = .ok (.iadd, 1) := by decide +kernel
theorem dX10_remember_74 : decode cX10_remember 74 = .ok (.aload_n 0, 1) := by decide +kernel
theorem dX10_remember_75 : decode cX10_remember 75 = .ok (.getfield 122, 3) := by decide +kernel
theorem dX10_remember_78 : decode cX10_remember 78 = .ok (.iastore, 1) := by decide +kernel
theorem dX10_remember_79 : decode cX10_remember 79 = .ok (.aload_n 0, 1) := by decide +kernel
theorem dX10_remember_80 : decode cX10_remember 80 = .ok (.dup, 1) := by decide +kernel
theorem dX10_remember_81 : decode cX10_remember 81 = .ok (.getfield 125, 3) := by decide +kernel
theorem dX10_remember_84 : decode cX10_remember 84 = .ok (.iconst 1, 1) := by decide +kernel
theorem dX10_remember_85 : decode cX10_remember 85 = .ok (.iadd, 1) := by decide +kernel
theorem dX10_remember_86 : decode cX10_remember 86 = .ok (.putfield 125, 3) := by decide +kernel
theorem dX10_remember_89 : decode cX10_remember 89 = .ok (.return_, 1) := by decide +kernel
set_option maxRecDepth 20000 in
theorem ggX10_call_X10_isOrder : GoodIn wsX10_call wsX10_isOrder := goodIn_r _ [9, 10, 11, 12, 8, 13] (by decide +kernel) (by decide +kernel)
set_option maxRecDepth 20000 in
theorem gX10_call_X10_isOrder : GoodIn wsX10_call (va_wsS RX10 144 yX10_isOrder wsX10_isOrder) := goodIn_app (goodIn_of _ (by decide +kernel)) ggX10_call_X10_isOrder
set_option maxRecDepth 20000 in
theorem ggX10_call_X10_has : GoodIn wsX10_call wsX10_has := goodIn_r _ [16] (by decide +kernel) (by decide +kernel)
set_option maxRecDepth 20000 in
theorem gX10_call_X10_has : GoodIn wsX10_call (va_wsS RX10 128 yX10_has wsX10_has) := goodIn_app (goodIn_of _ (by decide +kernel)) ggX10_call_X10_has
set_option maxRecDepth 20000 in
theorem ggX10_call_X10_leaderOf : GoodIn wsX10_call wsX10_leaderOf := goodIn_r _ [20, 21, 1, 14, 15, 8, 16, 41, 42, 43, 44, 45, 46, 47, 48, 49, 50, 51, 52, 53, 54, 55, 56, 57, 58, 59, 60, 61, 62, 63] (by decide +kernel) (by decide +kernel)
set_option maxRecDepth 20000 in
theorem gX10_call_X10_leaderOf : GoodIn wsX10_call (wsV RX10 131 RX10 yX10_leaderOf wsX10_leaderOf) := goodIn_app (goodIn_of _ (by decide +kernel)) ggX10_call_X10_leaderOf
set_option maxRecDepth 20000 in
theorem ggX10_call_X10_errsOf : GoodIn wsX10_call wsX10_errsOf := goodIn_r _ [25, 26, 27, 41, 42, 43, 44, 45, 46, 47, 48, 49, 50, 51, 52, 53, 54, 55, 56, 57, 58, 59, 60, 61, 62, 63] (by decide +kernel) (by decide +kernel)
set_option maxRecDepth 20000 in
theorem gX10_call_X10_errsOf : GoodIn wsX10_call (wsV RX10 147 RX10 yX10_errsOf wsX10_errsOf) := goodIn_app (goodIn_of _ (by decide +kernel)) ggX10_call_X10_errsOf
set_option maxRecDepth 20000 in
theorem ggX10_call_X10_ledBy : GoodIn wsX10_call wsX10_ledBy := goodIn_r _ [31, 2, 1, 14, 15, 8, 16, 17, 18, 19, 20, 21, 41, 42, 43, 44, 45, 46, 47, 48, 49, 50, 51, 52, 53, 54, 55, 56, 57, 58, 59, 60, 61, 62, 63] (by decide +kernel) (by decide +kernel)
set_option maxRecDepth 20000 in
theorem gX10_call_X10_ledBy : GoodIn wsX10_call (wsV RX10 152 RX10 yX10_ledBy wsX10_ledBy) := goodIn_app (goodIn_of _ (by decide +kernel)) ggX10_call_X10_ledBy
set_option maxRecDepth 20000 in
theorem ggX10_call_X10_remember : GoodIn wsX10_call wsX10_remember := goodIn_r _ [35, 36, 37, 1, 5, 41, 42, 43, 44, 45, 46, 47, 48, 49, 50, 51, 52, 53, 54, 55, 56, 57, 58, 59, 60, 61, 62, 63] (by decide +kernel) (by decide +kernel)
set_option maxRecDepth 20000 in
theorem gX10_call_X10_remember : GoodIn wsX10_call (wsV RX10 155 RX10 yX10_remember wsX10_remember) := goodIn_app (goodIn_of _ (by decide +kernel)) ggX10_call_X10_remember
set_option maxRecDepth 20000 in
theorem ggX10_call_X10_streakBehind : GoodIn wsX10_call wsX10_streakBehind := goodIn_r _ [40] (by decide +kernel) (by decide +kernel)
set_option maxRecDepth 20000 in
theorem gX10_call_X10_streakBehind : GoodIn wsX10_call (va_wsS RX10 158 yX10_streakBehind wsX10_streakBehind) := goodIn_app (goodIn_of _ (by decide +kernel)) ggX10_call_X10_streakBehind
theorem dX10_call_0 : decode cX10_call 0 = .ok (.iload_n 1, 1) := by decide +kernel
theorem dX10_call_1 : decode cX10_call 1 = .ok (.invokestatic 144, 3) := by decide +kernel
theorem dX10_call_4 : decode cX10_call 4 = .ok (.ifCond .ne 5, 3) := by decide +kernel
theorem dX10_call_7 : decode cX10_call 7 = .ok (.iconst (-1), 1) := by decide +kernel
theorem dX10_call_8 : decode cX10_call 8 = .ok (.ireturn, 1) := by decide +kernel
theorem dX10_call_9 : decode cX10_call 9 = .ok (.aload_n 0, 1) := by decide +kernel
theorem dX10_call_10 : decode cX10_call 10 = .ok (.getfield 119, 3) := by decide +kernel
theorem dX10_call_13 : decode cX10_call 13 = .ok (.ifCond .ne 6, 3) := by decide +kernel
theorem dX10_call_16 : decode cX10_call 16 = .ok (.bipush (-2), 2) := by decide +kernel
theorem dX10_call_18 : decode cX10_call 18 = .ok (.ireturn, 1) := by decide +kernel
theorem dX10_call_19 : decode cX10_call 19 = .ok (.iconst 0, 1) := by decide +kernel
theorem dX10_call_20 : decode cX10_call 20 = .ok (.istore_n 2, 1) := by decide +kernel
theorem dX10_call_21 : decode cX10_call 21 = .ok (.iconst 0, 1) := by decide +kernel
theorem dX10_call_22 : decode cX10_call 22 = .ok (.istore_n 3, 1) := by decide +kernel
theorem dX10_call_23 : decode cX10_call 23 = .ok (.iload_n 3, 1) := by decide +kernel
theorem dX10_call_24 : decode cX10_call 24 = .ok (.aload_n 0, 1) := by decide +kernel
theorem dX10_call_25 : decode cX10_call 25 = .ok (.getfield 39, 3) := by decide +kernel
theorem dX10_call_28 : decode cX10_call 28 = .ok (.if_icmp .ge 79, 3) := by decide +kernel
theorem dX10_call_31 : decode cX10_call 31 = .ok (.aload_n 0, 1) := by decide +kernel
theorem dX10_call_32 : decode cX10_call 32 = .ok (.getfield 119, 3) := by decide +kernel
theorem dX10_call_35 : decode cX10_call 35 = .ok (.iload_n 3, 1) := by decide +kernel
theorem dX10_call_36 : decode cX10_call 36 = .ok (.invokestatic 128, 3) := by decide +kernel
theorem dX10_call_39 : decode cX10_call 39 = .ok (.ifCond .eq 62, 3) := by decide +kernel
theorem dX10_call_42 : decode cX10_call 42 = .ok (.aload_n 0, 1) := by decide +kernel
theorem dX10_call_43 : decode cX10_call 43 = .ok (.iload_n 3, 1) := by decide +kernel
theorem dX10_call_44 : decode cX10_call 44 = .ok (.invokevirtual 131, 3) := by decide +kernel
theorem dX10_call_47 : decode cX10_call 47 = .ok (.iload_n 3, 1) := by decide +kernel
theorem dX10_call_48 : decode cX10_call 48 = .ok (.if_icmp .ne 53, 3) := by decide +kernel
theorem dX10_call_51 : decode cX10_call 51 = .ok (.aload_n 0, 1) := by decide +kernel
theorem dX10_call_52 : decode cX10_call 52 = .ok (.aload_n 0, 1) := by decide +kernel
theorem dX10_call_53 : decode cX10_call 53 = .ok (.getfield 22, 3) := by decide +kernel
theorem dX10_call_56 : decode cX10_call 56 = .ok (.ldc 151, 2) := by decide +kernel
theorem dX10_call_58 : decode cX10_call 58 = .ok (.imul, 1) := by decide +kernel
theorem dX10_call_59 : decode cX10_call 59 = .ok (.sipush 12345, 3) := by decide +kernel
theorem dX10_call_62 : decode cX10_call 62 = .ok (.iadd, 1) := by decide +kernel
theorem dX10_call_63 : decode cX10_call 63 = .ok (.putfield 22, 3) := by decide +kernel
theorem dX10_call_66 : decode cX10_call 66 = .ok (.iload_n 2, 1) := by decide +kernel
theorem dX10_call_67 : decode cX10_call 67 = .ok (.aload_n 0, 1) := by decide +kernel
theorem dX10_call_68 : decode cX10_call 68 = .ok (.getfield 22, 3) := by decide +kernel
theorem dX10_call_71 : decode cX10_call 71 = .ok (.bipush 16, 2) := by decide +kernel
theorem dX10_call_73 : decode cX10_call 73 = .ok (.iushr, 1) := by decide +kernel
theorem dX10_call_74 : decode cX10_call 74 = .ok (.bipush 10, 2) := by decide +kernel
theorem dX10_call_76 : decode cX10_call 76 = .ok (.irem, 1) := by decide +kernel
theorem dX10_call_77 : decode cX10_call 77 = .ok (.aload_n 0, 1) := by decide +kernel
theorem dX10_call_78 : decode cX10_call 78 = .ok (.iload_n 3, 1) := by decide +kernel
theorem dX10_call_79 : decode cX10_call 79 = .ok (.iload_n 1, 1) := by decide +kernel
theorem dX10_call_80 : decode cX10_call 80 = .ok (.aload_n 0, 1) := by decide +kernel
theorem dX10_call_81 : decode cX10_call 81 = .ok (.getfield 122, 3) := by decide +kernel
theorem dX10_call_84 : decode cX10_call 84 = .ok (.invokevirtual 147, 3) := by decide +kernel
theorem dX10_call_87 : decode cX10_call 87 = .ok (.if_icmp .ge 11, 3) := by decide +kernel
theorem dX10_call_90 : decode cX10_call 90 = .ok (.aload_n 0, 1) := by decide +kernel
theorem dX10_call_91 : decode cX10_call 91 = .ok (.iload_n 3, 1) := by decide +kernel
theorem dX10_call_92 : decode cX10_call 92 = .ok (.invokevirtual 152, 3) := by decide +kernel
theorem dX10_call_95 : decode cX10_call 95 = .ok (.goto 4, 3) := by decide +kernel
theorem dX10_call_98 : decode cX10_call 98 = .ok (.iconst 0, 1) := by decide +kernel
theorem dX10_call_99 : decode cX10_call 99 = .ok (.ior, 1) := by decide +kernel
theorem dX10_call_100 : decode cX10_call 100 = .ok (.istore_n 2, 1) := by decide +kernel
theorem dX10_call_101 : decode cX10_call 101 = .ok (.iinc 3 1, 3) := by decide +kernel
theorem dX10_call_104 : decode cX10_call 104 = .ok (.goto (-81), 3) := by decide +kernel
theorem dX10_call_107 : decode cX10_call 107 = .ok (.aload_n 0, 1) := by decide +kernel
theorem dX10_call_108 : decode cX10_call 108 = .ok (.invokevirtual 155, 3) := by decide +kernel
theorem dX10_call_111 : decode cX10_call 111 = .ok (.aload_n 0, 1) := by decide +kernel
theorem dX10_call_112 : decode cX10_call 112 = .ok (.dup, 1) := by decide +kernel
theorem dX10_call_113 : decode cX10_call 113 = .ok (.getfield 119, 3) := by decide +kernel
theorem dX10_call_116 : decode cX10_call 116 = .ok (.iload_n 2, 1) := by decide +kernel
theorem dX10_call_117 : decode cX10_call 117 = .ok (.iconst (-1), 1) := by decide +kernel
theorem dX10_call_118 : decode cX10_call 118 = .ok (.ixor, 1) := by decide +kernel
theorem dX10_call_119 : decode cX10_call 119 = .ok (.iand, 1) := by decide +kernel
theorem dX10_call_120 : decode cX10_call 120 = .ok (.putfield 119, 3) := by decide +kernel
theorem dX10_call_123 : decode cX10_call 123 = .ok (.aload_n 0, 1) := by decide +kernel
theorem dX10_call_124 : decode cX10_call 124 = .ok (.aload_n 0, 1) := by decide +kernel
theorem dX10_call_125 : decode cX10_call 125 = .ok (.getfield 122, 3) := by decide +kernel
theorem dX10_call_128 : decode cX10_call 128 = .ok (.iload_n 1, 1) := by decide +kernel
theorem dX10_call_129 : decode cX10_call 129 = .ok (.invokestatic 158, 3) := by decide +kernel
theorem dX10_call_132 : decode cX10_call 132 = .ok (.putfield 122, 3) := by decide +kernel
theorem dX10_call_135 : decode cX10_call 135 = .ok (.iload_n 2, 1) := by decide +kernel
theorem dX10_call_136 : decode cX10_call 136 = .ok (.ireturn, 1) := by decide +kernel
set_option maxRecDepth 20000 in
theorem ggX10_comesBack_X10_isChild : GoodIn wsX10_comesBack wsX10_isChild := goodIn_r _ [6, 7, 8, 9, 5, 10, 24, 25, 26, 27, 28, 29, 30, 31, 32, 33, 34, 35, 36, 37, 38, 39, 40, 41, 42, 43, 44, 45, 46] (by decide +kernel) (by decide +kernel)
set_option maxRecDepth 20000 in
theorem gX10_comesBack_X10_isChild : GoodIn wsX10_comesBack (wsV RX10 135 RX10 yX10_isChild wsX10_isChild) := goodIn_app (goodIn_of _ (by decide +kernel)) ggX10_comesBack_X10_isChild
set_option maxRecDepth 20000 in
theorem ggX10_comesBack_X10_has : GoodIn wsX10_comesBack wsX10_has := goodIn_r _ [13] (by decide +kernel) (by decide +kernel)
set_option maxRecDepth 20000 in
theorem gX10_comesBack_X10_has : GoodIn wsX10_comesBack (va_wsS RX10 128 yX10_has wsX10_has) := goodIn_app (goodIn_of _ (by decide +kernel)) ggX10_comesBack_X10_has
set_option maxRecDepth 20000 in
theorem ggX10_comesBack_X10_remember : GoodIn wsX10_comesBack wsX10_remember := goodIn_r _ [17, 18, 19, 1, 20, 24, 25, 26, 27, 28, 29, 30, 31, 32, 33, 34, 35, 36, 37, 38, 39, 40, 41, 42, 43, 44, 45, 46] (by decide +kernel) (by decide +kernel)
set_option maxRecDepth 20000 in
theorem gX10_comesBack_X10_remember : GoodIn wsX10_comesBack (wsV RX10 155 RX10 yX10_remember wsX10_remember) := goodIn_app (goodIn_of _ (by decide +kernel)) ggX10_comesBack_X10_remember
set_option maxRecDepth 20000 in
theorem ggX10_comesBack_X10_bits : GoodIn wsX10_comesBack wsX10_bits := goodIn_r _ [23] (by decide +kernel) (by decide +kernel)
set_option maxRecDepth 20000 in
theorem gX10_comesBack_X10_bits : GoodIn wsX10_comesBack (va_wsS RX10 162 yX10_bits wsX10_bits) := goodIn_app (goodIn_of _ (by decide +kernel)) ggX10_comesBack_X10_bits
theorem dX10_comesBack_0 : decode cX10_comesBack 0 = .ok (.aload_n 0, 1) := by decide +kernel
theorem dX10_comesBack_1 : decode cX10_comesBack 1 = .ok (.iload_n 1, 1) := by decide +kernel
theorem dX10_comesBack_2 : decode cX10_comesBack 2 = .ok (.invokevirtual 135, 3) := by decide +kernel
theorem dX10_comesBack_5 : decode cX10_comesBack 5 = .ok (.ifCond .ne 5, 3) := by decide +kernel
theorem dX10_comesBack_8 : decode cX10_comesBack 8 = .ok (.iconst (-1), 1) := by decide +kernel
theorem dX10_comesBack_9 : decode cX10_comesBack 9 = .ok (.ireturn, 1) := by decide +kernel
theorem dX10_comesBack_10 : decode cX10_comesBack 10 = .ok (.aload_n 0, 1) := by decide +kernel
theorem dX10_comesBack_11 : decode cX10_comesBack 11 = .ok (.getfield 119, 3) := by decide +kernel
theorem dX10_comesBack_14 : decode cX10_comesBack 14 = .ok (.iload_n 1, 1) := by decide +kernel
theorem dX10_comesBack_15 : decode cX10_comesBack 15 = .ok (.invokestatic 128, 3) := by decide +kernel
theorem dX10_comesBack_18 : decode cX10_comesBack 18 = .ok (.ifCond .eq 6, 3) := by decide +kernel
theorem dX10_comesBack_21 : decode cX10_comesBack 21 = .ok (.bipush (-2), 2) := by decide +kernel
theorem dX10_comesBack_23 : decode cX10_comesBack 23 = .ok (.ireturn, 1) := by decide +kernel
theorem dX10_comesBack_24 : decode cX10_comesBack 24 = .ok (.aload_n 0, 1) := by decide +kernel
theorem dX10_comesBack_25 : decode cX10_comesBack 25 = .ok (.invokevirtual 155, 3) := by decide +kernel
theorem dX10_comesBack_28 : decode cX10_comesBack 28 = .ok (.aload_n 0, 1) := by decide +kernel
theorem dX10_comesBack_29 : decode cX10_comesBack 29 = .ok (.dup, 1) := by decide +kernel
theorem dX10_comesBack_30 : decode cX10_comesBack 30 = .ok (.getfield 119, 3) := by decide +kernel
theorem dX10_comesBack_33 : decode cX10_comesBack 33 = .ok (.iconst 1, 1) := by decide +kernel
theorem dX10_comesBack_34 : decode cX10_comesBack 34 = .ok (.iload_n 1, 1) := by decide +kernel
theorem dX10_comesBack_35 : decode cX10_comesBack 35 = .ok (.ishl, 1) := by decide +kernel
theorem dX10_comesBack_36 : decode cX10_comesBack 36 = .ok (.ior, 1) := by decide +kernel
theorem dX10_comesBack_37 : decode cX10_comesBack 37 = .ok (.putfield 119, 3) := by decide +kernel
theorem dX10_comesBack_40 : decode cX10_comesBack 40 = .ok (.aload_n 0, 1) := by decide +kernel
theorem dX10_comesBack_41 : decode cX10_comesBack 41 = .ok (.getfield 119, 3) := by decide +kernel
theorem dX10_comesBack_44 : decode cX10_comesBack 44 = .ok (.invokestatic 162, 3) := by decide +kernel
theorem dX10_comesBack_47 : decode cX10_comesBack 47 = .ok (.ireturn, 1) := by decide +kernel
theorem dX10_undo_0 : decode cX10_undo 0 = .ok (.aload_n 0, 1) := by decide +kernel
theorem dX10_undo_1 : decode cX10_undo 1 = .ok (.getfield 125, 3) := by decide +kernel
theorem dX10_undo_4 : decode cX10_undo 4 = .ok (.ifCond .ne 6, 3) := by decide +kernel
theorem dX10_undo_7 : decode cX10_undo 7 = .ok (.bipush (-2), 2) := by decide +kernel
theorem dX10_undo_9 : decode cX10_undo 9 = .ok (.ireturn, 1) := by decide +kernel
theorem dX10_undo_10 : decode cX10_undo 10 = .ok (.aload_n 0, 1) := by decide +kernel
theorem dX10_undo_11 : decode cX10_undo 11 = .ok (.dup, 1) := by decide +kernel
theorem dX10_undo_12 : decode cX10_undo 12 = .ok (.getfield 125, 3) := by decide +kernel
theorem dX10_undo_15 : decode cX10_undo 15 = .ok (.iconst 1, 1) := by decide +kernel
theorem dX10_undo_16 : decode cX10_undo 16 = .ok (.isub, 1) := by decide +kernel
theorem dX10_undo_17 : decode cX10_undo 17 = .ok (.putfield 125, 3) := by decide +kernel
theorem dX10_undo_20 : decode cX10_undo 20 = .ok (.aload_n 0, 1) := by decide +kernel
theorem dX10_undo_21 : decode cX10_undo 21 = .ok (.aload_n 0, 1) := by decide +kernel
theorem dX10_undo_22 : decode cX10_undo 22 = .ok (.getfield 26, 3) := by decide +kernel
theorem dX10_undo_25 : decode cX10_undo 25 = .ok (.iconst 2, 1) := by decide +kernel
theorem dX10_undo_26 : decode cX10_undo 26 = .ok (.aload_n 0, 1) := by decide +kernel
theorem dX10_undo_27 : decode cX10_undo 27 = .ok (.getfield 125, 3) := by decide +kernel
theorem dX10_undo_30 : decode cX10_undo 30 = .ok (.imul, 1) := by decide +kernel
theorem dX10_undo_31 : decode cX10_undo 31 = .ok (.iaload, 1) := by decide +kernel
theorem dX10_undo_32 : decode cX10_undo 32 = .ok (.putfield 119, 3) := by decide +kernel
theorem dX10_undo_35 : decode cX10_undo 35 = .ok (.aload_n 0, 1) := by decide +kernel
theorem dX10_undo_36 : decode cX10_undo 36 = .ok (.aload_n 0, 1) := by decide +kernel
theorem dX10_undo_37 : decode cX10_undo 37 = .ok (.getfield 26, 3) := by decide +kernel
theorem dX10_undo_40 : decode cX10_undo 40 = .ok (.iconst 2, 1) := by decide +kernel
theorem dX10_undo_41 : decode cX10_undo 41 = .ok (.aload_n 0, 1) := by decide +kernel
theorem dX10_undo_42 : decode cX10_undo 42 = .ok (.getfield 125, 3) := by decide +kernel
theorem dX10_undo_45 : decode cX10_undo 45 = .ok (.imul, 1) := by decide +kernel
theorem dX10_undo_46 : decode cX10_undo 46 = .ok (.iconst 1, 1) := by decide +kernel
theorem dX10_undo_47 : decode cX10_undo 47 = .ok (.iadd, 1) := by decide +kernel
theorem dX10_undo_48 : decode cX10_undo 48 = .ok (.iaload, 1) := by decide +kernel
theorem dX10_undo_49 : decode cX10_undo 49 = .ok (.putfield 122, 3) := by decide +kernel
theorem dX10_undo_52 : decode cX10_undo 52 = .ok (.aload_n 0, 1) := by decide +kernel
theorem dX10_undo_53 : decode cX10_undo 53 = .ok (.getfield 125, 3) := by decide +kernel
theorem dX10_undo_56 : decode cX10_undo 56 = .ok (.ireturn, 1) := by decide +kernel
theorem dX10_lot_0 : decode cX10_lot 0 = .ok (.aload_n 0, 1) := by decide +kernel
theorem dX10_lot_1 : decode cX10_lot 1 = .ok (.getfield 22, 3) := by decide +kernel
theorem dX10_lot_4 : decode cX10_lot 4 = .ok (.istore_n 2, 1) := by decide +kernel
theorem dX10_lot_5 : decode cX10_lot 5 = .ok (.aload_n 0, 1) := by decide +kernel
theorem dX10_lot_6 : decode cX10_lot 6 = .ok (.iload_n 1, 1) := by decide +kernel
theorem dX10_lot_7 : decode cX10_lot 7 = .ok (.putfield 22, 3) := by decide +kernel
theorem dX10_lot_10 : decode cX10_lot 10 = .ok (.iload_n 2, 1) := by decide +kernel
theorem dX10_lot_11 : decode cX10_lot 11 = .ok (.ireturn, 1) := by decide +kernel
theorem dX10_part_0 : decode cX10_part 0 = .ok (.lload_n 0, 1) := by decide +kernel
theorem dX10_part_1 : decode cX10_part 1 = .ok (.lstore 5, 2) := by decide +kernel
theorem dX10_part_3 : decode cX10_part 3 = .ok (.lload_n 2, 1) := by decide +kernel
theorem dX10_part_4 : decode cX10_part 4 = .ok (.lstore 7, 2) := by decide +kernel
theorem dX10_part_6 : decode cX10_part 6 = .ok (.lload 7, 2) := by decide +kernel
theorem dX10_part_8 : decode cX10_part 8 = .ok (.lconst 0, 1) := by decide +kernel
theorem dX10_part_9 : decode cX10_part 9 = .ok (.lcmp, 1) := by decide +kernel
theorem dX10_part_10 : decode cX10_part 10 = .ok (.ifCond .eq 21, 3) := by decide +kernel
theorem dX10_part_13 : decode cX10_part 13 = .ok (.lload 5, 2) := by decide +kernel
theorem dX10_part_15 : decode cX10_part 15 = .ok (.lload 7, 2) := by decide +kernel
theorem dX10_part_17 : decode cX10_part 17 = .ok (.lrem, 1) := by decide +kernel
theorem dX10_part_18 : decode cX10_part 18 = .ok (.lstore 9, 2) := by decide +kernel
theorem dX10_part_20 : decode cX10_part 20 = .ok (.lload 7, 2) := by decide +kernel
theorem dX10_part_22 : decode cX10_part 22 = .ok (.lstore 5, 2) := by decide +kernel
theorem dX10_part_24 : decode cX10_part 24 = .ok (.lload 9, 2) := by decide +kernel
theorem dX10_part_26 : decode cX10_part 26 = .ok (.lstore 7, 2) := by decide +kernel
theorem dX10_part_28 : decode cX10_part 28 = .ok (.goto (-22), 3) := by decide +kernel
theorem dX10_part_31 : decode cX10_part 31 = .ok (.iload 4, 2) := by decide +kernel
theorem dX10_part_33 : decode cX10_part 33 = .ok (.ifCond .ne 10, 3) := by decide +kernel
theorem dX10_part_36 : decode cX10_part 36 = .ok (.lload_n 0, 1) := by decide +kernel
theorem dX10_part_37 : decode cX10_part 37 = .ok (.lload 5, 2) := by decide +kernel
theorem dX10_part_39 : decode cX10_part 39 = .ok (.ldiv, 1) := by decide +kernel
theorem dX10_part_40 : decode cX10_part 40 = .ok (.goto 7, 3) := by decide +kernel
theorem dX10_part_43 : decode cX10_part 43 = .ok (.lload_n 2, 1) := by decide +kernel
theorem dX10_part_44 : decode cX10_part 44 = .ok (.lload 5, 2) := by decide +kernel
theorem dX10_part_46 : decode cX10_part 46 = .ok (.ldiv, 1) := by decide +kernel
theorem dX10_part_47 : decode cX10_part 47 = .ok (.lreturn, 1) := by decide +kernel
set_option maxRecDepth 20000 in
theorem ggX10_waysOf_X10_has : GoodIn wsX10_waysOf wsX10_has := goodIn_r _ [9] (by decide +kernel) (by decide +kernel)
set_option maxRecDepth 20000 in
theorem gX10_waysOf_X10_has : GoodIn wsX10_waysOf (va_wsS RX10 128 yX10_has wsX10_has) := goodIn_app (goodIn_of _ (by decide +kernel)) ggX10_waysOf_X10_has
set_option maxRecDepth 20000 in
theorem ggX10_waysOf_X10_leaderOf : GoodIn wsX10_waysOf wsX10_leaderOf := goodIn_r _ [13, 14, 1, 6, 7, 8, 9, 25, 26, 27, 28, 29, 30, 31, 32, 33, 34, 35, 36, 37, 38, 39, 40, 41, 42, 43, 44, 45, 46, 47] (by decide +kernel) (by decide +kernel)
set_option maxRecDepth 20000 in
theorem gX10_waysOf_X10_leaderOf : GoodIn wsX10_waysOf (wsV RX10 131 RX10 yX10_leaderOf wsX10_leaderOf) := goodIn_app (goodIn_of _ (by decide +kernel)) ggX10_waysOf_X10_leaderOf
set_option maxRecDepth 20000 in
theorem ggX10_waysOf_X10_ledBy : GoodIn wsX10_waysOf wsX10_ledBy := goodIn_r _ [18, 3, 1, 6, 7, 8, 9, 10, 11, 12, 13, 14, 25, 26, 27, 28, 29, 30, 31, 32, 33, 34, 35, 36, 37, 38, 39, 40, 41, 42, 43, 44, 45, 46, 47] (by decide +kernel) (by decide +kernel)
set_option maxRecDepth 20000 in
theorem gX10_waysOf_X10_ledBy : GoodIn wsX10_waysOf (wsV RX10 152 RX10 yX10_ledBy wsX10_ledBy) := goodIn_app (goodIn_of _ (by decide +kernel)) ggX10_waysOf_X10_ledBy
set_option maxRecDepth 20000 in
theorem ggX10_waysOf_X10_errsOf : GoodIn wsX10_waysOf wsX10_errsOf := goodIn_r _ [22, 23, 24, 25, 26, 27, 28, 29, 30, 31, 32, 33, 34, 35, 36, 37, 38, 39, 40, 41, 42, 43, 44, 45, 46, 47] (by decide +kernel) (by decide +kernel)
set_option maxRecDepth 20000 in
theorem gX10_waysOf_X10_errsOf : GoodIn wsX10_waysOf (wsV RX10 147 RX10 yX10_errsOf wsX10_errsOf) := goodIn_app (goodIn_of _ (by decide +kernel)) ggX10_waysOf_X10_errsOf
theorem dX10_waysOf_0 : decode cX10_waysOf 0 = .ok (.iload_n 2, 1) := by decide +kernel
theorem dX10_waysOf_1 : decode cX10_waysOf 1 = .ok (.aload_n 0, 1) := by decide +kernel
theorem dX10_waysOf_2 : decode cX10_waysOf 2 = .ok (.getfield 119, 3) := by decide +kernel
theorem dX10_waysOf_5 : decode cX10_waysOf 5 = .ok (.iconst (-1), 1) := by decide +kernel
theorem dX10_waysOf_6 : decode cX10_waysOf 6 = .ok (.ixor, 1) := by decide +kernel
theorem dX10_waysOf_7 : decode cX10_waysOf 7 = .ok (.iand, 1) := by decide +kernel
theorem dX10_waysOf_8 : decode cX10_waysOf 8 = .ok (.ifCond .ne 7, 3) := by decide +kernel
theorem dX10_waysOf_11 : decode cX10_waysOf 11 = .ok (.lconst 1, 1) := by decide +kernel
theorem dX10_waysOf_12 : decode cX10_waysOf 12 = .ok (.goto 4, 3) := by decide +kernel
theorem dX10_waysOf_15 : decode cX10_waysOf 15 = .ok (.lconst 0, 1) := by decide +kernel
theorem dX10_waysOf_16 : decode cX10_waysOf 16 = .ok (.lstore_n 3, 1) := by decide +kernel
theorem dX10_waysOf_17 : decode cX10_waysOf 17 = .ok (.aload_n 0, 1) := by decide +kernel
theorem dX10_waysOf_18 : decode cX10_waysOf 18 = .ok (.lconst 1, 1) := by decide +kernel
theorem dX10_waysOf_19 : decode cX10_waysOf 19 = .ok (.putfield 165, 3) := by decide +kernel
theorem dX10_waysOf_22 : decode cX10_waysOf 22 = .ok (.iconst 0, 1) := by decide +kernel
theorem dX10_waysOf_23 : decode cX10_waysOf 23 = .ok (.istore 5, 2) := by decide +kernel
theorem dX10_waysOf_25 : decode cX10_waysOf 25 = .ok (.iload 5, 2) := by decide +kernel
theorem dX10_waysOf_27 : decode cX10_waysOf 27 = .ok (.aload_n 0, 1) := by decide +kernel
theorem dX10_waysOf_28 : decode cX10_waysOf 28 = .ok (.getfield 39, 3) := by decide +kernel
theorem dX10_waysOf_31 : decode cX10_waysOf 31 = .ok (.if_icmp .ge 100, 3) := by decide +kernel
theorem dX10_waysOf_34 : decode cX10_waysOf 34 = .ok (.aload_n 0, 1) := by decide +kernel
theorem dX10_waysOf_35 : decode cX10_waysOf 35 = .ok (.getfield 119, 3) := by decide +kernel
theorem dX10_waysOf_38 : decode cX10_waysOf 38 = .ok (.iload 5, 2) := by decide +kernel
theorem dX10_waysOf_40 : decode cX10_waysOf 40 = .ok (.invokestatic 128, 3) := by decide +kernel
theorem dX10_waysOf_43 : decode cX10_waysOf 43 = .ok (.ifCond .eq 82, 3) := by decide +kernel
theorem dX10_waysOf_46 : decode cX10_waysOf 46 = .ok (.aload_n 0, 1) := by decide +kernel
theorem dX10_waysOf_47 : decode cX10_waysOf 47 = .ok (.iload 5, 2) := by decide +kernel
theorem dX10_waysOf_49 : decode cX10_waysOf 49 = .ok (.invokevirtual 131, 3) := by decide +kernel
theorem dX10_waysOf_52 : decode cX10_waysOf 52 = .ok (.iload 5, 2) := by decide +kernel
theorem dX10_waysOf_54 : decode cX10_waysOf 54 = .ok (.if_icmp .ne 71, 3) := by decide +kernel
theorem dX10_waysOf_57 : decode cX10_waysOf 57 = .ok (.aload_n 0, 1) := by decide +kernel
theorem dX10_waysOf_58 : decode cX10_waysOf 58 = .ok (.iload 5, 2) := by decide +kernel
theorem dX10_waysOf_60 : decode cX10_waysOf 60 = .ok (.invokevirtual 152, 3) := by decide +kernel
theorem dX10_waysOf_63 : decode cX10_waysOf 63 = .ok (.istore 6, 2) := by decide +kernel
theorem dX10_waysOf_65 : decode cX10_waysOf 65 = .ok (.aload_n 0, 1) := by decide +kernel
theorem dX10_waysOf_66 : decode cX10_waysOf 66 = .ok (.iload 5, 2) := by decide +kernel
theorem dX10_waysOf_68 : decode cX10_waysOf 68 = .ok (.iload_n 1, 1) := by decide +kernel
theorem dX10_waysOf_69 : decode cX10_waysOf 69 = .ok (.aload_n 0, 1) := by decide +kernel
theorem dX10_waysOf_70 : decode cX10_waysOf 70 = .ok (.getfield 122, 3) := by decide +kernel
theorem dX10_waysOf_73 : decode cX10_waysOf 73 = .ok (.invokevirtual 147, 3) := by decide +kernel
theorem dX10_waysOf_76 : decode cX10_waysOf 76 = .ok (.istore 7, 2) := by decide +kernel
theorem dX10_waysOf_78 : decode cX10_waysOf 78 = .ok (.lload_n 3, 1) := by decide +kernel
theorem dX10_waysOf_79 : decode cX10_waysOf 79 = .ok (.iload 6, 2) := by decide +kernel
theorem dX10_waysOf_81 : decode cX10_waysOf 81 = .ok (.iload_n 2, 1) := by decide +kernel
theorem dX10_waysOf_82 : decode cX10_waysOf 82 = .ok (.iconst (-1), 1) := by decide +kernel
theorem dX10_waysOf_83 : decode cX10_waysOf 83 = .ok (.ixor, 1) := by decide +kernel
theorem dX10_waysOf_84 : decode cX10_waysOf 84 = .ok (.iand, 1) := by decide +kernel
theorem dX10_waysOf_85 : decode cX10_waysOf 85 = .ok (.ifCond .ne 9, 3) := by decide +kernel
theorem dX10_waysOf_88 : decode cX10_waysOf 88 = .ok (.iload 7, 2) := by decide +kernel
theorem dX10_waysOf_90 : decode cX10_waysOf 90 = .ok (.i2l, 1) := by decide +kernel
theorem dX10_waysOf_91 : decode cX10_waysOf 91 = .ok (.goto 20, 3) := by decide +kernel
theorem dX10_waysOf_94 : decode cX10_waysOf 94 = .ok (.iload 6, 2) := by decide +kernel
theorem dX10_waysOf_96 : decode cX10_waysOf 96 = .ok (.iload_n 2, 1) := by decide +kernel
theorem dX10_waysOf_97 : decode cX10_waysOf 97 = .ok (.iand, 1) := by decide +kernel
theorem dX10_waysOf_98 : decode cX10_waysOf 98 = .ok (.ifCond .ne 12, 3) := by decide +kernel
theorem dX10_waysOf_101 : decode cX10_waysOf 101 = .ok (.bipush 10, 2) := by decide +kernel
theorem dX10_waysOf_103 : decode cX10_waysOf 103 = .ok (.iload 7, 2) := by decide +kernel
theorem dX10_waysOf_105 : decode cX10_waysOf 105 = .ok (.isub, 1) := by decide +kernel
theorem dX10_waysOf_106 : decode cX10_waysOf 106 = .ok (.i2l, 1) := by decide +kernel
theorem dX10_waysOf_107 : decode cX10_waysOf 107 = .ok (.goto 4, 3) := by decide +kernel
theorem dX10_waysOf_110 : decode cX10_waysOf 110 = .ok (.lconst 0, 1) := by decide +kernel
theorem dX10_waysOf_111 : decode cX10_waysOf 111 = .ok (.lmul, 1) := by decide +kernel
theorem dX10_waysOf_112 : decode cX10_waysOf 112 = .ok (.lstore_n 3, 1) := by decide +kernel
theorem dX10_waysOf_113 : decode cX10_waysOf 113 = .ok (.aload_n 0, 1) := by decide +kernel
theorem dX10_waysOf_114 : decode cX10_waysOf 114 = .ok (.dup, 1) := by decide +kernel
theorem dX10_waysOf_115 : decode cX10_waysOf 115 = .ok (.getfield 165, 3) := by decide +kernel
theorem dX10_waysOf_118 : decode cX10_waysOf 118 = .ok (.ldc2_w 81, 3) := by decide +kernel
theorem dX10_waysOf_121 : decode cX10_waysOf 121 = .ok (.lmul, 1) := by decide +kernel
theorem dX10_waysOf_122 : decode cX10_waysOf 122 = .ok (.putfield 165, 3) := by decide +kernel
theorem dX10_waysOf_125 : decode cX10_waysOf 125 = .ok (.iinc 5 1, 3) := by decide +kernel
theorem dX10_waysOf_128 : decode cX10_waysOf 128 = .ok (.goto (-103), 3) := by decide +kernel
theorem dX10_waysOf_131 : decode cX10_waysOf 131 = .ok (.lload_n 3, 1) := by decide +kernel
theorem dX10_waysOf_132 : decode cX10_waysOf 132 = .ok (.lreturn, 1) := by decide +kernel
set_option maxRecDepth 20000 in
theorem ggX10_isPart_X10_within : GoodIn wsX10_isPart wsX10_within := goodIn_r _ [4] (by decide +kernel) (by decide +kernel)
set_option maxRecDepth 20000 in
theorem gX10_isPart_X10_within : GoodIn wsX10_isPart (va_wsS RX10 42 yX10_within wsX10_within) := goodIn_app (goodIn_of _ (by decide +kernel)) ggX10_isPart_X10_within
theorem dX10_isPart_0 : decode cX10_isPart 0 = .ok (.iload_n 0, 1) := by decide +kernel
theorem dX10_isPart_1 : decode cX10_isPart 1 = .ok (.i2l, 1) := by decide +kernel
theorem dX10_isPart_2 : decode cX10_isPart 2 = .ok (.lconst 0, 1) := by decide +kernel
theorem dX10_isPart_3 : decode cX10_isPart 3 = .ok (.lconst 1, 1) := by decide +kernel
theorem dX10_isPart_4 : decode cX10_isPart 4 = .ok (.invokestatic 42, 3) := by decide +kernel
theorem dX10_isPart_7 : decode cX10_isPart 7 = .ok (.ireturn, 1) := by decide +kernel
set_option maxRecDepth 20000 in
theorem ggX10_falls_X10_isOrder : GoodIn wsX10_falls wsX10_isOrder := goodIn_r _ [6, 7, 8, 9, 5, 10] (by decide +kernel) (by decide +kernel)
set_option maxRecDepth 20000 in
theorem gX10_falls_X10_isOrder : GoodIn wsX10_falls (va_wsS RX10 144 yX10_isOrder wsX10_isOrder) := goodIn_app (goodIn_of _ (by decide +kernel)) ggX10_falls_X10_isOrder
set_option maxRecDepth 20000 in
theorem ggX10_falls_X10_isSet : GoodIn wsX10_falls wsX10_isSet := goodIn_r _ [14, 15, 8, 9, 5, 10, 47, 48, 49, 50, 51, 52, 53, 54, 55, 56, 57, 58, 59, 60, 61, 62, 63, 64, 65, 66, 67, 68, 69] (by decide +kernel) (by decide +kernel)
set_option maxRecDepth 20000 in
theorem gX10_falls_X10_isSet : GoodIn wsX10_falls (wsV RX10 168 RX10 yX10_isSet wsX10_isSet) := goodIn_app (goodIn_of _ (by decide +kernel)) ggX10_falls_X10_isSet
set_option maxRecDepth 20000 in
theorem ggX10_falls_X10_isPart : GoodIn wsX10_falls wsX10_isPart := goodIn_r _ [18, 8, 9, 5, 10] (by decide +kernel) (by decide +kernel)
set_option maxRecDepth 20000 in
theorem gX10_falls_X10_isPart : GoodIn wsX10_falls (va_wsS RX10 171 yX10_isPart wsX10_isPart) := goodIn_app (goodIn_of _ (by decide +kernel)) ggX10_falls_X10_isPart
set_option maxRecDepth 20000 in
theorem ggX10_falls_X10_waysOf : GoodIn wsX10_falls wsX10_waysOf := goodIn_r _ [22, 23, 2, 15, 24, 25, 26, 27, 5, 28, 29, 30, 31, 32, 33, 34, 35, 36, 37, 38, 39, 40, 41, 42, 43, 47, 48, 49, 50, 51, 52, 53, 54, 55, 56, 57, 58, 59, 60, 61, 62, 63, 64, 65, 66, 67, 68, 69] (by decide +kernel) (by decide +kernel)
set_option maxRecDepth 20000 in
theorem gX10_falls_X10_waysOf : GoodIn wsX10_falls (wsV RX10 174 RX10 yX10_waysOf wsX10_waysOf) := goodIn_app (goodIn_of _ (by decide +kernel)) ggX10_falls_X10_waysOf
set_option maxRecDepth 20000 in
theorem ggX10_falls_X10_part : GoodIn wsX10_falls wsX10_part := goodIn_r _ [46] (by decide +kernel) (by decide +kernel)
set_option maxRecDepth 20000 in
theorem gX10_falls_X10_part : GoodIn wsX10_falls (va_wsS RX10 178 yX10_part wsX10_part) := goodIn_app (goodIn_of _ (by decide +kernel)) ggX10_falls_X10_part
theorem dX10_falls_0 : decode cX10_falls 0 = .ok (.iload_n 1, 1) := by decide +kernel
theorem dX10_falls_1 : decode cX10_falls 1 = .ok (.invokestatic 144, 3) := by decide +kernel
theorem dX10_falls_4 : decode cX10_falls 4 = .ok (.ifCond .eq 18, 3) := by decide +kernel
theorem dX10_falls_7 : decode cX10_falls 7 = .ok (.aload_n 0, 1) := by decide +kernel
theorem dX10_falls_8 : decode cX10_falls 8 = .ok (.iload_n 2, 1) := by decide +kernel
theorem dX10_falls_9 : decode cX10_falls 9 = .ok (.invokevirtual 168, 3) := by decide +kernel
theorem dX10_falls_12 : decode cX10_falls 12 = .ok (.ifCond .eq 10, 3) := by decide +kernel
theorem dX10_falls_15 : decode cX10_falls 15 = .ok (.iload_n 3, 1) := by decide +kernel
theorem dX10_falls_16 : decode cX10_falls 16 = .ok (.invokestatic 171, 3) := by decide +kernel
theorem dX10_falls_19 : decode cX10_falls 19 = .ok (.ifCond .ne 7, 3) := by decide +kernel
theorem dX10_falls_22 : decode cX10_falls 22 = .ok (.ldc2_w 79, 3) := by decide +kernel
theorem dX10_falls_25 : decode cX10_falls 25 = .ok (.lreturn, 1) := by decide +kernel
theorem dX10_falls_26 : decode cX10_falls 26 = .ok (.aload_n 0, 1) := by decide +kernel
theorem dX10_falls_27 : decode cX10_falls 27 = .ok (.iload_n 1, 1) := by decide +kernel
theorem dX10_falls_28 : decode cX10_falls 28 = .ok (.iload_n 2, 1) := by decide +kernel
theorem dX10_falls_29 : decode cX10_falls 29 = .ok (.invokevirtual 174, 3) := by decide +kernel
theorem dX10_falls_32 : decode cX10_falls 32 = .ok (.lstore 4, 2) := by decide +kernel
theorem dX10_falls_34 : decode cX10_falls 34 = .ok (.lload 4, 2) := by decide +kernel
theorem dX10_falls_36 : decode cX10_falls 36 = .ok (.aload_n 0, 1) := by decide +kernel
theorem dX10_falls_37 : decode cX10_falls 37 = .ok (.getfield 165, 3) := by decide +kernel
theorem dX10_falls_40 : decode cX10_falls 40 = .ok (.iload_n 3, 1) := by decide +kernel
theorem dX10_falls_41 : decode cX10_falls 41 = .ok (.invokestatic 178, 3) := by decide +kernel
theorem dX10_falls_44 : decode cX10_falls 44 = .ok (.lreturn, 1) := by decide +kernel
set_option maxRecDepth 20000 in
theorem ggX10_many_X10_isOrder : GoodIn wsX10_many wsX10_isOrder := goodIn_r _ [8, 9, 10, 11, 7, 12] (by decide +kernel) (by decide +kernel)
set_option maxRecDepth 20000 in
theorem gX10_many_X10_isOrder : GoodIn wsX10_many (va_wsS RX10 144 yX10_isOrder wsX10_isOrder) := goodIn_app (goodIn_of _ (by decide +kernel)) ggX10_many_X10_isOrder
set_option maxRecDepth 20000 in
theorem ggX10_many_X10_within : GoodIn wsX10_many wsX10_within := goodIn_r _ [12] (by decide +kernel) (by decide +kernel)
set_option maxRecDepth 20000 in
theorem gX10_many_X10_within : GoodIn wsX10_many (va_wsS RX10 42 yX10_within wsX10_within) := goodIn_app (goodIn_of _ (by decide +kernel)) ggX10_many_X10_within
set_option maxRecDepth 20000 in
theorem ggX10_many_X10_isPart : GoodIn wsX10_many wsX10_isPart := goodIn_r _ [15, 10, 11, 7, 12] (by decide +kernel) (by decide +kernel)
set_option maxRecDepth 20000 in
theorem gX10_many_X10_isPart : GoodIn wsX10_many (va_wsS RX10 171 yX10_isPart wsX10_isPart) := goodIn_app (goodIn_of _ (by decide +kernel)) ggX10_many_X10_isPart
set_option maxRecDepth 20000 in
theorem ggX10_many_X10_bits : GoodIn wsX10_many wsX10_bits := goodIn_r _ [18] (by decide +kernel) (by decide +kernel)
set_option maxRecDepth 20000 in
theorem gX10_many_X10_bits : GoodIn wsX10_many (va_wsS RX10 162 yX10_bits wsX10_bits) := goodIn_app (goodIn_of _ (by decide +kernel)) ggX10_many_X10_bits
set_option maxRecDepth 20000 in
theorem ggX10_many_X10_waysOf : GoodIn wsX10_many wsX10_waysOf := goodIn_r _ [22, 23, 4, 3, 24, 25, 26, 27, 7, 28, 29, 30, 31, 32, 33, 34, 35, 36, 37, 38, 39, 40, 41, 42, 43, 47, 48, 49, 50, 51, 52, 53, 54, 55, 56, 57, 58, 59, 60, 61, 62, 63, 64, 65, 66, 67, 68, 69] (by decide +kernel) (by decide +kernel)
set_option maxRecDepth 20000 in
theorem gX10_many_X10_waysOf : GoodIn wsX10_many (wsV RX10 174 RX10 yX10_waysOf wsX10_waysOf) := goodIn_app (goodIn_of _ (by decide +kernel)) ggX10_many_X10_waysOf
set_option maxRecDepth 20000 in
theorem ggX10_many_X10_part : GoodIn wsX10_many wsX10_part := goodIn_r _ [46] (by decide +kernel) (by decide +kernel)
set_option maxRecDepth 20000 in
theorem gX10_many_X10_part : GoodIn wsX10_many (va_wsS RX10 178 yX10_part wsX10_part) := goodIn_app (goodIn_of _ (by decide +kernel)) ggX10_many_X10_part
theorem dX10_many_0 : decode cX10_many 0 = .ok (.iload_n 1, 1) := by decide +kernel
theorem dX10_many_1 : decode cX10_many 1 = .ok (.invokestatic 144, 3) := by decide +kernel
theorem dX10_many_4 : decode cX10_many 4 = .ok (.ifCond .eq 22, 3) := by decide +kernel
theorem dX10_many_7 : decode cX10_many 7 = .ok (.iload_n 2, 1) := by decide +kernel
theorem dX10_many_8 : decode cX10_many 8 = .ok (.i2l, 1) := by decide +kernel
theorem dX10_many_9 : decode cX10_many 9 = .ok (.lconst 0, 1) := by decide +kernel
theorem dX10_many_10 : decode cX10_many 10 = .ok (.ldc2_w 182, 3) := by decide +kernel
theorem dX10_many_13 : decode cX10_many 13 = .ok (.invokestatic 42, 3) := by decide +kernel
theorem dX10_many_16 : decode cX10_many 16 = .ok (.ifCond .eq 10, 3) := by decide +kernel
theorem dX10_many_19 : decode cX10_many 19 = .ok (.iload_n 3, 1) := by decide +kernel
theorem dX10_many_20 : decode cX10_many 20 = .ok (.invokestatic 171, 3) := by decide +kernel
theorem dX10_many_23 : decode cX10_many 23 = .ok (.ifCond .ne 7, 3) := by decide +kernel
theorem dX10_many_26 : decode cX10_many 26 = .ok (.ldc2_w 79, 3) := by decide +kernel
theorem dX10_many_29 : decode cX10_many 29 = .ok (.lreturn, 1) := by decide +kernel
theorem dX10_many_30 : decode cX10_many 30 = .ok (.lconst 0, 1) := by decide +kernel
theorem dX10_many_31 : decode cX10_many 31 = .ok (.lstore 4, 2) := by decide +kernel
theorem dX10_many_33 : decode cX10_many 33 = .ok (.iconst 0, 1) := by decide +kernel
theorem dX10_many_34 : decode cX10_many 34 = .ok (.istore 6, 2) := by decide +kernel
theorem dX10_many_36 : decode cX10_many 36 = .ok (.iload 6, 2) := by decide +kernel
theorem dX10_many_38 : decode cX10_many 38 = .ok (.iconst 1, 1) := by decide +kernel
theorem dX10_many_39 : decode cX10_many 39 = .ok (.aload_n 0, 1) := by decide +kernel
theorem dX10_many_40 : decode cX10_many 40 = .ok (.getfield 39, 3) := by decide +kernel
theorem dX10_many_43 : decode cX10_many 43 = .ok (.ishl, 1) := by decide +kernel
theorem dX10_many_44 : decode cX10_many 44 = .ok (.if_icmp .ge 34, 3) := by decide +kernel
theorem dX10_many_47 : decode cX10_many 47 = .ok (.lload 4, 2) := by decide +kernel
theorem dX10_many_49 : decode cX10_many 49 = .ok (.iload 6, 2) := by decide +kernel
theorem dX10_many_51 : decode cX10_many 51 = .ok (.invokestatic 162, 3) := by decide +kernel
theorem dX10_many_54 : decode cX10_many 54 = .ok (.iload_n 2, 1) := by decide +kernel
theorem dX10_many_55 : decode cX10_many 55 = .ok (.if_icmp .ne 13, 3) := by decide +kernel
theorem dX10_many_58 : decode cX10_many 58 = .ok (.aload_n 0, 1) := by decide +kernel
theorem dX10_many_59 : decode cX10_many 59 = .ok (.iload_n 1, 1) := by decide +kernel
theorem dX10_many_60 : decode cX10_many 60 = .ok (.iload 6, 2) := by decide +kernel
theorem dX10_many_62 : decode cX10_many 62 = .ok (.invokevirtual 174, 3) := by decide +kernel
theorem dX10_many_65 : decode cX10_many 65 = .ok (.goto 4, 3) := by decide +kernel
theorem dX10_many_68 : decode cX10_many 68 = .ok (.lconst 0, 1) := by decide +kernel
theorem dX10_many_69 : decode cX10_many 69 = .ok (.ladd, 1) := by decide +kernel
theorem dX10_many_70 : decode cX10_many 70 = .ok (.lstore 4, 2) := by decide +kernel
theorem dX10_many_72 : decode cX10_many 72 = .ok (.iinc 6 1, 3) := by decide +kernel
theorem dX10_many_75 : decode cX10_many 75 = .ok (.goto (-39), 3) := by decide +kernel
theorem dX10_many_78 : decode cX10_many 78 = .ok (.aload_n 0, 1) := by decide +kernel
theorem dX10_many_79 : decode cX10_many 79 = .ok (.iload_n 1, 1) := by decide +kernel
theorem dX10_many_80 : decode cX10_many 80 = .ok (.iconst 0, 1) := by decide +kernel
theorem dX10_many_81 : decode cX10_many 81 = .ok (.invokevirtual 174, 3) := by decide +kernel
theorem dX10_many_84 : decode cX10_many 84 = .ok (.lstore 6, 2) := by decide +kernel
theorem dX10_many_86 : decode cX10_many 86 = .ok (.lload 4, 2) := by decide +kernel
theorem dX10_many_88 : decode cX10_many 88 = .ok (.aload_n 0, 1) := by decide +kernel
theorem dX10_many_89 : decode cX10_many 89 = .ok (.getfield 165, 3) := by decide +kernel
theorem dX10_many_92 : decode cX10_many 92 = .ok (.iload_n 3, 1) := by decide +kernel
theorem dX10_many_93 : decode cX10_many 93 = .ok (.invokestatic 178, 3) := by decide +kernel
theorem dX10_many_96 : decode cX10_many 96 = .ok (.lreturn, 1) := by decide +kernel
set_option maxRecDepth 20000 in
theorem ggX10_ordersIn_X10_isOrder : GoodIn wsX10_ordersIn wsX10_isOrder := goodIn_r _ [4, 5, 6, 7, 3, 8] (by decide +kernel) (by decide +kernel)
set_option maxRecDepth 20000 in
theorem gX10_ordersIn_X10_isOrder : GoodIn wsX10_ordersIn (va_wsS RX10 144 yX10_isOrder wsX10_isOrder) := goodIn_app (goodIn_of _ (by decide +kernel)) ggX10_ordersIn_X10_isOrder
theorem dX10_ordersIn_0 : decode cX10_ordersIn 0 = .ok (.iconst 0, 1) := by decide +kernel
theorem dX10_ordersIn_1 : decode cX10_ordersIn 1 = .ok (.istore_n 1, 1) := by decide +kernel
theorem dX10_ordersIn_2 : decode cX10_ordersIn 2 = .ok (.iload_n 0, 1) := by decide +kernel
theorem dX10_ordersIn_3 : decode cX10_ordersIn 3 = .ok (.ifCond .lt 7, 3) := by decide +kernel
theorem dX10_ordersIn_6 : decode cX10_ordersIn 6 = .ok (.iconst 1, 1) := by decide +kernel
theorem dX10_ordersIn_7 : decode cX10_ordersIn 7 = .ok (.goto 4, 3) := by decide +kernel
theorem dX10_ordersIn_10 : decode cX10_ordersIn 10 = .ok (.iconst 0, 1) := by decide +kernel
theorem dX10_ordersIn_11 : decode cX10_ordersIn 11 = .ok (.istore_n 2, 1) := by decide +kernel
theorem dX10_ordersIn_12 : decode cX10_ordersIn 12 = .ok (.iload_n 0, 1) := by decide +kernel
theorem dX10_ordersIn_13 : decode cX10_ordersIn 13 = .ok (.istore_n 3, 1) := by decide +kernel
theorem dX10_ordersIn_14 : decode cX10_ordersIn 14 = .ok (.iload_n 3, 1) := by decide +kernel
theorem dX10_ordersIn_15 : decode cX10_ordersIn 15 = .ok (.ifCond .le 34, 3) := by decide +kernel
theorem dX10_ordersIn_18 : decode cX10_ordersIn 18 = .ok (.iload_n 2, 1) := by decide +kernel
theorem dX10_ordersIn_19 : decode cX10_ordersIn 19 = .ok (.ifCond .eq 17, 3) := by decide +kernel
theorem dX10_ordersIn_22 : decode cX10_ordersIn 22 = .ok (.iload_n 3, 1) := by decide +kernel
theorem dX10_ordersIn_23 : decode cX10_ordersIn 23 = .ok (.bipush 10, 2) := by decide +kernel
theorem dX10_ordersIn_25 : decode cX10_ordersIn 25 = .ok (.irem, 1) := by decide +kernel
theorem dX10_ordersIn_26 : decode cX10_ordersIn 26 = .ok (.invokestatic 144, 3) := by decide +kernel
theorem dX10_ordersIn_29 : decode cX10_ordersIn 29 = .ok (.ifCond .eq 7, 3) := by decide +kernel
theorem dX10_ordersIn_32 : decode cX10_ordersIn 32 = .ok (.iconst 1, 1) := by decide +kernel
theorem dX10_ordersIn_33 : decode cX10_ordersIn 33 = .ok (.goto 4, 3) := by decide +kernel
theorem dX10_ordersIn_36 : decode cX10_ordersIn 36 = .ok (.iconst 0, 1) := by decide +kernel
theorem dX10_ordersIn_37 : decode cX10_ordersIn 37 = .ok (.istore_n 2, 1) := by decide +kernel
theorem dX10_ordersIn_38 : decode cX10_ordersIn 38 = .ok (.iinc 1 1, 3) := by decide +kernel
theorem dX10_ordersIn_41 : decode cX10_ordersIn 41 = .ok (.iload_n 3, 1) := by decide +kernel
theorem dX10_ordersIn_42 : decode cX10_ordersIn 42 = .ok (.bipush 10, 2) := by decide +kernel
theorem dX10_ordersIn_44 : decode cX10_ordersIn 44 = .ok (.idiv, 1) := by decide +kernel
theorem dX10_ordersIn_45 : decode cX10_ordersIn 45 = .ok (.istore_n 3, 1) := by decide +kernel
theorem dX10_ordersIn_46 : decode cX10_ordersIn 46 = .ok (.goto (-32), 3) := by decide +kernel
theorem dX10_ordersIn_49 : decode cX10_ordersIn 49 = .ok (.iload_n 2, 1) := by decide +kernel
theorem dX10_ordersIn_50 : decode cX10_ordersIn 50 = .ok (.ifCond .eq 7, 3) := by decide +kernel
theorem dX10_ordersIn_53 : decode cX10_ordersIn 53 = .ok (.iload_n 1, 1) := by decide +kernel
theorem dX10_ordersIn_54 : decode cX10_ordersIn 54 = .ok (.goto 4, 3) := by decide +kernel
theorem dX10_ordersIn_57 : decode cX10_ordersIn 57 = .ok (.iconst (-1), 1) := by decide +kernel
theorem dX10_ordersIn_58 : decode cX10_ordersIn 58 = .ok (.ireturn, 1) := by decide +kernel
theorem dX10_orderAt_0 : decode cX10_orderAt 0 = .ok (.iload_n 0, 1) := by decide +kernel
theorem dX10_orderAt_1 : decode cX10_orderAt 1 = .ok (.istore_n 3, 1) := by decide +kernel
theorem dX10_orderAt_2 : decode cX10_orderAt 2 = .ok (.iload_n 1, 1) := by decide +kernel
theorem dX10_orderAt_3 : decode cX10_orderAt 3 = .ok (.iconst 1, 1) := by decide +kernel
theorem dX10_orderAt_4 : decode cX10_orderAt 4 = .ok (.isub, 1) := by decide +kernel
theorem dX10_orderAt_5 : decode cX10_orderAt 5 = .ok (.istore 4, 2) := by decide +kernel
theorem dX10_orderAt_7 : decode cX10_orderAt 7 = .ok (.iload 4, 2) := by decide +kernel
theorem dX10_orderAt_9 : decode cX10_orderAt 9 = .ok (.iload_n 2, 1) := by decide +kernel
theorem dX10_orderAt_10 : decode cX10_orderAt 10 = .ok (.if_icmp .le 14, 3) := by decide +kernel
theorem dX10_orderAt_13 : decode cX10_orderAt 13 = .ok (.iload_n 3, 1) := by decide +kernel
theorem dX10_orderAt_14 : decode cX10_orderAt 14 = .ok (.bipush 10, 2) := by decide +kernel
theorem dX10_orderAt_16 : decode cX10_orderAt 16 = .ok (.idiv, 1) := by decide +kernel
theorem dX10_orderAt_17 : decode cX10_orderAt 17 = .ok (.istore_n 3, 1) := by decide +kernel
theorem dX10_orderAt_18 : decode cX10_orderAt 18 = .ok (.iinc 4 (-1), 3) := by decide +kernel
theorem dX10_orderAt_21 : decode cX10_orderAt 21 = .ok (.goto (-14), 3) := by decide +kernel
theorem dX10_orderAt_24 : decode cX10_orderAt 24 = .ok (.iload_n 3, 1) := by decide +kernel
theorem dX10_orderAt_25 : decode cX10_orderAt 25 = .ok (.bipush 10, 2) := by decide +kernel
theorem dX10_orderAt_27 : decode cX10_orderAt 27 = .ok (.irem, 1) := by decide +kernel
theorem dX10_orderAt_28 : decode cX10_orderAt 28 = .ok (.ireturn, 1) := by decide +kernel
set_option maxRecDepth 20000 in
theorem ggX10_staysOf_X10_orderAt : GoodIn wsX10_staysOf wsX10_orderAt := goodIn_r _ [5] (by decide +kernel) (by decide +kernel)
set_option maxRecDepth 20000 in
theorem gX10_staysOf_X10_orderAt : GoodIn wsX10_staysOf (va_wsS RX10 184 yX10_orderAt wsX10_orderAt) := goodIn_app (goodIn_of _ (by decide +kernel)) ggX10_staysOf_X10_orderAt
set_option maxRecDepth 20000 in
theorem ggX10_staysOf_X10_errsOf : GoodIn wsX10_staysOf wsX10_errsOf := goodIn_r _ [9, 10, 11, 15, 16, 17, 18, 19, 20, 21, 22, 23, 24, 25, 26, 27, 28, 29, 30, 31, 32, 33, 34, 35, 36, 37] (by decide +kernel) (by decide +kernel)
set_option maxRecDepth 20000 in
theorem gX10_staysOf_X10_errsOf : GoodIn wsX10_staysOf (wsV RX10 147 RX10 yX10_errsOf wsX10_errsOf) := goodIn_app (goodIn_of _ (by decide +kernel)) ggX10_staysOf_X10_errsOf
set_option maxRecDepth 20000 in
theorem ggX10_staysOf_X10_streakBehind : GoodIn wsX10_staysOf wsX10_streakBehind := goodIn_r _ [14] (by decide +kernel) (by decide +kernel)
set_option maxRecDepth 20000 in
theorem gX10_staysOf_X10_streakBehind : GoodIn wsX10_staysOf (va_wsS RX10 158 yX10_streakBehind wsX10_streakBehind) := goodIn_app (goodIn_of _ (by decide +kernel)) ggX10_staysOf_X10_streakBehind
theorem dX10_staysOf_0 : decode cX10_staysOf 0 = .ok (.aload_n 0, 1) := by decide +kernel
theorem dX10_staysOf_1 : decode cX10_staysOf 1 = .ok (.getfield 122, 3) := by decide +kernel
theorem dX10_staysOf_4 : decode cX10_staysOf 4 = .ok (.istore 4, 2) := by decide +kernel
theorem dX10_staysOf_6 : decode cX10_staysOf 6 = .ok (.lconst 1, 1) := by decide +kernel
theorem dX10_staysOf_7 : decode cX10_staysOf 7 = .ok (.lstore 5, 2) := by decide +kernel
theorem dX10_staysOf_9 : decode cX10_staysOf 9 = .ok (.iconst 0, 1) := by decide +kernel
theorem dX10_staysOf_10 : decode cX10_staysOf 10 = .ok (.istore 7, 2) := by decide +kernel
theorem dX10_staysOf_12 : decode cX10_staysOf 12 = .ok (.iload 7, 2) := by decide +kernel
theorem dX10_staysOf_14 : decode cX10_staysOf 14 = .ok (.iload_n 3, 1) := by decide +kernel
theorem dX10_staysOf_15 : decode cX10_staysOf 15 = .ok (.if_icmp .ge 45, 3) := by decide +kernel
theorem dX10_staysOf_18 : decode cX10_staysOf 18 = .ok (.iload_n 2, 1) := by decide +kernel
theorem dX10_staysOf_19 : decode cX10_staysOf 19 = .ok (.iload_n 3, 1) := by decide +kernel
theorem dX10_staysOf_20 : decode cX10_staysOf 20 = .ok (.iload 7, 2) := by decide +kernel
theorem dX10_staysOf_22 : decode cX10_staysOf 22 = .ok (.invokestatic 184, 3) := by decide +kernel
theorem dX10_staysOf_25 : decode cX10_staysOf 25 = .ok (.istore 8, 2) := by decide +kernel
theorem dX10_staysOf_27 : decode cX10_staysOf 27 = .ok (.lload 5, 2) := by decide +kernel
theorem dX10_staysOf_29 : decode cX10_staysOf 29 = .ok (.bipush 10, 2) := by decide +kernel
theorem dX10_staysOf_31 : decode cX10_staysOf 31 = .ok (.aload_n 0, 1) := by decide +kernel
theorem dX10_staysOf_32 : decode cX10_staysOf 32 = .ok (.iload_n 1, 1) := by decide +kernel
theorem dX10_staysOf_33 : decode cX10_staysOf 33 = .ok (.iload 8, 2) := by decide +kernel
theorem dX10_staysOf_35 : decode cX10_staysOf 35 = .ok (.iload 4, 2) := by decide +kernel
theorem dX10_staysOf_37 : decode cX10_staysOf 37 = .ok (.invokevirtual 147, 3) := by decide +kernel
theorem dX10_staysOf_40 : decode cX10_staysOf 40 = .ok (.isub, 1) := by decide +kernel
theorem dX10_staysOf_41 : decode cX10_staysOf 41 = .ok (.i2l, 1) := by decide +kernel
theorem dX10_staysOf_42 : decode cX10_staysOf 42 = .ok (.lmul, 1) := by decide +kernel
theorem dX10_staysOf_43 : decode cX10_staysOf 43 = .ok (.lstore 5, 2) := by decide +kernel
theorem dX10_staysOf_45 : decode cX10_staysOf 45 = .ok (.iload 4, 2) := by decide +kernel
theorem dX10_staysOf_47 : decode cX10_staysOf 47 = .ok (.iload 8, 2) := by decide +kernel
theorem dX10_staysOf_49 : decode cX10_staysOf 49 = .ok (.invokestatic 158, 3) := by decide +kernel
theorem dX10_staysOf_52 : decode cX10_staysOf 52 = .ok (.istore 4, 2) := by decide +kernel
theorem dX10_staysOf_54 : decode cX10_staysOf 54 = .ok (.iinc 7 1, 3) := by decide +kernel
theorem dX10_staysOf_57 : decode cX10_staysOf 57 = .ok (.goto (-45), 3) := by decide +kernel
theorem dX10_staysOf_60 : decode cX10_staysOf 60 = .ok (.lload 5, 2) := by decide +kernel
theorem dX10_staysOf_62 : decode cX10_staysOf 62 = .ok (.lreturn, 1) := by decide +kernel
theorem dX10_tens_0 : decode cX10_tens 0 = .ok (.lconst 1, 1) := by decide +kernel
theorem dX10_tens_1 : decode cX10_tens 1 = .ok (.lstore_n 1, 1) := by decide +kernel
theorem dX10_tens_2 : decode cX10_tens 2 = .ok (.iconst 0, 1) := by decide +kernel
theorem dX10_tens_3 : decode cX10_tens 3 = .ok (.istore_n 3, 1) := by decide +kernel
theorem dX10_tens_4 : decode cX10_tens 4 = .ok (.iload_n 3, 1) := by decide +kernel
theorem dX10_tens_5 : decode cX10_tens 5 = .ok (.iload_n 0, 1) := by decide +kernel
theorem dX10_tens_6 : decode cX10_tens 6 = .ok (.if_icmp .ge 15, 3) := by decide +kernel
theorem dX10_tens_9 : decode cX10_tens 9 = .ok (.lload_n 1, 1) := by decide +kernel
theorem dX10_tens_10 : decode cX10_tens 10 = .ok (.ldc2_w 81, 3) := by decide +kernel
theorem dX10_tens_13 : decode cX10_tens 13 = .ok (.lmul, 1) := by decide +kernel
theorem dX10_tens_14 : decode cX10_tens 14 = .ok (.lstore_n 1, 1) := by decide +kernel
theorem dX10_tens_15 : decode cX10_tens 15 = .ok (.iinc 3 1, 3) := by decide +kernel
theorem dX10_tens_18 : decode cX10_tens 18 = .ok (.goto (-14), 3) := by decide +kernel
theorem dX10_tens_21 : decode cX10_tens 21 = .ok (.lload_n 1, 1) := by decide +kernel
theorem dX10_tens_22 : decode cX10_tens 22 = .ok (.lreturn, 1) := by decide +kernel
set_option maxRecDepth 20000 in
theorem ggX10_stays_X10_ordersIn : GoodIn wsX10_stays wsX10_ordersIn := goodIn_r _ [7, 8, 9, 6, 10, 11, 12, 13, 14] (by decide +kernel) (by decide +kernel)
set_option maxRecDepth 20000 in
theorem gX10_stays_X10_ordersIn : GoodIn wsX10_stays (va_wsS RX10 187 yX10_ordersIn wsX10_ordersIn) := goodIn_app (goodIn_of _ (by decide +kernel)) ggX10_stays_X10_ordersIn
set_option maxRecDepth 20000 in
theorem ggX10_stays_X10_isChild : GoodIn wsX10_stays wsX10_isChild := goodIn_r _ [18, 19, 12, 13, 6, 14, 55, 56, 57, 58, 59, 60, 61, 62, 63, 64, 65, 66, 67, 68, 69, 70, 71, 72, 73, 74, 75, 76, 77] (by decide +kernel) (by decide +kernel)
set_option maxRecDepth 20000 in
theorem gX10_stays_X10_isChild : GoodIn wsX10_stays (wsV RX10 135 RX10 yX10_isChild wsX10_isChild) := goodIn_app (goodIn_of _ (by decide +kernel)) ggX10_stays_X10_isChild
set_option maxRecDepth 20000 in
theorem ggX10_stays_X10_within : GoodIn wsX10_stays wsX10_within := goodIn_r _ [14] (by decide +kernel) (by decide +kernel)
set_option maxRecDepth 20000 in
theorem gX10_stays_X10_within : GoodIn wsX10_stays (va_wsS RX10 42 yX10_within wsX10_within) := goodIn_app (goodIn_of _ (by decide +kernel)) ggX10_stays_X10_within
set_option maxRecDepth 20000 in
theorem ggX10_stays_X10_isPart : GoodIn wsX10_stays wsX10_isPart := goodIn_r _ [22, 12, 13, 6, 14] (by decide +kernel) (by decide +kernel)
set_option maxRecDepth 20000 in
theorem gX10_stays_X10_isPart : GoodIn wsX10_stays (va_wsS RX10 171 yX10_isPart wsX10_isPart) := goodIn_app (goodIn_of _ (by decide +kernel)) ggX10_stays_X10_isPart
set_option maxRecDepth 20000 in
theorem ggX10_stays_X10_has : GoodIn wsX10_stays wsX10_has := goodIn_r _ [25] (by decide +kernel) (by decide +kernel)
set_option maxRecDepth 20000 in
theorem gX10_stays_X10_has : GoodIn wsX10_stays (va_wsS RX10 128 yX10_has wsX10_has) := goodIn_app (goodIn_of _ (by decide +kernel)) ggX10_stays_X10_has
set_option maxRecDepth 20000 in
theorem ggX10_stays_X10_leaderOf : GoodIn wsX10_stays wsX10_leaderOf := goodIn_r _ [29, 30, 3, 23, 24, 6, 25, 55, 56, 57, 58, 59, 60, 61, 62, 63, 64, 65, 66, 67, 68, 69, 70, 71, 72, 73, 74, 75, 76, 77] (by decide +kernel) (by decide +kernel)
set_option maxRecDepth 20000 in
theorem gX10_stays_X10_leaderOf : GoodIn wsX10_stays (wsV RX10 131 RX10 yX10_leaderOf wsX10_leaderOf) := goodIn_app (goodIn_of _ (by decide +kernel)) ggX10_stays_X10_leaderOf
set_option maxRecDepth 20000 in
theorem ggX10_stays_X10_staysOf : GoodIn wsX10_stays wsX10_staysOf := goodIn_r _ [34, 35, 36, 37, 6, 38, 39, 40, 41, 42, 43, 44, 45, 46, 47, 55, 56, 57, 58, 59, 60, 61, 62, 63, 64, 65, 66, 67, 68, 69, 70, 71, 72, 73, 74, 75, 76, 77] (by decide +kernel) (by decide +kernel)
set_option maxRecDepth 20000 in
theorem gX10_stays_X10_staysOf : GoodIn wsX10_stays (wsV RX10 190 RX10 yX10_staysOf wsX10_staysOf) := goodIn_app (goodIn_of _ (by decide +kernel)) ggX10_stays_X10_staysOf
set_option maxRecDepth 20000 in
theorem ggX10_stays_X10_tens : GoodIn wsX10_stays wsX10_tens := goodIn_r _ [50, 51] (by decide +kernel) (by decide +kernel)
set_option maxRecDepth 20000 in
theorem gX10_stays_X10_tens : GoodIn wsX10_stays (va_wsS RX10 194 yX10_tens wsX10_tens) := goodIn_app (goodIn_of _ (by decide +kernel)) ggX10_stays_X10_tens
set_option maxRecDepth 20000 in
theorem ggX10_stays_X10_part : GoodIn wsX10_stays wsX10_part := goodIn_r _ [54] (by decide +kernel) (by decide +kernel)
set_option maxRecDepth 20000 in
theorem gX10_stays_X10_part : GoodIn wsX10_stays (va_wsS RX10 178 yX10_part wsX10_part) := goodIn_app (goodIn_of _ (by decide +kernel)) ggX10_stays_X10_part
theorem dX10_stays_0 : decode cX10_stays 0 = .ok (.iload_n 2, 1) := by decide +kernel
theorem dX10_stays_1 : decode cX10_stays 1 = .ok (.invokestatic 187, 3) := by decide +kernel
theorem dX10_stays_4 : decode cX10_stays 4 = .ok (.istore 4, 2) := by decide +kernel
theorem dX10_stays_6 : decode cX10_stays 6 = .ok (.aload_n 0, 1) := by decide +kernel
theorem dX10_stays_7 : decode cX10_stays 7 = .ok (.iload_n 1, 1) := by decide +kernel
theorem dX10_stays_8 : decode cX10_stays 8 = .ok (.invokevirtual 135, 3) := by decide +kernel
theorem dX10_stays_11 : decode cX10_stays 11 = .ok (.ifCond .eq 23, 3) := by decide +kernel
theorem dX10_stays_14 : decode cX10_stays 14 = .ok (.iload 4, 2) := by decide +kernel
theorem dX10_stays_16 : decode cX10_stays 16 = .ok (.i2l, 1) := by decide +kernel
theorem dX10_stays_17 : decode cX10_stays 17 = .ok (.lconst 0, 1) := by decide +kernel
theorem dX10_stays_18 : decode cX10_stays 18 = .ok (.ldc2_w 97, 3) := by decide +kernel
theorem dX10_stays_21 : decode cX10_stays 21 = .ok (.invokestatic 42, 3) := by decide +kernel
theorem dX10_stays_24 : decode cX10_stays 24 = .ok (.ifCond .eq 10, 3) := by decide +kernel
theorem dX10_stays_27 : decode cX10_stays 27 = .ok (.iload_n 3, 1) := by decide +kernel
theorem dX10_stays_28 : decode cX10_stays 28 = .ok (.invokestatic 171, 3) := by decide +kernel
theorem dX10_stays_31 : decode cX10_stays 31 = .ok (.ifCond .ne 7, 3) := by decide +kernel
theorem dX10_stays_34 : decode cX10_stays 34 = .ok (.ldc2_w 79, 3) := by decide +kernel
theorem dX10_stays_37 : decode cX10_stays 37 = .ok (.lreturn, 1) := by decide +kernel
theorem dX10_stays_38 : decode cX10_stays 38 = .ok (.aload_n 0, 1) := by decide +kernel
theorem dX10_stays_39 : decode cX10_stays 39 = .ok (.getfield 119, 3) := by decide +kernel
theorem dX10_stays_42 : decode cX10_stays 42 = .ok (.iload_n 1, 1) := by decide +kernel
theorem dX10_stays_43 : decode cX10_stays 43 = .ok (.invokestatic 128, 3) := by decide +kernel
theorem dX10_stays_46 : decode cX10_stays 46 = .ok (.ifCond .eq 18, 3) := by decide +kernel
theorem dX10_stays_49 : decode cX10_stays 49 = .ok (.aload_n 0, 1) := by decide +kernel
theorem dX10_stays_50 : decode cX10_stays 50 = .ok (.aload_n 0, 1) := by decide +kernel
theorem dX10_stays_51 : decode cX10_stays 51 = .ok (.iload_n 1, 1) := by decide +kernel
theorem dX10_stays_52 : decode cX10_stays 52 = .ok (.invokevirtual 131, 3) := by decide +kernel
theorem dX10_stays_55 : decode cX10_stays 55 = .ok (.iload_n 2, 1) := by decide +kernel
theorem dX10_stays_56 : decode cX10_stays 56 = .ok (.iload 4, 2) := by decide +kernel
theorem dX10_stays_58 : decode cX10_stays 58 = .ok (.invokevirtual 190, 3) := by decide +kernel
theorem dX10_stays_61 : decode cX10_stays 61 = .ok (.goto 4, 3) := by decide +kernel
theorem dX10_stays_64 : decode cX10_stays 64 = .ok (.lconst 0, 1) := by decide +kernel
theorem dX10_stays_65 : decode cX10_stays 65 = .ok (.iload 4, 2) := by decide +kernel
theorem dX10_stays_67 : decode cX10_stays 67 = .ok (.invokestatic 194, 3) := by decide +kernel
theorem dX10_stays_70 : decode cX10_stays 70 = .ok (.iload_n 3, 1) := by decide +kernel
theorem dX10_stays_71 : decode cX10_stays 71 = .ok (.invokestatic 178, 3) := by decide +kernel
theorem dX10_stays_74 : decode cX10_stays 74 = .ok (.lreturn, 1) := by decide +kernel
set_option maxRecDepth 20000 in
theorem ggX10_leftOf_X10_has : GoodIn wsX10_leftOf wsX10_has := goodIn_r _ [7] (by decide +kernel) (by decide +kernel)
set_option maxRecDepth 20000 in
theorem gX10_leftOf_X10_has : GoodIn wsX10_leftOf (va_wsS RX10 128 yX10_has wsX10_has) := goodIn_app (goodIn_of _ (by decide +kernel)) ggX10_leftOf_X10_has
set_option maxRecDepth 20000 in
theorem ggX10_leftOf_X10_leaderOf : GoodIn wsX10_leftOf wsX10_leaderOf := goodIn_r _ [11, 12, 2, 4, 5, 6, 7, 41, 42, 43, 44, 45, 46, 47, 48, 49, 50, 51, 52, 53, 54, 55, 56, 57, 58, 59, 60, 61, 62, 63] (by decide +kernel) (by decide +kernel)
set_option maxRecDepth 20000 in
theorem gX10_leftOf_X10_leaderOf : GoodIn wsX10_leftOf (wsV RX10 131 RX10 yX10_leaderOf wsX10_leaderOf) := goodIn_app (goodIn_of _ (by decide +kernel)) ggX10_leftOf_X10_leaderOf
set_option maxRecDepth 20000 in
theorem ggX10_leftOf_X10_ledBy : GoodIn wsX10_leftOf wsX10_ledBy := goodIn_r _ [16, 1, 2, 4, 5, 6, 7, 8, 9, 10, 11, 12, 41, 42, 43, 44, 45, 46, 47, 48, 49, 50, 51, 52, 53, 54, 55, 56, 57, 58, 59, 60, 61, 62, 63] (by decide +kernel) (by decide +kernel)
set_option maxRecDepth 20000 in
theorem gX10_leftOf_X10_ledBy : GoodIn wsX10_leftOf (wsV RX10 152 RX10 yX10_ledBy wsX10_ledBy) := goodIn_app (goodIn_of _ (by decide +kernel)) ggX10_leftOf_X10_ledBy
set_option maxRecDepth 20000 in
theorem ggX10_leftOf_X10_bits : GoodIn wsX10_leftOf wsX10_bits := goodIn_r _ [19] (by decide +kernel) (by decide +kernel)
set_option maxRecDepth 20000 in
theorem gX10_leftOf_X10_bits : GoodIn wsX10_leftOf (va_wsS RX10 162 yX10_bits wsX10_bits) := goodIn_app (goodIn_of _ (by decide +kernel)) ggX10_leftOf_X10_bits
set_option maxRecDepth 20000 in
theorem ggX10_leftOf_X10_staysOf : GoodIn wsX10_leftOf wsX10_staysOf := goodIn_r _ [23, 24, 25, 26, 6, 27, 28, 29, 30, 31, 32, 33, 34, 35, 36, 41, 42, 43, 44, 45, 46, 47, 48, 49, 50, 51, 52, 53, 54, 55, 56, 57, 58, 59, 60, 61, 62, 63] (by decide +kernel) (by decide +kernel)
set_option maxRecDepth 20000 in
theorem gX10_leftOf_X10_staysOf : GoodIn wsX10_leftOf (wsV RX10 190 RX10 yX10_staysOf wsX10_staysOf) := goodIn_app (goodIn_of _ (by decide +kernel)) ggX10_leftOf_X10_staysOf
set_option maxRecDepth 20000 in
theorem ggX10_leftOf_X10_tens : GoodIn wsX10_leftOf wsX10_tens := goodIn_r _ [39, 40] (by decide +kernel) (by decide +kernel)
set_option maxRecDepth 20000 in
theorem gX10_leftOf_X10_tens : GoodIn wsX10_leftOf (va_wsS RX10 194 yX10_tens wsX10_tens) := goodIn_app (goodIn_of _ (by decide +kernel)) ggX10_leftOf_X10_tens
theorem dX10_leftOf_0 : decode cX10_leftOf 0 = .ok (.lconst 0, 1) := by decide +kernel
theorem dX10_leftOf_1 : decode cX10_leftOf 1 = .ok (.lstore_n 3, 1) := by decide +kernel
theorem dX10_leftOf_2 : decode cX10_leftOf 2 = .ok (.iconst 0, 1) := by decide +kernel
theorem dX10_leftOf_3 : decode cX10_leftOf 3 = .ok (.istore 5, 2) := by decide +kernel
theorem dX10_leftOf_5 : decode cX10_leftOf 5 = .ok (.iconst 0, 1) := by decide +kernel
theorem dX10_leftOf_6 : decode cX10_leftOf 6 = .ok (.istore 6, 2) := by decide +kernel
theorem dX10_leftOf_8 : decode cX10_leftOf 8 = .ok (.iload 6, 2) := by decide +kernel
theorem dX10_leftOf_10 : decode cX10_leftOf 10 = .ok (.aload_n 0, 1) := by decide +kernel
theorem dX10_leftOf_11 : decode cX10_leftOf 11 = .ok (.getfield 39, 3) := by decide +kernel
theorem dX10_leftOf_14 : decode cX10_leftOf 14 = .ok (.if_icmp .ge 158, 3) := by decide +kernel
theorem dX10_leftOf_17 : decode cX10_leftOf 17 = .ok (.aload_n 0, 1) := by decide +kernel
theorem dX10_leftOf_18 : decode cX10_leftOf 18 = .ok (.getfield 119, 3) := by decide +kernel
theorem dX10_leftOf_21 : decode cX10_leftOf 21 = .ok (.iload 6, 2) := by decide +kernel
theorem dX10_leftOf_23 : decode cX10_leftOf 23 = .ok (.invokestatic 128, 3) := by decide +kernel
theorem dX10_leftOf_26 : decode cX10_leftOf 26 = .ok (.ifCond .eq 18, 3) := by decide +kernel
theorem dX10_leftOf_29 : decode cX10_leftOf 29 = .ok (.aload_n 0, 1) := by decide +kernel
theorem dX10_leftOf_30 : decode cX10_leftOf 30 = .ok (.iload 6, 2) := by decide +kernel
theorem dX10_leftOf_32 : decode cX10_leftOf 32 = .ok (.invokevirtual 131, 3) := by decide +kernel
theorem dX10_leftOf_35 : decode cX10_leftOf 35 = .ok (.iload 6, 2) := by decide +kernel
theorem dX10_leftOf_37 : decode cX10_leftOf 37 = .ok (.if_icmp .ne 7, 3) := by decide +kernel
theorem dX10_leftOf_40 : decode cX10_leftOf 40 = .ok (.iconst 1, 1) := by decide +kernel
theorem dX10_leftOf_41 : decode cX10_leftOf 41 = .ok (.goto 4, 3) := by decide +kernel
theorem dX10_leftOf_44 : decode cX10_leftOf 44 = .ok (.iconst 0, 1) := by decide +kernel
theorem dX10_leftOf_45 : decode cX10_leftOf 45 = .ok (.istore 7, 2) := by decide +kernel
theorem dX10_leftOf_47 : decode cX10_leftOf 47 = .ok (.iload 5, 2) := by decide +kernel
theorem dX10_leftOf_49 : decode cX10_leftOf 49 = .ok (.iload 7, 2) := by decide +kernel
theorem dX10_leftOf_51 : decode cX10_leftOf 51 = .ok (.ifCond .eq 7, 3) := by decide +kernel
theorem dX10_leftOf_54 : decode cX10_leftOf 54 = .ok (.iconst 1, 1) := by decide +kernel
theorem dX10_leftOf_55 : decode cX10_leftOf 55 = .ok (.goto 4, 3) := by decide +kernel
theorem dX10_leftOf_58 : decode cX10_leftOf 58 = .ok (.iconst 0, 1) := by decide +kernel
theorem dX10_leftOf_59 : decode cX10_leftOf 59 = .ok (.iadd, 1) := by decide +kernel
theorem dX10_leftOf_60 : decode cX10_leftOf 60 = .ok (.istore 5, 2) := by decide +kernel
theorem dX10_leftOf_62 : decode cX10_leftOf 62 = .ok (.iload 7, 2) := by decide +kernel
theorem dX10_leftOf_64 : decode cX10_leftOf 64 = .ok (.ifCond .eq 102, 3) := by decide +kernel
theorem dX10_leftOf_67 : decode cX10_leftOf 67 = .ok (.aload_n 0, 1) := by decide +kernel
theorem dX10_leftOf_68 : decode cX10_leftOf 68 = .ok (.iload 6, 2) := by decide +kernel
theorem dX10_leftOf_70 : decode cX10_leftOf 70 = .ok (.invokevirtual 152, 3) := by decide +kernel
theorem dX10_leftOf_73 : decode cX10_leftOf 73 = .ok (.invokestatic 162, 3) := by decide +kernel
theorem dX10_leftOf_76 : decode cX10_leftOf 76 = .ok (.iconst 1, 1) := by decide +kernel
theorem dX10_leftOf_77 : decode cX10_leftOf 77 = .ok (.if_icmp .le 6, 3) := by decide +kernel
theorem dX10_leftOf_80 : decode cX10_leftOf 80 = .ok (.goto 86, 3) := by decide +kernel
theorem dX10_leftOf_83 : decode cX10_leftOf 83 = .ok (.lconst 1, 1) := by decide +kernel
theorem dX10_leftOf_84 : decode cX10_leftOf 84 = .ok (.lstore 8, 2) := by decide +kernel
theorem dX10_leftOf_86 : decode cX10_leftOf 86 = .ok (.iconst 0, 1) := by decide +kernel
theorem dX10_leftOf_87 : decode cX10_leftOf 87 = .ok (.istore 10, 2) := by decide +kernel
theorem dX10_leftOf_89 : decode cX10_leftOf 89 = .ok (.iload 10, 2) := by decide +kernel
theorem dX10_leftOf_91 : decode cX10_leftOf 91 = .ok (.aload_n 0, 1) := by decide +kernel
theorem dX10_leftOf_92 : decode cX10_leftOf 92 = .ok (.getfield 39, 3) := by decide +kernel
theorem dX10_leftOf_95 : decode cX10_leftOf 95 = .ok (.if_icmp .ge 66, 3) := by decide +kernel
theorem dX10_leftOf_98 : decode cX10_leftOf 98 = .ok (.aload_n 0, 1) := by decide +kernel
theorem dX10_leftOf_99 : decode cX10_leftOf 99 = .ok (.getfield 119, 3) := by decide +kernel
theorem dX10_leftOf_102 : decode cX10_leftOf 102 = .ok (.iload 10, 2) := by decide +kernel
theorem dX10_leftOf_104 : decode cX10_leftOf 104 = .ok (.invokestatic 128, 3) := by decide +kernel
theorem dX10_leftOf_107 : decode cX10_leftOf 107 = .ok (.ifCond .eq 48, 3) := by decide +kernel
theorem dX10_leftOf_110 : decode cX10_leftOf 110 = .ok (.aload_n 0, 1) := by decide +kernel
theorem dX10_leftOf_111 : decode cX10_leftOf 111 = .ok (.iload 10, 2) := by decide +kernel
theorem dX10_leftOf_113 : decode cX10_leftOf 113 = .ok (.invokevirtual 131, 3) := by decide +kernel
theorem dX10_leftOf_116 : decode cX10_leftOf 116 = .ok (.iload 10, 2) := by decide +kernel
theorem dX10_leftOf_118 : decode cX10_leftOf 118 = .ok (.if_icmp .ne 37, 3) := by decide +kernel
theorem dX10_leftOf_121 : decode cX10_leftOf 121 = .ok (.aload_n 0, 1) := by decide +kernel
theorem dX10_leftOf_122 : decode cX10_leftOf 122 = .ok (.iload 10, 2) := by decide +kernel
theorem dX10_leftOf_124 : decode cX10_leftOf 124 = .ok (.iload_n 1, 1) := by decide +kernel
theorem dX10_leftOf_125 : decode cX10_leftOf 125 = .ok (.iload_n 2, 1) := by decide +kernel
theorem dX10_leftOf_126 : decode cX10_leftOf 126 = .ok (.invokevirtual 190, 3) := by decide +kernel
theorem dX10_leftOf_129 : decode cX10_leftOf 129 = .ok (.lstore 11, 2) := by decide +kernel
theorem dX10_leftOf_131 : decode cX10_leftOf 131 = .ok (.lload 8, 2) := by decide +kernel
theorem dX10_leftOf_133 : decode cX10_leftOf 133 = .ok (.iload 10, 2) := by decide +kernel
theorem dX10_leftOf_135 : decode cX10_leftOf 135 = .ok (.iload 6, 2) := by decide +kernel
theorem dX10_leftOf_137 : decode cX10_leftOf 137 = .ok (.if_icmp .ne 8, 3) := by decide +kernel
theorem dX10_leftOf_140 : decode cX10_leftOf 140 = .ok (.lload 11, 2) := by decide +kernel
theorem dX10_leftOf_142 : decode cX10_leftOf 142 = .ok (.goto 10, 3) := by decide +kernel
theorem dX10_leftOf_145 : decode cX10_leftOf 145 = .ok (.iload_n 2, 1) := by decide +kernel
theorem dX10_leftOf_146 : decode cX10_leftOf 146 = .ok (.invokestatic 194, 3) := by decide +kernel
theorem dX10_leftOf_149 : decode cX10_leftOf 149 = .ok (.lload 11, 2) := by decide +kernel
theorem dX10_leftOf_151 : decode cX10_leftOf 151 = .ok (.lsub, 1) := by decide +kernel
theorem dX10_leftOf_152 : decode cX10_leftOf 152 = .ok (.lmul, 1) := by decide +kernel
theorem dX10_leftOf_153 : decode cX10_leftOf 153 = .ok (.lstore 8, 2) := by decide +kernel
theorem dX10_leftOf_155 : decode cX10_leftOf 155 = .ok (.iinc 10 1, 3) := by decide +kernel
theorem dX10_leftOf_158 : decode cX10_leftOf 158 = .ok (.goto (-69), 3) := by decide +kernel
theorem dX10_leftOf_161 : decode cX10_leftOf 161 = .ok (.lload_n 3, 1) := by decide +kernel
theorem dX10_leftOf_162 : decode cX10_leftOf 162 = .ok (.lload 8, 2) := by decide +kernel
theorem dX10_leftOf_164 : decode cX10_leftOf 164 = .ok (.ladd, 1) := by decide +kernel
theorem dX10_leftOf_165 : decode cX10_leftOf 165 = .ok (.lstore_n 3, 1) := by decide +kernel
theorem dX10_leftOf_166 : decode cX10_leftOf 166 = .ok (.iinc 6 1, 3) := by decide +kernel
theorem dX10_leftOf_169 : decode cX10_leftOf 169 = .ok (.goto (-161), 3) := by decide +kernel
theorem dX10_leftOf_172 : decode cX10_leftOf 172 = .ok (.aload_n 0, 1) := by decide +kernel
theorem dX10_leftOf_173 : decode cX10_leftOf 173 = .ok (.iload_n 2, 1) := by decide +kernel
theorem dX10_leftOf_174 : decode cX10_leftOf 174 = .ok (.iload 5, 2) := by decide +kernel
theorem dX10_leftOf_176 : decode cX10_leftOf 176 = .ok (.imul, 1) := by decide +kernel
theorem dX10_leftOf_177 : decode cX10_leftOf 177 = .ok (.invokestatic 194, 3) := by decide +kernel
theorem dX10_leftOf_180 : decode cX10_leftOf 180 = .ok (.putfield 165, 3) := by decide +kernel
theorem dX10_leftOf_183 : decode cX10_leftOf 183 = .ok (.lload_n 3, 1) := by decide +kernel
theorem dX10_leftOf_184 : decode cX10_leftOf 184 = .ok (.lreturn, 1) := by decide +kernel
set_option maxRecDepth 20000 in
theorem ggX10_left_X10_ordersIn : GoodIn wsX10_left wsX10_ordersIn := goodIn_r _ [7, 8, 9, 6, 10, 11, 12, 13, 14] (by decide +kernel) (by decide +kernel)
set_option maxRecDepth 20000 in
theorem gX10_left_X10_ordersIn : GoodIn wsX10_left (va_wsS RX10 187 yX10_ordersIn wsX10_ordersIn) := goodIn_app (goodIn_of _ (by decide +kernel)) ggX10_left_X10_ordersIn
set_option maxRecDepth 20000 in
theorem ggX10_left_X10_within : GoodIn wsX10_left wsX10_within := goodIn_r _ [14] (by decide +kernel) (by decide +kernel)
set_option maxRecDepth 20000 in
theorem gX10_left_X10_within : GoodIn wsX10_left (va_wsS RX10 42 yX10_within wsX10_within) := goodIn_app (goodIn_of _ (by decide +kernel)) ggX10_left_X10_within
set_option maxRecDepth 20000 in
theorem ggX10_left_X10_isPart : GoodIn wsX10_left wsX10_isPart := goodIn_r _ [17, 12, 13, 6, 14] (by decide +kernel) (by decide +kernel)
set_option maxRecDepth 20000 in
theorem gX10_left_X10_isPart : GoodIn wsX10_left (va_wsS RX10 171 yX10_isPart wsX10_isPart) := goodIn_app (goodIn_of _ (by decide +kernel)) ggX10_left_X10_isPart
set_option maxRecDepth 20000 in
theorem ggX10_left_X10_leftOf : GoodIn wsX10_left wsX10_leftOf := goodIn_r _ [21, 22, 23, 3, 24, 25, 6, 26, 27, 28, 29, 30, 31, 32, 33, 34, 35, 36, 37, 38, 39, 40, 41, 42, 43, 44, 45, 46, 47, 48, 49, 50, 51, 52, 53, 54, 55, 56, 57, 58, 59, 63, 64, 65, 66, 67, 68, 69, 70, 71, 72, 73, 74, 75, 76, 77, 78, 79, 80, 81, 82, 83, 84, 85] (by decide +kernel) (by decide +kernel)
set_option maxRecDepth 20000 in
theorem gX10_left_X10_leftOf : GoodIn wsX10_left (wsV RX10 200 RX10 yX10_leftOf wsX10_leftOf) := goodIn_app (goodIn_of _ (by decide +kernel)) ggX10_left_X10_leftOf
set_option maxRecDepth 20000 in
theorem ggX10_left_X10_part : GoodIn wsX10_left wsX10_part := goodIn_r _ [62] (by decide +kernel) (by decide +kernel)
set_option maxRecDepth 20000 in
theorem gX10_left_X10_part : GoodIn wsX10_left (va_wsS RX10 178 yX10_part wsX10_part) := goodIn_app (goodIn_of _ (by decide +kernel)) ggX10_left_X10_part
theorem dX10_left_0 : decode cX10_left 0 = .ok (.iload_n 1, 1) := by decide +kernel
theorem dX10_left_1 : decode cX10_left 1 = .ok (.invokestatic 187, 3) := by decide +kernel
theorem dX10_left_4 : decode cX10_left 4 = .ok (.istore_n 3, 1) := by decide +kernel
theorem dX10_left_5 : decode cX10_left 5 = .ok (.iload_n 3, 1) := by decide +kernel
theorem dX10_left_6 : decode cX10_left 6 = .ok (.i2l, 1) := by decide +kernel
theorem dX10_left_7 : decode cX10_left 7 = .ok (.lconst 0, 1) := by decide +kernel
theorem dX10_left_8 : decode cX10_left 8 = .ok (.ldc2_w 198, 3) := by decide +kernel
theorem dX10_left_11 : decode cX10_left 11 = .ok (.invokestatic 42, 3) := by decide +kernel
theorem dX10_left_14 : decode cX10_left 14 = .ok (.ifCond .eq 10, 3) := by decide +kernel
theorem dX10_left_17 : decode cX10_left 17 = .ok (.iload_n 2, 1) := by decide +kernel
theorem dX10_left_18 : decode cX10_left 18 = .ok (.invokestatic 171, 3) := by decide +kernel
theorem dX10_left_21 : decode cX10_left 21 = .ok (.ifCond .ne 7, 3) := by decide +kernel
theorem dX10_left_24 : decode cX10_left 24 = .ok (.ldc2_w 79, 3) := by decide +kernel
theorem dX10_left_27 : decode cX10_left 27 = .ok (.lreturn, 1) := by decide +kernel
theorem dX10_left_28 : decode cX10_left 28 = .ok (.aload_n 0, 1) := by decide +kernel
theorem dX10_left_29 : decode cX10_left 29 = .ok (.iload_n 1, 1) := by decide +kernel
theorem dX10_left_30 : decode cX10_left 30 = .ok (.iload_n 3, 1) := by decide +kernel
theorem dX10_left_31 : decode cX10_left 31 = .ok (.invokevirtual 200, 3) := by decide +kernel
theorem dX10_left_34 : decode cX10_left 34 = .ok (.lstore 4, 2) := by decide +kernel
theorem dX10_left_36 : decode cX10_left 36 = .ok (.lload 4, 2) := by decide +kernel
theorem dX10_left_38 : decode cX10_left 38 = .ok (.aload_n 0, 1) := by decide +kernel
theorem dX10_left_39 : decode cX10_left 39 = .ok (.getfield 165, 3) := by decide +kernel
theorem dX10_left_42 : decode cX10_left 42 = .ok (.iload_n 2, 1) := by decide +kernel
theorem dX10_left_43 : decode cX10_left 43 = .ok (.invokestatic 178, 3) := by decide +kernel
theorem dX10_left_46 : decode cX10_left 46 = .ok (.lreturn, 1) := by decide +kernel
set_option maxRecDepth 20000 in
theorem ggX10_best_X10_within : GoodIn wsX10_best wsX10_within := goodIn_r _ [6] (by decide +kernel) (by decide +kernel)
set_option maxRecDepth 20000 in
theorem gX10_best_X10_within : GoodIn wsX10_best (va_wsS RX10 42 yX10_within wsX10_within) := goodIn_app (goodIn_of _ (by decide +kernel)) ggX10_best_X10_within
set_option maxRecDepth 20000 in
theorem ggX10_best_X10_ordersIn : GoodIn wsX10_best wsX10_ordersIn := goodIn_r _ [9, 10, 11, 5, 12, 13, 3, 4, 6] (by decide +kernel) (by decide +kernel)
set_option maxRecDepth 20000 in
theorem gX10_best_X10_ordersIn : GoodIn wsX10_best (va_wsS RX10 187 yX10_ordersIn wsX10_ordersIn) := goodIn_app (goodIn_of _ (by decide +kernel)) ggX10_best_X10_ordersIn
set_option maxRecDepth 20000 in
theorem ggX10_best_X10_leftOf : GoodIn wsX10_best wsX10_leftOf := goodIn_r _ [17, 18, 19, 20, 21, 22, 5, 23, 24, 25, 26, 27, 28, 29, 30, 31, 32, 33, 34, 35, 36, 37, 38, 39, 40, 41, 42, 43, 44, 45, 46, 47, 48, 49, 50, 51, 52, 53, 54, 55, 56, 57, 58, 59, 60, 61, 62, 63, 64, 65, 66, 67, 68, 69, 70, 71, 72, 73, 74, 75, 76, 77, 78, 79] (by decide +kernel) (by decide +kernel)
set_option maxRecDepth 20000 in
theorem gX10_best_X10_leftOf : GoodIn wsX10_best (wsV RX10 200 RX10 yX10_leftOf wsX10_leftOf) := goodIn_app (goodIn_of _ (by decide +kernel)) ggX10_best_X10_leftOf
theorem dX10_best_0 : decode cX10_best 0 = .ok (.iload_n 1, 1) := by decide +kernel
theorem dX10_best_1 : decode cX10_best 1 = .ok (.i2l, 1) := by decide +kernel
theorem dX10_best_2 : decode cX10_best 2 = .ok (.lconst 0, 1) := by decide +kernel
theorem dX10_best_3 : decode cX10_best 3 = .ok (.ldc2_w 198, 3) := by decide +kernel
theorem dX10_best_6 : decode cX10_best 6 = .ok (.invokestatic 42, 3) := by decide +kernel
theorem dX10_best_9 : decode cX10_best 9 = .ok (.ifCond .ne 5, 3) := by decide +kernel
theorem dX10_best_12 : decode cX10_best 12 = .ok (.iconst (-1), 1) := by decide +kernel
theorem dX10_best_13 : decode cX10_best 13 = .ok (.ireturn, 1) := by decide +kernel
theorem dX10_best_14 : decode cX10_best 14 = .ok (.iconst 0, 1) := by decide +kernel
theorem dX10_best_15 : decode cX10_best 15 = .ok (.istore_n 2, 1) := by decide +kernel
theorem dX10_best_16 : decode cX10_best 16 = .ok (.ldc2_w 79, 3) := by decide +kernel
theorem dX10_best_19 : decode cX10_best 19 = .ok (.lstore_n 3, 1) := by decide +kernel
theorem dX10_best_20 : decode cX10_best 20 = .ok (.iconst 0, 1) := by decide +kernel
theorem dX10_best_21 : decode cX10_best 21 = .ok (.istore 5, 2) := by decide +kernel
theorem dX10_best_23 : decode cX10_best 23 = .ok (.iload 5, 2) := by decide +kernel
theorem dX10_best_25 : decode cX10_best 25 = .ok (.sipush 445, 3) := by decide +kernel
theorem dX10_best_28 : decode cX10_best 28 = .ok (.if_icmp .ge 58, 3) := by decide +kernel
theorem dX10_best_31 : decode cX10_best 31 = .ok (.iload 5, 2) := by decide +kernel
theorem dX10_best_33 : decode cX10_best 33 = .ok (.invokestatic 187, 3) := by decide +kernel
theorem dX10_best_36 : decode cX10_best 36 = .ok (.iload_n 1, 1) := by decide +kernel
theorem dX10_best_37 : decode cX10_best 37 = .ok (.if_icmp .eq 6, 3) := by decide +kernel
theorem dX10_best_40 : decode cX10_best 40 = .ok (.goto 40, 3) := by decide +kernel
theorem dX10_best_43 : decode cX10_best 43 = .ok (.aload_n 0, 1) := by decide +kernel
theorem dX10_best_44 : decode cX10_best 44 = .ok (.iload 5, 2) := by decide +kernel
theorem dX10_best_46 : decode cX10_best 46 = .ok (.iload_n 1, 1) := by decide +kernel
theorem dX10_best_47 : decode cX10_best 47 = .ok (.invokevirtual 200, 3) := by decide +kernel
theorem dX10_best_50 : decode cX10_best 50 = .ok (.lstore 6, 2) := by decide +kernel
theorem dX10_best_52 : decode cX10_best 52 = .ok (.lload 6, 2) := by decide +kernel
theorem dX10_best_54 : decode cX10_best 54 = .ok (.lload_n 3, 1) := by decide +kernel
theorem dX10_best_55 : decode cX10_best 55 = .ok (.lcmp, 1) := by decide +kernel
theorem dX10_best_56 : decode cX10_best 56 = .ok (.ifCond .le 8, 3) := by decide +kernel
theorem dX10_best_59 : decode cX10_best 59 = .ok (.iload 5, 2) := by decide +kernel
theorem dX10_best_61 : decode cX10_best 61 = .ok (.goto 4, 3) := by decide +kernel
theorem dX10_best_64 : decode cX10_best 64 = .ok (.iload_n 2, 1) := by decide +kernel
theorem dX10_best_65 : decode cX10_best 65 = .ok (.istore_n 2, 1) := by decide +kernel
theorem dX10_best_66 : decode cX10_best 66 = .ok (.lload 6, 2) := by decide +kernel
theorem dX10_best_68 : decode cX10_best 68 = .ok (.lload_n 3, 1) := by decide +kernel
theorem dX10_best_69 : decode cX10_best 69 = .ok (.lcmp, 1) := by decide +kernel
theorem dX10_best_70 : decode cX10_best 70 = .ok (.ifCond .le 8, 3) := by decide +kernel
theorem dX10_best_73 : decode cX10_best 73 = .ok (.lload 6, 2) := by decide +kernel
theorem dX10_best_75 : decode cX10_best 75 = .ok (.goto 4, 3) := by decide +kernel
theorem dX10_best_78 : decode cX10_best 78 = .ok (.lload_n 3, 1) := by decide +kernel
theorem dX10_best_79 : decode cX10_best 79 = .ok (.lstore_n 3, 1) := by decide +kernel
theorem dX10_best_80 : decode cX10_best 80 = .ok (.iinc 5 1, 3) := by decide +kernel
theorem dX10_best_83 : decode cX10_best 83 = .ok (.goto (-60), 3) := by decide +kernel
theorem dX10_best_86 : decode cX10_best 86 = .ok (.iload_n 2, 1) := by decide +kernel
theorem dX10_best_87 : decode cX10_best 87 = .ok (.ireturn, 1) := by decide +kernel
set_option maxRecDepth 20000 in
theorem ggX10_lure_X10_isChild : GoodIn wsX10_lure wsX10_isChild := goodIn_r _ [8, 9, 10, 11, 7, 12, 30, 31, 32, 33, 34, 35, 36, 37, 38, 39, 40, 41, 42, 43, 44, 45, 46, 47, 48, 49, 50, 51, 52] (by decide +kernel) (by decide +kernel)
set_option maxRecDepth 20000 in
theorem gX10_lure_X10_isChild : GoodIn wsX10_lure (wsV RX10 135 RX10 yX10_isChild wsX10_isChild) := goodIn_app (goodIn_of _ (by decide +kernel)) ggX10_lure_X10_isChild
set_option maxRecDepth 20000 in
theorem ggX10_lure_X10_within : GoodIn wsX10_lure wsX10_within := goodIn_r _ [12] (by decide +kernel) (by decide +kernel)
set_option maxRecDepth 20000 in
theorem gX10_lure_X10_within : GoodIn wsX10_lure (va_wsS RX10 42 yX10_within wsX10_within) := goodIn_app (goodIn_of _ (by decide +kernel)) ggX10_lure_X10_within
set_option maxRecDepth 20000 in
theorem ggX10_lure_X10_has : GoodIn wsX10_lure wsX10_has := goodIn_r _ [15] (by decide +kernel) (by decide +kernel)
set_option maxRecDepth 20000 in
theorem gX10_lure_X10_has : GoodIn wsX10_lure (va_wsS RX10 128 yX10_has wsX10_has) := goodIn_app (goodIn_of _ (by decide +kernel)) ggX10_lure_X10_has
set_option maxRecDepth 20000 in
theorem ggX10_lure_X10_leaderOf : GoodIn wsX10_lure wsX10_leaderOf := goodIn_r _ [19, 20, 2, 13, 14, 7, 15, 30, 31, 32, 33, 34, 35, 36, 37, 38, 39, 40, 41, 42, 43, 44, 45, 46, 47, 48, 49, 50, 51, 52] (by decide +kernel) (by decide +kernel)
set_option maxRecDepth 20000 in
theorem gX10_lure_X10_leaderOf : GoodIn wsX10_lure (wsV RX10 131 RX10 yX10_leaderOf wsX10_leaderOf) := goodIn_app (goodIn_of _ (by decide +kernel)) ggX10_lure_X10_leaderOf
set_option maxRecDepth 20000 in
theorem ggX10_lure_X10_errsOf : GoodIn wsX10_lure wsX10_errsOf := goodIn_r _ [24, 25, 26, 30, 31, 32, 33, 34, 35, 36, 37, 38, 39, 40, 41, 42, 43, 44, 45, 46, 47, 48, 49, 50, 51, 52] (by decide +kernel) (by decide +kernel)
set_option maxRecDepth 20000 in
theorem gX10_lure_X10_errsOf : GoodIn wsX10_lure (wsV RX10 147 RX10 yX10_errsOf wsX10_errsOf) := goodIn_app (goodIn_of _ (by decide +kernel)) ggX10_lure_X10_errsOf
set_option maxRecDepth 20000 in
theorem ggX10_lure_X10_streakBehind : GoodIn wsX10_lure wsX10_streakBehind := goodIn_r _ [29] (by decide +kernel) (by decide +kernel)
set_option maxRecDepth 20000 in
theorem gX10_lure_X10_streakBehind : GoodIn wsX10_lure (va_wsS RX10 158 yX10_streakBehind wsX10_streakBehind) := goodIn_app (goodIn_of _ (by decide +kernel)) ggX10_lure_X10_streakBehind
theorem dX10_lure_0 : decode cX10_lure 0 = .ok (.aload_n 0, 1) := by decide +kernel
theorem dX10_lure_1 : decode cX10_lure 1 = .ok (.iload_n 1, 1) := by decide +kernel
theorem dX10_lure_2 : decode cX10_lure 2 = .ok (.invokevirtual 135, 3) := by decide +kernel
theorem dX10_lure_5 : decode cX10_lure 5 = .ok (.ifCond .eq 15, 3) := by decide +kernel
theorem dX10_lure_8 : decode cX10_lure 8 = .ok (.iload_n 2, 1) := by decide +kernel
theorem dX10_lure_9 : decode cX10_lure 9 = .ok (.i2l, 1) := by decide +kernel
theorem dX10_lure_10 : decode cX10_lure 10 = .ok (.lconst 0, 1) := by decide +kernel
theorem dX10_lure_11 : decode cX10_lure 11 = .ok (.ldc2_w 81, 3) := by decide +kernel
theorem dX10_lure_14 : decode cX10_lure 14 = .ok (.invokestatic 42, 3) := by decide +kernel
theorem dX10_lure_17 : decode cX10_lure 17 = .ok (.ifCond .ne 5, 3) := by decide +kernel
theorem dX10_lure_20 : decode cX10_lure 20 = .ok (.iconst (-1), 1) := by decide +kernel
theorem dX10_lure_21 : decode cX10_lure 21 = .ok (.ireturn, 1) := by decide +kernel
theorem dX10_lure_22 : decode cX10_lure 22 = .ok (.aload_n 0, 1) := by decide +kernel
theorem dX10_lure_23 : decode cX10_lure 23 = .ok (.getfield 119, 3) := by decide +kernel
theorem dX10_lure_26 : decode cX10_lure 26 = .ok (.iload_n 1, 1) := by decide +kernel
theorem dX10_lure_27 : decode cX10_lure 27 = .ok (.invokestatic 128, 3) := by decide +kernel
theorem dX10_lure_30 : decode cX10_lure 30 = .ok (.ifCond .ne 6, 3) := by decide +kernel
theorem dX10_lure_33 : decode cX10_lure 33 = .ok (.bipush (-9), 2) := by decide +kernel
theorem dX10_lure_35 : decode cX10_lure 35 = .ok (.ireturn, 1) := by decide +kernel
theorem dX10_lure_36 : decode cX10_lure 36 = .ok (.aload_n 0, 1) := by decide +kernel
theorem dX10_lure_37 : decode cX10_lure 37 = .ok (.getfield 122, 3) := by decide +kernel
theorem dX10_lure_40 : decode cX10_lure 40 = .ok (.istore_n 3, 1) := by decide +kernel
theorem dX10_lure_41 : decode cX10_lure 41 = .ok (.iconst 0, 1) := by decide +kernel
theorem dX10_lure_42 : decode cX10_lure 42 = .ok (.istore 4, 2) := by decide +kernel
theorem dX10_lure_44 : decode cX10_lure 44 = .ok (.iload 4, 2) := by decide +kernel
theorem dX10_lure_46 : decode cX10_lure 46 = .ok (.bipush 10, 2) := by decide +kernel
theorem dX10_lure_48 : decode cX10_lure 48 = .ok (.if_icmp .ge 33, 3) := by decide +kernel
theorem dX10_lure_51 : decode cX10_lure 51 = .ok (.aload_n 0, 1) := by decide +kernel
theorem dX10_lure_52 : decode cX10_lure 52 = .ok (.aload_n 0, 1) := by decide +kernel
theorem dX10_lure_53 : decode cX10_lure 53 = .ok (.iload_n 1, 1) := by decide +kernel
theorem dX10_lure_54 : decode cX10_lure 54 = .ok (.invokevirtual 131, 3) := by decide +kernel
theorem dX10_lure_57 : decode cX10_lure 57 = .ok (.iconst 2, 1) := by decide +kernel
theorem dX10_lure_58 : decode cX10_lure 58 = .ok (.iload_n 3, 1) := by decide +kernel
theorem dX10_lure_59 : decode cX10_lure 59 = .ok (.invokevirtual 147, 3) := by decide +kernel
theorem dX10_lure_62 : decode cX10_lure 62 = .ok (.iload_n 2, 1) := by decide +kernel
theorem dX10_lure_63 : decode cX10_lure 63 = .ok (.if_icmp .lt 6, 3) := by decide +kernel
theorem dX10_lure_66 : decode cX10_lure 66 = .ok (.iload 4, 2) := by decide +kernel
theorem dX10_lure_68 : decode cX10_lure 68 = .ok (.ireturn, 1) := by decide +kernel
theorem dX10_lure_69 : decode cX10_lure 69 = .ok (.iload_n 3, 1) := by decide +kernel
theorem dX10_lure_70 : decode cX10_lure 70 = .ok (.iconst 1, 1) := by decide +kernel
theorem dX10_lure_71 : decode cX10_lure 71 = .ok (.invokestatic 158, 3) := by decide +kernel
theorem dX10_lure_74 : decode cX10_lure 74 = .ok (.istore_n 3, 1) := by decide +kernel
theorem dX10_lure_75 : decode cX10_lure 75 = .ok (.iinc 4 1, 3) := by decide +kernel
theorem dX10_lure_78 : decode cX10_lure 78 = .ok (.goto (-34), 3) := by decide +kernel
theorem dX10_lure_81 : decode cX10_lure 81 = .ok (.bipush (-9), 2) := by decide +kernel
theorem dX10_lure_83 : decode cX10_lure 83 = .ok (.ireturn, 1) := by decide +kernel
set_option maxRecDepth 20000 in
theorem ggX10_could_X10_isSet : GoodIn wsX10_could wsX10_isSet := goodIn_r _ [5, 6, 7, 8, 4, 9, 36, 37, 38, 39, 40, 41, 42, 43, 44, 45, 46, 47, 48, 49, 50, 51, 52, 53, 54, 55, 56, 57, 58] (by decide +kernel) (by decide +kernel)
set_option maxRecDepth 20000 in
theorem gX10_could_X10_isSet : GoodIn wsX10_could (wsV RX10 168 RX10 yX10_isSet wsX10_isSet) := goodIn_app (goodIn_of _ (by decide +kernel)) ggX10_could_X10_isSet
set_option maxRecDepth 20000 in
theorem ggX10_could_X10_waysOf : GoodIn wsX10_could wsX10_waysOf := goodIn_r _ [13, 14, 15, 6, 16, 17, 18, 19, 4, 20, 21, 22, 23, 24, 25, 26, 27, 28, 29, 30, 31, 32, 33, 34, 35, 36, 37, 38, 39, 40, 41, 42, 43, 44, 45, 46, 47, 48, 49, 50, 51, 52, 53, 54, 55, 56, 57, 58] (by decide +kernel) (by decide +kernel)
set_option maxRecDepth 20000 in
theorem gX10_could_X10_waysOf : GoodIn wsX10_could (wsV RX10 174 RX10 yX10_waysOf wsX10_waysOf) := goodIn_app (goodIn_of _ (by decide +kernel)) ggX10_could_X10_waysOf
theorem dX10_could_0 : decode cX10_could 0 = .ok (.aload_n 0, 1) := by decide +kernel
theorem dX10_could_1 : decode cX10_could 1 = .ok (.iload_n 1, 1) := by decide +kernel
theorem dX10_could_2 : decode cX10_could 2 = .ok (.invokevirtual 168, 3) := by decide +kernel
theorem dX10_could_5 : decode cX10_could 5 = .ok (.ifCond .ne 5, 3) := by decide +kernel
theorem dX10_could_8 : decode cX10_could 8 = .ok (.iconst (-1), 1) := by decide +kernel
theorem dX10_could_9 : decode cX10_could 9 = .ok (.ireturn, 1) := by decide +kernel
theorem dX10_could_10 : decode cX10_could 10 = .ok (.iconst 0, 1) := by decide +kernel
theorem dX10_could_11 : decode cX10_could 11 = .ok (.istore_n 2, 1) := by decide +kernel
theorem dX10_could_12 : decode cX10_could 12 = .ok (.iconst 1, 1) := by decide +kernel
theorem dX10_could_13 : decode cX10_could 13 = .ok (.istore_n 3, 1) := by decide +kernel
theorem dX10_could_14 : decode cX10_could 14 = .ok (.iload_n 3, 1) := by decide +kernel
theorem dX10_could_15 : decode cX10_could 15 = .ok (.iconst 4, 1) := by decide +kernel
theorem dX10_could_16 : decode cX10_could 16 = .ok (.if_icmp .gt 30, 3) := by decide +kernel
theorem dX10_could_19 : decode cX10_could 19 = .ok (.iload_n 2, 1) := by decide +kernel
theorem dX10_could_20 : decode cX10_could 20 = .ok (.aload_n 0, 1) := by decide +kernel
theorem dX10_could_21 : decode cX10_could 21 = .ok (.iload_n 3, 1) := by decide +kernel
theorem dX10_could_22 : decode cX10_could 22 = .ok (.iload_n 1, 1) := by decide +kernel
theorem dX10_could_23 : decode cX10_could 23 = .ok (.invokevirtual 174, 3) := by decide +kernel
theorem dX10_could_26 : decode cX10_could 26 = .ok (.lconst 0, 1) := by decide +kernel
theorem dX10_could_27 : decode cX10_could 27 = .ok (.lcmp, 1) := by decide +kernel
theorem dX10_could_28 : decode cX10_could 28 = .ok (.ifCond .le 9, 3) := by decide +kernel
theorem dX10_could_31 : decode cX10_could 31 = .ok (.iconst 1, 1) := by decide +kernel
theorem dX10_could_32 : decode cX10_could 32 = .ok (.iload_n 3, 1) := by decide +kernel
theorem dX10_could_33 : decode cX10_could 33 = .ok (.ishl, 1) := by decide +kernel
theorem dX10_could_34 : decode cX10_could 34 = .ok (.goto 4, 3) := by decide +kernel
theorem dX10_could_37 : decode cX10_could 37 = .ok (.iconst 0, 1) := by decide +kernel
theorem dX10_could_38 : decode cX10_could 38 = .ok (.ior, 1) := by decide +kernel
theorem dX10_could_39 : decode cX10_could 39 = .ok (.istore_n 2, 1) := by decide +kernel
theorem dX10_could_40 : decode cX10_could 40 = .ok (.iinc 3 1, 3) := by decide +kernel
theorem dX10_could_43 : decode cX10_could 43 = .ok (.goto (-29), 3) := by decide +kernel
theorem dX10_could_46 : decode cX10_could 46 = .ok (.iload_n 2, 1) := by decide +kernel
theorem dX10_could_47 : decode cX10_could 47 = .ok (.ireturn, 1) := by decide +kernel
set_option maxRecDepth 20000 in
theorem ggX10_likeliest_X10_isSet : GoodIn wsX10_likeliest wsX10_isSet := goodIn_r _ [5, 6, 7, 8, 4, 9, 36, 37, 38, 39, 40, 41, 42, 43, 44, 45, 46, 47, 48, 49, 50, 51, 52, 53, 54, 55, 56, 57, 58] (by decide +kernel) (by decide +kernel)
set_option maxRecDepth 20000 in
theorem gX10_likeliest_X10_isSet : GoodIn wsX10_likeliest (wsV RX10 168 RX10 yX10_isSet wsX10_isSet) := goodIn_app (goodIn_of _ (by decide +kernel)) ggX10_likeliest_X10_isSet
set_option maxRecDepth 20000 in
theorem ggX10_likeliest_X10_waysOf : GoodIn wsX10_likeliest wsX10_waysOf := goodIn_r _ [13, 14, 15, 6, 16, 17, 18, 19, 4, 20, 21, 22, 23, 24, 25, 26, 27, 28, 29, 30, 31, 32, 33, 34, 35, 36, 37, 38, 39, 40, 41, 42, 43, 44, 45, 46, 47, 48, 49, 50, 51, 52, 53, 54, 55, 56, 57, 58] (by decide +kernel) (by decide +kernel)
set_option maxRecDepth 20000 in
theorem gX10_likeliest_X10_waysOf : GoodIn wsX10_likeliest (wsV RX10 174 RX10 yX10_waysOf wsX10_waysOf) := goodIn_app (goodIn_of _ (by decide +kernel)) ggX10_likeliest_X10_waysOf
theorem dX10_likeliest_0 : decode cX10_likeliest 0 = .ok (.aload_n 0, 1) := by decide +kernel
theorem dX10_likeliest_1 : decode cX10_likeliest 1 = .ok (.iload_n 1, 1) := by decide +kernel
theorem dX10_likeliest_2 : decode cX10_likeliest 2 = .ok (.invokevirtual 168, 3) := by decide +kernel
theorem dX10_likeliest_5 : decode cX10_likeliest 5 = .ok (.ifCond .ne 5, 3) := by decide +kernel
theorem dX10_likeliest_8 : decode cX10_likeliest 8 = .ok (.iconst (-1), 1) := by decide +kernel
theorem dX10_likeliest_9 : decode cX10_likeliest 9 = .ok (.ireturn, 1) := by decide +kernel
theorem dX10_likeliest_10 : decode cX10_likeliest 10 = .ok (.bipush (-9), 2) := by decide +kernel
theorem dX10_likeliest_12 : decode cX10_likeliest 12 = .ok (.istore_n 2, 1) := by decide +kernel
theorem dX10_likeliest_13 : decode cX10_likeliest 13 = .ok (.lconst 0, 1) := by decide +kernel
theorem dX10_likeliest_14 : decode cX10_likeliest 14 = .ok (.lstore_n 3, 1) := by decide +kernel
theorem dX10_likeliest_15 : decode cX10_likeliest 15 = .ok (.iconst 1, 1) := by decide +kernel
theorem dX10_likeliest_16 : decode cX10_likeliest 16 = .ok (.istore 5, 2) := by decide +kernel
theorem dX10_likeliest_18 : decode cX10_likeliest 18 = .ok (.iload 5, 2) := by decide +kernel
theorem dX10_likeliest_20 : decode cX10_likeliest 20 = .ok (.iconst 4, 1) := by decide +kernel
theorem dX10_likeliest_21 : decode cX10_likeliest 21 = .ok (.if_icmp .gt 46, 3) := by decide +kernel
theorem dX10_likeliest_24 : decode cX10_likeliest 24 = .ok (.aload_n 0, 1) := by decide +kernel
theorem dX10_likeliest_25 : decode cX10_likeliest 25 = .ok (.iload 5, 2) := by decide +kernel
theorem dX10_likeliest_27 : decode cX10_likeliest 27 = .ok (.iload_n 1, 1) := by decide +kernel
theorem dX10_likeliest_28 : decode cX10_likeliest 28 = .ok (.invokevirtual 174, 3) := by decide +kernel
theorem dX10_likeliest_31 : decode cX10_likeliest 31 = .ok (.lstore 6, 2) := by decide +kernel
theorem dX10_likeliest_33 : decode cX10_likeliest 33 = .ok (.lload 6, 2) := by decide +kernel
theorem dX10_likeliest_35 : decode cX10_likeliest 35 = .ok (.lload_n 3, 1) := by decide +kernel
theorem dX10_likeliest_36 : decode cX10_likeliest 36 = .ok (.lcmp, 1) := by decide +kernel
theorem dX10_likeliest_37 : decode cX10_likeliest 37 = .ok (.ifCond .le 8, 3) := by decide +kernel
theorem dX10_likeliest_40 : decode cX10_likeliest 40 = .ok (.iload 5, 2) := by decide +kernel
theorem dX10_likeliest_42 : decode cX10_likeliest 42 = .ok (.goto 4, 3) := by decide +kernel
theorem dX10_likeliest_45 : decode cX10_likeliest 45 = .ok (.iload_n 2, 1) := by decide +kernel
theorem dX10_likeliest_46 : decode cX10_likeliest 46 = .ok (.istore_n 2, 1) := by decide +kernel
theorem dX10_likeliest_47 : decode cX10_likeliest 47 = .ok (.lload 6, 2) := by decide +kernel
theorem dX10_likeliest_49 : decode cX10_likeliest 49 = .ok (.lload_n 3, 1) := by decide +kernel
theorem dX10_likeliest_50 : decode cX10_likeliest 50 = .ok (.lcmp, 1) := by decide +kernel
theorem dX10_likeliest_51 : decode cX10_likeliest 51 = .ok (.ifCond .le 8, 3) := by decide +kernel
theorem dX10_likeliest_54 : decode cX10_likeliest 54 = .ok (.lload 6, 2) := by decide +kernel
theorem dX10_likeliest_56 : decode cX10_likeliest 56 = .ok (.goto 4, 3) := by decide +kernel
theorem dX10_likeliest_59 : decode cX10_likeliest 59 = .ok (.lload_n 3, 1) := by decide +kernel
theorem dX10_likeliest_60 : decode cX10_likeliest 60 = .ok (.lstore_n 3, 1) := by decide +kernel
theorem dX10_likeliest_61 : decode cX10_likeliest 61 = .ok (.iinc 5 1, 3) := by decide +kernel
theorem dX10_likeliest_64 : decode cX10_likeliest 64 = .ok (.goto (-46), 3) := by decide +kernel
theorem dX10_likeliest_67 : decode cX10_likeliest 67 = .ok (.iload_n 2, 1) := by decide +kernel
theorem dX10_likeliest_68 : decode cX10_likeliest 68 = .ok (.ireturn, 1) := by decide +kernel
set_option maxRecDepth 20000 in
theorem ggX10_rate_X10_within : GoodIn wsX10_rate wsX10_within := goodIn_r _ [18] (by decide +kernel) (by decide +kernel)
set_option maxRecDepth 20000 in
theorem gX10_rate_X10_within : GoodIn wsX10_rate (va_wsS RX10 42 yX10_within wsX10_within) := goodIn_app (goodIn_of _ (by decide +kernel)) ggX10_rate_X10_within
set_option maxRecDepth 20000 in
theorem ggX10_rate_X10_isChild : GoodIn wsX10_rate wsX10_isChild := goodIn_r _ [22, 9, 15, 16, 17, 18, 26, 27, 28, 29, 30, 31, 32, 33, 34, 35, 36, 37, 38, 39, 40, 41, 42, 43, 44, 45, 46, 47, 48] (by decide +kernel) (by decide +kernel)
set_option maxRecDepth 20000 in
theorem gX10_rate_X10_isChild : GoodIn wsX10_rate (wsV RX10 135 RX10 yX10_isChild wsX10_isChild) := goodIn_app (goodIn_of _ (by decide +kernel)) ggX10_rate_X10_isChild
set_option maxRecDepth 20000 in
theorem ggX10_rate_X10_bits : GoodIn wsX10_rate wsX10_bits := goodIn_r _ [25] (by decide +kernel) (by decide +kernel)
set_option maxRecDepth 20000 in
theorem gX10_rate_X10_bits : GoodIn wsX10_rate (va_wsS RX10 162 yX10_bits wsX10_bits) := goodIn_app (goodIn_of _ (by decide +kernel)) ggX10_rate_X10_bits
theorem dX10_rate_0 : decode cX10_rate 0 = .ok (.iload_n 1, 1) := by decide +kernel
theorem dX10_rate_1 : decode cX10_rate 1 = .ok (.i2l, 1) := by decide +kernel
theorem dX10_rate_2 : decode cX10_rate 2 = .ok (.lconst 0, 1) := by decide +kernel
theorem dX10_rate_3 : decode cX10_rate 3 = .ok (.ldc2_w 138, 3) := by decide +kernel
theorem dX10_rate_6 : decode cX10_rate 6 = .ok (.invokestatic 42, 3) := by decide +kernel
theorem dX10_rate_9 : decode cX10_rate 9 = .ok (.ifCond .eq 11, 3) := by decide +kernel
theorem dX10_rate_12 : decode cX10_rate 12 = .ok (.aload_n 0, 1) := by decide +kernel
theorem dX10_rate_13 : decode cX10_rate 13 = .ok (.iload_n 2, 1) := by decide +kernel
theorem dX10_rate_14 : decode cX10_rate 14 = .ok (.invokevirtual 135, 3) := by decide +kernel
theorem dX10_rate_17 : decode cX10_rate 17 = .ok (.ifCond .ne 6, 3) := by decide +kernel
theorem dX10_rate_20 : decode cX10_rate 20 = .ok (.ldc 203, 2) := by decide +kernel
theorem dX10_rate_22 : decode cX10_rate 22 = .ok (.ireturn, 1) := by decide +kernel
theorem dX10_rate_23 : decode cX10_rate 23 = .ok (.aload_n 0, 1) := by decide +kernel
theorem dX10_rate_24 : decode cX10_rate 24 = .ok (.dup, 1) := by decide +kernel
theorem dX10_rate_25 : decode cX10_rate 25 = .ok (.getfield 204, 3) := by decide +kernel
theorem dX10_rate_28 : decode cX10_rate 28 = .ok (.iload_n 1, 1) := by decide +kernel
theorem dX10_rate_29 : decode cX10_rate 29 = .ok (.ifCond .ne 7, 3) := by decide +kernel
theorem dX10_rate_32 : decode cX10_rate 32 = .ok (.lconst 1, 1) := by decide +kernel
theorem dX10_rate_33 : decode cX10_rate 33 = .ok (.goto 50, 3) := by decide +kernel
theorem dX10_rate_36 : decode cX10_rate 36 = .ok (.iload_n 1, 1) := by decide +kernel
theorem dX10_rate_37 : decode cX10_rate 37 = .ok (.iconst 1, 1) := by decide +kernel
theorem dX10_rate_38 : decode cX10_rate 38 = .ok (.if_icmp .ne 9, 3) := by decide +kernel
theorem dX10_rate_41 : decode cX10_rate 41 = .ok (.ldc2_w 207, 3) := by decide +kernel
theorem dX10_rate_44 : decode cX10_rate 44 = .ok (.goto 39, 3) := by decide +kernel
theorem dX10_rate_47 : decode cX10_rate 47 = .ok (.iload_n 1, 1) := by decide +kernel
theorem dX10_rate_48 : decode cX10_rate 48 = .ok (.iconst 2, 1) := by decide +kernel
theorem dX10_rate_49 : decode cX10_rate 49 = .ok (.if_icmp .ne 9, 3) := by decide +kernel
theorem dX10_rate_52 : decode cX10_rate 52 = .ok (.ldc2_w 209, 3) := by decide +kernel
theorem dX10_rate_55 : decode cX10_rate 55 = .ok (.goto 28, 3) := by decide +kernel
theorem dX10_rate_58 : decode cX10_rate 58 = .ok (.iload_n 1, 1) := by decide +kernel
theorem dX10_rate_59 : decode cX10_rate 59 = .ok (.iconst 3, 1) := by decide +kernel
theorem dX10_rate_60 : decode cX10_rate 60 = .ok (.if_icmp .ne 9, 3) := by decide +kernel
theorem dX10_rate_63 : decode cX10_rate 63 = .ok (.ldc2_w 211, 3) := by decide +kernel
theorem dX10_rate_66 : decode cX10_rate 66 = .ok (.goto 17, 3) := by decide +kernel
theorem dX10_rate_69 : decode cX10_rate 69 = .ok (.iload_n 1, 1) := by decide +kernel
theorem dX10_rate_70 : decode cX10_rate 70 = .ok (.iconst 4, 1) := by decide +kernel
theorem dX10_rate_71 : decode cX10_rate 71 = .ok (.if_icmp .ne 9, 3) := by decide +kernel
theorem dX10_rate_74 : decode cX10_rate 74 = .ok (.ldc2_w 213, 3) := by decide +kernel
theorem dX10_rate_77 : decode cX10_rate 77 = .ok (.goto 6, 3) := by decide +kernel
theorem dX10_rate_80 : decode cX10_rate 80 = .ok (.ldc2_w 215, 3) := by decide +kernel
theorem dX10_rate_83 : decode cX10_rate 83 = .ok (.ladd, 1) := by decide +kernel
theorem dX10_rate_84 : decode cX10_rate 84 = .ok (.putfield 204, 3) := by decide +kernel
theorem dX10_rate_87 : decode cX10_rate 87 = .ok (.iconst 0, 1) := by decide +kernel
theorem dX10_rate_88 : decode cX10_rate 88 = .ok (.istore_n 3, 1) := by decide +kernel
theorem dX10_rate_89 : decode cX10_rate 89 = .ok (.iconst 0, 1) := by decide +kernel
theorem dX10_rate_90 : decode cX10_rate 90 = .ok (.istore 4, 2) := by decide +kernel
theorem dX10_rate_92 : decode cX10_rate 92 = .ok (.iload 4, 2) := by decide +kernel
theorem dX10_rate_94 : decode cX10_rate 94 = .ok (.aload_n 0, 1) := by decide +kernel
theorem dX10_rate_95 : decode cX10_rate 95 = .ok (.getfield 39, 3) := by decide +kernel
theorem dX10_rate_98 : decode cX10_rate 98 = .ok (.if_icmp .ge 28, 3) := by decide +kernel
theorem dX10_rate_101 : decode cX10_rate 101 = .ok (.iload_n 3, 1) := by decide +kernel
theorem dX10_rate_102 : decode cX10_rate 102 = .ok (.aload_n 0, 1) := by decide +kernel
theorem dX10_rate_103 : decode cX10_rate 103 = .ok (.getfield 19, 3) := by decide +kernel
theorem dX10_rate_106 : decode cX10_rate 106 = .ok (.iload 4, 2) := by decide +kernel
theorem dX10_rate_108 : decode cX10_rate 108 = .ok (.iaload, 1) := by decide +kernel
theorem dX10_rate_109 : decode cX10_rate 109 = .ok (.iload_n 2, 1) := by decide +kernel
theorem dX10_rate_110 : decode cX10_rate 110 = .ok (.if_icmp .ne 7, 3) := by decide +kernel
theorem dX10_rate_113 : decode cX10_rate 113 = .ok (.iconst 1, 1) := by decide +kernel
theorem dX10_rate_114 : decode cX10_rate 114 = .ok (.goto 4, 3) := by decide +kernel
theorem dX10_rate_117 : decode cX10_rate 117 = .ok (.iconst 0, 1) := by decide +kernel
theorem dX10_rate_118 : decode cX10_rate 118 = .ok (.iadd, 1) := by decide +kernel
theorem dX10_rate_119 : decode cX10_rate 119 = .ok (.istore_n 3, 1) := by decide +kernel
theorem dX10_rate_120 : decode cX10_rate 120 = .ok (.iinc 4 1, 3) := by decide +kernel
theorem dX10_rate_123 : decode cX10_rate 123 = .ok (.goto (-31), 3) := by decide +kernel
theorem dX10_rate_126 : decode cX10_rate 126 = .ok (.aload_n 0, 1) := by decide +kernel
theorem dX10_rate_127 : decode cX10_rate 127 = .ok (.getfield 13, 3) := by decide +kernel
theorem dX10_rate_130 : decode cX10_rate 130 = .ok (.iload_n 2, 1) := by decide +kernel
theorem dX10_rate_131 : decode cX10_rate 131 = .ok (.iaload, 1) := by decide +kernel
theorem dX10_rate_132 : decode cX10_rate 132 = .ok (.aload_n 0, 1) := by decide +kernel
theorem dX10_rate_133 : decode cX10_rate 133 = .ok (.getfield 122, 3) := by decide +kernel
theorem dX10_rate_136 : decode cX10_rate 136 = .ok (.iadd, 1) := by decide +kernel
theorem dX10_rate_137 : decode cX10_rate 137 = .ok (.istore 4, 2) := by decide +kernel
theorem dX10_rate_139 : decode cX10_rate 139 = .ok (.aload_n 0, 1) := by decide +kernel
theorem dX10_rate_140 : decode cX10_rate 140 = .ok (.getfield 13, 3) := by decide +kernel
theorem dX10_rate_143 : decode cX10_rate 143 = .ok (.iload_n 2, 1) := by decide +kernel
theorem dX10_rate_144 : decode cX10_rate 144 = .ok (.iaload, 1) := by decide +kernel
theorem dX10_rate_145 : decode cX10_rate 145 = .ok (.aload_n 0, 1) := by decide +kernel
theorem dX10_rate_146 : decode cX10_rate 146 = .ok (.getfield 16, 3) := by decide +kernel
theorem dX10_rate_149 : decode cX10_rate 149 = .ok (.iload_n 2, 1) := by decide +kernel
theorem dX10_rate_150 : decode cX10_rate 150 = .ok (.iaload, 1) := by decide +kernel
theorem dX10_rate_151 : decode cX10_rate 151 = .ok (.isub, 1) := by decide +kernel
theorem dX10_rate_152 : decode cX10_rate 152 = .ok (.istore 5, 2) := by decide +kernel
theorem dX10_rate_154 : decode cX10_rate 154 = .ok (.iload_n 1, 1) := by decide +kernel
theorem dX10_rate_155 : decode cX10_rate 155 = .ok (.ifCond .ne 12, 3) := by decide +kernel
theorem dX10_rate_158 : decode cX10_rate 158 = .ok (.aload_n 0, 1) := by decide +kernel
theorem dX10_rate_159 : decode cX10_rate 159 = .ok (.getfield 13, 3) := by decide +kernel
theorem dX10_rate_162 : decode cX10_rate 162 = .ok (.iload_n 2, 1) := by decide +kernel
theorem dX10_rate_163 : decode cX10_rate 163 = .ok (.iaload, 1) := by decide +kernel
theorem dX10_rate_164 : decode cX10_rate 164 = .ok (.goto 61, 3) := by decide +kernel
theorem dX10_rate_167 : decode cX10_rate 167 = .ok (.iload_n 1, 1) := by decide +kernel
theorem dX10_rate_168 : decode cX10_rate 168 = .ok (.iconst 1, 1) := by decide +kernel
theorem dX10_rate_169 : decode cX10_rate 169 = .ok (.if_icmp .ne 8, 3) := by decide +kernel
theorem dX10_rate_172 : decode cX10_rate 172 = .ok (.iload 4, 2) := by decide +kernel
theorem dX10_rate_174 : decode cX10_rate 174 = .ok (.goto 51, 3) := by decide +kernel
theorem dX10_rate_177 : decode cX10_rate 177 = .ok (.iload_n 1, 1) := by decide +kernel
theorem dX10_rate_178 : decode cX10_rate 178 = .ok (.iconst 2, 1) := by decide +kernel
theorem dX10_rate_179 : decode cX10_rate 179 = .ok (.if_icmp .ne 8, 3) := by decide +kernel
theorem dX10_rate_182 : decode cX10_rate 182 = .ok (.iload 5, 2) := by decide +kernel
theorem dX10_rate_184 : decode cX10_rate 184 = .ok (.goto 41, 3) := by decide +kernel
theorem dX10_rate_187 : decode cX10_rate 187 = .ok (.iload_n 1, 1) := by decide +kernel
theorem dX10_rate_188 : decode cX10_rate 188 = .ok (.iconst 3, 1) := by decide +kernel
theorem dX10_rate_189 : decode cX10_rate 189 = .ok (.if_icmp .ne 10, 3) := by decide +kernel
theorem dX10_rate_192 : decode cX10_rate 192 = .ok (.iconst 2, 1) := by decide +kernel
theorem dX10_rate_193 : decode cX10_rate 193 = .ok (.iload 4, 2) := by decide +kernel
theorem dX10_rate_195 : decode cX10_rate 195 = .ok (.imul, 1) := by decide +kernel
theorem dX10_rate_196 : decode cX10_rate 196 = .ok (.goto 29, 3) := by decide +kernel
theorem dX10_rate_199 : decode cX10_rate 199 = .ok (.iload_n 1, 1) := by decide +kernel
theorem dX10_rate_200 : decode cX10_rate 200 = .ok (.iconst 4, 1) := by decide +kernel
theorem dX10_rate_201 : decode cX10_rate 201 = .ok (.if_icmp .ne 10, 3) := by decide +kernel
theorem dX10_rate_204 : decode cX10_rate 204 = .ok (.iload 5, 2) := by decide +kernel
theorem dX10_rate_206 : decode cX10_rate 206 = .ok (.iload_n 3, 1) := by decide +kernel
theorem dX10_rate_207 : decode cX10_rate 207 = .ok (.iadd, 1) := by decide +kernel
theorem dX10_rate_208 : decode cX10_rate 208 = .ok (.goto 17, 3) := by decide +kernel
theorem dX10_rate_211 : decode cX10_rate 211 = .ok (.aload_n 0, 1) := by decide +kernel
theorem dX10_rate_212 : decode cX10_rate 212 = .ok (.getfield 13, 3) := by decide +kernel
theorem dX10_rate_215 : decode cX10_rate 215 = .ok (.iload_n 2, 1) := by decide +kernel
theorem dX10_rate_216 : decode cX10_rate 216 = .ok (.iaload, 1) := by decide +kernel
theorem dX10_rate_217 : decode cX10_rate 217 = .ok (.aload_n 0, 1) := by decide +kernel
theorem dX10_rate_218 : decode cX10_rate 218 = .ok (.getfield 119, 3) := by decide +kernel
theorem dX10_rate_221 : decode cX10_rate 221 = .ok (.invokestatic 162, 3) := by decide +kernel
theorem dX10_rate_224 : decode cX10_rate 224 = .ok (.iadd, 1) := by decide +kernel
theorem dX10_rate_225 : decode cX10_rate 225 = .ok (.ireturn, 1) := by decide +kernel
set_option maxRecDepth 20000 in
theorem ggX10_keep_X10_within : GoodIn wsX10_keep wsX10_within := goodIn_r _ [9] (by decide +kernel) (by decide +kernel)
set_option maxRecDepth 20000 in
theorem gX10_keep_X10_within : GoodIn wsX10_keep (va_wsS RX10 42 yX10_within wsX10_within) := goodIn_app (goodIn_of _ (by decide +kernel)) ggX10_keep_X10_within
set_option maxRecDepth 20000 in
theorem ggX10_keep_X10_bits : GoodIn wsX10_keep wsX10_bits := goodIn_r _ [12] (by decide +kernel) (by decide +kernel)
set_option maxRecDepth 20000 in
theorem gX10_keep_X10_bits : GoodIn wsX10_keep (va_wsS RX10 162 yX10_bits wsX10_bits) := goodIn_app (goodIn_of _ (by decide +kernel)) ggX10_keep_X10_bits
theorem dX10_keep_0 : decode cX10_keep 0 = .ok (.iload_n 1, 1) := by decide +kernel
theorem dX10_keep_1 : decode cX10_keep 1 = .ok (.i2l, 1) := by decide +kernel
theorem dX10_keep_2 : decode cX10_keep 2 = .ok (.lconst 0, 1) := by decide +kernel
theorem dX10_keep_3 : decode cX10_keep 3 = .ok (.lconst 1, 1) := by decide +kernel
theorem dX10_keep_4 : decode cX10_keep 4 = .ok (.invokestatic 42, 3) := by decide +kernel
theorem dX10_keep_7 : decode cX10_keep 7 = .ok (.ifCond .ne 5, 3) := by decide +kernel
theorem dX10_keep_10 : decode cX10_keep 10 = .ok (.iconst (-1), 1) := by decide +kernel
theorem dX10_keep_11 : decode cX10_keep 11 = .ok (.ireturn, 1) := by decide +kernel
theorem dX10_keep_12 : decode cX10_keep 12 = .ok (.aload_n 0, 1) := by decide +kernel
theorem dX10_keep_13 : decode cX10_keep 13 = .ok (.getfield 29, 3) := by decide +kernel
theorem dX10_keep_16 : decode cX10_keep 16 = .ok (.iconst 3, 1) := by decide +kernel
theorem dX10_keep_17 : decode cX10_keep 17 = .ok (.iload_n 1, 1) := by decide +kernel
theorem dX10_keep_18 : decode cX10_keep 18 = .ok (.imul, 1) := by decide +kernel
theorem dX10_keep_19 : decode cX10_keep 19 = .ok (.aload_n 0, 1) := by decide +kernel
theorem dX10_keep_20 : decode cX10_keep 20 = .ok (.getfield 119, 3) := by decide +kernel
theorem dX10_keep_23 : decode cX10_keep 23 = .ok (.iastore, 1) := by decide +kernel
theorem dX10_keep_24 : decode cX10_keep 24 = .ok (.aload_n 0, 1) := by decide +kernel
theorem dX10_keep_25 : decode cX10_keep 25 = .ok (.getfield 29, 3) := by decide +kernel
theorem dX10_keep_28 : decode cX10_keep 28 = .ok (.iconst 3, 1) := by decide +kernel
theorem dX10_keep_29 : decode cX10_keep 29 = .ok (.iload_n 1, 1) := by decide +kernel
theorem dX10_keep_30 : decode cX10_keep 30 = .ok (.imul, 1) := by decide +kernel
theorem dX10_keep_31 : decode cX10_keep 31 = .ok (.iconst 1, 1) := by decide +kernel
theorem dX10_keep_32 : decode cX10_keep 32 = .ok (.iadd, 1) := by decide +kernel
theorem dX10_keep_33 : decode cX10_keep 33 = .ok (.aload_n 0, 1) := by decide +kernel
theorem dX10_keep_34 : decode cX10_keep 34 = .ok (.getfield 122, 3) := by decide +kernel
theorem dX10_keep_37 : decode cX10_keep 37 = .ok (.iastore, 1) := by decide +kernel
theorem dX10_keep_38 : decode cX10_keep 38 = .ok (.aload_n 0, 1) := by decide +kernel
theorem dX10_keep_39 : decode cX10_keep 39 = .ok (.getfield 29, 3) := by decide +kernel
theorem dX10_keep_42 : decode cX10_keep 42 = .ok (.iconst 3, 1) := by decide +kernel
theorem dX10_keep_43 : decode cX10_keep 43 = .ok (.iload_n 1, 1) := by decide +kernel
theorem dX10_keep_44 : decode cX10_keep 44 = .ok (.imul, 1) := by decide +kernel
theorem dX10_keep_45 : decode cX10_keep 45 = .ok (.iconst 2, 1) := by decide +kernel
theorem dX10_keep_46 : decode cX10_keep 46 = .ok (.iadd, 1) := by decide +kernel
theorem dX10_keep_47 : decode cX10_keep 47 = .ok (.aload_n 0, 1) := by decide +kernel
theorem dX10_keep_48 : decode cX10_keep 48 = .ok (.getfield 22, 3) := by decide +kernel
theorem dX10_keep_51 : decode cX10_keep 51 = .ok (.iastore, 1) := by decide +kernel
theorem dX10_keep_52 : decode cX10_keep 52 = .ok (.aload_n 0, 1) := by decide +kernel
theorem dX10_keep_53 : decode cX10_keep 53 = .ok (.getfield 32, 3) := by decide +kernel
theorem dX10_keep_56 : decode cX10_keep 56 = .ok (.iload_n 1, 1) := by decide +kernel
theorem dX10_keep_57 : decode cX10_keep 57 = .ok (.iconst 1, 1) := by decide +kernel
theorem dX10_keep_58 : decode cX10_keep 58 = .ok (.bastore, 1) := by decide +kernel
theorem dX10_keep_59 : decode cX10_keep 59 = .ok (.aload_n 0, 1) := by decide +kernel
theorem dX10_keep_60 : decode cX10_keep 60 = .ok (.getfield 119, 3) := by decide +kernel
theorem dX10_keep_63 : decode cX10_keep 63 = .ok (.invokestatic 162, 3) := by decide +kernel
theorem dX10_keep_66 : decode cX10_keep 66 = .ok (.ireturn, 1) := by decide +kernel
set_option maxRecDepth 20000 in
theorem ggX10_back_X10_within : GoodIn wsX10_back wsX10_within := goodIn_r _ [10] (by decide +kernel) (by decide +kernel)
set_option maxRecDepth 20000 in
theorem gX10_back_X10_within : GoodIn wsX10_back (va_wsS RX10 42 yX10_within wsX10_within) := goodIn_app (goodIn_of _ (by decide +kernel)) ggX10_back_X10_within
set_option maxRecDepth 20000 in
theorem ggX10_back_X10_bits : GoodIn wsX10_back wsX10_bits := goodIn_r _ [13] (by decide +kernel) (by decide +kernel)
set_option maxRecDepth 20000 in
theorem gX10_back_X10_bits : GoodIn wsX10_back (va_wsS RX10 162 yX10_bits wsX10_bits) := goodIn_app (goodIn_of _ (by decide +kernel)) ggX10_back_X10_bits
theorem dX10_back_0 : decode cX10_back 0 = .ok (.iload_n 1, 1) := by decide +kernel
theorem dX10_back_1 : decode cX10_back 1 = .ok (.i2l, 1) := by decide +kernel
theorem dX10_back_2 : decode cX10_back 2 = .ok (.lconst 0, 1) := by decide +kernel
theorem dX10_back_3 : decode cX10_back 3 = .ok (.lconst 1, 1) := by decide +kernel
theorem dX10_back_4 : decode cX10_back 4 = .ok (.invokestatic 42, 3) := by decide +kernel
theorem dX10_back_7 : decode cX10_back 7 = .ok (.ifCond .ne 5, 3) := by decide +kernel
theorem dX10_back_10 : decode cX10_back 10 = .ok (.iconst (-1), 1) := by decide +kernel
theorem dX10_back_11 : decode cX10_back 11 = .ok (.ireturn, 1) := by decide +kernel
theorem dX10_back_12 : decode cX10_back 12 = .ok (.aload_n 0, 1) := by decide +kernel
theorem dX10_back_13 : decode cX10_back 13 = .ok (.getfield 32, 3) := by decide +kernel
theorem dX10_back_16 : decode cX10_back 16 = .ok (.iload_n 1, 1) := by decide +kernel
theorem dX10_back_17 : decode cX10_back 17 = .ok (.baload, 1) := by decide +kernel
theorem dX10_back_18 : decode cX10_back 18 = .ok (.ifCond .ne 6, 3) := by decide +kernel
theorem dX10_back_21 : decode cX10_back 21 = .ok (.bipush (-2), 2) := by decide +kernel
theorem dX10_back_23 : decode cX10_back 23 = .ok (.ireturn, 1) := by decide +kernel
theorem dX10_back_24 : decode cX10_back 24 = .ok (.aload_n 0, 1) := by decide +kernel
theorem dX10_back_25 : decode cX10_back 25 = .ok (.aload_n 0, 1) := by decide +kernel
theorem dX10_back_26 : decode cX10_back 26 = .ok (.getfield 29, 3) := by decide +kernel
theorem dX10_back_29 : decode cX10_back 29 = .ok (.iconst 3, 1) := by decide +kernel
theorem dX10_back_30 : decode cX10_back 30 = .ok (.iload_n 1, 1) := by decide +kernel
theorem dX10_back_31 : decode cX10_back 31 = .ok (.imul, 1) := by decide +kernel
theorem dX10_back_32 : decode cX10_back 32 = .ok (.iaload, 1) := by decide +kernel
theorem dX10_back_33 : decode cX10_back 33 = .ok (.putfield 119, 3) := by decide +kernel
theorem dX10_back_36 : decode cX10_back 36 = .ok (.aload_n 0, 1) := by decide +kernel
theorem dX10_back_37 : decode cX10_back 37 = .ok (.aload_n 0, 1) := by decide +kernel
theorem dX10_back_38 : decode cX10_back 38 = .ok (.getfield 29, 3) := by decide +kernel
theorem dX10_back_41 : decode cX10_back 41 = .ok (.iconst 3, 1) := by decide +kernel
theorem dX10_back_42 : decode cX10_back 42 = .ok (.iload_n 1, 1) := by decide +kernel
theorem dX10_back_43 : decode cX10_back 43 = .ok (.imul, 1) := by decide +kernel
theorem dX10_back_44 : decode cX10_back 44 = .ok (.iconst 1, 1) := by decide +kernel
theorem dX10_back_45 : decode cX10_back 45 = .ok (.iadd, 1) := by decide +kernel
theorem dX10_back_46 : decode cX10_back 46 = .ok (.iaload, 1) := by decide +kernel
theorem dX10_back_47 : decode cX10_back 47 = .ok (.putfield 122, 3) := by decide +kernel
theorem dX10_back_50 : decode cX10_back 50 = .ok (.aload_n 0, 1) := by decide +kernel
theorem dX10_back_51 : decode cX10_back 51 = .ok (.aload_n 0, 1) := by decide +kernel
theorem dX10_back_52 : decode cX10_back 52 = .ok (.getfield 29, 3) := by decide +kernel
theorem dX10_back_55 : decode cX10_back 55 = .ok (.iconst 3, 1) := by decide +kernel
theorem dX10_back_56 : decode cX10_back 56 = .ok (.iload_n 1, 1) := by decide +kernel
theorem dX10_back_57 : decode cX10_back 57 = .ok (.imul, 1) := by decide +kernel
theorem dX10_back_58 : decode cX10_back 58 = .ok (.iconst 2, 1) := by decide +kernel
theorem dX10_back_59 : decode cX10_back 59 = .ok (.iadd, 1) := by decide +kernel
theorem dX10_back_60 : decode cX10_back 60 = .ok (.iaload, 1) := by decide +kernel
theorem dX10_back_61 : decode cX10_back 61 = .ok (.putfield 22, 3) := by decide +kernel
theorem dX10_back_64 : decode cX10_back 64 = .ok (.aload_n 0, 1) := by decide +kernel
theorem dX10_back_65 : decode cX10_back 65 = .ok (.iconst 0, 1) := by decide +kernel
theorem dX10_back_66 : decode cX10_back 66 = .ok (.putfield 125, 3) := by decide +kernel
theorem dX10_back_69 : decode cX10_back 69 = .ok (.aload_n 0, 1) := by decide +kernel
theorem dX10_back_70 : decode cX10_back 70 = .ok (.getfield 119, 3) := by decide +kernel
theorem dX10_back_73 : decode cX10_back 73 = .ok (.invokestatic 162, 3) := by decide +kernel
theorem dX10_back_76 : decode cX10_back 76 = .ok (.ireturn, 1) := by decide +kernel
set_option maxRecDepth 20000 in
theorem ggX10_count_X10_bits : GoodIn wsX10_count wsX10_bits := goodIn_r _ [8] (by decide +kernel) (by decide +kernel)
set_option maxRecDepth 20000 in
theorem gX10_count_X10_bits : GoodIn wsX10_count (va_wsS RX10 162 yX10_bits wsX10_bits) := goodIn_app (goodIn_of _ (by decide +kernel)) ggX10_count_X10_bits
theorem dX10_count_0 : decode cX10_count 0 = .ok (.iload_n 1, 1) := by decide +kernel
theorem dX10_count_1 : decode cX10_count 1 = .ok (.ifCond .ne 10, 3) := by decide +kernel
theorem dX10_count_4 : decode cX10_count 4 = .ok (.aload_n 0, 1) := by decide +kernel
theorem dX10_count_5 : decode cX10_count 5 = .ok (.getfield 39, 3) := by decide +kernel
theorem dX10_count_8 : decode cX10_count 8 = .ok (.goto 46, 3) := by decide +kernel
theorem dX10_count_11 : decode cX10_count 11 = .ok (.iload_n 1, 1) := by decide +kernel
theorem dX10_count_12 : decode cX10_count 12 = .ok (.iconst 1, 1) := by decide +kernel
theorem dX10_count_13 : decode cX10_count 13 = .ok (.if_icmp .ne 13, 3) := by decide +kernel
theorem dX10_count_16 : decode cX10_count 16 = .ok (.aload_n 0, 1) := by decide +kernel
theorem dX10_count_17 : decode cX10_count 17 = .ok (.getfield 116, 3) := by decide +kernel
theorem dX10_count_20 : decode cX10_count 20 = .ok (.invokestatic 162, 3) := by decide +kernel
theorem dX10_count_23 : decode cX10_count 23 = .ok (.goto 31, 3) := by decide +kernel
theorem dX10_count_26 : decode cX10_count 26 = .ok (.iload_n 1, 1) := by decide +kernel
theorem dX10_count_27 : decode cX10_count 27 = .ok (.iconst 2, 1) := by decide +kernel
theorem dX10_count_28 : decode cX10_count 28 = .ok (.if_icmp .ne 13, 3) := by decide +kernel
theorem dX10_count_31 : decode cX10_count 31 = .ok (.aload_n 0, 1) := by decide +kernel
theorem dX10_count_32 : decode cX10_count 32 = .ok (.getfield 119, 3) := by decide +kernel
theorem dX10_count_35 : decode cX10_count 35 = .ok (.invokestatic 162, 3) := by decide +kernel
theorem dX10_count_38 : decode cX10_count 38 = .ok (.goto 16, 3) := by decide +kernel
theorem dX10_count_41 : decode cX10_count 41 = .ok (.iload_n 1, 1) := by decide +kernel
theorem dX10_count_42 : decode cX10_count 42 = .ok (.iconst 3, 1) := by decide +kernel
theorem dX10_count_43 : decode cX10_count 43 = .ok (.if_icmp .ne 10, 3) := by decide +kernel
theorem dX10_count_46 : decode cX10_count 46 = .ok (.aload_n 0, 1) := by decide +kernel
theorem dX10_count_47 : decode cX10_count 47 = .ok (.getfield 50, 3) := by decide +kernel
theorem dX10_count_50 : decode cX10_count 50 = .ok (.goto 4, 3) := by decide +kernel
theorem dX10_count_53 : decode cX10_count 53 = .ok (.iconst (-1), 1) := by decide +kernel
theorem dX10_count_54 : decode cX10_count 54 = .ok (.ireturn, 1) := by decide +kernel
theorem dX10_trace_0 : decode cX10_trace 0 = .ok (.aload_n 0, 1) := by decide +kernel
theorem dX10_trace_1 : decode cX10_trace 1 = .ok (.getfield 204, 3) := by decide +kernel
theorem dX10_trace_4 : decode cX10_trace 4 = .ok (.lreturn, 1) := by decide +kernel
