theorem dX11_init_0 : decode cX11_init 0 = .ok (.aload_n 0, 1) := by decide +kernel
theorem dX11_init_1 : decode cX11_init 1 = .ok (.invokespecial 1, 3) := by decide +kernel
theorem dX11_init_4 : decode cX11_init 4 = .ok (.aload_n 0, 1) := by decide +kernel
theorem dX11_init_5 : decode cX11_init 5 = .ok (.sipush 560, 3) := by decide +kernel
theorem dX11_init_8 : decode cX11_init 8 = .ok (.newarray .long, 2) := by decide +kernel
theorem dX11_init_10 : decode cX11_init 10 = .ok (.putfield 7, 3) := by decide +kernel
theorem dX11_init_13 : decode cX11_init 13 = .ok (.aload_n 0, 1) := by decide +kernel
theorem dX11_init_14 : decode cX11_init 14 = .ok (.sipush 320, 3) := by decide +kernel
theorem dX11_init_17 : decode cX11_init 17 = .ok (.newarray .int, 2) := by decide +kernel
theorem dX11_init_19 : decode cX11_init 19 = .ok (.putfield 13, 3) := by decide +kernel
theorem dX11_init_22 : decode cX11_init 22 = .ok (.aload_n 0, 1) := by decide +kernel
theorem dX11_init_23 : decode cX11_init 23 = .ok (.bipush 8, 2) := by decide +kernel
theorem dX11_init_25 : decode cX11_init 25 = .ok (.newarray .int, 2) := by decide +kernel
theorem dX11_init_27 : decode cX11_init 27 = .ok (.putfield 17, 3) := by decide +kernel
theorem dX11_init_30 : decode cX11_init 30 = .ok (.aload_n 0, 1) := by decide +kernel
theorem dX11_init_31 : decode cX11_init 31 = .ok (.bipush 8, 2) := by decide +kernel
theorem dX11_init_33 : decode cX11_init 33 = .ok (.newarray .int, 2) := by decide +kernel
theorem dX11_init_35 : decode cX11_init 35 = .ok (.putfield 20, 3) := by decide +kernel
theorem dX11_init_38 : decode cX11_init 38 = .ok (.aload_n 0, 1) := by decide +kernel
theorem dX11_init_39 : decode cX11_init 39 = .ok (.bipush 40, 2) := by decide +kernel
theorem dX11_init_41 : decode cX11_init 41 = .ok (.newarray .int, 2) := by decide +kernel
theorem dX11_init_43 : decode cX11_init 43 = .ok (.putfield 23, 3) := by decide +kernel
theorem dX11_init_46 : decode cX11_init 46 = .ok (.aload_n 0, 1) := by decide +kernel
theorem dX11_init_47 : decode cX11_init 47 = .ok (.sipush 400, 3) := by decide +kernel
theorem dX11_init_50 : decode cX11_init 50 = .ok (.newarray .int, 2) := by decide +kernel
theorem dX11_init_52 : decode cX11_init 52 = .ok (.putfield 26, 3) := by decide +kernel
theorem dX11_init_55 : decode cX11_init 55 = .ok (.aload_n 0, 1) := by decide +kernel
theorem dX11_init_56 : decode cX11_init 56 = .ok (.sipush 1000, 3) := by decide +kernel
theorem dX11_init_59 : decode cX11_init 59 = .ok (.newarray .long, 2) := by decide +kernel
theorem dX11_init_61 : decode cX11_init 61 = .ok (.putfield 29, 3) := by decide +kernel
theorem dX11_init_64 : decode cX11_init 64 = .ok (.aload_n 0, 1) := by decide +kernel
theorem dX11_init_65 : decode cX11_init 65 = .ok (.sipush 1000, 3) := by decide +kernel
theorem dX11_init_68 : decode cX11_init 68 = .ok (.newarray .long, 2) := by decide +kernel
theorem dX11_init_70 : decode cX11_init 70 = .ok (.putfield 32, 3) := by decide +kernel
theorem dX11_init_73 : decode cX11_init 73 = .ok (.aload_n 0, 1) := by decide +kernel
theorem dX11_init_74 : decode cX11_init 74 = .ok (.bipush 16, 2) := by decide +kernel
theorem dX11_init_76 : decode cX11_init 76 = .ok (.newarray .int, 2) := by decide +kernel
theorem dX11_init_78 : decode cX11_init 78 = .ok (.putfield 35, 3) := by decide +kernel
theorem dX11_init_81 : decode cX11_init 81 = .ok (.iconst 0, 1) := by decide +kernel
theorem dX11_init_82 : decode cX11_init 82 = .ok (.istore_n 1, 1) := by decide +kernel
theorem dX11_init_83 : decode cX11_init 83 = .ok (.iload_n 1, 1) := by decide +kernel
theorem dX11_init_84 : decode cX11_init 84 = .ok (.bipush 8, 2) := by decide +kernel
theorem dX11_init_86 : decode cX11_init 86 = .ok (.if_icmp .ge 16, 3) := by decide +kernel
theorem dX11_init_89 : decode cX11_init 89 = .ok (.aload_n 0, 1) := by decide +kernel
theorem dX11_init_90 : decode cX11_init 90 = .ok (.getfield 20, 3) := by decide +kernel
theorem dX11_init_93 : decode cX11_init 93 = .ok (.iload_n 1, 1) := by decide +kernel
theorem dX11_init_94 : decode cX11_init 94 = .ok (.iconst (-1), 1) := by decide +kernel
theorem dX11_init_95 : decode cX11_init 95 = .ok (.iastore, 1) := by decide +kernel
theorem dX11_init_96 : decode cX11_init 96 = .ok (.iinc 1 1, 3) := by decide +kernel
theorem dX11_init_99 : decode cX11_init 99 = .ok (.goto (-16), 3) := by decide +kernel
theorem dX11_init_102 : decode cX11_init 102 = .ok (.return_, 1) := by decide +kernel
theorem dX11_in_0 : decode cX11_in 0 = .ok (.lload_n 0, 1) := by decide +kernel
theorem dX11_in_1 : decode cX11_in 1 = .ok (.lload_n 2, 1) := by decide +kernel
theorem dX11_in_2 : decode cX11_in 2 = .ok (.lcmp, 1) := by decide +kernel
theorem dX11_in_3 : decode cX11_in 3 = .ok (.ifCond .lt 14, 3) := by decide +kernel
theorem dX11_in_6 : decode cX11_in 6 = .ok (.lload_n 0, 1) := by decide +kernel
theorem dX11_in_7 : decode cX11_in 7 = .ok (.lload 4, 2) := by decide +kernel
theorem dX11_in_9 : decode cX11_in 9 = .ok (.lcmp, 1) := by decide +kernel
theorem dX11_in_10 : decode cX11_in 10 = .ok (.ifCond .gt 7, 3) := by decide +kernel
theorem dX11_in_13 : decode cX11_in 13 = .ok (.iconst 1, 1) := by decide +kernel
theorem dX11_in_14 : decode cX11_in 14 = .ok (.goto 4, 3) := by decide +kernel
theorem dX11_in_17 : decode cX11_in 17 = .ok (.iconst 0, 1) := by decide +kernel
theorem dX11_in_18 : decode cX11_in 18 = .ok (.ireturn, 1) := by decide +kernel
theorem dX11_one_0 : decode cX11_one 0 = .ok (.iload_n 0, 1) := by decide +kernel
theorem dX11_one_1 : decode cX11_one 1 = .ok (.ifCond .eq 7, 3) := by decide +kernel
theorem dX11_one_4 : decode cX11_one 4 = .ok (.iconst 1, 1) := by decide +kernel
theorem dX11_one_5 : decode cX11_one 5 = .ok (.goto 4, 3) := by decide +kernel
theorem dX11_one_8 : decode cX11_one 8 = .ok (.iconst 0, 1) := by decide +kernel
theorem dX11_one_9 : decode cX11_one 9 = .ok (.ireturn, 1) := by decide +kernel
theorem dX11_divisor_0 : decode cX11_divisor 0 = .ok (.lload_n 0, 1) := by decide +kernel
theorem dX11_divisor_1 : decode cX11_divisor 1 = .ok (.lstore 4, 2) := by decide +kernel
theorem dX11_divisor_3 : decode cX11_divisor 3 = .ok (.lload_n 2, 1) := by decide +kernel
theorem dX11_divisor_4 : decode cX11_divisor 4 = .ok (.lstore 6, 2) := by decide +kernel
theorem dX11_divisor_6 : decode cX11_divisor 6 = .ok (.lload 6, 2) := by decide +kernel
theorem dX11_divisor_8 : decode cX11_divisor 8 = .ok (.lconst 0, 1) := by decide +kernel
theorem dX11_divisor_9 : decode cX11_divisor 9 = .ok (.lcmp, 1) := by decide +kernel
theorem dX11_divisor_10 : decode cX11_divisor 10 = .ok (.ifCond .eq 21, 3) := by decide +kernel
theorem dX11_divisor_13 : decode cX11_divisor 13 = .ok (.lload 4, 2) := by decide +kernel
theorem dX11_divisor_15 : decode cX11_divisor 15 = .ok (.lload 6, 2) := by decide +kernel
theorem dX11_divisor_17 : decode cX11_divisor 17 = .ok (.lrem, 1) := by decide +kernel
theorem dX11_divisor_18 : decode cX11_divisor 18 = .ok (.lstore 8, 2) := by decide +kernel
theorem dX11_divisor_20 : decode cX11_divisor 20 = .ok (.lload 6, 2) := by decide +kernel
theorem dX11_divisor_22 : decode cX11_divisor 22 = .ok (.lstore 4, 2) := by decide +kernel
theorem dX11_divisor_24 : decode cX11_divisor 24 = .ok (.lload 8, 2) := by decide +kernel
theorem dX11_divisor_26 : decode cX11_divisor 26 = .ok (.lstore 6, 2) := by decide +kernel
theorem dX11_divisor_28 : decode cX11_divisor 28 = .ok (.goto (-22), 3) := by decide +kernel
theorem dX11_divisor_31 : decode cX11_divisor 31 = .ok (.lload 4, 2) := by decide +kernel
theorem dX11_divisor_33 : decode cX11_divisor 33 = .ok (.lreturn, 1) := by decide +kernel
theorem dX11_found_0 : decode cX11_found 0 = .ok (.aload_n 0, 1) := by decide +kernel
theorem dX11_found_1 : decode cX11_found 1 = .ok (.iload_n 1, 1) := by decide +kernel
theorem dX11_found_2 : decode cX11_found 2 = .ok (.putfield 38, 3) := by decide +kernel
theorem dX11_found_5 : decode cX11_found 5 = .ok (.ldc2_w 42, 3) := by decide +kernel
theorem dX11_found_8 : decode cX11_found 8 = .ok (.iload_n 1, 1) := by decide +kernel
theorem dX11_found_9 : decode cX11_found 9 = .ok (.i2l, 1) := by decide +kernel
theorem dX11_found_10 : decode cX11_found 10 = .ok (.lsub, 1) := by decide +kernel
theorem dX11_found_11 : decode cX11_found 11 = .ok (.lreturn, 1) := by decide +kernel
theorem dX11_good_0 : decode cX11_good 0 = .ok (.aload_n 0, 1) := by decide +kernel
theorem dX11_good_1 : decode cX11_good 1 = .ok (.iconst 0, 1) := by decide +kernel
theorem dX11_good_2 : decode cX11_good 2 = .ok (.putfield 38, 3) := by decide +kernel
theorem dX11_good_5 : decode cX11_good 5 = .ok (.lload_n 1, 1) := by decide +kernel
theorem dX11_good_6 : decode cX11_good 6 = .ok (.lreturn, 1) := by decide +kernel
set_option maxRecDepth 20000 in
theorem ggX11_isRow_X11_in : GoodIn wsX11_isRow wsX11_in := goodIn_r _ [5] (by decide +kernel) (by decide +kernel)
set_option maxRecDepth 20000 in
theorem gX11_isRow_X11_in : GoodIn wsX11_isRow (va_wsS RX11 46 yX11_in wsX11_in) := goodIn_app (goodIn_of _ (by decide +kernel)) ggX11_isRow_X11_in
theorem dX11_isRow_0 : decode cX11_isRow 0 = .ok (.iload_n 1, 1) := by decide +kernel
theorem dX11_isRow_1 : decode cX11_isRow 1 = .ok (.i2l, 1) := by decide +kernel
theorem dX11_isRow_2 : decode cX11_isRow 2 = .ok (.lconst 0, 1) := by decide +kernel
theorem dX11_isRow_3 : decode cX11_isRow 3 = .ok (.ldc2_w 44, 3) := by decide +kernel
theorem dX11_isRow_6 : decode cX11_isRow 6 = .ok (.invokestatic 46, 3) := by decide +kernel
theorem dX11_isRow_9 : decode cX11_isRow 9 = .ok (.ireturn, 1) := by decide +kernel
set_option maxRecDepth 20000 in
theorem ggX11_row_X11_isRow : GoodIn wsX11_row wsX11_isRow := goodIn_r _ [10, 11, 12, 13, 9, 14] (by decide +kernel) (by decide +kernel)
set_option maxRecDepth 20000 in
theorem gX11_row_X11_isRow : GoodIn wsX11_row (wsV RX11 50 RX11 yX11_isRow wsX11_isRow) := goodIn_app (goodIn_of _ (by decide +kernel)) ggX11_row_X11_isRow
set_option maxRecDepth 20000 in
theorem ggX11_row_X11_in : GoodIn wsX11_row wsX11_in := goodIn_r _ [14] (by decide +kernel) (by decide +kernel)
set_option maxRecDepth 20000 in
theorem gX11_row_X11_in : GoodIn wsX11_row (va_wsS RX11 46 yX11_in wsX11_in) := goodIn_app (goodIn_of _ (by decide +kernel)) ggX11_row_X11_in
set_option maxRecDepth 20000 in
theorem ggX11_row_X11_found : GoodIn wsX11_row wsX11_found := goodIn_r _ [18, 19, 20, 25, 26, 27, 28, 29, 30, 31, 32, 33, 34, 35, 36, 37, 38, 39, 40, 41, 42, 43, 44] (by decide +kernel) (by decide +kernel)
set_option maxRecDepth 20000 in
theorem gX11_row_X11_found : GoodIn wsX11_row (wsV RX11 58 RX11 yX11_found wsX11_found) := goodIn_app (goodIn_of _ (by decide +kernel)) ggX11_row_X11_found
set_option maxRecDepth 20000 in
theorem ggX11_row_X11_good : GoodIn wsX11_row wsX11_good := goodIn_r _ [24, 19, 25, 26, 27, 28, 29, 30, 31, 32, 33, 34, 35, 36, 37, 38, 39, 40, 41, 42, 43, 44] (by decide +kernel) (by decide +kernel)
set_option maxRecDepth 20000 in
theorem gX11_row_X11_good : GoodIn wsX11_row (wsV RX11 62 RX11 yX11_good wsX11_good) := goodIn_app (goodIn_of _ (by decide +kernel)) ggX11_row_X11_good
theorem dX11_row_0 : decode cX11_row 0 = .ok (.aload_n 0, 1) := by decide +kernel
theorem dX11_row_1 : decode cX11_row 1 = .ok (.iload_n 1, 1) := by decide +kernel
theorem dX11_row_2 : decode cX11_row 2 = .ok (.invokevirtual 50, 3) := by decide +kernel
theorem dX11_row_5 : decode cX11_row 5 = .ok (.ifCond .eq 21, 3) := by decide +kernel
theorem dX11_row_8 : decode cX11_row 8 = .ok (.iload_n 2, 1) := by decide +kernel
theorem dX11_row_9 : decode cX11_row 9 = .ok (.i2l, 1) := by decide +kernel
theorem dX11_row_10 : decode cX11_row 10 = .ok (.lconst 0, 1) := by decide +kernel
theorem dX11_row_11 : decode cX11_row 11 = .ok (.ldc2_w 54, 3) := by decide +kernel
theorem dX11_row_14 : decode cX11_row 14 = .ok (.invokestatic 46, 3) := by decide +kernel
theorem dX11_row_17 : decode cX11_row 17 = .ok (.ifCond .eq 9, 3) := by decide +kernel
theorem dX11_row_20 : decode cX11_row 20 = .ok (.iload_n 3, 1) := by decide +kernel
theorem dX11_row_21 : decode cX11_row 21 = .ok (.bipush 40, 2) := by decide +kernel
theorem dX11_row_23 : decode cX11_row 23 = .ok (.if_icmp .le 7, 3) := by decide +kernel
theorem dX11_row_26 : decode cX11_row 26 = .ok (.ldc2_w 56, 3) := by decide +kernel
theorem dX11_row_29 : decode cX11_row 29 = .ok (.lreturn, 1) := by decide +kernel
theorem dX11_row_30 : decode cX11_row 30 = .ok (.iload_n 3, 1) := by decide +kernel
theorem dX11_row_31 : decode cX11_row 31 = .ok (.ifCond .ge 9, 3) := by decide +kernel
theorem dX11_row_34 : decode cX11_row 34 = .ok (.aload_n 0, 1) := by decide +kernel
theorem dX11_row_35 : decode cX11_row 35 = .ok (.iconst 4, 1) := by decide +kernel
theorem dX11_row_36 : decode cX11_row 36 = .ok (.invokevirtual 58, 3) := by decide +kernel
theorem dX11_row_39 : decode cX11_row 39 = .ok (.lreturn, 1) := by decide +kernel
theorem dX11_row_40 : decode cX11_row 40 = .ok (.aload_n 0, 1) := by decide +kernel
theorem dX11_row_41 : decode cX11_row 41 = .ok (.getfield 17, 3) := by decide +kernel
theorem dX11_row_44 : decode cX11_row 44 = .ok (.iload_n 1, 1) := by decide +kernel
theorem dX11_row_45 : decode cX11_row 45 = .ok (.iload_n 2, 1) := by decide +kernel
theorem dX11_row_46 : decode cX11_row 46 = .ok (.iastore, 1) := by decide +kernel
theorem dX11_row_47 : decode cX11_row 47 = .ok (.aload_n 0, 1) := by decide +kernel
theorem dX11_row_48 : decode cX11_row 48 = .ok (.getfield 20, 3) := by decide +kernel
theorem dX11_row_51 : decode cX11_row 51 = .ok (.iload_n 1, 1) := by decide +kernel
theorem dX11_row_52 : decode cX11_row 52 = .ok (.iload_n 3, 1) := by decide +kernel
theorem dX11_row_53 : decode cX11_row 53 = .ok (.iastore, 1) := by decide +kernel
theorem dX11_row_54 : decode cX11_row 54 = .ok (.iconst 0, 1) := by decide +kernel
theorem dX11_row_55 : decode cX11_row 55 = .ok (.istore 4, 2) := by decide +kernel
theorem dX11_row_57 : decode cX11_row 57 = .ok (.iload 4, 2) := by decide +kernel
theorem dX11_row_59 : decode cX11_row 59 = .ok (.bipush 40, 2) := by decide +kernel
theorem dX11_row_61 : decode cX11_row 61 = .ok (.if_icmp .ge 22, 3) := by decide +kernel
theorem dX11_row_64 : decode cX11_row 64 = .ok (.aload_n 0, 1) := by decide +kernel
theorem dX11_row_65 : decode cX11_row 65 = .ok (.getfield 13, 3) := by decide +kernel
theorem dX11_row_68 : decode cX11_row 68 = .ok (.bipush 40, 2) := by decide +kernel
theorem dX11_row_70 : decode cX11_row 70 = .ok (.iload_n 1, 1) := by decide +kernel
theorem dX11_row_71 : decode cX11_row 71 = .ok (.imul, 1) := by decide +kernel
theorem dX11_row_72 : decode cX11_row 72 = .ok (.iload 4, 2) := by decide +kernel
theorem dX11_row_74 : decode cX11_row 74 = .ok (.iadd, 1) := by decide +kernel
theorem dX11_row_75 : decode cX11_row 75 = .ok (.iconst 0, 1) := by decide +kernel
theorem dX11_row_76 : decode cX11_row 76 = .ok (.iastore, 1) := by decide +kernel
theorem dX11_row_77 : decode cX11_row 77 = .ok (.iinc 4 1, 3) := by decide +kernel
theorem dX11_row_80 : decode cX11_row 80 = .ok (.goto (-23), 3) := by decide +kernel
theorem dX11_row_83 : decode cX11_row 83 = .ok (.aload_n 0, 1) := by decide +kernel
theorem dX11_row_84 : decode cX11_row 84 = .ok (.iload_n 3, 1) := by decide +kernel
theorem dX11_row_85 : decode cX11_row 85 = .ok (.i2l, 1) := by decide +kernel
theorem dX11_row_86 : decode cX11_row 86 = .ok (.invokevirtual 62, 3) := by decide +kernel
theorem dX11_row_89 : decode cX11_row 89 = .ok (.lreturn, 1) := by decide +kernel
theorem dX11_held_0 : decode cX11_held 0 = .ok (.iload_n 0, 1) := by decide +kernel
theorem dX11_held_1 : decode cX11_held 1 = .ok (.ifCond .ne 13, 3) := by decide +kernel
theorem dX11_held_4 : decode cX11_held 4 = .ok (.iload_n 1, 1) := by decide +kernel
theorem dX11_held_5 : decode cX11_held 5 = .ok (.bipush 24, 2) := by decide +kernel
theorem dX11_held_7 : decode cX11_held 7 = .ok (.ishl, 1) := by decide +kernel
theorem dX11_held_8 : decode cX11_held 8 = .ok (.bipush 24, 2) := by decide +kernel
theorem dX11_held_10 : decode cX11_held 10 = .ok (.ishr, 1) := by decide +kernel
theorem dX11_held_11 : decode cX11_held 11 = .ok (.goto 19, 3) := by decide +kernel
theorem dX11_held_14 : decode cX11_held 14 = .ok (.iload_n 0, 1) := by decide +kernel
theorem dX11_held_15 : decode cX11_held 15 = .ok (.iconst 1, 1) := by decide +kernel
theorem dX11_held_16 : decode cX11_held 16 = .ok (.if_icmp .ne 13, 3) := by decide +kernel
theorem dX11_held_19 : decode cX11_held 19 = .ok (.iload_n 1, 1) := by decide +kernel
theorem dX11_held_20 : decode cX11_held 20 = .ok (.bipush 16, 2) := by decide +kernel
theorem dX11_held_22 : decode cX11_held 22 = .ok (.ishl, 1) := by decide +kernel
theorem dX11_held_23 : decode cX11_held 23 = .ok (.bipush 16, 2) := by decide +kernel
theorem dX11_held_25 : decode cX11_held 25 = .ok (.ishr, 1) := by decide +kernel
theorem dX11_held_26 : decode cX11_held 26 = .ok (.goto 4, 3) := by decide +kernel
theorem dX11_held_29 : decode cX11_held 29 = .ok (.iload_n 1, 1) := by decide +kernel
theorem dX11_held_30 : decode cX11_held 30 = .ok (.ireturn, 1) := by decide +kernel
set_option maxRecDepth 20000 in
theorem ggX11_set_X11_isRow : GoodIn wsX11_set wsX11_isRow := goodIn_r _ [9, 10, 11, 12, 8, 13] (by decide +kernel) (by decide +kernel)
set_option maxRecDepth 20000 in
theorem gX11_set_X11_isRow : GoodIn wsX11_set (wsV RX11 50 RX11 yX11_isRow wsX11_isRow) := goodIn_app (goodIn_of _ (by decide +kernel)) ggX11_set_X11_isRow
set_option maxRecDepth 20000 in
theorem ggX11_set_X11_found : GoodIn wsX11_set wsX11_found := goodIn_r _ [17, 18, 19, 27, 28, 29, 30, 31, 32, 33, 34, 35, 36, 37, 38, 39, 40, 41, 42, 43, 44, 45, 46] (by decide +kernel) (by decide +kernel)
set_option maxRecDepth 20000 in
theorem gX11_set_X11_found : GoodIn wsX11_set (wsV RX11 58 RX11 yX11_found wsX11_found) := goodIn_app (goodIn_of _ (by decide +kernel)) ggX11_set_X11_found
set_option maxRecDepth 20000 in
theorem ggX11_set_X11_in : GoodIn wsX11_set wsX11_in := goodIn_r _ [13] (by decide +kernel) (by decide +kernel)
set_option maxRecDepth 20000 in
theorem gX11_set_X11_in : GoodIn wsX11_set (va_wsS RX11 46 yX11_in wsX11_in) := goodIn_app (goodIn_of _ (by decide +kernel)) ggX11_set_X11_in
set_option maxRecDepth 20000 in
theorem ggX11_set_X11_held : GoodIn wsX11_set wsX11_held := goodIn_r _ [22] (by decide +kernel) (by decide +kernel)
set_option maxRecDepth 20000 in
theorem gX11_set_X11_held : GoodIn wsX11_set (va_wsS RX11 66 yX11_held wsX11_held) := goodIn_app (goodIn_of _ (by decide +kernel)) ggX11_set_X11_held
set_option maxRecDepth 20000 in
theorem ggX11_set_X11_good : GoodIn wsX11_set wsX11_good := goodIn_r _ [26, 18, 27, 28, 29, 30, 31, 32, 33, 34, 35, 36, 37, 38, 39, 40, 41, 42, 43, 44, 45, 46] (by decide +kernel) (by decide +kernel)
set_option maxRecDepth 20000 in
theorem gX11_set_X11_good : GoodIn wsX11_set (wsV RX11 62 RX11 yX11_good wsX11_good) := goodIn_app (goodIn_of _ (by decide +kernel)) ggX11_set_X11_good
theorem dX11_set_0 : decode cX11_set 0 = .ok (.aload_n 0, 1) := by decide +kernel
theorem dX11_set_1 : decode cX11_set 1 = .ok (.iload_n 1, 1) := by decide +kernel
theorem dX11_set_2 : decode cX11_set 2 = .ok (.invokevirtual 50, 3) := by decide +kernel
theorem dX11_set_5 : decode cX11_set 5 = .ok (.ifCond .ne 7, 3) := by decide +kernel
theorem dX11_set_8 : decode cX11_set 8 = .ok (.ldc2_w 56, 3) := by decide +kernel
theorem dX11_set_11 : decode cX11_set 11 = .ok (.lreturn, 1) := by decide +kernel
theorem dX11_set_12 : decode cX11_set 12 = .ok (.aload_n 0, 1) := by decide +kernel
theorem dX11_set_13 : decode cX11_set 13 = .ok (.getfield 20, 3) := by decide +kernel
theorem dX11_set_16 : decode cX11_set 16 = .ok (.iload_n 1, 1) := by decide +kernel
theorem dX11_set_17 : decode cX11_set 17 = .ok (.iaload, 1) := by decide +kernel
theorem dX11_set_18 : decode cX11_set 18 = .ok (.ifCond .ge 9, 3) := by decide +kernel
theorem dX11_set_21 : decode cX11_set 21 = .ok (.aload_n 0, 1) := by decide +kernel
theorem dX11_set_22 : decode cX11_set 22 = .ok (.iconst 1, 1) := by decide +kernel
theorem dX11_set_23 : decode cX11_set 23 = .ok (.invokevirtual 58, 3) := by decide +kernel
theorem dX11_set_26 : decode cX11_set 26 = .ok (.lreturn, 1) := by decide +kernel
theorem dX11_set_27 : decode cX11_set 27 = .ok (.iload_n 2, 1) := by decide +kernel
theorem dX11_set_28 : decode cX11_set 28 = .ok (.i2l, 1) := by decide +kernel
theorem dX11_set_29 : decode cX11_set 29 = .ok (.lconst 0, 1) := by decide +kernel
theorem dX11_set_30 : decode cX11_set 30 = .ok (.aload_n 0, 1) := by decide +kernel
theorem dX11_set_31 : decode cX11_set 31 = .ok (.getfield 20, 3) := by decide +kernel
theorem dX11_set_34 : decode cX11_set 34 = .ok (.iload_n 1, 1) := by decide +kernel
theorem dX11_set_35 : decode cX11_set 35 = .ok (.iaload, 1) := by decide +kernel
theorem dX11_set_36 : decode cX11_set 36 = .ok (.iconst 1, 1) := by decide +kernel
theorem dX11_set_37 : decode cX11_set 37 = .ok (.isub, 1) := by decide +kernel
theorem dX11_set_38 : decode cX11_set 38 = .ok (.i2l, 1) := by decide +kernel
theorem dX11_set_39 : decode cX11_set 39 = .ok (.invokestatic 46, 3) := by decide +kernel
theorem dX11_set_42 : decode cX11_set 42 = .ok (.ifCond .ne 9, 3) := by decide +kernel
theorem dX11_set_45 : decode cX11_set 45 = .ok (.aload_n 0, 1) := by decide +kernel
theorem dX11_set_46 : decode cX11_set 46 = .ok (.iconst 2, 1) := by decide +kernel
theorem dX11_set_47 : decode cX11_set 47 = .ok (.invokevirtual 58, 3) := by decide +kernel
theorem dX11_set_50 : decode cX11_set 50 = .ok (.lreturn, 1) := by decide +kernel
theorem dX11_set_51 : decode cX11_set 51 = .ok (.aload_n 0, 1) := by decide +kernel
theorem dX11_set_52 : decode cX11_set 52 = .ok (.getfield 13, 3) := by decide +kernel
theorem dX11_set_55 : decode cX11_set 55 = .ok (.bipush 40, 2) := by decide +kernel
theorem dX11_set_57 : decode cX11_set 57 = .ok (.iload_n 1, 1) := by decide +kernel
theorem dX11_set_58 : decode cX11_set 58 = .ok (.imul, 1) := by decide +kernel
theorem dX11_set_59 : decode cX11_set 59 = .ok (.iload_n 2, 1) := by decide +kernel
theorem dX11_set_60 : decode cX11_set 60 = .ok (.iadd, 1) := by decide +kernel
theorem dX11_set_61 : decode cX11_set 61 = .ok (.aload_n 0, 1) := by decide +kernel
theorem dX11_set_62 : decode cX11_set 62 = .ok (.getfield 17, 3) := by decide +kernel
theorem dX11_set_65 : decode cX11_set 65 = .ok (.iload_n 1, 1) := by decide +kernel
theorem dX11_set_66 : decode cX11_set 66 = .ok (.iaload, 1) := by decide +kernel
theorem dX11_set_67 : decode cX11_set 67 = .ok (.iload_n 3, 1) := by decide +kernel
theorem dX11_set_68 : decode cX11_set 68 = .ok (.invokestatic 66, 3) := by decide +kernel
theorem dX11_set_71 : decode cX11_set 71 = .ok (.iastore, 1) := by decide +kernel
theorem dX11_set_72 : decode cX11_set 72 = .ok (.aload_n 0, 1) := by decide +kernel
theorem dX11_set_73 : decode cX11_set 73 = .ok (.aload_n 0, 1) := by decide +kernel
theorem dX11_set_74 : decode cX11_set 74 = .ok (.getfield 13, 3) := by decide +kernel
theorem dX11_set_77 : decode cX11_set 77 = .ok (.bipush 40, 2) := by decide +kernel
theorem dX11_set_79 : decode cX11_set 79 = .ok (.iload_n 1, 1) := by decide +kernel
theorem dX11_set_80 : decode cX11_set 80 = .ok (.imul, 1) := by decide +kernel
theorem dX11_set_81 : decode cX11_set 81 = .ok (.iload_n 2, 1) := by decide +kernel
theorem dX11_set_82 : decode cX11_set 82 = .ok (.iadd, 1) := by decide +kernel
theorem dX11_set_83 : decode cX11_set 83 = .ok (.iaload, 1) := by decide +kernel
theorem dX11_set_84 : decode cX11_set 84 = .ok (.i2l, 1) := by decide +kernel
theorem dX11_set_85 : decode cX11_set 85 = .ok (.invokevirtual 62, 3) := by decide +kernel
theorem dX11_set_88 : decode cX11_set 88 = .ok (.lreturn, 1) := by decide +kernel
theorem dX11_isWithin_0 : decode cX11_isWithin 0 = .ok (.iload_n 0, 1) := by decide +kernel
theorem dX11_isWithin_1 : decode cX11_isWithin 1 = .ok (.ifCond .lt 22, 3) := by decide +kernel
theorem dX11_isWithin_4 : decode cX11_isWithin 4 = .ok (.iload_n 1, 1) := by decide +kernel
theorem dX11_isWithin_5 : decode cX11_isWithin 5 = .ok (.ifCond .lt 18, 3) := by decide +kernel
theorem dX11_isWithin_8 : decode cX11_isWithin 8 = .ok (.iload_n 0, 1) := by decide +kernel
theorem dX11_isWithin_9 : decode cX11_isWithin 9 = .ok (.i2l, 1) := by decide +kernel
theorem dX11_isWithin_10 : decode cX11_isWithin 10 = .ok (.iload_n 1, 1) := by decide +kernel
theorem dX11_isWithin_11 : decode cX11_isWithin 11 = .ok (.i2l, 1) := by decide +kernel
theorem dX11_isWithin_12 : decode cX11_isWithin 12 = .ok (.ladd, 1) := by decide +kernel
theorem dX11_isWithin_13 : decode cX11_isWithin 13 = .ok (.iload_n 2, 1) := by decide +kernel
theorem dX11_isWithin_14 : decode cX11_isWithin 14 = .ok (.i2l, 1) := by decide +kernel
theorem dX11_isWithin_15 : decode cX11_isWithin 15 = .ok (.lcmp, 1) := by decide +kernel
theorem dX11_isWithin_16 : decode cX11_isWithin 16 = .ok (.ifCond .gt 7, 3) := by decide +kernel
theorem dX11_isWithin_19 : decode cX11_isWithin 19 = .ok (.iconst 1, 1) := by decide +kernel
theorem dX11_isWithin_20 : decode cX11_isWithin 20 = .ok (.goto 4, 3) := by decide +kernel
theorem dX11_isWithin_23 : decode cX11_isWithin 23 = .ok (.iconst 0, 1) := by decide +kernel
theorem dX11_isWithin_24 : decode cX11_isWithin 24 = .ok (.ireturn, 1) := by decide +kernel
set_option maxRecDepth 20000 in
theorem ggX11_copy_X11_isRow : GoodIn wsX11_copy wsX11_isRow := goodIn_r _ [10, 11, 12, 13, 9, 14] (by decide +kernel) (by decide +kernel)
set_option maxRecDepth 20000 in
theorem gX11_copy_X11_isRow : GoodIn wsX11_copy (wsV RX11 50 RX11 yX11_isRow wsX11_isRow) := goodIn_app (goodIn_of _ (by decide +kernel)) ggX11_copy_X11_isRow
set_option maxRecDepth 20000 in
theorem ggX11_copy_X11_found : GoodIn wsX11_copy wsX11_found := goodIn_r _ [18, 19, 20, 28, 29, 30, 31, 32, 33, 34, 35, 36, 37, 38, 39, 40, 41, 42, 43, 44, 45, 46, 47] (by decide +kernel) (by decide +kernel)
set_option maxRecDepth 20000 in
theorem gX11_copy_X11_found : GoodIn wsX11_copy (wsV RX11 58 RX11 yX11_found wsX11_found) := goodIn_app (goodIn_of _ (by decide +kernel)) ggX11_copy_X11_found
set_option maxRecDepth 20000 in
theorem ggX11_copy_X11_isWithin : GoodIn wsX11_copy wsX11_isWithin := goodIn_r _ [23] (by decide +kernel) (by decide +kernel)
set_option maxRecDepth 20000 in
theorem gX11_copy_X11_isWithin : GoodIn wsX11_copy (va_wsS RX11 70 yX11_isWithin wsX11_isWithin) := goodIn_app (goodIn_of _ (by decide +kernel)) ggX11_copy_X11_isWithin
set_option maxRecDepth 20000 in
theorem ggX11_copy_X11_good : GoodIn wsX11_copy wsX11_good := goodIn_r _ [27, 19, 28, 29, 30, 31, 32, 33, 34, 35, 36, 37, 38, 39, 40, 41, 42, 43, 44, 45, 46, 47] (by decide +kernel) (by decide +kernel)
set_option maxRecDepth 20000 in
theorem gX11_copy_X11_good : GoodIn wsX11_copy (wsV RX11 62 RX11 yX11_good wsX11_good) := goodIn_app (goodIn_of _ (by decide +kernel)) ggX11_copy_X11_good
theorem dX11_copy_0 : decode cX11_copy 0 = .ok (.aload_n 0, 1) := by decide +kernel
theorem dX11_copy_1 : decode cX11_copy 1 = .ok (.iload_n 1, 1) := by decide +kernel
theorem dX11_copy_2 : decode cX11_copy 2 = .ok (.invokevirtual 50, 3) := by decide +kernel
theorem dX11_copy_5 : decode cX11_copy 5 = .ok (.ifCond .eq 11, 3) := by decide +kernel
theorem dX11_copy_8 : decode cX11_copy 8 = .ok (.aload_n 0, 1) := by decide +kernel
theorem dX11_copy_9 : decode cX11_copy 9 = .ok (.iload_n 3, 1) := by decide +kernel
theorem dX11_copy_10 : decode cX11_copy 10 = .ok (.invokevirtual 50, 3) := by decide +kernel
theorem dX11_copy_13 : decode cX11_copy 13 = .ok (.ifCond .ne 7, 3) := by decide +kernel
theorem dX11_copy_16 : decode cX11_copy 16 = .ok (.ldc2_w 56, 3) := by decide +kernel
theorem dX11_copy_19 : decode cX11_copy 19 = .ok (.lreturn, 1) := by decide +kernel
theorem dX11_copy_20 : decode cX11_copy 20 = .ok (.aload_n 0, 1) := by decide +kernel
theorem dX11_copy_21 : decode cX11_copy 21 = .ok (.getfield 20, 3) := by decide +kernel
theorem dX11_copy_24 : decode cX11_copy 24 = .ok (.iload_n 1, 1) := by decide +kernel
theorem dX11_copy_25 : decode cX11_copy 25 = .ok (.iaload, 1) := by decide +kernel
theorem dX11_copy_26 : decode cX11_copy 26 = .ok (.ifCond .lt 12, 3) := by decide +kernel
theorem dX11_copy_29 : decode cX11_copy 29 = .ok (.aload_n 0, 1) := by decide +kernel
theorem dX11_copy_30 : decode cX11_copy 30 = .ok (.getfield 20, 3) := by decide +kernel
theorem dX11_copy_33 : decode cX11_copy 33 = .ok (.iload_n 3, 1) := by decide +kernel
theorem dX11_copy_34 : decode cX11_copy 34 = .ok (.iaload, 1) := by decide +kernel
theorem dX11_copy_35 : decode cX11_copy 35 = .ok (.ifCond .ge 9, 3) := by decide +kernel
theorem dX11_copy_38 : decode cX11_copy 38 = .ok (.aload_n 0, 1) := by decide +kernel
theorem dX11_copy_39 : decode cX11_copy 39 = .ok (.iconst 1, 1) := by decide +kernel
theorem dX11_copy_40 : decode cX11_copy 40 = .ok (.invokevirtual 58, 3) := by decide +kernel
theorem dX11_copy_43 : decode cX11_copy 43 = .ok (.lreturn, 1) := by decide +kernel
theorem dX11_copy_44 : decode cX11_copy 44 = .ok (.aload_n 0, 1) := by decide +kernel
theorem dX11_copy_45 : decode cX11_copy 45 = .ok (.getfield 17, 3) := by decide +kernel
theorem dX11_copy_48 : decode cX11_copy 48 = .ok (.iload_n 1, 1) := by decide +kernel
theorem dX11_copy_49 : decode cX11_copy 49 = .ok (.iaload, 1) := by decide +kernel
theorem dX11_copy_50 : decode cX11_copy 50 = .ok (.aload_n 0, 1) := by decide +kernel
theorem dX11_copy_51 : decode cX11_copy 51 = .ok (.getfield 17, 3) := by decide +kernel
theorem dX11_copy_54 : decode cX11_copy 54 = .ok (.iload_n 3, 1) := by decide +kernel
theorem dX11_copy_55 : decode cX11_copy 55 = .ok (.iaload, 1) := by decide +kernel
theorem dX11_copy_56 : decode cX11_copy 56 = .ok (.if_icmp .eq 9, 3) := by decide +kernel
theorem dX11_copy_59 : decode cX11_copy 59 = .ok (.aload_n 0, 1) := by decide +kernel
theorem dX11_copy_60 : decode cX11_copy 60 = .ok (.iconst 5, 1) := by decide +kernel
theorem dX11_copy_61 : decode cX11_copy 61 = .ok (.invokevirtual 58, 3) := by decide +kernel
theorem dX11_copy_64 : decode cX11_copy 64 = .ok (.lreturn, 1) := by decide +kernel
theorem dX11_copy_65 : decode cX11_copy 65 = .ok (.iload_n 2, 1) := by decide +kernel
theorem dX11_copy_66 : decode cX11_copy 66 = .ok (.iload 5, 2) := by decide +kernel
theorem dX11_copy_68 : decode cX11_copy 68 = .ok (.aload_n 0, 1) := by decide +kernel
theorem dX11_copy_69 : decode cX11_copy 69 = .ok (.getfield 20, 3) := by decide +kernel
theorem dX11_copy_72 : decode cX11_copy 72 = .ok (.iload_n 1, 1) := by decide +kernel
theorem dX11_copy_73 : decode cX11_copy 73 = .ok (.iaload, 1) := by decide +kernel
theorem dX11_copy_74 : decode cX11_copy 74 = .ok (.invokestatic 70, 3) := by decide +kernel
theorem dX11_copy_77 : decode cX11_copy 77 = .ok (.ifCond .eq 19, 3) := by decide +kernel
theorem dX11_copy_80 : decode cX11_copy 80 = .ok (.iload 4, 2) := by decide +kernel
theorem dX11_copy_82 : decode cX11_copy 82 = .ok (.iload 5, 2) := by decide +kernel
theorem dX11_copy_84 : decode cX11_copy 84 = .ok (.aload_n 0, 1) := by decide +kernel
theorem dX11_copy_85 : decode cX11_copy 85 = .ok (.getfield 20, 3) := by decide +kernel
theorem dX11_copy_88 : decode cX11_copy 88 = .ok (.iload_n 3, 1) := by decide +kernel
theorem dX11_copy_89 : decode cX11_copy 89 = .ok (.iaload, 1) := by decide +kernel
theorem dX11_copy_90 : decode cX11_copy 90 = .ok (.invokestatic 70, 3) := by decide +kernel
theorem dX11_copy_93 : decode cX11_copy 93 = .ok (.ifCond .ne 9, 3) := by decide +kernel
theorem dX11_copy_96 : decode cX11_copy 96 = .ok (.aload_n 0, 1) := by decide +kernel
theorem dX11_copy_97 : decode cX11_copy 97 = .ok (.iconst 2, 1) := by decide +kernel
theorem dX11_copy_98 : decode cX11_copy 98 = .ok (.invokevirtual 58, 3) := by decide +kernel
theorem dX11_copy_101 : decode cX11_copy 101 = .ok (.lreturn, 1) := by decide +kernel
theorem dX11_copy_102 : decode cX11_copy 102 = .ok (.iconst 0, 1) := by decide +kernel
theorem dX11_copy_103 : decode cX11_copy 103 = .ok (.istore 6, 2) := by decide +kernel
theorem dX11_copy_105 : decode cX11_copy 105 = .ok (.iload 6, 2) := by decide +kernel
theorem dX11_copy_107 : decode cX11_copy 107 = .ok (.iload 5, 2) := by decide +kernel
theorem dX11_copy_109 : decode cX11_copy 109 = .ok (.if_icmp .ge 30, 3) := by decide +kernel
theorem dX11_copy_112 : decode cX11_copy 112 = .ok (.aload_n 0, 1) := by decide +kernel
theorem dX11_copy_113 : decode cX11_copy 113 = .ok (.getfield 23, 3) := by decide +kernel
theorem dX11_copy_116 : decode cX11_copy 116 = .ok (.iload 6, 2) := by decide +kernel
theorem dX11_copy_118 : decode cX11_copy 118 = .ok (.aload_n 0, 1) := by decide +kernel
theorem dX11_copy_119 : decode cX11_copy 119 = .ok (.getfield 13, 3) := by decide +kernel
theorem dX11_copy_122 : decode cX11_copy 122 = .ok (.bipush 40, 2) := by decide +kernel
theorem dX11_copy_124 : decode cX11_copy 124 = .ok (.iload_n 1, 1) := by decide +kernel
theorem dX11_copy_125 : decode cX11_copy 125 = .ok (.imul, 1) := by decide +kernel
theorem dX11_copy_126 : decode cX11_copy 126 = .ok (.iload_n 2, 1) := by decide +kernel
theorem dX11_copy_127 : decode cX11_copy 127 = .ok (.iadd, 1) := by decide +kernel
theorem dX11_copy_128 : decode cX11_copy 128 = .ok (.iload 6, 2) := by decide +kernel
theorem dX11_copy_130 : decode cX11_copy 130 = .ok (.iadd, 1) := by decide +kernel
theorem dX11_copy_131 : decode cX11_copy 131 = .ok (.iaload, 1) := by decide +kernel
theorem dX11_copy_132 : decode cX11_copy 132 = .ok (.iastore, 1) := by decide +kernel
theorem dX11_copy_133 : decode cX11_copy 133 = .ok (.iinc 6 1, 3) := by decide +kernel
theorem dX11_copy_136 : decode cX11_copy 136 = .ok (.goto (-31), 3) := by decide +kernel
theorem dX11_copy_139 : decode cX11_copy 139 = .ok (.iconst 0, 1) := by decide +kernel
theorem dX11_copy_140 : decode cX11_copy 140 = .ok (.istore 6, 2) := by decide +kernel
theorem dX11_copy_142 : decode cX11_copy 142 = .ok (.iload 6, 2) := by decide +kernel
theorem dX11_copy_144 : decode cX11_copy 144 = .ok (.iload 5, 2) := by decide +kernel
theorem dX11_copy_146 : decode cX11_copy 146 = .ok (.if_icmp .ge 31, 3) := by decide +kernel
theorem dX11_copy_149 : decode cX11_copy 149 = .ok (.aload_n 0, 1) := by decide +kernel
theorem dX11_copy_150 : decode cX11_copy 150 = .ok (.getfield 13, 3) := by decide +kernel
theorem dX11_copy_153 : decode cX11_copy 153 = .ok (.bipush 40, 2) := by decide +kernel
theorem dX11_copy_155 : decode cX11_copy 155 = .ok (.iload_n 3, 1) := by decide +kernel
theorem dX11_copy_156 : decode cX11_copy 156 = .ok (.imul, 1) := by decide +kernel
theorem dX11_copy_157 : decode cX11_copy 157 = .ok (.iload 4, 2) := by decide +kernel
theorem dX11_copy_159 : decode cX11_copy 159 = .ok (.iadd, 1) := by decide +kernel
theorem dX11_copy_160 : decode cX11_copy 160 = .ok (.iload 6, 2) := by decide +kernel
theorem dX11_copy_162 : decode cX11_copy 162 = .ok (.iadd, 1) := by decide +kernel
theorem dX11_copy_163 : decode cX11_copy 163 = .ok (.aload_n 0, 1) := by decide +kernel
theorem dX11_copy_164 : decode cX11_copy 164 = .ok (.getfield 23, 3) := by decide +kernel
theorem dX11_copy_167 : decode cX11_copy 167 = .ok (.iload 6, 2) := by decide +kernel
theorem dX11_copy_169 : decode cX11_copy 169 = .ok (.iaload, 1) := by decide +kernel
theorem dX11_copy_170 : decode cX11_copy 170 = .ok (.iastore, 1) := by decide +kernel
theorem dX11_copy_171 : decode cX11_copy 171 = .ok (.iinc 6 1, 3) := by decide +kernel
theorem dX11_copy_174 : decode cX11_copy 174 = .ok (.goto (-32), 3) := by decide +kernel
theorem dX11_copy_177 : decode cX11_copy 177 = .ok (.aload_n 0, 1) := by decide +kernel
theorem dX11_copy_178 : decode cX11_copy 178 = .ok (.iload 5, 2) := by decide +kernel
theorem dX11_copy_180 : decode cX11_copy 180 = .ok (.i2l, 1) := by decide +kernel
theorem dX11_copy_181 : decode cX11_copy 181 = .ok (.invokevirtual 62, 3) := by decide +kernel
theorem dX11_copy_184 : decode cX11_copy 184 = .ok (.lreturn, 1) := by decide +kernel
set_option maxRecDepth 20000 in
theorem ggX11_drop_X11_isRow : GoodIn wsX11_drop wsX11_isRow := goodIn_r _ [7, 8, 9, 10, 6, 11] (by decide +kernel) (by decide +kernel)
set_option maxRecDepth 20000 in
theorem gX11_drop_X11_isRow : GoodIn wsX11_drop (wsV RX11 50 RX11 yX11_isRow wsX11_isRow) := goodIn_app (goodIn_of _ (by decide +kernel)) ggX11_drop_X11_isRow
set_option maxRecDepth 20000 in
theorem ggX11_drop_X11_found : GoodIn wsX11_drop wsX11_found := goodIn_r _ [15, 16, 17, 22, 23, 24, 25, 26, 27, 28, 29, 30, 31, 32, 33, 34, 35, 36, 37, 38, 39, 40, 41] (by decide +kernel) (by decide +kernel)
set_option maxRecDepth 20000 in
theorem gX11_drop_X11_found : GoodIn wsX11_drop (wsV RX11 58 RX11 yX11_found wsX11_found) := goodIn_app (goodIn_of _ (by decide +kernel)) ggX11_drop_X11_found
set_option maxRecDepth 20000 in
theorem ggX11_drop_X11_good : GoodIn wsX11_drop wsX11_good := goodIn_r _ [21, 16, 22, 23, 24, 25, 26, 27, 28, 29, 30, 31, 32, 33, 34, 35, 36, 37, 38, 39, 40, 41] (by decide +kernel) (by decide +kernel)
set_option maxRecDepth 20000 in
theorem gX11_drop_X11_good : GoodIn wsX11_drop (wsV RX11 62 RX11 yX11_good wsX11_good) := goodIn_app (goodIn_of _ (by decide +kernel)) ggX11_drop_X11_good
theorem dX11_drop_0 : decode cX11_drop 0 = .ok (.aload_n 0, 1) := by decide +kernel
theorem dX11_drop_1 : decode cX11_drop 1 = .ok (.iload_n 1, 1) := by decide +kernel
theorem dX11_drop_2 : decode cX11_drop 2 = .ok (.invokevirtual 50, 3) := by decide +kernel
theorem dX11_drop_5 : decode cX11_drop 5 = .ok (.ifCond .ne 7, 3) := by decide +kernel
theorem dX11_drop_8 : decode cX11_drop 8 = .ok (.ldc2_w 56, 3) := by decide +kernel
theorem dX11_drop_11 : decode cX11_drop 11 = .ok (.lreturn, 1) := by decide +kernel
theorem dX11_drop_12 : decode cX11_drop 12 = .ok (.aload_n 0, 1) := by decide +kernel
theorem dX11_drop_13 : decode cX11_drop 13 = .ok (.getfield 20, 3) := by decide +kernel
theorem dX11_drop_16 : decode cX11_drop 16 = .ok (.iload_n 1, 1) := by decide +kernel
theorem dX11_drop_17 : decode cX11_drop 17 = .ok (.iaload, 1) := by decide +kernel
theorem dX11_drop_18 : decode cX11_drop 18 = .ok (.ifCond .ge 9, 3) := by decide +kernel
theorem dX11_drop_21 : decode cX11_drop 21 = .ok (.aload_n 0, 1) := by decide +kernel
theorem dX11_drop_22 : decode cX11_drop 22 = .ok (.iconst 1, 1) := by decide +kernel
theorem dX11_drop_23 : decode cX11_drop 23 = .ok (.invokevirtual 58, 3) := by decide +kernel
theorem dX11_drop_26 : decode cX11_drop 26 = .ok (.lreturn, 1) := by decide +kernel
theorem dX11_drop_27 : decode cX11_drop 27 = .ok (.aload_n 0, 1) := by decide +kernel
theorem dX11_drop_28 : decode cX11_drop 28 = .ok (.getfield 20, 3) := by decide +kernel
theorem dX11_drop_31 : decode cX11_drop 31 = .ok (.iload_n 1, 1) := by decide +kernel
theorem dX11_drop_32 : decode cX11_drop 32 = .ok (.iaload, 1) := by decide +kernel
theorem dX11_drop_33 : decode cX11_drop 33 = .ok (.istore_n 2, 1) := by decide +kernel
theorem dX11_drop_34 : decode cX11_drop 34 = .ok (.aload_n 0, 1) := by decide +kernel
theorem dX11_drop_35 : decode cX11_drop 35 = .ok (.getfield 20, 3) := by decide +kernel
theorem dX11_drop_38 : decode cX11_drop 38 = .ok (.iload_n 1, 1) := by decide +kernel
theorem dX11_drop_39 : decode cX11_drop 39 = .ok (.iconst (-1), 1) := by decide +kernel
theorem dX11_drop_40 : decode cX11_drop 40 = .ok (.iastore, 1) := by decide +kernel
theorem dX11_drop_41 : decode cX11_drop 41 = .ok (.aload_n 0, 1) := by decide +kernel
theorem dX11_drop_42 : decode cX11_drop 42 = .ok (.iload_n 2, 1) := by decide +kernel
theorem dX11_drop_43 : decode cX11_drop 43 = .ok (.i2l, 1) := by decide +kernel
theorem dX11_drop_44 : decode cX11_drop 44 = .ok (.invokevirtual 62, 3) := by decide +kernel
theorem dX11_drop_47 : decode cX11_drop 47 = .ok (.lreturn, 1) := by decide +kernel
set_option maxRecDepth 20000 in
theorem ggX11_feed_X11_in : GoodIn wsX11_feed wsX11_in := goodIn_r _ [10] (by decide +kernel) (by decide +kernel)
set_option maxRecDepth 20000 in
theorem gX11_feed_X11_in : GoodIn wsX11_feed (va_wsS RX11 46 yX11_in wsX11_in) := goodIn_app (goodIn_of _ (by decide +kernel)) ggX11_feed_X11_in
theorem dX11_feed_0 : decode cX11_feed 0 = .ok (.iload_n 3, 1) := by decide +kernel
theorem dX11_feed_1 : decode cX11_feed 1 = .ok (.i2l, 1) := by decide +kernel
theorem dX11_feed_2 : decode cX11_feed 2 = .ok (.lconst 1, 1) := by decide +kernel
theorem dX11_feed_3 : decode cX11_feed 3 = .ok (.ldc2_w 74, 3) := by decide +kernel
theorem dX11_feed_6 : decode cX11_feed 6 = .ok (.invokestatic 46, 3) := by decide +kernel
theorem dX11_feed_9 : decode cX11_feed 9 = .ok (.ifCond .ne 7, 3) := by decide +kernel
theorem dX11_feed_12 : decode cX11_feed 12 = .ok (.ldc2_w 56, 3) := by decide +kernel
theorem dX11_feed_15 : decode cX11_feed 15 = .ok (.lreturn, 1) := by decide +kernel
theorem dX11_feed_16 : decode cX11_feed 16 = .ok (.aload_n 0, 1) := by decide +kernel
theorem dX11_feed_17 : decode cX11_feed 17 = .ok (.getfield 76, 3) := by decide +kernel
theorem dX11_feed_20 : decode cX11_feed 20 = .ok (.iload_n 3, 1) := by decide +kernel
theorem dX11_feed_21 : decode cX11_feed 21 = .ok (.iadd, 1) := by decide +kernel
theorem dX11_feed_22 : decode cX11_feed 22 = .ok (.sipush 400, 3) := by decide +kernel
theorem dX11_feed_25 : decode cX11_feed 25 = .ok (.if_icmp .le 7, 3) := by decide +kernel
theorem dX11_feed_28 : decode cX11_feed 28 = .ok (.ldc2_w 79, 3) := by decide +kernel
theorem dX11_feed_31 : decode cX11_feed 31 = .ok (.lreturn, 1) := by decide +kernel
theorem dX11_feed_32 : decode cX11_feed 32 = .ok (.iload_n 3, 1) := by decide +kernel
theorem dX11_feed_33 : decode cX11_feed 33 = .ok (.iconst 1, 1) := by decide +kernel
theorem dX11_feed_34 : decode cX11_feed 34 = .ok (.isub, 1) := by decide +kernel
theorem dX11_feed_35 : decode cX11_feed 35 = .ok (.istore 4, 2) := by decide +kernel
theorem dX11_feed_37 : decode cX11_feed 37 = .ok (.iload 4, 2) := by decide +kernel
theorem dX11_feed_39 : decode cX11_feed 39 = .ok (.ifCond .lt 40, 3) := by decide +kernel
theorem dX11_feed_42 : decode cX11_feed 42 = .ok (.aload_n 0, 1) := by decide +kernel
theorem dX11_feed_43 : decode cX11_feed 43 = .ok (.getfield 26, 3) := by decide +kernel
theorem dX11_feed_46 : decode cX11_feed 46 = .ok (.aload_n 0, 1) := by decide +kernel
theorem dX11_feed_47 : decode cX11_feed 47 = .ok (.getfield 76, 3) := by decide +kernel
theorem dX11_feed_50 : decode cX11_feed 50 = .ok (.lload_n 1, 1) := by decide +kernel
theorem dX11_feed_51 : decode cX11_feed 51 = .ok (.bipush 8, 2) := by decide +kernel
theorem dX11_feed_53 : decode cX11_feed 53 = .ok (.iload 4, 2) := by decide +kernel
theorem dX11_feed_55 : decode cX11_feed 55 = .ok (.imul, 1) := by decide +kernel
theorem dX11_feed_56 : decode cX11_feed 56 = .ok (.lshr, 1) := by decide +kernel
theorem dX11_feed_57 : decode cX11_feed 57 = .ok (.ldc2_w 81, 3) := by decide +kernel
theorem dX11_feed_60 : decode cX11_feed 60 = .ok (.land, 1) := by decide +kernel
theorem dX11_feed_61 : decode cX11_feed 61 = .ok (.l2i, 1) := by decide +kernel
theorem dX11_feed_62 : decode cX11_feed 62 = .ok (.iastore, 1) := by decide +kernel
theorem dX11_feed_63 : decode cX11_feed 63 = .ok (.aload_n 0, 1) := by decide +kernel
theorem dX11_feed_64 : decode cX11_feed 64 = .ok (.dup, 1) := by decide +kernel
theorem dX11_feed_65 : decode cX11_feed 65 = .ok (.getfield 76, 3) := by decide +kernel
theorem dX11_feed_68 : decode cX11_feed 68 = .ok (.iconst 1, 1) := by decide +kernel
theorem dX11_feed_69 : decode cX11_feed 69 = .ok (.iadd, 1) := by decide +kernel
theorem dX11_feed_70 : decode cX11_feed 70 = .ok (.putfield 76, 3) := by decide +kernel
theorem dX11_feed_73 : decode cX11_feed 73 = .ok (.iinc 4 (-1), 3) := by decide +kernel
theorem dX11_feed_76 : decode cX11_feed 76 = .ok (.goto (-39), 3) := by decide +kernel
theorem dX11_feed_79 : decode cX11_feed 79 = .ok (.aload_n 0, 1) := by decide +kernel
theorem dX11_feed_80 : decode cX11_feed 80 = .ok (.getfield 76, 3) := by decide +kernel
theorem dX11_feed_83 : decode cX11_feed 83 = .ok (.i2l, 1) := by decide +kernel
theorem dX11_feed_84 : decode cX11_feed 84 = .ok (.lreturn, 1) := by decide +kernel
set_option maxRecDepth 20000 in
theorem ggX11_isLetter_X11_in : GoodIn wsX11_isLetter wsX11_in := goodIn_r _ [6] (by decide +kernel) (by decide +kernel)
set_option maxRecDepth 20000 in
theorem gX11_isLetter_X11_in : GoodIn wsX11_isLetter (va_wsS RX11 46 yX11_in wsX11_in) := goodIn_app (goodIn_of _ (by decide +kernel)) ggX11_isLetter_X11_in
theorem dX11_isLetter_0 : decode cX11_isLetter 0 = .ok (.iload_n 0, 1) := by decide +kernel
theorem dX11_isLetter_1 : decode cX11_isLetter 1 = .ok (.i2l, 1) := by decide +kernel
theorem dX11_isLetter_2 : decode cX11_isLetter 2 = .ok (.ldc2_w 83, 3) := by decide +kernel
theorem dX11_isLetter_5 : decode cX11_isLetter 5 = .ok (.ldc2_w 85, 3) := by decide +kernel
theorem dX11_isLetter_8 : decode cX11_isLetter 8 = .ok (.invokestatic 46, 3) := by decide +kernel
theorem dX11_isLetter_11 : decode cX11_isLetter 11 = .ok (.ireturn, 1) := by decide +kernel
set_option maxRecDepth 20000 in
theorem ggX11_isFigure_X11_in : GoodIn wsX11_isFigure wsX11_in := goodIn_r _ [6] (by decide +kernel) (by decide +kernel)
set_option maxRecDepth 20000 in
theorem gX11_isFigure_X11_in : GoodIn wsX11_isFigure (va_wsS RX11 46 yX11_in wsX11_in) := goodIn_app (goodIn_of _ (by decide +kernel)) ggX11_isFigure_X11_in
theorem dX11_isFigure_0 : decode cX11_isFigure 0 = .ok (.iload_n 0, 1) := by decide +kernel
theorem dX11_isFigure_1 : decode cX11_isFigure 1 = .ok (.i2l, 1) := by decide +kernel
theorem dX11_isFigure_2 : decode cX11_isFigure 2 = .ok (.ldc2_w 87, 3) := by decide +kernel
theorem dX11_isFigure_5 : decode cX11_isFigure 5 = .ok (.ldc2_w 89, 3) := by decide +kernel
theorem dX11_isFigure_8 : decode cX11_isFigure 8 = .ok (.invokestatic 46, 3) := by decide +kernel
theorem dX11_isFigure_11 : decode cX11_isFigure 11 = .ok (.ireturn, 1) := by decide +kernel
set_option maxRecDepth 20000 in
theorem ggX11_goOn_X11_isLetter : GoodIn wsX11_goOn wsX11_isLetter := goodIn_r _ [10, 11, 12, 13, 14, 9, 15] (by decide +kernel) (by decide +kernel)
set_option maxRecDepth 20000 in
theorem gX11_goOn_X11_isLetter : GoodIn wsX11_goOn (va_wsS RX11 103 yX11_isLetter wsX11_isLetter) := goodIn_app (goodIn_of _ (by decide +kernel)) ggX11_goOn_X11_isLetter
set_option maxRecDepth 20000 in
theorem ggX11_goOn_X11_isFigure : GoodIn wsX11_goOn wsX11_isFigure := goodIn_r _ [18, 19, 20, 13, 14, 9, 15] (by decide +kernel) (by decide +kernel)
set_option maxRecDepth 20000 in
theorem gX11_goOn_X11_isFigure : GoodIn wsX11_goOn (va_wsS RX11 106 yX11_isFigure wsX11_isFigure) := goodIn_app (goodIn_of _ (by decide +kernel)) ggX11_goOn_X11_isFigure
theorem dX11_goOn_0 : decode cX11_goOn 0 = .ok (.aload_n 0, 1) := by decide +kernel
theorem dX11_goOn_1 : decode cX11_goOn 1 = .ok (.getfield 91, 3) := by decide +kernel
theorem dX11_goOn_4 : decode cX11_goOn 4 = .ok (.aload_n 0, 1) := by decide +kernel
theorem dX11_goOn_5 : decode cX11_goOn 5 = .ok (.getfield 76, 3) := by decide +kernel
theorem dX11_goOn_8 : decode cX11_goOn 8 = .ok (.if_icmp .ge 44, 3) := by decide +kernel
theorem dX11_goOn_11 : decode cX11_goOn 11 = .ok (.aload_n 0, 1) := by decide +kernel
theorem dX11_goOn_12 : decode cX11_goOn 12 = .ok (.getfield 26, 3) := by decide +kernel
theorem dX11_goOn_15 : decode cX11_goOn 15 = .ok (.aload_n 0, 1) := by decide +kernel
theorem dX11_goOn_16 : decode cX11_goOn 16 = .ok (.getfield 91, 3) := by decide +kernel
theorem dX11_goOn_19 : decode cX11_goOn 19 = .ok (.iaload, 1) := by decide +kernel
theorem dX11_goOn_20 : decode cX11_goOn 20 = .ok (.bipush 32, 2) := by decide +kernel
theorem dX11_goOn_22 : decode cX11_goOn 22 = .ok (.if_icmp .eq 17, 3) := by decide +kernel
theorem dX11_goOn_25 : decode cX11_goOn 25 = .ok (.aload_n 0, 1) := by decide +kernel
theorem dX11_goOn_26 : decode cX11_goOn 26 = .ok (.getfield 26, 3) := by decide +kernel
theorem dX11_goOn_29 : decode cX11_goOn 29 = .ok (.aload_n 0, 1) := by decide +kernel
theorem dX11_goOn_30 : decode cX11_goOn 30 = .ok (.getfield 91, 3) := by decide +kernel
theorem dX11_goOn_33 : decode cX11_goOn 33 = .ok (.iaload, 1) := by decide +kernel
theorem dX11_goOn_34 : decode cX11_goOn 34 = .ok (.bipush 10, 2) := by decide +kernel
theorem dX11_goOn_36 : decode cX11_goOn 36 = .ok (.if_icmp .ne 16, 3) := by decide +kernel
theorem dX11_goOn_39 : decode cX11_goOn 39 = .ok (.aload_n 0, 1) := by decide +kernel
theorem dX11_goOn_40 : decode cX11_goOn 40 = .ok (.dup, 1) := by decide +kernel
theorem dX11_goOn_41 : decode cX11_goOn 41 = .ok (.getfield 91, 3) := by decide +kernel
theorem dX11_goOn_44 : decode cX11_goOn 44 = .ok (.iconst 1, 1) := by decide +kernel
theorem dX11_goOn_45 : decode cX11_goOn 45 = .ok (.iadd, 1) := by decide +kernel
theorem dX11_goOn_46 : decode cX11_goOn 46 = .ok (.putfield 91, 3) := by decide +kernel
theorem dX11_goOn_49 : decode cX11_goOn 49 = .ok (.goto (-49), 3) := by decide +kernel
theorem dX11_goOn_52 : decode cX11_goOn 52 = .ok (.aload_n 0, 1) := by decide +kernel
theorem dX11_goOn_53 : decode cX11_goOn 53 = .ok (.aload_n 0, 1) := by decide +kernel
theorem dX11_goOn_54 : decode cX11_goOn 54 = .ok (.getfield 91, 3) := by decide +kernel
theorem dX11_goOn_57 : decode cX11_goOn 57 = .ok (.putfield 94, 3) := by decide +kernel
theorem dX11_goOn_60 : decode cX11_goOn 60 = .ok (.aload_n 0, 1) := by decide +kernel
theorem dX11_goOn_61 : decode cX11_goOn 61 = .ok (.iconst 0, 1) := by decide +kernel
theorem dX11_goOn_62 : decode cX11_goOn 62 = .ok (.putfield 97, 3) := by decide +kernel
theorem dX11_goOn_65 : decode cX11_goOn 65 = .ok (.aload_n 0, 1) := by decide +kernel
theorem dX11_goOn_66 : decode cX11_goOn 66 = .ok (.getfield 91, 3) := by decide +kernel
theorem dX11_goOn_69 : decode cX11_goOn 69 = .ok (.aload_n 0, 1) := by decide +kernel
theorem dX11_goOn_70 : decode cX11_goOn 70 = .ok (.getfield 76, 3) := by decide +kernel
theorem dX11_goOn_73 : decode cX11_goOn 73 = .ok (.if_icmp .ne 11, 3) := by decide +kernel
theorem dX11_goOn_76 : decode cX11_goOn 76 = .ok (.aload_n 0, 1) := by decide +kernel
theorem dX11_goOn_77 : decode cX11_goOn 77 = .ok (.iconst 0, 1) := by decide +kernel
theorem dX11_goOn_78 : decode cX11_goOn 78 = .ok (.putfield 100, 3) := by decide +kernel
theorem dX11_goOn_81 : decode cX11_goOn 81 = .ok (.goto 215, 3) := by decide +kernel
theorem dX11_goOn_84 : decode cX11_goOn 84 = .ok (.aload_n 0, 1) := by decide +kernel
theorem dX11_goOn_85 : decode cX11_goOn 85 = .ok (.getfield 26, 3) := by decide +kernel
theorem dX11_goOn_88 : decode cX11_goOn 88 = .ok (.aload_n 0, 1) := by decide +kernel
theorem dX11_goOn_89 : decode cX11_goOn 89 = .ok (.getfield 91, 3) := by decide +kernel
theorem dX11_goOn_92 : decode cX11_goOn 92 = .ok (.iaload, 1) := by decide +kernel
theorem dX11_goOn_93 : decode cX11_goOn 93 = .ok (.invokestatic 103, 3) := by decide +kernel
theorem dX11_goOn_96 : decode cX11_goOn 96 = .ok (.ifCond .eq 47, 3) := by decide +kernel
theorem dX11_goOn_99 : decode cX11_goOn 99 = .ok (.aload_n 0, 1) := by decide +kernel
theorem dX11_goOn_100 : decode cX11_goOn 100 = .ok (.iconst 1, 1) := by decide +kernel
theorem dX11_goOn_101 : decode cX11_goOn 101 = .ok (.putfield 100, 3) := by decide +kernel
theorem dX11_goOn_104 : decode cX11_goOn 104 = .ok (.aload_n 0, 1) := by decide +kernel
theorem dX11_goOn_105 : decode cX11_goOn 105 = .ok (.getfield 91, 3) := by decide +kernel
theorem dX11_goOn_108 : decode cX11_goOn 108 = .ok (.aload_n 0, 1) := by decide +kernel
theorem dX11_goOn_109 : decode cX11_goOn 109 = .ok (.getfield 76, 3) := by decide +kernel
theorem dX11_goOn_112 : decode cX11_goOn 112 = .ok (.if_icmp .ge 184, 3) := by decide +kernel
theorem dX11_goOn_115 : decode cX11_goOn 115 = .ok (.aload_n 0, 1) := by decide +kernel
theorem dX11_goOn_116 : decode cX11_goOn 116 = .ok (.getfield 26, 3) := by decide +kernel
theorem dX11_goOn_119 : decode cX11_goOn 119 = .ok (.aload_n 0, 1) := by decide +kernel
theorem dX11_goOn_120 : decode cX11_goOn 120 = .ok (.getfield 91, 3) := by decide +kernel
theorem dX11_goOn_123 : decode cX11_goOn 123 = .ok (.iaload, 1) := by decide +kernel
theorem dX11_goOn_124 : decode cX11_goOn 124 = .ok (.invokestatic 103, 3) := by decide +kernel
theorem dX11_goOn_127 : decode cX11_goOn 127 = .ok (.ifCond .eq 169, 3) := by decide +kernel
theorem dX11_goOn_130 : decode cX11_goOn 130 = .ok (.aload_n 0, 1) := by decide +kernel
theorem dX11_goOn_131 : decode cX11_goOn 131 = .ok (.dup, 1) := by decide +kernel
theorem dX11_goOn_132 : decode cX11_goOn 132 = .ok (.getfield 91, 3) := by decide +kernel
theorem dX11_goOn_135 : decode cX11_goOn 135 = .ok (.iconst 1, 1) := by decide +kernel
theorem dX11_goOn_136 : decode cX11_goOn 136 = .ok (.iadd, 1) := by decide +kernel
theorem dX11_goOn_137 : decode cX11_goOn 137 = .ok (.putfield 91, 3) := by decide +kernel
theorem dX11_goOn_140 : decode cX11_goOn 140 = .ok (.goto (-36), 3) := by decide +kernel
theorem dX11_goOn_143 : decode cX11_goOn 143 = .ok (.aload_n 0, 1) := by decide +kernel
theorem dX11_goOn_144 : decode cX11_goOn 144 = .ok (.getfield 26, 3) := by decide +kernel
theorem dX11_goOn_147 : decode cX11_goOn 147 = .ok (.aload_n 0, 1) := by decide +kernel
theorem dX11_goOn_148 : decode cX11_goOn 148 = .ok (.getfield 91, 3) := by decide +kernel
theorem dX11_goOn_151 : decode cX11_goOn 151 = .ok (.iaload, 1) := by decide +kernel
theorem dX11_goOn_152 : decode cX11_goOn 152 = .ok (.invokestatic 106, 3) := by decide +kernel
theorem dX11_goOn_155 : decode cX11_goOn 155 = .ok (.ifCond .eq 108, 3) := by decide +kernel
theorem dX11_goOn_158 : decode cX11_goOn 158 = .ok (.aload_n 0, 1) := by decide +kernel
theorem dX11_goOn_159 : decode cX11_goOn 159 = .ok (.getfield 91, 3) := by decide +kernel
theorem dX11_goOn_162 : decode cX11_goOn 162 = .ok (.aload_n 0, 1) := by decide +kernel
theorem dX11_goOn_163 : decode cX11_goOn 163 = .ok (.getfield 76, 3) := by decide +kernel
theorem dX11_goOn_166 : decode cX11_goOn 166 = .ok (.if_icmp .ge 72, 3) := by decide +kernel
theorem dX11_goOn_169 : decode cX11_goOn 169 = .ok (.aload_n 0, 1) := by decide +kernel
theorem dX11_goOn_170 : decode cX11_goOn 170 = .ok (.getfield 26, 3) := by decide +kernel
theorem dX11_goOn_173 : decode cX11_goOn 173 = .ok (.aload_n 0, 1) := by decide +kernel
theorem dX11_goOn_174 : decode cX11_goOn 174 = .ok (.getfield 91, 3) := by decide +kernel
theorem dX11_goOn_177 : decode cX11_goOn 177 = .ok (.iaload, 1) := by decide +kernel
theorem dX11_goOn_178 : decode cX11_goOn 178 = .ok (.invokestatic 106, 3) := by decide +kernel
theorem dX11_goOn_181 : decode cX11_goOn 181 = .ok (.ifCond .eq 57, 3) := by decide +kernel
theorem dX11_goOn_184 : decode cX11_goOn 184 = .ok (.aload_n 0, 1) := by decide +kernel
theorem dX11_goOn_185 : decode cX11_goOn 185 = .ok (.aload_n 0, 1) := by decide +kernel
theorem dX11_goOn_186 : decode cX11_goOn 186 = .ok (.getfield 97, 3) := by decide +kernel
theorem dX11_goOn_189 : decode cX11_goOn 189 = .ok (.sipush 9999, 3) := by decide +kernel
theorem dX11_goOn_192 : decode cX11_goOn 192 = .ok (.if_icmp .le 10, 3) := by decide +kernel
theorem dX11_goOn_195 : decode cX11_goOn 195 = .ok (.aload_n 0, 1) := by decide +kernel
theorem dX11_goOn_196 : decode cX11_goOn 196 = .ok (.getfield 97, 3) := by decide +kernel
theorem dX11_goOn_199 : decode cX11_goOn 199 = .ok (.goto 23, 3) := by decide +kernel
theorem dX11_goOn_202 : decode cX11_goOn 202 = .ok (.bipush 10, 2) := by decide +kernel
theorem dX11_goOn_204 : decode cX11_goOn 204 = .ok (.aload_n 0, 1) := by decide +kernel
theorem dX11_goOn_205 : decode cX11_goOn 205 = .ok (.getfield 97, 3) := by decide +kernel
theorem dX11_goOn_208 : decode cX11_goOn 208 = .ok (.imul, 1) := by decide +kernel
theorem dX11_goOn_209 : decode cX11_goOn 209 = .ok (.aload_n 0, 1) := by decide +kernel
theorem dX11_goOn_210 : decode cX11_goOn 210 = .ok (.getfield 26, 3) := by decide +kernel
theorem dX11_goOn_213 : decode cX11_goOn 213 = .ok (.aload_n 0, 1) := by decide +kernel
theorem dX11_goOn_214 : decode cX11_goOn 214 = .ok (.getfield 91, 3) := by decide +kernel
theorem dX11_goOn_217 : decode cX11_goOn 217 = .ok (.iaload, 1) := by decide +kernel
theorem dX11_goOn_218 : decode cX11_goOn 218 = .ok (.iadd, 1) := by decide +kernel
theorem dX11_goOn_219 : decode cX11_goOn 219 = .ok (.bipush 48, 2) := by decide +kernel
theorem dX11_goOn_221 : decode cX11_goOn 221 = .ok (.isub, 1) := by decide +kernel
theorem dX11_goOn_222 : decode cX11_goOn 222 = .ok (.putfield 97, 3) := by decide +kernel
theorem dX11_goOn_225 : decode cX11_goOn 225 = .ok (.aload_n 0, 1) := by decide +kernel
theorem dX11_goOn_226 : decode cX11_goOn 226 = .ok (.dup, 1) := by decide +kernel
theorem dX11_goOn_227 : decode cX11_goOn 227 = .ok (.getfield 91, 3) := by decide +kernel
theorem dX11_goOn_230 : decode cX11_goOn 230 = .ok (.iconst 1, 1) := by decide +kernel
theorem dX11_goOn_231 : decode cX11_goOn 231 = .ok (.iadd, 1) := by decide +kernel
theorem dX11_goOn_232 : decode cX11_goOn 232 = .ok (.putfield 91, 3) := by decide +kernel
theorem dX11_goOn_235 : decode cX11_goOn 235 = .ok (.goto (-77), 3) := by decide +kernel
theorem dX11_goOn_238 : decode cX11_goOn 238 = .ok (.aload_n 0, 1) := by decide +kernel
theorem dX11_goOn_239 : decode cX11_goOn 239 = .ok (.aload_n 0, 1) := by decide +kernel
theorem dX11_goOn_240 : decode cX11_goOn 240 = .ok (.getfield 91, 3) := by decide +kernel
theorem dX11_goOn_243 : decode cX11_goOn 243 = .ok (.aload_n 0, 1) := by decide +kernel
theorem dX11_goOn_244 : decode cX11_goOn 244 = .ok (.getfield 94, 3) := by decide +kernel
theorem dX11_goOn_247 : decode cX11_goOn 247 = .ok (.isub, 1) := by decide +kernel
theorem dX11_goOn_248 : decode cX11_goOn 248 = .ok (.iconst 3, 1) := by decide +kernel
theorem dX11_goOn_249 : decode cX11_goOn 249 = .ok (.if_icmp .le 7, 3) := by decide +kernel
theorem dX11_goOn_252 : decode cX11_goOn 252 = .ok (.iconst 4, 1) := by decide +kernel
theorem dX11_goOn_253 : decode cX11_goOn 253 = .ok (.goto 4, 3) := by decide +kernel
theorem dX11_goOn_256 : decode cX11_goOn 256 = .ok (.iconst 2, 1) := by decide +kernel
theorem dX11_goOn_257 : decode cX11_goOn 257 = .ok (.putfield 100, 3) := by decide +kernel
theorem dX11_goOn_260 : decode cX11_goOn 260 = .ok (.goto 36, 3) := by decide +kernel
theorem dX11_goOn_263 : decode cX11_goOn 263 = .ok (.aload_n 0, 1) := by decide +kernel
theorem dX11_goOn_264 : decode cX11_goOn 264 = .ok (.aload_n 0, 1) := by decide +kernel
theorem dX11_goOn_265 : decode cX11_goOn 265 = .ok (.getfield 26, 3) := by decide +kernel
theorem dX11_goOn_268 : decode cX11_goOn 268 = .ok (.aload_n 0, 1) := by decide +kernel
theorem dX11_goOn_269 : decode cX11_goOn 269 = .ok (.getfield 91, 3) := by decide +kernel
theorem dX11_goOn_272 : decode cX11_goOn 272 = .ok (.iaload, 1) := by decide +kernel
theorem dX11_goOn_273 : decode cX11_goOn 273 = .ok (.bipush 59, 2) := by decide +kernel
theorem dX11_goOn_275 : decode cX11_goOn 275 = .ok (.if_icmp .ne 7, 3) := by decide +kernel
theorem dX11_goOn_278 : decode cX11_goOn 278 = .ok (.iconst 3, 1) := by decide +kernel
theorem dX11_goOn_279 : decode cX11_goOn 279 = .ok (.goto 4, 3) := by decide +kernel
theorem dX11_goOn_282 : decode cX11_goOn 282 = .ok (.iconst 4, 1) := by decide +kernel
theorem dX11_goOn_283 : decode cX11_goOn 283 = .ok (.putfield 100, 3) := by decide +kernel
theorem dX11_goOn_286 : decode cX11_goOn 286 = .ok (.aload_n 0, 1) := by decide +kernel
theorem dX11_goOn_287 : decode cX11_goOn 287 = .ok (.dup, 1) := by decide +kernel
theorem dX11_goOn_288 : decode cX11_goOn 288 = .ok (.getfield 91, 3) := by decide +kernel
theorem dX11_goOn_291 : decode cX11_goOn 291 = .ok (.iconst 1, 1) := by decide +kernel
theorem dX11_goOn_292 : decode cX11_goOn 292 = .ok (.iadd, 1) := by decide +kernel
theorem dX11_goOn_293 : decode cX11_goOn 293 = .ok (.putfield 91, 3) := by decide +kernel
theorem dX11_goOn_296 : decode cX11_goOn 296 = .ok (.return_, 1) := by decide +kernel
theorem dX11_isName_0 : decode cX11_isName 0 = .ok (.aload_n 0, 1) := by decide +kernel
theorem dX11_isName_1 : decode cX11_isName 1 = .ok (.getfield 100, 3) := by decide +kernel
theorem dX11_isName_4 : decode cX11_isName 4 = .ok (.iconst 1, 1) := by decide +kernel
theorem dX11_isName_5 : decode cX11_isName 5 = .ok (.if_icmp .ne 20, 3) := by decide +kernel
theorem dX11_isName_8 : decode cX11_isName 8 = .ok (.aload_n 0, 1) := by decide +kernel
theorem dX11_isName_9 : decode cX11_isName 9 = .ok (.getfield 91, 3) := by decide +kernel
theorem dX11_isName_12 : decode cX11_isName 12 = .ok (.aload_n 0, 1) := by decide +kernel
theorem dX11_isName_13 : decode cX11_isName 13 = .ok (.getfield 94, 3) := by decide +kernel
theorem dX11_isName_16 : decode cX11_isName 16 = .ok (.isub, 1) := by decide +kernel
theorem dX11_isName_17 : decode cX11_isName 17 = .ok (.iload_n 1, 1) := by decide +kernel
theorem dX11_isName_18 : decode cX11_isName 18 = .ok (.if_icmp .ne 7, 3) := by decide +kernel
theorem dX11_isName_21 : decode cX11_isName 21 = .ok (.iconst 1, 1) := by decide +kernel
theorem dX11_isName_22 : decode cX11_isName 22 = .ok (.goto 4, 3) := by decide +kernel
theorem dX11_isName_25 : decode cX11_isName 25 = .ok (.iconst 0, 1) := by decide +kernel
theorem dX11_isName_26 : decode cX11_isName 26 = .ok (.istore 8, 2) := by decide +kernel
theorem dX11_isName_28 : decode cX11_isName 28 = .ok (.iconst 0, 1) := by decide +kernel
theorem dX11_isName_29 : decode cX11_isName 29 = .ok (.istore 9, 2) := by decide +kernel
theorem dX11_isName_31 : decode cX11_isName 31 = .ok (.iload 9, 2) := by decide +kernel
theorem dX11_isName_33 : decode cX11_isName 33 = .ok (.iload_n 1, 1) := by decide +kernel
theorem dX11_isName_34 : decode cX11_isName 34 = .ok (.if_icmp .ge 90, 3) := by decide +kernel
theorem dX11_isName_37 : decode cX11_isName 37 = .ok (.iload 8, 2) := by decide +kernel
theorem dX11_isName_39 : decode cX11_isName 39 = .ok (.ifCond .eq 85, 3) := by decide +kernel
theorem dX11_isName_42 : decode cX11_isName 42 = .ok (.aload_n 0, 1) := by decide +kernel
theorem dX11_isName_43 : decode cX11_isName 43 = .ok (.getfield 26, 3) := by decide +kernel
theorem dX11_isName_46 : decode cX11_isName 46 = .ok (.aload_n 0, 1) := by decide +kernel
theorem dX11_isName_47 : decode cX11_isName 47 = .ok (.getfield 94, 3) := by decide +kernel
theorem dX11_isName_50 : decode cX11_isName 50 = .ok (.iload 9, 2) := by decide +kernel
theorem dX11_isName_52 : decode cX11_isName 52 = .ok (.iadd, 1) := by decide +kernel
theorem dX11_isName_53 : decode cX11_isName 53 = .ok (.iaload, 1) := by decide +kernel
theorem dX11_isName_54 : decode cX11_isName 54 = .ok (.iload 9, 2) := by decide +kernel
theorem dX11_isName_56 : decode cX11_isName 56 = .ok (.ifCond .ne 7, 3) := by decide +kernel
theorem dX11_isName_59 : decode cX11_isName 59 = .ok (.iload_n 2, 1) := by decide +kernel
theorem dX11_isName_60 : decode cX11_isName 60 = .ok (.goto 48, 3) := by decide +kernel
theorem dX11_isName_63 : decode cX11_isName 63 = .ok (.iload 9, 2) := by decide +kernel
theorem dX11_isName_65 : decode cX11_isName 65 = .ok (.iconst 1, 1) := by decide +kernel
theorem dX11_isName_66 : decode cX11_isName 66 = .ok (.if_icmp .ne 7, 3) := by decide +kernel
theorem dX11_isName_69 : decode cX11_isName 69 = .ok (.iload_n 3, 1) := by decide +kernel
theorem dX11_isName_70 : decode cX11_isName 70 = .ok (.goto 38, 3) := by decide +kernel
theorem dX11_isName_73 : decode cX11_isName 73 = .ok (.iload 9, 2) := by decide +kernel
theorem dX11_isName_75 : decode cX11_isName 75 = .ok (.iconst 2, 1) := by decide +kernel
theorem dX11_isName_76 : decode cX11_isName 76 = .ok (.if_icmp .ne 8, 3) := by decide +kernel
theorem dX11_isName_79 : decode cX11_isName 79 = .ok (.iload 4, 2) := by decide +kernel
theorem dX11_isName_81 : decode cX11_isName 81 = .ok (.goto 27, 3) := by decide +kernel
theorem dX11_isName_84 : decode cX11_isName 84 = .ok (.iload 9, 2) := by decide +kernel
theorem dX11_isName_86 : decode cX11_isName 86 = .ok (.iconst 3, 1) := by decide +kernel
theorem dX11_isName_87 : decode cX11_isName 87 = .ok (.if_icmp .ne 8, 3) := by decide +kernel
theorem dX11_isName_90 : decode cX11_isName 90 = .ok (.iload 5, 2) := by decide +kernel
theorem dX11_isName_92 : decode cX11_isName 92 = .ok (.goto 16, 3) := by decide +kernel
theorem dX11_isName_95 : decode cX11_isName 95 = .ok (.iload 9, 2) := by decide +kernel
theorem dX11_isName_97 : decode cX11_isName 97 = .ok (.iconst 4, 1) := by decide +kernel
theorem dX11_isName_98 : decode cX11_isName 98 = .ok (.if_icmp .ne 8, 3) := by decide +kernel
theorem dX11_isName_101 : decode cX11_isName 101 = .ok (.iload 6, 2) := by decide +kernel
theorem dX11_isName_103 : decode cX11_isName 103 = .ok (.goto 5, 3) := by decide +kernel
theorem dX11_isName_106 : decode cX11_isName 106 = .ok (.iload 7, 2) := by decide +kernel
theorem dX11_isName_108 : decode cX11_isName 108 = .ok (.if_icmp .ne 7, 3) := by decide +kernel
theorem dX11_isName_111 : decode cX11_isName 111 = .ok (.iconst 1, 1) := by decide +kernel
theorem dX11_isName_112 : decode cX11_isName 112 = .ok (.goto 4, 3) := by decide +kernel
theorem dX11_isName_115 : decode cX11_isName 115 = .ok (.iconst 0, 1) := by decide +kernel
theorem dX11_isName_116 : decode cX11_isName 116 = .ok (.istore 8, 2) := by decide +kernel
theorem dX11_isName_118 : decode cX11_isName 118 = .ok (.iinc 9 1, 3) := by decide +kernel
theorem dX11_isName_121 : decode cX11_isName 121 = .ok (.goto (-90), 3) := by decide +kernel
theorem dX11_isName_124 : decode cX11_isName 124 = .ok (.iload 8, 2) := by decide +kernel
theorem dX11_isName_126 : decode cX11_isName 126 = .ok (.ireturn, 1) := by decide +kernel
theorem dX11_want_0 : decode cX11_want 0 = .ok (.iload_n 1, 1) := by decide +kernel
theorem dX11_want_1 : decode cX11_want 1 = .ok (.ifCond .ne 23, 3) := by decide +kernel
theorem dX11_want_4 : decode cX11_want 4 = .ok (.aload_n 0, 1) := by decide +kernel
theorem dX11_want_5 : decode cX11_want 5 = .ok (.getfield 109, 3) := by decide +kernel
theorem dX11_want_8 : decode cX11_want 8 = .ok (.ifCond .ne 16, 3) := by decide +kernel
theorem dX11_want_11 : decode cX11_want 11 = .ok (.aload_n 0, 1) := by decide +kernel
theorem dX11_want_12 : decode cX11_want 12 = .ok (.iload_n 2, 1) := by decide +kernel
theorem dX11_want_13 : decode cX11_want 13 = .ok (.putfield 109, 3) := by decide +kernel
theorem dX11_want_16 : decode cX11_want 16 = .ok (.aload_n 0, 1) := by decide +kernel
theorem dX11_want_17 : decode cX11_want 17 = .ok (.aload_n 0, 1) := by decide +kernel
theorem dX11_want_18 : decode cX11_want 18 = .ok (.getfield 94, 3) := by decide +kernel
theorem dX11_want_21 : decode cX11_want 21 = .ok (.putfield 112, 3) := by decide +kernel
theorem dX11_want_24 : decode cX11_want 24 = .ok (.aload_n 0, 1) := by decide +kernel
theorem dX11_want_25 : decode cX11_want 25 = .ok (.getfield 109, 3) := by decide +kernel
theorem dX11_want_28 : decode cX11_want 28 = .ok (.ifCond .ne 7, 3) := by decide +kernel
theorem dX11_want_31 : decode cX11_want 31 = .ok (.iconst 1, 1) := by decide +kernel
theorem dX11_want_32 : decode cX11_want 32 = .ok (.goto 4, 3) := by decide +kernel
theorem dX11_want_35 : decode cX11_want 35 = .ok (.iconst 0, 1) := by decide +kernel
theorem dX11_want_36 : decode cX11_want 36 = .ok (.ireturn, 1) := by decide +kernel
set_option maxRecDepth 20000 in
theorem ggX11_takeNumber_X11_goOn : GoodIn wsX11_takeNumber wsX11_goOn := goodIn_r _ [8, 9, 10, 11, 12, 3, 2, 13, 14, 7, 15, 16, 17, 18, 19, 20, 21, 22, 23, 24, 25, 31, 32, 33, 34, 35, 36, 37, 38, 39, 40, 41, 42, 43, 44, 45, 46, 47, 48, 49, 50] (by decide +kernel) (by decide +kernel)
set_option maxRecDepth 20000 in
theorem gX11_takeNumber_X11_goOn : GoodIn wsX11_takeNumber (wsV RX11 115 RX11 yX11_goOn wsX11_goOn) := goodIn_app (goodIn_of _ (by decide +kernel)) ggX11_takeNumber_X11_goOn
set_option maxRecDepth 20000 in
theorem ggX11_takeNumber_X11_want : GoodIn wsX11_takeNumber wsX11_want := goodIn_r _ [29, 1, 12, 30, 31, 32, 33, 34, 35, 36, 37, 38, 39, 40, 41, 42, 43, 44, 45, 46, 47, 48, 49, 50] (by decide +kernel) (by decide +kernel)
set_option maxRecDepth 20000 in
theorem gX11_takeNumber_X11_want : GoodIn wsX11_takeNumber (wsV RX11 118 RX11 yX11_want wsX11_want) := goodIn_app (goodIn_of _ (by decide +kernel)) ggX11_takeNumber_X11_want
set_option maxRecDepth 20000 in
theorem ggX11_takeNumber_X11_in : GoodIn wsX11_takeNumber wsX11_in := goodIn_r _ [20] (by decide +kernel) (by decide +kernel)
set_option maxRecDepth 20000 in
theorem gX11_takeNumber_X11_in : GoodIn wsX11_takeNumber (va_wsS RX11 46 yX11_in wsX11_in) := goodIn_app (goodIn_of _ (by decide +kernel)) ggX11_takeNumber_X11_in
theorem dX11_takeNumber_0 : decode cX11_takeNumber 0 = .ok (.aload_n 0, 1) := by decide +kernel
theorem dX11_takeNumber_1 : decode cX11_takeNumber 1 = .ok (.getfield 109, 3) := by decide +kernel
theorem dX11_takeNumber_4 : decode cX11_takeNumber 4 = .ok (.ifCond .le 5, 3) := by decide +kernel
theorem dX11_takeNumber_7 : decode cX11_takeNumber 7 = .ok (.iconst 0, 1) := by decide +kernel
theorem dX11_takeNumber_8 : decode cX11_takeNumber 8 = .ok (.ireturn, 1) := by decide +kernel
theorem dX11_takeNumber_9 : decode cX11_takeNumber 9 = .ok (.aload_n 0, 1) := by decide +kernel
theorem dX11_takeNumber_10 : decode cX11_takeNumber 10 = .ok (.invokevirtual 115, 3) := by decide +kernel
theorem dX11_takeNumber_13 : decode cX11_takeNumber 13 = .ok (.aload_n 0, 1) := by decide +kernel
theorem dX11_takeNumber_14 : decode cX11_takeNumber 14 = .ok (.aload_n 0, 1) := by decide +kernel
theorem dX11_takeNumber_15 : decode cX11_takeNumber 15 = .ok (.getfield 100, 3) := by decide +kernel
theorem dX11_takeNumber_18 : decode cX11_takeNumber 18 = .ok (.iconst 2, 1) := by decide +kernel
theorem dX11_takeNumber_19 : decode cX11_takeNumber 19 = .ok (.if_icmp .ne 7, 3) := by decide +kernel
theorem dX11_takeNumber_22 : decode cX11_takeNumber 22 = .ok (.iconst 1, 1) := by decide +kernel
theorem dX11_takeNumber_23 : decode cX11_takeNumber 23 = .ok (.goto 4, 3) := by decide +kernel
theorem dX11_takeNumber_26 : decode cX11_takeNumber 26 = .ok (.iconst 0, 1) := by decide +kernel
theorem dX11_takeNumber_27 : decode cX11_takeNumber 27 = .ok (.iconst 1, 1) := by decide +kernel
theorem dX11_takeNumber_28 : decode cX11_takeNumber 28 = .ok (.invokevirtual 118, 3) := by decide +kernel
theorem dX11_takeNumber_31 : decode cX11_takeNumber 31 = .ok (.ifCond .eq 21, 3) := by decide +kernel
theorem dX11_takeNumber_34 : decode cX11_takeNumber 34 = .ok (.aload_n 0, 1) := by decide +kernel
theorem dX11_takeNumber_35 : decode cX11_takeNumber 35 = .ok (.aload_n 0, 1) := by decide +kernel
theorem dX11_takeNumber_36 : decode cX11_takeNumber 36 = .ok (.getfield 97, 3) := by decide +kernel
theorem dX11_takeNumber_39 : decode cX11_takeNumber 39 = .ok (.i2l, 1) := by decide +kernel
theorem dX11_takeNumber_40 : decode cX11_takeNumber 40 = .ok (.iload_n 1, 1) := by decide +kernel
theorem dX11_takeNumber_41 : decode cX11_takeNumber 41 = .ok (.i2l, 1) := by decide +kernel
theorem dX11_takeNumber_42 : decode cX11_takeNumber 42 = .ok (.iload_n 2, 1) := by decide +kernel
theorem dX11_takeNumber_43 : decode cX11_takeNumber 43 = .ok (.i2l, 1) := by decide +kernel
theorem dX11_takeNumber_44 : decode cX11_takeNumber 44 = .ok (.invokestatic 46, 3) := by decide +kernel
theorem dX11_takeNumber_47 : decode cX11_takeNumber 47 = .ok (.iconst 2, 1) := by decide +kernel
theorem dX11_takeNumber_48 : decode cX11_takeNumber 48 = .ok (.invokevirtual 118, 3) := by decide +kernel
theorem dX11_takeNumber_51 : decode cX11_takeNumber 51 = .ok (.istore_n 3, 1) := by decide +kernel
theorem dX11_takeNumber_52 : decode cX11_takeNumber 52 = .ok (.aload_n 0, 1) := by decide +kernel
theorem dX11_takeNumber_53 : decode cX11_takeNumber 53 = .ok (.getfield 97, 3) := by decide +kernel
theorem dX11_takeNumber_56 : decode cX11_takeNumber 56 = .ok (.ireturn, 1) := by decide +kernel
set_option maxRecDepth 20000 in
theorem ggX11_takeSign_X11_goOn : GoodIn wsX11_takeSign wsX11_goOn := goodIn_r _ [7, 8, 9, 10, 11, 12, 2, 13, 14, 6, 15, 16, 17, 18, 19, 20, 21, 22, 23, 24, 25, 31, 32, 33, 34, 35, 36, 37, 38, 39, 40, 41, 42, 43, 44, 45, 46, 47, 48, 49, 50] (by decide +kernel) (by decide +kernel)
set_option maxRecDepth 20000 in
theorem gX11_takeSign_X11_goOn : GoodIn wsX11_takeSign (wsV RX11 115 RX11 yX11_goOn wsX11_goOn) := goodIn_app (goodIn_of _ (by decide +kernel)) ggX11_takeSign_X11_goOn
set_option maxRecDepth 20000 in
theorem ggX11_takeSign_X11_want : GoodIn wsX11_takeSign wsX11_want := goodIn_r _ [29, 1, 11, 30, 31, 32, 33, 34, 35, 36, 37, 38, 39, 40, 41, 42, 43, 44, 45, 46, 47, 48, 49, 50] (by decide +kernel) (by decide +kernel)
set_option maxRecDepth 20000 in
theorem gX11_takeSign_X11_want : GoodIn wsX11_takeSign (wsV RX11 118 RX11 yX11_want wsX11_want) := goodIn_app (goodIn_of _ (by decide +kernel)) ggX11_takeSign_X11_want
theorem dX11_takeSign_0 : decode cX11_takeSign 0 = .ok (.aload_n 0, 1) := by decide +kernel
theorem dX11_takeSign_1 : decode cX11_takeSign 1 = .ok (.getfield 109, 3) := by decide +kernel
theorem dX11_takeSign_4 : decode cX11_takeSign 4 = .ok (.ifCond .ne 26, 3) := by decide +kernel
theorem dX11_takeSign_7 : decode cX11_takeSign 7 = .ok (.aload_n 0, 1) := by decide +kernel
theorem dX11_takeSign_8 : decode cX11_takeSign 8 = .ok (.invokevirtual 115, 3) := by decide +kernel
theorem dX11_takeSign_11 : decode cX11_takeSign 11 = .ok (.aload_n 0, 1) := by decide +kernel
theorem dX11_takeSign_12 : decode cX11_takeSign 12 = .ok (.aload_n 0, 1) := by decide +kernel
theorem dX11_takeSign_13 : decode cX11_takeSign 13 = .ok (.getfield 100, 3) := by decide +kernel
theorem dX11_takeSign_16 : decode cX11_takeSign 16 = .ok (.iconst 3, 1) := by decide +kernel
theorem dX11_takeSign_17 : decode cX11_takeSign 17 = .ok (.if_icmp .ne 7, 3) := by decide +kernel
theorem dX11_takeSign_20 : decode cX11_takeSign 20 = .ok (.iconst 1, 1) := by decide +kernel
theorem dX11_takeSign_21 : decode cX11_takeSign 21 = .ok (.goto 4, 3) := by decide +kernel
theorem dX11_takeSign_24 : decode cX11_takeSign 24 = .ok (.iconst 0, 1) := by decide +kernel
theorem dX11_takeSign_25 : decode cX11_takeSign 25 = .ok (.iconst 1, 1) := by decide +kernel
theorem dX11_takeSign_26 : decode cX11_takeSign 26 = .ok (.invokevirtual 118, 3) := by decide +kernel
theorem dX11_takeSign_29 : decode cX11_takeSign 29 = .ok (.istore_n 1, 1) := by decide +kernel
theorem dX11_takeSign_30 : decode cX11_takeSign 30 = .ok (.return_, 1) := by decide +kernel
set_option maxRecDepth 20000 in
theorem ggX11_takeChoice_X11_goOn : GoodIn wsX11_takeChoice wsX11_goOn := goodIn_r _ [6, 7, 8, 9, 10, 11, 12, 13, 14, 5, 15, 16, 17, 18, 19, 20, 21, 22, 23, 24, 25, 35, 36, 37, 38, 39, 40, 41, 42, 43, 44, 45, 46, 47, 48, 49, 50, 51, 52, 53, 54] (by decide +kernel) (by decide +kernel)
set_option maxRecDepth 20000 in
theorem gX11_takeChoice_X11_goOn : GoodIn wsX11_takeChoice (wsV RX11 115 RX11 yX11_goOn wsX11_goOn) := goodIn_app (goodIn_of _ (by decide +kernel)) ggX11_takeChoice_X11_goOn
set_option maxRecDepth 20000 in
theorem ggX11_takeChoice_X11_isName : GoodIn wsX11_takeChoice wsX11_isName := goodIn_r _ [29, 12, 7, 10, 9, 35, 36, 37, 38, 39, 40, 41, 42, 43, 44, 45, 46, 47, 48, 49, 50, 51, 52, 53, 54] (by decide +kernel) (by decide +kernel)
set_option maxRecDepth 20000 in
theorem gX11_takeChoice_X11_isName : GoodIn wsX11_takeChoice (wsV RX11 122 RX11 yX11_isName wsX11_isName) := goodIn_app (goodIn_of _ (by decide +kernel)) ggX11_takeChoice_X11_isName
set_option maxRecDepth 20000 in
theorem ggX11_takeChoice_X11_want : GoodIn wsX11_takeChoice wsX11_want := goodIn_r _ [33, 1, 10, 34, 35, 36, 37, 38, 39, 40, 41, 42, 43, 44, 45, 46, 47, 48, 49, 50, 51, 52, 53, 54] (by decide +kernel) (by decide +kernel)
set_option maxRecDepth 20000 in
theorem gX11_takeChoice_X11_want : GoodIn wsX11_takeChoice (wsV RX11 118 RX11 yX11_want wsX11_want) := goodIn_app (goodIn_of _ (by decide +kernel)) ggX11_takeChoice_X11_want
theorem dX11_takeChoice_0 : decode cX11_takeChoice 0 = .ok (.aload_n 0, 1) := by decide +kernel
theorem dX11_takeChoice_1 : decode cX11_takeChoice 1 = .ok (.getfield 109, 3) := by decide +kernel
theorem dX11_takeChoice_4 : decode cX11_takeChoice 4 = .ok (.ifCond .le 5, 3) := by decide +kernel
theorem dX11_takeChoice_7 : decode cX11_takeChoice 7 = .ok (.iconst 0, 1) := by decide +kernel
theorem dX11_takeChoice_8 : decode cX11_takeChoice 8 = .ok (.ireturn, 1) := by decide +kernel
theorem dX11_takeChoice_9 : decode cX11_takeChoice 9 = .ok (.aload_n 0, 1) := by decide +kernel
theorem dX11_takeChoice_10 : decode cX11_takeChoice 10 = .ok (.invokevirtual 115, 3) := by decide +kernel
theorem dX11_takeChoice_13 : decode cX11_takeChoice 13 = .ok (.iload_n 1, 1) := by decide +kernel
theorem dX11_takeChoice_14 : decode cX11_takeChoice 14 = .ok (.ifCond .eq 73, 3) := by decide +kernel
theorem dX11_takeChoice_17 : decode cX11_takeChoice 17 = .ok (.aload_n 0, 1) := by decide +kernel
theorem dX11_takeChoice_18 : decode cX11_takeChoice 18 = .ok (.iconst 4, 1) := by decide +kernel
theorem dX11_takeChoice_19 : decode cX11_takeChoice 19 = .ok (.bipush 104, 2) := by decide +kernel
theorem dX11_takeChoice_21 : decode cX11_takeChoice 21 = .ok (.bipush 101, 2) := by decide +kernel
theorem dX11_takeChoice_23 : decode cX11_takeChoice 23 = .ok (.bipush 97, 2) := by decide +kernel
theorem dX11_takeChoice_25 : decode cX11_takeChoice 25 = .ok (.bipush 100, 2) := by decide +kernel
theorem dX11_takeChoice_27 : decode cX11_takeChoice 27 = .ok (.iconst 0, 1) := by decide +kernel
theorem dX11_takeChoice_28 : decode cX11_takeChoice 28 = .ok (.iconst 0, 1) := by decide +kernel
theorem dX11_takeChoice_29 : decode cX11_takeChoice 29 = .ok (.invokevirtual 122, 3) := by decide +kernel
theorem dX11_takeChoice_32 : decode cX11_takeChoice 32 = .ok (.ifCond .eq 7, 3) := by decide +kernel
theorem dX11_takeChoice_35 : decode cX11_takeChoice 35 = .ok (.iconst 0, 1) := by decide +kernel
theorem dX11_takeChoice_36 : decode cX11_takeChoice 36 = .ok (.goto 144, 3) := by decide +kernel
theorem dX11_takeChoice_39 : decode cX11_takeChoice 39 = .ok (.aload_n 0, 1) := by decide +kernel
theorem dX11_takeChoice_40 : decode cX11_takeChoice 40 = .ok (.iconst 4, 1) := by decide +kernel
theorem dX11_takeChoice_41 : decode cX11_takeChoice 41 = .ok (.bipush 102, 2) := by decide +kernel
theorem dX11_takeChoice_43 : decode cX11_takeChoice 43 = .ok (.bipush 108, 2) := by decide +kernel
theorem dX11_takeChoice_45 : decode cX11_takeChoice 45 = .ok (.bipush 97, 2) := by decide +kernel
theorem dX11_takeChoice_47 : decode cX11_takeChoice 47 = .ok (.bipush 116, 2) := by decide +kernel
theorem dX11_takeChoice_49 : decode cX11_takeChoice 49 = .ok (.iconst 0, 1) := by decide +kernel
theorem dX11_takeChoice_50 : decode cX11_takeChoice 50 = .ok (.iconst 0, 1) := by decide +kernel
theorem dX11_takeChoice_51 : decode cX11_takeChoice 51 = .ok (.invokevirtual 122, 3) := by decide +kernel
theorem dX11_takeChoice_54 : decode cX11_takeChoice 54 = .ok (.ifCond .eq 7, 3) := by decide +kernel
theorem dX11_takeChoice_57 : decode cX11_takeChoice 57 = .ok (.iconst 1, 1) := by decide +kernel
theorem dX11_takeChoice_58 : decode cX11_takeChoice 58 = .ok (.goto 122, 3) := by decide +kernel
theorem dX11_takeChoice_61 : decode cX11_takeChoice 61 = .ok (.aload_n 0, 1) := by decide +kernel
theorem dX11_takeChoice_62 : decode cX11_takeChoice 62 = .ok (.iconst 4, 1) := by decide +kernel
theorem dX11_takeChoice_63 : decode cX11_takeChoice 63 = .ok (.bipush 108, 2) := by decide +kernel
theorem dX11_takeChoice_65 : decode cX11_takeChoice 65 = .ok (.bipush 101, 2) := by decide +kernel
theorem dX11_takeChoice_67 : decode cX11_takeChoice 67 = .ok (.bipush 115, 2) := by decide +kernel
theorem dX11_takeChoice_69 : decode cX11_takeChoice 69 = .ok (.bipush 115, 2) := by decide +kernel
theorem dX11_takeChoice_71 : decode cX11_takeChoice 71 = .ok (.iconst 0, 1) := by decide +kernel
theorem dX11_takeChoice_72 : decode cX11_takeChoice 72 = .ok (.iconst 0, 1) := by decide +kernel
theorem dX11_takeChoice_73 : decode cX11_takeChoice 73 = .ok (.invokevirtual 122, 3) := by decide +kernel
theorem dX11_takeChoice_76 : decode cX11_takeChoice 76 = .ok (.ifCond .eq 7, 3) := by decide +kernel
theorem dX11_takeChoice_79 : decode cX11_takeChoice 79 = .ok (.iconst 2, 1) := by decide +kernel
theorem dX11_takeChoice_80 : decode cX11_takeChoice 80 = .ok (.goto 100, 3) := by decide +kernel
theorem dX11_takeChoice_83 : decode cX11_takeChoice 83 = .ok (.iconst (-1), 1) := by decide +kernel
theorem dX11_takeChoice_84 : decode cX11_takeChoice 84 = .ok (.goto 96, 3) := by decide +kernel
theorem dX11_takeChoice_87 : decode cX11_takeChoice 87 = .ok (.aload_n 0, 1) := by decide +kernel
theorem dX11_takeChoice_88 : decode cX11_takeChoice 88 = .ok (.iconst 5, 1) := by decide +kernel
theorem dX11_takeChoice_89 : decode cX11_takeChoice 89 = .ok (.bipush 107, 2) := by decide +kernel
theorem dX11_takeChoice_91 : decode cX11_takeChoice 91 = .ok (.bipush 101, 2) := by decide +kernel
theorem dX11_takeChoice_93 : decode cX11_takeChoice 93 = .ok (.bipush 101, 2) := by decide +kernel
theorem dX11_takeChoice_95 : decode cX11_takeChoice 95 = .ok (.bipush 112, 2) := by decide +kernel
theorem dX11_takeChoice_97 : decode cX11_takeChoice 97 = .ok (.bipush 115, 2) := by decide +kernel
theorem dX11_takeChoice_99 : decode cX11_takeChoice 99 = .ok (.iconst 0, 1) := by decide +kernel
theorem dX11_takeChoice_100 : decode cX11_takeChoice 100 = .ok (.invokevirtual 122, 3) := by decide +kernel
theorem dX11_takeChoice_103 : decode cX11_takeChoice 103 = .ok (.ifCond .eq 7, 3) := by decide +kernel
theorem dX11_takeChoice_106 : decode cX11_takeChoice 106 = .ok (.iconst 0, 1) := by decide +kernel
theorem dX11_takeChoice_107 : decode cX11_takeChoice 107 = .ok (.goto 73, 3) := by decide +kernel
theorem dX11_takeChoice_110 : decode cX11_takeChoice 110 = .ok (.aload_n 0, 1) := by decide +kernel
theorem dX11_takeChoice_111 : decode cX11_takeChoice 111 = .ok (.iconst 4, 1) := by decide +kernel
theorem dX11_takeChoice_112 : decode cX11_takeChoice 112 = .ok (.bipush 104, 2) := by decide +kernel
theorem dX11_takeChoice_114 : decode cX11_takeChoice 114 = .ok (.bipush 97, 2) := by decide +kernel
theorem dX11_takeChoice_116 : decode cX11_takeChoice 116 = .ok (.bipush 108, 2) := by decide +kernel
theorem dX11_takeChoice_118 : decode cX11_takeChoice 118 = .ok (.bipush 102, 2) := by decide +kernel
theorem dX11_takeChoice_120 : decode cX11_takeChoice 120 = .ok (.iconst 0, 1) := by decide +kernel
theorem dX11_takeChoice_121 : decode cX11_takeChoice 121 = .ok (.iconst 0, 1) := by decide +kernel
theorem dX11_takeChoice_122 : decode cX11_takeChoice 122 = .ok (.invokevirtual 122, 3) := by decide +kernel
theorem dX11_takeChoice_125 : decode cX11_takeChoice 125 = .ok (.ifCond .eq 7, 3) := by decide +kernel
theorem dX11_takeChoice_128 : decode cX11_takeChoice 128 = .ok (.iconst 1, 1) := by decide +kernel
theorem dX11_takeChoice_129 : decode cX11_takeChoice 129 = .ok (.goto 51, 3) := by decide +kernel
theorem dX11_takeChoice_132 : decode cX11_takeChoice 132 = .ok (.aload_n 0, 1) := by decide +kernel
theorem dX11_takeChoice_133 : decode cX11_takeChoice 133 = .ok (.iconst 4, 1) := by decide +kernel
theorem dX11_takeChoice_134 : decode cX11_takeChoice 134 = .ok (.bipush 110, 2) := by decide +kernel
theorem dX11_takeChoice_136 : decode cX11_takeChoice 136 = .ok (.bipush 111, 2) := by decide +kernel
theorem dX11_takeChoice_138 : decode cX11_takeChoice 138 = .ok (.bipush 110, 2) := by decide +kernel
theorem dX11_takeChoice_140 : decode cX11_takeChoice 140 = .ok (.bipush 101, 2) := by decide +kernel
theorem dX11_takeChoice_142 : decode cX11_takeChoice 142 = .ok (.iconst 0, 1) := by decide +kernel
theorem dX11_takeChoice_143 : decode cX11_takeChoice 143 = .ok (.iconst 0, 1) := by decide +kernel
theorem dX11_takeChoice_144 : decode cX11_takeChoice 144 = .ok (.invokevirtual 122, 3) := by decide +kernel
theorem dX11_takeChoice_147 : decode cX11_takeChoice 147 = .ok (.ifCond .eq 7, 3) := by decide +kernel
theorem dX11_takeChoice_150 : decode cX11_takeChoice 150 = .ok (.iconst 2, 1) := by decide +kernel
theorem dX11_takeChoice_151 : decode cX11_takeChoice 151 = .ok (.goto 29, 3) := by decide +kernel
theorem dX11_takeChoice_154 : decode cX11_takeChoice 154 = .ok (.aload_n 0, 1) := by decide +kernel
theorem dX11_takeChoice_155 : decode cX11_takeChoice 155 = .ok (.bipush 6, 2) := by decide +kernel
theorem dX11_takeChoice_157 : decode cX11_takeChoice 157 = .ok (.bipush 119, 2) := by decide +kernel
theorem dX11_takeChoice_159 : decode cX11_takeChoice 159 = .ok (.bipush 101, 2) := by decide +kernel
theorem dX11_takeChoice_161 : decode cX11_takeChoice 161 = .ok (.bipush 105, 2) := by decide +kernel
theorem dX11_takeChoice_163 : decode cX11_takeChoice 163 = .ok (.bipush 103, 2) := by decide +kernel
theorem dX11_takeChoice_165 : decode cX11_takeChoice 165 = .ok (.bipush 104, 2) := by decide +kernel
theorem dX11_takeChoice_167 : decode cX11_takeChoice 167 = .ok (.bipush 115, 2) := by decide +kernel
theorem dX11_takeChoice_169 : decode cX11_takeChoice 169 = .ok (.invokevirtual 122, 3) := by decide +kernel
theorem dX11_takeChoice_172 : decode cX11_takeChoice 172 = .ok (.ifCond .eq 7, 3) := by decide +kernel
theorem dX11_takeChoice_175 : decode cX11_takeChoice 175 = .ok (.iconst 3, 1) := by decide +kernel
theorem dX11_takeChoice_176 : decode cX11_takeChoice 176 = .ok (.goto 4, 3) := by decide +kernel
theorem dX11_takeChoice_179 : decode cX11_takeChoice 179 = .ok (.iconst (-1), 1) := by decide +kernel
theorem dX11_takeChoice_180 : decode cX11_takeChoice 180 = .ok (.istore_n 2, 1) := by decide +kernel
theorem dX11_takeChoice_181 : decode cX11_takeChoice 181 = .ok (.aload_n 0, 1) := by decide +kernel
theorem dX11_takeChoice_182 : decode cX11_takeChoice 182 = .ok (.iload_n 2, 1) := by decide +kernel
theorem dX11_takeChoice_183 : decode cX11_takeChoice 183 = .ok (.ifCond .lt 7, 3) := by decide +kernel
theorem dX11_takeChoice_186 : decode cX11_takeChoice 186 = .ok (.iconst 1, 1) := by decide +kernel
theorem dX11_takeChoice_187 : decode cX11_takeChoice 187 = .ok (.goto 4, 3) := by decide +kernel
theorem dX11_takeChoice_190 : decode cX11_takeChoice 190 = .ok (.iconst 0, 1) := by decide +kernel
theorem dX11_takeChoice_191 : decode cX11_takeChoice 191 = .ok (.iconst 1, 1) := by decide +kernel
theorem dX11_takeChoice_192 : decode cX11_takeChoice 192 = .ok (.invokevirtual 118, 3) := by decide +kernel
theorem dX11_takeChoice_195 : decode cX11_takeChoice 195 = .ok (.istore_n 3, 1) := by decide +kernel
theorem dX11_takeChoice_196 : decode cX11_takeChoice 196 = .ok (.iload_n 2, 1) := by decide +kernel
theorem dX11_takeChoice_197 : decode cX11_takeChoice 197 = .ok (.ireturn, 1) := by decide +kernel
set_option maxRecDepth 20000 in
theorem ggX11_takeHut_X11_goOn : GoodIn wsX11_takeHut wsX11_goOn := goodIn_r _ [6, 7, 8, 9, 10, 11, 12, 13, 14, 5, 15, 16, 17, 18, 19, 20, 21, 22, 23, 24, 25, 48, 49, 50, 51, 52, 53, 54, 55, 56, 57, 58, 59, 60, 61, 62, 63, 64, 65, 66, 67] (by decide +kernel) (by decide +kernel)
set_option maxRecDepth 20000 in
theorem gX11_takeHut_X11_goOn : GoodIn wsX11_takeHut (wsV RX11 115 RX11 yX11_goOn wsX11_goOn) := goodIn_app (goodIn_of _ (by decide +kernel)) ggX11_takeHut_X11_goOn
set_option maxRecDepth 20000 in
theorem ggX11_takeHut_X11_isName : GoodIn wsX11_takeHut wsX11_isName := goodIn_r _ [29, 12, 7, 10, 9, 48, 49, 50, 51, 52, 53, 54, 55, 56, 57, 58, 59, 60, 61, 62, 63, 64, 65, 66, 67] (by decide +kernel) (by decide +kernel)
set_option maxRecDepth 20000 in
theorem gX11_takeHut_X11_isName : GoodIn wsX11_takeHut (wsV RX11 122 RX11 yX11_isName wsX11_isName) := goodIn_app (goodIn_of _ (by decide +kernel)) ggX11_takeHut_X11_isName
set_option maxRecDepth 20000 in
theorem ggX11_takeHut_X11_want : GoodIn wsX11_takeHut wsX11_want := goodIn_r _ [33, 34, 10, 35, 48, 49, 50, 51, 52, 53, 54, 55, 56, 57, 58, 59, 60, 61, 62, 63, 64, 65, 66, 67] (by decide +kernel) (by decide +kernel)
set_option maxRecDepth 20000 in
theorem gX11_takeHut_X11_want : GoodIn wsX11_takeHut (wsV RX11 118 RX11 yX11_want wsX11_want) := goodIn_app (goodIn_of _ (by decide +kernel)) ggX11_takeHut_X11_want
set_option maxRecDepth 20000 in
theorem ggX11_takeHut_X11_takeNumber : GoodIn wsX11_takeHut wsX11_takeNumber := goodIn_r _ [39, 34, 12, 11, 2, 3, 4, 5, 6, 7, 8, 9, 10, 13, 14, 15, 16, 17, 18, 19, 20, 21, 22, 23, 24, 25, 30, 31, 32, 33, 35, 48, 49, 50, 51, 52, 53, 54, 55, 56, 57, 58, 59, 60, 61, 62, 63, 64, 65, 66, 67] (by decide +kernel) (by decide +kernel)
set_option maxRecDepth 20000 in
theorem gX11_takeHut_X11_takeNumber : GoodIn wsX11_takeHut (wsV RX11 126 RX11 yX11_takeNumber wsX11_takeNumber) := goodIn_app (goodIn_of _ (by decide +kernel)) ggX11_takeHut_X11_takeNumber
set_option maxRecDepth 20000 in
theorem ggX11_takeHut_X11_takeChoice : GoodIn wsX11_takeHut wsX11_takeChoice := goodIn_r _ [43, 34, 2, 3, 4, 5, 6, 7, 8, 9, 10, 11, 12, 13, 14, 15, 16, 17, 18, 19, 20, 21, 22, 23, 24, 25, 26, 27, 28, 29, 30, 31, 32, 33, 35, 48, 49, 50, 51, 52, 53, 54, 55, 56, 57, 58, 59, 60, 61, 62, 63, 64, 65, 66, 67] (by decide +kernel) (by decide +kernel)
set_option maxRecDepth 20000 in
theorem gX11_takeHut_X11_takeChoice : GoodIn wsX11_takeHut (wsV RX11 129 RX11 yX11_takeChoice wsX11_takeChoice) := goodIn_app (goodIn_of _ (by decide +kernel)) ggX11_takeHut_X11_takeChoice
set_option maxRecDepth 20000 in
theorem ggX11_takeHut_X11_takeSign : GoodIn wsX11_takeHut wsX11_takeSign := goodIn_r _ [47, 34, 12, 2, 3, 4, 5, 6, 7, 8, 9, 10, 11, 13, 14, 15, 16, 17, 18, 19, 20, 21, 22, 23, 24, 25, 30, 31, 32, 33, 35, 48, 49, 50, 51, 52, 53, 54, 55, 56, 57, 58, 59, 60, 61, 62, 63, 64, 65, 66, 67] (by decide +kernel) (by decide +kernel)
set_option maxRecDepth 20000 in
theorem gX11_takeHut_X11_takeSign : GoodIn wsX11_takeHut (wsV RX11 133 RX11 yX11_takeSign wsX11_takeSign) := goodIn_app (goodIn_of _ (by decide +kernel)) ggX11_takeHut_X11_takeSign
theorem dX11_takeHut_0 : decode cX11_takeHut 0 = .ok (.aload_n 0, 1) := by decide +kernel
theorem dX11_takeHut_1 : decode cX11_takeHut 1 = .ok (.invokevirtual 115, 3) := by decide +kernel
theorem dX11_takeHut_4 : decode cX11_takeHut 4 = .ok (.aload_n 0, 1) := by decide +kernel
theorem dX11_takeHut_5 : decode cX11_takeHut 5 = .ok (.aload_n 0, 1) := by decide +kernel
theorem dX11_takeHut_6 : decode cX11_takeHut 6 = .ok (.iconst 3, 1) := by decide +kernel
theorem dX11_takeHut_7 : decode cX11_takeHut 7 = .ok (.bipush 104, 2) := by decide +kernel
theorem dX11_takeHut_9 : decode cX11_takeHut 9 = .ok (.bipush 117, 2) := by decide +kernel
theorem dX11_takeHut_11 : decode cX11_takeHut 11 = .ok (.bipush 116, 2) := by decide +kernel
theorem dX11_takeHut_13 : decode cX11_takeHut 13 = .ok (.iconst 0, 1) := by decide +kernel
theorem dX11_takeHut_14 : decode cX11_takeHut 14 = .ok (.iconst 0, 1) := by decide +kernel
theorem dX11_takeHut_15 : decode cX11_takeHut 15 = .ok (.iconst 0, 1) := by decide +kernel
theorem dX11_takeHut_16 : decode cX11_takeHut 16 = .ok (.invokevirtual 122, 3) := by decide +kernel
theorem dX11_takeHut_19 : decode cX11_takeHut 19 = .ok (.iconst 1, 1) := by decide +kernel
theorem dX11_takeHut_20 : decode cX11_takeHut 20 = .ok (.invokevirtual 118, 3) := by decide +kernel
theorem dX11_takeHut_23 : decode cX11_takeHut 23 = .ok (.ifCond .eq 70, 3) := by decide +kernel
theorem dX11_takeHut_26 : decode cX11_takeHut 26 = .ok (.aload_n 0, 1) := by decide +kernel
theorem dX11_takeHut_27 : decode cX11_takeHut 27 = .ok (.getfield 7, 3) := by decide +kernel
theorem dX11_takeHut_30 : decode cX11_takeHut 30 = .ok (.sipush 420, 3) := by decide +kernel
theorem dX11_takeHut_33 : decode cX11_takeHut 33 = .ok (.aload_n 0, 1) := by decide +kernel
theorem dX11_takeHut_34 : decode cX11_takeHut 34 = .ok (.iconst 0, 1) := by decide +kernel
theorem dX11_takeHut_35 : decode cX11_takeHut 35 = .ok (.sipush 500, 3) := by decide +kernel
theorem dX11_takeHut_38 : decode cX11_takeHut 38 = .ok (.invokevirtual 126, 3) := by decide +kernel
theorem dX11_takeHut_41 : decode cX11_takeHut 41 = .ok (.i2l, 1) := by decide +kernel
theorem dX11_takeHut_42 : decode cX11_takeHut 42 = .ok (.lastore, 1) := by decide +kernel
theorem dX11_takeHut_43 : decode cX11_takeHut 43 = .ok (.aload_n 0, 1) := by decide +kernel
theorem dX11_takeHut_44 : decode cX11_takeHut 44 = .ok (.getfield 7, 3) := by decide +kernel
theorem dX11_takeHut_47 : decode cX11_takeHut 47 = .ok (.sipush 421, 3) := by decide +kernel
theorem dX11_takeHut_50 : decode cX11_takeHut 50 = .ok (.aload_n 0, 1) := by decide +kernel
theorem dX11_takeHut_51 : decode cX11_takeHut 51 = .ok (.iconst 1, 1) := by decide +kernel
theorem dX11_takeHut_52 : decode cX11_takeHut 52 = .ok (.bipush 9, 2) := by decide +kernel
theorem dX11_takeHut_54 : decode cX11_takeHut 54 = .ok (.invokevirtual 126, 3) := by decide +kernel
theorem dX11_takeHut_57 : decode cX11_takeHut 57 = .ok (.i2l, 1) := by decide +kernel
theorem dX11_takeHut_58 : decode cX11_takeHut 58 = .ok (.lastore, 1) := by decide +kernel
theorem dX11_takeHut_59 : decode cX11_takeHut 59 = .ok (.aload_n 0, 1) := by decide +kernel
theorem dX11_takeHut_60 : decode cX11_takeHut 60 = .ok (.getfield 7, 3) := by decide +kernel
theorem dX11_takeHut_63 : decode cX11_takeHut 63 = .ok (.sipush 422, 3) := by decide +kernel
theorem dX11_takeHut_66 : decode cX11_takeHut 66 = .ok (.aload_n 0, 1) := by decide +kernel
theorem dX11_takeHut_67 : decode cX11_takeHut 67 = .ok (.iconst 1, 1) := by decide +kernel
theorem dX11_takeHut_68 : decode cX11_takeHut 68 = .ok (.invokevirtual 129, 3) := by decide +kernel
theorem dX11_takeHut_71 : decode cX11_takeHut 71 = .ok (.i2l, 1) := by decide +kernel
theorem dX11_takeHut_72 : decode cX11_takeHut 72 = .ok (.lastore, 1) := by decide +kernel
theorem dX11_takeHut_73 : decode cX11_takeHut 73 = .ok (.aload_n 0, 1) := by decide +kernel
theorem dX11_takeHut_74 : decode cX11_takeHut 74 = .ok (.getfield 7, 3) := by decide +kernel
theorem dX11_takeHut_77 : decode cX11_takeHut 77 = .ok (.sipush 423, 3) := by decide +kernel
theorem dX11_takeHut_80 : decode cX11_takeHut 80 = .ok (.aload_n 0, 1) := by decide +kernel
theorem dX11_takeHut_81 : decode cX11_takeHut 81 = .ok (.iconst 0, 1) := by decide +kernel
theorem dX11_takeHut_82 : decode cX11_takeHut 82 = .ok (.bipush 9, 2) := by decide +kernel
theorem dX11_takeHut_84 : decode cX11_takeHut 84 = .ok (.invokevirtual 126, 3) := by decide +kernel
theorem dX11_takeHut_87 : decode cX11_takeHut 87 = .ok (.i2l, 1) := by decide +kernel
theorem dX11_takeHut_88 : decode cX11_takeHut 88 = .ok (.lastore, 1) := by decide +kernel
theorem dX11_takeHut_89 : decode cX11_takeHut 89 = .ok (.aload_n 0, 1) := by decide +kernel
theorem dX11_takeHut_90 : decode cX11_takeHut 90 = .ok (.invokevirtual 133, 3) := by decide +kernel
theorem dX11_takeHut_93 : decode cX11_takeHut 93 = .ok (.return_, 1) := by decide +kernel
set_option maxRecDepth 20000 in
theorem ggX11_takeChance_X11_want : GoodIn wsX11_takeChance wsX11_want := goodIn_r _ [6, 7, 8, 9, 40, 41, 42, 43, 44, 45, 46, 47, 48, 49, 50, 51, 52, 53, 54, 55, 56, 57, 58, 59] (by decide +kernel) (by decide +kernel)
set_option maxRecDepth 20000 in
theorem gX11_takeChance_X11_want : GoodIn wsX11_takeChance (wsV RX11 118 RX11 yX11_want wsX11_want) := goodIn_app (goodIn_of _ (by decide +kernel)) ggX11_takeChance_X11_want
set_option maxRecDepth 20000 in
theorem ggX11_takeChance_X11_takeNumber : GoodIn wsX11_takeChance wsX11_takeNumber := goodIn_r _ [13, 7, 14, 15, 16, 17, 18, 5, 19, 20, 21, 22, 8, 23, 24, 25, 26, 27, 28, 29, 30, 31, 32, 33, 34, 35, 2, 3, 4, 6, 9, 40, 41, 42, 43, 44, 45, 46, 47, 48, 49, 50, 51, 52, 53, 54, 55, 56, 57, 58, 59] (by decide +kernel) (by decide +kernel)
set_option maxRecDepth 20000 in
theorem gX11_takeChance_X11_takeNumber : GoodIn wsX11_takeChance (wsV RX11 126 RX11 yX11_takeNumber wsX11_takeNumber) := goodIn_app (goodIn_of _ (by decide +kernel)) ggX11_takeChance_X11_takeNumber
set_option maxRecDepth 20000 in
theorem ggX11_takeChance_X11_takeSign : GoodIn wsX11_takeChance wsX11_takeSign := goodIn_r _ [39, 7, 14, 16, 17, 18, 5, 19, 20, 21, 22, 8, 15, 23, 24, 25, 26, 27, 28, 29, 30, 31, 32, 33, 34, 35, 2, 3, 4, 6, 9, 40, 41, 42, 43, 44, 45, 46, 47, 48, 49, 50, 51, 52, 53, 54, 55, 56, 57, 58, 59] (by decide +kernel) (by decide +kernel)
set_option maxRecDepth 20000 in
theorem gX11_takeChance_X11_takeSign : GoodIn wsX11_takeChance (wsV RX11 133 RX11 yX11_takeSign wsX11_takeSign) := goodIn_app (goodIn_of _ (by decide +kernel)) ggX11_takeChance_X11_takeSign
theorem dX11_takeChance_0 : decode cX11_takeChance 0 = .ok (.aload_n 0, 1) := by decide +kernel
theorem dX11_takeChance_1 : decode cX11_takeChance 1 = .ok (.getfield 7, 3) := by decide +kernel
theorem dX11_takeChance_4 : decode cX11_takeChance 4 = .ok (.sipush 424, 3) := by decide +kernel
theorem dX11_takeChance_7 : decode cX11_takeChance 7 = .ok (.laload, 1) := by decide +kernel
theorem dX11_takeChance_8 : decode cX11_takeChance 8 = .ok (.l2i, 1) := by decide +kernel
theorem dX11_takeChance_9 : decode cX11_takeChance 9 = .ok (.istore_n 1, 1) := by decide +kernel
theorem dX11_takeChance_10 : decode cX11_takeChance 10 = .ok (.aload_n 0, 1) := by decide +kernel
theorem dX11_takeChance_11 : decode cX11_takeChance 11 = .ok (.iload_n 1, 1) := by decide +kernel
theorem dX11_takeChance_12 : decode cX11_takeChance 12 = .ok (.bipush 6, 2) := by decide +kernel
theorem dX11_takeChance_14 : decode cX11_takeChance 14 = .ok (.if_icmp .ge 7, 3) := by decide +kernel
theorem dX11_takeChance_17 : decode cX11_takeChance 17 = .ok (.iconst 1, 1) := by decide +kernel
theorem dX11_takeChance_18 : decode cX11_takeChance 18 = .ok (.goto 4, 3) := by decide +kernel
theorem dX11_takeChance_21 : decode cX11_takeChance 21 = .ok (.iconst 0, 1) := by decide +kernel
theorem dX11_takeChance_22 : decode cX11_takeChance 22 = .ok (.iconst 3, 1) := by decide +kernel
theorem dX11_takeChance_23 : decode cX11_takeChance 23 = .ok (.invokevirtual 118, 3) := by decide +kernel
theorem dX11_takeChance_26 : decode cX11_takeChance 26 = .ok (.ifCond .eq 114, 3) := by decide +kernel
theorem dX11_takeChance_29 : decode cX11_takeChance 29 = .ok (.aload_n 0, 1) := by decide +kernel
theorem dX11_takeChance_30 : decode cX11_takeChance 30 = .ok (.iconst 0, 1) := by decide +kernel
theorem dX11_takeChance_31 : decode cX11_takeChance 31 = .ok (.bipush 9, 2) := by decide +kernel
theorem dX11_takeChance_33 : decode cX11_takeChance 33 = .ok (.invokevirtual 126, 3) := by decide +kernel
theorem dX11_takeChance_36 : decode cX11_takeChance 36 = .ok (.istore_n 2, 1) := by decide +kernel
theorem dX11_takeChance_37 : decode cX11_takeChance 37 = .ok (.iconst 0, 1) := by decide +kernel
theorem dX11_takeChance_38 : decode cX11_takeChance 38 = .ok (.istore_n 3, 1) := by decide +kernel
theorem dX11_takeChance_39 : decode cX11_takeChance 39 = .ok (.iconst 0, 1) := by decide +kernel
theorem dX11_takeChance_40 : decode cX11_takeChance 40 = .ok (.istore 4, 2) := by decide +kernel
theorem dX11_takeChance_42 : decode cX11_takeChance 42 = .ok (.iload 4, 2) := by decide +kernel
theorem dX11_takeChance_44 : decode cX11_takeChance 44 = .ok (.iload_n 1, 1) := by decide +kernel
theorem dX11_takeChance_45 : decode cX11_takeChance 45 = .ok (.if_icmp .ge 36, 3) := by decide +kernel
theorem dX11_takeChance_48 : decode cX11_takeChance 48 = .ok (.iload_n 3, 1) := by decide +kernel
theorem dX11_takeChance_49 : decode cX11_takeChance 49 = .ok (.ifCond .ne 20, 3) := by decide +kernel
theorem dX11_takeChance_52 : decode cX11_takeChance 52 = .ok (.aload_n 0, 1) := by decide +kernel
theorem dX11_takeChance_53 : decode cX11_takeChance 53 = .ok (.getfield 7, 3) := by decide +kernel
theorem dX11_takeChance_56 : decode cX11_takeChance 56 = .ok (.sipush 425, 3) := by decide +kernel
theorem dX11_takeChance_59 : decode cX11_takeChance 59 = .ok (.iload 4, 2) := by decide +kernel
theorem dX11_takeChance_61 : decode cX11_takeChance 61 = .ok (.iadd, 1) := by decide +kernel
theorem dX11_takeChance_62 : decode cX11_takeChance 62 = .ok (.laload, 1) := by decide +kernel
theorem dX11_takeChance_63 : decode cX11_takeChance 63 = .ok (.iload_n 2, 1) := by decide +kernel
theorem dX11_takeChance_64 : decode cX11_takeChance 64 = .ok (.i2l, 1) := by decide +kernel
theorem dX11_takeChance_65 : decode cX11_takeChance 65 = .ok (.lcmp, 1) := by decide +kernel
theorem dX11_takeChance_66 : decode cX11_takeChance 66 = .ok (.ifCond .ne 7, 3) := by decide +kernel
theorem dX11_takeChance_69 : decode cX11_takeChance 69 = .ok (.iconst 1, 1) := by decide +kernel
theorem dX11_takeChance_70 : decode cX11_takeChance 70 = .ok (.goto 4, 3) := by decide +kernel
theorem dX11_takeChance_73 : decode cX11_takeChance 73 = .ok (.iconst 0, 1) := by decide +kernel
theorem dX11_takeChance_74 : decode cX11_takeChance 74 = .ok (.istore_n 3, 1) := by decide +kernel
theorem dX11_takeChance_75 : decode cX11_takeChance 75 = .ok (.iinc 4 1, 3) := by decide +kernel
theorem dX11_takeChance_78 : decode cX11_takeChance 78 = .ok (.goto (-36), 3) := by decide +kernel
theorem dX11_takeChance_81 : decode cX11_takeChance 81 = .ok (.aload_n 0, 1) := by decide +kernel
theorem dX11_takeChance_82 : decode cX11_takeChance 82 = .ok (.iload_n 3, 1) := by decide +kernel
theorem dX11_takeChance_83 : decode cX11_takeChance 83 = .ok (.ifCond .ne 7, 3) := by decide +kernel
theorem dX11_takeChance_86 : decode cX11_takeChance 86 = .ok (.iconst 1, 1) := by decide +kernel
theorem dX11_takeChance_87 : decode cX11_takeChance 87 = .ok (.goto 4, 3) := by decide +kernel
theorem dX11_takeChance_90 : decode cX11_takeChance 90 = .ok (.iconst 0, 1) := by decide +kernel
theorem dX11_takeChance_91 : decode cX11_takeChance 91 = .ok (.iconst 2, 1) := by decide +kernel
theorem dX11_takeChance_92 : decode cX11_takeChance 92 = .ok (.invokevirtual 118, 3) := by decide +kernel
theorem dX11_takeChance_95 : decode cX11_takeChance 95 = .ok (.ifCond .eq 45, 3) := by decide +kernel
theorem dX11_takeChance_98 : decode cX11_takeChance 98 = .ok (.aload_n 0, 1) := by decide +kernel
theorem dX11_takeChance_99 : decode cX11_takeChance 99 = .ok (.getfield 7, 3) := by decide +kernel
theorem dX11_takeChance_102 : decode cX11_takeChance 102 = .ok (.sipush 425, 3) := by decide +kernel
theorem dX11_takeChance_105 : decode cX11_takeChance 105 = .ok (.iload_n 1, 1) := by decide +kernel
theorem dX11_takeChance_106 : decode cX11_takeChance 106 = .ok (.iadd, 1) := by decide +kernel
theorem dX11_takeChance_107 : decode cX11_takeChance 107 = .ok (.iload_n 2, 1) := by decide +kernel
theorem dX11_takeChance_108 : decode cX11_takeChance 108 = .ok (.i2l, 1) := by decide +kernel
theorem dX11_takeChance_109 : decode cX11_takeChance 109 = .ok (.lastore, 1) := by decide +kernel
theorem dX11_takeChance_110 : decode cX11_takeChance 110 = .ok (.aload_n 0, 1) := by decide +kernel
theorem dX11_takeChance_111 : decode cX11_takeChance 111 = .ok (.getfield 7, 3) := by decide +kernel
theorem dX11_takeChance_114 : decode cX11_takeChance 114 = .ok (.sipush 431, 3) := by decide +kernel
theorem dX11_takeChance_117 : decode cX11_takeChance 117 = .ok (.iload_n 1, 1) := by decide +kernel
theorem dX11_takeChance_118 : decode cX11_takeChance 118 = .ok (.iadd, 1) := by decide +kernel
theorem dX11_takeChance_119 : decode cX11_takeChance 119 = .ok (.aload_n 0, 1) := by decide +kernel
theorem dX11_takeChance_120 : decode cX11_takeChance 120 = .ok (.iconst 1, 1) := by decide +kernel
theorem dX11_takeChance_121 : decode cX11_takeChance 121 = .ok (.bipush 9, 2) := by decide +kernel
theorem dX11_takeChance_123 : decode cX11_takeChance 123 = .ok (.invokevirtual 126, 3) := by decide +kernel
theorem dX11_takeChance_126 : decode cX11_takeChance 126 = .ok (.i2l, 1) := by decide +kernel
theorem dX11_takeChance_127 : decode cX11_takeChance 127 = .ok (.lastore, 1) := by decide +kernel
theorem dX11_takeChance_128 : decode cX11_takeChance 128 = .ok (.aload_n 0, 1) := by decide +kernel
theorem dX11_takeChance_129 : decode cX11_takeChance 129 = .ok (.getfield 7, 3) := by decide +kernel
theorem dX11_takeChance_132 : decode cX11_takeChance 132 = .ok (.sipush 424, 3) := by decide +kernel
theorem dX11_takeChance_135 : decode cX11_takeChance 135 = .ok (.iload_n 1, 1) := by decide +kernel
theorem dX11_takeChance_136 : decode cX11_takeChance 136 = .ok (.iconst 1, 1) := by decide +kernel
theorem dX11_takeChance_137 : decode cX11_takeChance 137 = .ok (.iadd, 1) := by decide +kernel
theorem dX11_takeChance_138 : decode cX11_takeChance 138 = .ok (.i2l, 1) := by decide +kernel
theorem dX11_takeChance_139 : decode cX11_takeChance 139 = .ok (.lastore, 1) := by decide +kernel
theorem dX11_takeChance_140 : decode cX11_takeChance 140 = .ok (.aload_n 0, 1) := by decide +kernel
theorem dX11_takeChance_141 : decode cX11_takeChance 141 = .ok (.invokevirtual 133, 3) := by decide +kernel
theorem dX11_takeChance_144 : decode cX11_takeChance 144 = .ok (.return_, 1) := by decide +kernel
set_option maxRecDepth 20000 in
theorem ggX11_takeParty_X11_want : GoodIn wsX11_takeParty wsX11_want := goodIn_r _ [6, 7, 8, 9, 48, 49, 50, 51, 52, 53, 54, 55, 56, 57, 58, 59, 60, 61, 62, 63, 64, 65, 66, 67] (by decide +kernel) (by decide +kernel)
set_option maxRecDepth 20000 in
theorem gX11_takeParty_X11_want : GoodIn wsX11_takeParty (wsV RX11 118 RX11 yX11_want wsX11_want) := goodIn_app (goodIn_of _ (by decide +kernel)) ggX11_takeParty_X11_want
set_option maxRecDepth 20000 in
theorem ggX11_takeParty_X11_takeNumber : GoodIn wsX11_takeParty wsX11_takeNumber := goodIn_r _ [13, 7, 14, 15, 16, 17, 18, 5, 19, 20, 21, 22, 8, 23, 24, 25, 26, 27, 28, 29, 30, 31, 32, 33, 34, 35, 2, 3, 4, 6, 9, 48, 49, 50, 51, 52, 53, 54, 55, 56, 57, 58, 59, 60, 61, 62, 63, 64, 65, 66, 67] (by decide +kernel) (by decide +kernel)
set_option maxRecDepth 20000 in
theorem gX11_takeParty_X11_takeNumber : GoodIn wsX11_takeParty (wsV RX11 126 RX11 yX11_takeNumber wsX11_takeNumber) := goodIn_app (goodIn_of _ (by decide +kernel)) ggX11_takeParty_X11_takeNumber
set_option maxRecDepth 20000 in
theorem ggX11_takeParty_X11_takeChoice : GoodIn wsX11_takeParty wsX11_takeChoice := goodIn_r _ [39, 7, 16, 17, 18, 5, 19, 20, 21, 22, 8, 15, 14, 23, 24, 25, 26, 27, 28, 29, 30, 31, 32, 33, 34, 35, 40, 41, 42, 43, 2, 3, 4, 6, 9, 48, 49, 50, 51, 52, 53, 54, 55, 56, 57, 58, 59, 60, 61, 62, 63, 64, 65, 66, 67] (by decide +kernel) (by decide +kernel)
set_option maxRecDepth 20000 in
theorem gX11_takeParty_X11_takeChoice : GoodIn wsX11_takeParty (wsV RX11 129 RX11 yX11_takeChoice wsX11_takeChoice) := goodIn_app (goodIn_of _ (by decide +kernel)) ggX11_takeParty_X11_takeChoice
set_option maxRecDepth 20000 in
theorem ggX11_takeParty_X11_takeSign : GoodIn wsX11_takeParty wsX11_takeSign := goodIn_r _ [47, 7, 14, 16, 17, 18, 5, 19, 20, 21, 22, 8, 15, 23, 24, 25, 26, 27, 28, 29, 30, 31, 32, 33, 34, 35, 2, 3, 4, 6, 9, 48, 49, 50, 51, 52, 53, 54, 55, 56, 57, 58, 59, 60, 61, 62, 63, 64, 65, 66, 67] (by decide +kernel) (by decide +kernel)
set_option maxRecDepth 20000 in
theorem gX11_takeParty_X11_takeSign : GoodIn wsX11_takeParty (wsV RX11 133 RX11 yX11_takeSign wsX11_takeSign) := goodIn_app (goodIn_of _ (by decide +kernel)) ggX11_takeParty_X11_takeSign
theorem dX11_takeParty_0 : decode cX11_takeParty 0 = .ok (.aload_n 0, 1) := by decide +kernel
theorem dX11_takeParty_1 : decode cX11_takeParty 1 = .ok (.getfield 7, 3) := by decide +kernel
theorem dX11_takeParty_4 : decode cX11_takeParty 4 = .ok (.sipush 437, 3) := by decide +kernel
theorem dX11_takeParty_7 : decode cX11_takeParty 7 = .ok (.laload, 1) := by decide +kernel
theorem dX11_takeParty_8 : decode cX11_takeParty 8 = .ok (.l2i, 1) := by decide +kernel
theorem dX11_takeParty_9 : decode cX11_takeParty 9 = .ok (.istore_n 1, 1) := by decide +kernel
theorem dX11_takeParty_10 : decode cX11_takeParty 10 = .ok (.aload_n 0, 1) := by decide +kernel
theorem dX11_takeParty_11 : decode cX11_takeParty 11 = .ok (.iload_n 1, 1) := by decide +kernel
theorem dX11_takeParty_12 : decode cX11_takeParty 12 = .ok (.bipush 16, 2) := by decide +kernel
theorem dX11_takeParty_14 : decode cX11_takeParty 14 = .ok (.if_icmp .ge 7, 3) := by decide +kernel
theorem dX11_takeParty_17 : decode cX11_takeParty 17 = .ok (.iconst 1, 1) := by decide +kernel
theorem dX11_takeParty_18 : decode cX11_takeParty 18 = .ok (.goto 4, 3) := by decide +kernel
theorem dX11_takeParty_21 : decode cX11_takeParty 21 = .ok (.iconst 0, 1) := by decide +kernel
theorem dX11_takeParty_22 : decode cX11_takeParty 22 = .ok (.iconst 3, 1) := by decide +kernel
theorem dX11_takeParty_23 : decode cX11_takeParty 23 = .ok (.invokevirtual 118, 3) := by decide +kernel
theorem dX11_takeParty_26 : decode cX11_takeParty 26 = .ok (.ifCond .eq 67, 3) := by decide +kernel
theorem dX11_takeParty_29 : decode cX11_takeParty 29 = .ok (.aload_n 0, 1) := by decide +kernel
theorem dX11_takeParty_30 : decode cX11_takeParty 30 = .ok (.getfield 7, 3) := by decide +kernel
theorem dX11_takeParty_33 : decode cX11_takeParty 33 = .ok (.sipush 438, 3) := by decide +kernel
theorem dX11_takeParty_36 : decode cX11_takeParty 36 = .ok (.iload_n 1, 1) := by decide +kernel
theorem dX11_takeParty_37 : decode cX11_takeParty 37 = .ok (.iadd, 1) := by decide +kernel
theorem dX11_takeParty_38 : decode cX11_takeParty 38 = .ok (.aload_n 0, 1) := by decide +kernel
theorem dX11_takeParty_39 : decode cX11_takeParty 39 = .ok (.iconst 1, 1) := by decide +kernel
theorem dX11_takeParty_40 : decode cX11_takeParty 40 = .ok (.bipush 9, 2) := by decide +kernel
theorem dX11_takeParty_42 : decode cX11_takeParty 42 = .ok (.invokevirtual 126, 3) := by decide +kernel
theorem dX11_takeParty_45 : decode cX11_takeParty 45 = .ok (.i2l, 1) := by decide +kernel
theorem dX11_takeParty_46 : decode cX11_takeParty 46 = .ok (.lastore, 1) := by decide +kernel
theorem dX11_takeParty_47 : decode cX11_takeParty 47 = .ok (.aload_n 0, 1) := by decide +kernel
theorem dX11_takeParty_48 : decode cX11_takeParty 48 = .ok (.getfield 7, 3) := by decide +kernel
theorem dX11_takeParty_51 : decode cX11_takeParty 51 = .ok (.sipush 454, 3) := by decide +kernel
theorem dX11_takeParty_54 : decode cX11_takeParty 54 = .ok (.iload_n 1, 1) := by decide +kernel
theorem dX11_takeParty_55 : decode cX11_takeParty 55 = .ok (.iadd, 1) := by decide +kernel
theorem dX11_takeParty_56 : decode cX11_takeParty 56 = .ok (.aload_n 0, 1) := by decide +kernel
theorem dX11_takeParty_57 : decode cX11_takeParty 57 = .ok (.iconst 0, 1) := by decide +kernel
theorem dX11_takeParty_58 : decode cX11_takeParty 58 = .ok (.invokevirtual 129, 3) := by decide +kernel
theorem dX11_takeParty_61 : decode cX11_takeParty 61 = .ok (.i2l, 1) := by decide +kernel
theorem dX11_takeParty_62 : decode cX11_takeParty 62 = .ok (.lastore, 1) := by decide +kernel
theorem dX11_takeParty_63 : decode cX11_takeParty 63 = .ok (.aload_n 0, 1) := by decide +kernel
theorem dX11_takeParty_64 : decode cX11_takeParty 64 = .ok (.getfield 7, 3) := by decide +kernel
theorem dX11_takeParty_67 : decode cX11_takeParty 67 = .ok (.sipush 470, 3) := by decide +kernel
theorem dX11_takeParty_70 : decode cX11_takeParty 70 = .ok (.iload_n 1, 1) := by decide +kernel
theorem dX11_takeParty_71 : decode cX11_takeParty 71 = .ok (.iadd, 1) := by decide +kernel
theorem dX11_takeParty_72 : decode cX11_takeParty 72 = .ok (.aload_n 0, 1) := by decide +kernel
theorem dX11_takeParty_73 : decode cX11_takeParty 73 = .ok (.iconst 0, 1) := by decide +kernel
theorem dX11_takeParty_74 : decode cX11_takeParty 74 = .ok (.bipush 99, 2) := by decide +kernel
theorem dX11_takeParty_76 : decode cX11_takeParty 76 = .ok (.invokevirtual 126, 3) := by decide +kernel
theorem dX11_takeParty_79 : decode cX11_takeParty 79 = .ok (.i2l, 1) := by decide +kernel
theorem dX11_takeParty_80 : decode cX11_takeParty 80 = .ok (.lastore, 1) := by decide +kernel
theorem dX11_takeParty_81 : decode cX11_takeParty 81 = .ok (.aload_n 0, 1) := by decide +kernel
theorem dX11_takeParty_82 : decode cX11_takeParty 82 = .ok (.getfield 7, 3) := by decide +kernel
theorem dX11_takeParty_85 : decode cX11_takeParty 85 = .ok (.sipush 437, 3) := by decide +kernel
theorem dX11_takeParty_88 : decode cX11_takeParty 88 = .ok (.iload_n 1, 1) := by decide +kernel
theorem dX11_takeParty_89 : decode cX11_takeParty 89 = .ok (.iconst 1, 1) := by decide +kernel
theorem dX11_takeParty_90 : decode cX11_takeParty 90 = .ok (.iadd, 1) := by decide +kernel
theorem dX11_takeParty_91 : decode cX11_takeParty 91 = .ok (.i2l, 1) := by decide +kernel
theorem dX11_takeParty_92 : decode cX11_takeParty 92 = .ok (.lastore, 1) := by decide +kernel
theorem dX11_takeParty_93 : decode cX11_takeParty 93 = .ok (.aload_n 0, 1) := by decide +kernel
theorem dX11_takeParty_94 : decode cX11_takeParty 94 = .ok (.invokevirtual 133, 3) := by decide +kernel
theorem dX11_takeParty_97 : decode cX11_takeParty 97 = .ok (.return_, 1) := by decide +kernel
set_option maxRecDepth 20000 in
theorem ggX11_pass_X11_takeHut : GoodIn wsX11_pass wsX11_takeHut := goodIn_r _ [13, 3, 14, 15, 16, 12, 17, 1, 5, 18, 19, 20, 4, 21, 22, 23, 24, 25, 26, 27, 28, 29, 30, 31, 32, 33, 34, 35, 36, 37, 38, 39, 40, 41, 2, 8, 42, 43, 44, 45, 46, 47, 48, 49, 50, 51, 52, 53, 66, 67, 68, 69, 70, 71, 72, 73, 74, 75, 76, 77, 78, 79, 80, 81, 82, 83, 84, 85] (by decide +kernel) (by decide +kernel)
set_option maxRecDepth 20000 in
theorem gX11_pass_X11_takeHut : GoodIn wsX11_pass (wsV RX11 136 RX11 yX11_takeHut wsX11_takeHut) := goodIn_app (goodIn_of _ (by decide +kernel)) ggX11_pass_X11_takeHut
set_option maxRecDepth 20000 in
theorem ggX11_pass_X11_goOn : GoodIn wsX11_pass wsX11_goOn := goodIn_r _ [17, 1, 5, 18, 19, 20, 4, 21, 22, 12, 23, 24, 25, 26, 27, 28, 29, 30, 31, 32, 33, 66, 67, 68, 69, 70, 71, 72, 73, 74, 75, 76, 77, 78, 79, 80, 81, 82, 83, 84, 85] (by decide +kernel) (by decide +kernel)
set_option maxRecDepth 20000 in
theorem gX11_pass_X11_goOn : GoodIn wsX11_pass (wsV RX11 115 RX11 yX11_goOn wsX11_goOn) := goodIn_app (goodIn_of _ (by decide +kernel)) ggX11_pass_X11_goOn
set_option maxRecDepth 20000 in
theorem ggX11_pass_X11_isName : GoodIn wsX11_pass wsX11_isName := goodIn_r _ [37, 4, 1, 19, 18, 66, 67, 68, 69, 70, 71, 72, 73, 74, 75, 76, 77, 78, 79, 80, 81, 82, 83, 84, 85] (by decide +kernel) (by decide +kernel)
set_option maxRecDepth 20000 in
theorem gX11_pass_X11_isName : GoodIn wsX11_pass (wsV RX11 122 RX11 yX11_isName wsX11_isName) := goodIn_app (goodIn_of _ (by decide +kernel)) ggX11_pass_X11_isName
set_option maxRecDepth 20000 in
theorem ggX11_pass_X11_takeChance : GoodIn wsX11_pass wsX11_takeChance := goodIn_r _ [57, 3, 38, 39, 40, 12, 41, 2, 19, 8, 42, 43, 44, 45, 4, 20, 14, 15, 16, 17, 1, 5, 18, 21, 22, 23, 24, 25, 26, 27, 28, 29, 30, 31, 32, 33, 50, 51, 52, 53, 66, 67, 68, 69, 70, 71, 72, 73, 74, 75, 76, 77, 78, 79, 80, 81, 82, 83, 84, 85] (by decide +kernel) (by decide +kernel)
set_option maxRecDepth 20000 in
theorem gX11_pass_X11_takeChance : GoodIn wsX11_pass (wsV RX11 139 RX11 yX11_takeChance wsX11_takeChance) := goodIn_app (goodIn_of _ (by decide +kernel)) ggX11_pass_X11_takeChance
set_option maxRecDepth 20000 in
theorem ggX11_pass_X11_takeParty : GoodIn wsX11_pass wsX11_takeParty := goodIn_r _ [61, 3, 38, 39, 40, 12, 41, 2, 19, 8, 42, 43, 44, 45, 4, 20, 14, 15, 16, 17, 1, 5, 18, 21, 22, 23, 24, 25, 26, 27, 28, 29, 30, 31, 32, 33, 46, 47, 48, 49, 34, 35, 36, 37, 50, 51, 52, 53, 66, 67, 68, 69, 70, 71, 72, 73, 74, 75, 76, 77, 78, 79, 80, 81, 82, 83, 84, 85] (by decide +kernel) (by decide +kernel)
set_option maxRecDepth 20000 in
theorem gX11_pass_X11_takeParty : GoodIn wsX11_pass (wsV RX11 142 RX11 yX11_takeParty wsX11_takeParty) := goodIn_app (goodIn_of _ (by decide +kernel)) ggX11_pass_X11_takeParty
set_option maxRecDepth 20000 in
theorem ggX11_pass_X11_want : GoodIn wsX11_pass wsX11_want := goodIn_r _ [41, 2, 19, 8, 66, 67, 68, 69, 70, 71, 72, 73, 74, 75, 76, 77, 78, 79, 80, 81, 82, 83, 84, 85] (by decide +kernel) (by decide +kernel)
set_option maxRecDepth 20000 in
theorem gX11_pass_X11_want : GoodIn wsX11_pass (wsV RX11 118 RX11 yX11_want wsX11_want) := goodIn_app (goodIn_of _ (by decide +kernel)) ggX11_pass_X11_want
set_option maxRecDepth 20000 in
theorem ggX11_pass_X11_copyPass : GoodIn wsX11_pass wsX11_copyPass := goodIn_r _ [65, 3, 66, 67, 68, 69, 70, 71, 72, 73, 74, 75, 76, 77, 78, 79, 80, 81, 82, 83, 84, 85] (by decide +kernel) (by decide +kernel)
set_option maxRecDepth 20000 in
theorem gX11_pass_X11_copyPass : GoodIn wsX11_pass (wsV RX11 150 RX11 yX11_copyPass wsX11_copyPass) := goodIn_app (goodIn_of _ (by decide +kernel)) ggX11_pass_X11_copyPass
theorem dX11_pass_0 : decode cX11_pass 0 = .ok (.aload_n 0, 1) := by decide +kernel
theorem dX11_pass_1 : decode cX11_pass 1 = .ok (.iconst 0, 1) := by decide +kernel
theorem dX11_pass_2 : decode cX11_pass 2 = .ok (.putfield 91, 3) := by decide +kernel
theorem dX11_pass_5 : decode cX11_pass 5 = .ok (.aload_n 0, 1) := by decide +kernel
theorem dX11_pass_6 : decode cX11_pass 6 = .ok (.iconst 0, 1) := by decide +kernel
theorem dX11_pass_7 : decode cX11_pass 7 = .ok (.putfield 109, 3) := by decide +kernel
theorem dX11_pass_10 : decode cX11_pass 10 = .ok (.iconst 0, 1) := by decide +kernel
theorem dX11_pass_11 : decode cX11_pass 11 = .ok (.istore_n 1, 1) := by decide +kernel
theorem dX11_pass_12 : decode cX11_pass 12 = .ok (.iload_n 1, 1) := by decide +kernel
theorem dX11_pass_13 : decode cX11_pass 13 = .ok (.sipush 140, 3) := by decide +kernel
theorem dX11_pass_16 : decode cX11_pass 16 = .ok (.if_icmp .ge 20, 3) := by decide +kernel
theorem dX11_pass_19 : decode cX11_pass 19 = .ok (.aload_n 0, 1) := by decide +kernel
theorem dX11_pass_20 : decode cX11_pass 20 = .ok (.getfield 7, 3) := by decide +kernel
theorem dX11_pass_23 : decode cX11_pass 23 = .ok (.sipush 420, 3) := by decide +kernel
theorem dX11_pass_26 : decode cX11_pass 26 = .ok (.iload_n 1, 1) := by decide +kernel
theorem dX11_pass_27 : decode cX11_pass 27 = .ok (.iadd, 1) := by decide +kernel
theorem dX11_pass_28 : decode cX11_pass 28 = .ok (.lconst 0, 1) := by decide +kernel
theorem dX11_pass_29 : decode cX11_pass 29 = .ok (.lastore, 1) := by decide +kernel
theorem dX11_pass_30 : decode cX11_pass 30 = .ok (.iinc 1 1, 3) := by decide +kernel
theorem dX11_pass_33 : decode cX11_pass 33 = .ok (.goto (-21), 3) := by decide +kernel
theorem dX11_pass_36 : decode cX11_pass 36 = .ok (.aload_n 0, 1) := by decide +kernel
theorem dX11_pass_37 : decode cX11_pass 37 = .ok (.getfield 7, 3) := by decide +kernel
theorem dX11_pass_40 : decode cX11_pass 40 = .ok (.sipush 552, 3) := by decide +kernel
theorem dX11_pass_43 : decode cX11_pass 43 = .ok (.lconst 1, 1) := by decide +kernel
theorem dX11_pass_44 : decode cX11_pass 44 = .ok (.lastore, 1) := by decide +kernel
theorem dX11_pass_45 : decode cX11_pass 45 = .ok (.aload_n 0, 1) := by decide +kernel
theorem dX11_pass_46 : decode cX11_pass 46 = .ok (.invokevirtual 136, 3) := by decide +kernel
theorem dX11_pass_49 : decode cX11_pass 49 = .ok (.aload_n 0, 1) := by decide +kernel
theorem dX11_pass_50 : decode cX11_pass 50 = .ok (.getfield 109, 3) := by decide +kernel
theorem dX11_pass_53 : decode cX11_pass 53 = .ok (.ifCond .ne 7, 3) := by decide +kernel
theorem dX11_pass_56 : decode cX11_pass 56 = .ok (.iconst 1, 1) := by decide +kernel
theorem dX11_pass_57 : decode cX11_pass 57 = .ok (.goto 4, 3) := by decide +kernel
theorem dX11_pass_60 : decode cX11_pass 60 = .ok (.iconst 0, 1) := by decide +kernel
theorem dX11_pass_61 : decode cX11_pass 61 = .ok (.istore_n 1, 1) := by decide +kernel
theorem dX11_pass_62 : decode cX11_pass 62 = .ok (.iload_n 1, 1) := by decide +kernel
theorem dX11_pass_63 : decode cX11_pass 63 = .ok (.ifCond .eq 115, 3) := by decide +kernel
theorem dX11_pass_66 : decode cX11_pass 66 = .ok (.aload_n 0, 1) := by decide +kernel
theorem dX11_pass_67 : decode cX11_pass 67 = .ok (.invokevirtual 115, 3) := by decide +kernel
theorem dX11_pass_70 : decode cX11_pass 70 = .ok (.aload_n 0, 1) := by decide +kernel
theorem dX11_pass_71 : decode cX11_pass 71 = .ok (.bipush 6, 2) := by decide +kernel
theorem dX11_pass_73 : decode cX11_pass 73 = .ok (.bipush 99, 2) := by decide +kernel
theorem dX11_pass_75 : decode cX11_pass 75 = .ok (.bipush 104, 2) := by decide +kernel
theorem dX11_pass_77 : decode cX11_pass 77 = .ok (.bipush 97, 2) := by decide +kernel
theorem dX11_pass_79 : decode cX11_pass 79 = .ok (.bipush 110, 2) := by decide +kernel
theorem dX11_pass_81 : decode cX11_pass 81 = .ok (.bipush 99, 2) := by decide +kernel
theorem dX11_pass_83 : decode cX11_pass 83 = .ok (.bipush 101, 2) := by decide +kernel
theorem dX11_pass_85 : decode cX11_pass 85 = .ok (.invokevirtual 122, 3) := by decide +kernel
theorem dX11_pass_88 : decode cX11_pass 88 = .ok (.ifCond .eq 23, 3) := by decide +kernel
theorem dX11_pass_91 : decode cX11_pass 91 = .ok (.aload_n 0, 1) := by decide +kernel
theorem dX11_pass_92 : decode cX11_pass 92 = .ok (.getfield 7, 3) := by decide +kernel
theorem dX11_pass_95 : decode cX11_pass 95 = .ok (.sipush 437, 3) := by decide +kernel
theorem dX11_pass_98 : decode cX11_pass 98 = .ok (.laload, 1) := by decide +kernel
theorem dX11_pass_99 : decode cX11_pass 99 = .ok (.lconst 0, 1) := by decide +kernel
theorem dX11_pass_100 : decode cX11_pass 100 = .ok (.lcmp, 1) := by decide +kernel
theorem dX11_pass_101 : decode cX11_pass 101 = .ok (.ifCond .ne 10, 3) := by decide +kernel
theorem dX11_pass_104 : decode cX11_pass 104 = .ok (.aload_n 0, 1) := by decide +kernel
theorem dX11_pass_105 : decode cX11_pass 105 = .ok (.invokevirtual 139, 3) := by decide +kernel
theorem dX11_pass_108 : decode cX11_pass 108 = .ok (.goto 47, 3) := by decide +kernel
theorem dX11_pass_111 : decode cX11_pass 111 = .ok (.aload_n 0, 1) := by decide +kernel
theorem dX11_pass_112 : decode cX11_pass 112 = .ok (.iconst 5, 1) := by decide +kernel
theorem dX11_pass_113 : decode cX11_pass 113 = .ok (.bipush 112, 2) := by decide +kernel
theorem dX11_pass_115 : decode cX11_pass 115 = .ok (.bipush 97, 2) := by decide +kernel
theorem dX11_pass_117 : decode cX11_pass 117 = .ok (.bipush 114, 2) := by decide +kernel
theorem dX11_pass_119 : decode cX11_pass 119 = .ok (.bipush 116, 2) := by decide +kernel
theorem dX11_pass_121 : decode cX11_pass 121 = .ok (.bipush 121, 2) := by decide +kernel
theorem dX11_pass_123 : decode cX11_pass 123 = .ok (.iconst 0, 1) := by decide +kernel
theorem dX11_pass_124 : decode cX11_pass 124 = .ok (.invokevirtual 122, 3) := by decide +kernel
theorem dX11_pass_127 : decode cX11_pass 127 = .ok (.ifCond .eq 10, 3) := by decide +kernel
theorem dX11_pass_130 : decode cX11_pass 130 = .ok (.aload_n 0, 1) := by decide +kernel
theorem dX11_pass_131 : decode cX11_pass 131 = .ok (.invokevirtual 142, 3) := by decide +kernel
theorem dX11_pass_134 : decode cX11_pass 134 = .ok (.goto 21, 3) := by decide +kernel
theorem dX11_pass_137 : decode cX11_pass 137 = .ok (.aload_n 0, 1) := by decide +kernel
theorem dX11_pass_138 : decode cX11_pass 138 = .ok (.aload_n 0, 1) := by decide +kernel
theorem dX11_pass_139 : decode cX11_pass 139 = .ok (.getfield 100, 3) := by decide +kernel
theorem dX11_pass_142 : decode cX11_pass 142 = .ok (.ifCond .ne 7, 3) := by decide +kernel
theorem dX11_pass_145 : decode cX11_pass 145 = .ok (.iconst 1, 1) := by decide +kernel
theorem dX11_pass_146 : decode cX11_pass 146 = .ok (.goto 4, 3) := by decide +kernel
theorem dX11_pass_149 : decode cX11_pass 149 = .ok (.iconst 0, 1) := by decide +kernel
theorem dX11_pass_150 : decode cX11_pass 150 = .ok (.iconst 1, 1) := by decide +kernel
theorem dX11_pass_151 : decode cX11_pass 151 = .ok (.invokevirtual 118, 3) := by decide +kernel
theorem dX11_pass_154 : decode cX11_pass 154 = .ok (.istore_n 2, 1) := by decide +kernel
theorem dX11_pass_155 : decode cX11_pass 155 = .ok (.aload_n 0, 1) := by decide +kernel
theorem dX11_pass_156 : decode cX11_pass 156 = .ok (.getfield 109, 3) := by decide +kernel
theorem dX11_pass_159 : decode cX11_pass 159 = .ok (.ifCond .ne 14, 3) := by decide +kernel
theorem dX11_pass_162 : decode cX11_pass 162 = .ok (.aload_n 0, 1) := by decide +kernel
theorem dX11_pass_163 : decode cX11_pass 163 = .ok (.getfield 100, 3) := by decide +kernel
theorem dX11_pass_166 : decode cX11_pass 166 = .ok (.ifCond .eq 7, 3) := by decide +kernel
theorem dX11_pass_169 : decode cX11_pass 169 = .ok (.iconst 1, 1) := by decide +kernel
theorem dX11_pass_170 : decode cX11_pass 170 = .ok (.goto 4, 3) := by decide +kernel
theorem dX11_pass_173 : decode cX11_pass 173 = .ok (.iconst 0, 1) := by decide +kernel
theorem dX11_pass_174 : decode cX11_pass 174 = .ok (.istore_n 1, 1) := by decide +kernel
theorem dX11_pass_175 : decode cX11_pass 175 = .ok (.goto (-113), 3) := by decide +kernel
theorem dX11_pass_178 : decode cX11_pass 178 = .ok (.aload_n 0, 1) := by decide +kernel
theorem dX11_pass_179 : decode cX11_pass 179 = .ok (.iconst 0, 1) := by decide +kernel
theorem dX11_pass_180 : decode cX11_pass 180 = .ok (.putfield 76, 3) := by decide +kernel
theorem dX11_pass_183 : decode cX11_pass 183 = .ok (.aload_n 0, 1) := by decide +kernel
theorem dX11_pass_184 : decode cX11_pass 184 = .ok (.getfield 109, 3) := by decide +kernel
theorem dX11_pass_187 : decode cX11_pass 187 = .ok (.ifCond .le 21, 3) := by decide +kernel
theorem dX11_pass_190 : decode cX11_pass 190 = .ok (.aload_n 0, 1) := by decide +kernel
theorem dX11_pass_191 : decode cX11_pass 191 = .ok (.aload_n 0, 1) := by decide +kernel
theorem dX11_pass_192 : decode cX11_pass 192 = .ok (.getfield 109, 3) := by decide +kernel
theorem dX11_pass_195 : decode cX11_pass 195 = .ok (.putfield 145, 3) := by decide +kernel
theorem dX11_pass_198 : decode cX11_pass 198 = .ok (.ldc2_w 148, 3) := by decide +kernel
theorem dX11_pass_201 : decode cX11_pass 201 = .ok (.aload_n 0, 1) := by decide +kernel
theorem dX11_pass_202 : decode cX11_pass 202 = .ok (.getfield 112, 3) := by decide +kernel
theorem dX11_pass_205 : decode cX11_pass 205 = .ok (.i2l, 1) := by decide +kernel
theorem dX11_pass_206 : decode cX11_pass 206 = .ok (.lsub, 1) := by decide +kernel
theorem dX11_pass_207 : decode cX11_pass 207 = .ok (.lreturn, 1) := by decide +kernel
theorem dX11_pass_208 : decode cX11_pass 208 = .ok (.aload_n 0, 1) := by decide +kernel
theorem dX11_pass_209 : decode cX11_pass 209 = .ok (.sipush 420, 3) := by decide +kernel
theorem dX11_pass_212 : decode cX11_pass 212 = .ok (.iconst 0, 1) := by decide +kernel
theorem dX11_pass_213 : decode cX11_pass 213 = .ok (.invokevirtual 150, 3) := by decide +kernel
theorem dX11_pass_216 : decode cX11_pass 216 = .ok (.aload_n 0, 1) := by decide +kernel
theorem dX11_pass_217 : decode cX11_pass 217 = .ok (.getfield 7, 3) := by decide +kernel
theorem dX11_pass_220 : decode cX11_pass 220 = .ok (.bipush 17, 2) := by decide +kernel
theorem dX11_pass_222 : decode cX11_pass 222 = .ok (.laload, 1) := by decide +kernel
theorem dX11_pass_223 : decode cX11_pass 223 = .ok (.lreturn, 1) := by decide +kernel
theorem dX11_copyPass_0 : decode cX11_copyPass 0 = .ok (.iconst 0, 1) := by decide +kernel
theorem dX11_copyPass_1 : decode cX11_copyPass 1 = .ok (.istore_n 3, 1) := by decide +kernel
theorem dX11_copyPass_2 : decode cX11_copyPass 2 = .ok (.iload_n 3, 1) := by decide +kernel
theorem dX11_copyPass_3 : decode cX11_copyPass 3 = .ok (.sipush 140, 3) := by decide +kernel
theorem dX11_copyPass_6 : decode cX11_copyPass 6 = .ok (.if_icmp .ge 25, 3) := by decide +kernel
theorem dX11_copyPass_9 : decode cX11_copyPass 9 = .ok (.aload_n 0, 1) := by decide +kernel
theorem dX11_copyPass_10 : decode cX11_copyPass 10 = .ok (.getfield 7, 3) := by decide +kernel
theorem dX11_copyPass_13 : decode cX11_copyPass 13 = .ok (.iload_n 2, 1) := by decide +kernel
theorem dX11_copyPass_14 : decode cX11_copyPass 14 = .ok (.iload_n 3, 1) := by decide +kernel
theorem dX11_copyPass_15 : decode cX11_copyPass 15 = .ok (.iadd, 1) := by decide +kernel
theorem dX11_copyPass_16 : decode cX11_copyPass 16 = .ok (.aload_n 0, 1) := by decide +kernel
theorem dX11_copyPass_17 : decode cX11_copyPass 17 = .ok (.getfield 7, 3) := by decide +kernel
theorem dX11_copyPass_20 : decode cX11_copyPass 20 = .ok (.iload_n 1, 1) := by decide +kernel
theorem dX11_copyPass_21 : decode cX11_copyPass 21 = .ok (.iload_n 3, 1) := by decide +kernel
theorem dX11_copyPass_22 : decode cX11_copyPass 22 = .ok (.iadd, 1) := by decide +kernel
theorem dX11_copyPass_23 : decode cX11_copyPass 23 = .ok (.laload, 1) := by decide +kernel
theorem dX11_copyPass_24 : decode cX11_copyPass 24 = .ok (.lastore, 1) := by decide +kernel
theorem dX11_copyPass_25 : decode cX11_copyPass 25 = .ok (.iinc 3 1, 3) := by decide +kernel
theorem dX11_copyPass_28 : decode cX11_copyPass 28 = .ok (.goto (-26), 3) := by decide +kernel
theorem dX11_copyPass_31 : decode cX11_copyPass 31 = .ok (.return_, 1) := by decide +kernel
theorem dX11_fault_0 : decode cX11_fault 0 = .ok (.aload_n 0, 1) := by decide +kernel
theorem dX11_fault_1 : decode cX11_fault 1 = .ok (.getfield 145, 3) := by decide +kernel
theorem dX11_fault_4 : decode cX11_fault 4 = .ok (.ireturn, 1) := by decide +kernel
theorem dX11_isNone_0 : decode cX11_isNone 0 = .ok (.aload_n 0, 1) := by decide +kernel
theorem dX11_isNone_1 : decode cX11_isNone 1 = .ok (.getfield 7, 3) := by decide +kernel
theorem dX11_isNone_4 : decode cX11_isNone 4 = .ok (.sipush 132, 3) := by decide +kernel
theorem dX11_isNone_7 : decode cX11_isNone 7 = .ok (.laload, 1) := by decide +kernel
theorem dX11_isNone_8 : decode cX11_isNone 8 = .ok (.lconst 0, 1) := by decide +kernel
theorem dX11_isNone_9 : decode cX11_isNone 9 = .ok (.lcmp, 1) := by decide +kernel
theorem dX11_isNone_10 : decode cX11_isNone 10 = .ok (.ifCond .ne 7, 3) := by decide +kernel
theorem dX11_isNone_13 : decode cX11_isNone 13 = .ok (.iconst 1, 1) := by decide +kernel
theorem dX11_isNone_14 : decode cX11_isNone 14 = .ok (.goto 4, 3) := by decide +kernel
theorem dX11_isNone_17 : decode cX11_isNone 17 = .ok (.iconst 0, 1) := by decide +kernel
theorem dX11_isNone_18 : decode cX11_isNone 18 = .ok (.ireturn, 1) := by decide +kernel
set_option maxRecDepth 20000 in
theorem ggX11_isParty_X11_in : GoodIn wsX11_isParty wsX11_in := goodIn_r _ [5] (by decide +kernel) (by decide +kernel)
set_option maxRecDepth 20000 in
theorem gX11_isParty_X11_in : GoodIn wsX11_isParty (va_wsS RX11 46 yX11_in wsX11_in) := goodIn_app (goodIn_of _ (by decide +kernel)) ggX11_isParty_X11_in
theorem dX11_isParty_0 : decode cX11_isParty 0 = .ok (.lload_n 1, 1) := by decide +kernel
theorem dX11_isParty_1 : decode cX11_isParty 1 = .ok (.lconst 0, 1) := by decide +kernel
theorem dX11_isParty_2 : decode cX11_isParty 2 = .ok (.aload_n 0, 1) := by decide +kernel
theorem dX11_isParty_3 : decode cX11_isParty 3 = .ok (.getfield 7, 3) := by decide +kernel
theorem dX11_isParty_6 : decode cX11_isParty 6 = .ok (.bipush 17, 2) := by decide +kernel
theorem dX11_isParty_8 : decode cX11_isParty 8 = .ok (.laload, 1) := by decide +kernel
theorem dX11_isParty_9 : decode cX11_isParty 9 = .ok (.lconst 1, 1) := by decide +kernel
theorem dX11_isParty_10 : decode cX11_isParty 10 = .ok (.lsub, 1) := by decide +kernel
theorem dX11_isParty_11 : decode cX11_isParty 11 = .ok (.invokestatic 46, 3) := by decide +kernel
theorem dX11_isParty_14 : decode cX11_isParty 14 = .ok (.ireturn, 1) := by decide +kernel
theorem dX11_dueOf_0 : decode cX11_dueOf 0 = .ok (.aload_n 0, 1) := by decide +kernel
theorem dX11_dueOf_1 : decode cX11_dueOf 1 = .ok (.getfield 7, 3) := by decide +kernel
theorem dX11_dueOf_4 : decode cX11_dueOf 4 = .ok (.iconst 3, 1) := by decide +kernel
theorem dX11_dueOf_5 : decode cX11_dueOf 5 = .ok (.laload, 1) := by decide +kernel
theorem dX11_dueOf_6 : decode cX11_dueOf 6 = .ok (.l2i, 1) := by decide +kernel
theorem dX11_dueOf_7 : decode cX11_dueOf 7 = .ok (.istore_n 3, 1) := by decide +kernel
theorem dX11_dueOf_8 : decode cX11_dueOf 8 = .ok (.aload_n 0, 1) := by decide +kernel
theorem dX11_dueOf_9 : decode cX11_dueOf 9 = .ok (.getfield 7, 3) := by decide +kernel
theorem dX11_dueOf_12 : decode cX11_dueOf 12 = .ok (.iconst 1, 1) := by decide +kernel
theorem dX11_dueOf_13 : decode cX11_dueOf 13 = .ok (.laload, 1) := by decide +kernel
theorem dX11_dueOf_14 : decode cX11_dueOf 14 = .ok (.l2i, 1) := by decide +kernel
theorem dX11_dueOf_15 : decode cX11_dueOf 15 = .ok (.istore 4, 2) := by decide +kernel
theorem dX11_dueOf_17 : decode cX11_dueOf 17 = .ok (.iload_n 1, 1) := by decide +kernel
theorem dX11_dueOf_18 : decode cX11_dueOf 18 = .ok (.ifCond .ne 12, 3) := by decide +kernel
theorem dX11_dueOf_21 : decode cX11_dueOf 21 = .ok (.iload_n 3, 1) := by decide +kernel
theorem dX11_dueOf_22 : decode cX11_dueOf 22 = .ok (.iload_n 2, 1) := by decide +kernel
theorem dX11_dueOf_23 : decode cX11_dueOf 23 = .ok (.imul, 1) := by decide +kernel
theorem dX11_dueOf_24 : decode cX11_dueOf 24 = .ok (.iload 4, 2) := by decide +kernel
theorem dX11_dueOf_26 : decode cX11_dueOf 26 = .ok (.imul, 1) := by decide +kernel
theorem dX11_dueOf_27 : decode cX11_dueOf 27 = .ok (.goto 28, 3) := by decide +kernel
theorem dX11_dueOf_30 : decode cX11_dueOf 30 = .ok (.iload_n 1, 1) := by decide +kernel
theorem dX11_dueOf_31 : decode cX11_dueOf 31 = .ok (.iconst 1, 1) := by decide +kernel
theorem dX11_dueOf_32 : decode cX11_dueOf 32 = .ok (.if_icmp .ne 10, 3) := by decide +kernel
theorem dX11_dueOf_35 : decode cX11_dueOf 35 = .ok (.iload_n 3, 1) := by decide +kernel
theorem dX11_dueOf_36 : decode cX11_dueOf 36 = .ok (.iload 4, 2) := by decide +kernel
theorem dX11_dueOf_38 : decode cX11_dueOf 38 = .ok (.imul, 1) := by decide +kernel
theorem dX11_dueOf_39 : decode cX11_dueOf 39 = .ok (.goto 16, 3) := by decide +kernel
theorem dX11_dueOf_42 : decode cX11_dueOf 42 = .ok (.iload_n 3, 1) := by decide +kernel
theorem dX11_dueOf_43 : decode cX11_dueOf 43 = .ok (.iload 4, 2) := by decide +kernel
theorem dX11_dueOf_45 : decode cX11_dueOf 45 = .ok (.imul, 1) := by decide +kernel
theorem dX11_dueOf_46 : decode cX11_dueOf 46 = .ok (.iload_n 2, 1) := by decide +kernel
theorem dX11_dueOf_47 : decode cX11_dueOf 47 = .ok (.iconst 1, 1) := by decide +kernel
theorem dX11_dueOf_48 : decode cX11_dueOf 48 = .ok (.isub, 1) := by decide +kernel
theorem dX11_dueOf_49 : decode cX11_dueOf 49 = .ok (.iload 4, 2) := by decide +kernel
theorem dX11_dueOf_51 : decode cX11_dueOf 51 = .ok (.imul, 1) := by decide +kernel
theorem dX11_dueOf_52 : decode cX11_dueOf 52 = .ok (.iconst 2, 1) := by decide +kernel
theorem dX11_dueOf_53 : decode cX11_dueOf 53 = .ok (.idiv, 1) := by decide +kernel
theorem dX11_dueOf_54 : decode cX11_dueOf 54 = .ok (.iadd, 1) := by decide +kernel
theorem dX11_dueOf_55 : decode cX11_dueOf 55 = .ok (.ireturn, 1) := by decide +kernel
theorem dX11_leaves_0 : decode cX11_leaves 0 = .ok (.aload_n 0, 1) := by decide +kernel
theorem dX11_leaves_1 : decode cX11_leaves 1 = .ok (.getfield 7, 3) := by decide +kernel
theorem dX11_leaves_4 : decode cX11_leaves 4 = .ok (.bipush 34, 2) := by decide +kernel
theorem dX11_leaves_6 : decode cX11_leaves 6 = .ok (.iload_n 1, 1) := by decide +kernel
theorem dX11_leaves_7 : decode cX11_leaves 7 = .ok (.iadd, 1) := by decide +kernel
theorem dX11_leaves_8 : decode cX11_leaves 8 = .ok (.laload, 1) := by decide +kernel
theorem dX11_leaves_9 : decode cX11_leaves 9 = .ok (.l2i, 1) := by decide +kernel
theorem dX11_leaves_10 : decode cX11_leaves 10 = .ok (.istore_n 3, 1) := by decide +kernel
theorem dX11_leaves_11 : decode cX11_leaves 11 = .ok (.aload_n 0, 1) := by decide +kernel
theorem dX11_leaves_12 : decode cX11_leaves 12 = .ok (.getfield 7, 3) := by decide +kernel
theorem dX11_leaves_15 : decode cX11_leaves 15 = .ok (.bipush 50, 2) := by decide +kernel
theorem dX11_leaves_17 : decode cX11_leaves 17 = .ok (.iload_n 1, 1) := by decide +kernel
theorem dX11_leaves_18 : decode cX11_leaves 18 = .ok (.iadd, 1) := by decide +kernel
theorem dX11_leaves_19 : decode cX11_leaves 19 = .ok (.laload, 1) := by decide +kernel
theorem dX11_leaves_20 : decode cX11_leaves 20 = .ok (.iload_n 2, 1) := by decide +kernel
theorem dX11_leaves_21 : decode cX11_leaves 21 = .ok (.i2l, 1) := by decide +kernel
theorem dX11_leaves_22 : decode cX11_leaves 22 = .ok (.lmul, 1) := by decide +kernel
theorem dX11_leaves_23 : decode cX11_leaves 23 = .ok (.lstore 4, 2) := by decide +kernel
theorem dX11_leaves_25 : decode cX11_leaves 25 = .ok (.lload 4, 2) := by decide +kernel
theorem dX11_leaves_27 : decode cX11_leaves 27 = .ok (.ldc2_w 154, 3) := by decide +kernel
theorem dX11_leaves_30 : decode cX11_leaves 30 = .ok (.lcmp, 1) := by decide +kernel
theorem dX11_leaves_31 : decode cX11_leaves 31 = .ok (.ifCond .le 32, 3) := by decide +kernel
theorem dX11_leaves_34 : decode cX11_leaves 34 = .ok (.lload 4, 2) := by decide +kernel
theorem dX11_leaves_36 : decode cX11_leaves 36 = .ok (.ldc2_w 156, 3) := by decide +kernel
theorem dX11_leaves_39 : decode cX11_leaves 39 = .ok (.lcmp, 1) := by decide +kernel
theorem dX11_leaves_40 : decode cX11_leaves 40 = .ok (.ifCond .gt 27, 3) := by decide +kernel
theorem dX11_leaves_43 : decode cX11_leaves 43 = .ok (.aload_n 0, 1) := by decide +kernel
theorem dX11_leaves_44 : decode cX11_leaves 44 = .ok (.getfield 7, 3) := by decide +kernel
theorem dX11_leaves_47 : decode cX11_leaves 47 = .ok (.iconst 0, 1) := by decide +kernel
theorem dX11_leaves_48 : decode cX11_leaves 48 = .ok (.laload, 1) := by decide +kernel
theorem dX11_leaves_49 : decode cX11_leaves 49 = .ok (.ldc2_w 54, 3) := by decide +kernel
theorem dX11_leaves_52 : decode cX11_leaves 52 = .ok (.aload_n 0, 1) := by decide +kernel
theorem dX11_leaves_53 : decode cX11_leaves 53 = .ok (.getfield 7, 3) := by decide +kernel
theorem dX11_leaves_56 : decode cX11_leaves 56 = .ok (.iconst 1, 1) := by decide +kernel
theorem dX11_leaves_57 : decode cX11_leaves 57 = .ok (.laload, 1) := by decide +kernel
theorem dX11_leaves_58 : decode cX11_leaves 58 = .ok (.lmul, 1) := by decide +kernel
theorem dX11_leaves_59 : decode cX11_leaves 59 = .ok (.lcmp, 1) := by decide +kernel
theorem dX11_leaves_60 : decode cX11_leaves 60 = .ok (.ifCond .ge 7, 3) := by decide +kernel
theorem dX11_leaves_63 : decode cX11_leaves 63 = .ok (.iconst 1, 1) := by decide +kernel
theorem dX11_leaves_64 : decode cX11_leaves 64 = .ok (.goto 4, 3) := by decide +kernel
theorem dX11_leaves_67 : decode cX11_leaves 67 = .ok (.iconst 0, 1) := by decide +kernel
theorem dX11_leaves_68 : decode cX11_leaves 68 = .ok (.istore 6, 2) := by decide +kernel
theorem dX11_leaves_70 : decode cX11_leaves 70 = .ok (.iload_n 3, 1) := by decide +kernel
theorem dX11_leaves_71 : decode cX11_leaves 71 = .ok (.ifCond .ne 7, 3) := by decide +kernel
theorem dX11_leaves_74 : decode cX11_leaves 74 = .ok (.iload_n 2, 1) := by decide +kernel
theorem dX11_leaves_75 : decode cX11_leaves 75 = .ok (.goto 29, 3) := by decide +kernel
theorem dX11_leaves_78 : decode cX11_leaves 78 = .ok (.iload_n 3, 1) := by decide +kernel
theorem dX11_leaves_79 : decode cX11_leaves 79 = .ok (.iconst 1, 1) := by decide +kernel
theorem dX11_leaves_80 : decode cX11_leaves 80 = .ok (.if_icmp .ne 9, 3) := by decide +kernel
theorem dX11_leaves_83 : decode cX11_leaves 83 = .ok (.iload_n 2, 1) := by decide +kernel
theorem dX11_leaves_84 : decode cX11_leaves 84 = .ok (.iconst 2, 1) := by decide +kernel
theorem dX11_leaves_85 : decode cX11_leaves 85 = .ok (.idiv, 1) := by decide +kernel
theorem dX11_leaves_86 : decode cX11_leaves 86 = .ok (.goto 18, 3) := by decide +kernel
theorem dX11_leaves_89 : decode cX11_leaves 89 = .ok (.iload_n 3, 1) := by decide +kernel
theorem dX11_leaves_90 : decode cX11_leaves 90 = .ok (.iconst 3, 1) := by decide +kernel
theorem dX11_leaves_91 : decode cX11_leaves 91 = .ok (.if_icmp .ne 12, 3) := by decide +kernel
theorem dX11_leaves_94 : decode cX11_leaves 94 = .ok (.iload 6, 2) := by decide +kernel
theorem dX11_leaves_96 : decode cX11_leaves 96 = .ok (.ifCond .eq 7, 3) := by decide +kernel
theorem dX11_leaves_99 : decode cX11_leaves 99 = .ok (.iload_n 2, 1) := by decide +kernel
theorem dX11_leaves_100 : decode cX11_leaves 100 = .ok (.goto 4, 3) := by decide +kernel
theorem dX11_leaves_103 : decode cX11_leaves 103 = .ok (.iconst 0, 1) := by decide +kernel
theorem dX11_leaves_104 : decode cX11_leaves 104 = .ok (.ireturn, 1) := by decide +kernel
set_option maxRecDepth 20000 in
theorem ggX11_sleep_X11_dueOf : GoodIn wsX11_sleep wsX11_dueOf := goodIn_r _ [7, 1, 15, 16, 17, 18, 19, 20, 21, 22, 23, 24, 25, 26, 27, 28, 29, 30, 31, 32, 33, 34] (by decide +kernel) (by decide +kernel)
set_option maxRecDepth 20000 in
theorem gX11_sleep_X11_dueOf : GoodIn wsX11_sleep (wsV RX11 158 RX11 yX11_dueOf wsX11_dueOf) := goodIn_app (goodIn_of _ (by decide +kernel)) ggX11_sleep_X11_dueOf
set_option maxRecDepth 20000 in
theorem ggX11_sleep_X11_leaves : GoodIn wsX11_sleep wsX11_leaves := goodIn_r _ [11, 1, 12, 13, 14, 15, 16, 17, 18, 19, 20, 21, 22, 23, 24, 25, 26, 27, 28, 29, 30, 31, 32, 33, 34] (by decide +kernel) (by decide +kernel)
set_option maxRecDepth 20000 in
theorem gX11_sleep_X11_leaves : GoodIn wsX11_sleep (wsV RX11 161 RX11 yX11_leaves wsX11_leaves) := goodIn_app (goodIn_of _ (by decide +kernel)) ggX11_sleep_X11_leaves
theorem dX11_sleep_0 : decode cX11_sleep 0 = .ok (.aload_n 0, 1) := by decide +kernel
theorem dX11_sleep_1 : decode cX11_sleep 1 = .ok (.getfield 7, 3) := by decide +kernel
theorem dX11_sleep_4 : decode cX11_sleep 4 = .ok (.bipush 18, 2) := by decide +kernel
theorem dX11_sleep_6 : decode cX11_sleep 6 = .ok (.iload_n 1, 1) := by decide +kernel
theorem dX11_sleep_7 : decode cX11_sleep 7 = .ok (.iadd, 1) := by decide +kernel
theorem dX11_sleep_8 : decode cX11_sleep 8 = .ok (.laload, 1) := by decide +kernel
theorem dX11_sleep_9 : decode cX11_sleep 9 = .ok (.l2i, 1) := by decide +kernel
theorem dX11_sleep_10 : decode cX11_sleep 10 = .ok (.istore_n 2, 1) := by decide +kernel
theorem dX11_sleep_11 : decode cX11_sleep 11 = .ok (.aload_n 0, 1) := by decide +kernel
theorem dX11_sleep_12 : decode cX11_sleep 12 = .ok (.getfield 7, 3) := by decide +kernel
theorem dX11_sleep_15 : decode cX11_sleep 15 = .ok (.iconst 1, 1) := by decide +kernel
theorem dX11_sleep_16 : decode cX11_sleep 16 = .ok (.laload, 1) := by decide +kernel
theorem dX11_sleep_17 : decode cX11_sleep 17 = .ok (.l2i, 1) := by decide +kernel
theorem dX11_sleep_18 : decode cX11_sleep 18 = .ok (.istore_n 3, 1) := by decide +kernel
theorem dX11_sleep_19 : decode cX11_sleep 19 = .ok (.iload_n 2, 1) := by decide +kernel
theorem dX11_sleep_20 : decode cX11_sleep 20 = .ok (.iload_n 3, 1) := by decide +kernel
theorem dX11_sleep_21 : decode cX11_sleep 21 = .ok (.imul, 1) := by decide +kernel
theorem dX11_sleep_22 : decode cX11_sleep 22 = .ok (.istore 4, 2) := by decide +kernel
theorem dX11_sleep_24 : decode cX11_sleep 24 = .ok (.iload 4, 2) := by decide +kernel
theorem dX11_sleep_26 : decode cX11_sleep 26 = .ok (.i2l, 1) := by decide +kernel
theorem dX11_sleep_27 : decode cX11_sleep 27 = .ok (.aload_n 0, 1) := by decide +kernel
theorem dX11_sleep_28 : decode cX11_sleep 28 = .ok (.getfield 7, 3) := by decide +kernel
theorem dX11_sleep_31 : decode cX11_sleep 31 = .ok (.iconst 0, 1) := by decide +kernel
theorem dX11_sleep_32 : decode cX11_sleep 32 = .ok (.laload, 1) := by decide +kernel
theorem dX11_sleep_33 : decode cX11_sleep 33 = .ok (.lcmp, 1) := by decide +kernel
theorem dX11_sleep_34 : decode cX11_sleep 34 = .ok (.ifCond .le 16, 3) := by decide +kernel
theorem dX11_sleep_37 : decode cX11_sleep 37 = .ok (.iload 4, 2) := by decide +kernel
theorem dX11_sleep_39 : decode cX11_sleep 39 = .ok (.aload_n 0, 1) := by decide +kernel
theorem dX11_sleep_40 : decode cX11_sleep 40 = .ok (.getfield 7, 3) := by decide +kernel
theorem dX11_sleep_43 : decode cX11_sleep 43 = .ok (.iconst 0, 1) := by decide +kernel
theorem dX11_sleep_44 : decode cX11_sleep 44 = .ok (.laload, 1) := by decide +kernel
theorem dX11_sleep_45 : decode cX11_sleep 45 = .ok (.l2i, 1) := by decide +kernel
theorem dX11_sleep_46 : decode cX11_sleep 46 = .ok (.isub, 1) := by decide +kernel
theorem dX11_sleep_47 : decode cX11_sleep 47 = .ok (.goto 4, 3) := by decide +kernel
theorem dX11_sleep_50 : decode cX11_sleep 50 = .ok (.iconst 0, 1) := by decide +kernel
theorem dX11_sleep_51 : decode cX11_sleep 51 = .ok (.istore 5, 2) := by decide +kernel
theorem dX11_sleep_53 : decode cX11_sleep 53 = .ok (.iload 5, 2) := by decide +kernel
theorem dX11_sleep_55 : decode cX11_sleep 55 = .ok (.iload_n 3, 1) := by decide +kernel
theorem dX11_sleep_56 : decode cX11_sleep 56 = .ok (.iadd, 1) := by decide +kernel
theorem dX11_sleep_57 : decode cX11_sleep 57 = .ok (.iconst 1, 1) := by decide +kernel
theorem dX11_sleep_58 : decode cX11_sleep 58 = .ok (.isub, 1) := by decide +kernel
theorem dX11_sleep_59 : decode cX11_sleep 59 = .ok (.iload_n 3, 1) := by decide +kernel
theorem dX11_sleep_60 : decode cX11_sleep 60 = .ok (.idiv, 1) := by decide +kernel
theorem dX11_sleep_61 : decode cX11_sleep 61 = .ok (.istore 6, 2) := by decide +kernel
theorem dX11_sleep_63 : decode cX11_sleep 63 = .ok (.aload_n 0, 1) := by decide +kernel
theorem dX11_sleep_64 : decode cX11_sleep 64 = .ok (.getfield 7, 3) := by decide +kernel
theorem dX11_sleep_67 : decode cX11_sleep 67 = .ok (.iconst 0, 1) := by decide +kernel
theorem dX11_sleep_68 : decode cX11_sleep 68 = .ok (.dup2, 1) := by decide +kernel
theorem dX11_sleep_69 : decode cX11_sleep 69 = .ok (.laload, 1) := by decide +kernel
theorem dX11_sleep_70 : decode cX11_sleep 70 = .ok (.iload 4, 2) := by decide +kernel
theorem dX11_sleep_72 : decode cX11_sleep 72 = .ok (.iload 5, 2) := by decide +kernel
theorem dX11_sleep_74 : decode cX11_sleep 74 = .ok (.isub, 1) := by decide +kernel
theorem dX11_sleep_75 : decode cX11_sleep 75 = .ok (.i2l, 1) := by decide +kernel
theorem dX11_sleep_76 : decode cX11_sleep 76 = .ok (.lsub, 1) := by decide +kernel
theorem dX11_sleep_77 : decode cX11_sleep 77 = .ok (.lastore, 1) := by decide +kernel
theorem dX11_sleep_78 : decode cX11_sleep 78 = .ok (.aload_n 0, 1) := by decide +kernel
theorem dX11_sleep_79 : decode cX11_sleep 79 = .ok (.aload_n 0, 1) := by decide +kernel
theorem dX11_sleep_80 : decode cX11_sleep 80 = .ok (.getfield 7, 3) := by decide +kernel
theorem dX11_sleep_83 : decode cX11_sleep 83 = .ok (.iconst 2, 1) := by decide +kernel
theorem dX11_sleep_84 : decode cX11_sleep 84 = .ok (.laload, 1) := by decide +kernel
theorem dX11_sleep_85 : decode cX11_sleep 85 = .ok (.l2i, 1) := by decide +kernel
theorem dX11_sleep_86 : decode cX11_sleep 86 = .ok (.iload_n 2, 1) := by decide +kernel
theorem dX11_sleep_87 : decode cX11_sleep 87 = .ok (.invokevirtual 158, 3) := by decide +kernel
theorem dX11_sleep_90 : decode cX11_sleep 90 = .ok (.istore 7, 2) := by decide +kernel
theorem dX11_sleep_92 : decode cX11_sleep 92 = .ok (.aload_n 0, 1) := by decide +kernel
theorem dX11_sleep_93 : decode cX11_sleep 93 = .ok (.iload_n 1, 1) := by decide +kernel
theorem dX11_sleep_94 : decode cX11_sleep 94 = .ok (.iload 7, 2) := by decide +kernel
theorem dX11_sleep_96 : decode cX11_sleep 96 = .ok (.invokevirtual 161, 3) := by decide +kernel
theorem dX11_sleep_99 : decode cX11_sleep 99 = .ok (.istore 8, 2) := by decide +kernel
theorem dX11_sleep_101 : decode cX11_sleep 101 = .ok (.aload_n 0, 1) := by decide +kernel
theorem dX11_sleep_102 : decode cX11_sleep 102 = .ok (.getfield 7, 3) := by decide +kernel
theorem dX11_sleep_105 : decode cX11_sleep 105 = .ok (.iconst 0, 1) := by decide +kernel
theorem dX11_sleep_106 : decode cX11_sleep 106 = .ok (.aload_n 0, 1) := by decide +kernel
theorem dX11_sleep_107 : decode cX11_sleep 107 = .ok (.getfield 7, 3) := by decide +kernel
theorem dX11_sleep_110 : decode cX11_sleep 110 = .ok (.iconst 0, 1) := by decide +kernel
theorem dX11_sleep_111 : decode cX11_sleep 111 = .ok (.laload, 1) := by decide +kernel
theorem dX11_sleep_112 : decode cX11_sleep 112 = .ok (.iload 8, 2) := by decide +kernel
theorem dX11_sleep_114 : decode cX11_sleep 114 = .ok (.i2l, 1) := by decide +kernel
theorem dX11_sleep_115 : decode cX11_sleep 115 = .ok (.ladd, 1) := by decide +kernel
theorem dX11_sleep_116 : decode cX11_sleep 116 = .ok (.ldc2_w 164, 3) := by decide +kernel
theorem dX11_sleep_119 : decode cX11_sleep 119 = .ok (.lcmp, 1) := by decide +kernel
theorem dX11_sleep_120 : decode cX11_sleep 120 = .ok (.ifCond .le 9, 3) := by decide +kernel
theorem dX11_sleep_123 : decode cX11_sleep 123 = .ok (.ldc2_w 164, 3) := by decide +kernel
theorem dX11_sleep_126 : decode cX11_sleep 126 = .ok (.goto 13, 3) := by decide +kernel
theorem dX11_sleep_129 : decode cX11_sleep 129 = .ok (.aload_n 0, 1) := by decide +kernel
theorem dX11_sleep_130 : decode cX11_sleep 130 = .ok (.getfield 7, 3) := by decide +kernel
theorem dX11_sleep_133 : decode cX11_sleep 133 = .ok (.iconst 0, 1) := by decide +kernel
theorem dX11_sleep_134 : decode cX11_sleep 134 = .ok (.laload, 1) := by decide +kernel
theorem dX11_sleep_135 : decode cX11_sleep 135 = .ok (.iload 8, 2) := by decide +kernel
theorem dX11_sleep_137 : decode cX11_sleep 137 = .ok (.i2l, 1) := by decide +kernel
theorem dX11_sleep_138 : decode cX11_sleep 138 = .ok (.ladd, 1) := by decide +kernel
theorem dX11_sleep_139 : decode cX11_sleep 139 = .ok (.lastore, 1) := by decide +kernel
theorem dX11_sleep_140 : decode cX11_sleep 140 = .ok (.aload_n 0, 1) := by decide +kernel
theorem dX11_sleep_141 : decode cX11_sleep 141 = .ok (.getfield 7, 3) := by decide +kernel
theorem dX11_sleep_144 : decode cX11_sleep 144 = .ok (.bipush 66, 2) := by decide +kernel
theorem dX11_sleep_146 : decode cX11_sleep 146 = .ok (.iload_n 1, 1) := by decide +kernel
theorem dX11_sleep_147 : decode cX11_sleep 147 = .ok (.iadd, 1) := by decide +kernel
theorem dX11_sleep_148 : decode cX11_sleep 148 = .ok (.dup2, 1) := by decide +kernel
theorem dX11_sleep_149 : decode cX11_sleep 149 = .ok (.laload, 1) := by decide +kernel
theorem dX11_sleep_150 : decode cX11_sleep 150 = .ok (.lconst 1, 1) := by decide +kernel
theorem dX11_sleep_151 : decode cX11_sleep 151 = .ok (.ladd, 1) := by decide +kernel
theorem dX11_sleep_152 : decode cX11_sleep 152 = .ok (.lastore, 1) := by decide +kernel
theorem dX11_sleep_153 : decode cX11_sleep 153 = .ok (.aload_n 0, 1) := by decide +kernel
theorem dX11_sleep_154 : decode cX11_sleep 154 = .ok (.getfield 7, 3) := by decide +kernel
theorem dX11_sleep_157 : decode cX11_sleep 157 = .ok (.bipush 82, 2) := by decide +kernel
theorem dX11_sleep_159 : decode cX11_sleep 159 = .ok (.iload_n 1, 1) := by decide +kernel
theorem dX11_sleep_160 : decode cX11_sleep 160 = .ok (.iadd, 1) := by decide +kernel
theorem dX11_sleep_161 : decode cX11_sleep 161 = .ok (.dup2, 1) := by decide +kernel
theorem dX11_sleep_162 : decode cX11_sleep 162 = .ok (.laload, 1) := by decide +kernel
theorem dX11_sleep_163 : decode cX11_sleep 163 = .ok (.iload 6, 2) := by decide +kernel
theorem dX11_sleep_165 : decode cX11_sleep 165 = .ok (.i2l, 1) := by decide +kernel
theorem dX11_sleep_166 : decode cX11_sleep 166 = .ok (.ladd, 1) := by decide +kernel
theorem dX11_sleep_167 : decode cX11_sleep 167 = .ok (.lastore, 1) := by decide +kernel
theorem dX11_sleep_168 : decode cX11_sleep 168 = .ok (.aload_n 0, 1) := by decide +kernel
theorem dX11_sleep_169 : decode cX11_sleep 169 = .ok (.getfield 7, 3) := by decide +kernel
theorem dX11_sleep_172 : decode cX11_sleep 172 = .ok (.bipush 98, 2) := by decide +kernel
theorem dX11_sleep_174 : decode cX11_sleep 174 = .ok (.iload_n 1, 1) := by decide +kernel
theorem dX11_sleep_175 : decode cX11_sleep 175 = .ok (.iadd, 1) := by decide +kernel
theorem dX11_sleep_176 : decode cX11_sleep 176 = .ok (.dup2, 1) := by decide +kernel
theorem dX11_sleep_177 : decode cX11_sleep 177 = .ok (.laload, 1) := by decide +kernel
theorem dX11_sleep_178 : decode cX11_sleep 178 = .ok (.iload 8, 2) := by decide +kernel
theorem dX11_sleep_180 : decode cX11_sleep 180 = .ok (.i2l, 1) := by decide +kernel
theorem dX11_sleep_181 : decode cX11_sleep 181 = .ok (.ladd, 1) := by decide +kernel
theorem dX11_sleep_182 : decode cX11_sleep 182 = .ok (.lastore, 1) := by decide +kernel
theorem dX11_sleep_183 : decode cX11_sleep 183 = .ok (.aload_n 0, 1) := by decide +kernel
theorem dX11_sleep_184 : decode cX11_sleep 184 = .ok (.getfield 7, 3) := by decide +kernel
theorem dX11_sleep_187 : decode cX11_sleep 187 = .ok (.bipush 114, 2) := by decide +kernel
theorem dX11_sleep_189 : decode cX11_sleep 189 = .ok (.iload_n 1, 1) := by decide +kernel
theorem dX11_sleep_190 : decode cX11_sleep 190 = .ok (.iadd, 1) := by decide +kernel
theorem dX11_sleep_191 : decode cX11_sleep 191 = .ok (.dup2, 1) := by decide +kernel
theorem dX11_sleep_192 : decode cX11_sleep 192 = .ok (.laload, 1) := by decide +kernel
theorem dX11_sleep_193 : decode cX11_sleep 193 = .ok (.iload 7, 2) := by decide +kernel
theorem dX11_sleep_195 : decode cX11_sleep 195 = .ok (.iload 8, 2) := by decide +kernel
theorem dX11_sleep_197 : decode cX11_sleep 197 = .ok (.isub, 1) := by decide +kernel
theorem dX11_sleep_198 : decode cX11_sleep 198 = .ok (.i2l, 1) := by decide +kernel
theorem dX11_sleep_199 : decode cX11_sleep 199 = .ok (.ladd, 1) := by decide +kernel
theorem dX11_sleep_200 : decode cX11_sleep 200 = .ok (.lastore, 1) := by decide +kernel
theorem dX11_sleep_201 : decode cX11_sleep 201 = .ok (.aload_n 0, 1) := by decide +kernel
theorem dX11_sleep_202 : decode cX11_sleep 202 = .ok (.getfield 7, 3) := by decide +kernel
theorem dX11_sleep_205 : decode cX11_sleep 205 = .ok (.sipush 130, 3) := by decide +kernel
theorem dX11_sleep_208 : decode cX11_sleep 208 = .ok (.dup2, 1) := by decide +kernel
theorem dX11_sleep_209 : decode cX11_sleep 209 = .ok (.laload, 1) := by decide +kernel
theorem dX11_sleep_210 : decode cX11_sleep 210 = .ok (.lconst 1, 1) := by decide +kernel
theorem dX11_sleep_211 : decode cX11_sleep 211 = .ok (.ladd, 1) := by decide +kernel
theorem dX11_sleep_212 : decode cX11_sleep 212 = .ok (.lastore, 1) := by decide +kernel
theorem dX11_sleep_213 : decode cX11_sleep 213 = .ok (.aload_n 0, 1) := by decide +kernel
theorem dX11_sleep_214 : decode cX11_sleep 214 = .ok (.getfield 7, 3) := by decide +kernel
theorem dX11_sleep_217 : decode cX11_sleep 217 = .ok (.sipush 131, 3) := by decide +kernel
theorem dX11_sleep_220 : decode cX11_sleep 220 = .ok (.dup2, 1) := by decide +kernel
theorem dX11_sleep_221 : decode cX11_sleep 221 = .ok (.laload, 1) := by decide +kernel
theorem dX11_sleep_222 : decode cX11_sleep 222 = .ok (.iload 6, 2) := by decide +kernel
theorem dX11_sleep_224 : decode cX11_sleep 224 = .ok (.i2l, 1) := by decide +kernel
theorem dX11_sleep_225 : decode cX11_sleep 225 = .ok (.ladd, 1) := by decide +kernel
theorem dX11_sleep_226 : decode cX11_sleep 226 = .ok (.lastore, 1) := by decide +kernel
theorem dX11_sleep_227 : decode cX11_sleep 227 = .ok (.iload 6, 2) := by decide +kernel
theorem dX11_sleep_229 : decode cX11_sleep 229 = .ok (.ireturn, 1) := by decide +kernel
set_option maxRecDepth 20000 in
theorem ggX11_night_X11_isParty : GoodIn wsX11_night wsX11_isParty := goodIn_r _ [6, 7, 8, 9, 5, 10, 27, 28, 29, 30, 31, 32, 33, 34, 35, 36, 37, 38, 39, 40, 41, 42, 43, 44, 45, 46] (by decide +kernel) (by decide +kernel)
set_option maxRecDepth 20000 in
theorem gX11_night_X11_isParty : GoodIn wsX11_night (wsV RX11 166 RX11 yX11_isParty wsX11_isParty) := goodIn_app (goodIn_of _ (by decide +kernel)) ggX11_night_X11_isParty
set_option maxRecDepth 20000 in
theorem ggX11_night_X11_sleep : GoodIn wsX11_night wsX11_sleep := goodIn_r _ [14, 7, 15, 16, 17, 18, 5, 19, 20, 21, 22, 23, 24, 25, 26, 27, 28, 29, 30, 31, 32, 33, 34, 35, 36, 37, 38, 39, 40, 41, 42, 43, 44, 45, 46] (by decide +kernel) (by decide +kernel)
set_option maxRecDepth 20000 in
theorem gX11_night_X11_sleep : GoodIn wsX11_night (wsV RX11 170 RX11 yX11_sleep wsX11_sleep) := goodIn_app (goodIn_of _ (by decide +kernel)) ggX11_night_X11_sleep
theorem dX11_night_0 : decode cX11_night 0 = .ok (.aload_n 0, 1) := by decide +kernel
theorem dX11_night_1 : decode cX11_night 1 = .ok (.iload_n 1, 1) := by decide +kernel
theorem dX11_night_2 : decode cX11_night 2 = .ok (.i2l, 1) := by decide +kernel
theorem dX11_night_3 : decode cX11_night 3 = .ok (.invokevirtual 166, 3) := by decide +kernel
theorem dX11_night_6 : decode cX11_night 6 = .ok (.ifCond .eq 12, 3) := by decide +kernel
theorem dX11_night_9 : decode cX11_night 9 = .ok (.aload_n 0, 1) := by decide +kernel
theorem dX11_night_10 : decode cX11_night 10 = .ok (.iload_n 1, 1) := by decide +kernel
theorem dX11_night_11 : decode cX11_night 11 = .ok (.invokevirtual 170, 3) := by decide +kernel
theorem dX11_night_14 : decode cX11_night 14 = .ok (.i2l, 1) := by decide +kernel
theorem dX11_night_15 : decode cX11_night 15 = .ok (.goto 6, 3) := by decide +kernel
theorem dX11_night_18 : decode cX11_night 18 = .ok (.ldc2_w 56, 3) := by decide +kernel
theorem dX11_night_21 : decode cX11_night 21 = .ok (.lreturn, 1) := by decide +kernel
set_option maxRecDepth 20000 in
theorem ggX11_nights_X11_isNone : GoodIn wsX11_nights wsX11_isNone := goodIn_r _ [10, 11, 53, 54, 55, 56, 57, 58, 59, 60, 61, 62, 63, 64, 65, 66, 67, 68, 69, 70, 71, 72] (by decide +kernel) (by decide +kernel)
set_option maxRecDepth 20000 in
theorem gX11_nights_X11_isNone : GoodIn wsX11_nights (wsV RX11 174 RX11 yX11_isNone wsX11_isNone) := goodIn_app (goodIn_of _ (by decide +kernel)) ggX11_nights_X11_isNone
set_option maxRecDepth 20000 in
theorem ggX11_nights_X11_isRow : GoodIn wsX11_nights wsX11_isRow := goodIn_r _ [15, 16, 17, 18, 9, 19] (by decide +kernel) (by decide +kernel)
set_option maxRecDepth 20000 in
theorem gX11_nights_X11_isRow : GoodIn wsX11_nights (wsV RX11 50 RX11 yX11_isRow wsX11_isRow) := goodIn_app (goodIn_of _ (by decide +kernel)) ggX11_nights_X11_isRow
set_option maxRecDepth 20000 in
theorem ggX11_nights_X11_in : GoodIn wsX11_nights wsX11_in := goodIn_r _ [19] (by decide +kernel) (by decide +kernel)
set_option maxRecDepth 20000 in
theorem gX11_nights_X11_in : GoodIn wsX11_nights (va_wsS RX11 46 yX11_in wsX11_in) := goodIn_app (goodIn_of _ (by decide +kernel)) ggX11_nights_X11_in
set_option maxRecDepth 20000 in
theorem ggX11_nights_X11_found : GoodIn wsX11_nights wsX11_found := goodIn_r _ [23, 24, 25, 53, 54, 55, 56, 57, 58, 59, 60, 61, 62, 63, 64, 65, 66, 67, 68, 69, 70, 71, 72] (by decide +kernel) (by decide +kernel)
set_option maxRecDepth 20000 in
theorem gX11_nights_X11_found : GoodIn wsX11_nights (wsV RX11 58 RX11 yX11_found wsX11_found) := goodIn_app (goodIn_of _ (by decide +kernel)) ggX11_nights_X11_found
set_option maxRecDepth 20000 in
theorem ggX11_nights_X11_isWithin : GoodIn wsX11_nights wsX11_isWithin := goodIn_r _ [28] (by decide +kernel) (by decide +kernel)
set_option maxRecDepth 20000 in
theorem gX11_nights_X11_isWithin : GoodIn wsX11_nights (va_wsS RX11 70 yX11_isWithin wsX11_isWithin) := goodIn_app (goodIn_of _ (by decide +kernel)) ggX11_nights_X11_isWithin
set_option maxRecDepth 20000 in
theorem ggX11_nights_X11_isParty : GoodIn wsX11_nights wsX11_isParty := goodIn_r _ [32, 11, 17, 18, 9, 19, 53, 54, 55, 56, 57, 58, 59, 60, 61, 62, 63, 64, 65, 66, 67, 68, 69, 70, 71, 72] (by decide +kernel) (by decide +kernel)
set_option maxRecDepth 20000 in
theorem gX11_nights_X11_isParty : GoodIn wsX11_nights (wsV RX11 166 RX11 yX11_isParty wsX11_isParty) := goodIn_app (goodIn_of _ (by decide +kernel)) ggX11_nights_X11_isParty
set_option maxRecDepth 20000 in
theorem ggX11_nights_X11_sleep : GoodIn wsX11_nights wsX11_sleep := goodIn_r _ [36, 11, 37, 38, 39, 40, 9, 41, 42, 43, 44, 45, 46, 47, 48, 53, 54, 55, 56, 57, 58, 59, 60, 61, 62, 63, 64, 65, 66, 67, 68, 69, 70, 71, 72] (by decide +kernel) (by decide +kernel)
set_option maxRecDepth 20000 in
theorem gX11_nights_X11_sleep : GoodIn wsX11_nights (wsV RX11 170 RX11 yX11_sleep wsX11_sleep) := goodIn_app (goodIn_of _ (by decide +kernel)) ggX11_nights_X11_sleep
set_option maxRecDepth 20000 in
theorem ggX11_nights_X11_good : GoodIn wsX11_nights wsX11_good := goodIn_r _ [52, 24, 53, 54, 55, 56, 57, 58, 59, 60, 61, 62, 63, 64, 65, 66, 67, 68, 69, 70, 71, 72] (by decide +kernel) (by decide +kernel)
set_option maxRecDepth 20000 in
theorem gX11_nights_X11_good : GoodIn wsX11_nights (wsV RX11 62 RX11 yX11_good wsX11_good) := goodIn_app (goodIn_of _ (by decide +kernel)) ggX11_nights_X11_good
theorem dX11_nights_0 : decode cX11_nights 0 = .ok (.aload_n 0, 1) := by decide +kernel
theorem dX11_nights_1 : decode cX11_nights 1 = .ok (.invokevirtual 174, 3) := by decide +kernel
theorem dX11_nights_4 : decode cX11_nights 4 = .ok (.ifCond .eq 7, 3) := by decide +kernel
theorem dX11_nights_7 : decode cX11_nights 7 = .ok (.ldc2_w 178, 3) := by decide +kernel
theorem dX11_nights_10 : decode cX11_nights 10 = .ok (.lreturn, 1) := by decide +kernel
theorem dX11_nights_11 : decode cX11_nights 11 = .ok (.aload_n 0, 1) := by decide +kernel
theorem dX11_nights_12 : decode cX11_nights 12 = .ok (.iload_n 1, 1) := by decide +kernel
theorem dX11_nights_13 : decode cX11_nights 13 = .ok (.invokevirtual 50, 3) := by decide +kernel
theorem dX11_nights_16 : decode cX11_nights 16 = .ok (.ifCond .eq 15, 3) := by decide +kernel
theorem dX11_nights_19 : decode cX11_nights 19 = .ok (.iload_n 3, 1) := by decide +kernel
theorem dX11_nights_20 : decode cX11_nights 20 = .ok (.i2l, 1) := by decide +kernel
theorem dX11_nights_21 : decode cX11_nights 21 = .ok (.lconst 1, 1) := by decide +kernel
theorem dX11_nights_22 : decode cX11_nights 22 = .ok (.ldc2_w 180, 3) := by decide +kernel
theorem dX11_nights_25 : decode cX11_nights 25 = .ok (.invokestatic 46, 3) := by decide +kernel
theorem dX11_nights_28 : decode cX11_nights 28 = .ok (.ifCond .ne 7, 3) := by decide +kernel
theorem dX11_nights_31 : decode cX11_nights 31 = .ok (.ldc2_w 56, 3) := by decide +kernel
theorem dX11_nights_34 : decode cX11_nights 34 = .ok (.lreturn, 1) := by decide +kernel
theorem dX11_nights_35 : decode cX11_nights 35 = .ok (.aload_n 0, 1) := by decide +kernel
theorem dX11_nights_36 : decode cX11_nights 36 = .ok (.getfield 20, 3) := by decide +kernel
theorem dX11_nights_39 : decode cX11_nights 39 = .ok (.iload_n 1, 1) := by decide +kernel
theorem dX11_nights_40 : decode cX11_nights 40 = .ok (.iaload, 1) := by decide +kernel
theorem dX11_nights_41 : decode cX11_nights 41 = .ok (.ifCond .ge 9, 3) := by decide +kernel
theorem dX11_nights_44 : decode cX11_nights 44 = .ok (.aload_n 0, 1) := by decide +kernel
theorem dX11_nights_45 : decode cX11_nights 45 = .ok (.iconst 1, 1) := by decide +kernel
theorem dX11_nights_46 : decode cX11_nights 46 = .ok (.invokevirtual 58, 3) := by decide +kernel
theorem dX11_nights_49 : decode cX11_nights 49 = .ok (.lreturn, 1) := by decide +kernel
theorem dX11_nights_50 : decode cX11_nights 50 = .ok (.iload_n 2, 1) := by decide +kernel
theorem dX11_nights_51 : decode cX11_nights 51 = .ok (.iload_n 3, 1) := by decide +kernel
theorem dX11_nights_52 : decode cX11_nights 52 = .ok (.aload_n 0, 1) := by decide +kernel
theorem dX11_nights_53 : decode cX11_nights 53 = .ok (.getfield 20, 3) := by decide +kernel
theorem dX11_nights_56 : decode cX11_nights 56 = .ok (.iload_n 1, 1) := by decide +kernel
theorem dX11_nights_57 : decode cX11_nights 57 = .ok (.iaload, 1) := by decide +kernel
theorem dX11_nights_58 : decode cX11_nights 58 = .ok (.invokestatic 70, 3) := by decide +kernel
theorem dX11_nights_61 : decode cX11_nights 61 = .ok (.ifCond .ne 9, 3) := by decide +kernel
theorem dX11_nights_64 : decode cX11_nights 64 = .ok (.aload_n 0, 1) := by decide +kernel
theorem dX11_nights_65 : decode cX11_nights 65 = .ok (.iconst 2, 1) := by decide +kernel
theorem dX11_nights_66 : decode cX11_nights 66 = .ok (.invokevirtual 58, 3) := by decide +kernel
theorem dX11_nights_69 : decode cX11_nights 69 = .ok (.lreturn, 1) := by decide +kernel
theorem dX11_nights_70 : decode cX11_nights 70 = .ok (.iconst 0, 1) := by decide +kernel
theorem dX11_nights_71 : decode cX11_nights 71 = .ok (.istore 4, 2) := by decide +kernel
theorem dX11_nights_73 : decode cX11_nights 73 = .ok (.iload 4, 2) := by decide +kernel
theorem dX11_nights_75 : decode cX11_nights 75 = .ok (.iload_n 3, 1) := by decide +kernel
theorem dX11_nights_76 : decode cX11_nights 76 = .ok (.if_icmp .ge 35, 3) := by decide +kernel
theorem dX11_nights_79 : decode cX11_nights 79 = .ok (.aload_n 0, 1) := by decide +kernel
theorem dX11_nights_80 : decode cX11_nights 80 = .ok (.aload_n 0, 1) := by decide +kernel
