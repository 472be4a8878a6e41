set_option maxRecDepth 20000 in
theorem ggX10_init_X6_init : GoodIn wsX10_init wsX6_init := goodIn_r _ [28, 29, 2, 3, 30, 31, 72, 73, 74, 75, 76, 77, 78, 79] (by decide +kernel) (by decide +kernel)
set_option maxRecDepth 20000 in
theorem gX10_init_X6_init_n23 : GoodIn wsX10_init (wsX6_init) := ggX10_init_X6_init
set_option maxRecDepth 20000 in
theorem ggX10_init_X0_init : GoodIn wsX10_init wsX0_init := goodIn_r _ [33, 34, 2, 3, 35, 36, 37, 5, 38, 39, 40, 41, 42, 80, 81, 82, 83, 84, 85, 86, 87, 88, 89] (by decide +kernel) (by decide +kernel)
set_option maxRecDepth 20000 in
theorem gX10_init_X0_init_n30 : GoodIn wsX10_init (wsX0_init) := ggX10_init_X0_init
set_option maxRecDepth 20000 in
theorem ggX10_init_X8_init : GoodIn wsX10_init wsX8_init := goodIn_r _ [44, 45, 2, 3, 5, 46, 90, 91] (by decide +kernel) (by decide +kernel)
set_option maxRecDepth 20000 in
theorem gX10_init_X8_init_n37 : GoodIn wsX10_init (wsX8_init) := ggX10_init_X8_init
set_option maxRecDepth 20000 in
theorem ggX10_init_X5_init : GoodIn wsX10_init wsX5_init := goodIn_r _ [48, 49, 2, 3, 5, 50, 51, 52, 53, 54, 55, 56, 57, 92, 93, 94, 95, 96, 97, 98, 99, 100, 101, 102, 103, 104, 105, 106, 107] (by decide +kernel) (by decide +kernel)
set_option maxRecDepth 20000 in
theorem gX10_init_X5_init_n48 : GoodIn wsX10_init (wsX5_init) := ggX10_init_X5_init
set_option maxRecDepth 20000 in
theorem ggX10_init_J7_fill_53178 : GoodIn wsX10_init wsJ7_fill_53178 := goodIn_r _ [61] (by decide +kernel) (by decide +kernel)
set_option maxRecDepth 20000 in
theorem gX10_init_J7_fill_53178 : GoodIn wsX10_init (va_wsS RX10 56 yJ7_fill_53178 wsJ7_fill_53178) := goodIn_app (goodIn_of _ (by decide +kernel)) ggX10_init_J7_fill_53178
theorem dX10_init_0 : decode cX10_init 0 = .ok (.aload_n 0, 1) := by decide +kernel
theorem dX10_init_1 : decode cX10_init 1 = .ok (.invokespecial 3, 3) := by decide +kernel
theorem dX10_init_4 : decode cX10_init 4 = .ok (.aload_n 0, 1) := by decide +kernel
theorem dX10_init_5 : decode cX10_init 5 = .ok (.bipush 8, 2) := by decide +kernel
theorem dX10_init_7 : decode cX10_init 7 = .ok (.bipush 40, 2) := by decide +kernel
theorem dX10_init_9 : decode cX10_init 9 = .ok (.multianewarray 9 2, 4) := by decide +kernel
theorem dX10_init_13 : decode cX10_init 13 = .ok (.putfield 11, 3) := by decide +kernel
theorem dX10_init_16 : decode cX10_init 16 = .ok (.aload_n 0, 1) := by decide +kernel
theorem dX10_init_17 : decode cX10_init 17 = .ok (.bipush 8, 2) := by decide +kernel
theorem dX10_init_19 : decode cX10_init 19 = .ok (.newarray .int, 2) := by decide +kernel
theorem dX10_init_21 : decode cX10_init 21 = .ok (.putfield 14, 3) := by decide +kernel
theorem dX10_init_24 : decode cX10_init 24 = .ok (.aload_n 0, 1) := by decide +kernel
theorem dX10_init_25 : decode cX10_init 25 = .ok (.bipush 8, 2) := by decide +kernel
theorem dX10_init_27 : decode cX10_init 27 = .ok (.newarray .int, 2) := by decide +kernel
theorem dX10_init_29 : decode cX10_init 29 = .ok (.putfield 18, 3) := by decide +kernel
theorem dX10_init_32 : decode cX10_init 32 = .ok (.aload_n 0, 1) := by decide +kernel
theorem dX10_init_33 : decode cX10_init 33 = .ok (.new 21, 3) := by decide +kernel
theorem dX10_init_36 : decode cX10_init 36 = .ok (.dup, 1) := by decide +kernel
theorem dX10_init_37 : decode cX10_init 37 = .ok (.invokespecial 23, 3) := by decide +kernel
theorem dX10_init_40 : decode cX10_init 40 = .ok (.putfield 24, 3) := by decide +kernel
theorem dX10_init_43 : decode cX10_init 43 = .ok (.aload_n 0, 1) := by decide +kernel
theorem dX10_init_44 : decode cX10_init 44 = .ok (.new 28, 3) := by decide +kernel
theorem dX10_init_47 : decode cX10_init 47 = .ok (.dup, 1) := by decide +kernel
theorem dX10_init_48 : decode cX10_init 48 = .ok (.invokespecial 30, 3) := by decide +kernel
theorem dX10_init_51 : decode cX10_init 51 = .ok (.putfield 31, 3) := by decide +kernel
theorem dX10_init_54 : decode cX10_init 54 = .ok (.aload_n 0, 1) := by decide +kernel
theorem dX10_init_55 : decode cX10_init 55 = .ok (.new 35, 3) := by decide +kernel
theorem dX10_init_58 : decode cX10_init 58 = .ok (.dup, 1) := by decide +kernel
theorem dX10_init_59 : decode cX10_init 59 = .ok (.invokespecial 37, 3) := by decide +kernel
theorem dX10_init_62 : decode cX10_init 62 = .ok (.putfield 38, 3) := by decide +kernel
theorem dX10_init_65 : decode cX10_init 65 = .ok (.aload_n 0, 1) := by decide +kernel
theorem dX10_init_66 : decode cX10_init 66 = .ok (.iconst 2, 1) := by decide +kernel
theorem dX10_init_67 : decode cX10_init 67 = .ok (.anewarray 42, 3) := by decide +kernel
theorem dX10_init_70 : decode cX10_init 70 = .ok (.putfield 44, 3) := by decide +kernel
theorem dX10_init_73 : decode cX10_init 73 = .ok (.aload_n 0, 1) := by decide +kernel
theorem dX10_init_74 : decode cX10_init 74 = .ok (.new 42, 3) := by decide +kernel
theorem dX10_init_77 : decode cX10_init 77 = .ok (.dup, 1) := by decide +kernel
theorem dX10_init_78 : decode cX10_init 78 = .ok (.invokespecial 48, 3) := by decide +kernel
theorem dX10_init_81 : decode cX10_init 81 = .ok (.putfield 49, 3) := by decide +kernel
theorem dX10_init_84 : decode cX10_init 84 = .ok (.aload_n 0, 1) := by decide +kernel
theorem dX10_init_85 : decode cX10_init 85 = .ok (.new 42, 3) := by decide +kernel
theorem dX10_init_88 : decode cX10_init 88 = .ok (.dup, 1) := by decide +kernel
theorem dX10_init_89 : decode cX10_init 89 = .ok (.invokespecial 48, 3) := by decide +kernel
theorem dX10_init_92 : decode cX10_init 92 = .ok (.putfield 53, 3) := by decide +kernel
theorem dX10_init_95 : decode cX10_init 95 = .ok (.aload_n 0, 1) := by decide +kernel
theorem dX10_init_96 : decode cX10_init 96 = .ok (.getfield 18, 3) := by decide +kernel
theorem dX10_init_99 : decode cX10_init 99 = .ok (.iconst (-1), 1) := by decide +kernel
theorem dX10_init_100 : decode cX10_init 100 = .ok (.invokestatic 56, 3) := by decide +kernel
theorem dX10_init_103 : decode cX10_init 103 = .ok (.iconst 0, 1) := by decide +kernel
theorem dX10_init_104 : decode cX10_init 104 = .ok (.istore_n 1, 1) := by decide +kernel
theorem dX10_init_105 : decode cX10_init 105 = .ok (.iload_n 1, 1) := by decide +kernel
theorem dX10_init_106 : decode cX10_init 106 = .ok (.iconst 2, 1) := by decide +kernel
theorem dX10_init_107 : decode cX10_init 107 = .ok (.if_icmp .ge 22, 3) := by decide +kernel
theorem dX10_init_110 : decode cX10_init 110 = .ok (.aload_n 0, 1) := by decide +kernel
theorem dX10_init_111 : decode cX10_init 111 = .ok (.getfield 44, 3) := by decide +kernel
theorem dX10_init_114 : decode cX10_init 114 = .ok (.iload_n 1, 1) := by decide +kernel
theorem dX10_init_115 : decode cX10_init 115 = .ok (.new 42, 3) := by decide +kernel
theorem dX10_init_118 : decode cX10_init 118 = .ok (.dup, 1) := by decide +kernel
theorem dX10_init_119 : decode cX10_init 119 = .ok (.invokespecial 48, 3) := by decide +kernel
theorem dX10_init_122 : decode cX10_init 122 = .ok (.aastore, 1) := by decide +kernel
theorem dX10_init_123 : decode cX10_init 123 = .ok (.iinc 1 1, 3) := by decide +kernel
theorem dX10_init_126 : decode cX10_init 126 = .ok (.goto (-21), 3) := by decide +kernel
theorem dX10_init_129 : decode cX10_init 129 = .ok (.return_, 1) := by decide +kernel
set_option maxRecDepth 20000 in
theorem ggX10_row_X10_isRow : GoodIn wsX10_row wsX10_isRow := goodIn_r _ [8] (by decide +kernel) (by decide +kernel)
set_option maxRecDepth 20000 in
theorem gX10_row_X10_isRow : GoodIn wsX10_row (va_wsS RX10 62 yX10_isRow wsX10_isRow) := goodIn_app (goodIn_of _ (by decide +kernel)) ggX10_row_X10_isRow
set_option maxRecDepth 20000 in
theorem ggX10_row_X10_found : GoodIn wsX10_row wsX10_found := goodIn_r _ [12, 13, 14, 23, 24, 25, 26, 27, 28, 29, 30, 31, 32] (by decide +kernel) (by decide +kernel)
set_option maxRecDepth 20000 in
theorem gX10_row_X10_found : GoodIn wsX10_row (wsV RX10 68 RX10 yX10_found wsX10_found) := goodIn_app (goodIn_of _ (by decide +kernel)) ggX10_row_X10_found
set_option maxRecDepth 20000 in
theorem ggX10_row_J7_fill_53178 : GoodIn wsX10_row wsJ7_fill_53178 := goodIn_r _ [18] (by decide +kernel) (by decide +kernel)
set_option maxRecDepth 20000 in
theorem gX10_row_J7_fill_53178 : GoodIn wsX10_row (va_wsS RX10 56 yJ7_fill_53178 wsJ7_fill_53178) := goodIn_app (goodIn_of _ (by decide +kernel)) ggX10_row_J7_fill_53178
set_option maxRecDepth 20000 in
theorem ggX10_row_X10_fine : GoodIn wsX10_row wsX10_fine := goodIn_r _ [22, 13, 23, 24, 25, 26, 27, 28, 29, 30, 31, 32] (by decide +kernel) (by decide +kernel)
set_option maxRecDepth 20000 in
theorem gX10_row_X10_fine : GoodIn wsX10_row (wsV RX10 72 RX10 yX10_fine wsX10_fine) := goodIn_app (goodIn_of _ (by decide +kernel)) ggX10_row_X10_fine
theorem dX10_row_0 : decode cX10_row 0 = .ok (.iload_n 1, 1) := by decide +kernel
theorem dX10_row_1 : decode cX10_row 1 = .ok (.invokestatic 62, 3) := by decide +kernel
theorem dX10_row_4 : decode cX10_row 4 = .ok (.ifCond .eq 18, 3) := by decide +kernel
theorem dX10_row_7 : decode cX10_row 7 = .ok (.iload_n 2, 1) := by decide +kernel
theorem dX10_row_8 : decode cX10_row 8 = .ok (.ifCond .lt 14, 3) := by decide +kernel
theorem dX10_row_11 : decode cX10_row 11 = .ok (.iload_n 2, 1) := by decide +kernel
theorem dX10_row_12 : decode cX10_row 12 = .ok (.iconst 2, 1) := by decide +kernel
theorem dX10_row_13 : decode cX10_row 13 = .ok (.if_icmp .gt 9, 3) := by decide +kernel
theorem dX10_row_16 : decode cX10_row 16 = .ok (.iload_n 3, 1) := by decide +kernel
theorem dX10_row_17 : decode cX10_row 17 = .ok (.bipush 40, 2) := by decide +kernel
theorem dX10_row_19 : decode cX10_row 19 = .ok (.if_icmp .le 7, 3) := by decide +kernel
theorem dX10_row_22 : decode cX10_row 22 = .ok (.ldc2_w 66, 3) := by decide +kernel
theorem dX10_row_25 : decode cX10_row 25 = .ok (.lreturn, 1) := by decide +kernel
theorem dX10_row_26 : decode cX10_row 26 = .ok (.iload_n 3, 1) := by decide +kernel
theorem dX10_row_27 : decode cX10_row 27 = .ok (.ifCond .ge 9, 3) := by decide +kernel
theorem dX10_row_30 : decode cX10_row 30 = .ok (.aload_n 0, 1) := by decide +kernel
theorem dX10_row_31 : decode cX10_row 31 = .ok (.iconst 4, 1) := by decide +kernel
theorem dX10_row_32 : decode cX10_row 32 = .ok (.invokevirtual 68, 3) := by decide +kernel
theorem dX10_row_35 : decode cX10_row 35 = .ok (.lreturn, 1) := by decide +kernel
theorem dX10_row_36 : decode cX10_row 36 = .ok (.aload_n 0, 1) := by decide +kernel
theorem dX10_row_37 : decode cX10_row 37 = .ok (.getfield 14, 3) := by decide +kernel
theorem dX10_row_40 : decode cX10_row 40 = .ok (.iload_n 1, 1) := by decide +kernel
theorem dX10_row_41 : decode cX10_row 41 = .ok (.iload_n 2, 1) := by decide +kernel
theorem dX10_row_42 : decode cX10_row 42 = .ok (.iastore, 1) := by decide +kernel
theorem dX10_row_43 : decode cX10_row 43 = .ok (.aload_n 0, 1) := by decide +kernel
theorem dX10_row_44 : decode cX10_row 44 = .ok (.getfield 18, 3) := by decide +kernel
theorem dX10_row_47 : decode cX10_row 47 = .ok (.iload_n 1, 1) := by decide +kernel
theorem dX10_row_48 : decode cX10_row 48 = .ok (.iload_n 3, 1) := by decide +kernel
theorem dX10_row_49 : decode cX10_row 49 = .ok (.iastore, 1) := by decide +kernel
theorem dX10_row_50 : decode cX10_row 50 = .ok (.aload_n 0, 1) := by decide +kernel
theorem dX10_row_51 : decode cX10_row 51 = .ok (.getfield 11, 3) := by decide +kernel
theorem dX10_row_54 : decode cX10_row 54 = .ok (.iload_n 1, 1) := by decide +kernel
theorem dX10_row_55 : decode cX10_row 55 = .ok (.aaload, 1) := by decide +kernel
theorem dX10_row_56 : decode cX10_row 56 = .ok (.iconst 0, 1) := by decide +kernel
theorem dX10_row_57 : decode cX10_row 57 = .ok (.invokestatic 56, 3) := by decide +kernel
theorem dX10_row_60 : decode cX10_row 60 = .ok (.aload_n 0, 1) := by decide +kernel
theorem dX10_row_61 : decode cX10_row 61 = .ok (.iload_n 3, 1) := by decide +kernel
theorem dX10_row_62 : decode cX10_row 62 = .ok (.i2l, 1) := by decide +kernel
theorem dX10_row_63 : decode cX10_row 63 = .ok (.invokevirtual 72, 3) := by decide +kernel
theorem dX10_row_66 : decode cX10_row 66 = .ok (.lreturn, 1) := by decide +kernel
set_option maxRecDepth 20000 in
theorem ggX10_set_X10_isRow : GoodIn wsX10_set wsX10_isRow := goodIn_r _ [7] (by decide +kernel) (by decide +kernel)
set_option maxRecDepth 20000 in
theorem gX10_set_X10_isRow : GoodIn wsX10_set (va_wsS RX10 62 yX10_isRow wsX10_isRow) := goodIn_app (goodIn_of _ (by decide +kernel)) ggX10_set_X10_isRow
set_option maxRecDepth 20000 in
theorem ggX10_set_X10_findingOfSpan : GoodIn wsX10_set wsX10_findingOfSpan := goodIn_r _ [11, 12, 13, 14, 6, 15, 29, 30, 31, 32, 33, 34, 35, 36, 37, 38] (by decide +kernel) (by decide +kernel)
set_option maxRecDepth 20000 in
theorem gX10_set_X10_findingOfSpan : GoodIn wsX10_set (wsV RX10 76 RX10 yX10_findingOfSpan wsX10_findingOfSpan) := goodIn_app (goodIn_of _ (by decide +kernel)) ggX10_set_X10_findingOfSpan
set_option maxRecDepth 20000 in
theorem ggX10_set_X10_found : GoodIn wsX10_set wsX10_found := goodIn_r _ [19, 20, 21, 29, 30, 31, 32, 33, 34, 35, 36, 37, 38] (by decide +kernel) (by decide +kernel)
set_option maxRecDepth 20000 in
theorem gX10_set_X10_found : GoodIn wsX10_set (wsV RX10 68 RX10 yX10_found wsX10_found) := goodIn_app (goodIn_of _ (by decide +kernel)) ggX10_set_X10_found
set_option maxRecDepth 20000 in
theorem ggX10_set_X10_lowestBits : GoodIn wsX10_set wsX10_lowestBits := goodIn_r _ [24] (by decide +kernel) (by decide +kernel)
set_option maxRecDepth 20000 in
theorem gX10_set_X10_lowestBits : GoodIn wsX10_set (va_wsS RX10 80 yX10_lowestBits wsX10_lowestBits) := goodIn_app (goodIn_of _ (by decide +kernel)) ggX10_set_X10_lowestBits
set_option maxRecDepth 20000 in
theorem ggX10_set_X10_fine : GoodIn wsX10_set wsX10_fine := goodIn_r _ [28, 20, 29, 30, 31, 32, 33, 34, 35, 36, 37, 38] (by decide +kernel) (by decide +kernel)
set_option maxRecDepth 20000 in
theorem gX10_set_X10_fine : GoodIn wsX10_set (wsV RX10 72 RX10 yX10_fine wsX10_fine) := goodIn_app (goodIn_of _ (by decide +kernel)) ggX10_set_X10_fine
theorem dX10_set_0 : decode cX10_set 0 = .ok (.iload_n 1, 1) := by decide +kernel
theorem dX10_set_1 : decode cX10_set 1 = .ok (.invokestatic 62, 3) := by decide +kernel
theorem dX10_set_4 : decode cX10_set 4 = .ok (.ifCond .ne 7, 3) := by decide +kernel
theorem dX10_set_7 : decode cX10_set 7 = .ok (.ldc2_w 66, 3) := by decide +kernel
theorem dX10_set_10 : decode cX10_set 10 = .ok (.lreturn, 1) := by decide +kernel
theorem dX10_set_11 : decode cX10_set 11 = .ok (.aload_n 0, 1) := by decide +kernel
theorem dX10_set_12 : decode cX10_set 12 = .ok (.iload_n 1, 1) := by decide +kernel
theorem dX10_set_13 : decode cX10_set 13 = .ok (.iload_n 2, 1) := by decide +kernel
theorem dX10_set_14 : decode cX10_set 14 = .ok (.iconst 1, 1) := by decide +kernel
theorem dX10_set_15 : decode cX10_set 15 = .ok (.invokevirtual 76, 3) := by decide +kernel
theorem dX10_set_18 : decode cX10_set 18 = .ok (.istore 4, 2) := by decide +kernel
theorem dX10_set_20 : decode cX10_set 20 = .ok (.iload 4, 2) := by decide +kernel
theorem dX10_set_22 : decode cX10_set 22 = .ok (.ifCond .eq 10, 3) := by decide +kernel
theorem dX10_set_25 : decode cX10_set 25 = .ok (.aload_n 0, 1) := by decide +kernel
theorem dX10_set_26 : decode cX10_set 26 = .ok (.iload 4, 2) := by decide +kernel
theorem dX10_set_28 : decode cX10_set 28 = .ok (.invokevirtual 68, 3) := by decide +kernel
theorem dX10_set_31 : decode cX10_set 31 = .ok (.lreturn, 1) := by decide +kernel
theorem dX10_set_32 : decode cX10_set 32 = .ok (.aload_n 0, 1) := by decide +kernel
theorem dX10_set_33 : decode cX10_set 33 = .ok (.getfield 14, 3) := by decide +kernel
theorem dX10_set_36 : decode cX10_set 36 = .ok (.iload_n 1, 1) := by decide +kernel
theorem dX10_set_37 : decode cX10_set 37 = .ok (.iaload, 1) := by decide +kernel
theorem dX10_set_38 : decode cX10_set 38 = .ok (.iload_n 3, 1) := by decide +kernel
theorem dX10_set_39 : decode cX10_set 39 = .ok (.invokestatic 80, 3) := by decide +kernel
theorem dX10_set_42 : decode cX10_set 42 = .ok (.istore 5, 2) := by decide +kernel
theorem dX10_set_44 : decode cX10_set 44 = .ok (.aload_n 0, 1) := by decide +kernel
theorem dX10_set_45 : decode cX10_set 45 = .ok (.getfield 11, 3) := by decide +kernel
theorem dX10_set_48 : decode cX10_set 48 = .ok (.iload_n 1, 1) := by decide +kernel
theorem dX10_set_49 : decode cX10_set 49 = .ok (.aaload, 1) := by decide +kernel
theorem dX10_set_50 : decode cX10_set 50 = .ok (.iload_n 2, 1) := by decide +kernel
theorem dX10_set_51 : decode cX10_set 51 = .ok (.iload 5, 2) := by decide +kernel
theorem dX10_set_53 : decode cX10_set 53 = .ok (.iastore, 1) := by decide +kernel
theorem dX10_set_54 : decode cX10_set 54 = .ok (.aload_n 0, 1) := by decide +kernel
theorem dX10_set_55 : decode cX10_set 55 = .ok (.iload 5, 2) := by decide +kernel
theorem dX10_set_57 : decode cX10_set 57 = .ok (.i2l, 1) := by decide +kernel
theorem dX10_set_58 : decode cX10_set 58 = .ok (.invokevirtual 72, 3) := by decide +kernel
theorem dX10_set_61 : decode cX10_set 61 = .ok (.lreturn, 1) := by decide +kernel
set_option maxRecDepth 20000 in
theorem ggX10_copy_X10_isRow : GoodIn wsX10_copy wsX10_isRow := goodIn_r _ [12] (by decide +kernel) (by decide +kernel)
set_option maxRecDepth 20000 in
theorem gX10_copy_X10_isRow : GoodIn wsX10_copy (va_wsS RX10 62 yX10_isRow wsX10_isRow) := goodIn_app (goodIn_of _ (by decide +kernel)) ggX10_copy_X10_isRow
set_option maxRecDepth 20000 in
theorem ggX10_copy_X10_found : GoodIn wsX10_copy wsX10_found := goodIn_r _ [16, 17, 18, 26, 27, 28, 29, 30, 31, 32, 33, 34, 35] (by decide +kernel) (by decide +kernel)
set_option maxRecDepth 20000 in
theorem gX10_copy_X10_found : GoodIn wsX10_copy (wsV RX10 68 RX10 yX10_found wsX10_found) := goodIn_app (goodIn_of _ (by decide +kernel)) ggX10_copy_X10_found
set_option maxRecDepth 20000 in
theorem ggX10_copy_X10_isSpan : GoodIn wsX10_copy wsX10_isSpan := goodIn_r _ [21] (by decide +kernel) (by decide +kernel)
set_option maxRecDepth 20000 in
theorem gX10_copy_X10_isSpan : GoodIn wsX10_copy (va_wsS RX10 84 yX10_isSpan wsX10_isSpan) := goodIn_app (goodIn_of _ (by decide +kernel)) ggX10_copy_X10_isSpan
set_option maxRecDepth 20000 in
theorem ggX10_copy_X10_fine : GoodIn wsX10_copy wsX10_fine := goodIn_r _ [25, 17, 26, 27, 28, 29, 30, 31, 32, 33, 34, 35] (by decide +kernel) (by decide +kernel)
set_option maxRecDepth 20000 in
theorem gX10_copy_X10_fine : GoodIn wsX10_copy (wsV RX10 72 RX10 yX10_fine wsX10_fine) := goodIn_app (goodIn_of _ (by decide +kernel)) ggX10_copy_X10_fine
theorem dX10_copy_0 : decode cX10_copy 0 = .ok (.iload_n 1, 1) := by decide +kernel
theorem dX10_copy_1 : decode cX10_copy 1 = .ok (.invokestatic 62, 3) := by decide +kernel
theorem dX10_copy_4 : decode cX10_copy 4 = .ok (.ifCond .eq 10, 3) := by decide +kernel
theorem dX10_copy_7 : decode cX10_copy 7 = .ok (.iload_n 3, 1) := by decide +kernel
theorem dX10_copy_8 : decode cX10_copy 8 = .ok (.invokestatic 62, 3) := by decide +kernel
theorem dX10_copy_11 : decode cX10_copy 11 = .ok (.ifCond .ne 7, 3) := by decide +kernel
theorem dX10_copy_14 : decode cX10_copy 14 = .ok (.ldc2_w 66, 3) := by decide +kernel
theorem dX10_copy_17 : decode cX10_copy 17 = .ok (.lreturn, 1) := by decide +kernel
theorem dX10_copy_18 : decode cX10_copy 18 = .ok (.aload_n 0, 1) := by decide +kernel
theorem dX10_copy_19 : decode cX10_copy 19 = .ok (.getfield 18, 3) := by decide +kernel
theorem dX10_copy_22 : decode cX10_copy 22 = .ok (.iload_n 1, 1) := by decide +kernel
theorem dX10_copy_23 : decode cX10_copy 23 = .ok (.iaload, 1) := by decide +kernel
theorem dX10_copy_24 : decode cX10_copy 24 = .ok (.iconst (-1), 1) := by decide +kernel
theorem dX10_copy_25 : decode cX10_copy 25 = .ok (.if_icmp .eq 13, 3) := by decide +kernel
theorem dX10_copy_28 : decode cX10_copy 28 = .ok (.aload_n 0, 1) := by decide +kernel
theorem dX10_copy_29 : decode cX10_copy 29 = .ok (.getfield 18, 3) := by decide +kernel
theorem dX10_copy_32 : decode cX10_copy 32 = .ok (.iload_n 3, 1) := by decide +kernel
theorem dX10_copy_33 : decode cX10_copy 33 = .ok (.iaload, 1) := by decide +kernel
theorem dX10_copy_34 : decode cX10_copy 34 = .ok (.iconst (-1), 1) := by decide +kernel
theorem dX10_copy_35 : decode cX10_copy 35 = .ok (.if_icmp .ne 9, 3) := by decide +kernel
theorem dX10_copy_38 : decode cX10_copy 38 = .ok (.aload_n 0, 1) := by decide +kernel
theorem dX10_copy_39 : decode cX10_copy 39 = .ok (.iconst 1, 1) := by decide +kernel
theorem dX10_copy_40 : decode cX10_copy 40 = .ok (.invokevirtual 68, 3) := by decide +kernel
theorem dX10_copy_43 : decode cX10_copy 43 = .ok (.lreturn, 1) := by decide +kernel
theorem dX10_copy_44 : decode cX10_copy 44 = .ok (.aload_n 0, 1) := by decide +kernel
theorem dX10_copy_45 : decode cX10_copy 45 = .ok (.getfield 14, 3) := by decide +kernel
theorem dX10_copy_48 : decode cX10_copy 48 = .ok (.iload_n 1, 1) := by decide +kernel
theorem dX10_copy_49 : decode cX10_copy 49 = .ok (.iaload, 1) := by decide +kernel
theorem dX10_copy_50 : decode cX10_copy 50 = .ok (.aload_n 0, 1) := by decide +kernel
theorem dX10_copy_51 : decode cX10_copy 51 = .ok (.getfield 14, 3) := by decide +kernel
theorem dX10_copy_54 : decode cX10_copy 54 = .ok (.iload_n 3, 1) := by decide +kernel
theorem dX10_copy_55 : decode cX10_copy 55 = .ok (.iaload, 1) := by decide +kernel
theorem dX10_copy_56 : decode cX10_copy 56 = .ok (.if_icmp .eq 9, 3) := by decide +kernel
theorem dX10_copy_59 : decode cX10_copy 59 = .ok (.aload_n 0, 1) := by decide +kernel
theorem dX10_copy_60 : decode cX10_copy 60 = .ok (.iconst 5, 1) := by decide +kernel
theorem dX10_copy_61 : decode cX10_copy 61 = .ok (.invokevirtual 68, 3) := by decide +kernel
theorem dX10_copy_64 : decode cX10_copy 64 = .ok (.lreturn, 1) := by decide +kernel
theorem dX10_copy_65 : decode cX10_copy 65 = .ok (.aload_n 0, 1) := by decide +kernel
theorem dX10_copy_66 : decode cX10_copy 66 = .ok (.getfield 18, 3) := by decide +kernel
theorem dX10_copy_69 : decode cX10_copy 69 = .ok (.iload_n 1, 1) := by decide +kernel
theorem dX10_copy_70 : decode cX10_copy 70 = .ok (.iaload, 1) := by decide +kernel
theorem dX10_copy_71 : decode cX10_copy 71 = .ok (.iload_n 2, 1) := by decide +kernel
theorem dX10_copy_72 : decode cX10_copy 72 = .ok (.iload 5, 2) := by decide +kernel
theorem dX10_copy_74 : decode cX10_copy 74 = .ok (.invokestatic 84, 3) := by decide +kernel
theorem dX10_copy_77 : decode cX10_copy 77 = .ok (.ifCond .eq 19, 3) := by decide +kernel
theorem dX10_copy_80 : decode cX10_copy 80 = .ok (.aload_n 0, 1) := by decide +kernel
theorem dX10_copy_81 : decode cX10_copy 81 = .ok (.getfield 18, 3) := by decide +kernel
theorem dX10_copy_84 : decode cX10_copy 84 = .ok (.iload_n 3, 1) := by decide +kernel
theorem dX10_copy_85 : decode cX10_copy 85 = .ok (.iaload, 1) := by decide +kernel
theorem dX10_copy_86 : decode cX10_copy 86 = .ok (.iload 4, 2) := by decide +kernel
theorem dX10_copy_88 : decode cX10_copy 88 = .ok (.iload 5, 2) := by decide +kernel
theorem dX10_copy_90 : decode cX10_copy 90 = .ok (.invokestatic 84, 3) := by decide +kernel
theorem dX10_copy_93 : decode cX10_copy 93 = .ok (.ifCond .ne 9, 3) := by decide +kernel
theorem dX10_copy_96 : decode cX10_copy 96 = .ok (.aload_n 0, 1) := by decide +kernel
theorem dX10_copy_97 : decode cX10_copy 97 = .ok (.iconst 2, 1) := by decide +kernel
theorem dX10_copy_98 : decode cX10_copy 98 = .ok (.invokevirtual 68, 3) := by decide +kernel
theorem dX10_copy_101 : decode cX10_copy 101 = .ok (.lreturn, 1) := by decide +kernel
theorem dX10_copy_102 : decode cX10_copy 102 = .ok (.aload_n 0, 1) := by decide +kernel
theorem dX10_copy_103 : decode cX10_copy 103 = .ok (.getfield 11, 3) := by decide +kernel
theorem dX10_copy_106 : decode cX10_copy 106 = .ok (.iload_n 1, 1) := by decide +kernel
theorem dX10_copy_107 : decode cX10_copy 107 = .ok (.aaload, 1) := by decide +kernel
theorem dX10_copy_108 : decode cX10_copy 108 = .ok (.iload_n 2, 1) := by decide +kernel
theorem dX10_copy_109 : decode cX10_copy 109 = .ok (.aload_n 0, 1) := by decide +kernel
theorem dX10_copy_110 : decode cX10_copy 110 = .ok (.getfield 11, 3) := by decide +kernel
theorem dX10_copy_113 : decode cX10_copy 113 = .ok (.iload_n 3, 1) := by decide +kernel
theorem dX10_copy_114 : decode cX10_copy 114 = .ok (.aaload, 1) := by decide +kernel
theorem dX10_copy_115 : decode cX10_copy 115 = .ok (.iload 4, 2) := by decide +kernel
theorem dX10_copy_117 : decode cX10_copy 117 = .ok (.iload 5, 2) := by decide +kernel
theorem dX10_copy_119 : decode cX10_copy 119 = .ok (.invokestatic 88, 3) := by decide +kernel
theorem dX10_copy_122 : decode cX10_copy 122 = .ok (.aload_n 0, 1) := by decide +kernel
theorem dX10_copy_123 : decode cX10_copy 123 = .ok (.iload 5, 2) := by decide +kernel
theorem dX10_copy_125 : decode cX10_copy 125 = .ok (.i2l, 1) := by decide +kernel
theorem dX10_copy_126 : decode cX10_copy 126 = .ok (.invokevirtual 72, 3) := by decide +kernel
theorem dX10_copy_129 : decode cX10_copy 129 = .ok (.lreturn, 1) := by decide +kernel
set_option maxRecDepth 20000 in
theorem ggX10_drop_X10_isRow : GoodIn wsX10_drop wsX10_isRow := goodIn_r _ [6] (by decide +kernel) (by decide +kernel)
set_option maxRecDepth 20000 in
theorem gX10_drop_X10_isRow : GoodIn wsX10_drop (va_wsS RX10 62 yX10_isRow wsX10_isRow) := goodIn_app (goodIn_of _ (by decide +kernel)) ggX10_drop_X10_isRow
set_option maxRecDepth 20000 in
theorem ggX10_drop_X10_found : GoodIn wsX10_drop wsX10_found := goodIn_r _ [10, 11, 12, 17, 18, 19, 20, 21, 22, 23, 24, 25, 26] (by decide +kernel) (by decide +kernel)
set_option maxRecDepth 20000 in
theorem gX10_drop_X10_found : GoodIn wsX10_drop (wsV RX10 68 RX10 yX10_found wsX10_found) := goodIn_app (goodIn_of _ (by decide +kernel)) ggX10_drop_X10_found
set_option maxRecDepth 20000 in
theorem ggX10_drop_X10_fine : GoodIn wsX10_drop wsX10_fine := goodIn_r _ [16, 11, 17, 18, 19, 20, 21, 22, 23, 24, 25, 26] (by decide +kernel) (by decide +kernel)
set_option maxRecDepth 20000 in
theorem gX10_drop_X10_fine : GoodIn wsX10_drop (wsV RX10 72 RX10 yX10_fine wsX10_fine) := goodIn_app (goodIn_of _ (by decide +kernel)) ggX10_drop_X10_fine
theorem dX10_drop_0 : decode cX10_drop 0 = .ok (.iload_n 1, 1) := by decide +kernel
theorem dX10_drop_1 : decode cX10_drop 1 = .ok (.invokestatic 62, 3) := by decide +kernel
theorem dX10_drop_4 : decode cX10_drop 4 = .ok (.ifCond .ne 7, 3) := by decide +kernel
theorem dX10_drop_7 : decode cX10_drop 7 = .ok (.ldc2_w 66, 3) := by decide +kernel
theorem dX10_drop_10 : decode cX10_drop 10 = .ok (.lreturn, 1) := by decide +kernel
theorem dX10_drop_11 : decode cX10_drop 11 = .ok (.aload_n 0, 1) := by decide +kernel
theorem dX10_drop_12 : decode cX10_drop 12 = .ok (.getfield 18, 3) := by decide +kernel
theorem dX10_drop_15 : decode cX10_drop 15 = .ok (.iload_n 1, 1) := by decide +kernel
theorem dX10_drop_16 : decode cX10_drop 16 = .ok (.iaload, 1) := by decide +kernel
theorem dX10_drop_17 : decode cX10_drop 17 = .ok (.iconst (-1), 1) := by decide +kernel
theorem dX10_drop_18 : decode cX10_drop 18 = .ok (.if_icmp .ne 9, 3) := by decide +kernel
theorem dX10_drop_21 : decode cX10_drop 21 = .ok (.aload_n 0, 1) := by decide +kernel
theorem dX10_drop_22 : decode cX10_drop 22 = .ok (.iconst 1, 1) := by decide +kernel
theorem dX10_drop_23 : decode cX10_drop 23 = .ok (.invokevirtual 68, 3) := by decide +kernel
theorem dX10_drop_26 : decode cX10_drop 26 = .ok (.lreturn, 1) := by decide +kernel
theorem dX10_drop_27 : decode cX10_drop 27 = .ok (.aload_n 0, 1) := by decide +kernel
theorem dX10_drop_28 : decode cX10_drop 28 = .ok (.getfield 18, 3) := by decide +kernel
theorem dX10_drop_31 : decode cX10_drop 31 = .ok (.iload_n 1, 1) := by decide +kernel
theorem dX10_drop_32 : decode cX10_drop 32 = .ok (.iaload, 1) := by decide +kernel
theorem dX10_drop_33 : decode cX10_drop 33 = .ok (.istore_n 2, 1) := by decide +kernel
theorem dX10_drop_34 : decode cX10_drop 34 = .ok (.aload_n 0, 1) := by decide +kernel
theorem dX10_drop_35 : decode cX10_drop 35 = .ok (.getfield 18, 3) := by decide +kernel
theorem dX10_drop_38 : decode cX10_drop 38 = .ok (.iload_n 1, 1) := by decide +kernel
theorem dX10_drop_39 : decode cX10_drop 39 = .ok (.iconst (-1), 1) := by decide +kernel
theorem dX10_drop_40 : decode cX10_drop 40 = .ok (.iastore, 1) := by decide +kernel
theorem dX10_drop_41 : decode cX10_drop 41 = .ok (.aload_n 0, 1) := by decide +kernel
theorem dX10_drop_42 : decode cX10_drop 42 = .ok (.iload_n 2, 1) := by decide +kernel
theorem dX10_drop_43 : decode cX10_drop 43 = .ok (.i2l, 1) := by decide +kernel
theorem dX10_drop_44 : decode cX10_drop 44 = .ok (.invokevirtual 72, 3) := by decide +kernel
theorem dX10_drop_47 : decode cX10_drop 47 = .ok (.lreturn, 1) := by decide +kernel
set_option maxRecDepth 20000 in
theorem ggX10_feed_X6_hasRoom : GoodIn wsX10_feed wsX6_hasRoom := goodIn_r _ [8, 9, 25, 26, 27, 28, 29, 30, 31, 32] (by decide +kernel) (by decide +kernel)
set_option maxRecDepth 20000 in
theorem gX10_feed_X6_hasRoom : GoodIn wsX10_feed (wsV RX10 94 RX6 yX6_hasRoom wsX6_hasRoom) := goodIn_app (goodIn_of _ (by decide +kernel)) ggX10_feed_X6_hasRoom
set_option maxRecDepth 20000 in
theorem ggX10_feed_X6_takeBytes : GoodIn wsX10_feed wsX6_takeBytes := goodIn_r _ [13, 9, 14, 25, 26, 27, 28, 29, 30, 31, 32] (by decide +kernel) (by decide +kernel)
set_option maxRecDepth 20000 in
theorem gX10_feed_X6_takeBytes : GoodIn wsX10_feed (wsV RX10 99 RX6 yX6_takeBytes wsX6_takeBytes) := goodIn_app (goodIn_of _ (by decide +kernel)) ggX10_feed_X6_takeBytes
theorem dX10_feed_0 : decode cX10_feed 0 = .ok (.iload_n 3, 1) := by decide +kernel
theorem dX10_feed_1 : decode cX10_feed 1 = .ok (.iconst 1, 1) := by decide +kernel
theorem dX10_feed_2 : decode cX10_feed 2 = .ok (.if_icmp .lt 9, 3) := by decide +kernel
theorem dX10_feed_5 : decode cX10_feed 5 = .ok (.iload_n 3, 1) := by decide +kernel
theorem dX10_feed_6 : decode cX10_feed 6 = .ok (.bipush 8, 2) := by decide +kernel
theorem dX10_feed_8 : decode cX10_feed 8 = .ok (.if_icmp .le 7, 3) := by decide +kernel
theorem dX10_feed_11 : decode cX10_feed 11 = .ok (.ldc2_w 66, 3) := by decide +kernel
theorem dX10_feed_14 : decode cX10_feed 14 = .ok (.lreturn, 1) := by decide +kernel
theorem dX10_feed_15 : decode cX10_feed 15 = .ok (.aload_n 0, 1) := by decide +kernel
theorem dX10_feed_16 : decode cX10_feed 16 = .ok (.getfield 24, 3) := by decide +kernel
theorem dX10_feed_19 : decode cX10_feed 19 = .ok (.iload_n 3, 1) := by decide +kernel
theorem dX10_feed_20 : decode cX10_feed 20 = .ok (.invokevirtual 94, 3) := by decide +kernel
theorem dX10_feed_23 : decode cX10_feed 23 = .ok (.ifCond .ne 7, 3) := by decide +kernel
theorem dX10_feed_26 : decode cX10_feed 26 = .ok (.ldc2_w 97, 3) := by decide +kernel
theorem dX10_feed_29 : decode cX10_feed 29 = .ok (.lreturn, 1) := by decide +kernel
theorem dX10_feed_30 : decode cX10_feed 30 = .ok (.aload_n 0, 1) := by decide +kernel
theorem dX10_feed_31 : decode cX10_feed 31 = .ok (.getfield 24, 3) := by decide +kernel
theorem dX10_feed_34 : decode cX10_feed 34 = .ok (.lload_n 1, 1) := by decide +kernel
theorem dX10_feed_35 : decode cX10_feed 35 = .ok (.iload_n 3, 1) := by decide +kernel
theorem dX10_feed_36 : decode cX10_feed 36 = .ok (.invokevirtual 99, 3) := by decide +kernel
theorem dX10_feed_39 : decode cX10_feed 39 = .ok (.i2l, 1) := by decide +kernel
theorem dX10_feed_40 : decode cX10_feed 40 = .ok (.lreturn, 1) := by decide +kernel
set_option maxRecDepth 20000 in
theorem ggX10_pass_X5_empty : GoodIn wsX10_pass wsX5_empty := goodIn_r _ [11, 12, 13, 14, 15, 16, 17, 18, 19, 20, 21, 22, 23, 24, 25, 26, 27, 28, 232, 233, 234, 235, 236, 237, 238, 239, 240, 241, 242, 243, 244, 245, 246, 247] (by decide +kernel) (by decide +kernel)
set_option maxRecDepth 20000 in
theorem gX10_pass_X5_empty : GoodIn wsX10_pass (wsV RX10 103 RX5 yX5_empty wsX5_empty) := goodIn_app (goodIn_of _ (by decide +kernel)) ggX10_pass_X5_empty
set_option maxRecDepth 20000 in
theorem ggX10_pass_X6_readPass : GoodIn wsX10_pass wsX6_readPass := goodIn_r _ [33, 34, 35, 36, 37, 38, 32, 39, 40, 41, 42, 43, 44, 45, 46, 47, 48, 49, 50, 51, 52, 53, 54, 55, 56, 57, 58, 59, 60, 61, 62, 63, 64, 65, 66, 67, 68, 69, 70, 71, 72, 73, 74, 75, 76, 77, 78, 79, 80, 81, 82, 83, 84, 85, 86, 87, 88, 89, 90, 91, 92, 93, 94, 95, 96, 97, 98, 99, 100, 101, 102, 103, 104, 105, 106, 107, 108, 109, 110, 111, 112, 113, 114, 115, 116, 117, 118, 119, 120, 121, 122, 123, 124, 125, 126, 127, 128, 129, 130, 131, 132, 133, 134, 135, 136, 137, 138, 139, 140, 141, 10, 142, 17, 143, 144, 145, 146, 147, 148, 149, 150, 151, 152, 153, 154, 155, 156, 157, 158, 159, 160, 161, 162, 163, 164, 165, 166, 167, 168, 169, 170, 171, 172, 173, 174, 175, 176, 177, 178, 179, 180, 181, 182, 183, 184, 185, 186, 187, 188, 189, 190, 191, 192, 193, 194, 195, 196, 197, 198, 199, 200, 201, 202, 203, 204, 205, 206, 207, 208, 18, 209, 210, 211, 212, 213, 224, 225, 226, 227, 228, 229, 230, 231, 232, 233, 234, 235, 236, 237, 238, 239, 240, 241, 242, 243, 244, 245, 246, 247, 248, 249, 250, 251, 252, 253, 254, 255, 256, 257, 258, 259, 260, 261, 262] (by decide +kernel) (by decide +kernel)
set_option maxRecDepth 20000 in
theorem gX10_pass_X6_readPass : GoodIn wsX10_pass (wsV RX10 106 RX6 yX6_readPass wsX6_readPass) := goodIn_app (goodIn_of _ (by decide +kernel)) ggX10_pass_X6_readPass
theorem dX10_pass_0 : decode cX10_pass 0 = .ok (.aload_n 0, 1) := by decide +kernel
theorem dX10_pass_1 : decode cX10_pass 1 = .ok (.getfield 53, 3) := by decide +kernel
theorem dX10_pass_4 : decode cX10_pass 4 = .ok (.invokevirtual 103, 3) := by decide +kernel
theorem dX10_pass_7 : decode cX10_pass 7 = .ok (.aload_n 0, 1) := by decide +kernel
theorem dX10_pass_8 : decode cX10_pass 8 = .ok (.getfield 24, 3) := by decide +kernel
theorem dX10_pass_11 : decode cX10_pass 11 = .ok (.aload_n 0, 1) := by decide +kernel
theorem dX10_pass_12 : decode cX10_pass 12 = .ok (.getfield 53, 3) := by decide +kernel
theorem dX10_pass_15 : decode cX10_pass 15 = .ok (.invokevirtual 106, 3) := by decide +kernel
theorem dX10_pass_18 : decode cX10_pass 18 = .ok (.ifCond .ne 16, 3) := by decide +kernel
theorem dX10_pass_21 : decode cX10_pass 21 = .ok (.ldc2_w 110, 3) := by decide +kernel
theorem dX10_pass_24 : decode cX10_pass 24 = .ok (.aload_n 0, 1) := by decide +kernel
theorem dX10_pass_25 : decode cX10_pass 25 = .ok (.getfield 24, 3) := by decide +kernel
theorem dX10_pass_28 : decode cX10_pass 28 = .ok (.getfield 112, 3) := by decide +kernel
theorem dX10_pass_31 : decode cX10_pass 31 = .ok (.i2l, 1) := by decide +kernel
theorem dX10_pass_32 : decode cX10_pass 32 = .ok (.lsub, 1) := by decide +kernel
theorem dX10_pass_33 : decode cX10_pass 33 = .ok (.lreturn, 1) := by decide +kernel
theorem dX10_pass_34 : decode cX10_pass 34 = .ok (.aload_n 0, 1) := by decide +kernel
theorem dX10_pass_35 : decode cX10_pass 35 = .ok (.getfield 49, 3) := by decide +kernel
theorem dX10_pass_38 : decode cX10_pass 38 = .ok (.astore_n 1, 1) := by decide +kernel
theorem dX10_pass_39 : decode cX10_pass 39 = .ok (.aload_n 0, 1) := by decide +kernel
theorem dX10_pass_40 : decode cX10_pass 40 = .ok (.aload_n 0, 1) := by decide +kernel
theorem dX10_pass_41 : decode cX10_pass 41 = .ok (.getfield 53, 3) := by decide +kernel
theorem dX10_pass_44 : decode cX10_pass 44 = .ok (.putfield 49, 3) := by decide +kernel
theorem dX10_pass_47 : decode cX10_pass 47 = .ok (.aload_n 0, 1) := by decide +kernel
theorem dX10_pass_48 : decode cX10_pass 48 = .ok (.aload_n 1, 1) := by decide +kernel
theorem dX10_pass_49 : decode cX10_pass 49 = .ok (.putfield 53, 3) := by decide +kernel
theorem dX10_pass_52 : decode cX10_pass 52 = .ok (.aload_n 0, 1) := by decide +kernel
theorem dX10_pass_53 : decode cX10_pass 53 = .ok (.getfield 49, 3) := by decide +kernel
theorem dX10_pass_56 : decode cX10_pass 56 = .ok (.iconst 1, 1) := by decide +kernel
theorem dX10_pass_57 : decode cX10_pass 57 = .ok (.putfield 116, 3) := by decide +kernel
theorem dX10_pass_60 : decode cX10_pass 60 = .ok (.aload_n 0, 1) := by decide +kernel
theorem dX10_pass_61 : decode cX10_pass 61 = .ok (.getfield 49, 3) := by decide +kernel
theorem dX10_pass_64 : decode cX10_pass 64 = .ok (.getfield 120, 3) := by decide +kernel
theorem dX10_pass_67 : decode cX10_pass 67 = .ok (.i2l, 1) := by decide +kernel
theorem dX10_pass_68 : decode cX10_pass 68 = .ok (.lreturn, 1) := by decide +kernel
theorem dX10_fault_0 : decode cX10_fault 0 = .ok (.aload_n 0, 1) := by decide +kernel
theorem dX10_fault_1 : decode cX10_fault 1 = .ok (.getfield 24, 3) := by decide +kernel
theorem dX10_fault_4 : decode cX10_fault 4 = .ok (.getfield 123, 3) := by decide +kernel
theorem dX10_fault_7 : decode cX10_fault 7 = .ok (.ireturn, 1) := by decide +kernel
set_option maxRecDepth 20000 in
theorem ggX10_night_X5_partyAt : GoodIn wsX10_night wsX5_partyAt := goodIn_r _ [7, 8, 9, 69, 70, 71, 72, 73, 74, 75, 76, 77, 78, 79, 80, 81, 82, 83, 84] (by decide +kernel) (by decide +kernel)
set_option maxRecDepth 20000 in
theorem gX10_night_X5_partyAt : GoodIn wsX10_night (wsV RX10 126 RX5 yX5_partyAt wsX5_partyAt) := goodIn_app (goodIn_of _ (by decide +kernel)) ggX10_night_X5_partyAt
set_option maxRecDepth 20000 in
theorem ggX10_night_X5_sleepNight : GoodIn wsX10_night wsX5_sleepNight := goodIn_r _ [13, 14, 15, 16, 17, 18, 19, 20, 21, 22, 23, 24, 25, 26, 27, 28, 4, 5, 6, 7, 8, 9, 29, 30, 31, 32, 33, 34, 35, 36, 37, 38, 39, 40, 41, 42, 43, 44, 45, 46, 47, 48, 49, 50, 51, 52, 53, 54, 55, 56, 57, 58, 85, 86, 87, 88, 89, 90, 91, 92, 93, 94, 95, 96, 97, 98, 99, 69, 70, 71, 72, 73, 74, 75, 76, 77, 78, 79, 80, 81, 82, 83, 84] (by decide +kernel) (by decide +kernel)
set_option maxRecDepth 20000 in
theorem gX10_night_X5_sleepNight : GoodIn wsX10_night (wsV RX10 130 RX5 yX5_sleepNight wsX5_sleepNight) := goodIn_app (goodIn_of _ (by decide +kernel)) ggX10_night_X5_sleepNight
theorem dX10_night_0 : decode cX10_night 0 = .ok (.aload_n 0, 1) := by decide +kernel
theorem dX10_night_1 : decode cX10_night 1 = .ok (.getfield 49, 3) := by decide +kernel
theorem dX10_night_4 : decode cX10_night 4 = .ok (.iload_n 1, 1) := by decide +kernel
theorem dX10_night_5 : decode cX10_night 5 = .ok (.invokevirtual 126, 3) := by decide +kernel
theorem dX10_night_8 : decode cX10_night 8 = .ok (.ifnonnull 7, 3) := by decide +kernel
theorem dX10_night_11 : decode cX10_night 11 = .ok (.ldc2_w 66, 3) := by decide +kernel
theorem dX10_night_14 : decode cX10_night 14 = .ok (.lreturn, 1) := by decide +kernel
theorem dX10_night_15 : decode cX10_night 15 = .ok (.aload_n 0, 1) := by decide +kernel
theorem dX10_night_16 : decode cX10_night 16 = .ok (.getfield 49, 3) := by decide +kernel
theorem dX10_night_19 : decode cX10_night 19 = .ok (.iload_n 1, 1) := by decide +kernel
theorem dX10_night_20 : decode cX10_night 20 = .ok (.invokevirtual 130, 3) := by decide +kernel
theorem dX10_night_23 : decode cX10_night 23 = .ok (.i2l, 1) := by decide +kernel
theorem dX10_night_24 : decode cX10_night 24 = .ok (.lreturn, 1) := by decide +kernel
set_option maxRecDepth 20000 in
theorem ggX10_nights_X10_isRow : GoodIn wsX10_nights wsX10_isRow := goodIn_r _ [9] (by decide +kernel) (by decide +kernel)
set_option maxRecDepth 20000 in
theorem gX10_nights_X10_isRow : GoodIn wsX10_nights (va_wsS RX10 62 yX10_isRow wsX10_isRow) := goodIn_app (goodIn_of _ (by decide +kernel)) ggX10_nights_X10_isRow
set_option maxRecDepth 20000 in
theorem ggX10_nights_X10_findingOfSpan : GoodIn wsX10_nights wsX10_findingOfSpan := goodIn_r _ [13, 14, 15, 16, 8, 17, 84, 85, 86, 87, 88, 89, 90, 91, 92, 93] (by decide +kernel) (by decide +kernel)
set_option maxRecDepth 20000 in
theorem gX10_nights_X10_findingOfSpan : GoodIn wsX10_nights (wsV RX10 76 RX10 yX10_findingOfSpan wsX10_findingOfSpan) := goodIn_app (goodIn_of _ (by decide +kernel)) ggX10_nights_X10_findingOfSpan
set_option maxRecDepth 20000 in
theorem ggX10_nights_X10_found : GoodIn wsX10_nights wsX10_found := goodIn_r _ [21, 22, 23, 84, 85, 86, 87, 88, 89, 90, 91, 92, 93] (by decide +kernel) (by decide +kernel)
set_option maxRecDepth 20000 in
theorem gX10_nights_X10_found : GoodIn wsX10_nights (wsV RX10 68 RX10 yX10_found wsX10_found) := goodIn_app (goodIn_of _ (by decide +kernel)) ggX10_nights_X10_found
set_option maxRecDepth 20000 in
theorem ggX10_nights_X5_partyAt : GoodIn wsX10_nights wsX5_partyAt := goodIn_r _ [28, 29, 30, 94, 95, 96, 97, 98, 99, 100, 101, 102, 103, 104, 105, 106, 107, 108, 109] (by decide +kernel) (by decide +kernel)
set_option maxRecDepth 20000 in
theorem gX10_nights_X5_partyAt : GoodIn wsX10_nights (wsV RX10 126 RX5 yX5_partyAt wsX5_partyAt) := goodIn_app (goodIn_of _ (by decide +kernel)) ggX10_nights_X5_partyAt
set_option maxRecDepth 20000 in
theorem ggX10_nights_X5_sleepNight : GoodIn wsX10_nights wsX5_sleepNight := goodIn_r _ [34, 35, 36, 37, 38, 39, 40, 41, 42, 43, 44, 45, 46, 47, 48, 49, 25, 26, 27, 28, 29, 30, 50, 51, 52, 53, 54, 55, 56, 57, 58, 59, 60, 61, 62, 63, 64, 65, 66, 67, 68, 69, 70, 71, 72, 73, 74, 75, 76, 77, 78, 79, 110, 111, 112, 113, 114, 115, 116, 117, 118, 119, 120, 121, 122, 123, 124, 94, 95, 96, 97, 98, 99, 100, 101, 102, 103, 104, 105, 106, 107, 108, 109] (by decide +kernel) (by decide +kernel)
set_option maxRecDepth 20000 in
theorem gX10_nights_X5_sleepNight : GoodIn wsX10_nights (wsV RX10 130 RX5 yX5_sleepNight wsX5_sleepNight) := goodIn_app (goodIn_of _ (by decide +kernel)) ggX10_nights_X5_sleepNight
set_option maxRecDepth 20000 in
theorem ggX10_nights_X10_fine : GoodIn wsX10_nights wsX10_fine := goodIn_r _ [83, 22, 84, 85, 86, 87, 88, 89, 90, 91, 92, 93] (by decide +kernel) (by decide +kernel)
set_option maxRecDepth 20000 in
theorem gX10_nights_X10_fine : GoodIn wsX10_nights (wsV RX10 72 RX10 yX10_fine wsX10_fine) := goodIn_app (goodIn_of _ (by decide +kernel)) ggX10_nights_X10_fine
theorem dX10_nights_0 : decode cX10_nights 0 = .ok (.aload_n 0, 1) := by decide +kernel
theorem dX10_nights_1 : decode cX10_nights 1 = .ok (.getfield 49, 3) := by decide +kernel
theorem dX10_nights_4 : decode cX10_nights 4 = .ok (.getfield 116, 3) := by decide +kernel
theorem dX10_nights_7 : decode cX10_nights 7 = .ok (.ifCond .ne 7, 3) := by decide +kernel
theorem dX10_nights_10 : decode cX10_nights 10 = .ok (.ldc2_w 134, 3) := by decide +kernel
theorem dX10_nights_13 : decode cX10_nights 13 = .ok (.lreturn, 1) := by decide +kernel
theorem dX10_nights_14 : decode cX10_nights 14 = .ok (.iload_n 1, 1) := by decide +kernel
theorem dX10_nights_15 : decode cX10_nights 15 = .ok (.invokestatic 62, 3) := by decide +kernel
theorem dX10_nights_18 : decode cX10_nights 18 = .ok (.ifCond .eq 14, 3) := by decide +kernel
theorem dX10_nights_21 : decode cX10_nights 21 = .ok (.iload_n 3, 1) := by decide +kernel
theorem dX10_nights_22 : decode cX10_nights 22 = .ok (.iconst 1, 1) := by decide +kernel
theorem dX10_nights_23 : decode cX10_nights 23 = .ok (.if_icmp .lt 9, 3) := by decide +kernel
theorem dX10_nights_26 : decode cX10_nights 26 = .ok (.iload_n 3, 1) := by decide +kernel
theorem dX10_nights_27 : decode cX10_nights 27 = .ok (.bipush 40, 2) := by decide +kernel
theorem dX10_nights_29 : decode cX10_nights 29 = .ok (.if_icmp .le 7, 3) := by decide +kernel
theorem dX10_nights_32 : decode cX10_nights 32 = .ok (.ldc2_w 66, 3) := by decide +kernel
theorem dX10_nights_35 : decode cX10_nights 35 = .ok (.lreturn, 1) := by decide +kernel
theorem dX10_nights_36 : decode cX10_nights 36 = .ok (.aload_n 0, 1) := by decide +kernel
theorem dX10_nights_37 : decode cX10_nights 37 = .ok (.iload_n 1, 1) := by decide +kernel
theorem dX10_nights_38 : decode cX10_nights 38 = .ok (.iload_n 2, 1) := by decide +kernel
theorem dX10_nights_39 : decode cX10_nights 39 = .ok (.iload_n 3, 1) := by decide +kernel
theorem dX10_nights_40 : decode cX10_nights 40 = .ok (.invokevirtual 76, 3) := by decide +kernel
theorem dX10_nights_43 : decode cX10_nights 43 = .ok (.istore 4, 2) := by decide +kernel
theorem dX10_nights_45 : decode cX10_nights 45 = .ok (.iload 4, 2) := by decide +kernel
theorem dX10_nights_47 : decode cX10_nights 47 = .ok (.ifCond .eq 10, 3) := by decide +kernel
theorem dX10_nights_50 : decode cX10_nights 50 = .ok (.aload_n 0, 1) := by decide +kernel
theorem dX10_nights_51 : decode cX10_nights 51 = .ok (.iload 4, 2) := by decide +kernel
theorem dX10_nights_53 : decode cX10_nights 53 = .ok (.invokevirtual 68, 3) := by decide +kernel
theorem dX10_nights_56 : decode cX10_nights 56 = .ok (.lreturn, 1) := by decide +kernel
theorem dX10_nights_57 : decode cX10_nights 57 = .ok (.iconst 0, 1) := by decide +kernel
theorem dX10_nights_58 : decode cX10_nights 58 = .ok (.istore 5, 2) := by decide +kernel
theorem dX10_nights_60 : decode cX10_nights 60 = .ok (.iload 5, 2) := by decide +kernel
theorem dX10_nights_62 : decode cX10_nights 62 = .ok (.iload_n 3, 1) := by decide +kernel
theorem dX10_nights_63 : decode cX10_nights 63 = .ok (.if_icmp .ge 34, 3) := by decide +kernel
theorem dX10_nights_66 : decode cX10_nights 66 = .ok (.aload_n 0, 1) := by decide +kernel
theorem dX10_nights_67 : decode cX10_nights 67 = .ok (.getfield 49, 3) := by decide +kernel
theorem dX10_nights_70 : decode cX10_nights 70 = .ok (.aload_n 0, 1) := by decide +kernel
theorem dX10_nights_71 : decode cX10_nights 71 = .ok (.getfield 11, 3) := by decide +kernel
theorem dX10_nights_74 : decode cX10_nights 74 = .ok (.iload_n 1, 1) := by decide +kernel
theorem dX10_nights_75 : decode cX10_nights 75 = .ok (.aaload, 1) := by decide +kernel
theorem dX10_nights_76 : decode cX10_nights 76 = .ok (.iload_n 2, 1) := by decide +kernel
theorem dX10_nights_77 : decode cX10_nights 77 = .ok (.iload 5, 2) := by decide +kernel
theorem dX10_nights_79 : decode cX10_nights 79 = .ok (.iadd, 1) := by decide +kernel
theorem dX10_nights_80 : decode cX10_nights 80 = .ok (.iaload, 1) := by decide +kernel
theorem dX10_nights_81 : decode cX10_nights 81 = .ok (.invokevirtual 126, 3) := by decide +kernel
theorem dX10_nights_84 : decode cX10_nights 84 = .ok (.ifnonnull 7, 3) := by decide +kernel
theorem dX10_nights_87 : decode cX10_nights 87 = .ok (.ldc2_w 66, 3) := by decide +kernel
theorem dX10_nights_90 : decode cX10_nights 90 = .ok (.lreturn, 1) := by decide +kernel
theorem dX10_nights_91 : decode cX10_nights 91 = .ok (.iinc 5 1, 3) := by decide +kernel
theorem dX10_nights_94 : decode cX10_nights 94 = .ok (.goto (-34), 3) := by decide +kernel
theorem dX10_nights_97 : decode cX10_nights 97 = .ok (.lconst 0, 1) := by decide +kernel
theorem dX10_nights_98 : decode cX10_nights 98 = .ok (.lstore 5, 2) := by decide +kernel
theorem dX10_nights_100 : decode cX10_nights 100 = .ok (.iconst 0, 1) := by decide +kernel
theorem dX10_nights_101 : decode cX10_nights 101 = .ok (.istore 7, 2) := by decide +kernel
theorem dX10_nights_103 : decode cX10_nights 103 = .ok (.iload 7, 2) := by decide +kernel
theorem dX10_nights_105 : decode cX10_nights 105 = .ok (.iload_n 3, 1) := by decide +kernel
theorem dX10_nights_106 : decode cX10_nights 106 = .ok (.if_icmp .ge 33, 3) := by decide +kernel
theorem dX10_nights_109 : decode cX10_nights 109 = .ok (.lload 5, 2) := by decide +kernel
theorem dX10_nights_111 : decode cX10_nights 111 = .ok (.aload_n 0, 1) := by decide +kernel
theorem dX10_nights_112 : decode cX10_nights 112 = .ok (.getfield 49, 3) := by decide +kernel
theorem dX10_nights_115 : decode cX10_nights 115 = .ok (.aload_n 0, 1) := by decide +kernel
theorem dX10_nights_116 : decode cX10_nights 116 = .ok (.getfield 11, 3) := by decide +kernel
theorem dX10_nights_119 : decode cX10_nights 119 = .ok (.iload_n 1, 1) := by decide +kernel
theorem dX10_nights_120 : decode cX10_nights 120 = .ok (.aaload, 1) := by decide +kernel
theorem dX10_nights_121 : decode cX10_nights 121 = .ok (.iload_n 2, 1) := by decide +kernel
theorem dX10_nights_122 : decode cX10_nights 122 = .ok (.iload 7, 2) := by decide +kernel
theorem dX10_nights_124 : decode cX10_nights 124 = .ok (.iadd, 1) := by decide +kernel
theorem dX10_nights_125 : decode cX10_nights 125 = .ok (.iaload, 1) := by decide +kernel
theorem dX10_nights_126 : decode cX10_nights 126 = .ok (.invokevirtual 130, 3) := by decide +kernel
theorem dX10_nights_129 : decode cX10_nights 129 = .ok (.i2l, 1) := by decide +kernel
theorem dX10_nights_130 : decode cX10_nights 130 = .ok (.ladd, 1) := by decide +kernel
theorem dX10_nights_131 : decode cX10_nights 131 = .ok (.lstore 5, 2) := by decide +kernel
theorem dX10_nights_133 : decode cX10_nights 133 = .ok (.iinc 7 1, 3) := by decide +kernel
theorem dX10_nights_136 : decode cX10_nights 136 = .ok (.goto (-33), 3) := by decide +kernel
theorem dX10_nights_139 : decode cX10_nights 139 = .ok (.aload_n 0, 1) := by decide +kernel
theorem dX10_nights_140 : decode cX10_nights 140 = .ok (.lload 5, 2) := by decide +kernel
theorem dX10_nights_142 : decode cX10_nights 142 = .ok (.invokevirtual 72, 3) := by decide +kernel
theorem dX10_nights_145 : decode cX10_nights 145 = .ok (.lreturn, 1) := by decide +kernel
set_option maxRecDepth 20000 in
theorem ggX10_snow_X5_loseInSnow : GoodIn wsX10_snow wsX5_loseInSnow := goodIn_r _ [10, 11, 12, 13, 14, 15, 16, 27, 28, 29, 30, 31, 32, 33, 34, 35, 36, 37, 38, 39, 40, 41, 42] (by decide +kernel) (by decide +kernel)
set_option maxRecDepth 20000 in
theorem gX10_snow_X5_loseInSnow : GoodIn wsX10_snow (wsV RX10 136 RX5 yX5_loseInSnow wsX5_loseInSnow) := goodIn_app (goodIn_of _ (by decide +kernel)) ggX10_snow_X5_loseInSnow
theorem dX10_snow_0 : decode cX10_snow 0 = .ok (.aload_n 0, 1) := by decide +kernel
theorem dX10_snow_1 : decode cX10_snow 1 = .ok (.getfield 49, 3) := by decide +kernel
theorem dX10_snow_4 : decode cX10_snow 4 = .ok (.getfield 116, 3) := by decide +kernel
theorem dX10_snow_7 : decode cX10_snow 7 = .ok (.ifCond .ne 7, 3) := by decide +kernel
theorem dX10_snow_10 : decode cX10_snow 10 = .ok (.ldc2_w 134, 3) := by decide +kernel
theorem dX10_snow_13 : decode cX10_snow 13 = .ok (.lreturn, 1) := by decide +kernel
theorem dX10_snow_14 : decode cX10_snow 14 = .ok (.iload_n 1, 1) := by decide +kernel
theorem dX10_snow_15 : decode cX10_snow 15 = .ok (.ifCond .lt 9, 3) := by decide +kernel
theorem dX10_snow_18 : decode cX10_snow 18 = .ok (.iload_n 1, 1) := by decide +kernel
theorem dX10_snow_19 : decode cX10_snow 19 = .ok (.bipush 99, 2) := by decide +kernel
theorem dX10_snow_21 : decode cX10_snow 21 = .ok (.if_icmp .le 7, 3) := by decide +kernel
theorem dX10_snow_24 : decode cX10_snow 24 = .ok (.ldc2_w 66, 3) := by decide +kernel
theorem dX10_snow_27 : decode cX10_snow 27 = .ok (.lreturn, 1) := by decide +kernel
theorem dX10_snow_28 : decode cX10_snow 28 = .ok (.aload_n 0, 1) := by decide +kernel
theorem dX10_snow_29 : decode cX10_snow 29 = .ok (.getfield 49, 3) := by decide +kernel
theorem dX10_snow_32 : decode cX10_snow 32 = .ok (.iload_n 1, 1) := by decide +kernel
theorem dX10_snow_33 : decode cX10_snow 33 = .ok (.invokevirtual 136, 3) := by decide +kernel
theorem dX10_snow_36 : decode cX10_snow 36 = .ok (.aload_n 0, 1) := by decide +kernel
theorem dX10_snow_37 : decode cX10_snow 37 = .ok (.getfield 49, 3) := by decide +kernel
theorem dX10_snow_40 : decode cX10_snow 40 = .ok (.getfield 140, 3) := by decide +kernel
theorem dX10_snow_43 : decode cX10_snow 43 = .ok (.i2l, 1) := by decide +kernel
theorem dX10_snow_44 : decode cX10_snow 44 = .ok (.lreturn, 1) := by decide +kernel
set_option maxRecDepth 20000 in
theorem ggX10_due_X10_isLaw : GoodIn wsX10_due wsX10_isLaw := goodIn_r _ [8] (by decide +kernel) (by decide +kernel)
set_option maxRecDepth 20000 in
theorem gX10_due_X10_isLaw : GoodIn wsX10_due (va_wsS RX10 143 yX10_isLaw wsX10_isLaw) := goodIn_app (goodIn_of _ (by decide +kernel)) ggX10_due_X10_isLaw
set_option maxRecDepth 20000 in
theorem ggX10_due_X5_owed : GoodIn wsX10_due wsX5_owed := goodIn_r _ [13, 14, 15, 26, 27, 28, 29, 30, 31, 32, 33, 34, 35, 36, 37, 38, 39, 40, 41] (by decide +kernel) (by decide +kernel)
set_option maxRecDepth 20000 in
theorem gX10_due_X5_owed : GoodIn wsX10_due (wsV RX10 146 RX5 yX5_owed wsX5_owed) := goodIn_app (goodIn_of _ (by decide +kernel)) ggX10_due_X5_owed
theorem dX10_due_0 : decode cX10_due 0 = .ok (.aload_n 0, 1) := by decide +kernel
theorem dX10_due_1 : decode cX10_due 1 = .ok (.getfield 49, 3) := by decide +kernel
theorem dX10_due_4 : decode cX10_due 4 = .ok (.getfield 116, 3) := by decide +kernel
theorem dX10_due_7 : decode cX10_due 7 = .ok (.ifCond .ne 7, 3) := by decide +kernel
theorem dX10_due_10 : decode cX10_due 10 = .ok (.ldc2_w 134, 3) := by decide +kernel
theorem dX10_due_13 : decode cX10_due 13 = .ok (.lreturn, 1) := by decide +kernel
theorem dX10_due_14 : decode cX10_due 14 = .ok (.iload_n 1, 1) := by decide +kernel
theorem dX10_due_15 : decode cX10_due 15 = .ok (.invokestatic 143, 3) := by decide +kernel
theorem dX10_due_18 : decode cX10_due 18 = .ok (.ifCond .eq 14, 3) := by decide +kernel
theorem dX10_due_21 : decode cX10_due 21 = .ok (.iload_n 2, 1) := by decide +kernel
theorem dX10_due_22 : decode cX10_due 22 = .ok (.iconst 1, 1) := by decide +kernel
theorem dX10_due_23 : decode cX10_due 23 = .ok (.if_icmp .lt 9, 3) := by decide +kernel
theorem dX10_due_26 : decode cX10_due 26 = .ok (.iload_n 2, 1) := by decide +kernel
theorem dX10_due_27 : decode cX10_due 27 = .ok (.bipush 9, 2) := by decide +kernel
theorem dX10_due_29 : decode cX10_due 29 = .ok (.if_icmp .le 7, 3) := by decide +kernel
theorem dX10_due_32 : decode cX10_due 32 = .ok (.ldc2_w 66, 3) := by decide +kernel
theorem dX10_due_35 : decode cX10_due 35 = .ok (.lreturn, 1) := by decide +kernel
theorem dX10_due_36 : decode cX10_due 36 = .ok (.aload_n 0, 1) := by decide +kernel
theorem dX10_due_37 : decode cX10_due 37 = .ok (.getfield 49, 3) := by decide +kernel
theorem dX10_due_40 : decode cX10_due 40 = .ok (.iload_n 1, 1) := by decide +kernel
theorem dX10_due_41 : decode cX10_due 41 = .ok (.iload_n 2, 1) := by decide +kernel
theorem dX10_due_42 : decode cX10_due 42 = .ok (.invokevirtual 146, 3) := by decide +kernel
theorem dX10_due_45 : decode cX10_due 45 = .ok (.i2l, 1) := by decide +kernel
theorem dX10_due_46 : decode cX10_due 46 = .ok (.lreturn, 1) := by decide +kernel
set_option maxRecDepth 20000 in
theorem ggX10_party_X5_partyAt : GoodIn wsX10_party wsX5_partyAt := goodIn_r _ [13, 14, 15, 41, 42, 43, 44, 45, 46, 47, 48, 49, 50, 51, 52, 53, 54, 55, 56] (by decide +kernel) (by decide +kernel)
set_option maxRecDepth 20000 in
theorem gX10_party_X5_partyAt : GoodIn wsX10_party (wsV RX10 126 RX5 yX5_partyAt wsX5_partyAt) := goodIn_app (goodIn_of _ (by decide +kernel)) ggX10_party_X5_partyAt
theorem dX10_party_0 : decode cX10_party 0 = .ok (.aload_n 0, 1) := by decide +kernel
theorem dX10_party_1 : decode cX10_party 1 = .ok (.getfield 49, 3) := by decide +kernel
theorem dX10_party_4 : decode cX10_party 4 = .ok (.iload_n 1, 1) := by decide +kernel
theorem dX10_party_5 : decode cX10_party 5 = .ok (.invokevirtual 126, 3) := by decide +kernel
theorem dX10_party_8 : decode cX10_party 8 = .ok (.astore_n 3, 1) := by decide +kernel
theorem dX10_party_9 : decode cX10_party 9 = .ok (.aload_n 3, 1) := by decide +kernel
theorem dX10_party_10 : decode cX10_party 10 = .ok (.ifnonnull 7, 3) := by decide +kernel
theorem dX10_party_13 : decode cX10_party 13 = .ok (.ldc2_w 66, 3) := by decide +kernel
theorem dX10_party_16 : decode cX10_party 16 = .ok (.lreturn, 1) := by decide +kernel
theorem dX10_party_17 : decode cX10_party 17 = .ok (.iload_n 2, 1) := by decide +kernel
theorem dX10_party_18 : decode cX10_party 18 = .ok (.tableswitch 94 0 5 #[38, 44, 50, 61, 72, 83], 38) := by decide +kernel
theorem dX10_party_56 : decode cX10_party 56 = .ok (.aload_n 3, 1) := by decide +kernel
theorem dX10_party_57 : decode cX10_party 57 = .ok (.getfield 149, 3) := by decide +kernel
theorem dX10_party_60 : decode cX10_party 60 = .ok (.i2l, 1) := by decide +kernel
theorem dX10_party_61 : decode cX10_party 61 = .ok (.lreturn, 1) := by decide +kernel
theorem dX10_party_62 : decode cX10_party 62 = .ok (.aload_n 3, 1) := by decide +kernel
theorem dX10_party_63 : decode cX10_party 63 = .ok (.getfield 154, 3) := by decide +kernel
theorem dX10_party_66 : decode cX10_party 66 = .ok (.i2l, 1) := by decide +kernel
theorem dX10_party_67 : decode cX10_party 67 = .ok (.lreturn, 1) := by decide +kernel
theorem dX10_party_68 : decode cX10_party 68 = .ok (.aload_n 0, 1) := by decide +kernel
theorem dX10_party_69 : decode cX10_party 69 = .ok (.getfield 49, 3) := by decide +kernel
theorem dX10_party_72 : decode cX10_party 72 = .ok (.getfield 157, 3) := by decide +kernel
theorem dX10_party_75 : decode cX10_party 75 = .ok (.iload_n 1, 1) := by decide +kernel
theorem dX10_party_76 : decode cX10_party 76 = .ok (.iaload, 1) := by decide +kernel
theorem dX10_party_77 : decode cX10_party 77 = .ok (.i2l, 1) := by decide +kernel
theorem dX10_party_78 : decode cX10_party 78 = .ok (.lreturn, 1) := by decide +kernel
theorem dX10_party_79 : decode cX10_party 79 = .ok (.aload_n 0, 1) := by decide +kernel
theorem dX10_party_80 : decode cX10_party 80 = .ok (.getfield 49, 3) := by decide +kernel
theorem dX10_party_83 : decode cX10_party 83 = .ok (.getfield 160, 3) := by decide +kernel
theorem dX10_party_86 : decode cX10_party 86 = .ok (.iload_n 1, 1) := by decide +kernel
theorem dX10_party_87 : decode cX10_party 87 = .ok (.iaload, 1) := by decide +kernel
theorem dX10_party_88 : decode cX10_party 88 = .ok (.i2l, 1) := by decide +kernel
theorem dX10_party_89 : decode cX10_party 89 = .ok (.lreturn, 1) := by decide +kernel
theorem dX10_party_90 : decode cX10_party 90 = .ok (.aload_n 0, 1) := by decide +kernel
theorem dX10_party_91 : decode cX10_party 91 = .ok (.getfield 49, 3) := by decide +kernel
theorem dX10_party_94 : decode cX10_party 94 = .ok (.getfield 163, 3) := by decide +kernel
theorem dX10_party_97 : decode cX10_party 97 = .ok (.iload_n 1, 1) := by decide +kernel
theorem dX10_party_98 : decode cX10_party 98 = .ok (.iaload, 1) := by decide +kernel
theorem dX10_party_99 : decode cX10_party 99 = .ok (.i2l, 1) := by decide +kernel
theorem dX10_party_100 : decode cX10_party 100 = .ok (.lreturn, 1) := by decide +kernel
theorem dX10_party_101 : decode cX10_party 101 = .ok (.aload_n 0, 1) := by decide +kernel
theorem dX10_party_102 : decode cX10_party 102 = .ok (.getfield 49, 3) := by decide +kernel
theorem dX10_party_105 : decode cX10_party 105 = .ok (.getfield 166, 3) := by decide +kernel
theorem dX10_party_108 : decode cX10_party 108 = .ok (.iload_n 1, 1) := by decide +kernel
theorem dX10_party_109 : decode cX10_party 109 = .ok (.iaload, 1) := by decide +kernel
theorem dX10_party_110 : decode cX10_party 110 = .ok (.i2l, 1) := by decide +kernel
theorem dX10_party_111 : decode cX10_party 111 = .ok (.lreturn, 1) := by decide +kernel
theorem dX10_party_112 : decode cX10_party 112 = .ok (.ldc2_w 66, 3) := by decide +kernel
theorem dX10_party_115 : decode cX10_party 115 = .ok (.lreturn, 1) := by decide +kernel
set_option maxRecDepth 20000 in
theorem ggX10_safe_X10_isNights : GoodIn wsX10_safe wsX10_isNights := goodIn_r _ [11] (by decide +kernel) (by decide +kernel)
set_option maxRecDepth 20000 in
theorem gX10_safe_X10_isNights : GoodIn wsX10_safe (va_wsS RX10 169 yX10_isNights wsX10_isNights) := goodIn_app (goodIn_of _ (by decide +kernel)) ggX10_safe_X10_isNights
set_option maxRecDepth 20000 in
theorem ggX10_safe_X10_isLaw : GoodIn wsX10_safe wsX10_isLaw := goodIn_r _ [14] (by decide +kernel) (by decide +kernel)
set_option maxRecDepth 20000 in
theorem gX10_safe_X10_isLaw : GoodIn wsX10_safe (va_wsS RX10 143 yX10_isLaw wsX10_isLaw) := goodIn_app (goodIn_of _ (by decide +kernel)) ggX10_safe_X10_isLaw
set_option maxRecDepth 20000 in
theorem ggX10_safe_X10_isZeroOrOne : GoodIn wsX10_safe wsX10_isZeroOrOne := goodIn_r _ [17] (by decide +kernel) (by decide +kernel)
set_option maxRecDepth 20000 in
theorem gX10_safe_X10_isZeroOrOne : GoodIn wsX10_safe (va_wsS RX10 172 yX10_isZeroOrOne wsX10_isZeroOrOne) := goodIn_app (goodIn_of _ (by decide +kernel)) ggX10_safe_X10_isZeroOrOne
set_option maxRecDepth 20000 in
theorem ggX10_safe_X0_foretell : GoodIn wsX10_safe wsX0_foretell := goodIn_r _ [22, 23, 24, 25, 26, 27, 21, 28, 29, 30, 31, 32, 33, 34, 35, 36, 37, 38, 39, 40, 41, 42, 43, 44, 45, 46, 47, 48, 49, 50, 51, 52, 53, 54, 55, 56, 57, 58, 59, 60, 61, 62, 63, 64, 98, 99, 100, 101, 102, 103, 104, 105, 106, 107, 82, 83, 84, 85, 86, 87, 88, 89, 90, 91, 92, 93, 94, 95, 96, 97] (by decide +kernel) (by decide +kernel)
set_option maxRecDepth 20000 in
theorem gX10_safe_X0_foretell : GoodIn wsX10_safe (wsV RX10 180 RX0 yX0_foretell wsX0_foretell) := goodIn_app (goodIn_of _ (by decide +kernel)) ggX10_safe_X0_foretell
set_option maxRecDepth 20000 in
theorem ggX10_safe_X0_safeWays : GoodIn wsX10_safe wsX0_safeWays := goodIn_r _ [68, 23, 31, 24, 62, 63, 40, 64, 98, 99, 100, 101, 102, 103, 104, 105, 106, 107] (by decide +kernel) (by decide +kernel)
set_option maxRecDepth 20000 in
theorem gX10_safe_X0_safeWays : GoodIn wsX10_safe (wsV RX10 184 RX0 yX0_safeWays wsX0_safeWays) := goodIn_app (goodIn_of _ (by decide +kernel)) ggX10_safe_X0_safeWays
set_option maxRecDepth 20000 in
theorem ggX10_safe_X10_greatestDivisor : GoodIn wsX10_safe wsX10_greatestDivisor := goodIn_r _ [71] (by decide +kernel) (by decide +kernel)
set_option maxRecDepth 20000 in
theorem gX10_safe_X10_greatestDivisor : GoodIn wsX10_safe (va_wsS RX10 191 yX10_greatestDivisor wsX10_greatestDivisor) := goodIn_app (goodIn_of _ (by decide +kernel)) ggX10_safe_X10_greatestDivisor
theorem dX10_safe_0 : decode cX10_safe 0 = .ok (.aload_n 0, 1) := by decide +kernel
theorem dX10_safe_1 : decode cX10_safe 1 = .ok (.getfield 49, 3) := by decide +kernel
theorem dX10_safe_4 : decode cX10_safe 4 = .ok (.getfield 116, 3) := by decide +kernel
theorem dX10_safe_7 : decode cX10_safe 7 = .ok (.ifCond .ne 7, 3) := by decide +kernel
theorem dX10_safe_10 : decode cX10_safe 10 = .ok (.ldc2_w 134, 3) := by decide +kernel
theorem dX10_safe_13 : decode cX10_safe 13 = .ok (.lreturn, 1) := by decide +kernel
theorem dX10_safe_14 : decode cX10_safe 14 = .ok (.iload_n 1, 1) := by decide +kernel
theorem dX10_safe_15 : decode cX10_safe 15 = .ok (.ifCond .lt 32, 3) := by decide +kernel
theorem dX10_safe_18 : decode cX10_safe 18 = .ok (.iload_n 1, 1) := by decide +kernel
theorem dX10_safe_19 : decode cX10_safe 19 = .ok (.sipush 999, 3) := by decide +kernel
theorem dX10_safe_22 : decode cX10_safe 22 = .ok (.if_icmp .gt 25, 3) := by decide +kernel
theorem dX10_safe_25 : decode cX10_safe 25 = .ok (.iload_n 2, 1) := by decide +kernel
theorem dX10_safe_26 : decode cX10_safe 26 = .ok (.invokestatic 169, 3) := by decide +kernel
theorem dX10_safe_29 : decode cX10_safe 29 = .ok (.ifCond .eq 18, 3) := by decide +kernel
theorem dX10_safe_32 : decode cX10_safe 32 = .ok (.iload_n 3, 1) := by decide +kernel
theorem dX10_safe_33 : decode cX10_safe 33 = .ok (.invokestatic 143, 3) := by decide +kernel
theorem dX10_safe_36 : decode cX10_safe 36 = .ok (.ifCond .eq 11, 3) := by decide +kernel
theorem dX10_safe_39 : decode cX10_safe 39 = .ok (.iload 4, 2) := by decide +kernel
theorem dX10_safe_41 : decode cX10_safe 41 = .ok (.invokestatic 172, 3) := by decide +kernel
theorem dX10_safe_44 : decode cX10_safe 44 = .ok (.ifCond .ne 7, 3) := by decide +kernel
theorem dX10_safe_47 : decode cX10_safe 47 = .ok (.ldc2_w 66, 3) := by decide +kernel
theorem dX10_safe_50 : decode cX10_safe 50 = .ok (.lreturn, 1) := by decide +kernel
theorem dX10_safe_51 : decode cX10_safe 51 = .ok (.aload_n 0, 1) := by decide +kernel
theorem dX10_safe_52 : decode cX10_safe 52 = .ok (.getfield 49, 3) := by decide +kernel
theorem dX10_safe_55 : decode cX10_safe 55 = .ok (.getfield 175, 3) := by decide +kernel
theorem dX10_safe_58 : decode cX10_safe 58 = .ok (.ifCond .ne 7, 3) := by decide +kernel
theorem dX10_safe_61 : decode cX10_safe 61 = .ok (.ldc2_w 178, 3) := by decide +kernel
theorem dX10_safe_64 : decode cX10_safe 64 = .ok (.lreturn, 1) := by decide +kernel
theorem dX10_safe_65 : decode cX10_safe 65 = .ok (.aload_n 0, 1) := by decide +kernel
theorem dX10_safe_66 : decode cX10_safe 66 = .ok (.getfield 31, 3) := by decide +kernel
theorem dX10_safe_69 : decode cX10_safe 69 = .ok (.aload_n 0, 1) := by decide +kernel
theorem dX10_safe_70 : decode cX10_safe 70 = .ok (.getfield 49, 3) := by decide +kernel
theorem dX10_safe_73 : decode cX10_safe 73 = .ok (.iload_n 3, 1) := by decide +kernel
theorem dX10_safe_74 : decode cX10_safe 74 = .ok (.iload_n 2, 1) := by decide +kernel
theorem dX10_safe_75 : decode cX10_safe 75 = .ok (.invokevirtual 180, 3) := by decide +kernel
theorem dX10_safe_78 : decode cX10_safe 78 = .ok (.aload_n 0, 1) := by decide +kernel
theorem dX10_safe_79 : decode cX10_safe 79 = .ok (.getfield 31, 3) := by decide +kernel
theorem dX10_safe_82 : decode cX10_safe 82 = .ok (.iload_n 1, 1) := by decide +kernel
theorem dX10_safe_83 : decode cX10_safe 83 = .ok (.invokevirtual 184, 3) := by decide +kernel
theorem dX10_safe_86 : decode cX10_safe 86 = .ok (.lstore 5, 2) := by decide +kernel
theorem dX10_safe_88 : decode cX10_safe 88 = .ok (.aload_n 0, 1) := by decide +kernel
theorem dX10_safe_89 : decode cX10_safe 89 = .ok (.getfield 31, 3) := by decide +kernel
theorem dX10_safe_92 : decode cX10_safe 92 = .ok (.getfield 187, 3) := by decide +kernel
theorem dX10_safe_95 : decode cX10_safe 95 = .ok (.lstore 7, 2) := by decide +kernel
theorem dX10_safe_97 : decode cX10_safe 97 = .ok (.lload 5, 2) := by decide +kernel
theorem dX10_safe_99 : decode cX10_safe 99 = .ok (.lload 7, 2) := by decide +kernel
theorem dX10_safe_101 : decode cX10_safe 101 = .ok (.invokestatic 191, 3) := by decide +kernel
theorem dX10_safe_104 : decode cX10_safe 104 = .ok (.lstore 9, 2) := by decide +kernel
theorem dX10_safe_106 : decode cX10_safe 106 = .ok (.lload 9, 2) := by decide +kernel
theorem dX10_safe_108 : decode cX10_safe 108 = .ok (.lconst 0, 1) := by decide +kernel
theorem dX10_safe_109 : decode cX10_safe 109 = .ok (.lcmp, 1) := by decide +kernel
theorem dX10_safe_110 : decode cX10_safe 110 = .ok (.ifCond .ne 7, 3) := by decide +kernel
theorem dX10_safe_113 : decode cX10_safe 113 = .ok (.ldc2_w 66, 3) := by decide +kernel
theorem dX10_safe_116 : decode cX10_safe 116 = .ok (.lreturn, 1) := by decide +kernel
theorem dX10_safe_117 : decode cX10_safe 117 = .ok (.iload 4, 2) := by decide +kernel
theorem dX10_safe_119 : decode cX10_safe 119 = .ok (.ifCond .ne 11, 3) := by decide +kernel
theorem dX10_safe_122 : decode cX10_safe 122 = .ok (.lload 5, 2) := by decide +kernel
theorem dX10_safe_124 : decode cX10_safe 124 = .ok (.lload 9, 2) := by decide +kernel
theorem dX10_safe_126 : decode cX10_safe 126 = .ok (.ldiv, 1) := by decide +kernel
theorem dX10_safe_127 : decode cX10_safe 127 = .ok (.goto 8, 3) := by decide +kernel
theorem dX10_safe_130 : decode cX10_safe 130 = .ok (.lload 7, 2) := by decide +kernel
theorem dX10_safe_132 : decode cX10_safe 132 = .ok (.lload 9, 2) := by decide +kernel
theorem dX10_safe_134 : decode cX10_safe 134 = .ok (.ldiv, 1) := by decide +kernel
theorem dX10_safe_135 : decode cX10_safe 135 = .ok (.lreturn, 1) := by decide +kernel
set_option maxRecDepth 20000 in
theorem ggX10_stock_X10_isNights : GoodIn wsX10_stock wsX10_isNights := goodIn_r _ [12] (by decide +kernel) (by decide +kernel)
set_option maxRecDepth 20000 in
theorem gX10_stock_X10_isNights : GoodIn wsX10_stock (va_wsS RX10 169 yX10_isNights wsX10_isNights) := goodIn_app (goodIn_of _ (by decide +kernel)) ggX10_stock_X10_isNights
set_option maxRecDepth 20000 in
theorem ggX10_stock_X10_isLaw : GoodIn wsX10_stock wsX10_isLaw := goodIn_r _ [15] (by decide +kernel) (by decide +kernel)
set_option maxRecDepth 20000 in
theorem gX10_stock_X10_isLaw : GoodIn wsX10_stock (va_wsS RX10 143 yX10_isLaw wsX10_isLaw) := goodIn_app (goodIn_of _ (by decide +kernel)) ggX10_stock_X10_isLaw
set_option maxRecDepth 20000 in
theorem ggX10_stock_X0_foretell : GoodIn wsX10_stock wsX0_foretell := goodIn_r _ [20, 21, 22, 23, 24, 25, 19, 26, 27, 28, 29, 30, 31, 32, 33, 34, 35, 36, 37, 38, 39, 40, 41, 42, 43, 44, 45, 46, 47, 48, 49, 50, 51, 52, 53, 54, 55, 56, 57, 58, 59, 60, 61, 62, 93, 94, 95, 96, 97, 98, 99, 100, 101, 102, 77, 78, 79, 80, 81, 82, 83, 84, 85, 86, 87, 88, 89, 90, 91, 92] (by decide +kernel) (by decide +kernel)
set_option maxRecDepth 20000 in
theorem gX10_stock_X0_foretell : GoodIn wsX10_stock (wsV RX10 180 RX0 yX0_foretell wsX0_foretell) := goodIn_app (goodIn_of _ (by decide +kernel)) ggX10_stock_X0_foretell
set_option maxRecDepth 20000 in
theorem ggX10_stock_X0_safeWays : GoodIn wsX10_stock wsX0_safeWays := goodIn_r _ [66, 21, 29, 22, 60, 61, 38, 62, 93, 94, 95, 96, 97, 98, 99, 100, 101, 102] (by decide +kernel) (by decide +kernel)
set_option maxRecDepth 20000 in
theorem gX10_stock_X0_safeWays : GoodIn wsX10_stock (wsV RX10 184 RX0 yX0_safeWays wsX0_safeWays) := goodIn_app (goodIn_of _ (by decide +kernel)) ggX10_stock_X0_safeWays
theorem dX10_stock_0 : decode cX10_stock 0 = .ok (.aload_n 0, 1) := by decide +kernel
theorem dX10_stock_1 : decode cX10_stock 1 = .ok (.getfield 49, 3) := by decide +kernel
theorem dX10_stock_4 : decode cX10_stock 4 = .ok (.getfield 116, 3) := by decide +kernel
theorem dX10_stock_7 : decode cX10_stock 7 = .ok (.ifCond .ne 7, 3) := by decide +kernel
theorem dX10_stock_10 : decode cX10_stock 10 = .ok (.ldc2_w 134, 3) := by decide +kernel
theorem dX10_stock_13 : decode cX10_stock 13 = .ok (.lreturn, 1) := by decide +kernel
theorem dX10_stock_14 : decode cX10_stock 14 = .ok (.iload_n 1, 1) := by decide +kernel
theorem dX10_stock_15 : decode cX10_stock 15 = .ok (.invokestatic 169, 3) := by decide +kernel
theorem dX10_stock_18 : decode cX10_stock 18 = .ok (.ifCond .eq 21, 3) := by decide +kernel
theorem dX10_stock_21 : decode cX10_stock 21 = .ok (.iload_n 2, 1) := by decide +kernel
theorem dX10_stock_22 : decode cX10_stock 22 = .ok (.invokestatic 143, 3) := by decide +kernel
theorem dX10_stock_25 : decode cX10_stock 25 = .ok (.ifCond .eq 14, 3) := by decide +kernel
theorem dX10_stock_28 : decode cX10_stock 28 = .ok (.iload_n 3, 1) := by decide +kernel
theorem dX10_stock_29 : decode cX10_stock 29 = .ok (.ifCond .lt 10, 3) := by decide +kernel
theorem dX10_stock_32 : decode cX10_stock 32 = .ok (.iload_n 3, 1) := by decide +kernel
theorem dX10_stock_33 : decode cX10_stock 33 = .ok (.sipush 1000, 3) := by decide +kernel
theorem dX10_stock_36 : decode cX10_stock 36 = .ok (.if_icmp .le 7, 3) := by decide +kernel
theorem dX10_stock_39 : decode cX10_stock 39 = .ok (.ldc2_w 66, 3) := by decide +kernel
theorem dX10_stock_42 : decode cX10_stock 42 = .ok (.lreturn, 1) := by decide +kernel
theorem dX10_stock_43 : decode cX10_stock 43 = .ok (.aload_n 0, 1) := by decide +kernel
theorem dX10_stock_44 : decode cX10_stock 44 = .ok (.getfield 49, 3) := by decide +kernel
theorem dX10_stock_47 : decode cX10_stock 47 = .ok (.getfield 175, 3) := by decide +kernel
theorem dX10_stock_50 : decode cX10_stock 50 = .ok (.ifCond .ne 7, 3) := by decide +kernel
theorem dX10_stock_53 : decode cX10_stock 53 = .ok (.ldc2_w 178, 3) := by decide +kernel
theorem dX10_stock_56 : decode cX10_stock 56 = .ok (.lreturn, 1) := by decide +kernel
theorem dX10_stock_57 : decode cX10_stock 57 = .ok (.aload_n 0, 1) := by decide +kernel
theorem dX10_stock_58 : decode cX10_stock 58 = .ok (.getfield 31, 3) := by decide +kernel
theorem dX10_stock_61 : decode cX10_stock 61 = .ok (.aload_n 0, 1) := by decide +kernel
theorem dX10_stock_62 : decode cX10_stock 62 = .ok (.getfield 49, 3) := by decide +kernel
theorem dX10_stock_65 : decode cX10_stock 65 = .ok (.iload_n 2, 1) := by decide +kernel
theorem dX10_stock_66 : decode cX10_stock 66 = .ok (.iload_n 1, 1) := by decide +kernel
theorem dX10_stock_67 : decode cX10_stock 67 = .ok (.invokevirtual 180, 3) := by decide +kernel
theorem dX10_stock_70 : decode cX10_stock 70 = .ok (.iconst 0, 1) := by decide +kernel
theorem dX10_stock_71 : decode cX10_stock 71 = .ok (.istore 4, 2) := by decide +kernel
theorem dX10_stock_73 : decode cX10_stock 73 = .ok (.iload 4, 2) := by decide +kernel
theorem dX10_stock_75 : decode cX10_stock 75 = .ok (.sipush 500, 3) := by decide +kernel
theorem dX10_stock_78 : decode cX10_stock 78 = .ok (.if_icmp .gt 40, 3) := by decide +kernel
theorem dX10_stock_81 : decode cX10_stock 81 = .ok (.aload_n 0, 1) := by decide +kernel
theorem dX10_stock_82 : decode cX10_stock 82 = .ok (.getfield 31, 3) := by decide +kernel
theorem dX10_stock_85 : decode cX10_stock 85 = .ok (.iload 4, 2) := by decide +kernel
theorem dX10_stock_87 : decode cX10_stock 87 = .ok (.invokevirtual 184, 3) := by decide +kernel
theorem dX10_stock_90 : decode cX10_stock 90 = .ok (.ldc2_w 195, 3) := by decide +kernel
theorem dX10_stock_93 : decode cX10_stock 93 = .ok (.lmul, 1) := by decide +kernel
theorem dX10_stock_94 : decode cX10_stock 94 = .ok (.iload_n 3, 1) := by decide +kernel
theorem dX10_stock_95 : decode cX10_stock 95 = .ok (.i2l, 1) := by decide +kernel
theorem dX10_stock_96 : decode cX10_stock 96 = .ok (.aload_n 0, 1) := by decide +kernel
theorem dX10_stock_97 : decode cX10_stock 97 = .ok (.getfield 31, 3) := by decide +kernel
theorem dX10_stock_100 : decode cX10_stock 100 = .ok (.getfield 187, 3) := by decide +kernel
theorem dX10_stock_103 : decode cX10_stock 103 = .ok (.lmul, 1) := by decide +kernel
theorem dX10_stock_104 : decode cX10_stock 104 = .ok (.lcmp, 1) := by decide +kernel
theorem dX10_stock_105 : decode cX10_stock 105 = .ok (.ifCond .lt 7, 3) := by decide +kernel
theorem dX10_stock_108 : decode cX10_stock 108 = .ok (.iload 4, 2) := by decide +kernel
theorem dX10_stock_110 : decode cX10_stock 110 = .ok (.i2l, 1) := by decide +kernel
theorem dX10_stock_111 : decode cX10_stock 111 = .ok (.lreturn, 1) := by decide +kernel
theorem dX10_stock_112 : decode cX10_stock 112 = .ok (.iinc 4 1, 3) := by decide +kernel
theorem dX10_stock_115 : decode cX10_stock 115 = .ok (.goto (-42), 3) := by decide +kernel
theorem dX10_stock_118 : decode cX10_stock 118 = .ok (.ldc2_w 178, 3) := by decide +kernel
theorem dX10_stock_121 : decode cX10_stock 121 = .ok (.lreturn, 1) := by decide +kernel
set_option maxRecDepth 20000 in
theorem ggX10_send_X10_isNights : GoodIn wsX10_send wsX10_isNights := goodIn_r _ [13] (by decide +kernel) (by decide +kernel)
set_option maxRecDepth 20000 in
theorem gX10_send_X10_isNights : GoodIn wsX10_send (va_wsS RX10 169 yX10_isNights wsX10_isNights) := goodIn_app (goodIn_of _ (by decide +kernel)) ggX10_send_X10_isNights
set_option maxRecDepth 20000 in
theorem ggX10_send_X0_foretell : GoodIn wsX10_send wsX0_foretell := goodIn_r _ [18, 19, 20, 21, 22, 23, 17, 24, 25, 26, 27, 28, 29, 30, 31, 32, 33, 34, 35, 36, 37, 38, 39, 40, 41, 42, 43, 44, 45, 46, 47, 48, 49, 50, 51, 52, 53, 54, 55, 56, 57, 58, 59, 60, 102, 103, 104, 105, 106, 107, 108, 109, 110, 111, 86, 87, 88, 89, 90, 91, 92, 93, 94, 95, 96, 97, 98, 99, 100, 101] (by decide +kernel) (by decide +kernel)
set_option maxRecDepth 20000 in
theorem gX10_send_X0_foretell : GoodIn wsX10_send (wsV RX10 180 RX0 yX0_foretell wsX0_foretell) := goodIn_app (goodIn_of _ (by decide +kernel)) ggX10_send_X0_foretell
set_option maxRecDepth 20000 in
theorem ggX10_send_X0_bestNight : GoodIn wsX10_send wsX0_bestNight := goodIn_r _ [64, 65, 20, 58, 59, 36, 60, 66, 27, 19, 46, 47, 48, 49, 67, 68, 69, 17, 70, 71, 72, 73, 74, 75, 26, 29, 32, 54, 55, 56, 57, 31, 102, 103, 104, 105, 106, 107, 108, 109, 110, 111] (by decide +kernel) (by decide +kernel)
set_option maxRecDepth 20000 in
theorem gX10_send_X0_bestNight : GoodIn wsX10_send (wsV RX10 200 RX0 yX0_bestNight wsX0_bestNight) := goodIn_app (goodIn_of _ (by decide +kernel)) ggX10_send_X0_bestNight
theorem dX10_send_0 : decode cX10_send 0 = .ok (.aload_n 0, 1) := by decide +kernel
theorem dX10_send_1 : decode cX10_send 1 = .ok (.getfield 49, 3) := by decide +kernel
theorem dX10_send_4 : decode cX10_send 4 = .ok (.getfield 116, 3) := by decide +kernel
theorem dX10_send_7 : decode cX10_send 7 = .ok (.ifCond .ne 7, 3) := by decide +kernel
theorem dX10_send_10 : decode cX10_send 10 = .ok (.ldc2_w 134, 3) := by decide +kernel
theorem dX10_send_13 : decode cX10_send 13 = .ok (.lreturn, 1) := by decide +kernel
theorem dX10_send_14 : decode cX10_send 14 = .ok (.iload_n 1, 1) := by decide +kernel
theorem dX10_send_15 : decode cX10_send 15 = .ok (.invokestatic 169, 3) := by decide +kernel
theorem dX10_send_18 : decode cX10_send 18 = .ok (.ifCond .eq 14, 3) := by decide +kernel
theorem dX10_send_21 : decode cX10_send 21 = .ok (.iload_n 2, 1) := by decide +kernel
theorem dX10_send_22 : decode cX10_send 22 = .ok (.iconst 1, 1) := by decide +kernel
theorem dX10_send_23 : decode cX10_send 23 = .ok (.if_icmp .lt 9, 3) := by decide +kernel
theorem dX10_send_26 : decode cX10_send 26 = .ok (.iload_n 2, 1) := by decide +kernel
theorem dX10_send_27 : decode cX10_send 27 = .ok (.bipush 99, 2) := by decide +kernel
theorem dX10_send_29 : decode cX10_send 29 = .ok (.if_icmp .le 7, 3) := by decide +kernel
theorem dX10_send_32 : decode cX10_send 32 = .ok (.ldc2_w 66, 3) := by decide +kernel
theorem dX10_send_35 : decode cX10_send 35 = .ok (.lreturn, 1) := by decide +kernel
theorem dX10_send_36 : decode cX10_send 36 = .ok (.aload_n 0, 1) := by decide +kernel
theorem dX10_send_37 : decode cX10_send 37 = .ok (.getfield 49, 3) := by decide +kernel
theorem dX10_send_40 : decode cX10_send 40 = .ok (.getfield 175, 3) := by decide +kernel
theorem dX10_send_43 : decode cX10_send 43 = .ok (.ifCond .ne 7, 3) := by decide +kernel
theorem dX10_send_46 : decode cX10_send 46 = .ok (.ldc2_w 178, 3) := by decide +kernel
theorem dX10_send_49 : decode cX10_send 49 = .ok (.lreturn, 1) := by decide +kernel
theorem dX10_send_50 : decode cX10_send 50 = .ok (.aload_n 0, 1) := by decide +kernel
theorem dX10_send_51 : decode cX10_send 51 = .ok (.getfield 31, 3) := by decide +kernel
theorem dX10_send_54 : decode cX10_send 54 = .ok (.aload_n 0, 1) := by decide +kernel
theorem dX10_send_55 : decode cX10_send 55 = .ok (.getfield 49, 3) := by decide +kernel
theorem dX10_send_58 : decode cX10_send 58 = .ok (.aload_n 0, 1) := by decide +kernel
theorem dX10_send_59 : decode cX10_send 59 = .ok (.getfield 49, 3) := by decide +kernel
theorem dX10_send_62 : decode cX10_send 62 = .ok (.getfield 197, 3) := by decide +kernel
theorem dX10_send_65 : decode cX10_send 65 = .ok (.iload_n 1, 1) := by decide +kernel
theorem dX10_send_66 : decode cX10_send 66 = .ok (.invokevirtual 180, 3) := by decide +kernel
theorem dX10_send_69 : decode cX10_send 69 = .ok (.aload_n 0, 1) := by decide +kernel
theorem dX10_send_70 : decode cX10_send 70 = .ok (.getfield 31, 3) := by decide +kernel
theorem dX10_send_73 : decode cX10_send 73 = .ok (.aload_n 0, 1) := by decide +kernel
theorem dX10_send_74 : decode cX10_send 74 = .ok (.getfield 49, 3) := by decide +kernel
theorem dX10_send_77 : decode cX10_send 77 = .ok (.getfield 140, 3) := by decide +kernel
theorem dX10_send_80 : decode cX10_send 80 = .ok (.iload_n 2, 1) := by decide +kernel
theorem dX10_send_81 : decode cX10_send 81 = .ok (.invokevirtual 200, 3) := by decide +kernel
theorem dX10_send_84 : decode cX10_send 84 = .ok (.i2l, 1) := by decide +kernel
theorem dX10_send_85 : decode cX10_send 85 = .ok (.lreturn, 1) := by decide +kernel
set_option maxRecDepth 20000 in
theorem ggX10_broke_X10_isRow : GoodIn wsX10_broke wsX10_isRow := goodIn_r _ [10] (by decide +kernel) (by decide +kernel)
set_option maxRecDepth 20000 in
theorem gX10_broke_X10_isRow : GoodIn wsX10_broke (va_wsS RX10 62 yX10_isRow wsX10_isRow) := goodIn_app (goodIn_of _ (by decide +kernel)) ggX10_broke_X10_isRow
set_option maxRecDepth 20000 in
theorem ggX10_broke_X10_isZeroOrOne : GoodIn wsX10_broke wsX10_isZeroOrOne := goodIn_r _ [13] (by decide +kernel) (by decide +kernel)
set_option maxRecDepth 20000 in
theorem gX10_broke_X10_isZeroOrOne : GoodIn wsX10_broke (va_wsS RX10 172 yX10_isZeroOrOne wsX10_isZeroOrOne) := goodIn_app (goodIn_of _ (by decide +kernel)) ggX10_broke_X10_isZeroOrOne
set_option maxRecDepth 20000 in
theorem ggX10_broke_X10_findingOfSpan : GoodIn wsX10_broke wsX10_findingOfSpan := goodIn_r _ [17, 18, 19, 20, 9, 21, 53, 54, 55, 56, 57, 58, 59, 60, 61, 62] (by decide +kernel) (by decide +kernel)
set_option maxRecDepth 20000 in
theorem gX10_broke_X10_findingOfSpan : GoodIn wsX10_broke (wsV RX10 76 RX10 yX10_findingOfSpan wsX10_findingOfSpan) := goodIn_app (goodIn_of _ (by decide +kernel)) ggX10_broke_X10_findingOfSpan
set_option maxRecDepth 20000 in
theorem ggX10_broke_X10_found : GoodIn wsX10_broke wsX10_found := goodIn_r _ [25, 26, 27, 53, 54, 55, 56, 57, 58, 59, 60, 61, 62] (by decide +kernel) (by decide +kernel)
set_option maxRecDepth 20000 in
theorem gX10_broke_X10_found : GoodIn wsX10_broke (wsV RX10 68 RX10 yX10_found wsX10_found) := goodIn_app (goodIn_of _ (by decide +kernel)) ggX10_broke_X10_found
set_option maxRecDepth 20000 in
theorem ggX10_broke_X10_areNightsTold : GoodIn wsX10_broke wsX10_areNightsTold := goodIn_r _ [30, 31, 32, 9, 33] (by decide +kernel) (by decide +kernel)
set_option maxRecDepth 20000 in
theorem gX10_broke_X10_areNightsTold : GoodIn wsX10_broke (va_wsS RX10 203 yX10_areNightsTold wsX10_areNightsTold) := goodIn_app (goodIn_of _ (by decide +kernel)) ggX10_broke_X10_areNightsTold
set_option maxRecDepth 20000 in
theorem ggX10_broke_X5_owed : GoodIn wsX10_broke wsX5_owed := goodIn_r _ [38, 39, 40, 63, 64, 65, 66, 67, 68, 69, 70, 71, 72, 73, 74, 75, 76, 77, 78] (by decide +kernel) (by decide +kernel)
set_option maxRecDepth 20000 in
theorem gX10_broke_X5_owed : GoodIn wsX10_broke (wsV RX10 146 RX5 yX5_owed wsX5_owed) := goodIn_app (goodIn_of _ (by decide +kernel)) ggX10_broke_X5_owed
set_option maxRecDepth 20000 in
theorem ggX10_broke_X5_leftBy : GoodIn wsX10_broke wsX5_leftBy := goodIn_r _ [44, 40, 45, 46, 47, 48, 63, 64, 65, 66, 67, 68, 69, 70, 71, 72, 73, 74, 75, 76, 77, 78] (by decide +kernel) (by decide +kernel)
set_option maxRecDepth 20000 in
theorem gX10_broke_X5_leftBy : GoodIn wsX10_broke (wsV RX10 207 RX5 yX5_leftBy wsX5_leftBy) := goodIn_app (goodIn_of _ (by decide +kernel)) ggX10_broke_X5_leftBy
set_option maxRecDepth 20000 in
theorem ggX10_broke_X10_fine : GoodIn wsX10_broke wsX10_fine := goodIn_r _ [52, 26, 53, 54, 55, 56, 57, 58, 59, 60, 61, 62] (by decide +kernel) (by decide +kernel)
set_option maxRecDepth 20000 in
theorem gX10_broke_X10_fine : GoodIn wsX10_broke (wsV RX10 72 RX10 yX10_fine wsX10_fine) := goodIn_app (goodIn_of _ (by decide +kernel)) ggX10_broke_X10_fine
theorem dX10_broke_0 : decode cX10_broke 0 = .ok (.aload_n 0, 1) := by decide +kernel
theorem dX10_broke_1 : decode cX10_broke 1 = .ok (.getfield 49, 3) := by decide +kernel
theorem dX10_broke_4 : decode cX10_broke 4 = .ok (.getfield 116, 3) := by decide +kernel
theorem dX10_broke_7 : decode cX10_broke 7 = .ok (.ifCond .ne 7, 3) := by decide +kernel
theorem dX10_broke_10 : decode cX10_broke 10 = .ok (.ldc2_w 134, 3) := by decide +kernel
theorem dX10_broke_13 : decode cX10_broke 13 = .ok (.lreturn, 1) := by decide +kernel
theorem dX10_broke_14 : decode cX10_broke 14 = .ok (.iload_n 1, 1) := by decide +kernel
theorem dX10_broke_15 : decode cX10_broke 15 = .ok (.invokestatic 62, 3) := by decide +kernel
theorem dX10_broke_18 : decode cX10_broke 18 = .ok (.ifCond .eq 21, 3) := by decide +kernel
theorem dX10_broke_21 : decode cX10_broke 21 = .ok (.iload_n 2, 1) := by decide +kernel
theorem dX10_broke_22 : decode cX10_broke 22 = .ok (.iconst 1, 1) := by decide +kernel
theorem dX10_broke_23 : decode cX10_broke 23 = .ok (.if_icmp .lt 16, 3) := by decide +kernel
theorem dX10_broke_26 : decode cX10_broke 26 = .ok (.iload_n 2, 1) := by decide +kernel
theorem dX10_broke_27 : decode cX10_broke 27 = .ok (.bipush 13, 2) := by decide +kernel
theorem dX10_broke_29 : decode cX10_broke 29 = .ok (.if_icmp .gt 10, 3) := by decide +kernel
theorem dX10_broke_32 : decode cX10_broke 32 = .ok (.iload_n 3, 1) := by decide +kernel
theorem dX10_broke_33 : decode cX10_broke 33 = .ok (.invokestatic 172, 3) := by decide +kernel
theorem dX10_broke_36 : decode cX10_broke 36 = .ok (.ifCond .ne 7, 3) := by decide +kernel
theorem dX10_broke_39 : decode cX10_broke 39 = .ok (.ldc2_w 66, 3) := by decide +kernel
theorem dX10_broke_42 : decode cX10_broke 42 = .ok (.lreturn, 1) := by decide +kernel
theorem dX10_broke_43 : decode cX10_broke 43 = .ok (.aload_n 0, 1) := by decide +kernel
theorem dX10_broke_44 : decode cX10_broke 44 = .ok (.iload_n 1, 1) := by decide +kernel
theorem dX10_broke_45 : decode cX10_broke 45 = .ok (.iconst 0, 1) := by decide +kernel
theorem dX10_broke_46 : decode cX10_broke 46 = .ok (.iconst 3, 1) := by decide +kernel
theorem dX10_broke_47 : decode cX10_broke 47 = .ok (.iload_n 2, 1) := by decide +kernel
theorem dX10_broke_48 : decode cX10_broke 48 = .ok (.imul, 1) := by decide +kernel
theorem dX10_broke_49 : decode cX10_broke 49 = .ok (.invokevirtual 76, 3) := by decide +kernel
theorem dX10_broke_52 : decode cX10_broke 52 = .ok (.istore 4, 2) := by decide +kernel
theorem dX10_broke_54 : decode cX10_broke 54 = .ok (.iload 4, 2) := by decide +kernel
theorem dX10_broke_56 : decode cX10_broke 56 = .ok (.ifCond .eq 10, 3) := by decide +kernel
theorem dX10_broke_59 : decode cX10_broke 59 = .ok (.aload_n 0, 1) := by decide +kernel
theorem dX10_broke_60 : decode cX10_broke 60 = .ok (.iload 4, 2) := by decide +kernel
theorem dX10_broke_62 : decode cX10_broke 62 = .ok (.invokevirtual 68, 3) := by decide +kernel
theorem dX10_broke_65 : decode cX10_broke 65 = .ok (.lreturn, 1) := by decide +kernel
theorem dX10_broke_66 : decode cX10_broke 66 = .ok (.aload_n 0, 1) := by decide +kernel
theorem dX10_broke_67 : decode cX10_broke 67 = .ok (.getfield 11, 3) := by decide +kernel
theorem dX10_broke_70 : decode cX10_broke 70 = .ok (.iload_n 1, 1) := by decide +kernel
theorem dX10_broke_71 : decode cX10_broke 71 = .ok (.aaload, 1) := by decide +kernel
theorem dX10_broke_72 : decode cX10_broke 72 = .ok (.iload_n 2, 1) := by decide +kernel
theorem dX10_broke_73 : decode cX10_broke 73 = .ok (.invokestatic 203, 3) := by decide +kernel
theorem dX10_broke_76 : decode cX10_broke 76 = .ok (.ifCond .ne 7, 3) := by decide +kernel
theorem dX10_broke_79 : decode cX10_broke 79 = .ok (.ldc2_w 66, 3) := by decide +kernel
theorem dX10_broke_82 : decode cX10_broke 82 = .ok (.lreturn, 1) := by decide +kernel
theorem dX10_broke_83 : decode cX10_broke 83 = .ok (.lconst 0, 1) := by decide +kernel
theorem dX10_broke_84 : decode cX10_broke 84 = .ok (.lstore 5, 2) := by decide +kernel
theorem dX10_broke_86 : decode cX10_broke 86 = .ok (.lconst 0, 1) := by decide +kernel
theorem dX10_broke_87 : decode cX10_broke 87 = .ok (.lstore 7, 2) := by decide +kernel
theorem dX10_broke_89 : decode cX10_broke 89 = .ok (.iconst 0, 1) := by decide +kernel
theorem dX10_broke_90 : decode cX10_broke 90 = .ok (.istore 9, 2) := by decide +kernel
theorem dX10_broke_92 : decode cX10_broke 92 = .ok (.iload 9, 2) := by decide +kernel
theorem dX10_broke_94 : decode cX10_broke 94 = .ok (.iload_n 2, 1) := by decide +kernel
theorem dX10_broke_95 : decode cX10_broke 95 = .ok (.if_icmp .ge 98, 3) := by decide +kernel
theorem dX10_broke_98 : decode cX10_broke 98 = .ok (.aload_n 0, 1) := by decide +kernel
theorem dX10_broke_99 : decode cX10_broke 99 = .ok (.getfield 11, 3) := by decide +kernel
theorem dX10_broke_102 : decode cX10_broke 102 = .ok (.iload_n 1, 1) := by decide +kernel
theorem dX10_broke_103 : decode cX10_broke 103 = .ok (.aaload, 1) := by decide +kernel
theorem dX10_broke_104 : decode cX10_broke 104 = .ok (.iconst 3, 1) := by decide +kernel
theorem dX10_broke_105 : decode cX10_broke 105 = .ok (.iload 9, 2) := by decide +kernel
theorem dX10_broke_107 : decode cX10_broke 107 = .ok (.imul, 1) := by decide +kernel
theorem dX10_broke_108 : decode cX10_broke 108 = .ok (.iaload, 1) := by decide +kernel
theorem dX10_broke_109 : decode cX10_broke 109 = .ok (.istore 10, 2) := by decide +kernel
theorem dX10_broke_111 : decode cX10_broke 111 = .ok (.aload_n 0, 1) := by decide +kernel
theorem dX10_broke_112 : decode cX10_broke 112 = .ok (.getfield 49, 3) := by decide +kernel
theorem dX10_broke_115 : decode cX10_broke 115 = .ok (.aload_n 0, 1) := by decide +kernel
theorem dX10_broke_116 : decode cX10_broke 116 = .ok (.getfield 49, 3) := by decide +kernel
theorem dX10_broke_119 : decode cX10_broke 119 = .ok (.getfield 197, 3) := by decide +kernel
theorem dX10_broke_122 : decode cX10_broke 122 = .ok (.iload 10, 2) := by decide +kernel
theorem dX10_broke_124 : decode cX10_broke 124 = .ok (.invokevirtual 146, 3) := by decide +kernel
theorem dX10_broke_127 : decode cX10_broke 127 = .ok (.aload_n 0, 1) := by decide +kernel
theorem dX10_broke_128 : decode cX10_broke 128 = .ok (.getfield 49, 3) := by decide +kernel
theorem dX10_broke_131 : decode cX10_broke 131 = .ok (.iload 10, 2) := by decide +kernel
theorem dX10_broke_133 : decode cX10_broke 133 = .ok (.aload_n 0, 1) := by decide +kernel
theorem dX10_broke_134 : decode cX10_broke 134 = .ok (.getfield 11, 3) := by decide +kernel
theorem dX10_broke_137 : decode cX10_broke 137 = .ok (.iload_n 1, 1) := by decide +kernel
theorem dX10_broke_138 : decode cX10_broke 138 = .ok (.aaload, 1) := by decide +kernel
theorem dX10_broke_139 : decode cX10_broke 139 = .ok (.iconst 3, 1) := by decide +kernel
theorem dX10_broke_140 : decode cX10_broke 140 = .ok (.iload 9, 2) := by decide +kernel
theorem dX10_broke_142 : decode cX10_broke 142 = .ok (.imul, 1) := by decide +kernel
theorem dX10_broke_143 : decode cX10_broke 143 = .ok (.iconst 1, 1) := by decide +kernel
theorem dX10_broke_144 : decode cX10_broke 144 = .ok (.iadd, 1) := by decide +kernel
theorem dX10_broke_145 : decode cX10_broke 145 = .ok (.iaload, 1) := by decide +kernel
theorem dX10_broke_146 : decode cX10_broke 146 = .ok (.aload_n 0, 1) := by decide +kernel
theorem dX10_broke_147 : decode cX10_broke 147 = .ok (.getfield 11, 3) := by decide +kernel
theorem dX10_broke_150 : decode cX10_broke 150 = .ok (.iload_n 1, 1) := by decide +kernel
theorem dX10_broke_151 : decode cX10_broke 151 = .ok (.aaload, 1) := by decide +kernel
theorem dX10_broke_152 : decode cX10_broke 152 = .ok (.iconst 3, 1) := by decide +kernel
theorem dX10_broke_153 : decode cX10_broke 153 = .ok (.iload 9, 2) := by decide +kernel
theorem dX10_broke_155 : decode cX10_broke 155 = .ok (.imul, 1) := by decide +kernel
theorem dX10_broke_156 : decode cX10_broke 156 = .ok (.iconst 2, 1) := by decide +kernel
theorem dX10_broke_157 : decode cX10_broke 157 = .ok (.iadd, 1) := by decide +kernel
theorem dX10_broke_158 : decode cX10_broke 158 = .ok (.iaload, 1) := by decide +kernel
theorem dX10_broke_159 : decode cX10_broke 159 = .ok (.invokevirtual 207, 3) := by decide +kernel
theorem dX10_broke_162 : decode cX10_broke 162 = .ok (.isub, 1) := by decide +kernel
theorem dX10_broke_163 : decode cX10_broke 163 = .ok (.istore 11, 2) := by decide +kernel
theorem dX10_broke_165 : decode cX10_broke 165 = .ok (.iload 11, 2) := by decide +kernel
theorem dX10_broke_167 : decode cX10_broke 167 = .ok (.ifCond .le 20, 3) := by decide +kernel
theorem dX10_broke_170 : decode cX10_broke 170 = .ok (.lload 5, 2) := by decide +kernel
theorem dX10_broke_172 : decode cX10_broke 172 = .ok (.lconst 1, 1) := by decide +kernel
theorem dX10_broke_173 : decode cX10_broke 173 = .ok (.iload 9, 2) := by decide +kernel
theorem dX10_broke_175 : decode cX10_broke 175 = .ok (.lshl, 1) := by decide +kernel
theorem dX10_broke_176 : decode cX10_broke 176 = .ok (.lor, 1) := by decide +kernel
theorem dX10_broke_177 : decode cX10_broke 177 = .ok (.lstore 5, 2) := by decide +kernel
theorem dX10_broke_179 : decode cX10_broke 179 = .ok (.lload 7, 2) := by decide +kernel
theorem dX10_broke_181 : decode cX10_broke 181 = .ok (.iload 11, 2) := by decide +kernel
theorem dX10_broke_183 : decode cX10_broke 183 = .ok (.i2l, 1) := by decide +kernel
theorem dX10_broke_184 : decode cX10_broke 184 = .ok (.ladd, 1) := by decide +kernel
theorem dX10_broke_185 : decode cX10_broke 185 = .ok (.lstore 7, 2) := by decide +kernel
theorem dX10_broke_187 : decode cX10_broke 187 = .ok (.iinc 9 1, 3) := by decide +kernel
theorem dX10_broke_190 : decode cX10_broke 190 = .ok (.goto (-98), 3) := by decide +kernel
theorem dX10_broke_193 : decode cX10_broke 193 = .ok (.aload_n 0, 1) := by decide +kernel
theorem dX10_broke_194 : decode cX10_broke 194 = .ok (.iload_n 3, 1) := by decide +kernel
theorem dX10_broke_195 : decode cX10_broke 195 = .ok (.ifCond .ne 8, 3) := by decide +kernel
theorem dX10_broke_198 : decode cX10_broke 198 = .ok (.lload 5, 2) := by decide +kernel
theorem dX10_broke_200 : decode cX10_broke 200 = .ok (.goto 5, 3) := by decide +kernel
theorem dX10_broke_203 : decode cX10_broke 203 = .ok (.lload 7, 2) := by decide +kernel
theorem dX10_broke_205 : decode cX10_broke 205 = .ok (.invokevirtual 72, 3) := by decide +kernel
theorem dX10_broke_208 : decode cX10_broke 208 = .ok (.lreturn, 1) := by decide +kernel
set_option maxRecDepth 20000 in
theorem ggX10_lies_X10_isRow : GoodIn wsX10_lies wsX10_isRow := goodIn_r _ [7] (by decide +kernel) (by decide +kernel)
set_option maxRecDepth 20000 in
theorem gX10_lies_X10_isRow : GoodIn wsX10_lies (va_wsS RX10 62 yX10_isRow wsX10_isRow) := goodIn_app (goodIn_of _ (by decide +kernel)) ggX10_lies_X10_isRow
set_option maxRecDepth 20000 in
theorem ggX10_lies_X10_isZeroOrOne : GoodIn wsX10_lies wsX10_isZeroOrOne := goodIn_r _ [10] (by decide +kernel) (by decide +kernel)
set_option maxRecDepth 20000 in
theorem gX10_lies_X10_isZeroOrOne : GoodIn wsX10_lies (va_wsS RX10 172 yX10_isZeroOrOne wsX10_isZeroOrOne) := goodIn_app (goodIn_of _ (by decide +kernel)) ggX10_lies_X10_isZeroOrOne
set_option maxRecDepth 20000 in
theorem ggX10_lies_X10_findingOfSpan : GoodIn wsX10_lies wsX10_findingOfSpan := goodIn_r _ [14, 15, 16, 17, 6, 18, 32, 33, 34, 35, 36, 37, 38, 39, 40, 41] (by decide +kernel) (by decide +kernel)
set_option maxRecDepth 20000 in
theorem gX10_lies_X10_findingOfSpan : GoodIn wsX10_lies (wsV RX10 76 RX10 yX10_findingOfSpan wsX10_findingOfSpan) := goodIn_app (goodIn_of _ (by decide +kernel)) ggX10_lies_X10_findingOfSpan
set_option maxRecDepth 20000 in
theorem ggX10_lies_X10_found : GoodIn wsX10_lies wsX10_found := goodIn_r _ [22, 23, 24, 32, 33, 34, 35, 36, 37, 38, 39, 40, 41] (by decide +kernel) (by decide +kernel)
set_option maxRecDepth 20000 in
theorem gX10_lies_X10_found : GoodIn wsX10_lies (wsV RX10 68 RX10 yX10_found wsX10_found) := goodIn_app (goodIn_of _ (by decide +kernel)) ggX10_lies_X10_found
set_option maxRecDepth 20000 in
theorem ggX10_lies_X10_isWood : GoodIn wsX10_lies wsX10_isWood := goodIn_r _ [27] (by decide +kernel) (by decide +kernel)
set_option maxRecDepth 20000 in
theorem gX10_lies_X10_isWood : GoodIn wsX10_lies (va_wsS RX10 210 yX10_isWood wsX10_isWood) := goodIn_app (goodIn_of _ (by decide +kernel)) ggX10_lies_X10_isWood
set_option maxRecDepth 20000 in
theorem ggX10_lies_X10_fine : GoodIn wsX10_lies wsX10_fine := goodIn_r _ [31, 23, 32, 33, 34, 35, 36, 37, 38, 39, 40, 41] (by decide +kernel) (by decide +kernel)
set_option maxRecDepth 20000 in
theorem gX10_lies_X10_fine : GoodIn wsX10_lies (wsV RX10 72 RX10 yX10_fine wsX10_fine) := goodIn_app (goodIn_of _ (by decide +kernel)) ggX10_lies_X10_fine
theorem dX10_lies_0 : decode cX10_lies 0 = .ok (.iload_n 1, 1) := by decide +kernel
theorem dX10_lies_1 : decode cX10_lies 1 = .ok (.invokestatic 62, 3) := by decide +kernel
theorem dX10_lies_4 : decode cX10_lies 4 = .ok (.ifCond .eq 21, 3) := by decide +kernel
theorem dX10_lies_7 : decode cX10_lies 7 = .ok (.iload_n 2, 1) := by decide +kernel
theorem dX10_lies_8 : decode cX10_lies 8 = .ok (.iconst 1, 1) := by decide +kernel
theorem dX10_lies_9 : decode cX10_lies 9 = .ok (.if_icmp .lt 16, 3) := by decide +kernel
theorem dX10_lies_12 : decode cX10_lies 12 = .ok (.iload_n 2, 1) := by decide +kernel
theorem dX10_lies_13 : decode cX10_lies 13 = .ok (.bipush 20, 2) := by decide +kernel
theorem dX10_lies_15 : decode cX10_lies 15 = .ok (.if_icmp .gt 10, 3) := by decide +kernel
theorem dX10_lies_18 : decode cX10_lies 18 = .ok (.iload_n 3, 1) := by decide +kernel
theorem dX10_lies_19 : decode cX10_lies 19 = .ok (.invokestatic 172, 3) := by decide +kernel
theorem dX10_lies_22 : decode cX10_lies 22 = .ok (.ifCond .ne 7, 3) := by decide +kernel
theorem dX10_lies_25 : decode cX10_lies 25 = .ok (.ldc2_w 66, 3) := by decide +kernel
theorem dX10_lies_28 : decode cX10_lies 28 = .ok (.lreturn, 1) := by decide +kernel
theorem dX10_lies_29 : decode cX10_lies 29 = .ok (.aload_n 0, 1) := by decide +kernel
theorem dX10_lies_30 : decode cX10_lies 30 = .ok (.iload_n 1, 1) := by decide +kernel
theorem dX10_lies_31 : decode cX10_lies 31 = .ok (.iconst 0, 1) := by decide +kernel
theorem dX10_lies_32 : decode cX10_lies 32 = .ok (.iconst 2, 1) := by decide +kernel
theorem dX10_lies_33 : decode cX10_lies 33 = .ok (.iload_n 2, 1) := by decide +kernel
theorem dX10_lies_34 : decode cX10_lies 34 = .ok (.imul, 1) := by decide +kernel
theorem dX10_lies_35 : decode cX10_lies 35 = .ok (.invokevirtual 76, 3) := by decide +kernel
theorem dX10_lies_38 : decode cX10_lies 38 = .ok (.istore 4, 2) := by decide +kernel
theorem dX10_lies_40 : decode cX10_lies 40 = .ok (.iload 4, 2) := by decide +kernel
theorem dX10_lies_42 : decode cX10_lies 42 = .ok (.ifCond .eq 10, 3) := by decide +kernel
theorem dX10_lies_45 : decode cX10_lies 45 = .ok (.aload_n 0, 1) := by decide +kernel
theorem dX10_lies_46 : decode cX10_lies 46 = .ok (.iload 4, 2) := by decide +kernel
theorem dX10_lies_48 : decode cX10_lies 48 = .ok (.invokevirtual 68, 3) := by decide +kernel
theorem dX10_lies_51 : decode cX10_lies 51 = .ok (.lreturn, 1) := by decide +kernel
theorem dX10_lies_52 : decode cX10_lies 52 = .ok (.iconst 0, 1) := by decide +kernel
theorem dX10_lies_53 : decode cX10_lies 53 = .ok (.istore 5, 2) := by decide +kernel
theorem dX10_lies_55 : decode cX10_lies 55 = .ok (.iload 5, 2) := by decide +kernel
theorem dX10_lies_57 : decode cX10_lies 57 = .ok (.iconst 2, 1) := by decide +kernel
theorem dX10_lies_58 : decode cX10_lies 58 = .ok (.iload_n 2, 1) := by decide +kernel
theorem dX10_lies_59 : decode cX10_lies 59 = .ok (.imul, 1) := by decide +kernel
theorem dX10_lies_60 : decode cX10_lies 60 = .ok (.if_icmp .ge 28, 3) := by decide +kernel
theorem dX10_lies_63 : decode cX10_lies 63 = .ok (.aload_n 0, 1) := by decide +kernel
theorem dX10_lies_64 : decode cX10_lies 64 = .ok (.getfield 11, 3) := by decide +kernel
theorem dX10_lies_67 : decode cX10_lies 67 = .ok (.iload_n 1, 1) := by decide +kernel
theorem dX10_lies_68 : decode cX10_lies 68 = .ok (.aaload, 1) := by decide +kernel
theorem dX10_lies_69 : decode cX10_lies 69 = .ok (.iload 5, 2) := by decide +kernel
theorem dX10_lies_71 : decode cX10_lies 71 = .ok (.iaload, 1) := by decide +kernel
theorem dX10_lies_72 : decode cX10_lies 72 = .ok (.invokestatic 210, 3) := by decide +kernel
theorem dX10_lies_75 : decode cX10_lies 75 = .ok (.ifCond .ne 7, 3) := by decide +kernel
theorem dX10_lies_78 : decode cX10_lies 78 = .ok (.ldc2_w 66, 3) := by decide +kernel
theorem dX10_lies_81 : decode cX10_lies 81 = .ok (.lreturn, 1) := by decide +kernel
theorem dX10_lies_82 : decode cX10_lies 82 = .ok (.iinc 5 1, 3) := by decide +kernel
theorem dX10_lies_85 : decode cX10_lies 85 = .ok (.goto (-30), 3) := by decide +kernel
theorem dX10_lies_88 : decode cX10_lies 88 = .ok (.lconst 0, 1) := by decide +kernel
theorem dX10_lies_89 : decode cX10_lies 89 = .ok (.lstore 5, 2) := by decide +kernel
theorem dX10_lies_91 : decode cX10_lies 91 = .ok (.iconst 0, 1) := by decide +kernel
theorem dX10_lies_92 : decode cX10_lies 92 = .ok (.istore 7, 2) := by decide +kernel
theorem dX10_lies_94 : decode cX10_lies 94 = .ok (.ldc 213, 2) := by decide +kernel
theorem dX10_lies_96 : decode cX10_lies 96 = .ok (.istore 8, 2) := by decide +kernel
theorem dX10_lies_98 : decode cX10_lies 98 = .ok (.iconst 0, 1) := by decide +kernel
theorem dX10_lies_99 : decode cX10_lies 99 = .ok (.istore 9, 2) := by decide +kernel
theorem dX10_lies_101 : decode cX10_lies 101 = .ok (.iload 9, 2) := by decide +kernel
theorem dX10_lies_103 : decode cX10_lies 103 = .ok (.iload_n 2, 1) := by decide +kernel
theorem dX10_lies_104 : decode cX10_lies 104 = .ok (.if_icmp .ge 65, 3) := by decide +kernel
theorem dX10_lies_107 : decode cX10_lies 107 = .ok (.aload_n 0, 1) := by decide +kernel
theorem dX10_lies_108 : decode cX10_lies 108 = .ok (.getfield 11, 3) := by decide +kernel
theorem dX10_lies_111 : decode cX10_lies 111 = .ok (.iload_n 1, 1) := by decide +kernel
theorem dX10_lies_112 : decode cX10_lies 112 = .ok (.aaload, 1) := by decide +kernel
theorem dX10_lies_113 : decode cX10_lies 113 = .ok (.iconst 2, 1) := by decide +kernel
theorem dX10_lies_114 : decode cX10_lies 114 = .ok (.iload 9, 2) := by decide +kernel
theorem dX10_lies_116 : decode cX10_lies 116 = .ok (.imul, 1) := by decide +kernel
theorem dX10_lies_117 : decode cX10_lies 117 = .ok (.iaload, 1) := by decide +kernel
theorem dX10_lies_118 : decode cX10_lies 118 = .ok (.aload_n 0, 1) := by decide +kernel
theorem dX10_lies_119 : decode cX10_lies 119 = .ok (.getfield 11, 3) := by decide +kernel
theorem dX10_lies_122 : decode cX10_lies 122 = .ok (.iload_n 1, 1) := by decide +kernel
theorem dX10_lies_123 : decode cX10_lies 123 = .ok (.aaload, 1) := by decide +kernel
theorem dX10_lies_124 : decode cX10_lies 124 = .ok (.iconst 2, 1) := by decide +kernel
theorem dX10_lies_125 : decode cX10_lies 125 = .ok (.iload 9, 2) := by decide +kernel
theorem dX10_lies_127 : decode cX10_lies 127 = .ok (.imul, 1) := by decide +kernel
theorem dX10_lies_128 : decode cX10_lies 128 = .ok (.iconst 1, 1) := by decide +kernel
theorem dX10_lies_129 : decode cX10_lies 129 = .ok (.iadd, 1) := by decide +kernel
theorem dX10_lies_130 : decode cX10_lies 130 = .ok (.iaload, 1) := by decide +kernel
theorem dX10_lies_131 : decode cX10_lies 131 = .ok (.isub, 1) := by decide +kernel
theorem dX10_lies_132 : decode cX10_lies 132 = .ok (.istore 10, 2) := by decide +kernel
theorem dX10_lies_134 : decode cX10_lies 134 = .ok (.iload 10, 2) := by decide +kernel
theorem dX10_lies_136 : decode cX10_lies 136 = .ok (.ifCond .le 12, 3) := by decide +kernel
theorem dX10_lies_139 : decode cX10_lies 139 = .ok (.lload 5, 2) := by decide +kernel
theorem dX10_lies_141 : decode cX10_lies 141 = .ok (.lconst 1, 1) := by decide +kernel
theorem dX10_lies_142 : decode cX10_lies 142 = .ok (.iload 9, 2) := by decide +kernel
theorem dX10_lies_144 : decode cX10_lies 144 = .ok (.lshl, 1) := by decide +kernel
theorem dX10_lies_145 : decode cX10_lies 145 = .ok (.lor, 1) := by decide +kernel
theorem dX10_lies_146 : decode cX10_lies 146 = .ok (.lstore 5, 2) := by decide +kernel
theorem dX10_lies_148 : decode cX10_lies 148 = .ok (.iload 10, 2) := by decide +kernel
theorem dX10_lies_150 : decode cX10_lies 150 = .ok (.iload 7, 2) := by decide +kernel
theorem dX10_lies_152 : decode cX10_lies 152 = .ok (.if_icmp .le 11, 3) := by decide +kernel
theorem dX10_lies_155 : decode cX10_lies 155 = .ok (.iload 10, 2) := by decide +kernel
theorem dX10_lies_157 : decode cX10_lies 157 = .ok (.istore 7, 2) := by decide +kernel
theorem dX10_lies_159 : decode cX10_lies 159 = .ok (.iload 9, 2) := by decide +kernel
theorem dX10_lies_161 : decode cX10_lies 161 = .ok (.istore 8, 2) := by decide +kernel
theorem dX10_lies_163 : decode cX10_lies 163 = .ok (.iinc 9 1, 3) := by decide +kernel
theorem dX10_lies_166 : decode cX10_lies 166 = .ok (.goto (-65), 3) := by decide +kernel
theorem dX10_lies_169 : decode cX10_lies 169 = .ok (.aload_n 0, 1) := by decide +kernel
theorem dX10_lies_170 : decode cX10_lies 170 = .ok (.iload_n 3, 1) := by decide +kernel
theorem dX10_lies_171 : decode cX10_lies 171 = .ok (.ifCond .ne 8, 3) := by decide +kernel
theorem dX10_lies_174 : decode cX10_lies 174 = .ok (.lload 5, 2) := by decide +kernel
theorem dX10_lies_176 : decode cX10_lies 176 = .ok (.goto 6, 3) := by decide +kernel
theorem dX10_lies_179 : decode cX10_lies 179 = .ok (.iload 8, 2) := by decide +kernel
theorem dX10_lies_181 : decode cX10_lies 181 = .ok (.i2l, 1) := by decide +kernel
theorem dX10_lies_182 : decode cX10_lies 182 = .ok (.invokevirtual 72, 3) := by decide +kernel
theorem dX10_lies_185 : decode cX10_lies 185 = .ok (.lreturn, 1) := by decide +kernel
set_option maxRecDepth 20000 in
theorem ggX10_carry_X0_foretell : GoodIn wsX10_carry wsX0_foretell := goodIn_r _ [14, 15, 16, 17, 18, 19, 13, 20, 21, 22, 23, 24, 25, 26, 27, 28, 29, 30, 31, 32, 33, 34, 35, 36, 37, 38, 39, 40, 41, 42, 43, 44, 45, 46, 47, 48, 49, 50, 51, 52, 53, 54, 55, 56, 87, 88, 89, 90, 91, 92, 93, 94, 95, 96, 71, 72, 73, 74, 75, 76, 77, 78, 79, 80, 81, 82, 83, 84, 85, 86] (by decide +kernel) (by decide +kernel)
set_option maxRecDepth 20000 in
theorem gX10_carry_X0_foretell : GoodIn wsX10_carry (wsV RX10 180 RX0 yX0_foretell wsX0_foretell) := goodIn_app (goodIn_of _ (by decide +kernel)) ggX10_carry_X0_foretell
set_option maxRecDepth 20000 in
theorem ggX10_carry_X0_safeWays : GoodIn wsX10_carry wsX0_safeWays := goodIn_r _ [60, 15, 23, 16, 54, 55, 32, 56, 87, 88, 89, 90, 91, 92, 93, 94, 95, 96] (by decide +kernel) (by decide +kernel)
set_option maxRecDepth 20000 in
theorem gX10_carry_X0_safeWays : GoodIn wsX10_carry (wsV RX10 184 RX0 yX0_safeWays wsX0_safeWays) := goodIn_app (goodIn_of _ (by decide +kernel)) ggX10_carry_X0_safeWays
theorem dX10_carry_0 : decode cX10_carry 0 = .ok (.aload_n 0, 1) := by decide +kernel
theorem dX10_carry_1 : decode cX10_carry 1 = .ok (.getfield 49, 3) := by decide +kernel
theorem dX10_carry_4 : decode cX10_carry 4 = .ok (.getfield 116, 3) := by decide +kernel
theorem dX10_carry_7 : decode cX10_carry 7 = .ok (.ifCond .ne 7, 3) := by decide +kernel
theorem dX10_carry_10 : decode cX10_carry 10 = .ok (.ldc2_w 134, 3) := by decide +kernel
theorem dX10_carry_13 : decode cX10_carry 13 = .ok (.lreturn, 1) := by decide +kernel
theorem dX10_carry_14 : decode cX10_carry 14 = .ok (.iload_n 1, 1) := by decide +kernel
theorem dX10_carry_15 : decode cX10_carry 15 = .ok (.ifCond .lt 31, 3) := by decide +kernel
theorem dX10_carry_18 : decode cX10_carry 18 = .ok (.iload_n 1, 1) := by decide +kernel
theorem dX10_carry_19 : decode cX10_carry 19 = .ok (.sipush 300, 3) := by decide +kernel
theorem dX10_carry_22 : decode cX10_carry 22 = .ok (.if_icmp .gt 24, 3) := by decide +kernel
theorem dX10_carry_25 : decode cX10_carry 25 = .ok (.iload_n 2, 1) := by decide +kernel
theorem dX10_carry_26 : decode cX10_carry 26 = .ok (.ifCond .lt 20, 3) := by decide +kernel
theorem dX10_carry_29 : decode cX10_carry 29 = .ok (.iload_n 2, 1) := by decide +kernel
theorem dX10_carry_30 : decode cX10_carry 30 = .ok (.sipush 300, 3) := by decide +kernel
theorem dX10_carry_33 : decode cX10_carry 33 = .ok (.if_icmp .gt 13, 3) := by decide +kernel
theorem dX10_carry_36 : decode cX10_carry 36 = .ok (.iload_n 3, 1) := by decide +kernel
theorem dX10_carry_37 : decode cX10_carry 37 = .ok (.iconst 1, 1) := by decide +kernel
theorem dX10_carry_38 : decode cX10_carry 38 = .ok (.if_icmp .lt 8, 3) := by decide +kernel
theorem dX10_carry_41 : decode cX10_carry 41 = .ok (.iload_n 3, 1) := by decide +kernel
theorem dX10_carry_42 : decode cX10_carry 42 = .ok (.iconst 4, 1) := by decide +kernel
theorem dX10_carry_43 : decode cX10_carry 43 = .ok (.if_icmp .le 7, 3) := by decide +kernel
theorem dX10_carry_46 : decode cX10_carry 46 = .ok (.ldc2_w 66, 3) := by decide +kernel
theorem dX10_carry_49 : decode cX10_carry 49 = .ok (.lreturn, 1) := by decide +kernel
theorem dX10_carry_50 : decode cX10_carry 50 = .ok (.aload_n 0, 1) := by decide +kernel
theorem dX10_carry_51 : decode cX10_carry 51 = .ok (.getfield 49, 3) := by decide +kernel
theorem dX10_carry_54 : decode cX10_carry 54 = .ok (.getfield 175, 3) := by decide +kernel
theorem dX10_carry_57 : decode cX10_carry 57 = .ok (.ifCond .ne 7, 3) := by decide +kernel
theorem dX10_carry_60 : decode cX10_carry 60 = .ok (.ldc2_w 178, 3) := by decide +kernel
theorem dX10_carry_63 : decode cX10_carry 63 = .ok (.lreturn, 1) := by decide +kernel
theorem dX10_carry_64 : decode cX10_carry 64 = .ok (.aload_n 0, 1) := by decide +kernel
theorem dX10_carry_65 : decode cX10_carry 65 = .ok (.getfield 31, 3) := by decide +kernel
theorem dX10_carry_68 : decode cX10_carry 68 = .ok (.aload_n 0, 1) := by decide +kernel
theorem dX10_carry_69 : decode cX10_carry 69 = .ok (.getfield 49, 3) := by decide +kernel
theorem dX10_carry_72 : decode cX10_carry 72 = .ok (.aload_n 0, 1) := by decide +kernel
theorem dX10_carry_73 : decode cX10_carry 73 = .ok (.getfield 49, 3) := by decide +kernel
theorem dX10_carry_76 : decode cX10_carry 76 = .ok (.getfield 197, 3) := by decide +kernel
theorem dX10_carry_79 : decode cX10_carry 79 = .ok (.iload_n 3, 1) := by decide +kernel
theorem dX10_carry_80 : decode cX10_carry 80 = .ok (.invokevirtual 180, 3) := by decide +kernel
theorem dX10_carry_83 : decode cX10_carry 83 = .ok (.iconst 0, 1) := by decide +kernel
theorem dX10_carry_84 : decode cX10_carry 84 = .ok (.istore 4, 2) := by decide +kernel
theorem dX10_carry_86 : decode cX10_carry 86 = .ok (.ldc2_w 214, 3) := by decide +kernel
theorem dX10_carry_89 : decode cX10_carry 89 = .ok (.lstore 5, 2) := by decide +kernel
theorem dX10_carry_91 : decode cX10_carry 91 = .ok (.iconst 0, 1) := by decide +kernel
theorem dX10_carry_92 : decode cX10_carry 92 = .ok (.istore 7, 2) := by decide +kernel
theorem dX10_carry_94 : decode cX10_carry 94 = .ok (.iconst 2, 1) := by decide +kernel
theorem dX10_carry_95 : decode cX10_carry 95 = .ok (.iload 7, 2) := by decide +kernel
theorem dX10_carry_97 : decode cX10_carry 97 = .ok (.imul, 1) := by decide +kernel
theorem dX10_carry_98 : decode cX10_carry 98 = .ok (.iload_n 1, 1) := by decide +kernel
theorem dX10_carry_99 : decode cX10_carry 99 = .ok (.if_icmp .gt 52, 3) := by decide +kernel
theorem dX10_carry_102 : decode cX10_carry 102 = .ok (.aload_n 0, 1) := by decide +kernel
theorem dX10_carry_103 : decode cX10_carry 103 = .ok (.getfield 31, 3) := by decide +kernel
theorem dX10_carry_106 : decode cX10_carry 106 = .ok (.iload_n 1, 1) := by decide +kernel
theorem dX10_carry_107 : decode cX10_carry 107 = .ok (.iconst 2, 1) := by decide +kernel
theorem dX10_carry_108 : decode cX10_carry 108 = .ok (.iload 7, 2) := by decide +kernel
theorem dX10_carry_110 : decode cX10_carry 110 = .ok (.imul, 1) := by decide +kernel
theorem dX10_carry_111 : decode cX10_carry 111 = .ok (.isub, 1) := by decide +kernel
theorem dX10_carry_112 : decode cX10_carry 112 = .ok (.invokevirtual 184, 3) := by decide +kernel
theorem dX10_carry_115 : decode cX10_carry 115 = .ok (.aload_n 0, 1) := by decide +kernel
theorem dX10_carry_116 : decode cX10_carry 116 = .ok (.getfield 31, 3) := by decide +kernel
theorem dX10_carry_119 : decode cX10_carry 119 = .ok (.iload_n 2, 1) := by decide +kernel
theorem dX10_carry_120 : decode cX10_carry 120 = .ok (.iload 7, 2) := by decide +kernel
theorem dX10_carry_122 : decode cX10_carry 122 = .ok (.iadd, 1) := by decide +kernel
theorem dX10_carry_123 : decode cX10_carry 123 = .ok (.invokevirtual 184, 3) := by decide +kernel
theorem dX10_carry_126 : decode cX10_carry 126 = .ok (.lmul, 1) := by decide +kernel
theorem dX10_carry_127 : decode cX10_carry 127 = .ok (.lstore 8, 2) := by decide +kernel
theorem dX10_carry_129 : decode cX10_carry 129 = .ok (.lload 8, 2) := by decide +kernel
theorem dX10_carry_131 : decode cX10_carry 131 = .ok (.lload 5, 2) := by decide +kernel
theorem dX10_carry_133 : decode cX10_carry 133 = .ok (.lcmp, 1) := by decide +kernel
theorem dX10_carry_134 : decode cX10_carry 134 = .ok (.ifCond .le 11, 3) := by decide +kernel
theorem dX10_carry_137 : decode cX10_carry 137 = .ok (.lload 8, 2) := by decide +kernel
theorem dX10_carry_139 : decode cX10_carry 139 = .ok (.lstore 5, 2) := by decide +kernel
theorem dX10_carry_141 : decode cX10_carry 141 = .ok (.iload 7, 2) := by decide +kernel
theorem dX10_carry_143 : decode cX10_carry 143 = .ok (.istore 4, 2) := by decide +kernel
theorem dX10_carry_145 : decode cX10_carry 145 = .ok (.iinc 7 1, 3) := by decide +kernel
theorem dX10_carry_148 : decode cX10_carry 148 = .ok (.goto (-54), 3) := by decide +kernel
theorem dX10_carry_151 : decode cX10_carry 151 = .ok (.iload 4, 2) := by decide +kernel
theorem dX10_carry_153 : decode cX10_carry 153 = .ok (.i2l, 1) := by decide +kernel
theorem dX10_carry_154 : decode cX10_carry 154 = .ok (.lreturn, 1) := by decide +kernel
set_option maxRecDepth 20000 in
theorem ggX10_image_X5_becomeLike : GoodIn wsX10_image wsX5_becomeLike := goodIn_r _ [10, 11, 12, 13, 14, 15, 16, 17, 18, 19, 20, 21, 22, 23, 24, 25, 26, 27, 28, 29, 30, 41, 42, 43, 44, 45, 46, 47, 48, 49, 50, 51, 52, 53, 54, 55, 56] (by decide +kernel) (by decide +kernel)
set_option maxRecDepth 20000 in
theorem gX10_image_X5_becomeLike : GoodIn wsX10_image (wsV RX10 216 RX5 yX5_becomeLike wsX5_becomeLike) := goodIn_app (goodIn_of _ (by decide +kernel)) ggX10_image_X5_becomeLike
theorem dX10_image_0 : decode cX10_image 0 = .ok (.iload_n 1, 1) := by decide +kernel
theorem dX10_image_1 : decode cX10_image 1 = .ok (.ifCond .lt 8, 3) := by decide +kernel
theorem dX10_image_4 : decode cX10_image 4 = .ok (.iload_n 1, 1) := by decide +kernel
theorem dX10_image_5 : decode cX10_image 5 = .ok (.iconst 2, 1) := by decide +kernel
theorem dX10_image_6 : decode cX10_image 6 = .ok (.if_icmp .lt 7, 3) := by decide +kernel
theorem dX10_image_9 : decode cX10_image 9 = .ok (.ldc2_w 66, 3) := by decide +kernel
theorem dX10_image_12 : decode cX10_image 12 = .ok (.lreturn, 1) := by decide +kernel
theorem dX10_image_13 : decode cX10_image 13 = .ok (.aload_n 0, 1) := by decide +kernel
theorem dX10_image_14 : decode cX10_image 14 = .ok (.getfield 49, 3) := by decide +kernel
theorem dX10_image_17 : decode cX10_image 17 = .ok (.getfield 116, 3) := by decide +kernel
theorem dX10_image_20 : decode cX10_image 20 = .ok (.ifCond .ne 7, 3) := by decide +kernel
theorem dX10_image_23 : decode cX10_image 23 = .ok (.ldc2_w 134, 3) := by decide +kernel
theorem dX10_image_26 : decode cX10_image 26 = .ok (.lreturn, 1) := by decide +kernel
theorem dX10_image_27 : decode cX10_image 27 = .ok (.aload_n 0, 1) := by decide +kernel
theorem dX10_image_28 : decode cX10_image 28 = .ok (.getfield 44, 3) := by decide +kernel
theorem dX10_image_31 : decode cX10_image 31 = .ok (.iload_n 1, 1) := by decide +kernel
theorem dX10_image_32 : decode cX10_image 32 = .ok (.aaload, 1) := by decide +kernel
theorem dX10_image_33 : decode cX10_image 33 = .ok (.aload_n 0, 1) := by decide +kernel
theorem dX10_image_34 : decode cX10_image 34 = .ok (.getfield 49, 3) := by decide +kernel
theorem dX10_image_37 : decode cX10_image 37 = .ok (.invokevirtual 216, 3) := by decide +kernel
theorem dX10_image_40 : decode cX10_image 40 = .ok (.lconst 1, 1) := by decide +kernel
theorem dX10_image_41 : decode cX10_image 41 = .ok (.lreturn, 1) := by decide +kernel
set_option maxRecDepth 20000 in
theorem ggX10_restore_X5_becomeLike : GoodIn wsX10_restore wsX5_becomeLike := goodIn_r _ [10, 11, 12, 13, 14, 15, 16, 17, 18, 19, 20, 21, 22, 23, 24, 25, 26, 27, 28, 29, 30, 41, 42, 43, 44, 45, 46, 47, 48, 49, 50, 51, 52, 53, 54, 55, 56] (by decide +kernel) (by decide +kernel)
set_option maxRecDepth 20000 in
theorem gX10_restore_X5_becomeLike : GoodIn wsX10_restore (wsV RX10 216 RX5 yX5_becomeLike wsX5_becomeLike) := goodIn_app (goodIn_of _ (by decide +kernel)) ggX10_restore_X5_becomeLike
theorem dX10_restore_0 : decode cX10_restore 0 = .ok (.iload_n 1, 1) := by decide +kernel
theorem dX10_restore_1 : decode cX10_restore 1 = .ok (.ifCond .lt 8, 3) := by decide +kernel
theorem dX10_restore_4 : decode cX10_restore 4 = .ok (.iload_n 1, 1) := by decide +kernel
theorem dX10_restore_5 : decode cX10_restore 5 = .ok (.iconst 2, 1) := by decide +kernel
theorem dX10_restore_6 : decode cX10_restore 6 = .ok (.if_icmp .lt 7, 3) := by decide +kernel
theorem dX10_restore_9 : decode cX10_restore 9 = .ok (.ldc2_w 66, 3) := by decide +kernel
theorem dX10_restore_12 : decode cX10_restore 12 = .ok (.lreturn, 1) := by decide +kernel
theorem dX10_restore_13 : decode cX10_restore 13 = .ok (.aload_n 0, 1) := by decide +kernel
theorem dX10_restore_14 : decode cX10_restore 14 = .ok (.getfield 44, 3) := by decide +kernel
theorem dX10_restore_17 : decode cX10_restore 17 = .ok (.iload_n 1, 1) := by decide +kernel
theorem dX10_restore_18 : decode cX10_restore 18 = .ok (.aaload, 1) := by decide +kernel
theorem dX10_restore_19 : decode cX10_restore 19 = .ok (.getfield 116, 3) := by decide +kernel
theorem dX10_restore_22 : decode cX10_restore 22 = .ok (.ifCond .ne 7, 3) := by decide +kernel
theorem dX10_restore_25 : decode cX10_restore 25 = .ok (.ldc2_w 134, 3) := by decide +kernel
theorem dX10_restore_28 : decode cX10_restore 28 = .ok (.lreturn, 1) := by decide +kernel
theorem dX10_restore_29 : decode cX10_restore 29 = .ok (.aload_n 0, 1) := by decide +kernel
theorem dX10_restore_30 : decode cX10_restore 30 = .ok (.getfield 49, 3) := by decide +kernel
theorem dX10_restore_33 : decode cX10_restore 33 = .ok (.aload_n 0, 1) := by decide +kernel
theorem dX10_restore_34 : decode cX10_restore 34 = .ok (.getfield 44, 3) := by decide +kernel
theorem dX10_restore_37 : decode cX10_restore 37 = .ok (.iload_n 1, 1) := by decide +kernel
theorem dX10_restore_38 : decode cX10_restore 38 = .ok (.aaload, 1) := by decide +kernel
theorem dX10_restore_39 : decode cX10_restore 39 = .ok (.invokevirtual 216, 3) := by decide +kernel
theorem dX10_restore_42 : decode cX10_restore 42 = .ok (.lconst 1, 1) := by decide +kernel
theorem dX10_restore_43 : decode cX10_restore 43 = .ok (.lreturn, 1) := by decide +kernel
set_option maxRecDepth 20000 in
theorem ggX10_kind_X5_partyAt : GoodIn wsX10_kind wsX5_partyAt := goodIn_r _ [7, 8, 9, 42, 43, 44, 45, 46, 47, 48, 49, 50, 51, 52, 53, 54, 55, 56, 57] (by decide +kernel) (by decide +kernel)
set_option maxRecDepth 20000 in
theorem gX10_kind_X5_partyAt : GoodIn wsX10_kind (wsV RX10 126 RX5 yX5_partyAt wsX5_partyAt) := goodIn_app (goodIn_of _ (by decide +kernel)) ggX10_kind_X5_partyAt
set_option maxRecDepth 20000 in
theorem ggX10_kind_X1_kindTold : GoodIn wsX10_kind wsX1_kindTold := goodIn_r _ [15] (by decide +kernel) (by decide +kernel)
set_option maxRecDepth 20000 in
theorem gX10_kind_X1_kindTold_u220X1 : GoodIn wsX10_kind (va_wsU RX10 220 RX1 "WoodForTwo$Party" ⟨"WoodForTwo$Party", "kindTold", "()I"⟩ yX1_kindTold wsX1_kindTold) := goodIn_app (goodIn_of _ (by decide +kernel)) ggX10_kind_X1_kindTold
set_option maxRecDepth 20000 in
theorem ggX10_kind_X2_kindTold : GoodIn wsX10_kind wsX2_kindTold := goodIn_r _ [19] (by decide +kernel) (by decide +kernel)
set_option maxRecDepth 20000 in
theorem gX10_kind_X2_kindTold_u220X2 : GoodIn wsX10_kind (va_wsU RX10 220 RX2 "WoodForTwo$Party" ⟨"WoodForTwo$Party", "kindTold", "()I"⟩ yX2_kindTold wsX2_kindTold) := goodIn_app (goodIn_of _ (by decide +kernel)) ggX10_kind_X2_kindTold
set_option maxRecDepth 20000 in
theorem ggX10_kind_X3_kindTold : GoodIn wsX10_kind wsX3_kindTold := goodIn_r _ [23] (by decide +kernel) (by decide +kernel)
set_option maxRecDepth 20000 in
theorem gX10_kind_X3_kindTold_u220X3 : GoodIn wsX10_kind (va_wsU RX10 220 RX3 "WoodForTwo$Party" ⟨"WoodForTwo$Party", "kindTold", "()I"⟩ yX3_kindTold wsX3_kindTold) := goodIn_app (goodIn_of _ (by decide +kernel)) ggX10_kind_X3_kindTold
set_option maxRecDepth 20000 in
theorem ggX10_kind_X7_kindTold : GoodIn wsX10_kind wsX7_kindTold := goodIn_r _ [27] (by decide +kernel) (by decide +kernel)
set_option maxRecDepth 20000 in
theorem gX10_kind_X7_kindTold_u220X7 : GoodIn wsX10_kind (va_wsU RX10 220 RX7 "WoodForTwo$Party" ⟨"WoodForTwo$Party", "kindTold", "()I"⟩ yX7_kindTold wsX7_kindTold) := goodIn_app (goodIn_of _ (by decide +kernel)) ggX10_kind_X7_kindTold
set_option maxRecDepth 20000 in
theorem ggX10_kind_X9_kindTold : GoodIn wsX10_kind wsX9_kindTold := goodIn_r _ [31] (by decide +kernel) (by decide +kernel)
set_option maxRecDepth 20000 in
theorem gX10_kind_X9_kindTold_u220X9 : GoodIn wsX10_kind (va_wsU RX10 220 RX9 "WoodForTwo$Party" ⟨"WoodForTwo$Party", "kindTold", "()I"⟩ yX9_kindTold wsX9_kindTold) := goodIn_app (goodIn_of _ (by decide +kernel)) ggX10_kind_X9_kindTold
theorem dX10_kind_0 : decode cX10_kind 0 = .ok (.aload_n 0, 1) := by decide +kernel
theorem dX10_kind_1 : decode cX10_kind 1 = .ok (.getfield 49, 3) := by decide +kernel
theorem dX10_kind_4 : decode cX10_kind 4 = .ok (.iload_n 1, 1) := by decide +kernel
theorem dX10_kind_5 : decode cX10_kind 5 = .ok (.invokevirtual 126, 3) := by decide +kernel
theorem dX10_kind_8 : decode cX10_kind 8 = .ok (.astore_n 2, 1) := by decide +kernel
theorem dX10_kind_9 : decode cX10_kind 9 = .ok (.aload_n 2, 1) := by decide +kernel
theorem dX10_kind_10 : decode cX10_kind 10 = .ok (.ifnonnull 9, 3) := by decide +kernel
theorem dX10_kind_13 : decode cX10_kind 13 = .ok (.ldc2_w 66, 3) := by decide +kernel
theorem dX10_kind_16 : decode cX10_kind 16 = .ok (.goto 8, 3) := by decide +kernel
theorem dX10_kind_19 : decode cX10_kind 19 = .ok (.aload_n 2, 1) := by decide +kernel
theorem dX10_kind_20 : decode cX10_kind 20 = .ok (.invokevirtual 220, 3) := by decide +kernel
theorem dX10_kind_23 : decode cX10_kind 23 = .ok (.i2l, 1) := by decide +kernel
theorem dX10_kind_24 : decode cX10_kind 24 = .ok (.lreturn, 1) := by decide +kernel
set_option maxRecDepth 20000 in
theorem ggX10_as_X5_partyAt : GoodIn wsX10_as wsX5_partyAt := goodIn_r _ [7, 8, 9, 39, 40, 41, 42, 43, 44, 45, 46, 47, 48, 49, 50, 51, 52, 53, 54] (by decide +kernel) (by decide +kernel)
set_option maxRecDepth 20000 in
theorem gX10_as_X5_partyAt : GoodIn wsX10_as (wsV RX10 126 RX5 yX5_partyAt wsX5_partyAt) := goodIn_app (goodIn_of _ (by decide +kernel)) ggX10_as_X5_partyAt
set_option maxRecDepth 20000 in
theorem ggX10_as_X10_isOfKind : GoodIn wsX10_as wsX10_isOfKind := goodIn_r _ [13, 14, 15, 16, 17, 18] (by decide +kernel) (by decide +kernel)
set_option maxRecDepth 20000 in
theorem gX10_as_X10_isOfKind : GoodIn wsX10_as (va_wsS RX10 224 yX10_isOfKind wsX10_isOfKind) := goodIn_app (goodIn_of _ (by decide +kernel)) ggX10_as_X10_isOfKind
set_option maxRecDepth 20000 in
theorem ggX10_as_X10_found : GoodIn wsX10_as wsX10_found := goodIn_r _ [22, 23, 24, 29, 30, 31, 32, 33, 34, 35, 36, 37, 38] (by decide +kernel) (by decide +kernel)
set_option maxRecDepth 20000 in
theorem gX10_as_X10_found : GoodIn wsX10_as (wsV RX10 68 RX10 yX10_found wsX10_found) := goodIn_app (goodIn_of _ (by decide +kernel)) ggX10_as_X10_found
set_option maxRecDepth 20000 in
theorem ggX10_as_X10_fine : GoodIn wsX10_as wsX10_fine := goodIn_r _ [28, 23, 29, 30, 31, 32, 33, 34, 35, 36, 37, 38] (by decide +kernel) (by decide +kernel)
set_option maxRecDepth 20000 in
theorem gX10_as_X10_fine : GoodIn wsX10_as (wsV RX10 72 RX10 yX10_fine wsX10_fine) := goodIn_app (goodIn_of _ (by decide +kernel)) ggX10_as_X10_fine
theorem dX10_as_0 : decode cX10_as 0 = .ok (.aload_n 0, 1) := by decide +kernel
theorem dX10_as_1 : decode cX10_as 1 = .ok (.getfield 49, 3) := by decide +kernel
theorem dX10_as_4 : decode cX10_as 4 = .ok (.iload_n 1, 1) := by decide +kernel
theorem dX10_as_5 : decode cX10_as 5 = .ok (.invokevirtual 126, 3) := by decide +kernel
theorem dX10_as_8 : decode cX10_as 8 = .ok (.astore_n 3, 1) := by decide +kernel
theorem dX10_as_9 : decode cX10_as 9 = .ok (.aload_n 3, 1) := by decide +kernel
theorem dX10_as_10 : decode cX10_as 10 = .ok (.ifnull 12, 3) := by decide +kernel
theorem dX10_as_13 : decode cX10_as 13 = .ok (.iload_n 2, 1) := by decide +kernel
theorem dX10_as_14 : decode cX10_as 14 = .ok (.ifCond .lt 8, 3) := by decide +kernel
theorem dX10_as_17 : decode cX10_as 17 = .ok (.iload_n 2, 1) := by decide +kernel
theorem dX10_as_18 : decode cX10_as 18 = .ok (.iconst 5, 1) := by decide +kernel
theorem dX10_as_19 : decode cX10_as 19 = .ok (.if_icmp .le 7, 3) := by decide +kernel
theorem dX10_as_22 : decode cX10_as 22 = .ok (.ldc2_w 66, 3) := by decide +kernel
theorem dX10_as_25 : decode cX10_as 25 = .ok (.lreturn, 1) := by decide +kernel
theorem dX10_as_26 : decode cX10_as 26 = .ok (.aload_n 3, 1) := by decide +kernel
theorem dX10_as_27 : decode cX10_as 27 = .ok (.iload_n 2, 1) := by decide +kernel
theorem dX10_as_28 : decode cX10_as 28 = .ok (.invokestatic 224, 3) := by decide +kernel
theorem dX10_as_31 : decode cX10_as 31 = .ok (.ifCond .ne 9, 3) := by decide +kernel
theorem dX10_as_34 : decode cX10_as 34 = .ok (.aload_n 0, 1) := by decide +kernel
theorem dX10_as_35 : decode cX10_as 35 = .ok (.iconst 3, 1) := by decide +kernel
theorem dX10_as_36 : decode cX10_as 36 = .ok (.invokevirtual 68, 3) := by decide +kernel
theorem dX10_as_39 : decode cX10_as 39 = .ok (.lreturn, 1) := by decide +kernel
theorem dX10_as_40 : decode cX10_as 40 = .ok (.aload_n 0, 1) := by decide +kernel
theorem dX10_as_41 : decode cX10_as 41 = .ok (.iload_n 1, 1) := by decide +kernel
theorem dX10_as_42 : decode cX10_as 42 = .ok (.i2l, 1) := by decide +kernel
theorem dX10_as_43 : decode cX10_as 43 = .ok (.invokevirtual 72, 3) := by decide +kernel
theorem dX10_as_46 : decode cX10_as 46 = .ok (.lreturn, 1) := by decide +kernel
set_option maxRecDepth 20000 in
theorem ggX10_ask_X5_partyAt : GoodIn wsX10_ask wsX5_partyAt := goodIn_r _ [8, 9, 10, 123, 124, 125, 126, 127, 128, 129, 130, 131, 132, 133, 134, 135, 136, 137, 138] (by decide +kernel) (by decide +kernel)
set_option maxRecDepth 20000 in
theorem gX10_ask_X5_partyAt : GoodIn wsX10_ask (wsV RX10 126 RX5 yX5_partyAt wsX5_partyAt) := goodIn_app (goodIn_of _ (by decide +kernel)) ggX10_ask_X5_partyAt
set_option maxRecDepth 20000 in
theorem ggX10_ask_X10_isZeroOrOne : GoodIn wsX10_ask wsX10_isZeroOrOne := goodIn_r _ [14] (by decide +kernel) (by decide +kernel)
set_option maxRecDepth 20000 in
theorem gX10_ask_X10_isZeroOrOne : GoodIn wsX10_ask (va_wsS RX10 172 yX10_isZeroOrOne wsX10_isZeroOrOne) := goodIn_app (goodIn_of _ (by decide +kernel)) ggX10_ask_X10_isZeroOrOne
set_option maxRecDepth 20000 in
theorem ggX10_ask_X8_empty : GoodIn wsX10_ask wsX8_empty := goodIn_r _ [19, 20, 139, 140] (by decide +kernel) (by decide +kernel)
set_option maxRecDepth 20000 in
theorem gX10_ask_X8_empty : GoodIn wsX10_ask (wsV RX10 228 RX8 yX8_empty wsX8_empty) := goodIn_app (goodIn_of _ (by decide +kernel)) ggX10_ask_X8_empty
set_option maxRecDepth 20000 in
theorem ggX10_ask_X1_sizeAsked : GoodIn wsX10_ask wsX1_sizeAsked := goodIn_r _ [27, 28, 29, 30, 18, 31, 20, 32, 33, 34, 35, 36, 37, 38, 39, 40, 22, 41, 42, 43, 44, 45, 46, 47, 48, 49, 50, 51, 52, 53, 54, 55, 56, 57, 58, 59, 60, 61, 62, 63, 7, 64, 65, 66, 67, 68, 69, 70, 71, 72, 73, 74, 75, 76, 77, 139, 140, 141, 142, 143, 144, 145, 146, 147, 148, 149, 150, 151, 152, 153, 154, 155, 123, 124, 125, 126, 127, 128, 129, 130, 131, 132, 133, 134, 135, 136, 137, 138] (by decide +kernel) (by decide +kernel)
set_option maxRecDepth 20000 in
theorem gX10_ask_X1_sizeAsked_u229X1 : GoodIn wsX10_ask (va_wsO RX10 229 RX1 "WoodForTwo$Party" ⟨"WoodForTwo$Party", "sizeAsked", "(LWoodForTwo$Pass;LWoodForTwo$Trace;)J"⟩ yX1_sizeAsked wsX1_sizeAsked) := goodIn_app (goodIn_of _ (by decide +kernel)) ggX10_ask_X1_sizeAsked
set_option maxRecDepth 20000 in
theorem ggX10_ask_X2_sizeAsked : GoodIn wsX10_ask wsX2_sizeAsked := goodIn_r _ [38, 39, 29, 30, 18, 31, 20, 32, 40, 22, 41, 42, 43, 44, 45, 46, 47, 48, 49, 50, 37, 51, 52, 53, 54, 55, 56, 57, 58, 59, 60, 61, 62, 63, 7, 64, 65, 66, 67, 68, 69, 70, 71, 72, 73, 74, 75, 76, 77, 139, 140, 141, 142, 143, 144, 145, 146, 147, 148, 149, 150, 151, 152, 153, 154, 155, 123, 124, 125, 126, 127, 128, 129, 130, 131, 132, 133, 134, 135, 136, 137, 138] (by decide +kernel) (by decide +kernel)
set_option maxRecDepth 20000 in
theorem gX10_ask_X2_sizeAsked_u229X2 : GoodIn wsX10_ask (va_wsO RX10 229 RX2 "WoodForTwo$Party" ⟨"WoodForTwo$Party", "sizeAsked", "(LWoodForTwo$Pass;LWoodForTwo$Trace;)J"⟩ yX2_sizeAsked wsX2_sizeAsked) := goodIn_app (goodIn_of _ (by decide +kernel)) ggX10_ask_X2_sizeAsked
set_option maxRecDepth 20000 in
theorem ggX10_ask_X3_sizeAsked : GoodIn wsX10_ask wsX3_sizeAsked := goodIn_r _ [81, 82, 75, 29, 30, 18, 31, 20, 32, 83, 34, 77, 36, 37, 38, 39, 40, 22, 41, 42, 43, 44, 45, 46, 47, 48, 49, 50, 51, 52, 53, 54, 55, 56, 57, 58, 59, 60, 61, 62, 63, 7, 64, 65, 66, 67, 68, 69, 70, 71, 72, 73, 74, 76, 139, 140, 141, 142, 143, 144, 145, 146, 147, 148, 149, 150, 151, 152, 153, 154, 155, 123, 124, 125, 126, 127, 128, 129, 130, 131, 132, 133, 134, 135, 136, 137, 138] (by decide +kernel) (by decide +kernel)
set_option maxRecDepth 20000 in
theorem gX10_ask_X3_sizeAsked_u229X3 : GoodIn wsX10_ask (va_wsO RX10 229 RX3 "WoodForTwo$Party" ⟨"WoodForTwo$Party", "sizeAsked", "(LWoodForTwo$Pass;LWoodForTwo$Trace;)J"⟩ yX3_sizeAsked wsX3_sizeAsked) := goodIn_app (goodIn_of _ (by decide +kernel)) ggX10_ask_X3_sizeAsked
set_option maxRecDepth 20000 in
theorem ggX10_ask_X7_sizeAsked : GoodIn wsX10_ask wsX7_sizeAsked := goodIn_r _ [87, 88, 89, 29, 30, 18, 31, 20, 32, 90, 22, 91, 42, 43, 44, 45, 46, 139, 140, 141, 142, 143, 144, 145, 146, 147, 148, 149, 150, 151, 152, 153, 154, 155] (by decide +kernel) (by decide +kernel)
set_option maxRecDepth 20000 in
theorem gX10_ask_X7_sizeAsked_u229X7 : GoodIn wsX10_ask (va_wsO RX10 229 RX7 "WoodForTwo$Party" ⟨"WoodForTwo$Party", "sizeAsked", "(LWoodForTwo$Pass;LWoodForTwo$Trace;)J"⟩ yX7_sizeAsked wsX7_sizeAsked) := goodIn_app (goodIn_of _ (by decide +kernel)) ggX10_ask_X7_sizeAsked
set_option maxRecDepth 20000 in
theorem ggX10_ask_X4_sizeAsked : GoodIn wsX10_ask wsX4_sizeAsked := goodIn_r _ [44, 45, 46, 29, 30, 18, 31, 20, 32, 141, 142, 143, 144, 145, 146, 147, 148, 149, 150, 151, 152, 153, 154, 155, 139, 140] (by decide +kernel) (by decide +kernel)
set_option maxRecDepth 20000 in
theorem gX10_ask_X4_sizeAsked_u229X9 : GoodIn wsX10_ask (va_wsU RX10 229 RX9 "WoodForTwo$Party" ⟨"WoodForTwo$Party", "sizeAsked", "(LWoodForTwo$Pass;LWoodForTwo$Trace;)J"⟩ yX4_sizeAsked wsX4_sizeAsked) := goodIn_app (goodIn_of _ (by decide +kernel)) ggX10_ask_X4_sizeAsked
set_option maxRecDepth 20000 in
theorem ggX10_ask_X2_markAsked : GoodIn wsX10_ask wsX2_markAsked := goodIn_r _ [51, 52, 53, 54, 55, 39, 29, 30, 18, 31, 20, 32, 56, 57, 41, 58, 43, 59, 60, 46, 61, 62, 63, 7, 64, 65, 66, 123, 124, 125, 126, 127, 128, 129, 130, 131, 132, 133, 134, 135, 136, 137, 138, 141, 142, 143, 144, 145, 146, 147, 148, 149, 150, 151, 152, 153, 154, 155, 139, 140] (by decide +kernel) (by decide +kernel)
set_option maxRecDepth 20000 in
theorem gX10_ask_X2_markAsked_u233X1 : GoodIn wsX10_ask (va_wsO RX10 233 RX1 "WoodForTwo$Party" ⟨"WoodForTwo$Party", "markAsked", "(LWoodForTwo$Pass;LWoodForTwo$Trace;)J"⟩ yX2_markAsked wsX2_markAsked) := goodIn_app (goodIn_of _ (by decide +kernel)) ggX10_ask_X2_markAsked
set_option maxRecDepth 20000 in
theorem gX10_ask_X2_markAsked_u233X2 : GoodIn wsX10_ask (va_wsO RX10 233 RX2 "WoodForTwo$Party" ⟨"WoodForTwo$Party", "markAsked", "(LWoodForTwo$Pass;LWoodForTwo$Trace;)J"⟩ yX2_markAsked wsX2_markAsked) := goodIn_app (goodIn_of _ (by decide +kernel)) ggX10_ask_X2_markAsked
set_option maxRecDepth 20000 in
theorem ggX10_ask_X3_markAsked : GoodIn wsX10_ask wsX3_markAsked := goodIn_r _ [73, 74, 75, 29, 30, 18, 31, 20, 32, 76, 48, 77, 50, 37, 51, 52, 53, 54, 55, 39, 56, 57, 41, 58, 43, 59, 60, 46, 61, 62, 63, 7, 64, 65, 66, 139, 140, 123, 124, 125, 126, 127, 128, 129, 130, 131, 132, 133, 134, 135, 136, 137, 138, 141, 142, 143, 144, 145, 146, 147, 148, 149, 150, 151, 152, 153, 154, 155] (by decide +kernel) (by decide +kernel)
set_option maxRecDepth 20000 in
theorem gX10_ask_X3_markAsked_u233X3 : GoodIn wsX10_ask (va_wsO RX10 233 RX3 "WoodForTwo$Party" ⟨"WoodForTwo$Party", "markAsked", "(LWoodForTwo$Pass;LWoodForTwo$Trace;)J"⟩ yX3_markAsked wsX3_markAsked) := goodIn_app (goodIn_of _ (by decide +kernel)) ggX10_ask_X3_markAsked
set_option maxRecDepth 20000 in
theorem ggX10_ask_X7_markAsked : GoodIn wsX10_ask wsX7_markAsked := goodIn_r _ [100, 89, 29, 30, 18, 31, 20, 32, 101, 57, 91, 58, 43, 59, 60, 46, 102, 85, 103, 86, 87, 88, 90, 22, 42, 44, 45, 139, 140, 141, 142, 143, 144, 145, 146, 147, 148, 149, 150, 151, 152, 153, 154, 155] (by decide +kernel) (by decide +kernel)
set_option maxRecDepth 20000 in
theorem gX10_ask_X7_markAsked_u233X7 : GoodIn wsX10_ask (va_wsO RX10 233 RX7 "WoodForTwo$Party" ⟨"WoodForTwo$Party", "markAsked", "(LWoodForTwo$Pass;LWoodForTwo$Trace;)J"⟩ yX7_markAsked wsX7_markAsked) := goodIn_app (goodIn_of _ (by decide +kernel)) ggX10_ask_X7_markAsked
set_option maxRecDepth 20000 in
theorem ggX10_ask_X9_markAsked : GoodIn wsX10_ask wsX9_markAsked := goodIn_r _ [107, 108, 109, 110, 29, 30, 18, 31, 20, 32, 111, 57, 112, 58, 43, 59, 60, 46, 141, 142, 143, 144, 145, 146, 147, 148, 149, 150, 151, 152, 153, 154, 155, 139, 140] (by decide +kernel) (by decide +kernel)
set_option maxRecDepth 20000 in
theorem gX10_ask_X9_markAsked_u233X9 : GoodIn wsX10_ask (va_wsO RX10 233 RX9 "WoodForTwo$Party" ⟨"WoodForTwo$Party", "markAsked", "(LWoodForTwo$Pass;LWoodForTwo$Trace;)J"⟩ yX9_markAsked wsX9_markAsked) := goodIn_app (goodIn_of _ (by decide +kernel)) ggX10_ask_X9_markAsked
theorem dX10_ask_0 : decode cX10_ask 0 = .ok (.aload_n 0, 1) := by decide +kernel
theorem dX10_ask_1 : decode cX10_ask 1 = .ok (.getfield 49, 3) := by decide +kernel
theorem dX10_ask_4 : decode cX10_ask 4 = .ok (.iload_n 1, 1) := by decide +kernel
theorem dX10_ask_5 : decode cX10_ask 5 = .ok (.invokevirtual 126, 3) := by decide +kernel
theorem dX10_ask_8 : decode cX10_ask 8 = .ok (.astore_n 3, 1) := by decide +kernel
theorem dX10_ask_9 : decode cX10_ask 9 = .ok (.aload_n 3, 1) := by decide +kernel
theorem dX10_ask_10 : decode cX10_ask 10 = .ok (.ifnull 10, 3) := by decide +kernel
theorem dX10_ask_13 : decode cX10_ask 13 = .ok (.iload_n 2, 1) := by decide +kernel
theorem dX10_ask_14 : decode cX10_ask 14 = .ok (.invokestatic 172, 3) := by decide +kernel
theorem dX10_ask_17 : decode cX10_ask 17 = .ok (.ifCond .ne 7, 3) := by decide +kernel
theorem dX10_ask_20 : decode cX10_ask 20 = .ok (.ldc2_w 66, 3) := by decide +kernel
theorem dX10_ask_23 : decode cX10_ask 23 = .ok (.lreturn, 1) := by decide +kernel
theorem dX10_ask_24 : decode cX10_ask 24 = .ok (.aload_n 0, 1) := by decide +kernel
theorem dX10_ask_25 : decode cX10_ask 25 = .ok (.getfield 38, 3) := by decide +kernel
theorem dX10_ask_28 : decode cX10_ask 28 = .ok (.invokevirtual 228, 3) := by decide +kernel
theorem dX10_ask_31 : decode cX10_ask 31 = .ok (.iload_n 2, 1) := by decide +kernel
theorem dX10_ask_32 : decode cX10_ask 32 = .ok (.ifCond .ne 18, 3) := by decide +kernel
theorem dX10_ask_35 : decode cX10_ask 35 = .ok (.aload_n 3, 1) := by decide +kernel
theorem dX10_ask_36 : decode cX10_ask 36 = .ok (.aload_n 0, 1) := by decide +kernel
theorem dX10_ask_37 : decode cX10_ask 37 = .ok (.getfield 49, 3) := by decide +kernel
theorem dX10_ask_40 : decode cX10_ask 40 = .ok (.aload_n 0, 1) := by decide +kernel
theorem dX10_ask_41 : decode cX10_ask 41 = .ok (.getfield 38, 3) := by decide +kernel
theorem dX10_ask_44 : decode cX10_ask 44 = .ok (.invokevirtual 229, 3) := by decide +kernel
theorem dX10_ask_47 : decode cX10_ask 47 = .ok (.goto 15, 3) := by decide +kernel
theorem dX10_ask_50 : decode cX10_ask 50 = .ok (.aload_n 3, 1) := by decide +kernel
theorem dX10_ask_51 : decode cX10_ask 51 = .ok (.aload_n 0, 1) := by decide +kernel
theorem dX10_ask_52 : decode cX10_ask 52 = .ok (.getfield 49, 3) := by decide +kernel
theorem dX10_ask_55 : decode cX10_ask 55 = .ok (.aload_n 0, 1) := by decide +kernel
theorem dX10_ask_56 : decode cX10_ask 56 = .ok (.getfield 38, 3) := by decide +kernel
theorem dX10_ask_59 : decode cX10_ask 59 = .ok (.invokevirtual 233, 3) := by decide +kernel
theorem dX10_ask_62 : decode cX10_ask 62 = .ok (.lreturn, 1) := by decide +kernel
set_option maxRecDepth 20000 in
theorem ggX10_trace_X8_numberAt : GoodIn wsX10_trace wsX8_numberAt := goodIn_r _ [6, 7, 8, 9, 20, 21] (by decide +kernel) (by decide +kernel)
set_option maxRecDepth 20000 in
theorem gX10_trace_X8_numberAt : GoodIn wsX10_trace (wsV RX10 236 RX8 yX8_numberAt wsX8_numberAt) := goodIn_app (goodIn_of _ (by decide +kernel)) ggX10_trace_X8_numberAt
theorem dX10_trace_0 : decode cX10_trace 0 = .ok (.aload_n 0, 1) := by decide +kernel
theorem dX10_trace_1 : decode cX10_trace 1 = .ok (.getfield 38, 3) := by decide +kernel
theorem dX10_trace_4 : decode cX10_trace 4 = .ok (.iload_n 1, 1) := by decide +kernel
theorem dX10_trace_5 : decode cX10_trace 5 = .ok (.invokevirtual 236, 3) := by decide +kernel
theorem dX10_trace_8 : decode cX10_trace 8 = .ok (.ireturn, 1) := by decide +kernel
set_option maxRecDepth 20000 in
theorem ggX10_count_X10_rowsThere : GoodIn wsX10_count wsX10_rowsThere := goodIn_r _ [13, 14, 15, 16, 17, 18, 19, 20, 21, 22, 23, 24] (by decide +kernel) (by decide +kernel)
set_option maxRecDepth 20000 in
theorem gX10_count_X10_rowsThere : GoodIn wsX10_count (wsV RX10 239 RX10 yX10_rowsThere wsX10_rowsThere) := goodIn_app (goodIn_of _ (by decide +kernel)) ggX10_count_X10_rowsThere
theorem dX10_count_0 : decode cX10_count 0 = .ok (.iload_n 1, 1) := by decide +kernel
theorem dX10_count_1 : decode cX10_count 1 = .ok (.tableswitch 103 0 6 #[43, 49, 58, 67, 76, 85, 94], 43) := by decide +kernel
theorem dX10_count_44 : decode cX10_count 44 = .ok (.aload_n 0, 1) := by decide +kernel
theorem dX10_count_45 : decode cX10_count 45 = .ok (.invokevirtual 239, 3) := by decide +kernel
theorem dX10_count_48 : decode cX10_count 48 = .ok (.i2l, 1) := by decide +kernel
theorem dX10_count_49 : decode cX10_count 49 = .ok (.lreturn, 1) := by decide +kernel
theorem dX10_count_50 : decode cX10_count 50 = .ok (.aload_n 0, 1) := by decide +kernel
theorem dX10_count_51 : decode cX10_count 51 = .ok (.getfield 49, 3) := by decide +kernel
theorem dX10_count_54 : decode cX10_count 54 = .ok (.getfield 120, 3) := by decide +kernel
theorem dX10_count_57 : decode cX10_count 57 = .ok (.i2l, 1) := by decide +kernel
theorem dX10_count_58 : decode cX10_count 58 = .ok (.lreturn, 1) := by decide +kernel
theorem dX10_count_59 : decode cX10_count 59 = .ok (.aload_n 0, 1) := by decide +kernel
theorem dX10_count_60 : decode cX10_count 60 = .ok (.getfield 49, 3) := by decide +kernel
theorem dX10_count_63 : decode cX10_count 63 = .ok (.getfield 175, 3) := by decide +kernel
theorem dX10_count_66 : decode cX10_count 66 = .ok (.i2l, 1) := by decide +kernel
theorem dX10_count_67 : decode cX10_count 67 = .ok (.lreturn, 1) := by decide +kernel
theorem dX10_count_68 : decode cX10_count 68 = .ok (.aload_n 0, 1) := by decide +kernel
theorem dX10_count_69 : decode cX10_count 69 = .ok (.getfield 49, 3) := by decide +kernel
theorem dX10_count_72 : decode cX10_count 72 = .ok (.getfield 242, 3) := by decide +kernel
theorem dX10_count_75 : decode cX10_count 75 = .ok (.i2l, 1) := by decide +kernel
theorem dX10_count_76 : decode cX10_count 76 = .ok (.lreturn, 1) := by decide +kernel
theorem dX10_count_77 : decode cX10_count 77 = .ok (.aload_n 0, 1) := by decide +kernel
theorem dX10_count_78 : decode cX10_count 78 = .ok (.getfield 49, 3) := by decide +kernel
theorem dX10_count_81 : decode cX10_count 81 = .ok (.getfield 140, 3) := by decide +kernel
theorem dX10_count_84 : decode cX10_count 84 = .ok (.i2l, 1) := by decide +kernel
theorem dX10_count_85 : decode cX10_count 85 = .ok (.lreturn, 1) := by decide +kernel
theorem dX10_count_86 : decode cX10_count 86 = .ok (.aload_n 0, 1) := by decide +kernel
theorem dX10_count_87 : decode cX10_count 87 = .ok (.getfield 49, 3) := by decide +kernel
theorem dX10_count_90 : decode cX10_count 90 = .ok (.getfield 245, 3) := by decide +kernel
theorem dX10_count_93 : decode cX10_count 93 = .ok (.i2l, 1) := by decide +kernel
theorem dX10_count_94 : decode cX10_count 94 = .ok (.lreturn, 1) := by decide +kernel
theorem dX10_count_95 : decode cX10_count 95 = .ok (.aload_n 0, 1) := by decide +kernel
theorem dX10_count_96 : decode cX10_count 96 = .ok (.getfield 24, 3) := by decide +kernel
theorem dX10_count_99 : decode cX10_count 99 = .ok (.getfield 248, 3) := by decide +kernel
theorem dX10_count_102 : decode cX10_count 102 = .ok (.i2l, 1) := by decide +kernel
theorem dX10_count_103 : decode cX10_count 103 = .ok (.lreturn, 1) := by decide +kernel
theorem dX10_count_104 : decode cX10_count 104 = .ok (.ldc2_w 66, 3) := by decide +kernel
theorem dX10_count_107 : decode cX10_count 107 = .ok (.lreturn, 1) := by decide +kernel
theorem dX10_status_0 : decode cX10_status 0 = .ok (.aload_n 0, 1) := by decide +kernel
theorem dX10_status_1 : decode cX10_status 1 = .ok (.getfield 251, 3) := by decide +kernel
theorem dX10_status_4 : decode cX10_status 4 = .ok (.ireturn, 1) := by decide +kernel
theorem dX10_found_0 : decode cX10_found 0 = .ok (.aload_n 0, 1) := by decide +kernel
theorem dX10_found_1 : decode cX10_found 1 = .ok (.iload_n 1, 1) := by decide +kernel
theorem dX10_found_2 : decode cX10_found 2 = .ok (.putfield 251, 3) := by decide +kernel
theorem dX10_found_5 : decode cX10_found 5 = .ok (.ldc2_w 254, 3) := by decide +kernel
theorem dX10_found_8 : decode cX10_found 8 = .ok (.iload_n 1, 1) := by decide +kernel
theorem dX10_found_9 : decode cX10_found 9 = .ok (.i2l, 1) := by decide +kernel
theorem dX10_found_10 : decode cX10_found 10 = .ok (.lsub, 1) := by decide +kernel
theorem dX10_found_11 : decode cX10_found 11 = .ok (.lreturn, 1) := by decide +kernel
theorem dX10_fine_0 : decode cX10_fine 0 = .ok (.aload_n 0, 1) := by decide +kernel
theorem dX10_fine_1 : decode cX10_fine 1 = .ok (.iconst 0, 1) := by decide +kernel
theorem dX10_fine_2 : decode cX10_fine 2 = .ok (.putfield 251, 3) := by decide +kernel
theorem dX10_fine_5 : decode cX10_fine 5 = .ok (.lload_n 1, 1) := by decide +kernel
theorem dX10_fine_6 : decode cX10_fine 6 = .ok (.lreturn, 1) := by decide +kernel
theorem dX10_rowsThere_0 : decode cX10_rowsThere 0 = .ok (.iconst 0, 1) := by decide +kernel
theorem dX10_rowsThere_1 : decode cX10_rowsThere 1 = .ok (.istore_n 1, 1) := by decide +kernel
theorem dX10_rowsThere_2 : decode cX10_rowsThere 2 = .ok (.iconst 0, 1) := by decide +kernel
theorem dX10_rowsThere_3 : decode cX10_rowsThere 3 = .ok (.istore_n 2, 1) := by decide +kernel
theorem dX10_rowsThere_4 : decode cX10_rowsThere 4 = .ok (.iload_n 2, 1) := by decide +kernel
theorem dX10_rowsThere_5 : decode cX10_rowsThere 5 = .ok (.bipush 8, 2) := by decide +kernel
theorem dX10_rowsThere_7 : decode cX10_rowsThere 7 = .ok (.if_icmp .ge 22, 3) := by decide +kernel
theorem dX10_rowsThere_10 : decode cX10_rowsThere 10 = .ok (.aload_n 0, 1) := by decide +kernel
theorem dX10_rowsThere_11 : decode cX10_rowsThere 11 = .ok (.getfield 18, 3) := by decide +kernel
theorem dX10_rowsThere_14 : decode cX10_rowsThere 14 = .ok (.iload_n 2, 1) := by decide +kernel
theorem dX10_rowsThere_15 : decode cX10_rowsThere 15 = .ok (.iaload, 1) := by decide +kernel
theorem dX10_rowsThere_16 : decode cX10_rowsThere 16 = .ok (.iconst (-1), 1) := by decide +kernel
theorem dX10_rowsThere_17 : decode cX10_rowsThere 17 = .ok (.if_icmp .eq 6, 3) := by decide +kernel
theorem dX10_rowsThere_20 : decode cX10_rowsThere 20 = .ok (.iinc 1 1, 3) := by decide +kernel
theorem dX10_rowsThere_23 : decode cX10_rowsThere 23 = .ok (.iinc 2 1, 3) := by decide +kernel
theorem dX10_rowsThere_26 : decode cX10_rowsThere 26 = .ok (.goto (-22), 3) := by decide +kernel
theorem dX10_rowsThere_29 : decode cX10_rowsThere 29 = .ok (.iload_n 1, 1) := by decide +kernel
theorem dX10_rowsThere_30 : decode cX10_rowsThere 30 = .ok (.ireturn, 1) := by decide +kernel
set_option maxRecDepth 20000 in
theorem ggX10_findingOfSpan_X10_isSpan : GoodIn wsX10_findingOfSpan wsX10_isSpan := goodIn_r _ [5] (by decide +kernel) (by decide +kernel)
set_option maxRecDepth 20000 in
theorem gX10_findingOfSpan_X10_isSpan : GoodIn wsX10_findingOfSpan (va_wsS RX10 84 yX10_isSpan wsX10_isSpan) := goodIn_app (goodIn_of _ (by decide +kernel)) ggX10_findingOfSpan_X10_isSpan
theorem dX10_findingOfSpan_0 : decode cX10_findingOfSpan 0 = .ok (.aload_n 0, 1) := by decide +kernel
theorem dX10_findingOfSpan_1 : decode cX10_findingOfSpan 1 = .ok (.getfield 18, 3) := by decide +kernel
theorem dX10_findingOfSpan_4 : decode cX10_findingOfSpan 4 = .ok (.iload_n 1, 1) := by decide +kernel
theorem dX10_findingOfSpan_5 : decode cX10_findingOfSpan 5 = .ok (.iaload, 1) := by decide +kernel
theorem dX10_findingOfSpan_6 : decode cX10_findingOfSpan 6 = .ok (.iconst (-1), 1) := by decide +kernel
theorem dX10_findingOfSpan_7 : decode cX10_findingOfSpan 7 = .ok (.if_icmp .ne 5, 3) := by decide +kernel
theorem dX10_findingOfSpan_10 : decode cX10_findingOfSpan 10 = .ok (.iconst 1, 1) := by decide +kernel
theorem dX10_findingOfSpan_11 : decode cX10_findingOfSpan 11 = .ok (.ireturn, 1) := by decide +kernel
theorem dX10_findingOfSpan_12 : decode cX10_findingOfSpan 12 = .ok (.aload_n 0, 1) := by decide +kernel
theorem dX10_findingOfSpan_13 : decode cX10_findingOfSpan 13 = .ok (.getfield 18, 3) := by decide +kernel
theorem dX10_findingOfSpan_16 : decode cX10_findingOfSpan 16 = .ok (.iload_n 1, 1) := by decide +kernel
theorem dX10_findingOfSpan_17 : decode cX10_findingOfSpan 17 = .ok (.iaload, 1) := by decide +kernel
theorem dX10_findingOfSpan_18 : decode cX10_findingOfSpan 18 = .ok (.iload_n 2, 1) := by decide +kernel
theorem dX10_findingOfSpan_19 : decode cX10_findingOfSpan 19 = .ok (.iload_n 3, 1) := by decide +kernel
theorem dX10_findingOfSpan_20 : decode cX10_findingOfSpan 20 = .ok (.invokestatic 84, 3) := by decide +kernel
theorem dX10_findingOfSpan_23 : decode cX10_findingOfSpan 23 = .ok (.ifCond .eq 7, 3) := by decide +kernel
theorem dX10_findingOfSpan_26 : decode cX10_findingOfSpan 26 = .ok (.iconst 0, 1) := by decide +kernel
theorem dX10_findingOfSpan_27 : decode cX10_findingOfSpan 27 = .ok (.goto 4, 3) := by decide +kernel
theorem dX10_findingOfSpan_30 : decode cX10_findingOfSpan 30 = .ok (.iconst 2, 1) := by decide +kernel
theorem dX10_findingOfSpan_31 : decode cX10_findingOfSpan 31 = .ok (.ireturn, 1) := by decide +kernel
theorem dX10_isSpan_0 : decode cX10_isSpan 0 = .ok (.iload_n 1, 1) := by decide +kernel
theorem dX10_isSpan_1 : decode cX10_isSpan 1 = .ok (.ifCond .lt 23, 3) := by decide +kernel
theorem dX10_isSpan_4 : decode cX10_isSpan 4 = .ok (.iload_n 2, 1) := by decide +kernel
theorem dX10_isSpan_5 : decode cX10_isSpan 5 = .ok (.ifCond .lt 19, 3) := by decide +kernel
theorem dX10_isSpan_8 : decode cX10_isSpan 8 = .ok (.iload_n 2, 1) := by decide +kernel
theorem dX10_isSpan_9 : decode cX10_isSpan 9 = .ok (.iload_n 0, 1) := by decide +kernel
theorem dX10_isSpan_10 : decode cX10_isSpan 10 = .ok (.if_icmp .gt 14, 3) := by decide +kernel
theorem dX10_isSpan_13 : decode cX10_isSpan 13 = .ok (.iload_n 1, 1) := by decide +kernel
theorem dX10_isSpan_14 : decode cX10_isSpan 14 = .ok (.iload_n 0, 1) := by decide +kernel
theorem dX10_isSpan_15 : decode cX10_isSpan 15 = .ok (.iload_n 2, 1) := by decide +kernel
theorem dX10_isSpan_16 : decode cX10_isSpan 16 = .ok (.isub, 1) := by decide +kernel
theorem dX10_isSpan_17 : decode cX10_isSpan 17 = .ok (.if_icmp .gt 7, 3) := by decide +kernel
theorem dX10_isSpan_20 : decode cX10_isSpan 20 = .ok (.iconst 1, 1) := by decide +kernel
theorem dX10_isSpan_21 : decode cX10_isSpan 21 = .ok (.goto 4, 3) := by decide +kernel
theorem dX10_isSpan_24 : decode cX10_isSpan 24 = .ok (.iconst 0, 1) := by decide +kernel
theorem dX10_isSpan_25 : decode cX10_isSpan 25 = .ok (.ireturn, 1) := by decide +kernel
theorem dX10_lowestBits_0 : decode cX10_lowestBits 0 = .ok (.iload_n 0, 1) := by decide +kernel
theorem dX10_lowestBits_1 : decode cX10_lowestBits 1 = .ok (.ifCond .ne 6, 3) := by decide +kernel
theorem dX10_lowestBits_4 : decode cX10_lowestBits 4 = .ok (.iload_n 1, 1) := by decide +kernel
theorem dX10_lowestBits_5 : decode cX10_lowestBits 5 = .ok (.i2b, 1) := by decide +kernel
theorem dX10_lowestBits_6 : decode cX10_lowestBits 6 = .ok (.ireturn, 1) := by decide +kernel
theorem dX10_lowestBits_7 : decode cX10_lowestBits 7 = .ok (.iload_n 0, 1) := by decide +kernel
theorem dX10_lowestBits_8 : decode cX10_lowestBits 8 = .ok (.iconst 1, 1) := by decide +kernel
theorem dX10_lowestBits_9 : decode cX10_lowestBits 9 = .ok (.if_icmp .ne 8, 3) := by decide +kernel
theorem dX10_lowestBits_12 : decode cX10_lowestBits 12 = .ok (.iload_n 1, 1) := by decide +kernel
theorem dX10_lowestBits_13 : decode cX10_lowestBits 13 = .ok (.i2s, 1) := by decide +kernel
theorem dX10_lowestBits_14 : decode cX10_lowestBits 14 = .ok (.goto 4, 3) := by decide +kernel
theorem dX10_lowestBits_17 : decode cX10_lowestBits 17 = .ok (.iload_n 1, 1) := by decide +kernel
theorem dX10_lowestBits_18 : decode cX10_lowestBits 18 = .ok (.ireturn, 1) := by decide +kernel
theorem dX10_isRow_0 : decode cX10_isRow 0 = .ok (.iload_n 0, 1) := by decide +kernel
theorem dX10_isRow_1 : decode cX10_isRow 1 = .ok (.ifCond .lt 13, 3) := by decide +kernel
theorem dX10_isRow_4 : decode cX10_isRow 4 = .ok (.iload_n 0, 1) := by decide +kernel
theorem dX10_isRow_5 : decode cX10_isRow 5 = .ok (.bipush 8, 2) := by decide +kernel
theorem dX10_isRow_7 : decode cX10_isRow 7 = .ok (.if_icmp .ge 7, 3) := by decide +kernel
theorem dX10_isRow_10 : decode cX10_isRow 10 = .ok (.iconst 1, 1) := by decide +kernel
theorem dX10_isRow_11 : decode cX10_isRow 11 = .ok (.goto 4, 3) := by decide +kernel
theorem dX10_isRow_14 : decode cX10_isRow 14 = .ok (.iconst 0, 1) := by decide +kernel
theorem dX10_isRow_15 : decode cX10_isRow 15 = .ok (.ireturn, 1) := by decide +kernel
theorem dX10_isLaw_0 : decode cX10_isLaw 0 = .ok (.iload_n 0, 1) := by decide +kernel
theorem dX10_isLaw_1 : decode cX10_isLaw 1 = .ok (.ifCond .lt 12, 3) := by decide +kernel
theorem dX10_isLaw_4 : decode cX10_isLaw 4 = .ok (.iload_n 0, 1) := by decide +kernel
theorem dX10_isLaw_5 : decode cX10_isLaw 5 = .ok (.iconst 2, 1) := by decide +kernel
theorem dX10_isLaw_6 : decode cX10_isLaw 6 = .ok (.if_icmp .gt 7, 3) := by decide +kernel
theorem dX10_isLaw_9 : decode cX10_isLaw 9 = .ok (.iconst 1, 1) := by decide +kernel
theorem dX10_isLaw_10 : decode cX10_isLaw 10 = .ok (.goto 4, 3) := by decide +kernel
theorem dX10_isLaw_13 : decode cX10_isLaw 13 = .ok (.iconst 0, 1) := by decide +kernel
theorem dX10_isLaw_14 : decode cX10_isLaw 14 = .ok (.ireturn, 1) := by decide +kernel
theorem dX10_isNights_0 : decode cX10_isNights 0 = .ok (.iload_n 0, 1) := by decide +kernel
theorem dX10_isNights_1 : decode cX10_isNights 1 = .ok (.iconst 1, 1) := by decide +kernel
theorem dX10_isNights_2 : decode cX10_isNights 2 = .ok (.if_icmp .lt 13, 3) := by decide +kernel
theorem dX10_isNights_5 : decode cX10_isNights 5 = .ok (.iload_n 0, 1) := by decide +kernel
theorem dX10_isNights_6 : decode cX10_isNights 6 = .ok (.bipush 8, 2) := by decide +kernel
theorem dX10_isNights_8 : decode cX10_isNights 8 = .ok (.if_icmp .gt 7, 3) := by decide +kernel
theorem dX10_isNights_11 : decode cX10_isNights 11 = .ok (.iconst 1, 1) := by decide +kernel
theorem dX10_isNights_12 : decode cX10_isNights 12 = .ok (.goto 4, 3) := by decide +kernel
theorem dX10_isNights_15 : decode cX10_isNights 15 = .ok (.iconst 0, 1) := by decide +kernel
theorem dX10_isNights_16 : decode cX10_isNights 16 = .ok (.ireturn, 1) := by decide +kernel
theorem dX10_isZeroOrOne_0 : decode cX10_isZeroOrOne 0 = .ok (.iload_n 0, 1) := by decide +kernel
theorem dX10_isZeroOrOne_1 : decode cX10_isZeroOrOne 1 = .ok (.ifCond .eq 8, 3) := by decide +kernel
theorem dX10_isZeroOrOne_4 : decode cX10_isZeroOrOne 4 = .ok (.iload_n 0, 1) := by decide +kernel
theorem dX10_isZeroOrOne_5 : decode cX10_isZeroOrOne 5 = .ok (.iconst 1, 1) := by decide +kernel
theorem dX10_isZeroOrOne_6 : decode cX10_isZeroOrOne 6 = .ok (.if_icmp .ne 7, 3) := by decide +kernel
theorem dX10_isZeroOrOne_9 : decode cX10_isZeroOrOne 9 = .ok (.iconst 1, 1) := by decide +kernel
theorem dX10_isZeroOrOne_10 : decode cX10_isZeroOrOne 10 = .ok (.goto 4, 3) := by decide +kernel
theorem dX10_isZeroOrOne_13 : decode cX10_isZeroOrOne 13 = .ok (.iconst 0, 1) := by decide +kernel
theorem dX10_isZeroOrOne_14 : decode cX10_isZeroOrOne 14 = .ok (.ireturn, 1) := by decide +kernel
theorem dX10_isWood_0 : decode cX10_isWood 0 = .ok (.iload_n 0, 1) := by decide +kernel
theorem dX10_isWood_1 : decode cX10_isWood 1 = .ok (.ifCond .lt 14, 3) := by decide +kernel
theorem dX10_isWood_4 : decode cX10_isWood 4 = .ok (.iload_n 0, 1) := by decide +kernel
theorem dX10_isWood_5 : decode cX10_isWood 5 = .ok (.sipush 999, 3) := by decide +kernel
theorem dX10_isWood_8 : decode cX10_isWood 8 = .ok (.if_icmp .gt 7, 3) := by decide +kernel
theorem dX10_isWood_11 : decode cX10_isWood 11 = .ok (.iconst 1, 1) := by decide +kernel
theorem dX10_isWood_12 : decode cX10_isWood 12 = .ok (.goto 4, 3) := by decide +kernel
theorem dX10_isWood_15 : decode cX10_isWood 15 = .ok (.iconst 0, 1) := by decide +kernel
theorem dX10_isWood_16 : decode cX10_isWood 16 = .ok (.ireturn, 1) := by decide +kernel
set_option maxRecDepth 20000 in
theorem ggX10_areNightsTold_X10_isWood : GoodIn wsX10_areNightsTold wsX10_isWood := goodIn_r _ [4] (by decide +kernel) (by decide +kernel)
set_option maxRecDepth 20000 in
theorem gX10_areNightsTold_X10_isWood : GoodIn wsX10_areNightsTold (va_wsS RX10 210 yX10_isWood wsX10_isWood) := goodIn_app (goodIn_of _ (by decide +kernel)) ggX10_areNightsTold_X10_isWood
theorem dX10_areNightsTold_0 : decode cX10_areNightsTold 0 = .ok (.iconst 0, 1) := by decide +kernel
theorem dX10_areNightsTold_1 : decode cX10_areNightsTold 1 = .ok (.istore_n 2, 1) := by decide +kernel
theorem dX10_areNightsTold_2 : decode cX10_areNightsTold 2 = .ok (.iload_n 2, 1) := by decide +kernel
theorem dX10_areNightsTold_3 : decode cX10_areNightsTold 3 = .ok (.iload_n 1, 1) := by decide +kernel
theorem dX10_areNightsTold_4 : decode cX10_areNightsTold 4 = .ok (.if_icmp .ge 54, 3) := by decide +kernel
theorem dX10_areNightsTold_7 : decode cX10_areNightsTold 7 = .ok (.aload_n 0, 1) := by decide +kernel
theorem dX10_areNightsTold_8 : decode cX10_areNightsTold 8 = .ok (.iconst 3, 1) := by decide +kernel
theorem dX10_areNightsTold_9 : decode cX10_areNightsTold 9 = .ok (.iload_n 2, 1) := by decide +kernel
theorem dX10_areNightsTold_10 : decode cX10_areNightsTold 10 = .ok (.imul, 1) := by decide +kernel
theorem dX10_areNightsTold_11 : decode cX10_areNightsTold 11 = .ok (.iaload, 1) := by decide +kernel
theorem dX10_areNightsTold_12 : decode cX10_areNightsTold 12 = .ok (.istore_n 3, 1) := by decide +kernel
theorem dX10_areNightsTold_13 : decode cX10_areNightsTold 13 = .ok (.iload_n 3, 1) := by decide +kernel
theorem dX10_areNightsTold_14 : decode cX10_areNightsTold 14 = .ok (.iconst 1, 1) := by decide +kernel
theorem dX10_areNightsTold_15 : decode cX10_areNightsTold 15 = .ok (.if_icmp .lt 35, 3) := by decide +kernel
theorem dX10_areNightsTold_18 : decode cX10_areNightsTold 18 = .ok (.iload_n 3, 1) := by decide +kernel
theorem dX10_areNightsTold_19 : decode cX10_areNightsTold 19 = .ok (.bipush 9, 2) := by decide +kernel
theorem dX10_areNightsTold_21 : decode cX10_areNightsTold 21 = .ok (.if_icmp .gt 29, 3) := by decide +kernel
theorem dX10_areNightsTold_24 : decode cX10_areNightsTold 24 = .ok (.aload_n 0, 1) := by decide +kernel
theorem dX10_areNightsTold_25 : decode cX10_areNightsTold 25 = .ok (.iconst 3, 1) := by decide +kernel
theorem dX10_areNightsTold_26 : decode cX10_areNightsTold 26 = .ok (.iload_n 2, 1) := by decide +kernel
theorem dX10_areNightsTold_27 : decode cX10_areNightsTold 27 = .ok (.imul, 1) := by decide +kernel
theorem dX10_areNightsTold_28 : decode cX10_areNightsTold 28 = .ok (.iconst 1, 1) := by decide +kernel
theorem dX10_areNightsTold_29 : decode cX10_areNightsTold 29 = .ok (.iadd, 1) := by decide +kernel
theorem dX10_areNightsTold_30 : decode cX10_areNightsTold 30 = .ok (.iaload, 1) := by decide +kernel
theorem dX10_areNightsTold_31 : decode cX10_areNightsTold 31 = .ok (.invokestatic 210, 3) := by decide +kernel
theorem dX10_areNightsTold_34 : decode cX10_areNightsTold 34 = .ok (.ifCond .eq 16, 3) := by decide +kernel
theorem dX10_areNightsTold_37 : decode cX10_areNightsTold 37 = .ok (.aload_n 0, 1) := by decide +kernel
theorem dX10_areNightsTold_38 : decode cX10_areNightsTold 38 = .ok (.iconst 3, 1) := by decide +kernel
theorem dX10_areNightsTold_39 : decode cX10_areNightsTold 39 = .ok (.iload_n 2, 1) := by decide +kernel
theorem dX10_areNightsTold_40 : decode cX10_areNightsTold 40 = .ok (.imul, 1) := by decide +kernel
theorem dX10_areNightsTold_41 : decode cX10_areNightsTold 41 = .ok (.iconst 2, 1) := by decide +kernel
theorem dX10_areNightsTold_42 : decode cX10_areNightsTold 42 = .ok (.iadd, 1) := by decide +kernel
theorem dX10_areNightsTold_43 : decode cX10_areNightsTold 43 = .ok (.iaload, 1) := by decide +kernel
theorem dX10_areNightsTold_44 : decode cX10_areNightsTold 44 = .ok (.invokestatic 210, 3) := by decide +kernel
theorem dX10_areNightsTold_47 : decode cX10_areNightsTold 47 = .ok (.ifCond .ne 5, 3) := by decide +kernel
theorem dX10_areNightsTold_50 : decode cX10_areNightsTold 50 = .ok (.iconst 0, 1) := by decide +kernel
theorem dX10_areNightsTold_51 : decode cX10_areNightsTold 51 = .ok (.ireturn, 1) := by decide +kernel
theorem dX10_areNightsTold_52 : decode cX10_areNightsTold 52 = .ok (.iinc 2 1, 3) := by decide +kernel
theorem dX10_areNightsTold_55 : decode cX10_areNightsTold 55 = .ok (.goto (-53), 3) := by decide +kernel
theorem dX10_areNightsTold_58 : decode cX10_areNightsTold 58 = .ok (.iconst 1, 1) := by decide +kernel
theorem dX10_areNightsTold_59 : decode cX10_areNightsTold 59 = .ok (.ireturn, 1) := by decide +kernel
theorem dX10_greatestDivisor_0 : decode cX10_greatestDivisor 0 = .ok (.iconst 0, 1) := by decide +kernel
theorem dX10_greatestDivisor_1 : decode cX10_greatestDivisor 1 = .ok (.istore 4, 2) := by decide +kernel
theorem dX10_greatestDivisor_3 : decode cX10_greatestDivisor 3 = .ok (.iload 4, 2) := by decide +kernel
theorem dX10_greatestDivisor_5 : decode cX10_greatestDivisor 5 = .ok (.sipush 1000, 3) := by decide +kernel
theorem dX10_greatestDivisor_8 : decode cX10_greatestDivisor 8 = .ok (.if_icmp .ge 25, 3) := by decide +kernel
theorem dX10_greatestDivisor_11 : decode cX10_greatestDivisor 11 = .ok (.lload_n 2, 1) := by decide +kernel
theorem dX10_greatestDivisor_12 : decode cX10_greatestDivisor 12 = .ok (.lconst 0, 1) := by decide +kernel
theorem dX10_greatestDivisor_13 : decode cX10_greatestDivisor 13 = .ok (.lcmp, 1) := by decide +kernel
theorem dX10_greatestDivisor_14 : decode cX10_greatestDivisor 14 = .ok (.ifCond .eq 19, 3) := by decide +kernel
theorem dX10_greatestDivisor_17 : decode cX10_greatestDivisor 17 = .ok (.lload_n 0, 1) := by decide +kernel
theorem dX10_greatestDivisor_18 : decode cX10_greatestDivisor 18 = .ok (.lload_n 2, 1) := by decide +kernel
theorem dX10_greatestDivisor_19 : decode cX10_greatestDivisor 19 = .ok (.lrem, 1) := by decide +kernel
theorem dX10_greatestDivisor_20 : decode cX10_greatestDivisor 20 = .ok (.lstore 5, 2) := by decide +kernel
theorem dX10_greatestDivisor_22 : decode cX10_greatestDivisor 22 = .ok (.lload_n 2, 1) := by decide +kernel
theorem dX10_greatestDivisor_23 : decode cX10_greatestDivisor 23 = .ok (.lstore_n 0, 1) := by decide +kernel
theorem dX10_greatestDivisor_24 : decode cX10_greatestDivisor 24 = .ok (.lload 5, 2) := by decide +kernel
theorem dX10_greatestDivisor_26 : decode cX10_greatestDivisor 26 = .ok (.lstore_n 2, 1) := by decide +kernel
theorem dX10_greatestDivisor_27 : decode cX10_greatestDivisor 27 = .ok (.iinc 4 1, 3) := by decide +kernel
theorem dX10_greatestDivisor_30 : decode cX10_greatestDivisor 30 = .ok (.goto (-27), 3) := by decide +kernel
theorem dX10_greatestDivisor_33 : decode cX10_greatestDivisor 33 = .ok (.lload_n 0, 1) := by decide +kernel
theorem dX10_greatestDivisor_34 : decode cX10_greatestDivisor 34 = .ok (.lreturn, 1) := by decide +kernel
theorem dX10_isOfKind_0 : decode cX10_isOfKind 0 = .ok (.iload_n 1, 1) := by decide +kernel
theorem dX10_isOfKind_1 : decode cX10_isOfKind 1 = .ok (.tableswitch 66 0 5 #[39, 41, 46, 51, 56, 61], 39) := by decide +kernel
theorem dX10_isOfKind_40 : decode cX10_isOfKind 40 = .ok (.iconst 1, 1) := by decide +kernel
theorem dX10_isOfKind_41 : decode cX10_isOfKind 41 = .ok (.ireturn, 1) := by decide +kernel
theorem dX10_isOfKind_42 : decode cX10_isOfKind 42 = .ok (.aload_n 0, 1) := by decide +kernel
theorem dX10_isOfKind_43 : decode cX10_isOfKind 43 = .ok (.instanceof 256, 3) := by decide +kernel
theorem dX10_isOfKind_46 : decode cX10_isOfKind 46 = .ok (.ireturn, 1) := by decide +kernel
theorem dX10_isOfKind_47 : decode cX10_isOfKind 47 = .ok (.aload_n 0, 1) := by decide +kernel
theorem dX10_isOfKind_48 : decode cX10_isOfKind 48 = .ok (.instanceof 258, 3) := by decide +kernel
theorem dX10_isOfKind_51 : decode cX10_isOfKind 51 = .ok (.ireturn, 1) := by decide +kernel
theorem dX10_isOfKind_52 : decode cX10_isOfKind 52 = .ok (.aload_n 0, 1) := by decide +kernel
theorem dX10_isOfKind_53 : decode cX10_isOfKind 53 = .ok (.instanceof 260, 3) := by decide +kernel
theorem dX10_isOfKind_56 : decode cX10_isOfKind 56 = .ok (.ireturn, 1) := by decide +kernel
theorem dX10_isOfKind_57 : decode cX10_isOfKind 57 = .ok (.aload_n 0, 1) := by decide +kernel
theorem dX10_isOfKind_58 : decode cX10_isOfKind 58 = .ok (.instanceof 262, 3) := by decide +kernel
theorem dX10_isOfKind_61 : decode cX10_isOfKind 61 = .ok (.ireturn, 1) := by decide +kernel
theorem dX10_isOfKind_62 : decode cX10_isOfKind 62 = .ok (.aload_n 0, 1) := by decide +kernel
theorem dX10_isOfKind_63 : decode cX10_isOfKind 63 = .ok (.instanceof 264, 3) := by decide +kernel
theorem dX10_isOfKind_66 : decode cX10_isOfKind 66 = .ok (.ireturn, 1) := by decide +kernel
theorem dX10_isOfKind_67 : decode cX10_isOfKind 67 = .ok (.iconst 0, 1) := by decide +kernel
theorem dX10_isOfKind_68 : decode cX10_isOfKind 68 = .ok (.ireturn, 1) := by decide +kernel
