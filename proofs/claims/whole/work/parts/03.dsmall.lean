theorem dX0_init_0 : decode cX0_init 0 = .ok (.aload_n 0, 1) := by decide +kernel
theorem dX0_init_1 : decode cX0_init 1 = .ok (.invokespecial 3, 3) := by decide +kernel
theorem dX0_init_4 : decode cX0_init 4 = .ok (.aload_n 0, 1) := by decide +kernel
theorem dX0_init_5 : decode cX0_init 5 = .ok (.bipush 9, 2) := by decide +kernel
theorem dX0_init_7 : decode cX0_init 7 = .ok (.sipush 649, 3) := by decide +kernel
theorem dX0_init_10 : decode cX0_init 10 = .ok (.multianewarray 11 2, 4) := by decide +kernel
theorem dX0_init_14 : decode cX0_init 14 = .ok (.putfield 13, 3) := by decide +kernel
theorem dX0_init_17 : decode cX0_init 17 = .ok (.aload_n 0, 1) := by decide +kernel
theorem dX0_init_18 : decode cX0_init 18 = .ok (.bipush 6, 2) := by decide +kernel
theorem dX0_init_20 : decode cX0_init 20 = .ok (.newarray .int, 2) := by decide +kernel
theorem dX0_init_22 : decode cX0_init 22 = .ok (.putfield 16, 3) := by decide +kernel
theorem dX0_init_25 : decode cX0_init 25 = .ok (.aload_n 0, 1) := by decide +kernel
theorem dX0_init_26 : decode cX0_init 26 = .ok (.bipush 6, 2) := by decide +kernel
theorem dX0_init_28 : decode cX0_init 28 = .ok (.newarray .int, 2) := by decide +kernel
theorem dX0_init_30 : decode cX0_init 30 = .ok (.putfield 20, 3) := by decide +kernel
theorem dX0_init_33 : decode cX0_init 33 = .ok (.aload_n 0, 1) := by decide +kernel
theorem dX0_init_34 : decode cX0_init 34 = .ok (.bipush 6, 2) := by decide +kernel
theorem dX0_init_36 : decode cX0_init 36 = .ok (.newarray .int, 2) := by decide +kernel
theorem dX0_init_38 : decode cX0_init 38 = .ok (.putfield 23, 3) := by decide +kernel
theorem dX0_init_41 : decode cX0_init 41 = .ok (.aload_n 0, 1) := by decide +kernel
theorem dX0_init_42 : decode cX0_init 42 = .ok (.sipush 649, 3) := by decide +kernel
theorem dX0_init_45 : decode cX0_init 45 = .ok (.newarray .long, 2) := by decide +kernel
theorem dX0_init_47 : decode cX0_init 47 = .ok (.putfield 26, 3) := by decide +kernel
theorem dX0_init_50 : decode cX0_init 50 = .ok (.aload_n 0, 1) := by decide +kernel
theorem dX0_init_51 : decode cX0_init 51 = .ok (.sipush 649, 3) := by decide +kernel
theorem dX0_init_54 : decode cX0_init 54 = .ok (.newarray .long, 2) := by decide +kernel
theorem dX0_init_56 : decode cX0_init 56 = .ok (.putfield 30, 3) := by decide +kernel
theorem dX0_init_59 : decode cX0_init 59 = .ok (.return_, 1) := by decide +kernel
set_option maxRecDepth 20000 in
theorem ggX0_foretell_X0_takeChances : GoodIn wsX0_foretell wsX0_takeChances := goodIn_r _ [7, 8, 9, 10, 11, 12, 13, 14, 15, 16, 17, 18, 19, 20, 2, 21, 22, 23, 24, 25, 26, 27, 28, 54, 55, 56, 57, 58, 59, 60, 61, 62, 63, 64, 65, 66, 67, 68, 69, 44, 45, 46, 47, 48, 49, 50, 51, 52, 53] (by decide +kernel) (by decide +kernel)
set_option maxRecDepth 20000 in
theorem gX0_foretell_X0_takeChances : GoodIn wsX0_foretell (wsV RX0 33 RX0 yX0_takeChances wsX0_takeChances) := goodIn_app (goodIn_of _ (by decide +kernel)) ggX0_foretell_X0_takeChances
set_option maxRecDepth 20000 in
theorem ggX0_foretell_J7_fill_d0a16 : GoodIn wsX0_foretell wsJ7_fill_d0a16 := goodIn_r _ [32] (by decide +kernel) (by decide +kernel)
set_option maxRecDepth 20000 in
theorem gX0_foretell_J7_fill_d0a16 : GoodIn wsX0_foretell (va_wsS RX0 37 yJ7_fill_d0a16 wsJ7_fill_d0a16) := goodIn_app (goodIn_of _ (by decide +kernel)) ggX0_foretell_J7_fill_d0a16
set_option maxRecDepth 20000 in
theorem ggX0_foretell_X0_waysFrom : GoodIn wsX0_foretell wsX0_waysFrom := goodIn_r _ [36, 9, 12, 15, 37, 38, 39, 6, 40, 2, 14, 41, 42, 19, 43, 44, 45, 46, 47, 48, 49, 50, 51, 52, 53] (by decide +kernel) (by decide +kernel)
set_option maxRecDepth 20000 in
theorem gX0_foretell_X0_waysFrom : GoodIn wsX0_foretell (wsV RX0 47 RX0 yX0_waysFrom wsX0_waysFrom) := goodIn_app (goodIn_of _ (by decide +kernel)) ggX0_foretell_X0_waysFrom
theorem dX0_foretell_0 : decode cX0_foretell 0 = .ok (.aload_n 0, 1) := by decide +kernel
theorem dX0_foretell_1 : decode cX0_foretell 1 = .ok (.aload_n 1, 1) := by decide +kernel
theorem dX0_foretell_2 : decode cX0_foretell 2 = .ok (.iload_n 2, 1) := by decide +kernel
theorem dX0_foretell_3 : decode cX0_foretell 3 = .ok (.iload_n 3, 1) := by decide +kernel
theorem dX0_foretell_4 : decode cX0_foretell 4 = .ok (.invokevirtual 33, 3) := by decide +kernel
theorem dX0_foretell_7 : decode cX0_foretell 7 = .ok (.aload_n 0, 1) := by decide +kernel
theorem dX0_foretell_8 : decode cX0_foretell 8 = .ok (.getfield 13, 3) := by decide +kernel
theorem dX0_foretell_11 : decode cX0_foretell 11 = .ok (.iconst 0, 1) := by decide +kernel
theorem dX0_foretell_12 : decode cX0_foretell 12 = .ok (.aaload, 1) := by decide +kernel
theorem dX0_foretell_13 : decode cX0_foretell 13 = .ok (.lconst 1, 1) := by decide +kernel
theorem dX0_foretell_14 : decode cX0_foretell 14 = .ok (.invokestatic 37, 3) := by decide +kernel
theorem dX0_foretell_17 : decode cX0_foretell 17 = .ok (.iconst 1, 1) := by decide +kernel
theorem dX0_foretell_18 : decode cX0_foretell 18 = .ok (.istore 4, 2) := by decide +kernel
theorem dX0_foretell_20 : decode cX0_foretell 20 = .ok (.iload 4, 2) := by decide +kernel
theorem dX0_foretell_22 : decode cX0_foretell 22 = .ok (.iload_n 3, 1) := by decide +kernel
theorem dX0_foretell_23 : decode cX0_foretell 23 = .ok (.if_icmp .gt 52, 3) := by decide +kernel
theorem dX0_foretell_26 : decode cX0_foretell 26 = .ok (.iconst 0, 1) := by decide +kernel
theorem dX0_foretell_27 : decode cX0_foretell 27 = .ok (.istore 5, 2) := by decide +kernel
theorem dX0_foretell_29 : decode cX0_foretell 29 = .ok (.iload 5, 2) := by decide +kernel
theorem dX0_foretell_31 : decode cX0_foretell 31 = .ok (.aload_n 0, 1) := by decide +kernel
theorem dX0_foretell_32 : decode cX0_foretell 32 = .ok (.getfield 43, 3) := by decide +kernel
theorem dX0_foretell_35 : decode cX0_foretell 35 = .ok (.if_icmp .gt 34, 3) := by decide +kernel
theorem dX0_foretell_38 : decode cX0_foretell 38 = .ok (.aload_n 0, 1) := by decide +kernel
theorem dX0_foretell_39 : decode cX0_foretell 39 = .ok (.getfield 13, 3) := by decide +kernel
theorem dX0_foretell_42 : decode cX0_foretell 42 = .ok (.iload 4, 2) := by decide +kernel
theorem dX0_foretell_44 : decode cX0_foretell 44 = .ok (.aaload, 1) := by decide +kernel
theorem dX0_foretell_45 : decode cX0_foretell 45 = .ok (.iload 5, 2) := by decide +kernel
theorem dX0_foretell_47 : decode cX0_foretell 47 = .ok (.aload_n 0, 1) := by decide +kernel
theorem dX0_foretell_48 : decode cX0_foretell 48 = .ok (.iload 5, 2) := by decide +kernel
theorem dX0_foretell_50 : decode cX0_foretell 50 = .ok (.aload_n 0, 1) := by decide +kernel
theorem dX0_foretell_51 : decode cX0_foretell 51 = .ok (.getfield 13, 3) := by decide +kernel
theorem dX0_foretell_54 : decode cX0_foretell 54 = .ok (.iload 4, 2) := by decide +kernel
theorem dX0_foretell_56 : decode cX0_foretell 56 = .ok (.iconst 1, 1) := by decide +kernel
theorem dX0_foretell_57 : decode cX0_foretell 57 = .ok (.isub, 1) := by decide +kernel
theorem dX0_foretell_58 : decode cX0_foretell 58 = .ok (.aaload, 1) := by decide +kernel
theorem dX0_foretell_59 : decode cX0_foretell 59 = .ok (.invokevirtual 47, 3) := by decide +kernel
theorem dX0_foretell_62 : decode cX0_foretell 62 = .ok (.lastore, 1) := by decide +kernel
theorem dX0_foretell_63 : decode cX0_foretell 63 = .ok (.iinc 5 1, 3) := by decide +kernel
theorem dX0_foretell_66 : decode cX0_foretell 66 = .ok (.goto (-37), 3) := by decide +kernel
theorem dX0_foretell_69 : decode cX0_foretell 69 = .ok (.iinc 4 1, 3) := by decide +kernel
theorem dX0_foretell_72 : decode cX0_foretell 72 = .ok (.goto (-52), 3) := by decide +kernel
theorem dX0_foretell_75 : decode cX0_foretell 75 = .ok (.return_, 1) := by decide +kernel
set_option maxRecDepth 20000 in
theorem ggX0_takeChances_X5_owed : GoodIn wsX0_takeChances wsX5_owed := goodIn_r _ [20, 21, 22, 23, 24, 25, 26, 27, 28, 29, 30, 31, 32, 33, 34, 35, 36, 37, 38] (by decide +kernel) (by decide +kernel)
set_option maxRecDepth 20000 in
theorem gX0_takeChances_X5_owed : GoodIn wsX0_takeChances (wsV RX0 66 RX5 yX5_owed wsX5_owed) := goodIn_app (goodIn_of _ (by decide +kernel)) ggX0_takeChances_X5_owed
theorem dX0_takeChances_0 : decode cX0_takeChances 0 = .ok (.aload_n 0, 1) := by decide +kernel
theorem dX0_takeChances_1 : decode cX0_takeChances 1 = .ok (.aload_n 1, 1) := by decide +kernel
theorem dX0_takeChances_2 : decode cX0_takeChances 2 = .ok (.getfield 51, 3) := by decide +kernel
theorem dX0_takeChances_5 : decode cX0_takeChances 5 = .ok (.putfield 56, 3) := by decide +kernel
theorem dX0_takeChances_8 : decode cX0_takeChances 8 = .ok (.aload_n 0, 1) := by decide +kernel
theorem dX0_takeChances_9 : decode cX0_takeChances 9 = .ok (.iload_n 3, 1) := by decide +kernel
theorem dX0_takeChances_10 : decode cX0_takeChances 10 = .ok (.putfield 57, 3) := by decide +kernel
theorem dX0_takeChances_13 : decode cX0_takeChances 13 = .ok (.iconst 0, 1) := by decide +kernel
theorem dX0_takeChances_14 : decode cX0_takeChances 14 = .ok (.istore 4, 2) := by decide +kernel
theorem dX0_takeChances_16 : decode cX0_takeChances 16 = .ok (.iconst 0, 1) := by decide +kernel
theorem dX0_takeChances_17 : decode cX0_takeChances 17 = .ok (.istore 5, 2) := by decide +kernel
theorem dX0_takeChances_19 : decode cX0_takeChances 19 = .ok (.iconst 0, 1) := by decide +kernel
theorem dX0_takeChances_20 : decode cX0_takeChances 20 = .ok (.istore 6, 2) := by decide +kernel
theorem dX0_takeChances_22 : decode cX0_takeChances 22 = .ok (.iload 6, 2) := by decide +kernel
theorem dX0_takeChances_24 : decode cX0_takeChances 24 = .ok (.aload_n 0, 1) := by decide +kernel
theorem dX0_takeChances_25 : decode cX0_takeChances 25 = .ok (.getfield 56, 3) := by decide +kernel
theorem dX0_takeChances_28 : decode cX0_takeChances 28 = .ok (.if_icmp .ge 95, 3) := by decide +kernel
theorem dX0_takeChances_31 : decode cX0_takeChances 31 = .ok (.aload_n 1, 1) := by decide +kernel
theorem dX0_takeChances_32 : decode cX0_takeChances 32 = .ok (.getfield 60, 3) := by decide +kernel
theorem dX0_takeChances_35 : decode cX0_takeChances 35 = .ok (.iload 6, 2) := by decide +kernel
theorem dX0_takeChances_37 : decode cX0_takeChances 37 = .ok (.iaload, 1) := by decide +kernel
theorem dX0_takeChances_38 : decode cX0_takeChances 38 = .ok (.istore 7, 2) := by decide +kernel
theorem dX0_takeChances_40 : decode cX0_takeChances 40 = .ok (.aload_n 0, 1) := by decide +kernel
theorem dX0_takeChances_41 : decode cX0_takeChances 41 = .ok (.getfield 16, 3) := by decide +kernel
theorem dX0_takeChances_44 : decode cX0_takeChances 44 = .ok (.iload 6, 2) := by decide +kernel
theorem dX0_takeChances_46 : decode cX0_takeChances 46 = .ok (.iload 7, 2) := by decide +kernel
theorem dX0_takeChances_48 : decode cX0_takeChances 48 = .ok (.aload_n 1, 1) := by decide +kernel
theorem dX0_takeChances_49 : decode cX0_takeChances 49 = .ok (.getfield 63, 3) := by decide +kernel
theorem dX0_takeChances_52 : decode cX0_takeChances 52 = .ok (.imul, 1) := by decide +kernel
theorem dX0_takeChances_53 : decode cX0_takeChances 53 = .ok (.iastore, 1) := by decide +kernel
theorem dX0_takeChances_54 : decode cX0_takeChances 54 = .ok (.aload_n 0, 1) := by decide +kernel
theorem dX0_takeChances_55 : decode cX0_takeChances 55 = .ok (.getfield 20, 3) := by decide +kernel
theorem dX0_takeChances_58 : decode cX0_takeChances 58 = .ok (.iload 6, 2) := by decide +kernel
theorem dX0_takeChances_60 : decode cX0_takeChances 60 = .ok (.iload 7, 2) := by decide +kernel
theorem dX0_takeChances_62 : decode cX0_takeChances 62 = .ok (.ifCond .ne 7, 3) := by decide +kernel
theorem dX0_takeChances_65 : decode cX0_takeChances 65 = .ok (.iconst 0, 1) := by decide +kernel
theorem dX0_takeChances_66 : decode cX0_takeChances 66 = .ok (.goto 10, 3) := by decide +kernel
theorem dX0_takeChances_69 : decode cX0_takeChances 69 = .ok (.aload_n 1, 1) := by decide +kernel
theorem dX0_takeChances_70 : decode cX0_takeChances 70 = .ok (.iload_n 2, 1) := by decide +kernel
theorem dX0_takeChances_71 : decode cX0_takeChances 71 = .ok (.iload 7, 2) := by decide +kernel
theorem dX0_takeChances_73 : decode cX0_takeChances 73 = .ok (.invokevirtual 66, 3) := by decide +kernel
theorem dX0_takeChances_76 : decode cX0_takeChances 76 = .ok (.iastore, 1) := by decide +kernel
theorem dX0_takeChances_77 : decode cX0_takeChances 77 = .ok (.aload_n 0, 1) := by decide +kernel
theorem dX0_takeChances_78 : decode cX0_takeChances 78 = .ok (.getfield 23, 3) := by decide +kernel
theorem dX0_takeChances_81 : decode cX0_takeChances 81 = .ok (.iload 6, 2) := by decide +kernel
theorem dX0_takeChances_83 : decode cX0_takeChances 83 = .ok (.aload_n 1, 1) := by decide +kernel
theorem dX0_takeChances_84 : decode cX0_takeChances 84 = .ok (.getfield 70, 3) := by decide +kernel
theorem dX0_takeChances_87 : decode cX0_takeChances 87 = .ok (.iload 6, 2) := by decide +kernel
theorem dX0_takeChances_89 : decode cX0_takeChances 89 = .ok (.iaload, 1) := by decide +kernel
theorem dX0_takeChances_90 : decode cX0_takeChances 90 = .ok (.iastore, 1) := by decide +kernel
theorem dX0_takeChances_91 : decode cX0_takeChances 91 = .ok (.iload 4, 2) := by decide +kernel
theorem dX0_takeChances_93 : decode cX0_takeChances 93 = .ok (.aload_n 0, 1) := by decide +kernel
theorem dX0_takeChances_94 : decode cX0_takeChances 94 = .ok (.getfield 16, 3) := by decide +kernel
theorem dX0_takeChances_97 : decode cX0_takeChances 97 = .ok (.iload 6, 2) := by decide +kernel
theorem dX0_takeChances_99 : decode cX0_takeChances 99 = .ok (.iaload, 1) := by decide +kernel
theorem dX0_takeChances_100 : decode cX0_takeChances 100 = .ok (.invokestatic 73, 3) := by decide +kernel
theorem dX0_takeChances_103 : decode cX0_takeChances 103 = .ok (.istore 4, 2) := by decide +kernel
theorem dX0_takeChances_105 : decode cX0_takeChances 105 = .ok (.iload 5, 2) := by decide +kernel
theorem dX0_takeChances_107 : decode cX0_takeChances 107 = .ok (.aload_n 0, 1) := by decide +kernel
theorem dX0_takeChances_108 : decode cX0_takeChances 108 = .ok (.getfield 23, 3) := by decide +kernel
theorem dX0_takeChances_111 : decode cX0_takeChances 111 = .ok (.iload 6, 2) := by decide +kernel
theorem dX0_takeChances_113 : decode cX0_takeChances 113 = .ok (.iaload, 1) := by decide +kernel
theorem dX0_takeChances_114 : decode cX0_takeChances 114 = .ok (.iadd, 1) := by decide +kernel
theorem dX0_takeChances_115 : decode cX0_takeChances 115 = .ok (.istore 5, 2) := by decide +kernel
theorem dX0_takeChances_117 : decode cX0_takeChances 117 = .ok (.iinc 6 1, 3) := by decide +kernel
theorem dX0_takeChances_120 : decode cX0_takeChances 120 = .ok (.goto (-98), 3) := by decide +kernel
theorem dX0_takeChances_123 : decode cX0_takeChances 123 = .ok (.aload_n 0, 1) := by decide +kernel
theorem dX0_takeChances_124 : decode cX0_takeChances 124 = .ok (.iload_n 3, 1) := by decide +kernel
theorem dX0_takeChances_125 : decode cX0_takeChances 125 = .ok (.iload 4, 2) := by decide +kernel
theorem dX0_takeChances_127 : decode cX0_takeChances 127 = .ok (.imul, 1) := by decide +kernel
theorem dX0_takeChances_128 : decode cX0_takeChances 128 = .ok (.putfield 43, 3) := by decide +kernel
theorem dX0_takeChances_131 : decode cX0_takeChances 131 = .ok (.aload_n 0, 1) := by decide +kernel
theorem dX0_takeChances_132 : decode cX0_takeChances 132 = .ok (.lconst 1, 1) := by decide +kernel
theorem dX0_takeChances_133 : decode cX0_takeChances 133 = .ok (.putfield 78, 3) := by decide +kernel
theorem dX0_takeChances_136 : decode cX0_takeChances 136 = .ok (.iconst 0, 1) := by decide +kernel
theorem dX0_takeChances_137 : decode cX0_takeChances 137 = .ok (.istore 6, 2) := by decide +kernel
theorem dX0_takeChances_139 : decode cX0_takeChances 139 = .ok (.iload 6, 2) := by decide +kernel
theorem dX0_takeChances_141 : decode cX0_takeChances 141 = .ok (.iload_n 3, 1) := by decide +kernel
theorem dX0_takeChances_142 : decode cX0_takeChances 142 = .ok (.if_icmp .ge 21, 3) := by decide +kernel
theorem dX0_takeChances_145 : decode cX0_takeChances 145 = .ok (.aload_n 0, 1) := by decide +kernel
theorem dX0_takeChances_146 : decode cX0_takeChances 146 = .ok (.dup, 1) := by decide +kernel
theorem dX0_takeChances_147 : decode cX0_takeChances 147 = .ok (.getfield 78, 3) := by decide +kernel
theorem dX0_takeChances_150 : decode cX0_takeChances 150 = .ok (.iload 5, 2) := by decide +kernel
theorem dX0_takeChances_152 : decode cX0_takeChances 152 = .ok (.i2l, 1) := by decide +kernel
theorem dX0_takeChances_153 : decode cX0_takeChances 153 = .ok (.lmul, 1) := by decide +kernel
theorem dX0_takeChances_154 : decode cX0_takeChances 154 = .ok (.putfield 78, 3) := by decide +kernel
theorem dX0_takeChances_157 : decode cX0_takeChances 157 = .ok (.iinc 6 1, 3) := by decide +kernel
theorem dX0_takeChances_160 : decode cX0_takeChances 160 = .ok (.goto (-21), 3) := by decide +kernel
theorem dX0_takeChances_163 : decode cX0_takeChances 163 = .ok (.return_, 1) := by decide +kernel
set_option maxRecDepth 20000 in
theorem ggX0_waysFrom_X0_woodAfter : GoodIn wsX0_waysFrom wsX0_woodAfter := goodIn_r _ [8, 9, 2, 10, 11, 12, 13, 14, 15, 16, 17, 18, 19, 20, 21, 22, 23, 24] (by decide +kernel) (by decide +kernel)
set_option maxRecDepth 20000 in
theorem gX0_waysFrom_X0_woodAfter : GoodIn wsX0_waysFrom (wsV RX0 82 RX0 yX0_woodAfter wsX0_woodAfter) := goodIn_app (goodIn_of _ (by decide +kernel)) ggX0_waysFrom_X0_woodAfter
theorem dX0_waysFrom_0 : decode cX0_waysFrom 0 = .ok (.lconst 0, 1) := by decide +kernel
theorem dX0_waysFrom_1 : decode cX0_waysFrom 1 = .ok (.lstore_n 3, 1) := by decide +kernel
theorem dX0_waysFrom_2 : decode cX0_waysFrom 2 = .ok (.iconst 0, 1) := by decide +kernel
theorem dX0_waysFrom_3 : decode cX0_waysFrom 3 = .ok (.istore 5, 2) := by decide +kernel
theorem dX0_waysFrom_5 : decode cX0_waysFrom 5 = .ok (.iload 5, 2) := by decide +kernel
theorem dX0_waysFrom_7 : decode cX0_waysFrom 7 = .ok (.aload_n 0, 1) := by decide +kernel
theorem dX0_waysFrom_8 : decode cX0_waysFrom 8 = .ok (.getfield 56, 3) := by decide +kernel
theorem dX0_waysFrom_11 : decode cX0_waysFrom 11 = .ok (.if_icmp .ge 41, 3) := by decide +kernel
theorem dX0_waysFrom_14 : decode cX0_waysFrom 14 = .ok (.iload_n 1, 1) := by decide +kernel
theorem dX0_waysFrom_15 : decode cX0_waysFrom 15 = .ok (.aload_n 0, 1) := by decide +kernel
theorem dX0_waysFrom_16 : decode cX0_waysFrom 16 = .ok (.getfield 16, 3) := by decide +kernel
theorem dX0_waysFrom_19 : decode cX0_waysFrom 19 = .ok (.iload 5, 2) := by decide +kernel
theorem dX0_waysFrom_21 : decode cX0_waysFrom 21 = .ok (.iaload, 1) := by decide +kernel
theorem dX0_waysFrom_22 : decode cX0_waysFrom 22 = .ok (.if_icmp .lt 24, 3) := by decide +kernel
theorem dX0_waysFrom_25 : decode cX0_waysFrom 25 = .ok (.lload_n 3, 1) := by decide +kernel
theorem dX0_waysFrom_26 : decode cX0_waysFrom 26 = .ok (.aload_n 0, 1) := by decide +kernel
theorem dX0_waysFrom_27 : decode cX0_waysFrom 27 = .ok (.getfield 23, 3) := by decide +kernel
theorem dX0_waysFrom_30 : decode cX0_waysFrom 30 = .ok (.iload 5, 2) := by decide +kernel
theorem dX0_waysFrom_32 : decode cX0_waysFrom 32 = .ok (.iaload, 1) := by decide +kernel
theorem dX0_waysFrom_33 : decode cX0_waysFrom 33 = .ok (.i2l, 1) := by decide +kernel
theorem dX0_waysFrom_34 : decode cX0_waysFrom 34 = .ok (.aload_n 2, 1) := by decide +kernel
theorem dX0_waysFrom_35 : decode cX0_waysFrom 35 = .ok (.aload_n 0, 1) := by decide +kernel
theorem dX0_waysFrom_36 : decode cX0_waysFrom 36 = .ok (.iload_n 1, 1) := by decide +kernel
theorem dX0_waysFrom_37 : decode cX0_waysFrom 37 = .ok (.iload 5, 2) := by decide +kernel
theorem dX0_waysFrom_39 : decode cX0_waysFrom 39 = .ok (.invokevirtual 82, 3) := by decide +kernel
theorem dX0_waysFrom_42 : decode cX0_waysFrom 42 = .ok (.laload, 1) := by decide +kernel
theorem dX0_waysFrom_43 : decode cX0_waysFrom 43 = .ok (.lmul, 1) := by decide +kernel
theorem dX0_waysFrom_44 : decode cX0_waysFrom 44 = .ok (.ladd, 1) := by decide +kernel
theorem dX0_waysFrom_45 : decode cX0_waysFrom 45 = .ok (.lstore_n 3, 1) := by decide +kernel
theorem dX0_waysFrom_46 : decode cX0_waysFrom 46 = .ok (.iinc 5 1, 3) := by decide +kernel
theorem dX0_waysFrom_49 : decode cX0_waysFrom 49 = .ok (.goto (-44), 3) := by decide +kernel
theorem dX0_waysFrom_52 : decode cX0_waysFrom 52 = .ok (.lload_n 3, 1) := by decide +kernel
theorem dX0_waysFrom_53 : decode cX0_waysFrom 53 = .ok (.lreturn, 1) := by decide +kernel
theorem dX0_woodAfter_0 : decode cX0_woodAfter 0 = .ok (.aload_n 0, 1) := by decide +kernel
theorem dX0_woodAfter_1 : decode cX0_woodAfter 1 = .ok (.getfield 43, 3) := by decide +kernel
theorem dX0_woodAfter_4 : decode cX0_woodAfter 4 = .ok (.iload_n 1, 1) := by decide +kernel
theorem dX0_woodAfter_5 : decode cX0_woodAfter 5 = .ok (.aload_n 0, 1) := by decide +kernel
theorem dX0_woodAfter_6 : decode cX0_woodAfter 6 = .ok (.getfield 16, 3) := by decide +kernel
theorem dX0_woodAfter_9 : decode cX0_woodAfter 9 = .ok (.iload_n 2, 1) := by decide +kernel
theorem dX0_woodAfter_10 : decode cX0_woodAfter 10 = .ok (.iaload, 1) := by decide +kernel
theorem dX0_woodAfter_11 : decode cX0_woodAfter 11 = .ok (.isub, 1) := by decide +kernel
theorem dX0_woodAfter_12 : decode cX0_woodAfter 12 = .ok (.aload_n 0, 1) := by decide +kernel
theorem dX0_woodAfter_13 : decode cX0_woodAfter 13 = .ok (.getfield 20, 3) := by decide +kernel
theorem dX0_woodAfter_16 : decode cX0_woodAfter 16 = .ok (.iload_n 2, 1) := by decide +kernel
theorem dX0_woodAfter_17 : decode cX0_woodAfter 17 = .ok (.iaload, 1) := by decide +kernel
theorem dX0_woodAfter_18 : decode cX0_woodAfter 18 = .ok (.iadd, 1) := by decide +kernel
theorem dX0_woodAfter_19 : decode cX0_woodAfter 19 = .ok (.invokestatic 85, 3) := by decide +kernel
theorem dX0_woodAfter_22 : decode cX0_woodAfter 22 = .ok (.ireturn, 1) := by decide +kernel
theorem dX0_safeWays_0 : decode cX0_safeWays 0 = .ok (.aload_n 0, 1) := by decide +kernel
theorem dX0_safeWays_1 : decode cX0_safeWays 1 = .ok (.getfield 13, 3) := by decide +kernel
theorem dX0_safeWays_4 : decode cX0_safeWays 4 = .ok (.aload_n 0, 1) := by decide +kernel
theorem dX0_safeWays_5 : decode cX0_safeWays 5 = .ok (.getfield 57, 3) := by decide +kernel
theorem dX0_safeWays_8 : decode cX0_safeWays 8 = .ok (.aaload, 1) := by decide +kernel
theorem dX0_safeWays_9 : decode cX0_safeWays 9 = .ok (.aload_n 0, 1) := by decide +kernel
theorem dX0_safeWays_10 : decode cX0_safeWays 10 = .ok (.getfield 43, 3) := by decide +kernel
theorem dX0_safeWays_13 : decode cX0_safeWays 13 = .ok (.iload_n 1, 1) := by decide +kernel
theorem dX0_safeWays_14 : decode cX0_safeWays 14 = .ok (.invokestatic 85, 3) := by decide +kernel
theorem dX0_safeWays_17 : decode cX0_safeWays 17 = .ok (.laload, 1) := by decide +kernel
theorem dX0_safeWays_18 : decode cX0_safeWays 18 = .ok (.lreturn, 1) := by decide +kernel
set_option maxRecDepth 20000 in
theorem ggX0_bestNight_J7_fill_d0a16 : GoodIn wsX0_bestNight wsJ7_fill_d0a16 := goodIn_r _ [13] (by decide +kernel) (by decide +kernel)
set_option maxRecDepth 20000 in
theorem gX0_bestNight_J7_fill_d0a16 : GoodIn wsX0_bestNight (va_wsS RX0 37 yJ7_fill_d0a16 wsJ7_fill_d0a16) := goodIn_app (goodIn_of _ (by decide +kernel)) ggX0_bestNight_J7_fill_d0a16
set_option maxRecDepth 20000 in
theorem ggX0_bestNight_X0_waysWithCut : GoodIn wsX0_bestNight wsX0_waysWithCut := goodIn_r _ [18, 2, 1, 3, 4, 5, 6, 32, 33, 34, 35, 36, 37, 38, 39, 40, 41] (by decide +kernel) (by decide +kernel)
set_option maxRecDepth 20000 in
theorem gX0_bestNight_X0_waysWithCut : GoodIn wsX0_bestNight (wsV RX0 90 RX0 yX0_waysWithCut wsX0_waysWithCut) := goodIn_app (goodIn_of _ (by decide +kernel)) ggX0_bestNight_X0_waysWithCut
set_option maxRecDepth 20000 in
theorem ggX0_bestNight_X0_sleepOne : GoodIn wsX0_bestNight wsX0_sleepOne := goodIn_r _ [22, 23, 2, 24, 1, 25, 26, 10, 11, 12, 13, 27, 28, 29, 17, 30, 31, 3, 4, 5, 6, 32, 33, 34, 35, 36, 37, 38, 39, 40, 41] (by decide +kernel) (by decide +kernel)
set_option maxRecDepth 20000 in
theorem gX0_bestNight_X0_sleepOne : GoodIn wsX0_bestNight (wsV RX0 94 RX0 yX0_sleepOne wsX0_sleepOne) := goodIn_app (goodIn_of _ (by decide +kernel)) ggX0_bestNight_X0_sleepOne
theorem dX0_bestNight_0 : decode cX0_bestNight 0 = .ok (.aload_n 0, 1) := by decide +kernel
theorem dX0_bestNight_1 : decode cX0_bestNight 1 = .ok (.getfield 26, 3) := by decide +kernel
theorem dX0_bestNight_4 : decode cX0_bestNight 4 = .ok (.lconst 0, 1) := by decide +kernel
theorem dX0_bestNight_5 : decode cX0_bestNight 5 = .ok (.invokestatic 37, 3) := by decide +kernel
theorem dX0_bestNight_8 : decode cX0_bestNight 8 = .ok (.aload_n 0, 1) := by decide +kernel
theorem dX0_bestNight_9 : decode cX0_bestNight 9 = .ok (.getfield 26, 3) := by decide +kernel
theorem dX0_bestNight_12 : decode cX0_bestNight 12 = .ok (.aload_n 0, 1) := by decide +kernel
theorem dX0_bestNight_13 : decode cX0_bestNight 13 = .ok (.getfield 43, 3) := by decide +kernel
theorem dX0_bestNight_16 : decode cX0_bestNight 16 = .ok (.iload_n 1, 1) := by decide +kernel
theorem dX0_bestNight_17 : decode cX0_bestNight 17 = .ok (.invokestatic 85, 3) := by decide +kernel
theorem dX0_bestNight_20 : decode cX0_bestNight 20 = .ok (.lconst 1, 1) := by decide +kernel
theorem dX0_bestNight_21 : decode cX0_bestNight 21 = .ok (.lastore, 1) := by decide +kernel
theorem dX0_bestNight_22 : decode cX0_bestNight 22 = .ok (.iconst 1, 1) := by decide +kernel
theorem dX0_bestNight_23 : decode cX0_bestNight 23 = .ok (.istore_n 3, 1) := by decide +kernel
theorem dX0_bestNight_24 : decode cX0_bestNight 24 = .ok (.ldc2_w 88, 3) := by decide +kernel
theorem dX0_bestNight_27 : decode cX0_bestNight 27 = .ok (.lstore 4, 2) := by decide +kernel
theorem dX0_bestNight_29 : decode cX0_bestNight 29 = .ok (.iconst 1, 1) := by decide +kernel
theorem dX0_bestNight_30 : decode cX0_bestNight 30 = .ok (.istore 6, 2) := by decide +kernel
theorem dX0_bestNight_32 : decode cX0_bestNight 32 = .ok (.iload 6, 2) := by decide +kernel
theorem dX0_bestNight_34 : decode cX0_bestNight 34 = .ok (.aload_n 0, 1) := by decide +kernel
theorem dX0_bestNight_35 : decode cX0_bestNight 35 = .ok (.getfield 57, 3) := by decide +kernel
theorem dX0_bestNight_38 : decode cX0_bestNight 38 = .ok (.if_icmp .gt 49, 3) := by decide +kernel
theorem dX0_bestNight_41 : decode cX0_bestNight 41 = .ok (.aload_n 0, 1) := by decide +kernel
theorem dX0_bestNight_42 : decode cX0_bestNight 42 = .ok (.aload_n 0, 1) := by decide +kernel
theorem dX0_bestNight_43 : decode cX0_bestNight 43 = .ok (.getfield 13, 3) := by decide +kernel
theorem dX0_bestNight_46 : decode cX0_bestNight 46 = .ok (.aload_n 0, 1) := by decide +kernel
theorem dX0_bestNight_47 : decode cX0_bestNight 47 = .ok (.getfield 57, 3) := by decide +kernel
theorem dX0_bestNight_50 : decode cX0_bestNight 50 = .ok (.iload 6, 2) := by decide +kernel
theorem dX0_bestNight_52 : decode cX0_bestNight 52 = .ok (.isub, 1) := by decide +kernel
theorem dX0_bestNight_53 : decode cX0_bestNight 53 = .ok (.iconst 1, 1) := by decide +kernel
theorem dX0_bestNight_54 : decode cX0_bestNight 54 = .ok (.iadd, 1) := by decide +kernel
theorem dX0_bestNight_55 : decode cX0_bestNight 55 = .ok (.aaload, 1) := by decide +kernel
theorem dX0_bestNight_56 : decode cX0_bestNight 56 = .ok (.iload_n 2, 1) := by decide +kernel
theorem dX0_bestNight_57 : decode cX0_bestNight 57 = .ok (.invokevirtual 90, 3) := by decide +kernel
theorem dX0_bestNight_60 : decode cX0_bestNight 60 = .ok (.lstore 7, 2) := by decide +kernel
theorem dX0_bestNight_62 : decode cX0_bestNight 62 = .ok (.lload 7, 2) := by decide +kernel
theorem dX0_bestNight_64 : decode cX0_bestNight 64 = .ok (.lload 4, 2) := by decide +kernel
theorem dX0_bestNight_66 : decode cX0_bestNight 66 = .ok (.lcmp, 1) := by decide +kernel
theorem dX0_bestNight_67 : decode cX0_bestNight 67 = .ok (.ifCond .le 10, 3) := by decide +kernel
theorem dX0_bestNight_70 : decode cX0_bestNight 70 = .ok (.lload 7, 2) := by decide +kernel
theorem dX0_bestNight_72 : decode cX0_bestNight 72 = .ok (.lstore 4, 2) := by decide +kernel
theorem dX0_bestNight_74 : decode cX0_bestNight 74 = .ok (.iload 6, 2) := by decide +kernel
theorem dX0_bestNight_76 : decode cX0_bestNight 76 = .ok (.istore_n 3, 1) := by decide +kernel
theorem dX0_bestNight_77 : decode cX0_bestNight 77 = .ok (.aload_n 0, 1) := by decide +kernel
theorem dX0_bestNight_78 : decode cX0_bestNight 78 = .ok (.invokevirtual 94, 3) := by decide +kernel
theorem dX0_bestNight_81 : decode cX0_bestNight 81 = .ok (.iinc 6 1, 3) := by decide +kernel
theorem dX0_bestNight_84 : decode cX0_bestNight 84 = .ok (.goto (-52), 3) := by decide +kernel
theorem dX0_bestNight_87 : decode cX0_bestNight 87 = .ok (.iload_n 3, 1) := by decide +kernel
theorem dX0_bestNight_88 : decode cX0_bestNight 88 = .ok (.ireturn, 1) := by decide +kernel
theorem dX0_waysWithCut_0 : decode cX0_waysWithCut 0 = .ok (.lconst 0, 1) := by decide +kernel
theorem dX0_waysWithCut_1 : decode cX0_waysWithCut 1 = .ok (.lstore_n 3, 1) := by decide +kernel
theorem dX0_waysWithCut_2 : decode cX0_waysWithCut 2 = .ok (.iconst 0, 1) := by decide +kernel
theorem dX0_waysWithCut_3 : decode cX0_waysWithCut 3 = .ok (.istore 5, 2) := by decide +kernel
theorem dX0_waysWithCut_5 : decode cX0_waysWithCut 5 = .ok (.iload 5, 2) := by decide +kernel
theorem dX0_waysWithCut_7 : decode cX0_waysWithCut 7 = .ok (.aload_n 0, 1) := by decide +kernel
theorem dX0_waysWithCut_8 : decode cX0_waysWithCut 8 = .ok (.getfield 43, 3) := by decide +kernel
theorem dX0_waysWithCut_11 : decode cX0_waysWithCut 11 = .ok (.if_icmp .gt 33, 3) := by decide +kernel
theorem dX0_waysWithCut_14 : decode cX0_waysWithCut 14 = .ok (.lload_n 3, 1) := by decide +kernel
theorem dX0_waysWithCut_15 : decode cX0_waysWithCut 15 = .ok (.aload_n 0, 1) := by decide +kernel
theorem dX0_waysWithCut_16 : decode cX0_waysWithCut 16 = .ok (.getfield 26, 3) := by decide +kernel
theorem dX0_waysWithCut_19 : decode cX0_waysWithCut 19 = .ok (.iload 5, 2) := by decide +kernel
theorem dX0_waysWithCut_21 : decode cX0_waysWithCut 21 = .ok (.laload, 1) := by decide +kernel
theorem dX0_waysWithCut_22 : decode cX0_waysWithCut 22 = .ok (.aload_n 1, 1) := by decide +kernel
theorem dX0_waysWithCut_23 : decode cX0_waysWithCut 23 = .ok (.aload_n 0, 1) := by decide +kernel
theorem dX0_waysWithCut_24 : decode cX0_waysWithCut 24 = .ok (.getfield 43, 3) := by decide +kernel
theorem dX0_waysWithCut_27 : decode cX0_waysWithCut 27 = .ok (.iload 5, 2) := by decide +kernel
theorem dX0_waysWithCut_29 : decode cX0_waysWithCut 29 = .ok (.iload_n 2, 1) := by decide +kernel
theorem dX0_waysWithCut_30 : decode cX0_waysWithCut 30 = .ok (.iadd, 1) := by decide +kernel
theorem dX0_waysWithCut_31 : decode cX0_waysWithCut 31 = .ok (.invokestatic 85, 3) := by decide +kernel
theorem dX0_waysWithCut_34 : decode cX0_waysWithCut 34 = .ok (.laload, 1) := by decide +kernel
theorem dX0_waysWithCut_35 : decode cX0_waysWithCut 35 = .ok (.lmul, 1) := by decide +kernel
theorem dX0_waysWithCut_36 : decode cX0_waysWithCut 36 = .ok (.ladd, 1) := by decide +kernel
theorem dX0_waysWithCut_37 : decode cX0_waysWithCut 37 = .ok (.lstore_n 3, 1) := by decide +kernel
theorem dX0_waysWithCut_38 : decode cX0_waysWithCut 38 = .ok (.iinc 5 1, 3) := by decide +kernel
theorem dX0_waysWithCut_41 : decode cX0_waysWithCut 41 = .ok (.goto (-36), 3) := by decide +kernel
theorem dX0_waysWithCut_44 : decode cX0_waysWithCut 44 = .ok (.lload_n 3, 1) := by decide +kernel
theorem dX0_waysWithCut_45 : decode cX0_waysWithCut 45 = .ok (.lreturn, 1) := by decide +kernel
set_option maxRecDepth 20000 in
theorem ggX0_sleepOne_J7_fill_d0a16 : GoodIn wsX0_sleepOne wsJ7_fill_d0a16 := goodIn_r _ [10] (by decide +kernel) (by decide +kernel)
set_option maxRecDepth 20000 in
theorem gX0_sleepOne_J7_fill_d0a16 : GoodIn wsX0_sleepOne (va_wsS RX0 37 yJ7_fill_d0a16 wsJ7_fill_d0a16) := goodIn_app (goodIn_of _ (by decide +kernel)) ggX0_sleepOne_J7_fill_d0a16
set_option maxRecDepth 20000 in
theorem ggX0_sleepOne_X0_woodAfter : GoodIn wsX0_sleepOne wsX0_woodAfter := goodIn_r _ [15, 2, 5, 16, 17, 18, 19, 20, 21, 22, 23, 24, 25, 26, 27, 28, 29, 30] (by decide +kernel) (by decide +kernel)
set_option maxRecDepth 20000 in
theorem gX0_sleepOne_X0_woodAfter : GoodIn wsX0_sleepOne (wsV RX0 82 RX0 yX0_woodAfter wsX0_woodAfter) := goodIn_app (goodIn_of _ (by decide +kernel)) ggX0_sleepOne_X0_woodAfter
theorem dX0_sleepOne_0 : decode cX0_sleepOne 0 = .ok (.aload_n 0, 1) := by decide +kernel
theorem dX0_sleepOne_1 : decode cX0_sleepOne 1 = .ok (.getfield 30, 3) := by decide +kernel
theorem dX0_sleepOne_4 : decode cX0_sleepOne 4 = .ok (.lconst 0, 1) := by decide +kernel
theorem dX0_sleepOne_5 : decode cX0_sleepOne 5 = .ok (.invokestatic 37, 3) := by decide +kernel
theorem dX0_sleepOne_8 : decode cX0_sleepOne 8 = .ok (.iconst 0, 1) := by decide +kernel
theorem dX0_sleepOne_9 : decode cX0_sleepOne 9 = .ok (.istore_n 1, 1) := by decide +kernel
theorem dX0_sleepOne_10 : decode cX0_sleepOne 10 = .ok (.iload_n 1, 1) := by decide +kernel
theorem dX0_sleepOne_11 : decode cX0_sleepOne 11 = .ok (.aload_n 0, 1) := by decide +kernel
theorem dX0_sleepOne_12 : decode cX0_sleepOne 12 = .ok (.getfield 43, 3) := by decide +kernel
theorem dX0_sleepOne_15 : decode cX0_sleepOne 15 = .ok (.if_icmp .gt 74, 3) := by decide +kernel
theorem dX0_sleepOne_18 : decode cX0_sleepOne 18 = .ok (.iconst 0, 1) := by decide +kernel
theorem dX0_sleepOne_19 : decode cX0_sleepOne 19 = .ok (.istore_n 2, 1) := by decide +kernel
theorem dX0_sleepOne_20 : decode cX0_sleepOne 20 = .ok (.iload_n 2, 1) := by decide +kernel
theorem dX0_sleepOne_21 : decode cX0_sleepOne 21 = .ok (.aload_n 0, 1) := by decide +kernel
theorem dX0_sleepOne_22 : decode cX0_sleepOne 22 = .ok (.getfield 56, 3) := by decide +kernel
theorem dX0_sleepOne_25 : decode cX0_sleepOne 25 = .ok (.if_icmp .ge 58, 3) := by decide +kernel
theorem dX0_sleepOne_28 : decode cX0_sleepOne 28 = .ok (.aload_n 0, 1) := by decide +kernel
theorem dX0_sleepOne_29 : decode cX0_sleepOne 29 = .ok (.getfield 26, 3) := by decide +kernel
theorem dX0_sleepOne_32 : decode cX0_sleepOne 32 = .ok (.iload_n 1, 1) := by decide +kernel
theorem dX0_sleepOne_33 : decode cX0_sleepOne 33 = .ok (.laload, 1) := by decide +kernel
theorem dX0_sleepOne_34 : decode cX0_sleepOne 34 = .ok (.lconst 0, 1) := by decide +kernel
theorem dX0_sleepOne_35 : decode cX0_sleepOne 35 = .ok (.lcmp, 1) := by decide +kernel
theorem dX0_sleepOne_36 : decode cX0_sleepOne 36 = .ok (.ifCond .eq 47, 3) := by decide +kernel
theorem dX0_sleepOne_39 : decode cX0_sleepOne 39 = .ok (.iload_n 1, 1) := by decide +kernel
theorem dX0_sleepOne_40 : decode cX0_sleepOne 40 = .ok (.aload_n 0, 1) := by decide +kernel
theorem dX0_sleepOne_41 : decode cX0_sleepOne 41 = .ok (.getfield 16, 3) := by decide +kernel
theorem dX0_sleepOne_44 : decode cX0_sleepOne 44 = .ok (.iload_n 2, 1) := by decide +kernel
theorem dX0_sleepOne_45 : decode cX0_sleepOne 45 = .ok (.iaload, 1) := by decide +kernel
theorem dX0_sleepOne_46 : decode cX0_sleepOne 46 = .ok (.if_icmp .lt 31, 3) := by decide +kernel
theorem dX0_sleepOne_49 : decode cX0_sleepOne 49 = .ok (.aload_n 0, 1) := by decide +kernel
theorem dX0_sleepOne_50 : decode cX0_sleepOne 50 = .ok (.getfield 30, 3) := by decide +kernel
theorem dX0_sleepOne_53 : decode cX0_sleepOne 53 = .ok (.aload_n 0, 1) := by decide +kernel
theorem dX0_sleepOne_54 : decode cX0_sleepOne 54 = .ok (.iload_n 1, 1) := by decide +kernel
theorem dX0_sleepOne_55 : decode cX0_sleepOne 55 = .ok (.iload_n 2, 1) := by decide +kernel
theorem dX0_sleepOne_56 : decode cX0_sleepOne 56 = .ok (.invokevirtual 82, 3) := by decide +kernel
theorem dX0_sleepOne_59 : decode cX0_sleepOne 59 = .ok (.dup2, 1) := by decide +kernel
theorem dX0_sleepOne_60 : decode cX0_sleepOne 60 = .ok (.laload, 1) := by decide +kernel
theorem dX0_sleepOne_61 : decode cX0_sleepOne 61 = .ok (.aload_n 0, 1) := by decide +kernel
theorem dX0_sleepOne_62 : decode cX0_sleepOne 62 = .ok (.getfield 26, 3) := by decide +kernel
theorem dX0_sleepOne_65 : decode cX0_sleepOne 65 = .ok (.iload_n 1, 1) := by decide +kernel
theorem dX0_sleepOne_66 : decode cX0_sleepOne 66 = .ok (.laload, 1) := by decide +kernel
theorem dX0_sleepOne_67 : decode cX0_sleepOne 67 = .ok (.aload_n 0, 1) := by decide +kernel
theorem dX0_sleepOne_68 : decode cX0_sleepOne 68 = .ok (.getfield 23, 3) := by decide +kernel
theorem dX0_sleepOne_71 : decode cX0_sleepOne 71 = .ok (.iload_n 2, 1) := by decide +kernel
theorem dX0_sleepOne_72 : decode cX0_sleepOne 72 = .ok (.iaload, 1) := by decide +kernel
theorem dX0_sleepOne_73 : decode cX0_sleepOne 73 = .ok (.i2l, 1) := by decide +kernel
theorem dX0_sleepOne_74 : decode cX0_sleepOne 74 = .ok (.lmul, 1) := by decide +kernel
theorem dX0_sleepOne_75 : decode cX0_sleepOne 75 = .ok (.ladd, 1) := by decide +kernel
theorem dX0_sleepOne_76 : decode cX0_sleepOne 76 = .ok (.lastore, 1) := by decide +kernel
theorem dX0_sleepOne_77 : decode cX0_sleepOne 77 = .ok (.iinc 2 1, 3) := by decide +kernel
theorem dX0_sleepOne_80 : decode cX0_sleepOne 80 = .ok (.goto (-60), 3) := by decide +kernel
theorem dX0_sleepOne_83 : decode cX0_sleepOne 83 = .ok (.iinc 1 1, 3) := by decide +kernel
theorem dX0_sleepOne_86 : decode cX0_sleepOne 86 = .ok (.goto (-76), 3) := by decide +kernel
theorem dX0_sleepOne_89 : decode cX0_sleepOne 89 = .ok (.aload_n 0, 1) := by decide +kernel
theorem dX0_sleepOne_90 : decode cX0_sleepOne 90 = .ok (.getfield 26, 3) := by decide +kernel
theorem dX0_sleepOne_93 : decode cX0_sleepOne 93 = .ok (.astore_n 1, 1) := by decide +kernel
theorem dX0_sleepOne_94 : decode cX0_sleepOne 94 = .ok (.aload_n 0, 1) := by decide +kernel
theorem dX0_sleepOne_95 : decode cX0_sleepOne 95 = .ok (.aload_n 0, 1) := by decide +kernel
theorem dX0_sleepOne_96 : decode cX0_sleepOne 96 = .ok (.getfield 30, 3) := by decide +kernel
theorem dX0_sleepOne_99 : decode cX0_sleepOne 99 = .ok (.putfield 26, 3) := by decide +kernel
theorem dX0_sleepOne_102 : decode cX0_sleepOne 102 = .ok (.aload_n 0, 1) := by decide +kernel
theorem dX0_sleepOne_103 : decode cX0_sleepOne 103 = .ok (.aload_n 1, 1) := by decide +kernel
theorem dX0_sleepOne_104 : decode cX0_sleepOne 104 = .ok (.putfield 30, 3) := by decide +kernel
theorem dX0_sleepOne_107 : decode cX0_sleepOne 107 = .ok (.return_, 1) := by decide +kernel
set_option maxRecDepth 20000 in
theorem ggX1_init_X2_init : GoodIn wsX1_init wsX2_init := goodIn_r _ [4, 5, 6, 7, 8, 9, 10, 11, 12, 13, 14, 15, 16, 17, 18, 19, 20, 21, 22, 23, 24, 25, 26, 27, 28, 29] (by decide +kernel) (by decide +kernel)
set_option maxRecDepth 20000 in
theorem gX1_init_X2_init : GoodIn wsX1_init (wsX2_init) := ggX1_init_X2_init
theorem dX1_init_0 : decode cX1_init 0 = .ok (.aload_n 0, 1) := by decide +kernel
theorem dX1_init_1 : decode cX1_init 1 = .ok (.iload_n 1, 1) := by decide +kernel
theorem dX1_init_2 : decode cX1_init 2 = .ok (.iload_n 2, 1) := by decide +kernel
theorem dX1_init_3 : decode cX1_init 3 = .ok (.iload_n 3, 1) := by decide +kernel
theorem dX1_init_4 : decode cX1_init 4 = .ok (.invokespecial 1, 3) := by decide +kernel
theorem dX1_init_7 : decode cX1_init 7 = .ok (.return_, 1) := by decide +kernel
theorem dX1_kindTold_0 : decode cX1_kindTold 0 = .ok (.iconst 2, 1) := by decide +kernel
theorem dX1_kindTold_1 : decode cX1_kindTold 1 = .ok (.ireturn, 1) := by decide +kernel
theorem dX1_leaves_0 : decode cX1_leaves 0 = .ok (.iload_n 1, 1) := by decide +kernel
theorem dX1_leaves_1 : decode cX1_leaves 1 = .ok (.iconst 2, 1) := by decide +kernel
theorem dX1_leaves_2 : decode cX1_leaves 2 = .ok (.idiv, 1) := by decide +kernel
theorem dX1_leaves_3 : decode cX1_leaves 3 = .ok (.ireturn, 1) := by decide +kernel
set_option maxRecDepth 20000 in
theorem ggX1_sizeAsked_X8_begin : GoodIn wsX1_sizeAsked wsX8_begin := goodIn_r _ [5, 6, 7, 55, 56] (by decide +kernel) (by decide +kernel)
set_option maxRecDepth 20000 in
theorem gX1_sizeAsked_X8_begin : GoodIn wsX1_sizeAsked (wsV RX1 7 RX8 yX8_begin wsX8_begin) := goodIn_app (goodIn_of _ (by decide +kernel)) ggX1_sizeAsked_X8_begin
set_option maxRecDepth 20000 in
theorem ggX1_sizeAsked_X2_sizeAsked : GoodIn wsX1_sizeAsked wsX2_sizeAsked := goodIn_r _ [13, 14, 2, 3, 4, 5, 6, 7, 15, 16, 17, 18, 19, 20, 21, 22, 23, 24, 25, 26, 12, 27, 28, 29, 30, 31, 32, 33, 34, 35, 36, 37, 38, 39, 40, 41, 42, 43, 44, 45, 46, 47, 48, 49, 50, 51, 52, 53, 54, 55, 56, 57, 58, 59, 60, 61, 62, 63, 64, 65, 66, 67, 68, 69, 70, 71, 72, 73, 74, 75, 76, 77, 78, 79, 80, 81, 82, 83, 84, 85, 86, 87] (by decide +kernel) (by decide +kernel)
set_option maxRecDepth 20000 in
theorem gX1_sizeAsked_X2_sizeAsked_s13 : GoodIn wsX1_sizeAsked (va_wsSU RX1 13 yX2_sizeAsked wsX2_sizeAsked) := goodIn_app (goodIn_of _ (by decide +kernel)) ggX1_sizeAsked_X2_sizeAsked
theorem dX1_sizeAsked_0 : decode cX1_sizeAsked 0 = .ok (.aload_n 2, 1) := by decide +kernel
theorem dX1_sizeAsked_1 : decode cX1_sizeAsked 1 = .ok (.bipush 12, 2) := by decide +kernel
theorem dX1_sizeAsked_3 : decode cX1_sizeAsked 3 = .ok (.invokevirtual 7, 3) := by decide +kernel
theorem dX1_sizeAsked_6 : decode cX1_sizeAsked 6 = .ok (.aload_n 0, 1) := by decide +kernel
theorem dX1_sizeAsked_7 : decode cX1_sizeAsked 7 = .ok (.aload_n 1, 1) := by decide +kernel
theorem dX1_sizeAsked_8 : decode cX1_sizeAsked 8 = .ok (.aload_n 2, 1) := by decide +kernel
theorem dX1_sizeAsked_9 : decode cX1_sizeAsked 9 = .ok (.invokespecial 13, 3) := by decide +kernel
theorem dX1_sizeAsked_12 : decode cX1_sizeAsked 12 = .ok (.lneg, 1) := by decide +kernel
theorem dX1_sizeAsked_13 : decode cX1_sizeAsked 13 = .ok (.lreturn, 1) := by decide +kernel
set_option maxRecDepth 20000 in
theorem ggX2_init_X4_init : GoodIn wsX2_init wsX4_init := goodIn_r _ [4, 5, 6, 7, 8, 9, 10, 11, 12, 13, 14, 15, 16, 17, 18, 19, 20, 21, 22, 23, 24, 25] (by decide +kernel) (by decide +kernel)
set_option maxRecDepth 20000 in
theorem gX2_init_X4_init : GoodIn wsX2_init (wsX4_init) := ggX2_init_X4_init
theorem dX2_init_0 : decode cX2_init 0 = .ok (.aload_n 0, 1) := by decide +kernel
theorem dX2_init_1 : decode cX2_init 1 = .ok (.iload_n 1, 1) := by decide +kernel
theorem dX2_init_2 : decode cX2_init 2 = .ok (.iload_n 2, 1) := by decide +kernel
theorem dX2_init_3 : decode cX2_init 3 = .ok (.iload_n 3, 1) := by decide +kernel
theorem dX2_init_4 : decode cX2_init 4 = .ok (.invokespecial 1, 3) := by decide +kernel
theorem dX2_init_7 : decode cX2_init 7 = .ok (.return_, 1) := by decide +kernel
theorem dX2_kindTold_0 : decode cX2_kindTold 0 = .ok (.iconst 1, 1) := by decide +kernel
theorem dX2_kindTold_1 : decode cX2_kindTold 1 = .ok (.ireturn, 1) := by decide +kernel
theorem dX2_leaves_0 : decode cX2_leaves 0 = .ok (.iload_n 1, 1) := by decide +kernel
theorem dX2_leaves_1 : decode cX2_leaves 1 = .ok (.ireturn, 1) := by decide +kernel
set_option maxRecDepth 20000 in
theorem ggX2_sizeAsked_X8_begin : GoodIn wsX2_sizeAsked wsX8_begin := goodIn_r _ [5, 6, 7, 49, 50] (by decide +kernel) (by decide +kernel)
set_option maxRecDepth 20000 in
theorem gX2_sizeAsked_X8_begin : GoodIn wsX2_sizeAsked (wsV RX2 7 RX8 yX8_begin wsX8_begin) := goodIn_app (goodIn_of _ (by decide +kernel)) ggX2_sizeAsked_X8_begin
set_option maxRecDepth 20000 in
theorem ggX2_sizeAsked_X4_sizeAsked : GoodIn wsX2_sizeAsked wsX4_sizeAsked := goodIn_r _ [13, 14, 15, 2, 3, 4, 5, 6, 7, 51, 52, 53, 54, 55, 56, 57, 58, 59, 60, 61, 62, 63, 64, 65, 49, 50] (by decide +kernel) (by decide +kernel)
set_option maxRecDepth 20000 in
theorem gX2_sizeAsked_X4_sizeAsked_s13 : GoodIn wsX2_sizeAsked (va_wsSU RX2 13 yX4_sizeAsked wsX4_sizeAsked) := goodIn_app (goodIn_of _ (by decide +kernel)) ggX2_sizeAsked_X4_sizeAsked
set_option maxRecDepth 20000 in
theorem ggX2_sizeAsked_X2_markAsked : GoodIn wsX2_sizeAsked wsX2_markAsked := goodIn_r _ [21, 22, 23, 24, 25, 1, 2, 3, 4, 5, 6, 7, 26, 27, 10, 28, 12, 29, 30, 15, 31, 32, 33, 34, 35, 36, 37, 66, 67, 68, 69, 70, 71, 72, 73, 74, 75, 76, 77, 78, 79, 80, 81, 51, 52, 53, 54, 55, 56, 57, 58, 59, 60, 61, 62, 63, 64, 65, 49, 50] (by decide +kernel) (by decide +kernel)
set_option maxRecDepth 20000 in
theorem gX2_sizeAsked_X2_markAsked_u17X1 : GoodIn wsX2_sizeAsked (va_wsU RX2 17 RX1 "WoodForTwo$Keeper" ⟨"WoodForTwo$Keeper", "markAsked", "(LWoodForTwo$Pass;LWoodForTwo$Trace;)J"⟩ yX2_markAsked wsX2_markAsked) := goodIn_app (goodIn_of _ (by decide +kernel)) ggX2_sizeAsked_X2_markAsked
set_option maxRecDepth 20000 in
theorem gX2_sizeAsked_X2_markAsked : GoodIn wsX2_sizeAsked (wsV RX2 17 RX2 yX2_markAsked wsX2_markAsked) := goodIn_app (goodIn_of _ (by decide +kernel)) ggX2_sizeAsked_X2_markAsked
set_option maxRecDepth 20000 in
theorem ggX2_sizeAsked_X3_markAsked : GoodIn wsX2_sizeAsked wsX3_markAsked := goodIn_r _ [44, 45, 46, 2, 3, 4, 5, 6, 7, 47, 17, 48, 19, 20, 21, 22, 23, 24, 25, 1, 26, 27, 10, 28, 12, 29, 30, 15, 31, 32, 33, 34, 35, 36, 37, 49, 50, 66, 67, 68, 69, 70, 71, 72, 73, 74, 75, 76, 77, 78, 79, 80, 81, 51, 52, 53, 54, 55, 56, 57, 58, 59, 60, 61, 62, 63, 64, 65] (by decide +kernel) (by decide +kernel)
set_option maxRecDepth 20000 in
theorem gX2_sizeAsked_X3_markAsked_u17X3 : GoodIn wsX2_sizeAsked (va_wsO RX2 17 RX3 "WoodForTwo$Keeper" ⟨"WoodForTwo$Keeper", "markAsked", "(LWoodForTwo$Pass;LWoodForTwo$Trace;)J"⟩ yX3_markAsked wsX3_markAsked) := goodIn_app (goodIn_of _ (by decide +kernel)) ggX2_sizeAsked_X3_markAsked
theorem dX2_sizeAsked_0 : decode cX2_sizeAsked 0 = .ok (.aload_n 2, 1) := by decide +kernel
theorem dX2_sizeAsked_1 : decode cX2_sizeAsked 1 = .ok (.bipush 11, 2) := by decide +kernel
theorem dX2_sizeAsked_3 : decode cX2_sizeAsked 3 = .ok (.invokevirtual 7, 3) := by decide +kernel
theorem dX2_sizeAsked_6 : decode cX2_sizeAsked 6 = .ok (.aload_n 0, 1) := by decide +kernel
theorem dX2_sizeAsked_7 : decode cX2_sizeAsked 7 = .ok (.aload_n 1, 1) := by decide +kernel
theorem dX2_sizeAsked_8 : decode cX2_sizeAsked 8 = .ok (.aload_n 2, 1) := by decide +kernel
theorem dX2_sizeAsked_9 : decode cX2_sizeAsked 9 = .ok (.invokespecial 13, 3) := by decide +kernel
theorem dX2_sizeAsked_12 : decode cX2_sizeAsked 12 = .ok (.lstore_n 3, 1) := by decide +kernel
theorem dX2_sizeAsked_13 : decode cX2_sizeAsked 13 = .ok (.lload_n 3, 1) := by decide +kernel
theorem dX2_sizeAsked_14 : decode cX2_sizeAsked 14 = .ok (.aload_n 0, 1) := by decide +kernel
theorem dX2_sizeAsked_15 : decode cX2_sizeAsked 15 = .ok (.aload_n 1, 1) := by decide +kernel
theorem dX2_sizeAsked_16 : decode cX2_sizeAsked 16 = .ok (.aload_n 2, 1) := by decide +kernel
theorem dX2_sizeAsked_17 : decode cX2_sizeAsked 17 = .ok (.invokevirtual 17, 3) := by decide +kernel
theorem dX2_sizeAsked_20 : decode cX2_sizeAsked 20 = .ok (.ladd, 1) := by decide +kernel
theorem dX2_sizeAsked_21 : decode cX2_sizeAsked 21 = .ok (.lreturn, 1) := by decide +kernel
set_option maxRecDepth 20000 in
theorem ggX2_markAsked_X8_begin : GoodIn wsX2_markAsked wsX8_begin := goodIn_r _ [9, 10, 11, 58, 59] (by decide +kernel) (by decide +kernel)
set_option maxRecDepth 20000 in
theorem gX2_markAsked_X8_begin : GoodIn wsX2_markAsked (wsV RX2 7 RX8 yX8_begin wsX8_begin) := goodIn_app (goodIn_of _ (by decide +kernel)) ggX2_markAsked_X8_begin
set_option maxRecDepth 20000 in
theorem ggX2_markAsked_X4_markAsked : GoodIn wsX2_markAsked wsX4_markAsked := goodIn_r _ [17, 18, 19, 6, 7, 8, 9, 10, 11, 43, 44, 45, 46, 47, 48, 49, 50, 51, 52, 53, 54, 55, 56, 57, 58, 59] (by decide +kernel) (by decide +kernel)
set_option maxRecDepth 20000 in
theorem gX2_markAsked_X4_markAsked_s22 : GoodIn wsX2_markAsked (va_wsSU RX2 22 yX4_markAsked wsX4_markAsked) := goodIn_app (goodIn_of _ (by decide +kernel)) ggX2_markAsked_X4_markAsked
set_option maxRecDepth 20000 in
theorem ggX2_markAsked_X5_owed : GoodIn wsX2_markAsked wsX5_owed := goodIn_r _ [24, 25, 26, 27, 28, 29, 30, 31, 32, 33, 34, 35, 36, 37, 38, 39, 40, 41, 42] (by decide +kernel) (by decide +kernel)
set_option maxRecDepth 20000 in
theorem gX2_markAsked_X5_owed : GoodIn wsX2_markAsked (wsV RX2 34 RX5 yX5_owed wsX5_owed) := goodIn_app (goodIn_of _ (by decide +kernel)) ggX2_markAsked_X5_owed
theorem dX2_markAsked_0 : decode cX2_markAsked 0 = .ok (.aload_n 2, 1) := by decide +kernel
theorem dX2_markAsked_1 : decode cX2_markAsked 1 = .ok (.bipush 21, 2) := by decide +kernel
theorem dX2_markAsked_3 : decode cX2_markAsked 3 = .ok (.invokevirtual 7, 3) := by decide +kernel
theorem dX2_markAsked_6 : decode cX2_markAsked 6 = .ok (.aload_n 0, 1) := by decide +kernel
theorem dX2_markAsked_7 : decode cX2_markAsked 7 = .ok (.aload_n 1, 1) := by decide +kernel
theorem dX2_markAsked_8 : decode cX2_markAsked 8 = .ok (.aload_n 2, 1) := by decide +kernel
theorem dX2_markAsked_9 : decode cX2_markAsked 9 = .ok (.invokespecial 22, 3) := by decide +kernel
theorem dX2_markAsked_12 : decode cX2_markAsked 12 = .ok (.lstore_n 3, 1) := by decide +kernel
theorem dX2_markAsked_13 : decode cX2_markAsked 13 = .ok (.lload_n 3, 1) := by decide +kernel
theorem dX2_markAsked_14 : decode cX2_markAsked 14 = .ok (.ldc2_w 23, 3) := by decide +kernel
theorem dX2_markAsked_17 : decode cX2_markAsked 17 = .ok (.aload_n 1, 1) := by decide +kernel
theorem dX2_markAsked_18 : decode cX2_markAsked 18 = .ok (.aload_n 1, 1) := by decide +kernel
theorem dX2_markAsked_19 : decode cX2_markAsked 19 = .ok (.getfield 25, 3) := by decide +kernel
theorem dX2_markAsked_22 : decode cX2_markAsked 22 = .ok (.aload_n 0, 1) := by decide +kernel
theorem dX2_markAsked_23 : decode cX2_markAsked 23 = .ok (.getfield 31, 3) := by decide +kernel
theorem dX2_markAsked_26 : decode cX2_markAsked 26 = .ok (.invokevirtual 34, 3) := by decide +kernel
theorem dX2_markAsked_29 : decode cX2_markAsked 29 = .ok (.i2l, 1) := by decide +kernel
theorem dX2_markAsked_30 : decode cX2_markAsked 30 = .ok (.lmul, 1) := by decide +kernel
theorem dX2_markAsked_31 : decode cX2_markAsked 31 = .ok (.ladd, 1) := by decide +kernel
theorem dX2_markAsked_32 : decode cX2_markAsked 32 = .ok (.lreturn, 1) := by decide +kernel
set_option maxRecDepth 20000 in
theorem ggX3_init_X2_init : GoodIn wsX3_init wsX2_init := goodIn_r _ [4, 5, 6, 7, 8, 9, 10, 11, 12, 13, 14, 15, 16, 17, 18, 19, 20, 21, 22, 23, 24, 25, 26, 27, 28, 29] (by decide +kernel) (by decide +kernel)
set_option maxRecDepth 20000 in
theorem gX3_init_X2_init : GoodIn wsX3_init (wsX2_init) := ggX3_init_X2_init
theorem dX3_init_0 : decode cX3_init 0 = .ok (.aload_n 0, 1) := by decide +kernel
theorem dX3_init_1 : decode cX3_init 1 = .ok (.iload_n 1, 1) := by decide +kernel
theorem dX3_init_2 : decode cX3_init 2 = .ok (.iconst 1, 1) := by decide +kernel
theorem dX3_init_3 : decode cX3_init 3 = .ok (.iload_n 2, 1) := by decide +kernel
theorem dX3_init_4 : decode cX3_init 4 = .ok (.invokespecial 1, 3) := by decide +kernel
theorem dX3_init_7 : decode cX3_init 7 = .ok (.return_, 1) := by decide +kernel
theorem dX3_kindTold_0 : decode cX3_kindTold 0 = .ok (.iconst 5, 1) := by decide +kernel
theorem dX3_kindTold_1 : decode cX3_kindTold 1 = .ok (.ireturn, 1) := by decide +kernel
set_option maxRecDepth 20000 in
theorem ggX3_sizeAsked_X8_begin : GoodIn wsX3_sizeAsked wsX8_begin := goodIn_r _ [6, 7, 8, 54, 55] (by decide +kernel) (by decide +kernel)
set_option maxRecDepth 20000 in
theorem gX3_sizeAsked_X8_begin : GoodIn wsX3_sizeAsked (wsV RX3 7 RX8 yX8_begin wsX8_begin) := goodIn_app (goodIn_of _ (by decide +kernel)) ggX3_sizeAsked_X8_begin
set_option maxRecDepth 20000 in
theorem ggX3_sizeAsked_X2_sizeAsked : GoodIn wsX3_sizeAsked wsX2_sizeAsked := goodIn_r _ [14, 15, 3, 4, 5, 6, 7, 8, 16, 17, 18, 19, 20, 21, 22, 23, 24, 25, 26, 27, 13, 28, 29, 30, 31, 32, 33, 34, 35, 36, 37, 38, 39, 40, 41, 42, 43, 44, 45, 46, 47, 48, 49, 50, 51, 52, 2, 53, 11, 54, 55, 56, 57, 58, 59, 60, 61, 62, 63, 64, 65, 66, 67, 68, 69, 70, 71, 72, 73, 74, 75, 76, 77, 78, 79, 80, 81, 82, 83, 84, 85, 86] (by decide +kernel) (by decide +kernel)
set_option maxRecDepth 20000 in
theorem gX3_sizeAsked_X2_sizeAsked_s15 : GoodIn wsX3_sizeAsked (va_wsSU RX3 15 yX2_sizeAsked wsX2_sizeAsked) := goodIn_app (goodIn_of _ (by decide +kernel)) ggX3_sizeAsked_X2_sizeAsked
theorem dX3_sizeAsked_0 : decode cX3_sizeAsked 0 = .ok (.aload_n 2, 1) := by decide +kernel
theorem dX3_sizeAsked_1 : decode cX3_sizeAsked 1 = .ok (.bipush 14, 2) := by decide +kernel
theorem dX3_sizeAsked_3 : decode cX3_sizeAsked 3 = .ok (.invokevirtual 7, 3) := by decide +kernel
theorem dX3_sizeAsked_6 : decode cX3_sizeAsked 6 = .ok (.ldc2_w 13, 3) := by decide +kernel
theorem dX3_sizeAsked_9 : decode cX3_sizeAsked 9 = .ok (.aload_n 0, 1) := by decide +kernel
theorem dX3_sizeAsked_10 : decode cX3_sizeAsked 10 = .ok (.aload_n 1, 1) := by decide +kernel
theorem dX3_sizeAsked_11 : decode cX3_sizeAsked 11 = .ok (.aload_n 2, 1) := by decide +kernel
theorem dX3_sizeAsked_12 : decode cX3_sizeAsked 12 = .ok (.invokespecial 15, 3) := by decide +kernel
theorem dX3_sizeAsked_15 : decode cX3_sizeAsked 15 = .ok (.lmul, 1) := by decide +kernel
theorem dX3_sizeAsked_16 : decode cX3_sizeAsked 16 = .ok (.lreturn, 1) := by decide +kernel
set_option maxRecDepth 20000 in
theorem ggX3_markAsked_X8_begin : GoodIn wsX3_markAsked wsX8_begin := goodIn_r _ [6, 7, 8, 35, 36] (by decide +kernel) (by decide +kernel)
set_option maxRecDepth 20000 in
theorem gX3_markAsked_X8_begin : GoodIn wsX3_markAsked (wsV RX3 7 RX8 yX8_begin wsX8_begin) := goodIn_app (goodIn_of _ (by decide +kernel)) ggX3_markAsked_X8_begin
set_option maxRecDepth 20000 in
theorem ggX3_markAsked_X2_markAsked : GoodIn wsX3_markAsked wsX2_markAsked := goodIn_r _ [14, 15, 16, 17, 18, 19, 3, 4, 5, 6, 7, 8, 20, 21, 22, 23, 24, 25, 26, 27, 28, 29, 30, 31, 32, 33, 34, 37, 38, 39, 40, 41, 42, 43, 44, 45, 46, 47, 48, 49, 50, 51, 52, 53, 54, 55, 56, 57, 58, 59, 60, 61, 62, 63, 64, 65, 66, 67, 35, 36] (by decide +kernel) (by decide +kernel)
set_option maxRecDepth 20000 in
theorem gX3_markAsked_X2_markAsked_s19 : GoodIn wsX3_markAsked (va_wsSU RX3 19 yX2_markAsked wsX2_markAsked) := goodIn_app (goodIn_of _ (by decide +kernel)) ggX3_markAsked_X2_markAsked
theorem dX3_markAsked_0 : decode cX3_markAsked 0 = .ok (.aload_n 2, 1) := by decide +kernel
theorem dX3_markAsked_1 : decode cX3_markAsked 1 = .ok (.bipush 24, 2) := by decide +kernel
theorem dX3_markAsked_3 : decode cX3_markAsked 3 = .ok (.invokevirtual 7, 3) := by decide +kernel
theorem dX3_markAsked_6 : decode cX3_markAsked 6 = .ok (.aload_n 0, 1) := by decide +kernel
theorem dX3_markAsked_7 : decode cX3_markAsked 7 = .ok (.aload_n 1, 1) := by decide +kernel
theorem dX3_markAsked_8 : decode cX3_markAsked 8 = .ok (.aload_n 2, 1) := by decide +kernel
theorem dX3_markAsked_9 : decode cX3_markAsked 9 = .ok (.invokespecial 19, 3) := by decide +kernel
theorem dX3_markAsked_12 : decode cX3_markAsked 12 = .ok (.ldc2_w 22, 3) := by decide +kernel
theorem dX3_markAsked_15 : decode cX3_markAsked 15 = .ok (.lsub, 1) := by decide +kernel
theorem dX3_markAsked_16 : decode cX3_markAsked 16 = .ok (.lreturn, 1) := by decide +kernel
theorem dX4_init_0 : decode cX4_init 0 = .ok (.aload_n 0, 1) := by decide +kernel
theorem dX4_init_1 : decode cX4_init 1 = .ok (.invokespecial 1, 3) := by decide +kernel
theorem dX4_init_4 : decode cX4_init 4 = .ok (.aload_n 0, 1) := by decide +kernel
theorem dX4_init_5 : decode cX4_init 5 = .ok (.iload_n 1, 1) := by decide +kernel
theorem dX4_init_6 : decode cX4_init 6 = .ok (.putfield 7, 3) := by decide +kernel
theorem dX4_init_9 : decode cX4_init 9 = .ok (.aload_n 0, 1) := by decide +kernel
theorem dX4_init_10 : decode cX4_init 10 = .ok (.iload_n 2, 1) := by decide +kernel
theorem dX4_init_11 : decode cX4_init 11 = .ok (.putfield 13, 3) := by decide +kernel
theorem dX4_init_14 : decode cX4_init 14 = .ok (.aload_n 0, 1) := by decide +kernel
theorem dX4_init_15 : decode cX4_init 15 = .ok (.iload_n 3, 1) := by decide +kernel
theorem dX4_init_16 : decode cX4_init 16 = .ok (.putfield 16, 3) := by decide +kernel
theorem dX4_init_19 : decode cX4_init 19 = .ok (.return_, 1) := by decide +kernel
set_option maxRecDepth 20000 in
theorem ggX4_sizeAsked_X8_begin : GoodIn wsX4_sizeAsked wsX8_begin := goodIn_r _ [6, 7, 8, 24, 25] (by decide +kernel) (by decide +kernel)
set_option maxRecDepth 20000 in
theorem gX4_sizeAsked_X8_begin : GoodIn wsX4_sizeAsked (wsV RX4 19 RX8 yX8_begin wsX8_begin) := goodIn_app (goodIn_of _ (by decide +kernel)) ggX4_sizeAsked_X8_begin
theorem dX4_sizeAsked_0 : decode cX4_sizeAsked 0 = .ok (.aload_n 2, 1) := by decide +kernel
theorem dX4_sizeAsked_1 : decode cX4_sizeAsked 1 = .ok (.bipush 10, 2) := by decide +kernel
theorem dX4_sizeAsked_3 : decode cX4_sizeAsked 3 = .ok (.invokevirtual 19, 3) := by decide +kernel
theorem dX4_sizeAsked_6 : decode cX4_sizeAsked 6 = .ok (.aload_n 0, 1) := by decide +kernel
theorem dX4_sizeAsked_7 : decode cX4_sizeAsked 7 = .ok (.getfield 13, 3) := by decide +kernel
theorem dX4_sizeAsked_10 : decode cX4_sizeAsked 10 = .ok (.i2l, 1) := by decide +kernel
theorem dX4_sizeAsked_11 : decode cX4_sizeAsked 11 = .ok (.lreturn, 1) := by decide +kernel
set_option maxRecDepth 20000 in
theorem ggX4_markAsked_X8_begin : GoodIn wsX4_markAsked wsX8_begin := goodIn_r _ [6, 7, 8, 24, 25] (by decide +kernel) (by decide +kernel)
set_option maxRecDepth 20000 in
theorem gX4_markAsked_X8_begin : GoodIn wsX4_markAsked (wsV RX4 19 RX8 yX8_begin wsX8_begin) := goodIn_app (goodIn_of _ (by decide +kernel)) ggX4_markAsked_X8_begin
theorem dX4_markAsked_0 : decode cX4_markAsked 0 = .ok (.aload_n 2, 1) := by decide +kernel
theorem dX4_markAsked_1 : decode cX4_markAsked 1 = .ok (.bipush 20, 2) := by decide +kernel
theorem dX4_markAsked_3 : decode cX4_markAsked 3 = .ok (.invokevirtual 19, 3) := by decide +kernel
theorem dX4_markAsked_6 : decode cX4_markAsked 6 = .ok (.aload_n 0, 1) := by decide +kernel
theorem dX4_markAsked_7 : decode cX4_markAsked 7 = .ok (.getfield 7, 3) := by decide +kernel
theorem dX4_markAsked_10 : decode cX4_markAsked 10 = .ok (.i2l, 1) := by decide +kernel
theorem dX4_markAsked_11 : decode cX4_markAsked 11 = .ok (.lreturn, 1) := by decide +kernel
theorem dX5_init_0 : decode cX5_init 0 = .ok (.aload_n 0, 1) := by decide +kernel
theorem dX5_init_1 : decode cX5_init 1 = .ok (.invokespecial 3, 3) := by decide +kernel
theorem dX5_init_4 : decode cX5_init 4 = .ok (.aload_n 0, 1) := by decide +kernel
theorem dX5_init_5 : decode cX5_init 5 = .ok (.bipush 6, 2) := by decide +kernel
theorem dX5_init_7 : decode cX5_init 7 = .ok (.newarray .int, 2) := by decide +kernel
theorem dX5_init_9 : decode cX5_init 9 = .ok (.putfield 9, 3) := by decide +kernel
theorem dX5_init_12 : decode cX5_init 12 = .ok (.aload_n 0, 1) := by decide +kernel
theorem dX5_init_13 : decode cX5_init 13 = .ok (.bipush 6, 2) := by decide +kernel
theorem dX5_init_15 : decode cX5_init 15 = .ok (.newarray .int, 2) := by decide +kernel
theorem dX5_init_17 : decode cX5_init 17 = .ok (.putfield 15, 3) := by decide +kernel
theorem dX5_init_20 : decode cX5_init 20 = .ok (.aload_n 0, 1) := by decide +kernel
theorem dX5_init_21 : decode cX5_init 21 = .ok (.bipush 16, 2) := by decide +kernel
theorem dX5_init_23 : decode cX5_init 23 = .ok (.newarray .int, 2) := by decide +kernel
theorem dX5_init_25 : decode cX5_init 25 = .ok (.putfield 18, 3) := by decide +kernel
theorem dX5_init_28 : decode cX5_init 28 = .ok (.aload_n 0, 1) := by decide +kernel
theorem dX5_init_29 : decode cX5_init 29 = .ok (.bipush 16, 2) := by decide +kernel
theorem dX5_init_31 : decode cX5_init 31 = .ok (.newarray .int, 2) := by decide +kernel
theorem dX5_init_33 : decode cX5_init 33 = .ok (.putfield 21, 3) := by decide +kernel
theorem dX5_init_36 : decode cX5_init 36 = .ok (.aload_n 0, 1) := by decide +kernel
theorem dX5_init_37 : decode cX5_init 37 = .ok (.bipush 16, 2) := by decide +kernel
theorem dX5_init_39 : decode cX5_init 39 = .ok (.newarray .int, 2) := by decide +kernel
theorem dX5_init_41 : decode cX5_init 41 = .ok (.putfield 24, 3) := by decide +kernel
theorem dX5_init_44 : decode cX5_init 44 = .ok (.aload_n 0, 1) := by decide +kernel
theorem dX5_init_45 : decode cX5_init 45 = .ok (.bipush 16, 2) := by decide +kernel
theorem dX5_init_47 : decode cX5_init 47 = .ok (.newarray .int, 2) := by decide +kernel
theorem dX5_init_49 : decode cX5_init 49 = .ok (.putfield 27, 3) := by decide +kernel
theorem dX5_init_52 : decode cX5_init 52 = .ok (.aload_n 0, 1) := by decide +kernel
theorem dX5_init_53 : decode cX5_init 53 = .ok (.bipush 16, 2) := by decide +kernel
theorem dX5_init_55 : decode cX5_init 55 = .ok (.anewarray 30, 3) := by decide +kernel
theorem dX5_init_58 : decode cX5_init 58 = .ok (.putfield 32, 3) := by decide +kernel
theorem dX5_init_61 : decode cX5_init 61 = .ok (.return_, 1) := by decide +kernel
set_option maxRecDepth 20000 in
theorem ggX5_empty_J7_fill_53178 : GoodIn wsX5_empty wsJ7_fill_53178 := goodIn_r _ [17] (by decide +kernel) (by decide +kernel)
set_option maxRecDepth 20000 in
theorem gX5_empty_J7_fill_53178 : GoodIn wsX5_empty (va_wsS RX5 65 yJ7_fill_53178 wsJ7_fill_53178) := goodIn_app (goodIn_of _ (by decide +kernel)) ggX5_empty_J7_fill_53178
theorem dX5_empty_0 : decode cX5_empty 0 = .ok (.aload_n 0, 1) := by decide +kernel
theorem dX5_empty_1 : decode cX5_empty 1 = .ok (.iconst 0, 1) := by decide +kernel
theorem dX5_empty_2 : decode cX5_empty 2 = .ok (.putfield 36, 3) := by decide +kernel
theorem dX5_empty_5 : decode cX5_empty 5 = .ok (.aload_n 0, 1) := by decide +kernel
theorem dX5_empty_6 : decode cX5_empty 6 = .ok (.iconst 0, 1) := by decide +kernel
theorem dX5_empty_7 : decode cX5_empty 7 = .ok (.putfield 40, 3) := by decide +kernel
theorem dX5_empty_10 : decode cX5_empty 10 = .ok (.aload_n 0, 1) := by decide +kernel
theorem dX5_empty_11 : decode cX5_empty 11 = .ok (.iconst 0, 1) := by decide +kernel
theorem dX5_empty_12 : decode cX5_empty 12 = .ok (.putfield 44, 3) := by decide +kernel
theorem dX5_empty_15 : decode cX5_empty 15 = .ok (.aload_n 0, 1) := by decide +kernel
theorem dX5_empty_16 : decode cX5_empty 16 = .ok (.iconst 0, 1) := by decide +kernel
theorem dX5_empty_17 : decode cX5_empty 17 = .ok (.putfield 47, 3) := by decide +kernel
theorem dX5_empty_20 : decode cX5_empty 20 = .ok (.aload_n 0, 1) := by decide +kernel
theorem dX5_empty_21 : decode cX5_empty 21 = .ok (.iconst 0, 1) := by decide +kernel
theorem dX5_empty_22 : decode cX5_empty 22 = .ok (.putfield 50, 3) := by decide +kernel
theorem dX5_empty_25 : decode cX5_empty 25 = .ok (.aload_n 0, 1) := by decide +kernel
theorem dX5_empty_26 : decode cX5_empty 26 = .ok (.iconst 0, 1) := by decide +kernel
theorem dX5_empty_27 : decode cX5_empty 27 = .ok (.putfield 53, 3) := by decide +kernel
theorem dX5_empty_30 : decode cX5_empty 30 = .ok (.aload_n 0, 1) := by decide +kernel
theorem dX5_empty_31 : decode cX5_empty 31 = .ok (.iconst 0, 1) := by decide +kernel
theorem dX5_empty_32 : decode cX5_empty 32 = .ok (.putfield 56, 3) := by decide +kernel
theorem dX5_empty_35 : decode cX5_empty 35 = .ok (.aload_n 0, 1) := by decide +kernel
theorem dX5_empty_36 : decode cX5_empty 36 = .ok (.iconst 0, 1) := by decide +kernel
theorem dX5_empty_37 : decode cX5_empty 37 = .ok (.putfield 59, 3) := by decide +kernel
theorem dX5_empty_40 : decode cX5_empty 40 = .ok (.aload_n 0, 1) := by decide +kernel
theorem dX5_empty_41 : decode cX5_empty 41 = .ok (.iconst 0, 1) := by decide +kernel
theorem dX5_empty_42 : decode cX5_empty 42 = .ok (.putfield 62, 3) := by decide +kernel
theorem dX5_empty_45 : decode cX5_empty 45 = .ok (.aload_n 0, 1) := by decide +kernel
theorem dX5_empty_46 : decode cX5_empty 46 = .ok (.getfield 18, 3) := by decide +kernel
theorem dX5_empty_49 : decode cX5_empty 49 = .ok (.iconst 0, 1) := by decide +kernel
theorem dX5_empty_50 : decode cX5_empty 50 = .ok (.invokestatic 65, 3) := by decide +kernel
theorem dX5_empty_53 : decode cX5_empty 53 = .ok (.aload_n 0, 1) := by decide +kernel
theorem dX5_empty_54 : decode cX5_empty 54 = .ok (.getfield 21, 3) := by decide +kernel
theorem dX5_empty_57 : decode cX5_empty 57 = .ok (.iconst 0, 1) := by decide +kernel
theorem dX5_empty_58 : decode cX5_empty 58 = .ok (.invokestatic 65, 3) := by decide +kernel
theorem dX5_empty_61 : decode cX5_empty 61 = .ok (.aload_n 0, 1) := by decide +kernel
theorem dX5_empty_62 : decode cX5_empty 62 = .ok (.getfield 24, 3) := by decide +kernel
theorem dX5_empty_65 : decode cX5_empty 65 = .ok (.iconst 0, 1) := by decide +kernel
theorem dX5_empty_66 : decode cX5_empty 66 = .ok (.invokestatic 65, 3) := by decide +kernel
theorem dX5_empty_69 : decode cX5_empty 69 = .ok (.aload_n 0, 1) := by decide +kernel
theorem dX5_empty_70 : decode cX5_empty 70 = .ok (.getfield 27, 3) := by decide +kernel
theorem dX5_empty_73 : decode cX5_empty 73 = .ok (.iconst 0, 1) := by decide +kernel
theorem dX5_empty_74 : decode cX5_empty 74 = .ok (.invokestatic 65, 3) := by decide +kernel
theorem dX5_empty_77 : decode cX5_empty 77 = .ok (.return_, 1) := by decide +kernel
theorem dX5_becomeLike_0 : decode cX5_becomeLike 0 = .ok (.aload_n 0, 1) := by decide +kernel
theorem dX5_becomeLike_1 : decode cX5_becomeLike 1 = .ok (.aload_n 1, 1) := by decide +kernel
theorem dX5_becomeLike_2 : decode cX5_becomeLike 2 = .ok (.getfield 36, 3) := by decide +kernel
theorem dX5_becomeLike_5 : decode cX5_becomeLike 5 = .ok (.putfield 36, 3) := by decide +kernel
theorem dX5_becomeLike_8 : decode cX5_becomeLike 8 = .ok (.aload_n 0, 1) := by decide +kernel
theorem dX5_becomeLike_9 : decode cX5_becomeLike 9 = .ok (.aload_n 1, 1) := by decide +kernel
theorem dX5_becomeLike_10 : decode cX5_becomeLike 10 = .ok (.getfield 40, 3) := by decide +kernel
theorem dX5_becomeLike_13 : decode cX5_becomeLike 13 = .ok (.putfield 40, 3) := by decide +kernel
theorem dX5_becomeLike_16 : decode cX5_becomeLike 16 = .ok (.aload_n 0, 1) := by decide +kernel
theorem dX5_becomeLike_17 : decode cX5_becomeLike 17 = .ok (.aload_n 1, 1) := by decide +kernel
theorem dX5_becomeLike_18 : decode cX5_becomeLike 18 = .ok (.getfield 44, 3) := by decide +kernel
theorem dX5_becomeLike_21 : decode cX5_becomeLike 21 = .ok (.putfield 44, 3) := by decide +kernel
theorem dX5_becomeLike_24 : decode cX5_becomeLike 24 = .ok (.aload_n 0, 1) := by decide +kernel
theorem dX5_becomeLike_25 : decode cX5_becomeLike 25 = .ok (.aload_n 1, 1) := by decide +kernel
theorem dX5_becomeLike_26 : decode cX5_becomeLike 26 = .ok (.getfield 47, 3) := by decide +kernel
theorem dX5_becomeLike_29 : decode cX5_becomeLike 29 = .ok (.putfield 47, 3) := by decide +kernel
theorem dX5_becomeLike_32 : decode cX5_becomeLike 32 = .ok (.aload_n 0, 1) := by decide +kernel
theorem dX5_becomeLike_33 : decode cX5_becomeLike 33 = .ok (.aload_n 1, 1) := by decide +kernel
theorem dX5_becomeLike_34 : decode cX5_becomeLike 34 = .ok (.getfield 50, 3) := by decide +kernel
theorem dX5_becomeLike_37 : decode cX5_becomeLike 37 = .ok (.putfield 50, 3) := by decide +kernel
theorem dX5_becomeLike_40 : decode cX5_becomeLike 40 = .ok (.aload_n 0, 1) := by decide +kernel
theorem dX5_becomeLike_41 : decode cX5_becomeLike 41 = .ok (.aload_n 1, 1) := by decide +kernel
theorem dX5_becomeLike_42 : decode cX5_becomeLike 42 = .ok (.getfield 53, 3) := by decide +kernel
theorem dX5_becomeLike_45 : decode cX5_becomeLike 45 = .ok (.putfield 53, 3) := by decide +kernel
theorem dX5_becomeLike_48 : decode cX5_becomeLike 48 = .ok (.aload_n 0, 1) := by decide +kernel
theorem dX5_becomeLike_49 : decode cX5_becomeLike 49 = .ok (.aload_n 1, 1) := by decide +kernel
theorem dX5_becomeLike_50 : decode cX5_becomeLike 50 = .ok (.getfield 56, 3) := by decide +kernel
theorem dX5_becomeLike_53 : decode cX5_becomeLike 53 = .ok (.putfield 56, 3) := by decide +kernel
theorem dX5_becomeLike_56 : decode cX5_becomeLike 56 = .ok (.aload_n 0, 1) := by decide +kernel
theorem dX5_becomeLike_57 : decode cX5_becomeLike 57 = .ok (.aload_n 1, 1) := by decide +kernel
theorem dX5_becomeLike_58 : decode cX5_becomeLike 58 = .ok (.getfield 59, 3) := by decide +kernel
theorem dX5_becomeLike_61 : decode cX5_becomeLike 61 = .ok (.putfield 59, 3) := by decide +kernel
theorem dX5_becomeLike_64 : decode cX5_becomeLike 64 = .ok (.aload_n 0, 1) := by decide +kernel
theorem dX5_becomeLike_65 : decode cX5_becomeLike 65 = .ok (.aload_n 1, 1) := by decide +kernel
theorem dX5_becomeLike_66 : decode cX5_becomeLike 66 = .ok (.getfield 62, 3) := by decide +kernel
theorem dX5_becomeLike_69 : decode cX5_becomeLike 69 = .ok (.putfield 62, 3) := by decide +kernel
theorem dX5_becomeLike_72 : decode cX5_becomeLike 72 = .ok (.aload_n 1, 1) := by decide +kernel
theorem dX5_becomeLike_73 : decode cX5_becomeLike 73 = .ok (.getfield 9, 3) := by decide +kernel
theorem dX5_becomeLike_76 : decode cX5_becomeLike 76 = .ok (.iconst 0, 1) := by decide +kernel
theorem dX5_becomeLike_77 : decode cX5_becomeLike 77 = .ok (.aload_n 0, 1) := by decide +kernel
theorem dX5_becomeLike_78 : decode cX5_becomeLike 78 = .ok (.getfield 9, 3) := by decide +kernel
theorem dX5_becomeLike_81 : decode cX5_becomeLike 81 = .ok (.iconst 0, 1) := by decide +kernel
theorem dX5_becomeLike_82 : decode cX5_becomeLike 82 = .ok (.bipush 6, 2) := by decide +kernel
theorem dX5_becomeLike_84 : decode cX5_becomeLike 84 = .ok (.invokestatic 71, 3) := by decide +kernel
theorem dX5_becomeLike_87 : decode cX5_becomeLike 87 = .ok (.aload_n 1, 1) := by decide +kernel
theorem dX5_becomeLike_88 : decode cX5_becomeLike 88 = .ok (.getfield 15, 3) := by decide +kernel
theorem dX5_becomeLike_91 : decode cX5_becomeLike 91 = .ok (.iconst 0, 1) := by decide +kernel
theorem dX5_becomeLike_92 : decode cX5_becomeLike 92 = .ok (.aload_n 0, 1) := by decide +kernel
theorem dX5_becomeLike_93 : decode cX5_becomeLike 93 = .ok (.getfield 15, 3) := by decide +kernel
theorem dX5_becomeLike_96 : decode cX5_becomeLike 96 = .ok (.iconst 0, 1) := by decide +kernel
theorem dX5_becomeLike_97 : decode cX5_becomeLike 97 = .ok (.bipush 6, 2) := by decide +kernel
theorem dX5_becomeLike_99 : decode cX5_becomeLike 99 = .ok (.invokestatic 71, 3) := by decide +kernel
theorem dX5_becomeLike_102 : decode cX5_becomeLike 102 = .ok (.aload_n 1, 1) := by decide +kernel
theorem dX5_becomeLike_103 : decode cX5_becomeLike 103 = .ok (.getfield 18, 3) := by decide +kernel
theorem dX5_becomeLike_106 : decode cX5_becomeLike 106 = .ok (.iconst 0, 1) := by decide +kernel
theorem dX5_becomeLike_107 : decode cX5_becomeLike 107 = .ok (.aload_n 0, 1) := by decide +kernel
theorem dX5_becomeLike_108 : decode cX5_becomeLike 108 = .ok (.getfield 18, 3) := by decide +kernel
theorem dX5_becomeLike_111 : decode cX5_becomeLike 111 = .ok (.iconst 0, 1) := by decide +kernel
theorem dX5_becomeLike_112 : decode cX5_becomeLike 112 = .ok (.bipush 16, 2) := by decide +kernel
theorem dX5_becomeLike_114 : decode cX5_becomeLike 114 = .ok (.invokestatic 71, 3) := by decide +kernel
theorem dX5_becomeLike_117 : decode cX5_becomeLike 117 = .ok (.aload_n 1, 1) := by decide +kernel
theorem dX5_becomeLike_118 : decode cX5_becomeLike 118 = .ok (.getfield 21, 3) := by decide +kernel
theorem dX5_becomeLike_121 : decode cX5_becomeLike 121 = .ok (.iconst 0, 1) := by decide +kernel
theorem dX5_becomeLike_122 : decode cX5_becomeLike 122 = .ok (.aload_n 0, 1) := by decide +kernel
theorem dX5_becomeLike_123 : decode cX5_becomeLike 123 = .ok (.getfield 21, 3) := by decide +kernel
theorem dX5_becomeLike_126 : decode cX5_becomeLike 126 = .ok (.iconst 0, 1) := by decide +kernel
theorem dX5_becomeLike_127 : decode cX5_becomeLike 127 = .ok (.bipush 16, 2) := by decide +kernel
theorem dX5_becomeLike_129 : decode cX5_becomeLike 129 = .ok (.invokestatic 71, 3) := by decide +kernel
theorem dX5_becomeLike_132 : decode cX5_becomeLike 132 = .ok (.aload_n 1, 1) := by decide +kernel
theorem dX5_becomeLike_133 : decode cX5_becomeLike 133 = .ok (.getfield 24, 3) := by decide +kernel
theorem dX5_becomeLike_136 : decode cX5_becomeLike 136 = .ok (.iconst 0, 1) := by decide +kernel
theorem dX5_becomeLike_137 : decode cX5_becomeLike 137 = .ok (.aload_n 0, 1) := by decide +kernel
theorem dX5_becomeLike_138 : decode cX5_becomeLike 138 = .ok (.getfield 24, 3) := by decide +kernel
theorem dX5_becomeLike_141 : decode cX5_becomeLike 141 = .ok (.iconst 0, 1) := by decide +kernel
theorem dX5_becomeLike_142 : decode cX5_becomeLike 142 = .ok (.bipush 16, 2) := by decide +kernel
theorem dX5_becomeLike_144 : decode cX5_becomeLike 144 = .ok (.invokestatic 71, 3) := by decide +kernel
theorem dX5_becomeLike_147 : decode cX5_becomeLike 147 = .ok (.aload_n 1, 1) := by decide +kernel
theorem dX5_becomeLike_148 : decode cX5_becomeLike 148 = .ok (.getfield 27, 3) := by decide +kernel
theorem dX5_becomeLike_151 : decode cX5_becomeLike 151 = .ok (.iconst 0, 1) := by decide +kernel
theorem dX5_becomeLike_152 : decode cX5_becomeLike 152 = .ok (.aload_n 0, 1) := by decide +kernel
theorem dX5_becomeLike_153 : decode cX5_becomeLike 153 = .ok (.getfield 27, 3) := by decide +kernel
theorem dX5_becomeLike_156 : decode cX5_becomeLike 156 = .ok (.iconst 0, 1) := by decide +kernel
theorem dX5_becomeLike_157 : decode cX5_becomeLike 157 = .ok (.bipush 16, 2) := by decide +kernel
theorem dX5_becomeLike_159 : decode cX5_becomeLike 159 = .ok (.invokestatic 71, 3) := by decide +kernel
theorem dX5_becomeLike_162 : decode cX5_becomeLike 162 = .ok (.iconst 0, 1) := by decide +kernel
theorem dX5_becomeLike_163 : decode cX5_becomeLike 163 = .ok (.istore_n 2, 1) := by decide +kernel
theorem dX5_becomeLike_164 : decode cX5_becomeLike 164 = .ok (.iload_n 2, 1) := by decide +kernel
theorem dX5_becomeLike_165 : decode cX5_becomeLike 165 = .ok (.bipush 16, 2) := by decide +kernel
theorem dX5_becomeLike_167 : decode cX5_becomeLike 167 = .ok (.if_icmp .ge 21, 3) := by decide +kernel
theorem dX5_becomeLike_170 : decode cX5_becomeLike 170 = .ok (.aload_n 0, 1) := by decide +kernel
theorem dX5_becomeLike_171 : decode cX5_becomeLike 171 = .ok (.getfield 32, 3) := by decide +kernel
theorem dX5_becomeLike_174 : decode cX5_becomeLike 174 = .ok (.iload_n 2, 1) := by decide +kernel
theorem dX5_becomeLike_175 : decode cX5_becomeLike 175 = .ok (.aload_n 1, 1) := by decide +kernel
theorem dX5_becomeLike_176 : decode cX5_becomeLike 176 = .ok (.getfield 32, 3) := by decide +kernel
theorem dX5_becomeLike_179 : decode cX5_becomeLike 179 = .ok (.iload_n 2, 1) := by decide +kernel
theorem dX5_becomeLike_180 : decode cX5_becomeLike 180 = .ok (.aaload, 1) := by decide +kernel
theorem dX5_becomeLike_181 : decode cX5_becomeLike 181 = .ok (.aastore, 1) := by decide +kernel
theorem dX5_becomeLike_182 : decode cX5_becomeLike 182 = .ok (.iinc 2 1, 3) := by decide +kernel
theorem dX5_becomeLike_185 : decode cX5_becomeLike 185 = .ok (.goto (-21), 3) := by decide +kernel
theorem dX5_becomeLike_188 : decode cX5_becomeLike 188 = .ok (.return_, 1) := by decide +kernel
theorem dX5_partyAt_0 : decode cX5_partyAt 0 = .ok (.iload_n 1, 1) := by decide +kernel
theorem dX5_partyAt_1 : decode cX5_partyAt 1 = .ok (.ifCond .lt 20, 3) := by decide +kernel
theorem dX5_partyAt_4 : decode cX5_partyAt 4 = .ok (.iload_n 1, 1) := by decide +kernel
theorem dX5_partyAt_5 : decode cX5_partyAt 5 = .ok (.aload_n 0, 1) := by decide +kernel
theorem dX5_partyAt_6 : decode cX5_partyAt 6 = .ok (.getfield 56, 3) := by decide +kernel
theorem dX5_partyAt_9 : decode cX5_partyAt 9 = .ok (.if_icmp .ge 12, 3) := by decide +kernel
theorem dX5_partyAt_12 : decode cX5_partyAt 12 = .ok (.aload_n 0, 1) := by decide +kernel
theorem dX5_partyAt_13 : decode cX5_partyAt 13 = .ok (.getfield 32, 3) := by decide +kernel
theorem dX5_partyAt_16 : decode cX5_partyAt 16 = .ok (.iload_n 1, 1) := by decide +kernel
theorem dX5_partyAt_17 : decode cX5_partyAt 17 = .ok (.aaload, 1) := by decide +kernel
theorem dX5_partyAt_18 : decode cX5_partyAt 18 = .ok (.goto 4, 3) := by decide +kernel
theorem dX5_partyAt_21 : decode cX5_partyAt 21 = .ok (.aconst_null, 1) := by decide +kernel
theorem dX5_partyAt_22 : decode cX5_partyAt 22 = .ok (.areturn, 1) := by decide +kernel
theorem dX5_addParty_0 : decode cX5_addParty 0 = .ok (.aload_n 0, 1) := by decide +kernel
theorem dX5_addParty_1 : decode cX5_addParty 1 = .ok (.getfield 56, 3) := by decide +kernel
theorem dX5_addParty_4 : decode cX5_addParty 4 = .ok (.bipush 16, 2) := by decide +kernel
theorem dX5_addParty_6 : decode cX5_addParty 6 = .ok (.if_icmp .ge 23, 3) := by decide +kernel
theorem dX5_addParty_9 : decode cX5_addParty 9 = .ok (.aload_n 0, 1) := by decide +kernel
theorem dX5_addParty_10 : decode cX5_addParty 10 = .ok (.getfield 32, 3) := by decide +kernel
theorem dX5_addParty_13 : decode cX5_addParty 13 = .ok (.aload_n 0, 1) := by decide +kernel
theorem dX5_addParty_14 : decode cX5_addParty 14 = .ok (.getfield 56, 3) := by decide +kernel
theorem dX5_addParty_17 : decode cX5_addParty 17 = .ok (.aload_n 1, 1) := by decide +kernel
theorem dX5_addParty_18 : decode cX5_addParty 18 = .ok (.aastore, 1) := by decide +kernel
theorem dX5_addParty_19 : decode cX5_addParty 19 = .ok (.aload_n 0, 1) := by decide +kernel
theorem dX5_addParty_20 : decode cX5_addParty 20 = .ok (.dup, 1) := by decide +kernel
theorem dX5_addParty_21 : decode cX5_addParty 21 = .ok (.getfield 56, 3) := by decide +kernel
theorem dX5_addParty_24 : decode cX5_addParty 24 = .ok (.iconst 1, 1) := by decide +kernel
theorem dX5_addParty_25 : decode cX5_addParty 25 = .ok (.iadd, 1) := by decide +kernel
theorem dX5_addParty_26 : decode cX5_addParty 26 = .ok (.putfield 56, 3) := by decide +kernel
theorem dX5_addParty_29 : decode cX5_addParty 29 = .ok (.return_, 1) := by decide +kernel
theorem dX5_hasChance_0 : decode cX5_hasChance 0 = .ok (.iconst 0, 1) := by decide +kernel
theorem dX5_hasChance_1 : decode cX5_hasChance 1 = .ok (.istore_n 2, 1) := by decide +kernel
theorem dX5_hasChance_2 : decode cX5_hasChance 2 = .ok (.iload_n 2, 1) := by decide +kernel
theorem dX5_hasChance_3 : decode cX5_hasChance 3 = .ok (.aload_n 0, 1) := by decide +kernel
theorem dX5_hasChance_4 : decode cX5_hasChance 4 = .ok (.getfield 53, 3) := by decide +kernel
theorem dX5_hasChance_7 : decode cX5_hasChance 7 = .ok (.if_icmp .ge 21, 3) := by decide +kernel
theorem dX5_hasChance_10 : decode cX5_hasChance 10 = .ok (.aload_n 0, 1) := by decide +kernel
theorem dX5_hasChance_11 : decode cX5_hasChance 11 = .ok (.getfield 9, 3) := by decide +kernel
theorem dX5_hasChance_14 : decode cX5_hasChance 14 = .ok (.iload_n 2, 1) := by decide +kernel
theorem dX5_hasChance_15 : decode cX5_hasChance 15 = .ok (.iaload, 1) := by decide +kernel
theorem dX5_hasChance_16 : decode cX5_hasChance 16 = .ok (.iload_n 1, 1) := by decide +kernel
theorem dX5_hasChance_17 : decode cX5_hasChance 17 = .ok (.if_icmp .ne 5, 3) := by decide +kernel
theorem dX5_hasChance_20 : decode cX5_hasChance 20 = .ok (.iconst 1, 1) := by decide +kernel
theorem dX5_hasChance_21 : decode cX5_hasChance 21 = .ok (.ireturn, 1) := by decide +kernel
theorem dX5_hasChance_22 : decode cX5_hasChance 22 = .ok (.iinc 2 1, 3) := by decide +kernel
theorem dX5_hasChance_25 : decode cX5_hasChance 25 = .ok (.goto (-23), 3) := by decide +kernel
theorem dX5_hasChance_28 : decode cX5_hasChance 28 = .ok (.iconst 0, 1) := by decide +kernel
theorem dX5_hasChance_29 : decode cX5_hasChance 29 = .ok (.ireturn, 1) := by decide +kernel
theorem dX5_addChance_0 : decode cX5_addChance 0 = .ok (.aload_n 0, 1) := by decide +kernel
theorem dX5_addChance_1 : decode cX5_addChance 1 = .ok (.getfield 53, 3) := by decide +kernel
theorem dX5_addChance_4 : decode cX5_addChance 4 = .ok (.bipush 6, 2) := by decide +kernel
theorem dX5_addChance_6 : decode cX5_addChance 6 = .ok (.if_icmp .ge 33, 3) := by decide +kernel
theorem dX5_addChance_9 : decode cX5_addChance 9 = .ok (.aload_n 0, 1) := by decide +kernel
theorem dX5_addChance_10 : decode cX5_addChance 10 = .ok (.getfield 9, 3) := by decide +kernel
theorem dX5_addChance_13 : decode cX5_addChance 13 = .ok (.aload_n 0, 1) := by decide +kernel
theorem dX5_addChance_14 : decode cX5_addChance 14 = .ok (.getfield 53, 3) := by decide +kernel
theorem dX5_addChance_17 : decode cX5_addChance 17 = .ok (.iload_n 1, 1) := by decide +kernel
theorem dX5_addChance_18 : decode cX5_addChance 18 = .ok (.iastore, 1) := by decide +kernel
theorem dX5_addChance_19 : decode cX5_addChance 19 = .ok (.aload_n 0, 1) := by decide +kernel
theorem dX5_addChance_20 : decode cX5_addChance 20 = .ok (.getfield 15, 3) := by decide +kernel
theorem dX5_addChance_23 : decode cX5_addChance 23 = .ok (.aload_n 0, 1) := by decide +kernel
theorem dX5_addChance_24 : decode cX5_addChance 24 = .ok (.getfield 53, 3) := by decide +kernel
theorem dX5_addChance_27 : decode cX5_addChance 27 = .ok (.iload_n 2, 1) := by decide +kernel
theorem dX5_addChance_28 : decode cX5_addChance 28 = .ok (.iastore, 1) := by decide +kernel
theorem dX5_addChance_29 : decode cX5_addChance 29 = .ok (.aload_n 0, 1) := by decide +kernel
theorem dX5_addChance_30 : decode cX5_addChance 30 = .ok (.dup, 1) := by decide +kernel
theorem dX5_addChance_31 : decode cX5_addChance 31 = .ok (.getfield 53, 3) := by decide +kernel
theorem dX5_addChance_34 : decode cX5_addChance 34 = .ok (.iconst 1, 1) := by decide +kernel
theorem dX5_addChance_35 : decode cX5_addChance 35 = .ok (.iadd, 1) := by decide +kernel
theorem dX5_addChance_36 : decode cX5_addChance 36 = .ok (.putfield 53, 3) := by decide +kernel
theorem dX5_addChance_39 : decode cX5_addChance 39 = .ok (.return_, 1) := by decide +kernel
theorem dX5_owed_0 : decode cX5_owed 0 = .ok (.iload_n 1, 1) := by decide +kernel
theorem dX5_owed_1 : decode cX5_owed 1 = .ok (.lookupswitch 49 #[(0, 27), (1, 39)], 27) := by decide +kernel
theorem dX5_owed_28 : decode cX5_owed 28 = .ok (.aload_n 0, 1) := by decide +kernel
theorem dX5_owed_29 : decode cX5_owed 29 = .ok (.getfield 50, 3) := by decide +kernel
theorem dX5_owed_32 : decode cX5_owed 32 = .ok (.iload_n 2, 1) := by decide +kernel
theorem dX5_owed_33 : decode cX5_owed 33 = .ok (.imul, 1) := by decide +kernel
theorem dX5_owed_34 : decode cX5_owed 34 = .ok (.aload_n 0, 1) := by decide +kernel
theorem dX5_owed_35 : decode cX5_owed 35 = .ok (.getfield 44, 3) := by decide +kernel
theorem dX5_owed_38 : decode cX5_owed 38 = .ok (.imul, 1) := by decide +kernel
theorem dX5_owed_39 : decode cX5_owed 39 = .ok (.ireturn, 1) := by decide +kernel
theorem dX5_owed_40 : decode cX5_owed 40 = .ok (.aload_n 0, 1) := by decide +kernel
theorem dX5_owed_41 : decode cX5_owed 41 = .ok (.getfield 50, 3) := by decide +kernel
theorem dX5_owed_44 : decode cX5_owed 44 = .ok (.aload_n 0, 1) := by decide +kernel
theorem dX5_owed_45 : decode cX5_owed 45 = .ok (.getfield 44, 3) := by decide +kernel
theorem dX5_owed_48 : decode cX5_owed 48 = .ok (.imul, 1) := by decide +kernel
theorem dX5_owed_49 : decode cX5_owed 49 = .ok (.ireturn, 1) := by decide +kernel
theorem dX5_owed_50 : decode cX5_owed 50 = .ok (.aload_n 0, 1) := by decide +kernel
theorem dX5_owed_51 : decode cX5_owed 51 = .ok (.getfield 50, 3) := by decide +kernel
theorem dX5_owed_54 : decode cX5_owed 54 = .ok (.aload_n 0, 1) := by decide +kernel
theorem dX5_owed_55 : decode cX5_owed 55 = .ok (.getfield 44, 3) := by decide +kernel
theorem dX5_owed_58 : decode cX5_owed 58 = .ok (.imul, 1) := by decide +kernel
theorem dX5_owed_59 : decode cX5_owed 59 = .ok (.iload_n 2, 1) := by decide +kernel
theorem dX5_owed_60 : decode cX5_owed 60 = .ok (.iconst 1, 1) := by decide +kernel
theorem dX5_owed_61 : decode cX5_owed 61 = .ok (.isub, 1) := by decide +kernel
theorem dX5_owed_62 : decode cX5_owed 62 = .ok (.aload_n 0, 1) := by decide +kernel
theorem dX5_owed_63 : decode cX5_owed 63 = .ok (.getfield 44, 3) := by decide +kernel
theorem dX5_owed_66 : decode cX5_owed 66 = .ok (.imul, 1) := by decide +kernel
theorem dX5_owed_67 : decode cX5_owed 67 = .ok (.iconst 2, 1) := by decide +kernel
theorem dX5_owed_68 : decode cX5_owed 68 = .ok (.idiv, 1) := by decide +kernel
theorem dX5_owed_69 : decode cX5_owed 69 = .ok (.iadd, 1) := by decide +kernel
theorem dX5_owed_70 : decode cX5_owed 70 = .ok (.ireturn, 1) := by decide +kernel
set_option maxRecDepth 20000 in
theorem ggX5_sleepNight_X5_partyAt : GoodIn wsX5_sleepNight wsX5_partyAt := goodIn_r _ [19, 20, 21, 67, 68, 69, 70, 71, 72, 73, 74, 75, 76, 77, 78, 79, 80, 81, 82] (by decide +kernel) (by decide +kernel)
set_option maxRecDepth 20000 in
theorem gX5_sleepNight_X5_partyAt : GoodIn wsX5_sleepNight (wsV RX5 77 RX5 yX5_partyAt wsX5_partyAt) := goodIn_app (goodIn_of _ (by decide +kernel)) ggX5_sleepNight_X5_partyAt
set_option maxRecDepth 20000 in
theorem ggX5_sleepNight_X5_headsWithout : GoodIn wsX5_sleepNight wsX5_headsWithout := goodIn_r _ [25, 2, 67, 68, 69, 70, 71, 72, 73, 74, 75, 76, 77, 78, 79, 80, 81, 82] (by decide +kernel) (by decide +kernel)
set_option maxRecDepth 20000 in
theorem gX5_sleepNight_X5_headsWithout : GoodIn wsX5_sleepNight (wsV RX5 90 RX5 yX5_headsWithout wsX5_headsWithout) := goodIn_app (goodIn_of _ (by decide +kernel)) ggX5_sleepNight_X5_headsWithout
set_option maxRecDepth 20000 in
theorem ggX5_sleepNight_X5_owed : GoodIn wsX5_sleepNight wsX5_owed := goodIn_r _ [29, 30, 2, 67, 68, 69, 70, 71, 72, 73, 74, 75, 76, 77, 78, 79, 80, 81, 82] (by decide +kernel) (by decide +kernel)
set_option maxRecDepth 20000 in
theorem gX5_sleepNight_X5_owed : GoodIn wsX5_sleepNight (wsV RX5 94 RX5 yX5_owed wsX5_owed) := goodIn_app (goodIn_of _ (by decide +kernel)) ggX5_sleepNight_X5_owed
set_option maxRecDepth 20000 in
theorem ggX5_sleepNight_X1_leaves : GoodIn wsX5_sleepNight wsX1_leaves := goodIn_r _ [36] (by decide +kernel) (by decide +kernel)
set_option maxRecDepth 20000 in
theorem gX5_sleepNight_X1_leaves_u97X1 : GoodIn wsX5_sleepNight (va_wsU RX5 97 RX1 "WoodForTwo$Party" ⟨"WoodForTwo$Party", "leaves", "(III)I"⟩ yX1_leaves wsX1_leaves) := goodIn_app (goodIn_of _ (by decide +kernel)) ggX5_sleepNight_X1_leaves
set_option maxRecDepth 20000 in
theorem ggX5_sleepNight_X2_leaves : GoodIn wsX5_sleepNight wsX2_leaves := goodIn_r _ [40] (by decide +kernel) (by decide +kernel)
set_option maxRecDepth 20000 in
theorem gX5_sleepNight_X2_leaves_u97X2 : GoodIn wsX5_sleepNight (va_wsU RX5 97 RX2 "WoodForTwo$Party" ⟨"WoodForTwo$Party", "leaves", "(III)I"⟩ yX2_leaves wsX2_leaves) := goodIn_app (goodIn_of _ (by decide +kernel)) ggX5_sleepNight_X2_leaves
set_option maxRecDepth 20000 in
theorem gX5_sleepNight_X2_leaves_u97X3 : GoodIn wsX5_sleepNight (va_wsU RX5 97 RX3 "WoodForTwo$Party" ⟨"WoodForTwo$Party", "leaves", "(III)I"⟩ yX2_leaves wsX2_leaves) := goodIn_app (goodIn_of _ (by decide +kernel)) ggX5_sleepNight_X2_leaves
set_option maxRecDepth 20000 in
theorem ggX5_sleepNight_X7_leaves : GoodIn wsX5_sleepNight wsX7_leaves := goodIn_r _ [45] (by decide +kernel) (by decide +kernel)
set_option maxRecDepth 20000 in
theorem gX5_sleepNight_X7_leaves_u97X7 : GoodIn wsX5_sleepNight (va_wsU RX5 97 RX7 "WoodForTwo$Party" ⟨"WoodForTwo$Party", "leaves", "(III)I"⟩ yX7_leaves wsX7_leaves) := goodIn_app (goodIn_of _ (by decide +kernel)) ggX5_sleepNight_X7_leaves
set_option maxRecDepth 20000 in
theorem ggX5_sleepNight_X9_leaves : GoodIn wsX5_sleepNight wsX9_leaves := goodIn_r _ [49, 50, 51, 52, 53, 54, 55, 56, 57, 58, 59, 60, 61, 62, 63, 64, 65, 66] (by decide +kernel) (by decide +kernel)
set_option maxRecDepth 20000 in
theorem gX5_sleepNight_X9_leaves_u97X9 : GoodIn wsX5_sleepNight (va_wsU RX5 97 RX9 "WoodForTwo$Party" ⟨"WoodForTwo$Party", "leaves", "(III)I"⟩ yX9_leaves wsX9_leaves) := goodIn_app (goodIn_of _ (by decide +kernel)) ggX5_sleepNight_X9_leaves
theorem dX5_sleepNight_0 : decode cX5_sleepNight 0 = .ok (.aload_n 0, 1) := by decide +kernel
theorem dX5_sleepNight_1 : decode cX5_sleepNight 1 = .ok (.iload_n 1, 1) := by decide +kernel
theorem dX5_sleepNight_2 : decode cX5_sleepNight 2 = .ok (.invokevirtual 77, 3) := by decide +kernel
theorem dX5_sleepNight_5 : decode cX5_sleepNight 5 = .ok (.astore_n 2, 1) := by decide +kernel
theorem dX5_sleepNight_6 : decode cX5_sleepNight 6 = .ok (.aload_n 2, 1) := by decide +kernel
theorem dX5_sleepNight_7 : decode cX5_sleepNight 7 = .ok (.ifnonnull 5, 3) := by decide +kernel
theorem dX5_sleepNight_10 : decode cX5_sleepNight 10 = .ok (.iconst 0, 1) := by decide +kernel
theorem dX5_sleepNight_11 : decode cX5_sleepNight 11 = .ok (.ireturn, 1) := by decide +kernel
theorem dX5_sleepNight_12 : decode cX5_sleepNight 12 = .ok (.aload_n 2, 1) := by decide +kernel
theorem dX5_sleepNight_13 : decode cX5_sleepNight 13 = .ok (.getfield 81, 3) := by decide +kernel
theorem dX5_sleepNight_16 : decode cX5_sleepNight 16 = .ok (.aload_n 0, 1) := by decide +kernel
theorem dX5_sleepNight_17 : decode cX5_sleepNight 17 = .ok (.getfield 44, 3) := by decide +kernel
theorem dX5_sleepNight_20 : decode cX5_sleepNight 20 = .ok (.imul, 1) := by decide +kernel
theorem dX5_sleepNight_21 : decode cX5_sleepNight 21 = .ok (.istore_n 3, 1) := by decide +kernel
theorem dX5_sleepNight_22 : decode cX5_sleepNight 22 = .ok (.iload_n 3, 1) := by decide +kernel
theorem dX5_sleepNight_23 : decode cX5_sleepNight 23 = .ok (.aload_n 0, 1) := by decide +kernel
theorem dX5_sleepNight_24 : decode cX5_sleepNight 24 = .ok (.getfield 40, 3) := by decide +kernel
theorem dX5_sleepNight_27 : decode cX5_sleepNight 27 = .ok (.invokestatic 84, 3) := by decide +kernel
theorem dX5_sleepNight_30 : decode cX5_sleepNight 30 = .ok (.istore 4, 2) := by decide +kernel
theorem dX5_sleepNight_32 : decode cX5_sleepNight 32 = .ok (.aload_n 0, 1) := by decide +kernel
theorem dX5_sleepNight_33 : decode cX5_sleepNight 33 = .ok (.iload_n 3, 1) := by decide +kernel
theorem dX5_sleepNight_34 : decode cX5_sleepNight 34 = .ok (.iload 4, 2) := by decide +kernel
theorem dX5_sleepNight_36 : decode cX5_sleepNight 36 = .ok (.isub, 1) := by decide +kernel
theorem dX5_sleepNight_37 : decode cX5_sleepNight 37 = .ok (.invokevirtual 90, 3) := by decide +kernel
theorem dX5_sleepNight_40 : decode cX5_sleepNight 40 = .ok (.istore 5, 2) := by decide +kernel
theorem dX5_sleepNight_42 : decode cX5_sleepNight 42 = .ok (.aload_n 0, 1) := by decide +kernel
theorem dX5_sleepNight_43 : decode cX5_sleepNight 43 = .ok (.dup, 1) := by decide +kernel
theorem dX5_sleepNight_44 : decode cX5_sleepNight 44 = .ok (.getfield 40, 3) := by decide +kernel
theorem dX5_sleepNight_47 : decode cX5_sleepNight 47 = .ok (.iload 4, 2) := by decide +kernel
theorem dX5_sleepNight_49 : decode cX5_sleepNight 49 = .ok (.isub, 1) := by decide +kernel
theorem dX5_sleepNight_50 : decode cX5_sleepNight 50 = .ok (.putfield 40, 3) := by decide +kernel
theorem dX5_sleepNight_53 : decode cX5_sleepNight 53 = .ok (.aload_n 0, 1) := by decide +kernel
theorem dX5_sleepNight_54 : decode cX5_sleepNight 54 = .ok (.aload_n 0, 1) := by decide +kernel
theorem dX5_sleepNight_55 : decode cX5_sleepNight 55 = .ok (.getfield 47, 3) := by decide +kernel
theorem dX5_sleepNight_58 : decode cX5_sleepNight 58 = .ok (.aload_n 2, 1) := by decide +kernel
theorem dX5_sleepNight_59 : decode cX5_sleepNight 59 = .ok (.getfield 81, 3) := by decide +kernel
theorem dX5_sleepNight_62 : decode cX5_sleepNight 62 = .ok (.invokevirtual 94, 3) := by decide +kernel
theorem dX5_sleepNight_65 : decode cX5_sleepNight 65 = .ok (.istore 6, 2) := by decide +kernel
theorem dX5_sleepNight_67 : decode cX5_sleepNight 67 = .ok (.aload_n 2, 1) := by decide +kernel
theorem dX5_sleepNight_68 : decode cX5_sleepNight 68 = .ok (.iload 6, 2) := by decide +kernel
theorem dX5_sleepNight_70 : decode cX5_sleepNight 70 = .ok (.aload_n 0, 1) := by decide +kernel
theorem dX5_sleepNight_71 : decode cX5_sleepNight 71 = .ok (.getfield 40, 3) := by decide +kernel
theorem dX5_sleepNight_74 : decode cX5_sleepNight 74 = .ok (.aload_n 0, 1) := by decide +kernel
theorem dX5_sleepNight_75 : decode cX5_sleepNight 75 = .ok (.getfield 44, 3) := by decide +kernel
theorem dX5_sleepNight_78 : decode cX5_sleepNight 78 = .ok (.invokevirtual 97, 3) := by decide +kernel
theorem dX5_sleepNight_81 : decode cX5_sleepNight 81 = .ok (.istore 7, 2) := by decide +kernel
theorem dX5_sleepNight_83 : decode cX5_sleepNight 83 = .ok (.aload_n 0, 1) := by decide +kernel
theorem dX5_sleepNight_84 : decode cX5_sleepNight 84 = .ok (.sipush 999, 3) := by decide +kernel
theorem dX5_sleepNight_87 : decode cX5_sleepNight 87 = .ok (.aload_n 0, 1) := by decide +kernel
theorem dX5_sleepNight_88 : decode cX5_sleepNight 88 = .ok (.getfield 40, 3) := by decide +kernel
theorem dX5_sleepNight_91 : decode cX5_sleepNight 91 = .ok (.iload 7, 2) := by decide +kernel
theorem dX5_sleepNight_93 : decode cX5_sleepNight 93 = .ok (.iadd, 1) := by decide +kernel
theorem dX5_sleepNight_94 : decode cX5_sleepNight 94 = .ok (.invokestatic 84, 3) := by decide +kernel
theorem dX5_sleepNight_97 : decode cX5_sleepNight 97 = .ok (.putfield 40, 3) := by decide +kernel
theorem dX5_sleepNight_100 : decode cX5_sleepNight 100 = .ok (.aload_n 0, 1) := by decide +kernel
theorem dX5_sleepNight_101 : decode cX5_sleepNight 101 = .ok (.getfield 18, 3) := by decide +kernel
theorem dX5_sleepNight_104 : decode cX5_sleepNight 104 = .ok (.iload_n 1, 1) := by decide +kernel
theorem dX5_sleepNight_105 : decode cX5_sleepNight 105 = .ok (.dup2, 1) := by decide +kernel
theorem dX5_sleepNight_106 : decode cX5_sleepNight 106 = .ok (.iaload, 1) := by decide +kernel
theorem dX5_sleepNight_107 : decode cX5_sleepNight 107 = .ok (.iconst 1, 1) := by decide +kernel
theorem dX5_sleepNight_108 : decode cX5_sleepNight 108 = .ok (.iadd, 1) := by decide +kernel
theorem dX5_sleepNight_109 : decode cX5_sleepNight 109 = .ok (.iastore, 1) := by decide +kernel
theorem dX5_sleepNight_110 : decode cX5_sleepNight 110 = .ok (.aload_n 0, 1) := by decide +kernel
theorem dX5_sleepNight_111 : decode cX5_sleepNight 111 = .ok (.getfield 21, 3) := by decide +kernel
theorem dX5_sleepNight_114 : decode cX5_sleepNight 114 = .ok (.iload_n 1, 1) := by decide +kernel
theorem dX5_sleepNight_115 : decode cX5_sleepNight 115 = .ok (.dup2, 1) := by decide +kernel
theorem dX5_sleepNight_116 : decode cX5_sleepNight 116 = .ok (.iaload, 1) := by decide +kernel
theorem dX5_sleepNight_117 : decode cX5_sleepNight 117 = .ok (.iload 5, 2) := by decide +kernel
theorem dX5_sleepNight_119 : decode cX5_sleepNight 119 = .ok (.iadd, 1) := by decide +kernel
theorem dX5_sleepNight_120 : decode cX5_sleepNight 120 = .ok (.iastore, 1) := by decide +kernel
theorem dX5_sleepNight_121 : decode cX5_sleepNight 121 = .ok (.aload_n 0, 1) := by decide +kernel
theorem dX5_sleepNight_122 : decode cX5_sleepNight 122 = .ok (.getfield 24, 3) := by decide +kernel
theorem dX5_sleepNight_125 : decode cX5_sleepNight 125 = .ok (.iload_n 1, 1) := by decide +kernel
theorem dX5_sleepNight_126 : decode cX5_sleepNight 126 = .ok (.dup2, 1) := by decide +kernel
theorem dX5_sleepNight_127 : decode cX5_sleepNight 127 = .ok (.iaload, 1) := by decide +kernel
theorem dX5_sleepNight_128 : decode cX5_sleepNight 128 = .ok (.iload 7, 2) := by decide +kernel
theorem dX5_sleepNight_130 : decode cX5_sleepNight 130 = .ok (.iadd, 1) := by decide +kernel
theorem dX5_sleepNight_131 : decode cX5_sleepNight 131 = .ok (.iastore, 1) := by decide +kernel
theorem dX5_sleepNight_132 : decode cX5_sleepNight 132 = .ok (.aload_n 0, 1) := by decide +kernel
theorem dX5_sleepNight_133 : decode cX5_sleepNight 133 = .ok (.getfield 27, 3) := by decide +kernel
theorem dX5_sleepNight_136 : decode cX5_sleepNight 136 = .ok (.iload_n 1, 1) := by decide +kernel
theorem dX5_sleepNight_137 : decode cX5_sleepNight 137 = .ok (.dup2, 1) := by decide +kernel
theorem dX5_sleepNight_138 : decode cX5_sleepNight 138 = .ok (.iaload, 1) := by decide +kernel
theorem dX5_sleepNight_139 : decode cX5_sleepNight 139 = .ok (.iload 6, 2) := by decide +kernel
theorem dX5_sleepNight_141 : decode cX5_sleepNight 141 = .ok (.iload 7, 2) := by decide +kernel
theorem dX5_sleepNight_143 : decode cX5_sleepNight 143 = .ok (.isub, 1) := by decide +kernel
theorem dX5_sleepNight_144 : decode cX5_sleepNight 144 = .ok (.iadd, 1) := by decide +kernel
theorem dX5_sleepNight_145 : decode cX5_sleepNight 145 = .ok (.iastore, 1) := by decide +kernel
theorem dX5_sleepNight_146 : decode cX5_sleepNight 146 = .ok (.aload_n 0, 1) := by decide +kernel
theorem dX5_sleepNight_147 : decode cX5_sleepNight 147 = .ok (.dup, 1) := by decide +kernel
theorem dX5_sleepNight_148 : decode cX5_sleepNight 148 = .ok (.getfield 59, 3) := by decide +kernel
theorem dX5_sleepNight_151 : decode cX5_sleepNight 151 = .ok (.iconst 1, 1) := by decide +kernel
theorem dX5_sleepNight_152 : decode cX5_sleepNight 152 = .ok (.iadd, 1) := by decide +kernel
theorem dX5_sleepNight_153 : decode cX5_sleepNight 153 = .ok (.putfield 59, 3) := by decide +kernel
theorem dX5_sleepNight_156 : decode cX5_sleepNight 156 = .ok (.aload_n 0, 1) := by decide +kernel
theorem dX5_sleepNight_157 : decode cX5_sleepNight 157 = .ok (.dup, 1) := by decide +kernel
theorem dX5_sleepNight_158 : decode cX5_sleepNight 158 = .ok (.getfield 62, 3) := by decide +kernel
theorem dX5_sleepNight_161 : decode cX5_sleepNight 161 = .ok (.iload 5, 2) := by decide +kernel
theorem dX5_sleepNight_163 : decode cX5_sleepNight 163 = .ok (.iadd, 1) := by decide +kernel
theorem dX5_sleepNight_164 : decode cX5_sleepNight 164 = .ok (.putfield 62, 3) := by decide +kernel
theorem dX5_sleepNight_167 : decode cX5_sleepNight 167 = .ok (.iload 5, 2) := by decide +kernel
theorem dX5_sleepNight_169 : decode cX5_sleepNight 169 = .ok (.ireturn, 1) := by decide +kernel
theorem dX5_headsWithout_0 : decode cX5_headsWithout 0 = .ok (.aload_n 0, 1) := by decide +kernel
theorem dX5_headsWithout_1 : decode cX5_headsWithout 1 = .ok (.getfield 44, 3) := by decide +kernel
theorem dX5_headsWithout_4 : decode cX5_headsWithout 4 = .ok (.iconst 1, 1) := by decide +kernel
theorem dX5_headsWithout_5 : decode cX5_headsWithout 5 = .ok (.if_icmp .ge 7, 3) := by decide +kernel
theorem dX5_headsWithout_8 : decode cX5_headsWithout 8 = .ok (.iconst 0, 1) := by decide +kernel
theorem dX5_headsWithout_9 : decode cX5_headsWithout 9 = .ok (.goto 16, 3) := by decide +kernel
theorem dX5_headsWithout_12 : decode cX5_headsWithout 12 = .ok (.iload_n 1, 1) := by decide +kernel
theorem dX5_headsWithout_13 : decode cX5_headsWithout 13 = .ok (.aload_n 0, 1) := by decide +kernel
theorem dX5_headsWithout_14 : decode cX5_headsWithout 14 = .ok (.getfield 44, 3) := by decide +kernel
theorem dX5_headsWithout_17 : decode cX5_headsWithout 17 = .ok (.iadd, 1) := by decide +kernel
theorem dX5_headsWithout_18 : decode cX5_headsWithout 18 = .ok (.iconst 1, 1) := by decide +kernel
theorem dX5_headsWithout_19 : decode cX5_headsWithout 19 = .ok (.isub, 1) := by decide +kernel
theorem dX5_headsWithout_20 : decode cX5_headsWithout 20 = .ok (.aload_n 0, 1) := by decide +kernel
theorem dX5_headsWithout_21 : decode cX5_headsWithout 21 = .ok (.getfield 44, 3) := by decide +kernel
theorem dX5_headsWithout_24 : decode cX5_headsWithout 24 = .ok (.idiv, 1) := by decide +kernel
theorem dX5_headsWithout_25 : decode cX5_headsWithout 25 = .ok (.ireturn, 1) := by decide +kernel
theorem dX5_loseInSnow_0 : decode cX5_loseInSnow 0 = .ok (.aload_n 0, 1) := by decide +kernel
theorem dX5_loseInSnow_1 : decode cX5_loseInSnow 1 = .ok (.dup, 1) := by decide +kernel
theorem dX5_loseInSnow_2 : decode cX5_loseInSnow 2 = .ok (.getfield 40, 3) := by decide +kernel
theorem dX5_loseInSnow_5 : decode cX5_loseInSnow 5 = .ok (.aload_n 0, 1) := by decide +kernel
theorem dX5_loseInSnow_6 : decode cX5_loseInSnow 6 = .ok (.getfield 40, 3) := by decide +kernel
theorem dX5_loseInSnow_9 : decode cX5_loseInSnow 9 = .ok (.iload_n 1, 1) := by decide +kernel
theorem dX5_loseInSnow_10 : decode cX5_loseInSnow 10 = .ok (.invokestatic 84, 3) := by decide +kernel
theorem dX5_loseInSnow_13 : decode cX5_loseInSnow 13 = .ok (.isub, 1) := by decide +kernel
theorem dX5_loseInSnow_14 : decode cX5_loseInSnow 14 = .ok (.putfield 40, 3) := by decide +kernel
theorem dX5_loseInSnow_17 : decode cX5_loseInSnow 17 = .ok (.aload_n 0, 1) := by decide +kernel
theorem dX5_loseInSnow_18 : decode cX5_loseInSnow 18 = .ok (.dup, 1) := by decide +kernel
theorem dX5_loseInSnow_19 : decode cX5_loseInSnow 19 = .ok (.getfield 59, 3) := by decide +kernel
theorem dX5_loseInSnow_22 : decode cX5_loseInSnow 22 = .ok (.iconst 1, 1) := by decide +kernel
theorem dX5_loseInSnow_23 : decode cX5_loseInSnow 23 = .ok (.iadd, 1) := by decide +kernel
theorem dX5_loseInSnow_24 : decode cX5_loseInSnow 24 = .ok (.putfield 59, 3) := by decide +kernel
theorem dX5_loseInSnow_27 : decode cX5_loseInSnow 27 = .ok (.return_, 1) := by decide +kernel
theorem dX5_leftBy_0 : decode cX5_leftBy 0 = .ok (.iload_n 2, 1) := by decide +kernel
theorem dX5_leftBy_1 : decode cX5_leftBy 1 = .ok (.iload_n 2, 1) := by decide +kernel
theorem dX5_leftBy_2 : decode cX5_leftBy 2 = .ok (.iload_n 1, 1) := by decide +kernel
theorem dX5_leftBy_3 : decode cX5_leftBy 3 = .ok (.aload_n 0, 1) := by decide +kernel
theorem dX5_leftBy_4 : decode cX5_leftBy 4 = .ok (.getfield 44, 3) := by decide +kernel
theorem dX5_leftBy_7 : decode cX5_leftBy 7 = .ok (.imul, 1) := by decide +kernel
theorem dX5_leftBy_8 : decode cX5_leftBy 8 = .ok (.invokestatic 84, 3) := by decide +kernel
theorem dX5_leftBy_11 : decode cX5_leftBy 11 = .ok (.isub, 1) := by decide +kernel
theorem dX5_leftBy_12 : decode cX5_leftBy 12 = .ok (.istore 4, 2) := by decide +kernel
theorem dX5_leftBy_14 : decode cX5_leftBy 14 = .ok (.iload_n 3, 1) := by decide +kernel
theorem dX5_leftBy_15 : decode cX5_leftBy 15 = .ok (.iload 4, 2) := by decide +kernel
theorem dX5_leftBy_17 : decode cX5_leftBy 17 = .ok (.isub, 1) := by decide +kernel
theorem dX5_leftBy_18 : decode cX5_leftBy 18 = .ok (.ireturn, 1) := by decide +kernel
theorem dX6_init_0 : decode cX6_init 0 = .ok (.aload_n 0, 1) := by decide +kernel
theorem dX6_init_1 : decode cX6_init 1 = .ok (.invokespecial 3, 3) := by decide +kernel
theorem dX6_init_4 : decode cX6_init 4 = .ok (.aload_n 0, 1) := by decide +kernel
theorem dX6_init_5 : decode cX6_init 5 = .ok (.sipush 400, 3) := by decide +kernel
theorem dX6_init_8 : decode cX6_init 8 = .ok (.newarray .byte, 2) := by decide +kernel
theorem dX6_init_10 : decode cX6_init 10 = .ok (.putfield 9, 3) := by decide +kernel
theorem dX6_init_13 : decode cX6_init 13 = .ok (.return_, 1) := by decide +kernel
theorem dX6_hasRoom_0 : decode cX6_hasRoom 0 = .ok (.iload_n 1, 1) := by decide +kernel
theorem dX6_hasRoom_1 : decode cX6_hasRoom 1 = .ok (.sipush 400, 3) := by decide +kernel
theorem dX6_hasRoom_4 : decode cX6_hasRoom 4 = .ok (.aload_n 0, 1) := by decide +kernel
theorem dX6_hasRoom_5 : decode cX6_hasRoom 5 = .ok (.getfield 15, 3) := by decide +kernel
theorem dX6_hasRoom_8 : decode cX6_hasRoom 8 = .ok (.isub, 1) := by decide +kernel
theorem dX6_hasRoom_9 : decode cX6_hasRoom 9 = .ok (.if_icmp .gt 7, 3) := by decide +kernel
theorem dX6_hasRoom_12 : decode cX6_hasRoom 12 = .ok (.iconst 1, 1) := by decide +kernel
theorem dX6_hasRoom_13 : decode cX6_hasRoom 13 = .ok (.goto 4, 3) := by decide +kernel
theorem dX6_hasRoom_16 : decode cX6_hasRoom 16 = .ok (.iconst 0, 1) := by decide +kernel
theorem dX6_hasRoom_17 : decode cX6_hasRoom 17 = .ok (.ireturn, 1) := by decide +kernel
theorem dX6_takeBytes_0 : decode cX6_takeBytes 0 = .ok (.iload_n 3, 1) := by decide +kernel
theorem dX6_takeBytes_1 : decode cX6_takeBytes 1 = .ok (.iconst 1, 1) := by decide +kernel
theorem dX6_takeBytes_2 : decode cX6_takeBytes 2 = .ok (.isub, 1) := by decide +kernel
theorem dX6_takeBytes_3 : decode cX6_takeBytes 3 = .ok (.istore 4, 2) := by decide +kernel
theorem dX6_takeBytes_5 : decode cX6_takeBytes 5 = .ok (.iload 4, 2) := by decide +kernel
theorem dX6_takeBytes_7 : decode cX6_takeBytes 7 = .ok (.ifCond .lt 47, 3) := by decide +kernel
theorem dX6_takeBytes_10 : decode cX6_takeBytes 10 = .ok (.aload_n 0, 1) := by decide +kernel
theorem dX6_takeBytes_11 : decode cX6_takeBytes 11 = .ok (.getfield 15, 3) := by decide +kernel
theorem dX6_takeBytes_14 : decode cX6_takeBytes 14 = .ok (.sipush 400, 3) := by decide +kernel
theorem dX6_takeBytes_17 : decode cX6_takeBytes 17 = .ok (.if_icmp .ge 37, 3) := by decide +kernel
theorem dX6_takeBytes_20 : decode cX6_takeBytes 20 = .ok (.aload_n 0, 1) := by decide +kernel
theorem dX6_takeBytes_21 : decode cX6_takeBytes 21 = .ok (.getfield 9, 3) := by decide +kernel
theorem dX6_takeBytes_24 : decode cX6_takeBytes 24 = .ok (.aload_n 0, 1) := by decide +kernel
theorem dX6_takeBytes_25 : decode cX6_takeBytes 25 = .ok (.getfield 15, 3) := by decide +kernel
theorem dX6_takeBytes_28 : decode cX6_takeBytes 28 = .ok (.lload_n 1, 1) := by decide +kernel
theorem dX6_takeBytes_29 : decode cX6_takeBytes 29 = .ok (.bipush 8, 2) := by decide +kernel
theorem dX6_takeBytes_31 : decode cX6_takeBytes 31 = .ok (.iload 4, 2) := by decide +kernel
theorem dX6_takeBytes_33 : decode cX6_takeBytes 33 = .ok (.imul, 1) := by decide +kernel
theorem dX6_takeBytes_34 : decode cX6_takeBytes 34 = .ok (.lshr, 1) := by decide +kernel
theorem dX6_takeBytes_35 : decode cX6_takeBytes 35 = .ok (.l2i, 1) := by decide +kernel
theorem dX6_takeBytes_36 : decode cX6_takeBytes 36 = .ok (.i2b, 1) := by decide +kernel
theorem dX6_takeBytes_37 : decode cX6_takeBytes 37 = .ok (.bastore, 1) := by decide +kernel
theorem dX6_takeBytes_38 : decode cX6_takeBytes 38 = .ok (.aload_n 0, 1) := by decide +kernel
theorem dX6_takeBytes_39 : decode cX6_takeBytes 39 = .ok (.dup, 1) := by decide +kernel
theorem dX6_takeBytes_40 : decode cX6_takeBytes 40 = .ok (.getfield 15, 3) := by decide +kernel
theorem dX6_takeBytes_43 : decode cX6_takeBytes 43 = .ok (.iconst 1, 1) := by decide +kernel
theorem dX6_takeBytes_44 : decode cX6_takeBytes 44 = .ok (.iadd, 1) := by decide +kernel
theorem dX6_takeBytes_45 : decode cX6_takeBytes 45 = .ok (.putfield 15, 3) := by decide +kernel
theorem dX6_takeBytes_48 : decode cX6_takeBytes 48 = .ok (.iinc 4 (-1), 3) := by decide +kernel
theorem dX6_takeBytes_51 : decode cX6_takeBytes 51 = .ok (.goto (-46), 3) := by decide +kernel
theorem dX6_takeBytes_54 : decode cX6_takeBytes 54 = .ok (.aload_n 0, 1) := by decide +kernel
theorem dX6_takeBytes_55 : decode cX6_takeBytes 55 = .ok (.getfield 15, 3) := by decide +kernel
theorem dX6_takeBytes_58 : decode cX6_takeBytes 58 = .ok (.ireturn, 1) := by decide +kernel
set_option maxRecDepth 20000 in
theorem ggX6_readPass_X6_nextToken : GoodIn wsX6_readPass wsX6_nextToken := goodIn_r _ [7, 1, 2, 8, 9, 10, 11, 12, 13, 6, 14, 15, 16, 17, 18, 19, 185, 186, 187, 188, 189, 190, 191, 192] (by decide +kernel) (by decide +kernel)
set_option maxRecDepth 20000 in
theorem gX6_readPass_X6_nextToken : GoodIn wsX6_readPass (wsV RX6 22 RX6 yX6_nextToken wsX6_nextToken) := goodIn_app (goodIn_of _ (by decide +kernel)) ggX6_readPass_X6_nextToken
set_option maxRecDepth 20000 in
theorem ggX6_readPass_X6_readHut : GoodIn wsX6_readPass wsX6_readHut := goodIn_r _ [23, 24, 25, 26, 27, 28, 29, 30, 6, 31, 10, 1, 9, 8, 32, 33, 34, 35, 36, 37, 38, 39, 40, 41, 42, 43, 44, 45, 46, 47, 48, 49, 50, 51, 52, 53, 54, 55, 56, 57, 58, 59, 60, 61, 62, 63, 64, 65, 66, 67, 68, 69, 70, 71, 72, 73, 74, 75, 76, 77, 78, 79, 80, 81, 82, 83, 84, 85, 86, 3, 4, 5, 7, 2, 11, 12, 13, 14, 15, 16, 17, 18, 19, 87, 88, 89, 90, 91, 92, 93, 94, 95, 96, 97, 98, 99, 100, 101, 102, 193, 194, 195, 196, 197, 198, 199, 200, 201, 202, 203, 204, 205, 206, 207, 208, 185, 186, 187, 188, 189, 190, 191, 192] (by decide +kernel) (by decide +kernel)
set_option maxRecDepth 20000 in
theorem gX6_readPass_X6_readHut : GoodIn wsX6_readPass (wsV RX6 25 RX6 yX6_readHut wsX6_readHut) := goodIn_app (goodIn_of _ (by decide +kernel)) ggX6_readPass_X6_readHut
set_option maxRecDepth 20000 in
theorem ggX6_readPass_X6_readChances : GoodIn wsX6_readPass wsX6_readChances := goodIn_r _ [106, 10, 19, 28, 29, 30, 6, 31, 1, 9, 8, 32, 33, 34, 35, 36, 37, 38, 39, 40, 41, 42, 43, 44, 45, 46, 47, 48, 49, 50, 51, 52, 53, 54, 55, 56, 57, 58, 59, 60, 61, 62, 63, 64, 65, 66, 67, 68, 69, 70, 71, 72, 73, 74, 75, 76, 77, 78, 79, 80, 81, 82, 83, 84, 85, 86, 3, 4, 5, 7, 2, 11, 12, 13, 14, 15, 16, 17, 18, 107, 108, 109, 110, 111, 112, 113, 87, 88, 89, 90, 99, 100, 101, 102, 114, 115, 116, 117, 118, 185, 186, 187, 188, 189, 190, 191, 192, 193, 194, 195, 196, 197, 198, 199, 200, 201, 202, 203, 204, 205, 206, 207, 208] (by decide +kernel) (by decide +kernel)
set_option maxRecDepth 20000 in
theorem gX6_readPass_X6_readChances : GoodIn wsX6_readPass (wsV RX6 29 RX6 yX6_readChances wsX6_readChances) := goodIn_app (goodIn_of _ (by decide +kernel)) ggX6_readPass_X6_readChances
set_option maxRecDepth 20000 in
theorem ggX6_readPass_X6_readParties : GoodIn wsX6_readPass wsX6_readParties := goodIn_r _ [122, 123, 28, 29, 30, 6, 31, 10, 1, 9, 8, 32, 33, 34, 35, 36, 37, 38, 39, 40, 41, 42, 43, 44, 45, 46, 47, 48, 49, 50, 51, 52, 53, 54, 55, 56, 57, 58, 59, 60, 61, 62, 63, 64, 65, 66, 67, 68, 69, 70, 71, 72, 73, 74, 75, 76, 77, 78, 79, 80, 81, 82, 83, 84, 85, 86, 3, 4, 5, 7, 2, 11, 12, 13, 14, 15, 16, 17, 18, 19, 87, 88, 89, 90, 124, 125, 126, 127, 95, 96, 97, 98, 99, 100, 101, 102, 128, 129, 130, 131, 132, 133, 134, 135, 136, 137, 138, 139, 140, 141, 142, 143, 144, 145, 146, 147, 148, 149, 150, 151, 152, 153, 154, 155, 156, 157, 158, 159, 160, 161, 162, 163, 164, 165, 166, 167, 168, 169, 170, 171, 172, 173, 174, 175, 176, 177, 110, 178, 179, 180, 193, 194, 195, 196, 197, 198, 199, 200, 201, 202, 203, 204, 205, 206, 207, 208, 185, 186, 187, 188, 189, 190, 191, 192, 209, 210, 211, 212, 213, 214, 215, 216, 217, 218, 219, 220, 221, 222, 223] (by decide +kernel) (by decide +kernel)
set_option maxRecDepth 20000 in
theorem gX6_readPass_X6_readParties : GoodIn wsX6_readPass (wsV RX6 32 RX6 yX6_readParties wsX6_readParties) := goodIn_app (goodIn_of _ (by decide +kernel)) ggX6_readPass_X6_readParties
set_option maxRecDepth 20000 in
theorem ggX6_readPass_X6_readEnd : GoodIn wsX6_readPass wsX6_readEnd := goodIn_r _ [184, 10, 81, 82, 83, 6, 84, 85, 9, 86, 185, 186, 187, 188, 189, 190, 191, 192] (by decide +kernel) (by decide +kernel)
set_option maxRecDepth 20000 in
theorem gX6_readPass_X6_readEnd : GoodIn wsX6_readPass (wsV RX6 35 RX6 yX6_readEnd wsX6_readEnd) := goodIn_app (goodIn_of _ (by decide +kernel)) ggX6_readPass_X6_readEnd
theorem dX6_readPass_0 : decode cX6_readPass 0 = .ok (.aload_n 0, 1) := by decide +kernel
theorem dX6_readPass_1 : decode cX6_readPass 1 = .ok (.iconst 0, 1) := by decide +kernel
theorem dX6_readPass_2 : decode cX6_readPass 2 = .ok (.putfield 19, 3) := by decide +kernel
theorem dX6_readPass_5 : decode cX6_readPass 5 = .ok (.aload_n 0, 1) := by decide +kernel
theorem dX6_readPass_6 : decode cX6_readPass 6 = .ok (.invokevirtual 22, 3) := by decide +kernel
theorem dX6_readPass_9 : decode cX6_readPass 9 = .ok (.aload_n 0, 1) := by decide +kernel
theorem dX6_readPass_10 : decode cX6_readPass 10 = .ok (.aload_n 1, 1) := by decide +kernel
theorem dX6_readPass_11 : decode cX6_readPass 11 = .ok (.invokevirtual 25, 3) := by decide +kernel
theorem dX6_readPass_14 : decode cX6_readPass 14 = .ok (.ifCond .eq 30, 3) := by decide +kernel
theorem dX6_readPass_17 : decode cX6_readPass 17 = .ok (.aload_n 0, 1) := by decide +kernel
theorem dX6_readPass_18 : decode cX6_readPass 18 = .ok (.aload_n 1, 1) := by decide +kernel
theorem dX6_readPass_19 : decode cX6_readPass 19 = .ok (.invokevirtual 29, 3) := by decide +kernel
theorem dX6_readPass_22 : decode cX6_readPass 22 = .ok (.ifCond .eq 22, 3) := by decide +kernel
theorem dX6_readPass_25 : decode cX6_readPass 25 = .ok (.aload_n 0, 1) := by decide +kernel
theorem dX6_readPass_26 : decode cX6_readPass 26 = .ok (.aload_n 1, 1) := by decide +kernel
theorem dX6_readPass_27 : decode cX6_readPass 27 = .ok (.invokevirtual 32, 3) := by decide +kernel
theorem dX6_readPass_30 : decode cX6_readPass 30 = .ok (.ifCond .eq 14, 3) := by decide +kernel
theorem dX6_readPass_33 : decode cX6_readPass 33 = .ok (.aload_n 0, 1) := by decide +kernel
theorem dX6_readPass_34 : decode cX6_readPass 34 = .ok (.invokevirtual 35, 3) := by decide +kernel
theorem dX6_readPass_37 : decode cX6_readPass 37 = .ok (.ifCond .eq 7, 3) := by decide +kernel
theorem dX6_readPass_40 : decode cX6_readPass 40 = .ok (.iconst 1, 1) := by decide +kernel
theorem dX6_readPass_41 : decode cX6_readPass 41 = .ok (.goto 4, 3) := by decide +kernel
theorem dX6_readPass_44 : decode cX6_readPass 44 = .ok (.iconst 0, 1) := by decide +kernel
theorem dX6_readPass_45 : decode cX6_readPass 45 = .ok (.istore_n 2, 1) := by decide +kernel
theorem dX6_readPass_46 : decode cX6_readPass 46 = .ok (.aload_n 0, 1) := by decide +kernel
theorem dX6_readPass_47 : decode cX6_readPass 47 = .ok (.iconst 0, 1) := by decide +kernel
theorem dX6_readPass_48 : decode cX6_readPass 48 = .ok (.putfield 15, 3) := by decide +kernel
theorem dX6_readPass_51 : decode cX6_readPass 51 = .ok (.iload_n 2, 1) := by decide +kernel
theorem dX6_readPass_52 : decode cX6_readPass 52 = .ok (.ireturn, 1) := by decide +kernel
set_option maxRecDepth 20000 in
theorem ggX6_readHut_X6_isWord : GoodIn wsX6_readHut wsX6_isWord := goodIn_r _ [9, 10, 11, 12, 13, 14, 15, 16, 17, 18, 19, 20, 21, 22, 23, 24, 25, 26, 27, 28, 29, 30, 31, 32, 33, 34, 35, 36, 37, 38, 39, 40, 41, 42, 43, 44, 45, 46, 47, 48, 49, 50, 51, 52, 53, 54, 55, 56, 57, 58, 59, 60, 61, 62, 115, 116, 117, 118, 119, 120, 121, 122] (by decide +kernel) (by decide +kernel)
set_option maxRecDepth 20000 in
theorem gX6_readHut_X6_isWord : GoodIn wsX6_readHut (wsV RX6 41 RX6 yX6_isWord wsX6_isWord) := goodIn_app (goodIn_of _ (by decide +kernel)) ggX6_readHut_X6_isWord
set_option maxRecDepth 20000 in
theorem ggX6_readHut_X6_fail : GoodIn wsX6_readHut wsX6_fail := goodIn_r _ [66, 67, 12, 68, 115, 116, 117, 118, 119, 120, 121, 122] (by decide +kernel) (by decide +kernel)
set_option maxRecDepth 20000 in
theorem gX6_readHut_X6_fail : GoodIn wsX6_readHut (wsV RX6 45 RX6 yX6_fail wsX6_fail) := goodIn_app (goodIn_of _ (by decide +kernel)) ggX6_readHut_X6_fail
set_option maxRecDepth 20000 in
theorem ggX6_readHut_X6_nextToken : GoodIn wsX6_readHut wsX6_nextToken := goodIn_r _ [72, 11, 73, 13, 12, 10, 74, 75, 76, 8, 77, 78, 79, 80, 81, 82, 115, 116, 117, 118, 119, 120, 121, 122] (by decide +kernel) (by decide +kernel)
set_option maxRecDepth 20000 in
theorem gX6_readHut_X6_nextToken : GoodIn wsX6_readHut (wsV RX6 22 RX6 yX6_nextToken wsX6_nextToken) := goodIn_app (goodIn_of _ (by decide +kernel)) ggX6_readHut_X6_nextToken
set_option maxRecDepth 20000 in
theorem ggX6_readHut_X6_readNumber : GoodIn wsX6_readHut wsX6_readNumber := goodIn_r _ [86, 10, 82, 63, 64, 65, 8, 66, 67, 12, 68, 69, 70, 71, 72, 11, 73, 13, 74, 75, 76, 77, 78, 79, 80, 81, 115, 116, 117, 118, 119, 120, 121, 122] (by decide +kernel) (by decide +kernel)
set_option maxRecDepth 20000 in
theorem gX6_readHut_X6_readNumber : GoodIn wsX6_readHut (wsV RX6 49 RX6 yX6_readNumber wsX6_readNumber) := goodIn_app (goodIn_of _ (by decide +kernel)) ggX6_readHut_X6_readNumber
set_option maxRecDepth 20000 in
theorem ggX6_readHut_X6_readLaw : GoodIn wsX6_readHut wsX6_readLaw := goodIn_r _ [90, 5, 6, 7, 8, 9, 10, 11, 12, 13, 14, 15, 16, 17, 18, 19, 20, 21, 22, 23, 24, 25, 26, 27, 28, 29, 30, 31, 32, 33, 34, 35, 36, 37, 38, 39, 40, 41, 42, 43, 44, 45, 46, 47, 48, 49, 50, 51, 52, 53, 54, 55, 56, 57, 58, 59, 60, 61, 62, 91, 92, 93, 94, 63, 64, 65, 66, 67, 68, 69, 70, 71, 72, 73, 74, 75, 76, 77, 78, 79, 80, 81, 82, 115, 116, 117, 118, 119, 120, 121, 122] (by decide +kernel) (by decide +kernel)
set_option maxRecDepth 20000 in
theorem gX6_readHut_X6_readLaw : GoodIn wsX6_readHut (wsV RX6 61 RX6 yX6_readLaw wsX6_readLaw) := goodIn_app (goodIn_of _ (by decide +kernel)) ggX6_readHut_X6_readLaw
set_option maxRecDepth 20000 in
theorem ggX6_readHut_X6_readSign : GoodIn wsX6_readHut wsX6_readSign := goodIn_r _ [98, 10, 63, 64, 65, 8, 66, 67, 12, 68, 69, 70, 71, 72, 11, 73, 13, 74, 75, 76, 77, 78, 79, 80, 81, 82, 115, 116, 117, 118, 119, 120, 121, 122] (by decide +kernel) (by decide +kernel)
set_option maxRecDepth 20000 in
theorem gX6_readHut_X6_readSign : GoodIn wsX6_readHut (wsV RX6 71 RX6 yX6_readSign wsX6_readSign) := goodIn_app (goodIn_of _ (by decide +kernel)) ggX6_readHut_X6_readSign
theorem dX6_readHut_0 : decode cX6_readHut 0 = .ok (.aload_n 0, 1) := by decide +kernel
theorem dX6_readHut_1 : decode cX6_readHut 1 = .ok (.ldc 39, 2) := by decide +kernel
theorem dX6_readHut_3 : decode cX6_readHut 3 = .ok (.invokevirtual 41, 3) := by decide +kernel
theorem dX6_readHut_6 : decode cX6_readHut 6 = .ok (.ifCond .ne 9, 3) := by decide +kernel
theorem dX6_readHut_9 : decode cX6_readHut 9 = .ok (.aload_n 0, 1) := by decide +kernel
theorem dX6_readHut_10 : decode cX6_readHut 10 = .ok (.iconst 1, 1) := by decide +kernel
theorem dX6_readHut_11 : decode cX6_readHut 11 = .ok (.invokevirtual 45, 3) := by decide +kernel
theorem dX6_readHut_14 : decode cX6_readHut 14 = .ok (.ireturn, 1) := by decide +kernel
theorem dX6_readHut_15 : decode cX6_readHut 15 = .ok (.aload_n 0, 1) := by decide +kernel
theorem dX6_readHut_16 : decode cX6_readHut 16 = .ok (.invokevirtual 22, 3) := by decide +kernel
theorem dX6_readHut_19 : decode cX6_readHut 19 = .ok (.aload_n 1, 1) := by decide +kernel
theorem dX6_readHut_20 : decode cX6_readHut 20 = .ok (.aload_n 0, 1) := by decide +kernel
theorem dX6_readHut_21 : decode cX6_readHut 21 = .ok (.iconst 0, 1) := by decide +kernel
theorem dX6_readHut_22 : decode cX6_readHut 22 = .ok (.sipush 500, 3) := by decide +kernel
theorem dX6_readHut_25 : decode cX6_readHut 25 = .ok (.invokevirtual 49, 3) := by decide +kernel
theorem dX6_readHut_28 : decode cX6_readHut 28 = .ok (.putfield 53, 3) := by decide +kernel
theorem dX6_readHut_31 : decode cX6_readHut 31 = .ok (.aload_n 1, 1) := by decide +kernel
theorem dX6_readHut_32 : decode cX6_readHut 32 = .ok (.aload_n 1, 1) := by decide +kernel
theorem dX6_readHut_33 : decode cX6_readHut 33 = .ok (.getfield 53, 3) := by decide +kernel
theorem dX6_readHut_36 : decode cX6_readHut 36 = .ok (.iconst (-1), 1) := by decide +kernel
theorem dX6_readHut_37 : decode cX6_readHut 37 = .ok (.if_icmp .ne 7, 3) := by decide +kernel
theorem dX6_readHut_40 : decode cX6_readHut 40 = .ok (.iconst (-1), 1) := by decide +kernel
theorem dX6_readHut_41 : decode cX6_readHut 41 = .ok (.goto 10, 3) := by decide +kernel
theorem dX6_readHut_44 : decode cX6_readHut 44 = .ok (.aload_n 0, 1) := by decide +kernel
theorem dX6_readHut_45 : decode cX6_readHut 45 = .ok (.iconst 1, 1) := by decide +kernel
theorem dX6_readHut_46 : decode cX6_readHut 46 = .ok (.bipush 9, 2) := by decide +kernel
theorem dX6_readHut_48 : decode cX6_readHut 48 = .ok (.invokevirtual 49, 3) := by decide +kernel
theorem dX6_readHut_51 : decode cX6_readHut 51 = .ok (.putfield 58, 3) := by decide +kernel
theorem dX6_readHut_54 : decode cX6_readHut 54 = .ok (.aload_n 1, 1) := by decide +kernel
theorem dX6_readHut_55 : decode cX6_readHut 55 = .ok (.aload_n 1, 1) := by decide +kernel
theorem dX6_readHut_56 : decode cX6_readHut 56 = .ok (.getfield 58, 3) := by decide +kernel
theorem dX6_readHut_59 : decode cX6_readHut 59 = .ok (.iconst (-1), 1) := by decide +kernel
theorem dX6_readHut_60 : decode cX6_readHut 60 = .ok (.if_icmp .ne 7, 3) := by decide +kernel
theorem dX6_readHut_63 : decode cX6_readHut 63 = .ok (.iconst (-1), 1) := by decide +kernel
theorem dX6_readHut_64 : decode cX6_readHut 64 = .ok (.goto 7, 3) := by decide +kernel
theorem dX6_readHut_67 : decode cX6_readHut 67 = .ok (.aload_n 0, 1) := by decide +kernel
theorem dX6_readHut_68 : decode cX6_readHut 68 = .ok (.invokevirtual 61, 3) := by decide +kernel
theorem dX6_readHut_71 : decode cX6_readHut 71 = .ok (.putfield 65, 3) := by decide +kernel
theorem dX6_readHut_74 : decode cX6_readHut 74 = .ok (.aload_n 1, 1) := by decide +kernel
theorem dX6_readHut_75 : decode cX6_readHut 75 = .ok (.aload_n 1, 1) := by decide +kernel
theorem dX6_readHut_76 : decode cX6_readHut 76 = .ok (.getfield 65, 3) := by decide +kernel
theorem dX6_readHut_79 : decode cX6_readHut 79 = .ok (.iconst (-1), 1) := by decide +kernel
theorem dX6_readHut_80 : decode cX6_readHut 80 = .ok (.if_icmp .ne 7, 3) := by decide +kernel
theorem dX6_readHut_83 : decode cX6_readHut 83 = .ok (.iconst (-1), 1) := by decide +kernel
theorem dX6_readHut_84 : decode cX6_readHut 84 = .ok (.goto 10, 3) := by decide +kernel
theorem dX6_readHut_87 : decode cX6_readHut 87 = .ok (.aload_n 0, 1) := by decide +kernel
theorem dX6_readHut_88 : decode cX6_readHut 88 = .ok (.iconst 0, 1) := by decide +kernel
theorem dX6_readHut_89 : decode cX6_readHut 89 = .ok (.bipush 9, 2) := by decide +kernel
theorem dX6_readHut_91 : decode cX6_readHut 91 = .ok (.invokevirtual 49, 3) := by decide +kernel
theorem dX6_readHut_94 : decode cX6_readHut 94 = .ok (.putfield 68, 3) := by decide +kernel
theorem dX6_readHut_97 : decode cX6_readHut 97 = .ok (.aload_n 1, 1) := by decide +kernel
theorem dX6_readHut_98 : decode cX6_readHut 98 = .ok (.getfield 68, 3) := by decide +kernel
theorem dX6_readHut_101 : decode cX6_readHut 101 = .ok (.iconst (-1), 1) := by decide +kernel
theorem dX6_readHut_102 : decode cX6_readHut 102 = .ok (.if_icmp .eq 14, 3) := by decide +kernel
theorem dX6_readHut_105 : decode cX6_readHut 105 = .ok (.aload_n 0, 1) := by decide +kernel
theorem dX6_readHut_106 : decode cX6_readHut 106 = .ok (.invokevirtual 71, 3) := by decide +kernel
theorem dX6_readHut_109 : decode cX6_readHut 109 = .ok (.ifCond .eq 7, 3) := by decide +kernel
theorem dX6_readHut_112 : decode cX6_readHut 112 = .ok (.iconst 1, 1) := by decide +kernel
theorem dX6_readHut_113 : decode cX6_readHut 113 = .ok (.goto 4, 3) := by decide +kernel
theorem dX6_readHut_116 : decode cX6_readHut 116 = .ok (.iconst 0, 1) := by decide +kernel
theorem dX6_readHut_117 : decode cX6_readHut 117 = .ok (.ireturn, 1) := by decide +kernel
set_option maxRecDepth 20000 in
theorem ggX6_readChances_X6_isWord : GoodIn wsX6_readChances wsX6_isWord := goodIn_r _ [7, 1, 8, 9, 10, 11, 12, 13, 14, 15, 16, 17, 18, 19, 20, 21, 22, 23, 24, 25, 26, 27, 28, 29, 30, 31, 32, 33, 34, 35, 36, 37, 38, 39, 40, 41, 42, 43, 44, 45, 46, 47, 48, 49, 50, 51, 52, 53, 54, 55, 56, 57, 58, 59, 99, 100, 101, 102, 103, 104, 105, 106] (by decide +kernel) (by decide +kernel)
set_option maxRecDepth 20000 in
theorem gX6_readChances_X6_isWord : GoodIn wsX6_readChances (wsV RX6 41 RX6 yX6_isWord wsX6_isWord) := goodIn_app (goodIn_of _ (by decide +kernel)) ggX6_readChances_X6_isWord
set_option maxRecDepth 20000 in
theorem ggX6_readChances_X6_fail : GoodIn wsX6_readChances wsX6_fail := goodIn_r _ [63, 64, 9, 65, 99, 100, 101, 102, 103, 104, 105, 106] (by decide +kernel) (by decide +kernel)
set_option maxRecDepth 20000 in
theorem gX6_readChances_X6_fail : GoodIn wsX6_readChances (wsV RX6 45 RX6 yX6_fail wsX6_fail) := goodIn_app (goodIn_of _ (by decide +kernel)) ggX6_readChances_X6_fail
set_option maxRecDepth 20000 in
theorem ggX6_readChances_X6_nextToken : GoodIn wsX6_readChances wsX6_nextToken := goodIn_r _ [69, 8, 70, 10, 9, 1, 71, 72, 73, 6, 74, 75, 76, 77, 78, 2, 99, 100, 101, 102, 103, 104, 105, 106] (by decide +kernel) (by decide +kernel)
set_option maxRecDepth 20000 in
theorem gX6_readChances_X6_nextToken : GoodIn wsX6_readChances (wsV RX6 22 RX6 yX6_nextToken wsX6_nextToken) := goodIn_app (goodIn_of _ (by decide +kernel)) ggX6_readChances_X6_nextToken
set_option maxRecDepth 20000 in
theorem ggX6_readChances_X5_hasChance : GoodIn wsX6_readChances wsX5_hasChance := goodIn_r _ [83, 84, 85, 107, 108, 109, 110, 111, 112, 113, 114, 115, 116, 117, 118, 119, 120, 121, 122] (by decide +kernel) (by decide +kernel)
set_option maxRecDepth 20000 in
theorem gX6_readChances_X5_hasChance : GoodIn wsX6_readChances (wsV RX6 82 RX5 yX5_hasChance wsX5_hasChance) := goodIn_app (goodIn_of _ (by decide +kernel)) ggX6_readChances_X5_hasChance
set_option maxRecDepth 20000 in
theorem ggX6_readChances_X6_readNumber : GoodIn wsX6_readChances wsX6_readNumber := goodIn_r _ [89, 1, 2, 60, 61, 62, 6, 63, 64, 9, 65, 66, 67, 68, 69, 8, 70, 10, 71, 72, 73, 74, 75, 76, 77, 78, 99, 100, 101, 102, 103, 104, 105, 106] (by decide +kernel) (by decide +kernel)
set_option maxRecDepth 20000 in
theorem gX6_readChances_X6_readNumber : GoodIn wsX6_readChances (wsV RX6 49 RX6 yX6_readNumber wsX6_readNumber) := goodIn_app (goodIn_of _ (by decide +kernel)) ggX6_readChances_X6_readNumber
set_option maxRecDepth 20000 in
theorem ggX6_readChances_X6_readSign : GoodIn wsX6_readChances wsX6_readSign := goodIn_r _ [93, 1, 60, 61, 62, 6, 63, 64, 9, 65, 66, 67, 68, 69, 8, 70, 10, 71, 72, 73, 74, 75, 76, 77, 78, 2, 99, 100, 101, 102, 103, 104, 105, 106] (by decide +kernel) (by decide +kernel)
set_option maxRecDepth 20000 in
theorem gX6_readChances_X6_readSign : GoodIn wsX6_readChances (wsV RX6 71 RX6 yX6_readSign wsX6_readSign) := goodIn_app (goodIn_of _ (by decide +kernel)) ggX6_readChances_X6_readSign
set_option maxRecDepth 20000 in
theorem ggX6_readChances_X5_addChance : GoodIn wsX6_readChances wsX5_addChance := goodIn_r _ [97, 84, 85, 98, 107, 108, 109, 110, 111, 112, 113, 114, 115, 116, 117, 118, 119, 120, 121, 122] (by decide +kernel) (by decide +kernel)
set_option maxRecDepth 20000 in
theorem gX6_readChances_X5_addChance : GoodIn wsX6_readChances (wsV RX6 85 RX5 yX5_addChance wsX5_addChance) := goodIn_app (goodIn_of _ (by decide +kernel)) ggX6_readChances_X5_addChance
theorem dX6_readChances_0 : decode cX6_readChances 0 = .ok (.iconst 0, 1) := by decide +kernel
theorem dX6_readChances_1 : decode cX6_readChances 1 = .ok (.istore_n 2, 1) := by decide +kernel
theorem dX6_readChances_2 : decode cX6_readChances 2 = .ok (.iload_n 2, 1) := by decide +kernel
theorem dX6_readChances_3 : decode cX6_readChances 3 = .ok (.bipush 6, 2) := by decide +kernel
theorem dX6_readChances_5 : decode cX6_readChances 5 = .ok (.if_icmp .gt 107, 3) := by decide +kernel
theorem dX6_readChances_8 : decode cX6_readChances 8 = .ok (.aload_n 0, 1) := by decide +kernel
theorem dX6_readChances_9 : decode cX6_readChances 9 = .ok (.ldc 74, 2) := by decide +kernel
theorem dX6_readChances_11 : decode cX6_readChances 11 = .ok (.invokevirtual 41, 3) := by decide +kernel
theorem dX6_readChances_14 : decode cX6_readChances 14 = .ok (.ifCond .eq 98, 3) := by decide +kernel
theorem dX6_readChances_17 : decode cX6_readChances 17 = .ok (.iload_n 2, 1) := by decide +kernel
theorem dX6_readChances_18 : decode cX6_readChances 18 = .ok (.bipush 6, 2) := by decide +kernel
theorem dX6_readChances_20 : decode cX6_readChances 20 = .ok (.if_icmp .ne 9, 3) := by decide +kernel
theorem dX6_readChances_23 : decode cX6_readChances 23 = .ok (.aload_n 0, 1) := by decide +kernel
theorem dX6_readChances_24 : decode cX6_readChances 24 = .ok (.iconst 3, 1) := by decide +kernel
theorem dX6_readChances_25 : decode cX6_readChances 25 = .ok (.invokevirtual 45, 3) := by decide +kernel
theorem dX6_readChances_28 : decode cX6_readChances 28 = .ok (.ireturn, 1) := by decide +kernel
theorem dX6_readChances_29 : decode cX6_readChances 29 = .ok (.aload_n 0, 1) := by decide +kernel
theorem dX6_readChances_30 : decode cX6_readChances 30 = .ok (.invokevirtual 22, 3) := by decide +kernel
theorem dX6_readChances_33 : decode cX6_readChances 33 = .ok (.aload_n 0, 1) := by decide +kernel
theorem dX6_readChances_34 : decode cX6_readChances 34 = .ok (.getfield 76, 3) := by decide +kernel
theorem dX6_readChances_37 : decode cX6_readChances 37 = .ok (.iconst 2, 1) := by decide +kernel
theorem dX6_readChances_38 : decode cX6_readChances 38 = .ok (.if_icmp .ne 20, 3) := by decide +kernel
theorem dX6_readChances_41 : decode cX6_readChances 41 = .ok (.aload_n 1, 1) := by decide +kernel
theorem dX6_readChances_42 : decode cX6_readChances 42 = .ok (.aload_n 0, 1) := by decide +kernel
theorem dX6_readChances_43 : decode cX6_readChances 43 = .ok (.getfield 79, 3) := by decide +kernel
theorem dX6_readChances_46 : decode cX6_readChances 46 = .ok (.invokevirtual 82, 3) := by decide +kernel
theorem dX6_readChances_49 : decode cX6_readChances 49 = .ok (.ifCond .eq 9, 3) := by decide +kernel
theorem dX6_readChances_52 : decode cX6_readChances 52 = .ok (.aload_n 0, 1) := by decide +kernel
theorem dX6_readChances_53 : decode cX6_readChances 53 = .ok (.iconst 2, 1) := by decide +kernel
theorem dX6_readChances_54 : decode cX6_readChances 54 = .ok (.invokevirtual 45, 3) := by decide +kernel
theorem dX6_readChances_57 : decode cX6_readChances 57 = .ok (.ireturn, 1) := by decide +kernel
theorem dX6_readChances_58 : decode cX6_readChances 58 = .ok (.aload_n 0, 1) := by decide +kernel
theorem dX6_readChances_59 : decode cX6_readChances 59 = .ok (.iconst 0, 1) := by decide +kernel
theorem dX6_readChances_60 : decode cX6_readChances 60 = .ok (.bipush 9, 2) := by decide +kernel
theorem dX6_readChances_62 : decode cX6_readChances 62 = .ok (.invokevirtual 49, 3) := by decide +kernel
theorem dX6_readChances_65 : decode cX6_readChances 65 = .ok (.istore_n 3, 1) := by decide +kernel
theorem dX6_readChances_66 : decode cX6_readChances 66 = .ok (.iload_n 3, 1) := by decide +kernel
theorem dX6_readChances_67 : decode cX6_readChances 67 = .ok (.iconst (-1), 1) := by decide +kernel
theorem dX6_readChances_68 : decode cX6_readChances 68 = .ok (.if_icmp .ne 7, 3) := by decide +kernel
theorem dX6_readChances_71 : decode cX6_readChances 71 = .ok (.iconst (-1), 1) := by decide +kernel
theorem dX6_readChances_72 : decode cX6_readChances 72 = .ok (.goto 10, 3) := by decide +kernel
theorem dX6_readChances_75 : decode cX6_readChances 75 = .ok (.aload_n 0, 1) := by decide +kernel
theorem dX6_readChances_76 : decode cX6_readChances 76 = .ok (.iconst 1, 1) := by decide +kernel
theorem dX6_readChances_77 : decode cX6_readChances 77 = .ok (.bipush 9, 2) := by decide +kernel
theorem dX6_readChances_79 : decode cX6_readChances 79 = .ok (.invokevirtual 49, 3) := by decide +kernel
theorem dX6_readChances_82 : decode cX6_readChances 82 = .ok (.istore 4, 2) := by decide +kernel
theorem dX6_readChances_84 : decode cX6_readChances 84 = .ok (.iload 4, 2) := by decide +kernel
theorem dX6_readChances_86 : decode cX6_readChances 86 = .ok (.iconst (-1), 1) := by decide +kernel
theorem dX6_readChances_87 : decode cX6_readChances 87 = .ok (.if_icmp .eq 10, 3) := by decide +kernel
theorem dX6_readChances_90 : decode cX6_readChances 90 = .ok (.aload_n 0, 1) := by decide +kernel
theorem dX6_readChances_91 : decode cX6_readChances 91 = .ok (.invokevirtual 71, 3) := by decide +kernel
theorem dX6_readChances_94 : decode cX6_readChances 94 = .ok (.ifCond .ne 5, 3) := by decide +kernel
theorem dX6_readChances_97 : decode cX6_readChances 97 = .ok (.iconst 0, 1) := by decide +kernel
theorem dX6_readChances_98 : decode cX6_readChances 98 = .ok (.ireturn, 1) := by decide +kernel
theorem dX6_readChances_99 : decode cX6_readChances 99 = .ok (.aload_n 1, 1) := by decide +kernel
theorem dX6_readChances_100 : decode cX6_readChances 100 = .ok (.iload_n 3, 1) := by decide +kernel
theorem dX6_readChances_101 : decode cX6_readChances 101 = .ok (.iload 4, 2) := by decide +kernel
theorem dX6_readChances_103 : decode cX6_readChances 103 = .ok (.invokevirtual 85, 3) := by decide +kernel
theorem dX6_readChances_106 : decode cX6_readChances 106 = .ok (.iinc 2 1, 3) := by decide +kernel
theorem dX6_readChances_109 : decode cX6_readChances 109 = .ok (.goto (-107), 3) := by decide +kernel
theorem dX6_readChances_112 : decode cX6_readChances 112 = .ok (.iconst 1, 1) := by decide +kernel
theorem dX6_readChances_113 : decode cX6_readChances 113 = .ok (.ireturn, 1) := by decide +kernel
set_option maxRecDepth 20000 in
theorem ggX6_readParties_X6_isWord : GoodIn wsX6_readParties wsX6_isWord := goodIn_r _ [6, 7, 8, 9, 10, 11, 12, 13, 14, 15, 16, 17, 18, 19, 20, 21, 22, 23, 24, 25, 26, 27, 28, 29, 30, 31, 32, 33, 34, 35, 36, 37, 38, 39, 40, 41, 42, 43, 44, 45, 46, 47, 48, 49, 50, 51, 52, 53, 54, 55, 56, 57, 58, 59, 166, 167, 168, 169, 170, 171, 172, 173] (by decide +kernel) (by decide +kernel)
set_option maxRecDepth 20000 in
theorem gX6_readParties_X6_isWord : GoodIn wsX6_readParties (wsV RX6 41 RX6 yX6_isWord wsX6_isWord) := goodIn_app (goodIn_of _ (by decide +kernel)) ggX6_readParties_X6_isWord
set_option maxRecDepth 20000 in
theorem ggX6_readParties_X6_fail : GoodIn wsX6_readParties wsX6_fail := goodIn_r _ [63, 64, 9, 65, 166, 167, 168, 169, 170, 171, 172, 173] (by decide +kernel) (by decide +kernel)
set_option maxRecDepth 20000 in
theorem gX6_readParties_X6_fail : GoodIn wsX6_readParties (wsV RX6 45 RX6 yX6_fail wsX6_fail) := goodIn_app (goodIn_of _ (by decide +kernel)) ggX6_readParties_X6_fail
set_option maxRecDepth 20000 in
theorem ggX6_readParties_X6_nextToken : GoodIn wsX6_readParties wsX6_nextToken := goodIn_r _ [69, 8, 70, 10, 9, 7, 71, 72, 73, 5, 74, 75, 76, 77, 78, 79, 166, 167, 168, 169, 170, 171, 172, 173] (by decide +kernel) (by decide +kernel)
set_option maxRecDepth 20000 in
theorem gX6_readParties_X6_nextToken : GoodIn wsX6_readParties (wsV RX6 22 RX6 yX6_nextToken wsX6_nextToken) := goodIn_app (goodIn_of _ (by decide +kernel)) ggX6_readParties_X6_nextToken
set_option maxRecDepth 20000 in
theorem ggX6_readParties_X6_readNumber : GoodIn wsX6_readParties wsX6_readNumber := goodIn_r _ [83, 7, 79, 60, 61, 62, 5, 63, 64, 9, 65, 66, 67, 68, 69, 8, 70, 10, 71, 72, 73, 74, 75, 76, 77, 78, 166, 167, 168, 169, 170, 171, 172, 173] (by decide +kernel) (by decide +kernel)
set_option maxRecDepth 20000 in
theorem gX6_readParties_X6_readNumber : GoodIn wsX6_readParties (wsV RX6 49 RX6 yX6_readNumber wsX6_readNumber) := goodIn_app (goodIn_of _ (by decide +kernel)) ggX6_readParties_X6_readNumber
set_option maxRecDepth 20000 in
theorem ggX6_readParties_X6_readWay : GoodIn wsX6_readParties wsX6_readWay := goodIn_r _ [87, 2, 3, 4, 5, 6, 7, 8, 9, 10, 11, 12, 13, 14, 15, 16, 17, 18, 19, 20, 21, 22, 23, 24, 25, 26, 27, 28, 29, 30, 31, 32, 33, 34, 35, 36, 37, 38, 39, 40, 41, 42, 43, 44, 45, 46, 47, 48, 49, 50, 51, 52, 53, 54, 55, 56, 57, 58, 59, 88, 89, 90, 91, 60, 61, 62, 63, 64, 65, 66, 67, 68, 69, 70, 71, 72, 73, 74, 75, 76, 77, 78, 79, 166, 167, 168, 169, 170, 171, 172, 173] (by decide +kernel) (by decide +kernel)
set_option maxRecDepth 20000 in
theorem gX6_readParties_X6_readWay : GoodIn wsX6_readParties (wsV RX6 91 RX6 yX6_readWay wsX6_readWay) := goodIn_app (goodIn_of _ (by decide +kernel)) ggX6_readParties_X6_readWay
set_option maxRecDepth 20000 in
theorem ggX6_readParties_X6_readSign : GoodIn wsX6_readParties wsX6_readSign := goodIn_r _ [95, 7, 60, 61, 62, 5, 63, 64, 9, 65, 66, 67, 68, 69, 8, 70, 10, 71, 72, 73, 74, 75, 76, 77, 78, 79, 166, 167, 168, 169, 170, 171, 172, 173] (by decide +kernel) (by decide +kernel)
set_option maxRecDepth 20000 in
theorem gX6_readParties_X6_readSign : GoodIn wsX6_readParties (wsV RX6 71 RX6 yX6_readSign wsX6_readSign) := goodIn_app (goodIn_of _ (by decide +kernel)) ggX6_readParties_X6_readSign
set_option maxRecDepth 20000 in
theorem ggX6_readParties_X6_partyOf : GoodIn wsX6_readParties wsX6_partyOf := goodIn_r _ [98, 99, 100, 101, 102, 103, 104, 105, 106, 107, 108, 109, 110, 111, 112, 113, 114, 115, 116, 117, 118, 119, 120, 121, 122, 123, 124, 125, 126, 127, 128, 129, 130, 131, 132, 133, 134, 135, 136, 137, 138, 139, 140, 141, 142, 174, 175, 176, 177, 178, 179, 180, 181, 182, 183, 184, 185, 186, 187, 188] (by decide +kernel) (by decide +kernel)
set_option maxRecDepth 20000 in
theorem gX6_readParties_X6_partyOf : GoodIn wsX6_readParties (va_wsS RX6 97 yX6_partyOf wsX6_partyOf) := goodIn_app (goodIn_of _ (by decide +kernel)) ggX6_readParties_X6_partyOf
set_option maxRecDepth 20000 in
theorem ggX6_readParties_X5_addParty : GoodIn wsX6_readParties wsX5_addParty := goodIn_r _ [147, 148, 149, 150, 151, 152, 153, 154, 155, 156, 157, 158, 159, 160, 161, 162, 163, 164, 165] (by decide +kernel) (by decide +kernel)
set_option maxRecDepth 20000 in
theorem gX6_readParties_X5_addParty : GoodIn wsX6_readParties (wsV RX6 101 RX5 yX5_addParty wsX5_addParty) := goodIn_app (goodIn_of _ (by decide +kernel)) ggX6_readParties_X5_addParty
theorem dX6_readParties_0 : decode cX6_readParties 0 = .ok (.iconst 0, 1) := by decide +kernel
theorem dX6_readParties_1 : decode cX6_readParties 1 = .ok (.istore_n 2, 1) := by decide +kernel
theorem dX6_readParties_2 : decode cX6_readParties 2 = .ok (.iload_n 2, 1) := by decide +kernel
theorem dX6_readParties_3 : decode cX6_readParties 3 = .ok (.bipush 16, 2) := by decide +kernel
theorem dX6_readParties_5 : decode cX6_readParties 5 = .ok (.if_icmp .gt 107, 3) := by decide +kernel
theorem dX6_readParties_8 : decode cX6_readParties 8 = .ok (.aload_n 0, 1) := by decide +kernel
theorem dX6_readParties_9 : decode cX6_readParties 9 = .ok (.ldc 89, 2) := by decide +kernel
theorem dX6_readParties_11 : decode cX6_readParties 11 = .ok (.invokevirtual 41, 3) := by decide +kernel
theorem dX6_readParties_14 : decode cX6_readParties 14 = .ok (.ifCond .eq 98, 3) := by decide +kernel
theorem dX6_readParties_17 : decode cX6_readParties 17 = .ok (.iload_n 2, 1) := by decide +kernel
theorem dX6_readParties_18 : decode cX6_readParties 18 = .ok (.bipush 16, 2) := by decide +kernel
theorem dX6_readParties_20 : decode cX6_readParties 20 = .ok (.if_icmp .ne 9, 3) := by decide +kernel
theorem dX6_readParties_23 : decode cX6_readParties 23 = .ok (.aload_n 0, 1) := by decide +kernel
theorem dX6_readParties_24 : decode cX6_readParties 24 = .ok (.iconst 3, 1) := by decide +kernel
theorem dX6_readParties_25 : decode cX6_readParties 25 = .ok (.invokevirtual 45, 3) := by decide +kernel
theorem dX6_readParties_28 : decode cX6_readParties 28 = .ok (.ireturn, 1) := by decide +kernel
theorem dX6_readParties_29 : decode cX6_readParties 29 = .ok (.aload_n 0, 1) := by decide +kernel
theorem dX6_readParties_30 : decode cX6_readParties 30 = .ok (.invokevirtual 22, 3) := by decide +kernel
theorem dX6_readParties_33 : decode cX6_readParties 33 = .ok (.aload_n 0, 1) := by decide +kernel
theorem dX6_readParties_34 : decode cX6_readParties 34 = .ok (.iconst 1, 1) := by decide +kernel
theorem dX6_readParties_35 : decode cX6_readParties 35 = .ok (.bipush 9, 2) := by decide +kernel
theorem dX6_readParties_37 : decode cX6_readParties 37 = .ok (.invokevirtual 49, 3) := by decide +kernel
theorem dX6_readParties_40 : decode cX6_readParties 40 = .ok (.istore_n 3, 1) := by decide +kernel
theorem dX6_readParties_41 : decode cX6_readParties 41 = .ok (.iload_n 3, 1) := by decide +kernel
theorem dX6_readParties_42 : decode cX6_readParties 42 = .ok (.iconst (-1), 1) := by decide +kernel
theorem dX6_readParties_43 : decode cX6_readParties 43 = .ok (.if_icmp .ne 7, 3) := by decide +kernel
theorem dX6_readParties_46 : decode cX6_readParties 46 = .ok (.iconst (-1), 1) := by decide +kernel
theorem dX6_readParties_47 : decode cX6_readParties 47 = .ok (.goto 7, 3) := by decide +kernel
theorem dX6_readParties_50 : decode cX6_readParties 50 = .ok (.aload_n 0, 1) := by decide +kernel
theorem dX6_readParties_51 : decode cX6_readParties 51 = .ok (.invokevirtual 91, 3) := by decide +kernel
theorem dX6_readParties_54 : decode cX6_readParties 54 = .ok (.istore 4, 2) := by decide +kernel
theorem dX6_readParties_56 : decode cX6_readParties 56 = .ok (.iload 4, 2) := by decide +kernel
theorem dX6_readParties_58 : decode cX6_readParties 58 = .ok (.iconst (-1), 1) := by decide +kernel
theorem dX6_readParties_59 : decode cX6_readParties 59 = .ok (.if_icmp .ne 7, 3) := by decide +kernel
theorem dX6_readParties_62 : decode cX6_readParties 62 = .ok (.iconst (-1), 1) := by decide +kernel
theorem dX6_readParties_63 : decode cX6_readParties 63 = .ok (.goto 10, 3) := by decide +kernel
theorem dX6_readParties_66 : decode cX6_readParties 66 = .ok (.aload_n 0, 1) := by decide +kernel
theorem dX6_readParties_67 : decode cX6_readParties 67 = .ok (.iconst 0, 1) := by decide +kernel
theorem dX6_readParties_68 : decode cX6_readParties 68 = .ok (.bipush 99, 2) := by decide +kernel
theorem dX6_readParties_70 : decode cX6_readParties 70 = .ok (.invokevirtual 49, 3) := by decide +kernel
theorem dX6_readParties_73 : decode cX6_readParties 73 = .ok (.istore 5, 2) := by decide +kernel
theorem dX6_readParties_75 : decode cX6_readParties 75 = .ok (.iload 5, 2) := by decide +kernel
theorem dX6_readParties_77 : decode cX6_readParties 77 = .ok (.iconst (-1), 1) := by decide +kernel
theorem dX6_readParties_78 : decode cX6_readParties 78 = .ok (.if_icmp .eq 10, 3) := by decide +kernel
theorem dX6_readParties_81 : decode cX6_readParties 81 = .ok (.aload_n 0, 1) := by decide +kernel
theorem dX6_readParties_82 : decode cX6_readParties 82 = .ok (.invokevirtual 71, 3) := by decide +kernel
theorem dX6_readParties_85 : decode cX6_readParties 85 = .ok (.ifCond .ne 5, 3) := by decide +kernel
theorem dX6_readParties_88 : decode cX6_readParties 88 = .ok (.iconst 0, 1) := by decide +kernel
theorem dX6_readParties_89 : decode cX6_readParties 89 = .ok (.ireturn, 1) := by decide +kernel
theorem dX6_readParties_90 : decode cX6_readParties 90 = .ok (.aload_n 1, 1) := by decide +kernel
theorem dX6_readParties_91 : decode cX6_readParties 91 = .ok (.aload_n 1, 1) := by decide +kernel
theorem dX6_readParties_92 : decode cX6_readParties 92 = .ok (.getfield 94, 3) := by decide +kernel
theorem dX6_readParties_95 : decode cX6_readParties 95 = .ok (.iload_n 3, 1) := by decide +kernel
theorem dX6_readParties_96 : decode cX6_readParties 96 = .ok (.iload 4, 2) := by decide +kernel
theorem dX6_readParties_98 : decode cX6_readParties 98 = .ok (.iload 5, 2) := by decide +kernel
theorem dX6_readParties_100 : decode cX6_readParties 100 = .ok (.invokestatic 97, 3) := by decide +kernel
theorem dX6_readParties_103 : decode cX6_readParties 103 = .ok (.invokevirtual 101, 3) := by decide +kernel
theorem dX6_readParties_106 : decode cX6_readParties 106 = .ok (.iinc 2 1, 3) := by decide +kernel
theorem dX6_readParties_109 : decode cX6_readParties 109 = .ok (.goto (-107), 3) := by decide +kernel
theorem dX6_readParties_112 : decode cX6_readParties 112 = .ok (.iconst 1, 1) := by decide +kernel
theorem dX6_readParties_113 : decode cX6_readParties 113 = .ok (.ireturn, 1) := by decide +kernel
set_option maxRecDepth 20000 in
theorem ggX6_partyOf_X3_init : GoodIn wsX6_partyOf wsX3_init := goodIn_r _ [18, 19, 20, 6, 21, 22, 23, 24, 25, 26, 27, 28, 29, 30, 31, 51, 52, 53, 48, 49, 50, 45, 46, 47, 57, 58, 59, 54, 55, 56] (by decide +kernel) (by decide +kernel)
set_option maxRecDepth 20000 in
theorem gX6_partyOf_X3_init : GoodIn wsX6_partyOf (wsX3_init) := ggX6_partyOf_X3_init
set_option maxRecDepth 20000 in
theorem ggX6_partyOf_X2_init : GoodIn wsX6_partyOf wsX2_init := goodIn_r _ [21, 22, 23, 24, 25, 26, 27, 28, 29, 30, 31, 51, 52, 53, 48, 49, 50, 45, 46, 47, 57, 58, 59, 54, 55, 56] (by decide +kernel) (by decide +kernel)
set_option maxRecDepth 20000 in
theorem gX6_partyOf_X2_init : GoodIn wsX6_partyOf (wsX2_init) := ggX6_partyOf_X2_init
set_option maxRecDepth 20000 in
theorem ggX6_partyOf_X1_init : GoodIn wsX6_partyOf wsX1_init := goodIn_r _ [35, 36, 20, 6, 21, 22, 23, 24, 25, 26, 27, 28, 29, 30, 31, 51, 52, 53, 48, 49, 50, 45, 46, 47, 57, 58, 59, 54, 55, 56] (by decide +kernel) (by decide +kernel)
set_option maxRecDepth 20000 in
theorem gX6_partyOf_X1_init : GoodIn wsX6_partyOf (wsX1_init) := ggX6_partyOf_X1_init
set_option maxRecDepth 20000 in
theorem ggX6_partyOf_X9_init : GoodIn wsX6_partyOf wsX9_init := goodIn_r _ [39, 40, 23, 24, 25, 26, 27, 28, 29, 30, 31, 51, 52, 53, 48, 49, 50, 45, 46, 47, 57, 58, 59, 54, 55, 56] (by decide +kernel) (by decide +kernel)
set_option maxRecDepth 20000 in
theorem gX6_partyOf_X9_init : GoodIn wsX6_partyOf (wsX9_init) := ggX6_partyOf_X9_init
set_option maxRecDepth 20000 in
theorem ggX6_partyOf_X7_init : GoodIn wsX6_partyOf wsX7_init := goodIn_r _ [43, 44, 23, 24, 25, 26, 27, 28, 29, 30, 31, 51, 52, 53, 48, 49, 50, 45, 46, 47, 57, 58, 59, 54, 55, 56] (by decide +kernel) (by decide +kernel)
set_option maxRecDepth 20000 in
theorem gX6_partyOf_X7_init : GoodIn wsX6_partyOf (wsX7_init) := ggX6_partyOf_X7_init
theorem dX6_partyOf_0 : decode cX6_partyOf 0 = .ok (.iload_n 2, 1) := by decide +kernel
theorem dX6_partyOf_1 : decode cX6_partyOf 1 = .ok (.tableswitch 81 0 3 #[31, 59, 81, 70], 31) := by decide +kernel
theorem dX6_partyOf_32 : decode cX6_partyOf 32 = .ok (.iload_n 1, 1) := by decide +kernel
theorem dX6_partyOf_33 : decode cX6_partyOf 33 = .ok (.iconst 1, 1) := by decide +kernel
theorem dX6_partyOf_34 : decode cX6_partyOf 34 = .ok (.if_icmp .ne 15, 3) := by decide +kernel
theorem dX6_partyOf_37 : decode cX6_partyOf 37 = .ok (.new 105, 3) := by decide +kernel
theorem dX6_partyOf_40 : decode cX6_partyOf 40 = .ok (.dup, 1) := by decide +kernel
theorem dX6_partyOf_41 : decode cX6_partyOf 41 = .ok (.iload_n 0, 1) := by decide +kernel
theorem dX6_partyOf_42 : decode cX6_partyOf 42 = .ok (.iload_n 3, 1) := by decide +kernel
theorem dX6_partyOf_43 : decode cX6_partyOf 43 = .ok (.invokespecial 107, 3) := by decide +kernel
theorem dX6_partyOf_46 : decode cX6_partyOf 46 = .ok (.goto 13, 3) := by decide +kernel
theorem dX6_partyOf_49 : decode cX6_partyOf 49 = .ok (.new 109, 3) := by decide +kernel
theorem dX6_partyOf_52 : decode cX6_partyOf 52 = .ok (.dup, 1) := by decide +kernel
theorem dX6_partyOf_53 : decode cX6_partyOf 53 = .ok (.iload_n 0, 1) := by decide +kernel
theorem dX6_partyOf_54 : decode cX6_partyOf 54 = .ok (.iload_n 1, 1) := by decide +kernel
theorem dX6_partyOf_55 : decode cX6_partyOf 55 = .ok (.iload_n 3, 1) := by decide +kernel
theorem dX6_partyOf_56 : decode cX6_partyOf 56 = .ok (.invokespecial 111, 3) := by decide +kernel
theorem dX6_partyOf_59 : decode cX6_partyOf 59 = .ok (.areturn, 1) := by decide +kernel
theorem dX6_partyOf_60 : decode cX6_partyOf 60 = .ok (.new 114, 3) := by decide +kernel
theorem dX6_partyOf_63 : decode cX6_partyOf 63 = .ok (.dup, 1) := by decide +kernel
theorem dX6_partyOf_64 : decode cX6_partyOf 64 = .ok (.iload_n 0, 1) := by decide +kernel
theorem dX6_partyOf_65 : decode cX6_partyOf 65 = .ok (.iload_n 1, 1) := by decide +kernel
theorem dX6_partyOf_66 : decode cX6_partyOf 66 = .ok (.iload_n 3, 1) := by decide +kernel
theorem dX6_partyOf_67 : decode cX6_partyOf 67 = .ok (.invokespecial 116, 3) := by decide +kernel
theorem dX6_partyOf_70 : decode cX6_partyOf 70 = .ok (.areturn, 1) := by decide +kernel
theorem dX6_partyOf_71 : decode cX6_partyOf 71 = .ok (.new 117, 3) := by decide +kernel
theorem dX6_partyOf_74 : decode cX6_partyOf 74 = .ok (.dup, 1) := by decide +kernel
theorem dX6_partyOf_75 : decode cX6_partyOf 75 = .ok (.iload_n 0, 1) := by decide +kernel
theorem dX6_partyOf_76 : decode cX6_partyOf 76 = .ok (.iload_n 1, 1) := by decide +kernel
theorem dX6_partyOf_77 : decode cX6_partyOf 77 = .ok (.iload_n 3, 1) := by decide +kernel
theorem dX6_partyOf_78 : decode cX6_partyOf 78 = .ok (.invokespecial 119, 3) := by decide +kernel
theorem dX6_partyOf_81 : decode cX6_partyOf 81 = .ok (.areturn, 1) := by decide +kernel
theorem dX6_partyOf_82 : decode cX6_partyOf 82 = .ok (.new 120, 3) := by decide +kernel
theorem dX6_partyOf_85 : decode cX6_partyOf 85 = .ok (.dup, 1) := by decide +kernel
theorem dX6_partyOf_86 : decode cX6_partyOf 86 = .ok (.iload_n 0, 1) := by decide +kernel
theorem dX6_partyOf_87 : decode cX6_partyOf 87 = .ok (.iload_n 1, 1) := by decide +kernel
theorem dX6_partyOf_88 : decode cX6_partyOf 88 = .ok (.iload_n 3, 1) := by decide +kernel
theorem dX6_partyOf_89 : decode cX6_partyOf 89 = .ok (.invokespecial 122, 3) := by decide +kernel
theorem dX6_partyOf_92 : decode cX6_partyOf 92 = .ok (.areturn, 1) := by decide +kernel
set_option maxRecDepth 20000 in
theorem ggX6_readLaw_X6_isWord : GoodIn wsX6_readLaw wsX6_isWord := goodIn_r _ [5, 6, 7, 8, 9, 10, 11, 12, 13, 14, 15, 16, 17, 18, 19, 20, 21, 22, 23, 24, 25, 26, 27, 28, 29, 30, 31, 32, 33, 34, 35, 36, 37, 38, 39, 40, 41, 42, 43, 44, 45, 46, 47, 48, 49, 50, 51, 52, 53, 54, 55, 56, 57, 58, 83, 84, 85, 86, 87, 88, 89, 90] (by decide +kernel) (by decide +kernel)
set_option maxRecDepth 20000 in
theorem gX6_readLaw_X6_isWord : GoodIn wsX6_readLaw (wsV RX6 41 RX6 yX6_isWord wsX6_isWord) := goodIn_app (goodIn_of _ (by decide +kernel)) ggX6_readLaw_X6_isWord
set_option maxRecDepth 20000 in
theorem ggX6_readLaw_X6_pastName : GoodIn wsX6_readLaw wsX6_pastName := goodIn_r _ [62, 63, 64, 65, 4, 66, 67, 8, 68, 69, 70, 71, 72, 7, 73, 9, 6, 74, 75, 76, 77, 78, 79, 80, 81, 82, 83, 84, 85, 86, 87, 88, 89, 90] (by decide +kernel) (by decide +kernel)
set_option maxRecDepth 20000 in
theorem gX6_readLaw_X6_pastName : GoodIn wsX6_readLaw (wsV RX6 129 RX6 yX6_pastName wsX6_pastName) := goodIn_app (goodIn_of _ (by decide +kernel)) ggX6_readLaw_X6_pastName
theorem dX6_readLaw_0 : decode cX6_readLaw 0 = .ok (.aload_n 0, 1) := by decide +kernel
theorem dX6_readLaw_1 : decode cX6_readLaw 1 = .ok (.ldc 123, 2) := by decide +kernel
theorem dX6_readLaw_3 : decode cX6_readLaw 3 = .ok (.invokevirtual 41, 3) := by decide +kernel
theorem dX6_readLaw_6 : decode cX6_readLaw 6 = .ok (.ifCond .eq 7, 3) := by decide +kernel
theorem dX6_readLaw_9 : decode cX6_readLaw 9 = .ok (.iconst 0, 1) := by decide +kernel
theorem dX6_readLaw_10 : decode cX6_readLaw 10 = .ok (.goto 30, 3) := by decide +kernel
theorem dX6_readLaw_13 : decode cX6_readLaw 13 = .ok (.aload_n 0, 1) := by decide +kernel
theorem dX6_readLaw_14 : decode cX6_readLaw 14 = .ok (.ldc 125, 2) := by decide +kernel
theorem dX6_readLaw_16 : decode cX6_readLaw 16 = .ok (.invokevirtual 41, 3) := by decide +kernel
theorem dX6_readLaw_19 : decode cX6_readLaw 19 = .ok (.ifCond .eq 7, 3) := by decide +kernel
theorem dX6_readLaw_22 : decode cX6_readLaw 22 = .ok (.iconst 1, 1) := by decide +kernel
theorem dX6_readLaw_23 : decode cX6_readLaw 23 = .ok (.goto 17, 3) := by decide +kernel
theorem dX6_readLaw_26 : decode cX6_readLaw 26 = .ok (.aload_n 0, 1) := by decide +kernel
theorem dX6_readLaw_27 : decode cX6_readLaw 27 = .ok (.ldc 127, 2) := by decide +kernel
theorem dX6_readLaw_29 : decode cX6_readLaw 29 = .ok (.invokevirtual 41, 3) := by decide +kernel
theorem dX6_readLaw_32 : decode cX6_readLaw 32 = .ok (.ifCond .eq 7, 3) := by decide +kernel
theorem dX6_readLaw_35 : decode cX6_readLaw 35 = .ok (.iconst 2, 1) := by decide +kernel
theorem dX6_readLaw_36 : decode cX6_readLaw 36 = .ok (.goto 4, 3) := by decide +kernel
theorem dX6_readLaw_39 : decode cX6_readLaw 39 = .ok (.iconst (-1), 1) := by decide +kernel
theorem dX6_readLaw_40 : decode cX6_readLaw 40 = .ok (.istore_n 1, 1) := by decide +kernel
theorem dX6_readLaw_41 : decode cX6_readLaw 41 = .ok (.aload_n 0, 1) := by decide +kernel
theorem dX6_readLaw_42 : decode cX6_readLaw 42 = .ok (.iload_n 1, 1) := by decide +kernel
theorem dX6_readLaw_43 : decode cX6_readLaw 43 = .ok (.invokevirtual 129, 3) := by decide +kernel
theorem dX6_readLaw_46 : decode cX6_readLaw 46 = .ok (.ireturn, 1) := by decide +kernel
set_option maxRecDepth 20000 in
theorem ggX6_readWay_X6_isWord : GoodIn wsX6_readWay wsX6_isWord := goodIn_r _ [5, 6, 7, 8, 9, 10, 11, 12, 13, 14, 15, 16, 17, 18, 19, 20, 21, 22, 23, 24, 25, 26, 27, 28, 29, 30, 31, 32, 33, 34, 35, 36, 37, 38, 39, 40, 41, 42, 43, 44, 45, 46, 47, 48, 49, 50, 51, 52, 53, 54, 55, 56, 57, 58, 83, 84, 85, 86, 87, 88, 89, 90] (by decide +kernel) (by decide +kernel)
set_option maxRecDepth 20000 in
theorem gX6_readWay_X6_isWord : GoodIn wsX6_readWay (wsV RX6 41 RX6 yX6_isWord wsX6_isWord) := goodIn_app (goodIn_of _ (by decide +kernel)) ggX6_readWay_X6_isWord
set_option maxRecDepth 20000 in
theorem ggX6_readWay_X6_pastName : GoodIn wsX6_readWay wsX6_pastName := goodIn_r _ [62, 63, 64, 65, 4, 66, 67, 8, 68, 69, 70, 71, 72, 7, 73, 9, 6, 74, 75, 76, 77, 78, 79, 80, 81, 82, 83, 84, 85, 86, 87, 88, 89, 90] (by decide +kernel) (by decide +kernel)
set_option maxRecDepth 20000 in
theorem gX6_readWay_X6_pastName : GoodIn wsX6_readWay (wsV RX6 129 RX6 yX6_pastName wsX6_pastName) := goodIn_app (goodIn_of _ (by decide +kernel)) ggX6_readWay_X6_pastName
theorem dX6_readWay_0 : decode cX6_readWay 0 = .ok (.aload_n 0, 1) := by decide +kernel
theorem dX6_readWay_1 : decode cX6_readWay 1 = .ok (.ldc 133, 2) := by decide +kernel
theorem dX6_readWay_3 : decode cX6_readWay 3 = .ok (.invokevirtual 41, 3) := by decide +kernel
theorem dX6_readWay_6 : decode cX6_readWay 6 = .ok (.ifCond .eq 7, 3) := by decide +kernel
theorem dX6_readWay_9 : decode cX6_readWay 9 = .ok (.iconst 0, 1) := by decide +kernel
theorem dX6_readWay_10 : decode cX6_readWay 10 = .ok (.goto 43, 3) := by decide +kernel
theorem dX6_readWay_13 : decode cX6_readWay 13 = .ok (.aload_n 0, 1) := by decide +kernel
theorem dX6_readWay_14 : decode cX6_readWay 14 = .ok (.ldc 135, 2) := by decide +kernel
theorem dX6_readWay_16 : decode cX6_readWay 16 = .ok (.invokevirtual 41, 3) := by decide +kernel
theorem dX6_readWay_19 : decode cX6_readWay 19 = .ok (.ifCond .eq 7, 3) := by decide +kernel
theorem dX6_readWay_22 : decode cX6_readWay 22 = .ok (.iconst 1, 1) := by decide +kernel
theorem dX6_readWay_23 : decode cX6_readWay 23 = .ok (.goto 30, 3) := by decide +kernel
theorem dX6_readWay_26 : decode cX6_readWay 26 = .ok (.aload_n 0, 1) := by decide +kernel
theorem dX6_readWay_27 : decode cX6_readWay 27 = .ok (.ldc 137, 2) := by decide +kernel
theorem dX6_readWay_29 : decode cX6_readWay 29 = .ok (.invokevirtual 41, 3) := by decide +kernel
theorem dX6_readWay_32 : decode cX6_readWay 32 = .ok (.ifCond .eq 7, 3) := by decide +kernel
theorem dX6_readWay_35 : decode cX6_readWay 35 = .ok (.iconst 2, 1) := by decide +kernel
theorem dX6_readWay_36 : decode cX6_readWay 36 = .ok (.goto 17, 3) := by decide +kernel
theorem dX6_readWay_39 : decode cX6_readWay 39 = .ok (.aload_n 0, 1) := by decide +kernel
theorem dX6_readWay_40 : decode cX6_readWay 40 = .ok (.ldc 139, 2) := by decide +kernel
theorem dX6_readWay_42 : decode cX6_readWay 42 = .ok (.invokevirtual 41, 3) := by decide +kernel
theorem dX6_readWay_45 : decode cX6_readWay 45 = .ok (.ifCond .eq 7, 3) := by decide +kernel
theorem dX6_readWay_48 : decode cX6_readWay 48 = .ok (.iconst 3, 1) := by decide +kernel
theorem dX6_readWay_49 : decode cX6_readWay 49 = .ok (.goto 4, 3) := by decide +kernel
theorem dX6_readWay_52 : decode cX6_readWay 52 = .ok (.iconst (-1), 1) := by decide +kernel
theorem dX6_readWay_53 : decode cX6_readWay 53 = .ok (.istore_n 1, 1) := by decide +kernel
theorem dX6_readWay_54 : decode cX6_readWay 54 = .ok (.aload_n 0, 1) := by decide +kernel
theorem dX6_readWay_55 : decode cX6_readWay 55 = .ok (.iload_n 1, 1) := by decide +kernel
theorem dX6_readWay_56 : decode cX6_readWay 56 = .ok (.invokevirtual 129, 3) := by decide +kernel
theorem dX6_readWay_59 : decode cX6_readWay 59 = .ok (.ireturn, 1) := by decide +kernel
set_option maxRecDepth 20000 in
theorem ggX6_pastName_X6_fail : GoodIn wsX6_pastName wsX6_fail := goodIn_r _ [5, 6, 7, 8, 26, 27, 28, 29, 30, 31, 32, 33] (by decide +kernel) (by decide +kernel)
set_option maxRecDepth 20000 in
theorem gX6_pastName_X6_fail : GoodIn wsX6_pastName (wsV RX6 45 RX6 yX6_fail wsX6_fail) := goodIn_app (goodIn_of _ (by decide +kernel)) ggX6_pastName_X6_fail
set_option maxRecDepth 20000 in
theorem ggX6_pastName_X6_nextToken : GoodIn wsX6_pastName wsX6_nextToken := goodIn_r _ [12, 13, 14, 15, 7, 16, 17, 18, 19, 4, 20, 21, 22, 23, 24, 25, 26, 27, 28, 29, 30, 31, 32, 33] (by decide +kernel) (by decide +kernel)
set_option maxRecDepth 20000 in
theorem gX6_pastName_X6_nextToken : GoodIn wsX6_pastName (wsV RX6 22 RX6 yX6_nextToken wsX6_nextToken) := goodIn_app (goodIn_of _ (by decide +kernel)) ggX6_pastName_X6_nextToken
theorem dX6_pastName_0 : decode cX6_pastName 0 = .ok (.iload_n 1, 1) := by decide +kernel
theorem dX6_pastName_1 : decode cX6_pastName 1 = .ok (.iconst (-1), 1) := by decide +kernel
theorem dX6_pastName_2 : decode cX6_pastName 2 = .ok (.if_icmp .ne 12, 3) := by decide +kernel
theorem dX6_pastName_5 : decode cX6_pastName 5 = .ok (.aload_n 0, 1) := by decide +kernel
theorem dX6_pastName_6 : decode cX6_pastName 6 = .ok (.iconst 1, 1) := by decide +kernel
theorem dX6_pastName_7 : decode cX6_pastName 7 = .ok (.invokevirtual 45, 3) := by decide +kernel
theorem dX6_pastName_10 : decode cX6_pastName 10 = .ok (.pop, 1) := by decide +kernel
theorem dX6_pastName_11 : decode cX6_pastName 11 = .ok (.goto 7, 3) := by decide +kernel
theorem dX6_pastName_14 : decode cX6_pastName 14 = .ok (.aload_n 0, 1) := by decide +kernel
theorem dX6_pastName_15 : decode cX6_pastName 15 = .ok (.invokevirtual 22, 3) := by decide +kernel
theorem dX6_pastName_18 : decode cX6_pastName 18 = .ok (.iload_n 1, 1) := by decide +kernel
theorem dX6_pastName_19 : decode cX6_pastName 19 = .ok (.ireturn, 1) := by decide +kernel
set_option maxRecDepth 20000 in
theorem ggX6_readNumber_X6_fail : GoodIn wsX6_readNumber wsX6_fail := goodIn_r _ [7, 8, 9, 10, 26, 27, 28, 29, 30, 31, 32, 33] (by decide +kernel) (by decide +kernel)
set_option maxRecDepth 20000 in
theorem gX6_readNumber_X6_fail : GoodIn wsX6_readNumber (wsV RX6 45 RX6 yX6_fail wsX6_fail) := goodIn_app (goodIn_of _ (by decide +kernel)) ggX6_readNumber_X6_fail
set_option maxRecDepth 20000 in
theorem ggX6_readNumber_X6_nextToken : GoodIn wsX6_readNumber wsX6_nextToken := goodIn_r _ [14, 15, 16, 17, 9, 1, 18, 19, 20, 6, 21, 22, 23, 24, 25, 2, 26, 27, 28, 29, 30, 31, 32, 33] (by decide +kernel) (by decide +kernel)
set_option maxRecDepth 20000 in
theorem gX6_readNumber_X6_nextToken : GoodIn wsX6_readNumber (wsV RX6 22 RX6 yX6_nextToken wsX6_nextToken) := goodIn_app (goodIn_of _ (by decide +kernel)) ggX6_readNumber_X6_nextToken
theorem dX6_readNumber_0 : decode cX6_readNumber 0 = .ok (.aload_n 0, 1) := by decide +kernel
theorem dX6_readNumber_1 : decode cX6_readNumber 1 = .ok (.getfield 76, 3) := by decide +kernel
theorem dX6_readNumber_4 : decode cX6_readNumber 4 = .ok (.iconst 2, 1) := by decide +kernel
theorem dX6_readNumber_5 : decode cX6_readNumber 5 = .ok (.if_icmp .eq 11, 3) := by decide +kernel
theorem dX6_readNumber_8 : decode cX6_readNumber 8 = .ok (.aload_n 0, 1) := by decide +kernel
theorem dX6_readNumber_9 : decode cX6_readNumber 9 = .ok (.iconst 1, 1) := by decide +kernel
theorem dX6_readNumber_10 : decode cX6_readNumber 10 = .ok (.invokevirtual 45, 3) := by decide +kernel
theorem dX6_readNumber_13 : decode cX6_readNumber 13 = .ok (.pop, 1) := by decide +kernel
theorem dX6_readNumber_14 : decode cX6_readNumber 14 = .ok (.iconst (-1), 1) := by decide +kernel
theorem dX6_readNumber_15 : decode cX6_readNumber 15 = .ok (.ireturn, 1) := by decide +kernel
theorem dX6_readNumber_16 : decode cX6_readNumber 16 = .ok (.aload_n 0, 1) := by decide +kernel
theorem dX6_readNumber_17 : decode cX6_readNumber 17 = .ok (.getfield 79, 3) := by decide +kernel
theorem dX6_readNumber_20 : decode cX6_readNumber 20 = .ok (.iload_n 1, 1) := by decide +kernel
theorem dX6_readNumber_21 : decode cX6_readNumber 21 = .ok (.if_icmp .lt 11, 3) := by decide +kernel
theorem dX6_readNumber_24 : decode cX6_readNumber 24 = .ok (.aload_n 0, 1) := by decide +kernel
theorem dX6_readNumber_25 : decode cX6_readNumber 25 = .ok (.getfield 79, 3) := by decide +kernel
theorem dX6_readNumber_28 : decode cX6_readNumber 28 = .ok (.iload_n 2, 1) := by decide +kernel
theorem dX6_readNumber_29 : decode cX6_readNumber 29 = .ok (.if_icmp .le 11, 3) := by decide +kernel
theorem dX6_readNumber_32 : decode cX6_readNumber 32 = .ok (.aload_n 0, 1) := by decide +kernel
theorem dX6_readNumber_33 : decode cX6_readNumber 33 = .ok (.iconst 2, 1) := by decide +kernel
theorem dX6_readNumber_34 : decode cX6_readNumber 34 = .ok (.invokevirtual 45, 3) := by decide +kernel
theorem dX6_readNumber_37 : decode cX6_readNumber 37 = .ok (.pop, 1) := by decide +kernel
theorem dX6_readNumber_38 : decode cX6_readNumber 38 = .ok (.iconst (-1), 1) := by decide +kernel
theorem dX6_readNumber_39 : decode cX6_readNumber 39 = .ok (.ireturn, 1) := by decide +kernel
theorem dX6_readNumber_40 : decode cX6_readNumber 40 = .ok (.aload_n 0, 1) := by decide +kernel
theorem dX6_readNumber_41 : decode cX6_readNumber 41 = .ok (.getfield 79, 3) := by decide +kernel
theorem dX6_readNumber_44 : decode cX6_readNumber 44 = .ok (.istore_n 3, 1) := by decide +kernel
theorem dX6_readNumber_45 : decode cX6_readNumber 45 = .ok (.aload_n 0, 1) := by decide +kernel
theorem dX6_readNumber_46 : decode cX6_readNumber 46 = .ok (.invokevirtual 22, 3) := by decide +kernel
theorem dX6_readNumber_49 : decode cX6_readNumber 49 = .ok (.iload_n 3, 1) := by decide +kernel
theorem dX6_readNumber_50 : decode cX6_readNumber 50 = .ok (.ireturn, 1) := by decide +kernel
set_option maxRecDepth 20000 in
theorem ggX6_readSign_X6_fail : GoodIn wsX6_readSign wsX6_fail := goodIn_r _ [6, 7, 8, 9, 26, 27, 28, 29, 30, 31, 32, 33] (by decide +kernel) (by decide +kernel)
set_option maxRecDepth 20000 in
theorem gX6_readSign_X6_fail : GoodIn wsX6_readSign (wsV RX6 45 RX6 yX6_fail wsX6_fail) := goodIn_app (goodIn_of _ (by decide +kernel)) ggX6_readSign_X6_fail
set_option maxRecDepth 20000 in
theorem ggX6_readSign_X6_nextToken : GoodIn wsX6_readSign wsX6_nextToken := goodIn_r _ [13, 14, 15, 16, 8, 1, 17, 18, 19, 5, 20, 21, 22, 23, 24, 25, 26, 27, 28, 29, 30, 31, 32, 33] (by decide +kernel) (by decide +kernel)
set_option maxRecDepth 20000 in
theorem gX6_readSign_X6_nextToken : GoodIn wsX6_readSign (wsV RX6 22 RX6 yX6_nextToken wsX6_nextToken) := goodIn_app (goodIn_of _ (by decide +kernel)) ggX6_readSign_X6_nextToken
theorem dX6_readSign_0 : decode cX6_readSign 0 = .ok (.aload_n 0, 1) := by decide +kernel
theorem dX6_readSign_1 : decode cX6_readSign 1 = .ok (.getfield 76, 3) := by decide +kernel
theorem dX6_readSign_4 : decode cX6_readSign 4 = .ok (.iconst 3, 1) := by decide +kernel
theorem dX6_readSign_5 : decode cX6_readSign 5 = .ok (.if_icmp .eq 9, 3) := by decide +kernel
theorem dX6_readSign_8 : decode cX6_readSign 8 = .ok (.aload_n 0, 1) := by decide +kernel
theorem dX6_readSign_9 : decode cX6_readSign 9 = .ok (.iconst 1, 1) := by decide +kernel
theorem dX6_readSign_10 : decode cX6_readSign 10 = .ok (.invokevirtual 45, 3) := by decide +kernel
theorem dX6_readSign_13 : decode cX6_readSign 13 = .ok (.ireturn, 1) := by decide +kernel
theorem dX6_readSign_14 : decode cX6_readSign 14 = .ok (.aload_n 0, 1) := by decide +kernel
theorem dX6_readSign_15 : decode cX6_readSign 15 = .ok (.invokevirtual 22, 3) := by decide +kernel
theorem dX6_readSign_18 : decode cX6_readSign 18 = .ok (.iconst 1, 1) := by decide +kernel
theorem dX6_readSign_19 : decode cX6_readSign 19 = .ok (.ireturn, 1) := by decide +kernel
set_option maxRecDepth 20000 in
theorem ggX6_readEnd_X6_fail : GoodIn wsX6_readEnd wsX6_fail := goodIn_r _ [6, 7, 8, 9, 10, 11, 12, 13, 14, 15, 16, 17] (by decide +kernel) (by decide +kernel)
set_option maxRecDepth 20000 in
theorem gX6_readEnd_X6_fail : GoodIn wsX6_readEnd (wsV RX6 45 RX6 yX6_fail wsX6_fail) := goodIn_app (goodIn_of _ (by decide +kernel)) ggX6_readEnd_X6_fail
theorem dX6_readEnd_0 : decode cX6_readEnd 0 = .ok (.aload_n 0, 1) := by decide +kernel
theorem dX6_readEnd_1 : decode cX6_readEnd 1 = .ok (.getfield 76, 3) := by decide +kernel
theorem dX6_readEnd_4 : decode cX6_readEnd 4 = .ok (.ifCond .eq 11, 3) := by decide +kernel
theorem dX6_readEnd_7 : decode cX6_readEnd 7 = .ok (.aload_n 0, 1) := by decide +kernel
theorem dX6_readEnd_8 : decode cX6_readEnd 8 = .ok (.iconst 1, 1) := by decide +kernel
theorem dX6_readEnd_9 : decode cX6_readEnd 9 = .ok (.invokevirtual 45, 3) := by decide +kernel
theorem dX6_readEnd_12 : decode cX6_readEnd 12 = .ok (.ifCond .eq 7, 3) := by decide +kernel
theorem dX6_readEnd_15 : decode cX6_readEnd 15 = .ok (.iconst 1, 1) := by decide +kernel
theorem dX6_readEnd_16 : decode cX6_readEnd 16 = .ok (.goto 4, 3) := by decide +kernel
theorem dX6_readEnd_19 : decode cX6_readEnd 19 = .ok (.iconst 0, 1) := by decide +kernel
theorem dX6_readEnd_20 : decode cX6_readEnd 20 = .ok (.ireturn, 1) := by decide +kernel
theorem dX6_fail_0 : decode cX6_fail 0 = .ok (.aload_n 0, 1) := by decide +kernel
theorem dX6_fail_1 : decode cX6_fail 1 = .ok (.iload_n 1, 1) := by decide +kernel
theorem dX6_fail_2 : decode cX6_fail 2 = .ok (.putfield 141, 3) := by decide +kernel
theorem dX6_fail_5 : decode cX6_fail 5 = .ok (.aload_n 0, 1) := by decide +kernel
theorem dX6_fail_6 : decode cX6_fail 6 = .ok (.aload_n 0, 1) := by decide +kernel
theorem dX6_fail_7 : decode cX6_fail 7 = .ok (.getfield 144, 3) := by decide +kernel
theorem dX6_fail_10 : decode cX6_fail 10 = .ok (.putfield 147, 3) := by decide +kernel
theorem dX6_fail_13 : decode cX6_fail 13 = .ok (.iconst 0, 1) := by decide +kernel
theorem dX6_fail_14 : decode cX6_fail 14 = .ok (.ireturn, 1) := by decide +kernel
set_option maxRecDepth 20000 in
theorem ggX6_isWord_J0_length_8abf5 : GoodIn wsX6_isWord wsJ0_length_8abf5 := goodIn_r _ [9, 10, 11, 12, 13, 8, 14, 15, 16] (by decide +kernel) (by decide +kernel)
set_option maxRecDepth 20000 in
theorem gX6_isWord_J0_length_8abf5 : GoodIn wsX6_isWord (wsV RX6 150 RJ0 yJ0_length_8abf5 wsJ0_length_8abf5) := goodIn_app (goodIn_of _ (by decide +kernel)) ggX6_isWord_J0_length_8abf5
set_option maxRecDepth 20000 in
theorem ggX6_isWord_J0_charAt_5068e : GoodIn wsX6_isWord wsJ0_charAt_5068e := goodIn_r _ [20, 10, 21, 22, 23, 8, 24, 15, 16, 25, 26, 27, 28, 29, 30, 31, 32, 33, 34, 35, 36, 37, 38, 39, 40, 41, 42, 43, 44, 45, 46, 47, 48, 49, 50, 51, 52, 53] (by decide +kernel) (by decide +kernel)
set_option maxRecDepth 20000 in
theorem gX6_isWord_J0_charAt_5068e : GoodIn wsX6_isWord (wsV RX6 154 RJ0 yJ0_charAt_5068e wsJ0_charAt_5068e) := goodIn_app (goodIn_of _ (by decide +kernel)) ggX6_isWord_J0_charAt_5068e
theorem dX6_isWord_0 : decode cX6_isWord 0 = .ok (.aload_n 0, 1) := by decide +kernel
theorem dX6_isWord_1 : decode cX6_isWord 1 = .ok (.getfield 76, 3) := by decide +kernel
theorem dX6_isWord_4 : decode cX6_isWord 4 = .ok (.iconst 1, 1) := by decide +kernel
theorem dX6_isWord_5 : decode cX6_isWord 5 = .ok (.if_icmp .ne 19, 3) := by decide +kernel
theorem dX6_isWord_8 : decode cX6_isWord 8 = .ok (.aload_n 0, 1) := by decide +kernel
theorem dX6_isWord_9 : decode cX6_isWord 9 = .ok (.getfield 19, 3) := by decide +kernel
theorem dX6_isWord_12 : decode cX6_isWord 12 = .ok (.aload_n 0, 1) := by decide +kernel
theorem dX6_isWord_13 : decode cX6_isWord 13 = .ok (.getfield 144, 3) := by decide +kernel
theorem dX6_isWord_16 : decode cX6_isWord 16 = .ok (.isub, 1) := by decide +kernel
theorem dX6_isWord_17 : decode cX6_isWord 17 = .ok (.aload_n 1, 1) := by decide +kernel
theorem dX6_isWord_18 : decode cX6_isWord 18 = .ok (.invokevirtual 150, 3) := by decide +kernel
theorem dX6_isWord_21 : decode cX6_isWord 21 = .ok (.if_icmp .eq 5, 3) := by decide +kernel
theorem dX6_isWord_24 : decode cX6_isWord 24 = .ok (.iconst 0, 1) := by decide +kernel
theorem dX6_isWord_25 : decode cX6_isWord 25 = .ok (.ireturn, 1) := by decide +kernel
theorem dX6_isWord_26 : decode cX6_isWord 26 = .ok (.iconst 0, 1) := by decide +kernel
theorem dX6_isWord_27 : decode cX6_isWord 27 = .ok (.istore_n 2, 1) := by decide +kernel
theorem dX6_isWord_28 : decode cX6_isWord 28 = .ok (.iload_n 2, 1) := by decide +kernel
theorem dX6_isWord_29 : decode cX6_isWord 29 = .ok (.aload_n 1, 1) := by decide +kernel
theorem dX6_isWord_30 : decode cX6_isWord 30 = .ok (.invokevirtual 150, 3) := by decide +kernel
theorem dX6_isWord_33 : decode cX6_isWord 33 = .ok (.if_icmp .ge 30, 3) := by decide +kernel
theorem dX6_isWord_36 : decode cX6_isWord 36 = .ok (.aload_n 0, 1) := by decide +kernel
theorem dX6_isWord_37 : decode cX6_isWord 37 = .ok (.getfield 9, 3) := by decide +kernel
theorem dX6_isWord_40 : decode cX6_isWord 40 = .ok (.aload_n 0, 1) := by decide +kernel
theorem dX6_isWord_41 : decode cX6_isWord 41 = .ok (.getfield 144, 3) := by decide +kernel
theorem dX6_isWord_44 : decode cX6_isWord 44 = .ok (.iload_n 2, 1) := by decide +kernel
theorem dX6_isWord_45 : decode cX6_isWord 45 = .ok (.iadd, 1) := by decide +kernel
theorem dX6_isWord_46 : decode cX6_isWord 46 = .ok (.baload, 1) := by decide +kernel
theorem dX6_isWord_47 : decode cX6_isWord 47 = .ok (.aload_n 1, 1) := by decide +kernel
theorem dX6_isWord_48 : decode cX6_isWord 48 = .ok (.iload_n 2, 1) := by decide +kernel
theorem dX6_isWord_49 : decode cX6_isWord 49 = .ok (.invokevirtual 154, 3) := by decide +kernel
theorem dX6_isWord_52 : decode cX6_isWord 52 = .ok (.if_icmp .eq 5, 3) := by decide +kernel
theorem dX6_isWord_55 : decode cX6_isWord 55 = .ok (.iconst 0, 1) := by decide +kernel
theorem dX6_isWord_56 : decode cX6_isWord 56 = .ok (.ireturn, 1) := by decide +kernel
theorem dX6_isWord_57 : decode cX6_isWord 57 = .ok (.iinc 2 1, 3) := by decide +kernel
theorem dX6_isWord_60 : decode cX6_isWord 60 = .ok (.goto (-32), 3) := by decide +kernel
theorem dX6_isWord_63 : decode cX6_isWord 63 = .ok (.iconst 1, 1) := by decide +kernel
theorem dX6_isWord_64 : decode cX6_isWord 64 = .ok (.ireturn, 1) := by decide +kernel
set_option maxRecDepth 20000 in
theorem ggX6_nextToken_X6_sortAt : GoodIn wsX6_nextToken wsX6_sortAt := goodIn_r _ [10, 2, 3, 16, 17, 18, 19, 20, 21, 22, 23] (by decide +kernel) (by decide +kernel)
set_option maxRecDepth 20000 in
theorem gX6_nextToken_X6_sortAt : GoodIn wsX6_nextToken (wsV RX6 158 RX6 yX6_sortAt wsX6_sortAt) := goodIn_app (goodIn_of _ (by decide +kernel)) ggX6_nextToken_X6_sortAt
set_option maxRecDepth 20000 in
theorem ggX6_nextToken_X6_takeFigures : GoodIn wsX6_nextToken wsX6_takeFigures := goodIn_r _ [14, 1, 4, 5, 15, 3, 16, 17, 18, 19, 20, 21, 22, 23] (by decide +kernel) (by decide +kernel)
set_option maxRecDepth 20000 in
theorem gX6_nextToken_X6_takeFigures : GoodIn wsX6_nextToken (wsV RX6 161 RX6 yX6_takeFigures wsX6_takeFigures) := goodIn_app (goodIn_of _ (by decide +kernel)) ggX6_nextToken_X6_takeFigures
theorem dX6_nextToken_0 : decode cX6_nextToken 0 = .ok (.aload_n 0, 1) := by decide +kernel
theorem dX6_nextToken_1 : decode cX6_nextToken 1 = .ok (.getfield 19, 3) := by decide +kernel
theorem dX6_nextToken_4 : decode cX6_nextToken 4 = .ok (.aload_n 0, 1) := by decide +kernel
theorem dX6_nextToken_5 : decode cX6_nextToken 5 = .ok (.getfield 15, 3) := by decide +kernel
theorem dX6_nextToken_8 : decode cX6_nextToken 8 = .ok (.if_icmp .ge 44, 3) := by decide +kernel
theorem dX6_nextToken_11 : decode cX6_nextToken 11 = .ok (.aload_n 0, 1) := by decide +kernel
theorem dX6_nextToken_12 : decode cX6_nextToken 12 = .ok (.getfield 9, 3) := by decide +kernel
theorem dX6_nextToken_15 : decode cX6_nextToken 15 = .ok (.aload_n 0, 1) := by decide +kernel
theorem dX6_nextToken_16 : decode cX6_nextToken 16 = .ok (.getfield 19, 3) := by decide +kernel
theorem dX6_nextToken_19 : decode cX6_nextToken 19 = .ok (.baload, 1) := by decide +kernel
theorem dX6_nextToken_20 : decode cX6_nextToken 20 = .ok (.bipush 32, 2) := by decide +kernel
theorem dX6_nextToken_22 : decode cX6_nextToken 22 = .ok (.if_icmp .eq 17, 3) := by decide +kernel
theorem dX6_nextToken_25 : decode cX6_nextToken 25 = .ok (.aload_n 0, 1) := by decide +kernel
theorem dX6_nextToken_26 : decode cX6_nextToken 26 = .ok (.getfield 9, 3) := by decide +kernel
theorem dX6_nextToken_29 : decode cX6_nextToken 29 = .ok (.aload_n 0, 1) := by decide +kernel
theorem dX6_nextToken_30 : decode cX6_nextToken 30 = .ok (.getfield 19, 3) := by decide +kernel
theorem dX6_nextToken_33 : decode cX6_nextToken 33 = .ok (.baload, 1) := by decide +kernel
theorem dX6_nextToken_34 : decode cX6_nextToken 34 = .ok (.bipush 10, 2) := by decide +kernel
theorem dX6_nextToken_36 : decode cX6_nextToken 36 = .ok (.if_icmp .ne 16, 3) := by decide +kernel
theorem dX6_nextToken_39 : decode cX6_nextToken 39 = .ok (.aload_n 0, 1) := by decide +kernel
theorem dX6_nextToken_40 : decode cX6_nextToken 40 = .ok (.dup, 1) := by decide +kernel
theorem dX6_nextToken_41 : decode cX6_nextToken 41 = .ok (.getfield 19, 3) := by decide +kernel
theorem dX6_nextToken_44 : decode cX6_nextToken 44 = .ok (.iconst 1, 1) := by decide +kernel
theorem dX6_nextToken_45 : decode cX6_nextToken 45 = .ok (.iadd, 1) := by decide +kernel
theorem dX6_nextToken_46 : decode cX6_nextToken 46 = .ok (.putfield 19, 3) := by decide +kernel
theorem dX6_nextToken_49 : decode cX6_nextToken 49 = .ok (.goto (-49), 3) := by decide +kernel
theorem dX6_nextToken_52 : decode cX6_nextToken 52 = .ok (.aload_n 0, 1) := by decide +kernel
theorem dX6_nextToken_53 : decode cX6_nextToken 53 = .ok (.aload_n 0, 1) := by decide +kernel
theorem dX6_nextToken_54 : decode cX6_nextToken 54 = .ok (.getfield 19, 3) := by decide +kernel
theorem dX6_nextToken_57 : decode cX6_nextToken 57 = .ok (.putfield 144, 3) := by decide +kernel
theorem dX6_nextToken_60 : decode cX6_nextToken 60 = .ok (.aload_n 0, 1) := by decide +kernel
theorem dX6_nextToken_61 : decode cX6_nextToken 61 = .ok (.aload_n 0, 1) := by decide +kernel
theorem dX6_nextToken_62 : decode cX6_nextToken 62 = .ok (.aload_n 0, 1) := by decide +kernel
theorem dX6_nextToken_63 : decode cX6_nextToken 63 = .ok (.getfield 144, 3) := by decide +kernel
theorem dX6_nextToken_66 : decode cX6_nextToken 66 = .ok (.invokevirtual 158, 3) := by decide +kernel
theorem dX6_nextToken_69 : decode cX6_nextToken 69 = .ok (.putfield 76, 3) := by decide +kernel
theorem dX6_nextToken_72 : decode cX6_nextToken 72 = .ok (.aload_n 0, 1) := by decide +kernel
theorem dX6_nextToken_73 : decode cX6_nextToken 73 = .ok (.getfield 76, 3) := by decide +kernel
theorem dX6_nextToken_76 : decode cX6_nextToken 76 = .ok (.iconst 3, 1) := by decide +kernel
theorem dX6_nextToken_77 : decode cX6_nextToken 77 = .ok (.if_icmp .ne 16, 3) := by decide +kernel
theorem dX6_nextToken_80 : decode cX6_nextToken 80 = .ok (.aload_n 0, 1) := by decide +kernel
theorem dX6_nextToken_81 : decode cX6_nextToken 81 = .ok (.dup, 1) := by decide +kernel
theorem dX6_nextToken_82 : decode cX6_nextToken 82 = .ok (.getfield 19, 3) := by decide +kernel
theorem dX6_nextToken_85 : decode cX6_nextToken 85 = .ok (.iconst 1, 1) := by decide +kernel
theorem dX6_nextToken_86 : decode cX6_nextToken 86 = .ok (.iadd, 1) := by decide +kernel
theorem dX6_nextToken_87 : decode cX6_nextToken 87 = .ok (.putfield 19, 3) := by decide +kernel
theorem dX6_nextToken_90 : decode cX6_nextToken 90 = .ok (.goto 58, 3) := by decide +kernel
theorem dX6_nextToken_93 : decode cX6_nextToken 93 = .ok (.aload_n 0, 1) := by decide +kernel
theorem dX6_nextToken_94 : decode cX6_nextToken 94 = .ok (.getfield 76, 3) := by decide +kernel
theorem dX6_nextToken_97 : decode cX6_nextToken 97 = .ok (.iconst 1, 1) := by decide +kernel
theorem dX6_nextToken_98 : decode cX6_nextToken 98 = .ok (.if_icmp .eq 11, 3) := by decide +kernel
theorem dX6_nextToken_101 : decode cX6_nextToken 101 = .ok (.aload_n 0, 1) := by decide +kernel
theorem dX6_nextToken_102 : decode cX6_nextToken 102 = .ok (.getfield 76, 3) := by decide +kernel
theorem dX6_nextToken_105 : decode cX6_nextToken 105 = .ok (.iconst 2, 1) := by decide +kernel
theorem dX6_nextToken_106 : decode cX6_nextToken 106 = .ok (.if_icmp .ne 42, 3) := by decide +kernel
theorem dX6_nextToken_109 : decode cX6_nextToken 109 = .ok (.aload_n 0, 1) := by decide +kernel
theorem dX6_nextToken_110 : decode cX6_nextToken 110 = .ok (.getfield 19, 3) := by decide +kernel
theorem dX6_nextToken_113 : decode cX6_nextToken 113 = .ok (.aload_n 0, 1) := by decide +kernel
theorem dX6_nextToken_114 : decode cX6_nextToken 114 = .ok (.getfield 15, 3) := by decide +kernel
theorem dX6_nextToken_117 : decode cX6_nextToken 117 = .ok (.if_icmp .ge 31, 3) := by decide +kernel
theorem dX6_nextToken_120 : decode cX6_nextToken 120 = .ok (.aload_n 0, 1) := by decide +kernel
theorem dX6_nextToken_121 : decode cX6_nextToken 121 = .ok (.aload_n 0, 1) := by decide +kernel
theorem dX6_nextToken_122 : decode cX6_nextToken 122 = .ok (.getfield 19, 3) := by decide +kernel
theorem dX6_nextToken_125 : decode cX6_nextToken 125 = .ok (.invokevirtual 158, 3) := by decide +kernel
theorem dX6_nextToken_128 : decode cX6_nextToken 128 = .ok (.aload_n 0, 1) := by decide +kernel
theorem dX6_nextToken_129 : decode cX6_nextToken 129 = .ok (.getfield 76, 3) := by decide +kernel
theorem dX6_nextToken_132 : decode cX6_nextToken 132 = .ok (.if_icmp .ne 16, 3) := by decide +kernel
theorem dX6_nextToken_135 : decode cX6_nextToken 135 = .ok (.aload_n 0, 1) := by decide +kernel
theorem dX6_nextToken_136 : decode cX6_nextToken 136 = .ok (.dup, 1) := by decide +kernel
theorem dX6_nextToken_137 : decode cX6_nextToken 137 = .ok (.getfield 19, 3) := by decide +kernel
theorem dX6_nextToken_140 : decode cX6_nextToken 140 = .ok (.iconst 1, 1) := by decide +kernel
theorem dX6_nextToken_141 : decode cX6_nextToken 141 = .ok (.iadd, 1) := by decide +kernel
theorem dX6_nextToken_142 : decode cX6_nextToken 142 = .ok (.putfield 19, 3) := by decide +kernel
theorem dX6_nextToken_145 : decode cX6_nextToken 145 = .ok (.goto (-36), 3) := by decide +kernel
theorem dX6_nextToken_148 : decode cX6_nextToken 148 = .ok (.aload_n 0, 1) := by decide +kernel
theorem dX6_nextToken_149 : decode cX6_nextToken 149 = .ok (.getfield 76, 3) := by decide +kernel
theorem dX6_nextToken_152 : decode cX6_nextToken 152 = .ok (.iconst 2, 1) := by decide +kernel
theorem dX6_nextToken_153 : decode cX6_nextToken 153 = .ok (.if_icmp .ne 7, 3) := by decide +kernel
theorem dX6_nextToken_156 : decode cX6_nextToken 156 = .ok (.aload_n 0, 1) := by decide +kernel
theorem dX6_nextToken_157 : decode cX6_nextToken 157 = .ok (.invokevirtual 161, 3) := by decide +kernel
theorem dX6_nextToken_160 : decode cX6_nextToken 160 = .ok (.return_, 1) := by decide +kernel
theorem dX6_takeFigures_0 : decode cX6_takeFigures 0 = .ok (.aload_n 0, 1) := by decide +kernel
theorem dX6_takeFigures_1 : decode cX6_takeFigures 1 = .ok (.getfield 19, 3) := by decide +kernel
theorem dX6_takeFigures_4 : decode cX6_takeFigures 4 = .ok (.aload_n 0, 1) := by decide +kernel
theorem dX6_takeFigures_5 : decode cX6_takeFigures 5 = .ok (.getfield 144, 3) := by decide +kernel
theorem dX6_takeFigures_8 : decode cX6_takeFigures 8 = .ok (.isub, 1) := by decide +kernel
theorem dX6_takeFigures_9 : decode cX6_takeFigures 9 = .ok (.iconst 3, 1) := by decide +kernel
theorem dX6_takeFigures_10 : decode cX6_takeFigures 10 = .ok (.if_icmp .le 9, 3) := by decide +kernel
theorem dX6_takeFigures_13 : decode cX6_takeFigures 13 = .ok (.aload_n 0, 1) := by decide +kernel
theorem dX6_takeFigures_14 : decode cX6_takeFigures 14 = .ok (.iconst 4, 1) := by decide +kernel
theorem dX6_takeFigures_15 : decode cX6_takeFigures 15 = .ok (.putfield 76, 3) := by decide +kernel
theorem dX6_takeFigures_18 : decode cX6_takeFigures 18 = .ok (.return_, 1) := by decide +kernel
theorem dX6_takeFigures_19 : decode cX6_takeFigures 19 = .ok (.aload_n 0, 1) := by decide +kernel
theorem dX6_takeFigures_20 : decode cX6_takeFigures 20 = .ok (.iconst 0, 1) := by decide +kernel
theorem dX6_takeFigures_21 : decode cX6_takeFigures 21 = .ok (.putfield 79, 3) := by decide +kernel
theorem dX6_takeFigures_24 : decode cX6_takeFigures 24 = .ok (.aload_n 0, 1) := by decide +kernel
theorem dX6_takeFigures_25 : decode cX6_takeFigures 25 = .ok (.getfield 144, 3) := by decide +kernel
theorem dX6_takeFigures_28 : decode cX6_takeFigures 28 = .ok (.istore_n 1, 1) := by decide +kernel
theorem dX6_takeFigures_29 : decode cX6_takeFigures 29 = .ok (.iload_n 1, 1) := by decide +kernel
theorem dX6_takeFigures_30 : decode cX6_takeFigures 30 = .ok (.aload_n 0, 1) := by decide +kernel
theorem dX6_takeFigures_31 : decode cX6_takeFigures 31 = .ok (.getfield 19, 3) := by decide +kernel
theorem dX6_takeFigures_34 : decode cX6_takeFigures 34 = .ok (.if_icmp .ge 30, 3) := by decide +kernel
theorem dX6_takeFigures_37 : decode cX6_takeFigures 37 = .ok (.aload_n 0, 1) := by decide +kernel
theorem dX6_takeFigures_38 : decode cX6_takeFigures 38 = .ok (.bipush 10, 2) := by decide +kernel
theorem dX6_takeFigures_40 : decode cX6_takeFigures 40 = .ok (.aload_n 0, 1) := by decide +kernel
theorem dX6_takeFigures_41 : decode cX6_takeFigures 41 = .ok (.getfield 79, 3) := by decide +kernel
theorem dX6_takeFigures_44 : decode cX6_takeFigures 44 = .ok (.imul, 1) := by decide +kernel
theorem dX6_takeFigures_45 : decode cX6_takeFigures 45 = .ok (.aload_n 0, 1) := by decide +kernel
theorem dX6_takeFigures_46 : decode cX6_takeFigures 46 = .ok (.getfield 9, 3) := by decide +kernel
theorem dX6_takeFigures_49 : decode cX6_takeFigures 49 = .ok (.iload_n 1, 1) := by decide +kernel
theorem dX6_takeFigures_50 : decode cX6_takeFigures 50 = .ok (.baload, 1) := by decide +kernel
theorem dX6_takeFigures_51 : decode cX6_takeFigures 51 = .ok (.iadd, 1) := by decide +kernel
theorem dX6_takeFigures_52 : decode cX6_takeFigures 52 = .ok (.bipush 48, 2) := by decide +kernel
theorem dX6_takeFigures_54 : decode cX6_takeFigures 54 = .ok (.isub, 1) := by decide +kernel
theorem dX6_takeFigures_55 : decode cX6_takeFigures 55 = .ok (.putfield 79, 3) := by decide +kernel
theorem dX6_takeFigures_58 : decode cX6_takeFigures 58 = .ok (.iinc 1 1, 3) := by decide +kernel
theorem dX6_takeFigures_61 : decode cX6_takeFigures 61 = .ok (.goto (-32), 3) := by decide +kernel
theorem dX6_takeFigures_64 : decode cX6_takeFigures 64 = .ok (.return_, 1) := by decide +kernel
theorem dX6_sortAt_0 : decode cX6_sortAt 0 = .ok (.iload_n 1, 1) := by decide +kernel
theorem dX6_sortAt_1 : decode cX6_sortAt 1 = .ok (.ifCond .lt 11, 3) := by decide +kernel
theorem dX6_sortAt_4 : decode cX6_sortAt 4 = .ok (.iload_n 1, 1) := by decide +kernel
theorem dX6_sortAt_5 : decode cX6_sortAt 5 = .ok (.aload_n 0, 1) := by decide +kernel
theorem dX6_sortAt_6 : decode cX6_sortAt 6 = .ok (.getfield 15, 3) := by decide +kernel
theorem dX6_sortAt_9 : decode cX6_sortAt 9 = .ok (.if_icmp .lt 5, 3) := by decide +kernel
theorem dX6_sortAt_12 : decode cX6_sortAt 12 = .ok (.iconst 0, 1) := by decide +kernel
theorem dX6_sortAt_13 : decode cX6_sortAt 13 = .ok (.ireturn, 1) := by decide +kernel
theorem dX6_sortAt_14 : decode cX6_sortAt 14 = .ok (.aload_n 0, 1) := by decide +kernel
theorem dX6_sortAt_15 : decode cX6_sortAt 15 = .ok (.getfield 9, 3) := by decide +kernel
theorem dX6_sortAt_18 : decode cX6_sortAt 18 = .ok (.iload_n 1, 1) := by decide +kernel
theorem dX6_sortAt_19 : decode cX6_sortAt 19 = .ok (.baload, 1) := by decide +kernel
theorem dX6_sortAt_20 : decode cX6_sortAt 20 = .ok (.istore_n 2, 1) := by decide +kernel
theorem dX6_sortAt_21 : decode cX6_sortAt 21 = .ok (.iload_n 2, 1) := by decide +kernel
theorem dX6_sortAt_22 : decode cX6_sortAt 22 = .ok (.bipush 97, 2) := by decide +kernel
theorem dX6_sortAt_24 : decode cX6_sortAt 24 = .ok (.if_icmp .lt 11, 3) := by decide +kernel
theorem dX6_sortAt_27 : decode cX6_sortAt 27 = .ok (.iload_n 2, 1) := by decide +kernel
theorem dX6_sortAt_28 : decode cX6_sortAt 28 = .ok (.bipush 122, 2) := by decide +kernel
theorem dX6_sortAt_30 : decode cX6_sortAt 30 = .ok (.if_icmp .gt 5, 3) := by decide +kernel
theorem dX6_sortAt_33 : decode cX6_sortAt 33 = .ok (.iconst 1, 1) := by decide +kernel
theorem dX6_sortAt_34 : decode cX6_sortAt 34 = .ok (.ireturn, 1) := by decide +kernel
theorem dX6_sortAt_35 : decode cX6_sortAt 35 = .ok (.iload_n 2, 1) := by decide +kernel
theorem dX6_sortAt_36 : decode cX6_sortAt 36 = .ok (.bipush 48, 2) := by decide +kernel
theorem dX6_sortAt_38 : decode cX6_sortAt 38 = .ok (.if_icmp .lt 11, 3) := by decide +kernel
theorem dX6_sortAt_41 : decode cX6_sortAt 41 = .ok (.iload_n 2, 1) := by decide +kernel
theorem dX6_sortAt_42 : decode cX6_sortAt 42 = .ok (.bipush 57, 2) := by decide +kernel
theorem dX6_sortAt_44 : decode cX6_sortAt 44 = .ok (.if_icmp .gt 5, 3) := by decide +kernel
theorem dX6_sortAt_47 : decode cX6_sortAt 47 = .ok (.iconst 2, 1) := by decide +kernel
theorem dX6_sortAt_48 : decode cX6_sortAt 48 = .ok (.ireturn, 1) := by decide +kernel
theorem dX6_sortAt_49 : decode cX6_sortAt 49 = .ok (.iload_n 2, 1) := by decide +kernel
theorem dX6_sortAt_50 : decode cX6_sortAt 50 = .ok (.bipush 59, 2) := by decide +kernel
theorem dX6_sortAt_52 : decode cX6_sortAt 52 = .ok (.if_icmp .ne 7, 3) := by decide +kernel
theorem dX6_sortAt_55 : decode cX6_sortAt 55 = .ok (.iconst 3, 1) := by decide +kernel
theorem dX6_sortAt_56 : decode cX6_sortAt 56 = .ok (.goto 4, 3) := by decide +kernel
theorem dX6_sortAt_59 : decode cX6_sortAt 59 = .ok (.iconst 4, 1) := by decide +kernel
theorem dX6_sortAt_60 : decode cX6_sortAt 60 = .ok (.ireturn, 1) := by decide +kernel
set_option maxRecDepth 20000 in
theorem ggX7_init_X4_init : GoodIn wsX7_init wsX4_init := goodIn_r _ [4, 5, 6, 7, 8, 9, 10, 11, 12, 13, 14, 15, 16, 17, 18, 19, 20, 21, 22, 23, 24, 25] (by decide +kernel) (by decide +kernel)
set_option maxRecDepth 20000 in
theorem gX7_init_X4_init : GoodIn wsX7_init (wsX4_init) := ggX7_init_X4_init
theorem dX7_init_0 : decode cX7_init 0 = .ok (.aload_n 0, 1) := by decide +kernel
theorem dX7_init_1 : decode cX7_init 1 = .ok (.iload_n 1, 1) := by decide +kernel
theorem dX7_init_2 : decode cX7_init 2 = .ok (.iload_n 2, 1) := by decide +kernel
theorem dX7_init_3 : decode cX7_init 3 = .ok (.iload_n 3, 1) := by decide +kernel
theorem dX7_init_4 : decode cX7_init 4 = .ok (.invokespecial 1, 3) := by decide +kernel
theorem dX7_init_7 : decode cX7_init 7 = .ok (.return_, 1) := by decide +kernel
theorem dX7_kindTold_0 : decode cX7_kindTold 0 = .ok (.iconst 3, 1) := by decide +kernel
theorem dX7_kindTold_1 : decode cX7_kindTold 1 = .ok (.ireturn, 1) := by decide +kernel
theorem dX7_leaves_0 : decode cX7_leaves 0 = .ok (.iconst 0, 1) := by decide +kernel
theorem dX7_leaves_1 : decode cX7_leaves 1 = .ok (.ireturn, 1) := by decide +kernel
set_option maxRecDepth 20000 in
theorem ggX7_sizeAsked_X8_begin : GoodIn wsX7_sizeAsked wsX8_begin := goodIn_r _ [6, 7, 8, 17, 18] (by decide +kernel) (by decide +kernel)
set_option maxRecDepth 20000 in
theorem gX7_sizeAsked_X8_begin : GoodIn wsX7_sizeAsked (wsV RX7 7 RX8 yX8_begin wsX8_begin) := goodIn_app (goodIn_of _ (by decide +kernel)) ggX7_sizeAsked_X8_begin
set_option maxRecDepth 20000 in
theorem ggX7_sizeAsked_X4_sizeAsked : GoodIn wsX7_sizeAsked wsX4_sizeAsked := goodIn_r _ [14, 15, 16, 3, 4, 5, 6, 7, 8, 19, 20, 21, 22, 23, 24, 25, 26, 27, 28, 29, 30, 31, 32, 33, 17, 18] (by decide +kernel) (by decide +kernel)
set_option maxRecDepth 20000 in
theorem gX7_sizeAsked_X4_sizeAsked_s13 : GoodIn wsX7_sizeAsked (va_wsSU RX7 13 yX4_sizeAsked wsX4_sizeAsked) := goodIn_app (goodIn_of _ (by decide +kernel)) ggX7_sizeAsked_X4_sizeAsked
theorem dX7_sizeAsked_0 : decode cX7_sizeAsked 0 = .ok (.aload_n 2, 1) := by decide +kernel
theorem dX7_sizeAsked_1 : decode cX7_sizeAsked 1 = .ok (.bipush 13, 2) := by decide +kernel
theorem dX7_sizeAsked_3 : decode cX7_sizeAsked 3 = .ok (.invokevirtual 7, 3) := by decide +kernel
theorem dX7_sizeAsked_6 : decode cX7_sizeAsked 6 = .ok (.aload_n 0, 1) := by decide +kernel
theorem dX7_sizeAsked_7 : decode cX7_sizeAsked 7 = .ok (.aload_n 1, 1) := by decide +kernel
theorem dX7_sizeAsked_8 : decode cX7_sizeAsked 8 = .ok (.aload_n 2, 1) := by decide +kernel
theorem dX7_sizeAsked_9 : decode cX7_sizeAsked 9 = .ok (.invokespecial 13, 3) := by decide +kernel
theorem dX7_sizeAsked_12 : decode cX7_sizeAsked 12 = .ok (.ldc2_w 17, 3) := by decide +kernel
theorem dX7_sizeAsked_15 : decode cX7_sizeAsked 15 = .ok (.lsub, 1) := by decide +kernel
theorem dX7_sizeAsked_16 : decode cX7_sizeAsked 16 = .ok (.lreturn, 1) := by decide +kernel
set_option maxRecDepth 20000 in
theorem ggX7_markAsked_X8_begin : GoodIn wsX7_markAsked wsX8_begin := goodIn_r _ [5, 6, 7, 27, 28] (by decide +kernel) (by decide +kernel)
set_option maxRecDepth 20000 in
theorem gX7_markAsked_X8_begin : GoodIn wsX7_markAsked (wsV RX7 7 RX8 yX8_begin wsX8_begin) := goodIn_app (goodIn_of _ (by decide +kernel)) ggX7_markAsked_X8_begin
set_option maxRecDepth 20000 in
theorem ggX7_markAsked_X4_markAsked : GoodIn wsX7_markAsked wsX4_markAsked := goodIn_r _ [13, 14, 15, 2, 3, 4, 5, 6, 7, 29, 30, 31, 32, 33, 34, 35, 36, 37, 38, 39, 40, 41, 42, 43, 27, 28] (by decide +kernel) (by decide +kernel)
set_option maxRecDepth 20000 in
theorem gX7_markAsked_X4_markAsked_s19 : GoodIn wsX7_markAsked (va_wsSU RX7 19 yX4_markAsked wsX4_markAsked) := goodIn_app (goodIn_of _ (by decide +kernel)) ggX7_markAsked_X4_markAsked
set_option maxRecDepth 20000 in
theorem ggX7_markAsked_X7_sizeAsked : GoodIn wsX7_markAsked wsX7_sizeAsked := goodIn_r _ [20, 21, 1, 2, 3, 4, 5, 6, 7, 22, 23, 10, 24, 12, 25, 26, 15, 27, 28, 29, 30, 31, 32, 33, 34, 35, 36, 37, 38, 39, 40, 41, 42, 43] (by decide +kernel) (by decide +kernel)
set_option maxRecDepth 20000 in
theorem gX7_markAsked_X7_sizeAsked : GoodIn wsX7_markAsked (wsV RX7 22 RX7 yX7_sizeAsked wsX7_sizeAsked) := goodIn_app (goodIn_of _ (by decide +kernel)) ggX7_markAsked_X7_sizeAsked
theorem dX7_markAsked_0 : decode cX7_markAsked 0 = .ok (.aload_n 2, 1) := by decide +kernel
theorem dX7_markAsked_1 : decode cX7_markAsked 1 = .ok (.bipush 23, 2) := by decide +kernel
theorem dX7_markAsked_3 : decode cX7_markAsked 3 = .ok (.invokevirtual 7, 3) := by decide +kernel
theorem dX7_markAsked_6 : decode cX7_markAsked 6 = .ok (.aload_n 0, 1) := by decide +kernel
theorem dX7_markAsked_7 : decode cX7_markAsked 7 = .ok (.aload_n 1, 1) := by decide +kernel
theorem dX7_markAsked_8 : decode cX7_markAsked 8 = .ok (.aload_n 2, 1) := by decide +kernel
theorem dX7_markAsked_9 : decode cX7_markAsked 9 = .ok (.invokespecial 19, 3) := by decide +kernel
theorem dX7_markAsked_12 : decode cX7_markAsked 12 = .ok (.lstore_n 3, 1) := by decide +kernel
theorem dX7_markAsked_13 : decode cX7_markAsked 13 = .ok (.lload_n 3, 1) := by decide +kernel
theorem dX7_markAsked_14 : decode cX7_markAsked 14 = .ok (.aload_n 0, 1) := by decide +kernel
theorem dX7_markAsked_15 : decode cX7_markAsked 15 = .ok (.aload_n 1, 1) := by decide +kernel
theorem dX7_markAsked_16 : decode cX7_markAsked 16 = .ok (.aload_n 2, 1) := by decide +kernel
theorem dX7_markAsked_17 : decode cX7_markAsked 17 = .ok (.invokevirtual 22, 3) := by decide +kernel
theorem dX7_markAsked_20 : decode cX7_markAsked 20 = .ok (.lsub, 1) := by decide +kernel
theorem dX7_markAsked_21 : decode cX7_markAsked 21 = .ok (.lreturn, 1) := by decide +kernel
theorem dX8_init_0 : decode cX8_init 0 = .ok (.aload_n 0, 1) := by decide +kernel
theorem dX8_init_1 : decode cX8_init 1 = .ok (.invokespecial 3, 3) := by decide +kernel
theorem dX8_init_4 : decode cX8_init 4 = .ok (.aload_n 0, 1) := by decide +kernel
theorem dX8_init_5 : decode cX8_init 5 = .ok (.bipush 16, 2) := by decide +kernel
theorem dX8_init_7 : decode cX8_init 7 = .ok (.newarray .int, 2) := by decide +kernel
theorem dX8_init_9 : decode cX8_init 9 = .ok (.putfield 9, 3) := by decide +kernel
theorem dX8_init_12 : decode cX8_init 12 = .ok (.return_, 1) := by decide +kernel
theorem dX8_empty_0 : decode cX8_empty 0 = .ok (.aload_n 0, 1) := by decide +kernel
theorem dX8_empty_1 : decode cX8_empty 1 = .ok (.iconst 0, 1) := by decide +kernel
theorem dX8_empty_2 : decode cX8_empty 2 = .ok (.putfield 15, 3) := by decide +kernel
theorem dX8_empty_5 : decode cX8_empty 5 = .ok (.return_, 1) := by decide +kernel
theorem dX8_begin_0 : decode cX8_begin 0 = .ok (.aload_n 0, 1) := by decide +kernel
theorem dX8_begin_1 : decode cX8_begin 1 = .ok (.getfield 15, 3) := by decide +kernel
theorem dX8_begin_4 : decode cX8_begin 4 = .ok (.bipush 16, 2) := by decide +kernel
theorem dX8_begin_6 : decode cX8_begin 6 = .ok (.if_icmp .ge 23, 3) := by decide +kernel
theorem dX8_begin_9 : decode cX8_begin 9 = .ok (.aload_n 0, 1) := by decide +kernel
theorem dX8_begin_10 : decode cX8_begin 10 = .ok (.getfield 9, 3) := by decide +kernel
theorem dX8_begin_13 : decode cX8_begin 13 = .ok (.aload_n 0, 1) := by decide +kernel
theorem dX8_begin_14 : decode cX8_begin 14 = .ok (.getfield 15, 3) := by decide +kernel
theorem dX8_begin_17 : decode cX8_begin 17 = .ok (.iload_n 1, 1) := by decide +kernel
theorem dX8_begin_18 : decode cX8_begin 18 = .ok (.iastore, 1) := by decide +kernel
theorem dX8_begin_19 : decode cX8_begin 19 = .ok (.aload_n 0, 1) := by decide +kernel
theorem dX8_begin_20 : decode cX8_begin 20 = .ok (.dup, 1) := by decide +kernel
theorem dX8_begin_21 : decode cX8_begin 21 = .ok (.getfield 15, 3) := by decide +kernel
theorem dX8_begin_24 : decode cX8_begin 24 = .ok (.iconst 1, 1) := by decide +kernel
theorem dX8_begin_25 : decode cX8_begin 25 = .ok (.iadd, 1) := by decide +kernel
theorem dX8_begin_26 : decode cX8_begin 26 = .ok (.putfield 15, 3) := by decide +kernel
theorem dX8_begin_29 : decode cX8_begin 29 = .ok (.return_, 1) := by decide +kernel
theorem dX8_numberAt_0 : decode cX8_numberAt 0 = .ok (.iload_n 1, 1) := by decide +kernel
theorem dX8_numberAt_1 : decode cX8_numberAt 1 = .ok (.ifCond .lt 20, 3) := by decide +kernel
theorem dX8_numberAt_4 : decode cX8_numberAt 4 = .ok (.iload_n 1, 1) := by decide +kernel
theorem dX8_numberAt_5 : decode cX8_numberAt 5 = .ok (.aload_n 0, 1) := by decide +kernel
theorem dX8_numberAt_6 : decode cX8_numberAt 6 = .ok (.getfield 15, 3) := by decide +kernel
theorem dX8_numberAt_9 : decode cX8_numberAt 9 = .ok (.if_icmp .ge 12, 3) := by decide +kernel
theorem dX8_numberAt_12 : decode cX8_numberAt 12 = .ok (.aload_n 0, 1) := by decide +kernel
theorem dX8_numberAt_13 : decode cX8_numberAt 13 = .ok (.getfield 9, 3) := by decide +kernel
theorem dX8_numberAt_16 : decode cX8_numberAt 16 = .ok (.iload_n 1, 1) := by decide +kernel
theorem dX8_numberAt_17 : decode cX8_numberAt 17 = .ok (.iaload, 1) := by decide +kernel
theorem dX8_numberAt_18 : decode cX8_numberAt 18 = .ok (.goto 5, 3) := by decide +kernel
theorem dX8_numberAt_21 : decode cX8_numberAt 21 = .ok (.ldc 19, 2) := by decide +kernel
theorem dX8_numberAt_23 : decode cX8_numberAt 23 = .ok (.ireturn, 1) := by decide +kernel
set_option maxRecDepth 20000 in
theorem ggX9_init_X4_init : GoodIn wsX9_init wsX4_init := goodIn_r _ [4, 5, 6, 7, 8, 9, 10, 11, 12, 13, 14, 15, 16, 17, 18, 19, 20, 21, 22, 23, 24, 25] (by decide +kernel) (by decide +kernel)
set_option maxRecDepth 20000 in
theorem gX9_init_X4_init : GoodIn wsX9_init (wsX4_init) := ggX9_init_X4_init
theorem dX9_init_0 : decode cX9_init 0 = .ok (.aload_n 0, 1) := by decide +kernel
theorem dX9_init_1 : decode cX9_init 1 = .ok (.iload_n 1, 1) := by decide +kernel
theorem dX9_init_2 : decode cX9_init 2 = .ok (.iload_n 2, 1) := by decide +kernel
theorem dX9_init_3 : decode cX9_init 3 = .ok (.iload_n 3, 1) := by decide +kernel
theorem dX9_init_4 : decode cX9_init 4 = .ok (.invokespecial 1, 3) := by decide +kernel
theorem dX9_init_7 : decode cX9_init 7 = .ok (.return_, 1) := by decide +kernel
theorem dX9_kindTold_0 : decode cX9_kindTold 0 = .ok (.iconst 4, 1) := by decide +kernel
theorem dX9_kindTold_1 : decode cX9_kindTold 1 = .ok (.ireturn, 1) := by decide +kernel
theorem dX9_leaves_0 : decode cX9_leaves 0 = .ok (.iload_n 2, 1) := by decide +kernel
theorem dX9_leaves_1 : decode cX9_leaves 1 = .ok (.iconst 2, 1) := by decide +kernel
theorem dX9_leaves_2 : decode cX9_leaves 2 = .ok (.iload_n 3, 1) := by decide +kernel
theorem dX9_leaves_3 : decode cX9_leaves 3 = .ok (.imul, 1) := by decide +kernel
theorem dX9_leaves_4 : decode cX9_leaves 4 = .ok (.if_icmp .ge 9, 3) := by decide +kernel
theorem dX9_leaves_7 : decode cX9_leaves 7 = .ok (.sipush 1000, 3) := by decide +kernel
theorem dX9_leaves_10 : decode cX9_leaves 10 = .ok (.goto 5, 3) := by decide +kernel
theorem dX9_leaves_13 : decode cX9_leaves 13 = .ok (.bipush 100, 2) := by decide +kernel
theorem dX9_leaves_15 : decode cX9_leaves 15 = .ok (.istore 4, 2) := by decide +kernel
theorem dX9_leaves_17 : decode cX9_leaves 17 = .ok (.aload_n 0, 1) := by decide +kernel
theorem dX9_leaves_18 : decode cX9_leaves 18 = .ok (.getfield 7, 3) := by decide +kernel
theorem dX9_leaves_21 : decode cX9_leaves 21 = .ok (.iload_n 1, 1) := by decide +kernel
theorem dX9_leaves_22 : decode cX9_leaves 22 = .ok (.imul, 1) := by decide +kernel
theorem dX9_leaves_23 : decode cX9_leaves 23 = .ok (.iload 4, 2) := by decide +kernel
theorem dX9_leaves_25 : decode cX9_leaves 25 = .ok (.if_icmp .gt 7, 3) := by decide +kernel
theorem dX9_leaves_28 : decode cX9_leaves 28 = .ok (.iload_n 1, 1) := by decide +kernel
theorem dX9_leaves_29 : decode cX9_leaves 29 = .ok (.goto 4, 3) := by decide +kernel
theorem dX9_leaves_32 : decode cX9_leaves 32 = .ok (.iconst 0, 1) := by decide +kernel
theorem dX9_leaves_33 : decode cX9_leaves 33 = .ok (.ireturn, 1) := by decide +kernel
set_option maxRecDepth 20000 in
theorem ggX9_markAsked_X8_begin : GoodIn wsX9_markAsked wsX8_begin := goodIn_r _ [7, 8, 9, 33, 34] (by decide +kernel) (by decide +kernel)
set_option maxRecDepth 20000 in
theorem gX9_markAsked_X8_begin : GoodIn wsX9_markAsked (wsV RX9 13 RX8 yX8_begin wsX8_begin) := goodIn_app (goodIn_of _ (by decide +kernel)) ggX9_markAsked_X8_begin
set_option maxRecDepth 20000 in
theorem ggX9_markAsked_X4_markAsked : GoodIn wsX9_markAsked wsX4_markAsked := goodIn_r _ [15, 16, 17, 4, 5, 6, 7, 8, 9, 18, 19, 20, 21, 22, 23, 24, 25, 26, 27, 28, 29, 30, 31, 32, 33, 34] (by decide +kernel) (by decide +kernel)
set_option maxRecDepth 20000 in
theorem gX9_markAsked_X4_markAsked_s19 : GoodIn wsX9_markAsked (va_wsSU RX9 19 yX4_markAsked wsX4_markAsked) := goodIn_app (goodIn_of _ (by decide +kernel)) ggX9_markAsked_X4_markAsked
theorem dX9_markAsked_0 : decode cX9_markAsked 0 = .ok (.aload_n 2, 1) := by decide +kernel
theorem dX9_markAsked_1 : decode cX9_markAsked 1 = .ok (.bipush 22, 2) := by decide +kernel
theorem dX9_markAsked_3 : decode cX9_markAsked 3 = .ok (.invokevirtual 13, 3) := by decide +kernel
theorem dX9_markAsked_6 : decode cX9_markAsked 6 = .ok (.aload_n 0, 1) := by decide +kernel
theorem dX9_markAsked_7 : decode cX9_markAsked 7 = .ok (.aload_n 1, 1) := by decide +kernel
theorem dX9_markAsked_8 : decode cX9_markAsked 8 = .ok (.aload_n 2, 1) := by decide +kernel
theorem dX9_markAsked_9 : decode cX9_markAsked 9 = .ok (.invokespecial 19, 3) := by decide +kernel
theorem dX9_markAsked_12 : decode cX9_markAsked 12 = .ok (.aload_n 0, 1) := by decide +kernel
theorem dX9_markAsked_13 : decode cX9_markAsked 13 = .ok (.getfield 7, 3) := by decide +kernel
theorem dX9_markAsked_16 : decode cX9_markAsked 16 = .ok (.i2l, 1) := by decide +kernel
theorem dX9_markAsked_17 : decode cX9_markAsked 17 = .ok (.ladd, 1) := by decide +kernel
theorem dX9_markAsked_18 : decode cX9_markAsked 18 = .ok (.lreturn, 1) := by decide +kernel
theorem dJ9_max_7cf53_0 : decode cJ9_max_7cf53 0 = .ok (.iload_n 0, 1) := by decide +kernel
theorem dJ9_max_7cf53_1 : decode cJ9_max_7cf53 1 = .ok (.iload_n 1, 1) := by decide +kernel
theorem dJ9_max_7cf53_2 : decode cJ9_max_7cf53 2 = .ok (.if_icmp .lt 7, 3) := by decide +kernel
theorem dJ9_max_7cf53_5 : decode cJ9_max_7cf53 5 = .ok (.iload_n 0, 1) := by decide +kernel
theorem dJ9_max_7cf53_6 : decode cJ9_max_7cf53 6 = .ok (.goto 4, 3) := by decide +kernel
theorem dJ9_max_7cf53_9 : decode cJ9_max_7cf53 9 = .ok (.iload_n 1, 1) := by decide +kernel
theorem dJ9_max_7cf53_10 : decode cJ9_max_7cf53 10 = .ok (.ireturn, 1) := by decide +kernel
theorem dJ9_min_7cf53_0 : decode cJ9_min_7cf53 0 = .ok (.iload_n 0, 1) := by decide +kernel
theorem dJ9_min_7cf53_1 : decode cJ9_min_7cf53 1 = .ok (.iload_n 1, 1) := by decide +kernel
theorem dJ9_min_7cf53_2 : decode cJ9_min_7cf53 2 = .ok (.if_icmp .gt 7, 3) := by decide +kernel
theorem dJ9_min_7cf53_5 : decode cJ9_min_7cf53 5 = .ok (.iload_n 0, 1) := by decide +kernel
theorem dJ9_min_7cf53_6 : decode cJ9_min_7cf53 6 = .ok (.goto 4, 3) := by decide +kernel
theorem dJ9_min_7cf53_9 : decode cJ9_min_7cf53 9 = .ok (.iload_n 1, 1) := by decide +kernel
theorem dJ9_min_7cf53_10 : decode cJ9_min_7cf53 10 = .ok (.ireturn, 1) := by decide +kernel
set_option maxRecDepth 20000 in
theorem ggJ0_length_8abf5_J0_coder_7d493 : GoodIn wsJ0_length_8abf5 wsJ0_coder_7d493 := goodIn_r _ [6, 7, 8] (by decide +kernel) (by decide +kernel)
set_option maxRecDepth 20000 in
theorem gJ0_length_8abf5_J0_coder_7d493 : GoodIn wsJ0_length_8abf5 (wsV RJ0 335 RJ0 yJ0_coder_7d493 wsJ0_coder_7d493) := goodIn_app (goodIn_of _ (by decide +kernel)) ggJ0_length_8abf5_J0_coder_7d493
theorem dJ0_length_8abf5_0 : decode cJ0_length_8abf5 0 = .ok (.aload_n 0, 1) := by decide +kernel
theorem dJ0_length_8abf5_1 : decode cJ0_length_8abf5 1 = .ok (.getfield 9, 3) := by decide +kernel
theorem dJ0_length_8abf5_4 : decode cJ0_length_8abf5 4 = .ok (.arraylength, 1) := by decide +kernel
theorem dJ0_length_8abf5_5 : decode cJ0_length_8abf5 5 = .ok (.aload_n 0, 1) := by decide +kernel
theorem dJ0_length_8abf5_6 : decode cJ0_length_8abf5 6 = .ok (.invokevirtual 335, 3) := by decide +kernel
theorem dJ0_length_8abf5_9 : decode cJ0_length_8abf5 9 = .ok (.ishr, 1) := by decide +kernel
theorem dJ0_length_8abf5_10 : decode cJ0_length_8abf5 10 = .ok (.ireturn, 1) := by decide +kernel
set_option maxRecDepth 20000 in
theorem ggJ0_charAt_5068e_J0_isLatin1_aae02 : GoodIn wsJ0_charAt_5068e wsJ0_isLatin1_aae02 := goodIn_r _ [6, 7, 8] (by decide +kernel) (by decide +kernel)
set_option maxRecDepth 20000 in
theorem gJ0_charAt_5068e_J0_isLatin1_aae02 : GoodIn wsJ0_charAt_5068e (wsV RJ0 492 RJ0 yJ0_isLatin1_aae02 wsJ0_isLatin1_aae02) := goodIn_app (goodIn_of _ (by decide +kernel)) ggJ0_charAt_5068e_J0_isLatin1_aae02
set_option maxRecDepth 20000 in
theorem ggJ0_charAt_5068e_J1_charAt_3b067 : GoodIn wsJ0_charAt_5068e wsJ1_charAt_3b067 := goodIn_r _ [12, 13, 14, 5, 15, 16, 17, 18, 19, 20] (by decide +kernel) (by decide +kernel)
set_option maxRecDepth 20000 in
theorem gJ0_charAt_5068e_J1_charAt_3b067 : GoodIn wsJ0_charAt_5068e (va_wsS RJ0 495 yJ1_charAt_3b067 wsJ1_charAt_3b067) := goodIn_app (goodIn_of _ (by decide +kernel)) ggJ0_charAt_5068e_J1_charAt_3b067
set_option maxRecDepth 20000 in
theorem ggJ0_charAt_5068e_J2_charAt_3b067 : GoodIn wsJ0_charAt_5068e wsJ2_charAt_3b067 := goodIn_r _ [24, 25, 26, 23, 27, 28, 29, 30, 31, 14, 5, 15, 16, 17, 18, 19, 20, 32, 33, 34, 35, 36, 37] (by decide +kernel) (by decide +kernel)
set_option maxRecDepth 20000 in
theorem gJ0_charAt_5068e_J2_charAt_3b067 : GoodIn wsJ0_charAt_5068e (va_wsS RJ0 498 yJ2_charAt_3b067 wsJ2_charAt_3b067) := goodIn_app (goodIn_of _ (by decide +kernel)) ggJ0_charAt_5068e_J2_charAt_3b067
theorem dJ0_charAt_5068e_0 : decode cJ0_charAt_5068e 0 = .ok (.aload_n 0, 1) := by decide +kernel
theorem dJ0_charAt_5068e_1 : decode cJ0_charAt_5068e 1 = .ok (.invokevirtual 492, 3) := by decide +kernel
theorem dJ0_charAt_5068e_4 : decode cJ0_charAt_5068e 4 = .ok (.ifCond .eq 12, 3) := by decide +kernel
theorem dJ0_charAt_5068e_7 : decode cJ0_charAt_5068e 7 = .ok (.aload_n 0, 1) := by decide +kernel
theorem dJ0_charAt_5068e_8 : decode cJ0_charAt_5068e 8 = .ok (.getfield 9, 3) := by decide +kernel
theorem dJ0_charAt_5068e_11 : decode cJ0_charAt_5068e 11 = .ok (.iload_n 1, 1) := by decide +kernel
theorem dJ0_charAt_5068e_12 : decode cJ0_charAt_5068e 12 = .ok (.invokestatic 495, 3) := by decide +kernel
theorem dJ0_charAt_5068e_15 : decode cJ0_charAt_5068e 15 = .ok (.ireturn, 1) := by decide +kernel
theorem dJ0_charAt_5068e_16 : decode cJ0_charAt_5068e 16 = .ok (.aload_n 0, 1) := by decide +kernel
theorem dJ0_charAt_5068e_17 : decode cJ0_charAt_5068e 17 = .ok (.getfield 9, 3) := by decide +kernel
theorem dJ0_charAt_5068e_20 : decode cJ0_charAt_5068e 20 = .ok (.iload_n 1, 1) := by decide +kernel
theorem dJ0_charAt_5068e_21 : decode cJ0_charAt_5068e 21 = .ok (.invokestatic 498, 3) := by decide +kernel
theorem dJ0_charAt_5068e_24 : decode cJ0_charAt_5068e 24 = .ok (.ireturn, 1) := by decide +kernel
theorem dJ0_coder_7d493_0 : decode cJ0_coder_7d493 0 = .ok (.getstatic 38, 3) := by decide +kernel
theorem dJ0_coder_7d493_3 : decode cJ0_coder_7d493 3 = .ok (.ifCond .eq 10, 3) := by decide +kernel
theorem dJ0_coder_7d493_6 : decode cJ0_coder_7d493 6 = .ok (.aload_n 0, 1) := by decide +kernel
theorem dJ0_coder_7d493_7 : decode cJ0_coder_7d493 7 = .ok (.getfield 15, 3) := by decide +kernel
theorem dJ0_coder_7d493_10 : decode cJ0_coder_7d493 10 = .ok (.goto 4, 3) := by decide +kernel
theorem dJ0_coder_7d493_13 : decode cJ0_coder_7d493 13 = .ok (.iconst 1, 1) := by decide +kernel
theorem dJ0_coder_7d493_14 : decode cJ0_coder_7d493 14 = .ok (.ireturn, 1) := by decide +kernel
theorem dJ0_isLatin1_aae02_0 : decode cJ0_isLatin1_aae02 0 = .ok (.getstatic 38, 3) := by decide +kernel
theorem dJ0_isLatin1_aae02_3 : decode cJ0_isLatin1_aae02 3 = .ok (.ifCond .eq 14, 3) := by decide +kernel
theorem dJ0_isLatin1_aae02_6 : decode cJ0_isLatin1_aae02 6 = .ok (.aload_n 0, 1) := by decide +kernel
theorem dJ0_isLatin1_aae02_7 : decode cJ0_isLatin1_aae02 7 = .ok (.getfield 15, 3) := by decide +kernel
theorem dJ0_isLatin1_aae02_10 : decode cJ0_isLatin1_aae02 10 = .ok (.ifCond .ne 7, 3) := by decide +kernel
theorem dJ0_isLatin1_aae02_13 : decode cJ0_isLatin1_aae02 13 = .ok (.iconst 1, 1) := by decide +kernel
theorem dJ0_isLatin1_aae02_14 : decode cJ0_isLatin1_aae02 14 = .ok (.goto 4, 3) := by decide +kernel
theorem dJ0_isLatin1_aae02_17 : decode cJ0_isLatin1_aae02 17 = .ok (.iconst 0, 1) := by decide +kernel
theorem dJ0_isLatin1_aae02_18 : decode cJ0_isLatin1_aae02 18 = .ok (.ireturn, 1) := by decide +kernel
set_option maxRecDepth 20000 in
theorem ggJ0_checkIndex_df160_J3_checkIndex_8e157 : GoodIn wsJ0_checkIndex_df160 wsJ3_checkIndex_8e157 := goodIn_r _ [5] (by decide +kernel) (by decide +kernel)
set_option maxRecDepth 20000 in
theorem gJ0_checkIndex_df160_J3_checkIndex_8e157 : GoodIn wsJ0_checkIndex_df160 (va_wsS RJ0 1059 yJ3_checkIndex_8e157 wsJ3_checkIndex_8e157) := goodIn_app (goodIn_of _ (by decide +kernel)) ggJ0_checkIndex_df160_J3_checkIndex_8e157
theorem dJ0_checkIndex_df160_0 : decode cJ0_checkIndex_df160 0 = .ok (.iload_n 0, 1) := by decide +kernel
theorem dJ0_checkIndex_df160_1 : decode cJ0_checkIndex_df160 1 = .ok (.iload_n 1, 1) := by decide +kernel
theorem dJ0_checkIndex_df160_2 : decode cJ0_checkIndex_df160 2 = .ok (.getstatic 1053, 3) := by decide +kernel
theorem dJ0_checkIndex_df160_5 : decode cJ0_checkIndex_df160 5 = .ok (.invokestatic 1059, 3) := by decide +kernel
theorem dJ0_checkIndex_df160_8 : decode cJ0_checkIndex_df160 8 = .ok (.pop, 1) := by decide +kernel
theorem dJ0_checkIndex_df160_9 : decode cJ0_checkIndex_df160 9 = .ok (.return_, 1) := by decide +kernel
set_option maxRecDepth 20000 in
theorem ggJ1_charAt_3b067_J0_checkIndex_df160 : GoodIn wsJ1_charAt_3b067 wsJ0_checkIndex_df160 := goodIn_r _ [4, 5, 6, 7, 8, 9] (by decide +kernel) (by decide +kernel)
set_option maxRecDepth 20000 in
theorem gJ1_charAt_3b067_J0_checkIndex_df160 : GoodIn wsJ1_charAt_3b067 (va_wsS RJ1 9 yJ0_checkIndex_df160 wsJ0_checkIndex_df160) := goodIn_app (goodIn_of _ (by decide +kernel)) ggJ1_charAt_3b067_J0_checkIndex_df160
theorem dJ1_charAt_3b067_0 : decode cJ1_charAt_3b067 0 = .ok (.iload_n 1, 1) := by decide +kernel
theorem dJ1_charAt_3b067_1 : decode cJ1_charAt_3b067 1 = .ok (.aload_n 0, 1) := by decide +kernel
theorem dJ1_charAt_3b067_2 : decode cJ1_charAt_3b067 2 = .ok (.arraylength, 1) := by decide +kernel
theorem dJ1_charAt_3b067_3 : decode cJ1_charAt_3b067 3 = .ok (.invokestatic 9, 3) := by decide +kernel
theorem dJ1_charAt_3b067_6 : decode cJ1_charAt_3b067 6 = .ok (.aload_n 0, 1) := by decide +kernel
theorem dJ1_charAt_3b067_7 : decode cJ1_charAt_3b067 7 = .ok (.iload_n 1, 1) := by decide +kernel
theorem dJ1_charAt_3b067_8 : decode cJ1_charAt_3b067 8 = .ok (.baload, 1) := by decide +kernel
theorem dJ1_charAt_3b067_9 : decode cJ1_charAt_3b067 9 = .ok (.sipush 255, 3) := by decide +kernel
theorem dJ1_charAt_3b067_12 : decode cJ1_charAt_3b067 12 = .ok (.iand, 1) := by decide +kernel
theorem dJ1_charAt_3b067_13 : decode cJ1_charAt_3b067 13 = .ok (.i2c, 1) := by decide +kernel
theorem dJ1_charAt_3b067_14 : decode cJ1_charAt_3b067 14 = .ok (.ireturn, 1) := by decide +kernel
set_option maxRecDepth 20000 in
theorem ggJ2_getChar_3b067_J2_length_9d52b : GoodIn wsJ2_getChar_3b067 wsJ2_length_9d52b := goodIn_r _ [7] (by decide +kernel) (by decide +kernel)
set_option maxRecDepth 20000 in
theorem gJ2_getChar_3b067_J2_length_9d52b : GoodIn wsJ2_getChar_3b067 (va_wsS RJ2 48 yJ2_length_9d52b wsJ2_length_9d52b) := goodIn_app (goodIn_of _ (by decide +kernel)) ggJ2_getChar_3b067_J2_length_9d52b
theorem dJ2_getChar_3b067_0 : decode cJ2_getChar_3b067 0 = .ok (.getstatic 44, 3) := by decide +kernel
theorem dJ2_getChar_3b067_3 : decode cJ2_getChar_3b067 3 = .ok (.ifCond .ne 25, 3) := by decide +kernel
theorem dJ2_getChar_3b067_6 : decode cJ2_getChar_3b067 6 = .ok (.iload_n 1, 1) := by decide +kernel
theorem dJ2_getChar_3b067_7 : decode cJ2_getChar_3b067 7 = .ok (.ifCond .lt 11, 3) := by decide +kernel
theorem dJ2_getChar_3b067_10 : decode cJ2_getChar_3b067 10 = .ok (.iload_n 1, 1) := by decide +kernel
theorem dJ2_getChar_3b067_11 : decode cJ2_getChar_3b067 11 = .ok (.aload_n 0, 1) := by decide +kernel
theorem dJ2_getChar_3b067_12 : decode cJ2_getChar_3b067 12 = .ok (.invokestatic 48, 3) := by decide +kernel
theorem dJ2_getChar_3b067_15 : decode cJ2_getChar_3b067 15 = .ok (.if_icmp .lt 13, 3) := by decide +kernel
theorem dJ2_getChar_3b067_18 : decode cJ2_getChar_3b067 18 = .ok (.new 52, 3) := by decide +kernel
theorem dJ2_getChar_3b067_21 : decode cJ2_getChar_3b067 21 = .ok (.dup, 1) := by decide +kernel
theorem dJ2_getChar_3b067_22 : decode cJ2_getChar_3b067 22 = .ok (.ldc 54, 2) := by decide +kernel
theorem dJ2_getChar_3b067_24 : decode cJ2_getChar_3b067 24 = .ok (.invokespecial 56, 3) := by decide +kernel
theorem dJ2_getChar_3b067_27 : decode cJ2_getChar_3b067 27 = .ok (.athrow, 1) := by decide +kernel
theorem dJ2_getChar_3b067_28 : decode cJ2_getChar_3b067 28 = .ok (.iload_n 1, 1) := by decide +kernel
theorem dJ2_getChar_3b067_29 : decode cJ2_getChar_3b067 29 = .ok (.iconst 1, 1) := by decide +kernel
theorem dJ2_getChar_3b067_30 : decode cJ2_getChar_3b067 30 = .ok (.ishl, 1) := by decide +kernel
theorem dJ2_getChar_3b067_31 : decode cJ2_getChar_3b067 31 = .ok (.istore_n 1, 1) := by decide +kernel
theorem dJ2_getChar_3b067_32 : decode cJ2_getChar_3b067 32 = .ok (.aload_n 0, 1) := by decide +kernel
theorem dJ2_getChar_3b067_33 : decode cJ2_getChar_3b067 33 = .ok (.iload_n 1, 1) := by decide +kernel
theorem dJ2_getChar_3b067_34 : decode cJ2_getChar_3b067 34 = .ok (.iinc 1 1, 3) := by decide +kernel
theorem dJ2_getChar_3b067_37 : decode cJ2_getChar_3b067 37 = .ok (.baload, 1) := by decide +kernel
theorem dJ2_getChar_3b067_38 : decode cJ2_getChar_3b067 38 = .ok (.sipush 255, 3) := by decide +kernel
theorem dJ2_getChar_3b067_41 : decode cJ2_getChar_3b067 41 = .ok (.iand, 1) := by decide +kernel
theorem dJ2_getChar_3b067_42 : decode cJ2_getChar_3b067 42 = .ok (.getstatic 59, 3) := by decide +kernel
theorem dJ2_getChar_3b067_45 : decode cJ2_getChar_3b067 45 = .ok (.ishl, 1) := by decide +kernel
theorem dJ2_getChar_3b067_46 : decode cJ2_getChar_3b067 46 = .ok (.aload_n 0, 1) := by decide +kernel
theorem dJ2_getChar_3b067_47 : decode cJ2_getChar_3b067 47 = .ok (.iload_n 1, 1) := by decide +kernel
theorem dJ2_getChar_3b067_48 : decode cJ2_getChar_3b067 48 = .ok (.baload, 1) := by decide +kernel
theorem dJ2_getChar_3b067_49 : decode cJ2_getChar_3b067 49 = .ok (.sipush 255, 3) := by decide +kernel
theorem dJ2_getChar_3b067_52 : decode cJ2_getChar_3b067 52 = .ok (.iand, 1) := by decide +kernel
theorem dJ2_getChar_3b067_53 : decode cJ2_getChar_3b067 53 = .ok (.getstatic 63, 3) := by decide +kernel
theorem dJ2_getChar_3b067_56 : decode cJ2_getChar_3b067 56 = .ok (.ishl, 1) := by decide +kernel
theorem dJ2_getChar_3b067_57 : decode cJ2_getChar_3b067 57 = .ok (.ior, 1) := by decide +kernel
theorem dJ2_getChar_3b067_58 : decode cJ2_getChar_3b067 58 = .ok (.i2c, 1) := by decide +kernel
theorem dJ2_getChar_3b067_59 : decode cJ2_getChar_3b067 59 = .ok (.ireturn, 1) := by decide +kernel
theorem dJ2_length_9d52b_0 : decode cJ2_length_9d52b 0 = .ok (.aload_n 0, 1) := by decide +kernel
theorem dJ2_length_9d52b_1 : decode cJ2_length_9d52b 1 = .ok (.arraylength, 1) := by decide +kernel
theorem dJ2_length_9d52b_2 : decode cJ2_length_9d52b 2 = .ok (.iconst 1, 1) := by decide +kernel
theorem dJ2_length_9d52b_3 : decode cJ2_length_9d52b 3 = .ok (.ishr, 1) := by decide +kernel
theorem dJ2_length_9d52b_4 : decode cJ2_length_9d52b 4 = .ok (.ireturn, 1) := by decide +kernel
set_option maxRecDepth 20000 in
theorem ggJ2_charAt_3b067_J2_checkIndex_2214a : GoodIn wsJ2_charAt_3b067 wsJ2_checkIndex_2214a := goodIn_r _ [4, 5, 6, 3, 7, 8, 9, 10, 11, 12, 13, 14, 15, 16] (by decide +kernel) (by decide +kernel)
set_option maxRecDepth 20000 in
theorem gJ2_charAt_3b067_J2_checkIndex_2214a : GoodIn wsJ2_charAt_3b067 (va_wsS RJ2 67 yJ2_checkIndex_2214a wsJ2_checkIndex_2214a) := goodIn_app (goodIn_of _ (by decide +kernel)) ggJ2_charAt_3b067_J2_checkIndex_2214a
set_option maxRecDepth 20000 in
theorem ggJ2_charAt_3b067_J2_getChar_3b067 : GoodIn wsJ2_charAt_3b067 wsJ2_getChar_3b067 := goodIn_r _ [19, 20, 21, 22, 5, 6, 3, 7] (by decide +kernel) (by decide +kernel)
set_option maxRecDepth 20000 in
theorem gJ2_charAt_3b067_J2_getChar_3b067 : GoodIn wsJ2_charAt_3b067 (va_wsS RJ2 71 yJ2_getChar_3b067 wsJ2_getChar_3b067) := goodIn_app (goodIn_of _ (by decide +kernel)) ggJ2_charAt_3b067_J2_getChar_3b067
theorem dJ2_charAt_3b067_0 : decode cJ2_charAt_3b067 0 = .ok (.iload_n 1, 1) := by decide +kernel
theorem dJ2_charAt_3b067_1 : decode cJ2_charAt_3b067 1 = .ok (.aload_n 0, 1) := by decide +kernel
theorem dJ2_charAt_3b067_2 : decode cJ2_charAt_3b067 2 = .ok (.invokestatic 67, 3) := by decide +kernel
theorem dJ2_charAt_3b067_5 : decode cJ2_charAt_3b067 5 = .ok (.aload_n 0, 1) := by decide +kernel
theorem dJ2_charAt_3b067_6 : decode cJ2_charAt_3b067 6 = .ok (.iload_n 1, 1) := by decide +kernel
theorem dJ2_charAt_3b067_7 : decode cJ2_charAt_3b067 7 = .ok (.invokestatic 71, 3) := by decide +kernel
theorem dJ2_charAt_3b067_10 : decode cJ2_charAt_3b067 10 = .ok (.ireturn, 1) := by decide +kernel
set_option maxRecDepth 20000 in
theorem ggJ2_checkIndex_2214a_J2_length_9d52b : GoodIn wsJ2_checkIndex_2214a wsJ2_length_9d52b := goodIn_r _ [4] (by decide +kernel) (by decide +kernel)
set_option maxRecDepth 20000 in
theorem gJ2_checkIndex_2214a_J2_length_9d52b : GoodIn wsJ2_checkIndex_2214a (va_wsS RJ2 48 yJ2_length_9d52b wsJ2_length_9d52b) := goodIn_app (goodIn_of _ (by decide +kernel)) ggJ2_checkIndex_2214a_J2_length_9d52b
set_option maxRecDepth 20000 in
theorem ggJ2_checkIndex_2214a_J0_checkIndex_df160 : GoodIn wsJ2_checkIndex_2214a wsJ0_checkIndex_df160 := goodIn_r _ [8, 9, 10, 11, 12, 13] (by decide +kernel) (by decide +kernel)
set_option maxRecDepth 20000 in
theorem gJ2_checkIndex_2214a_J0_checkIndex_df160 : GoodIn wsJ2_checkIndex_2214a (va_wsS RJ2 414 yJ0_checkIndex_df160 wsJ0_checkIndex_df160) := goodIn_app (goodIn_of _ (by decide +kernel)) ggJ2_checkIndex_2214a_J0_checkIndex_df160
theorem dJ2_checkIndex_2214a_0 : decode cJ2_checkIndex_2214a 0 = .ok (.iload_n 0, 1) := by decide +kernel
theorem dJ2_checkIndex_2214a_1 : decode cJ2_checkIndex_2214a 1 = .ok (.aload_n 1, 1) := by decide +kernel
theorem dJ2_checkIndex_2214a_2 : decode cJ2_checkIndex_2214a 2 = .ok (.invokestatic 48, 3) := by decide +kernel
theorem dJ2_checkIndex_2214a_5 : decode cJ2_checkIndex_2214a 5 = .ok (.invokestatic 414, 3) := by decide +kernel
theorem dJ2_checkIndex_2214a_8 : decode cJ2_checkIndex_2214a 8 = .ok (.return_, 1) := by decide +kernel
theorem dJ7_fill_d0a16_0 : decode cJ7_fill_d0a16 0 = .ok (.iconst 0, 1) := by decide +kernel
theorem dJ7_fill_d0a16_1 : decode cJ7_fill_d0a16 1 = .ok (.istore_n 3, 1) := by decide +kernel
theorem dJ7_fill_d0a16_2 : decode cJ7_fill_d0a16 2 = .ok (.aload_n 0, 1) := by decide +kernel
theorem dJ7_fill_d0a16_3 : decode cJ7_fill_d0a16 3 = .ok (.arraylength, 1) := by decide +kernel
theorem dJ7_fill_d0a16_4 : decode cJ7_fill_d0a16 4 = .ok (.istore 4, 2) := by decide +kernel
theorem dJ7_fill_d0a16_6 : decode cJ7_fill_d0a16 6 = .ok (.iload_n 3, 1) := by decide +kernel
theorem dJ7_fill_d0a16_7 : decode cJ7_fill_d0a16 7 = .ok (.iload 4, 2) := by decide +kernel
theorem dJ7_fill_d0a16_9 : decode cJ7_fill_d0a16 9 = .ok (.if_icmp .ge 13, 3) := by decide +kernel
theorem dJ7_fill_d0a16_12 : decode cJ7_fill_d0a16 12 = .ok (.aload_n 0, 1) := by decide +kernel
theorem dJ7_fill_d0a16_13 : decode cJ7_fill_d0a16 13 = .ok (.iload_n 3, 1) := by decide +kernel
theorem dJ7_fill_d0a16_14 : decode cJ7_fill_d0a16 14 = .ok (.lload_n 1, 1) := by decide +kernel
theorem dJ7_fill_d0a16_15 : decode cJ7_fill_d0a16 15 = .ok (.lastore, 1) := by decide +kernel
theorem dJ7_fill_d0a16_16 : decode cJ7_fill_d0a16 16 = .ok (.iinc 3 1, 3) := by decide +kernel
theorem dJ7_fill_d0a16_19 : decode cJ7_fill_d0a16 19 = .ok (.goto (-13), 3) := by decide +kernel
theorem dJ7_fill_d0a16_22 : decode cJ7_fill_d0a16 22 = .ok (.return_, 1) := by decide +kernel
theorem dJ7_fill_53178_0 : decode cJ7_fill_53178 0 = .ok (.iconst 0, 1) := by decide +kernel
theorem dJ7_fill_53178_1 : decode cJ7_fill_53178 1 = .ok (.istore_n 2, 1) := by decide +kernel
theorem dJ7_fill_53178_2 : decode cJ7_fill_53178 2 = .ok (.aload_n 0, 1) := by decide +kernel
theorem dJ7_fill_53178_3 : decode cJ7_fill_53178 3 = .ok (.arraylength, 1) := by decide +kernel
theorem dJ7_fill_53178_4 : decode cJ7_fill_53178 4 = .ok (.istore_n 3, 1) := by decide +kernel
theorem dJ7_fill_53178_5 : decode cJ7_fill_53178 5 = .ok (.iload_n 2, 1) := by decide +kernel
theorem dJ7_fill_53178_6 : decode cJ7_fill_53178 6 = .ok (.iload_n 3, 1) := by decide +kernel
theorem dJ7_fill_53178_7 : decode cJ7_fill_53178 7 = .ok (.if_icmp .ge 13, 3) := by decide +kernel
theorem dJ7_fill_53178_10 : decode cJ7_fill_53178 10 = .ok (.aload_n 0, 1) := by decide +kernel
theorem dJ7_fill_53178_11 : decode cJ7_fill_53178 11 = .ok (.iload_n 2, 1) := by decide +kernel
theorem dJ7_fill_53178_12 : decode cJ7_fill_53178 12 = .ok (.iload_n 1, 1) := by decide +kernel
theorem dJ7_fill_53178_13 : decode cJ7_fill_53178 13 = .ok (.iastore, 1) := by decide +kernel
theorem dJ7_fill_53178_14 : decode cJ7_fill_53178 14 = .ok (.iinc 2 1, 3) := by decide +kernel
theorem dJ7_fill_53178_17 : decode cJ7_fill_53178 17 = .ok (.goto (-12), 3) := by decide +kernel
theorem dJ7_fill_53178_20 : decode cJ7_fill_53178 20 = .ok (.return_, 1) := by decide +kernel
theorem dJ3_checkIndex_8e157_0 : decode cJ3_checkIndex_8e157 0 = .ok (.iload_n 0, 1) := by decide +kernel
theorem dJ3_checkIndex_8e157_1 : decode cJ3_checkIndex_8e157 1 = .ok (.ifCond .lt 8, 3) := by decide +kernel
theorem dJ3_checkIndex_8e157_4 : decode cJ3_checkIndex_8e157 4 = .ok (.iload_n 0, 1) := by decide +kernel
theorem dJ3_checkIndex_8e157_5 : decode cJ3_checkIndex_8e157 5 = .ok (.iload_n 1, 1) := by decide +kernel
theorem dJ3_checkIndex_8e157_6 : decode cJ3_checkIndex_8e157 6 = .ok (.if_icmp .lt 10, 3) := by decide +kernel
theorem dJ3_checkIndex_8e157_9 : decode cJ3_checkIndex_8e157 9 = .ok (.aload_n 2, 1) := by decide +kernel
theorem dJ3_checkIndex_8e157_10 : decode cJ3_checkIndex_8e157 10 = .ok (.iload_n 0, 1) := by decide +kernel
theorem dJ3_checkIndex_8e157_11 : decode cJ3_checkIndex_8e157 11 = .ok (.iload_n 1, 1) := by decide +kernel
theorem dJ3_checkIndex_8e157_12 : decode cJ3_checkIndex_8e157 12 = .ok (.invokestatic 95, 3) := by decide +kernel
theorem dJ3_checkIndex_8e157_15 : decode cJ3_checkIndex_8e157 15 = .ok (.athrow, 1) := by decide +kernel
theorem dJ3_checkIndex_8e157_16 : decode cJ3_checkIndex_8e157 16 = .ok (.iload_n 0, 1) := by decide +kernel
theorem dJ3_checkIndex_8e157_17 : decode cJ3_checkIndex_8e157 17 = .ok (.ireturn, 1) := by decide +kernel
