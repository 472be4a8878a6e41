theorem dX11_nights_81 : decode cX11_nights 81 = .ok (.getfield 13, 3) := by decide +kernel
theorem dX11_nights_84 : decode cX11_nights 84 = .ok (.bipush 40, 2) := by decide +kernel
theorem dX11_nights_86 : decode cX11_nights 86 = .ok (.iload_n 1, 1) := by decide +kernel
theorem dX11_nights_87 : decode cX11_nights 87 = .ok (.imul, 1) := by decide +kernel
theorem dX11_nights_88 : decode cX11_nights 88 = .ok (.iload_n 2, 1) := by decide +kernel
theorem dX11_nights_89 : decode cX11_nights 89 = .ok (.iadd, 1) := by decide +kernel
theorem dX11_nights_90 : decode cX11_nights 90 = .ok (.iload 4, 2) := by decide +kernel
theorem dX11_nights_92 : decode cX11_nights 92 = .ok (.iadd, 1) := by decide +kernel
theorem dX11_nights_93 : decode cX11_nights 93 = .ok (.iaload, 1) := by decide +kernel
theorem dX11_nights_94 : decode cX11_nights 94 = .ok (.i2l, 1) := by decide +kernel
theorem dX11_nights_95 : decode cX11_nights 95 = .ok (.invokevirtual 166, 3) := by decide +kernel
theorem dX11_nights_98 : decode cX11_nights 98 = .ok (.ifCond .ne 7, 3) := by decide +kernel
theorem dX11_nights_101 : decode cX11_nights 101 = .ok (.ldc2_w 56, 3) := by decide +kernel
theorem dX11_nights_104 : decode cX11_nights 104 = .ok (.lreturn, 1) := by decide +kernel
theorem dX11_nights_105 : decode cX11_nights 105 = .ok (.iinc 4 1, 3) := by decide +kernel
theorem dX11_nights_108 : decode cX11_nights 108 = .ok (.goto (-35), 3) := by decide +kernel
theorem dX11_nights_111 : decode cX11_nights 111 = .ok (.lconst 0, 1) := by decide +kernel
theorem dX11_nights_112 : decode cX11_nights 112 = .ok (.lstore 4, 2) := by decide +kernel
theorem dX11_nights_114 : decode cX11_nights 114 = .ok (.iconst 0, 1) := by decide +kernel
theorem dX11_nights_115 : decode cX11_nights 115 = .ok (.istore 6, 2) := by decide +kernel
theorem dX11_nights_117 : decode cX11_nights 117 = .ok (.iload 6, 2) := by decide +kernel
theorem dX11_nights_119 : decode cX11_nights 119 = .ok (.iload_n 3, 1) := by decide +kernel
theorem dX11_nights_120 : decode cX11_nights 120 = .ok (.if_icmp .ge 33, 3) := by decide +kernel
theorem dX11_nights_123 : decode cX11_nights 123 = .ok (.lload 4, 2) := by decide +kernel
theorem dX11_nights_125 : decode cX11_nights 125 = .ok (.aload_n 0, 1) := by decide +kernel
theorem dX11_nights_126 : decode cX11_nights 126 = .ok (.aload_n 0, 1) := by decide +kernel
theorem dX11_nights_127 : decode cX11_nights 127 = .ok (.getfield 13, 3) := by decide +kernel
theorem dX11_nights_130 : decode cX11_nights 130 = .ok (.bipush 40, 2) := by decide +kernel
theorem dX11_nights_132 : decode cX11_nights 132 = .ok (.iload_n 1, 1) := by decide +kernel
theorem dX11_nights_133 : decode cX11_nights 133 = .ok (.imul, 1) := by decide +kernel
theorem dX11_nights_134 : decode cX11_nights 134 = .ok (.iload_n 2, 1) := by decide +kernel
theorem dX11_nights_135 : decode cX11_nights 135 = .ok (.iadd, 1) := by decide +kernel
theorem dX11_nights_136 : decode cX11_nights 136 = .ok (.iload 6, 2) := by decide +kernel
theorem dX11_nights_138 : decode cX11_nights 138 = .ok (.iadd, 1) := by decide +kernel
theorem dX11_nights_139 : decode cX11_nights 139 = .ok (.iaload, 1) := by decide +kernel
theorem dX11_nights_140 : decode cX11_nights 140 = .ok (.invokevirtual 170, 3) := by decide +kernel
theorem dX11_nights_143 : decode cX11_nights 143 = .ok (.i2l, 1) := by decide +kernel
theorem dX11_nights_144 : decode cX11_nights 144 = .ok (.ladd, 1) := by decide +kernel
theorem dX11_nights_145 : decode cX11_nights 145 = .ok (.lstore 4, 2) := by decide +kernel
theorem dX11_nights_147 : decode cX11_nights 147 = .ok (.iinc 6 1, 3) := by decide +kernel
theorem dX11_nights_150 : decode cX11_nights 150 = .ok (.goto (-33), 3) := by decide +kernel
theorem dX11_nights_153 : decode cX11_nights 153 = .ok (.aload_n 0, 1) := by decide +kernel
theorem dX11_nights_154 : decode cX11_nights 154 = .ok (.lload 4, 2) := by decide +kernel
theorem dX11_nights_156 : decode cX11_nights 156 = .ok (.invokevirtual 62, 3) := by decide +kernel
theorem dX11_nights_159 : decode cX11_nights 159 = .ok (.lreturn, 1) := by decide +kernel
set_option maxRecDepth 20000 in
theorem ggX11_snow_X11_isNone : GoodIn wsX11_snow wsX11_isNone := goodIn_r _ [9, 4, 13, 14, 15, 16, 17, 18, 19, 20, 21, 22, 23, 24, 25, 26, 27, 28, 29, 30, 31, 32] (by decide +kernel) (by decide +kernel)
set_option maxRecDepth 20000 in
theorem gX11_snow_X11_isNone : GoodIn wsX11_snow (wsV RX11 174 RX11 yX11_isNone wsX11_isNone) := goodIn_app (goodIn_of _ (by decide +kernel)) ggX11_snow_X11_isNone
set_option maxRecDepth 20000 in
theorem ggX11_snow_X11_in : GoodIn wsX11_snow wsX11_in := goodIn_r _ [12] (by decide +kernel) (by decide +kernel)
set_option maxRecDepth 20000 in
theorem gX11_snow_X11_in : GoodIn wsX11_snow (va_wsS RX11 46 yX11_in wsX11_in) := goodIn_app (goodIn_of _ (by decide +kernel)) ggX11_snow_X11_in
theorem dX11_snow_0 : decode cX11_snow 0 = .ok (.aload_n 0, 1) := by decide +kernel
theorem dX11_snow_1 : decode cX11_snow 1 = .ok (.invokevirtual 174, 3) := by decide +kernel
theorem dX11_snow_4 : decode cX11_snow 4 = .ok (.ifCond .eq 7, 3) := by decide +kernel
theorem dX11_snow_7 : decode cX11_snow 7 = .ok (.ldc2_w 178, 3) := by decide +kernel
theorem dX11_snow_10 : decode cX11_snow 10 = .ok (.lreturn, 1) := by decide +kernel
theorem dX11_snow_11 : decode cX11_snow 11 = .ok (.iload_n 1, 1) := by decide +kernel
theorem dX11_snow_12 : decode cX11_snow 12 = .ok (.i2l, 1) := by decide +kernel
theorem dX11_snow_13 : decode cX11_snow 13 = .ok (.lconst 0, 1) := by decide +kernel
theorem dX11_snow_14 : decode cX11_snow 14 = .ok (.ldc2_w 182, 3) := by decide +kernel
theorem dX11_snow_17 : decode cX11_snow 17 = .ok (.invokestatic 46, 3) := by decide +kernel
theorem dX11_snow_20 : decode cX11_snow 20 = .ok (.ifCond .ne 7, 3) := by decide +kernel
theorem dX11_snow_23 : decode cX11_snow 23 = .ok (.ldc2_w 56, 3) := by decide +kernel
theorem dX11_snow_26 : decode cX11_snow 26 = .ok (.lreturn, 1) := by decide +kernel
theorem dX11_snow_27 : decode cX11_snow 27 = .ok (.aload_n 0, 1) := by decide +kernel
theorem dX11_snow_28 : decode cX11_snow 28 = .ok (.getfield 7, 3) := by decide +kernel
theorem dX11_snow_31 : decode cX11_snow 31 = .ok (.iconst 0, 1) := by decide +kernel
theorem dX11_snow_32 : decode cX11_snow 32 = .ok (.aload_n 0, 1) := by decide +kernel
theorem dX11_snow_33 : decode cX11_snow 33 = .ok (.getfield 7, 3) := by decide +kernel
theorem dX11_snow_36 : decode cX11_snow 36 = .ok (.iconst 0, 1) := by decide +kernel
theorem dX11_snow_37 : decode cX11_snow 37 = .ok (.laload, 1) := by decide +kernel
theorem dX11_snow_38 : decode cX11_snow 38 = .ok (.iload_n 1, 1) := by decide +kernel
theorem dX11_snow_39 : decode cX11_snow 39 = .ok (.i2l, 1) := by decide +kernel
theorem dX11_snow_40 : decode cX11_snow 40 = .ok (.lcmp, 1) := by decide +kernel
theorem dX11_snow_41 : decode cX11_snow 41 = .ok (.ifCond .ge 7, 3) := by decide +kernel
theorem dX11_snow_44 : decode cX11_snow 44 = .ok (.lconst 0, 1) := by decide +kernel
theorem dX11_snow_45 : decode cX11_snow 45 = .ok (.goto 12, 3) := by decide +kernel
theorem dX11_snow_48 : decode cX11_snow 48 = .ok (.aload_n 0, 1) := by decide +kernel
theorem dX11_snow_49 : decode cX11_snow 49 = .ok (.getfield 7, 3) := by decide +kernel
theorem dX11_snow_52 : decode cX11_snow 52 = .ok (.iconst 0, 1) := by decide +kernel
theorem dX11_snow_53 : decode cX11_snow 53 = .ok (.laload, 1) := by decide +kernel
theorem dX11_snow_54 : decode cX11_snow 54 = .ok (.iload_n 1, 1) := by decide +kernel
theorem dX11_snow_55 : decode cX11_snow 55 = .ok (.i2l, 1) := by decide +kernel
theorem dX11_snow_56 : decode cX11_snow 56 = .ok (.lsub, 1) := by decide +kernel
theorem dX11_snow_57 : decode cX11_snow 57 = .ok (.lastore, 1) := by decide +kernel
theorem dX11_snow_58 : decode cX11_snow 58 = .ok (.aload_n 0, 1) := by decide +kernel
theorem dX11_snow_59 : decode cX11_snow 59 = .ok (.getfield 7, 3) := by decide +kernel
theorem dX11_snow_62 : decode cX11_snow 62 = .ok (.sipush 130, 3) := by decide +kernel
theorem dX11_snow_65 : decode cX11_snow 65 = .ok (.dup2, 1) := by decide +kernel
theorem dX11_snow_66 : decode cX11_snow 66 = .ok (.laload, 1) := by decide +kernel
theorem dX11_snow_67 : decode cX11_snow 67 = .ok (.lconst 1, 1) := by decide +kernel
theorem dX11_snow_68 : decode cX11_snow 68 = .ok (.ladd, 1) := by decide +kernel
theorem dX11_snow_69 : decode cX11_snow 69 = .ok (.lastore, 1) := by decide +kernel
theorem dX11_snow_70 : decode cX11_snow 70 = .ok (.aload_n 0, 1) := by decide +kernel
theorem dX11_snow_71 : decode cX11_snow 71 = .ok (.getfield 7, 3) := by decide +kernel
theorem dX11_snow_74 : decode cX11_snow 74 = .ok (.iconst 0, 1) := by decide +kernel
theorem dX11_snow_75 : decode cX11_snow 75 = .ok (.laload, 1) := by decide +kernel
theorem dX11_snow_76 : decode cX11_snow 76 = .ok (.lreturn, 1) := by decide +kernel
set_option maxRecDepth 20000 in
theorem ggX11_due_X11_isNone : GoodIn wsX11_due wsX11_isNone := goodIn_r _ [9, 10, 18, 19, 20, 21, 22, 23, 24, 25, 26, 27, 28, 29, 30, 31, 32, 33, 34, 35, 36, 37] (by decide +kernel) (by decide +kernel)
set_option maxRecDepth 20000 in
theorem gX11_due_X11_isNone : GoodIn wsX11_due (wsV RX11 174 RX11 yX11_isNone wsX11_isNone) := goodIn_app (goodIn_of _ (by decide +kernel)) ggX11_due_X11_isNone
set_option maxRecDepth 20000 in
theorem ggX11_due_X11_in : GoodIn wsX11_due wsX11_in := goodIn_r _ [13] (by decide +kernel) (by decide +kernel)
set_option maxRecDepth 20000 in
theorem gX11_due_X11_in : GoodIn wsX11_due (va_wsS RX11 46 yX11_in wsX11_in) := goodIn_app (goodIn_of _ (by decide +kernel)) ggX11_due_X11_in
set_option maxRecDepth 20000 in
theorem ggX11_due_X11_dueOf : GoodIn wsX11_due wsX11_dueOf := goodIn_r _ [17, 10, 18, 19, 20, 21, 22, 23, 24, 25, 26, 27, 28, 29, 30, 31, 32, 33, 34, 35, 36, 37] (by decide +kernel) (by decide +kernel)
set_option maxRecDepth 20000 in
theorem gX11_due_X11_dueOf : GoodIn wsX11_due (wsV RX11 158 RX11 yX11_dueOf wsX11_dueOf) := goodIn_app (goodIn_of _ (by decide +kernel)) ggX11_due_X11_dueOf
theorem dX11_due_0 : decode cX11_due 0 = .ok (.aload_n 0, 1) := by decide +kernel
theorem dX11_due_1 : decode cX11_due 1 = .ok (.invokevirtual 174, 3) := by decide +kernel
theorem dX11_due_4 : decode cX11_due 4 = .ok (.ifCond .eq 7, 3) := by decide +kernel
theorem dX11_due_7 : decode cX11_due 7 = .ok (.ldc2_w 178, 3) := by decide +kernel
theorem dX11_due_10 : decode cX11_due 10 = .ok (.lreturn, 1) := by decide +kernel
theorem dX11_due_11 : decode cX11_due 11 = .ok (.iload_n 1, 1) := by decide +kernel
theorem dX11_due_12 : decode cX11_due 12 = .ok (.i2l, 1) := by decide +kernel
theorem dX11_due_13 : decode cX11_due 13 = .ok (.lconst 0, 1) := by decide +kernel
theorem dX11_due_14 : decode cX11_due 14 = .ok (.ldc2_w 54, 3) := by decide +kernel
theorem dX11_due_17 : decode cX11_due 17 = .ok (.invokestatic 46, 3) := by decide +kernel
theorem dX11_due_20 : decode cX11_due 20 = .ok (.ifCond .eq 25, 3) := by decide +kernel
theorem dX11_due_23 : decode cX11_due 23 = .ok (.iload_n 2, 1) := by decide +kernel
theorem dX11_due_24 : decode cX11_due 24 = .ok (.i2l, 1) := by decide +kernel
theorem dX11_due_25 : decode cX11_due 25 = .ok (.lconst 1, 1) := by decide +kernel
theorem dX11_due_26 : decode cX11_due 26 = .ok (.ldc2_w 184, 3) := by decide +kernel
theorem dX11_due_29 : decode cX11_due 29 = .ok (.invokestatic 46, 3) := by decide +kernel
theorem dX11_due_32 : decode cX11_due 32 = .ok (.ifCond .eq 13, 3) := by decide +kernel
theorem dX11_due_35 : decode cX11_due 35 = .ok (.aload_n 0, 1) := by decide +kernel
theorem dX11_due_36 : decode cX11_due 36 = .ok (.iload_n 1, 1) := by decide +kernel
theorem dX11_due_37 : decode cX11_due 37 = .ok (.iload_n 2, 1) := by decide +kernel
theorem dX11_due_38 : decode cX11_due 38 = .ok (.invokevirtual 158, 3) := by decide +kernel
theorem dX11_due_41 : decode cX11_due 41 = .ok (.i2l, 1) := by decide +kernel
theorem dX11_due_42 : decode cX11_due 42 = .ok (.goto 6, 3) := by decide +kernel
theorem dX11_due_45 : decode cX11_due 45 = .ok (.ldc2_w 56, 3) := by decide +kernel
theorem dX11_due_48 : decode cX11_due 48 = .ok (.lreturn, 1) := by decide +kernel
set_option maxRecDepth 20000 in
theorem ggX11_party_X11_isParty : GoodIn wsX11_party wsX11_isParty := goodIn_r _ [8, 3, 9, 10, 7, 11, 12, 13, 14, 15, 16, 17, 18, 19, 20, 21, 22, 23, 24, 25, 26, 27, 28, 29, 30, 31] (by decide +kernel) (by decide +kernel)
set_option maxRecDepth 20000 in
theorem gX11_party_X11_isParty : GoodIn wsX11_party (wsV RX11 166 RX11 yX11_isParty wsX11_isParty) := goodIn_app (goodIn_of _ (by decide +kernel)) ggX11_party_X11_isParty
set_option maxRecDepth 20000 in
theorem ggX11_party_X11_in : GoodIn wsX11_party wsX11_in := goodIn_r _ [11] (by decide +kernel) (by decide +kernel)
set_option maxRecDepth 20000 in
theorem gX11_party_X11_in : GoodIn wsX11_party (va_wsS RX11 46 yX11_in wsX11_in) := goodIn_app (goodIn_of _ (by decide +kernel)) ggX11_party_X11_in
theorem dX11_party_0 : decode cX11_party 0 = .ok (.aload_n 0, 1) := by decide +kernel
theorem dX11_party_1 : decode cX11_party 1 = .ok (.iload_n 1, 1) := by decide +kernel
theorem dX11_party_2 : decode cX11_party 2 = .ok (.i2l, 1) := by decide +kernel
theorem dX11_party_3 : decode cX11_party 3 = .ok (.invokevirtual 166, 3) := by decide +kernel
theorem dX11_party_6 : decode cX11_party 6 = .ok (.ifCond .eq 15, 3) := by decide +kernel
theorem dX11_party_9 : decode cX11_party 9 = .ok (.iload_n 2, 1) := by decide +kernel
theorem dX11_party_10 : decode cX11_party 10 = .ok (.i2l, 1) := by decide +kernel
theorem dX11_party_11 : decode cX11_party 11 = .ok (.lconst 0, 1) := by decide +kernel
theorem dX11_party_12 : decode cX11_party 12 = .ok (.ldc2_w 186, 3) := by decide +kernel
theorem dX11_party_15 : decode cX11_party 15 = .ok (.invokestatic 46, 3) := by decide +kernel
theorem dX11_party_18 : decode cX11_party 18 = .ok (.ifCond .ne 7, 3) := by decide +kernel
theorem dX11_party_21 : decode cX11_party 21 = .ok (.ldc2_w 56, 3) := by decide +kernel
theorem dX11_party_24 : decode cX11_party 24 = .ok (.lreturn, 1) := by decide +kernel
theorem dX11_party_25 : decode cX11_party 25 = .ok (.iload_n 2, 1) := by decide +kernel
theorem dX11_party_26 : decode cX11_party 26 = .ok (.tableswitch 84 0 4 #[34, 44, 54, 64, 74], 34) := by decide +kernel
theorem dX11_party_60 : decode cX11_party 60 = .ok (.aload_n 0, 1) := by decide +kernel
theorem dX11_party_61 : decode cX11_party 61 = .ok (.getfield 7, 3) := by decide +kernel
theorem dX11_party_64 : decode cX11_party 64 = .ok (.bipush 18, 2) := by decide +kernel
theorem dX11_party_66 : decode cX11_party 66 = .ok (.iload_n 1, 1) := by decide +kernel
theorem dX11_party_67 : decode cX11_party 67 = .ok (.iadd, 1) := by decide +kernel
theorem dX11_party_68 : decode cX11_party 68 = .ok (.laload, 1) := by decide +kernel
theorem dX11_party_69 : decode cX11_party 69 = .ok (.lreturn, 1) := by decide +kernel
theorem dX11_party_70 : decode cX11_party 70 = .ok (.aload_n 0, 1) := by decide +kernel
theorem dX11_party_71 : decode cX11_party 71 = .ok (.getfield 7, 3) := by decide +kernel
theorem dX11_party_74 : decode cX11_party 74 = .ok (.bipush 50, 2) := by decide +kernel
theorem dX11_party_76 : decode cX11_party 76 = .ok (.iload_n 1, 1) := by decide +kernel
theorem dX11_party_77 : decode cX11_party 77 = .ok (.iadd, 1) := by decide +kernel
theorem dX11_party_78 : decode cX11_party 78 = .ok (.laload, 1) := by decide +kernel
theorem dX11_party_79 : decode cX11_party 79 = .ok (.lreturn, 1) := by decide +kernel
theorem dX11_party_80 : decode cX11_party 80 = .ok (.aload_n 0, 1) := by decide +kernel
theorem dX11_party_81 : decode cX11_party 81 = .ok (.getfield 7, 3) := by decide +kernel
theorem dX11_party_84 : decode cX11_party 84 = .ok (.bipush 66, 2) := by decide +kernel
theorem dX11_party_86 : decode cX11_party 86 = .ok (.iload_n 1, 1) := by decide +kernel
theorem dX11_party_87 : decode cX11_party 87 = .ok (.iadd, 1) := by decide +kernel
theorem dX11_party_88 : decode cX11_party 88 = .ok (.laload, 1) := by decide +kernel
theorem dX11_party_89 : decode cX11_party 89 = .ok (.lreturn, 1) := by decide +kernel
theorem dX11_party_90 : decode cX11_party 90 = .ok (.aload_n 0, 1) := by decide +kernel
theorem dX11_party_91 : decode cX11_party 91 = .ok (.getfield 7, 3) := by decide +kernel
theorem dX11_party_94 : decode cX11_party 94 = .ok (.bipush 82, 2) := by decide +kernel
theorem dX11_party_96 : decode cX11_party 96 = .ok (.iload_n 1, 1) := by decide +kernel
theorem dX11_party_97 : decode cX11_party 97 = .ok (.iadd, 1) := by decide +kernel
theorem dX11_party_98 : decode cX11_party 98 = .ok (.laload, 1) := by decide +kernel
theorem dX11_party_99 : decode cX11_party 99 = .ok (.lreturn, 1) := by decide +kernel
theorem dX11_party_100 : decode cX11_party 100 = .ok (.aload_n 0, 1) := by decide +kernel
theorem dX11_party_101 : decode cX11_party 101 = .ok (.getfield 7, 3) := by decide +kernel
theorem dX11_party_104 : decode cX11_party 104 = .ok (.bipush 98, 2) := by decide +kernel
theorem dX11_party_106 : decode cX11_party 106 = .ok (.iload_n 1, 1) := by decide +kernel
theorem dX11_party_107 : decode cX11_party 107 = .ok (.iadd, 1) := by decide +kernel
theorem dX11_party_108 : decode cX11_party 108 = .ok (.laload, 1) := by decide +kernel
theorem dX11_party_109 : decode cX11_party 109 = .ok (.lreturn, 1) := by decide +kernel
theorem dX11_party_110 : decode cX11_party 110 = .ok (.aload_n 0, 1) := by decide +kernel
theorem dX11_party_111 : decode cX11_party 111 = .ok (.getfield 7, 3) := by decide +kernel
theorem dX11_party_114 : decode cX11_party 114 = .ok (.bipush 114, 2) := by decide +kernel
theorem dX11_party_116 : decode cX11_party 116 = .ok (.iload_n 1, 1) := by decide +kernel
theorem dX11_party_117 : decode cX11_party 117 = .ok (.iadd, 1) := by decide +kernel
theorem dX11_party_118 : decode cX11_party 118 = .ok (.laload, 1) := by decide +kernel
theorem dX11_party_119 : decode cX11_party 119 = .ok (.lreturn, 1) := by decide +kernel
theorem dX11_oddsInAll_0 : decode cX11_oddsInAll 0 = .ok (.lconst 0, 1) := by decide +kernel
theorem dX11_oddsInAll_1 : decode cX11_oddsInAll 1 = .ok (.lstore_n 1, 1) := by decide +kernel
theorem dX11_oddsInAll_2 : decode cX11_oddsInAll 2 = .ok (.iconst 0, 1) := by decide +kernel
theorem dX11_oddsInAll_3 : decode cX11_oddsInAll 3 = .ok (.istore_n 3, 1) := by decide +kernel
theorem dX11_oddsInAll_4 : decode cX11_oddsInAll 4 = .ok (.iload_n 3, 1) := by decide +kernel
theorem dX11_oddsInAll_5 : decode cX11_oddsInAll 5 = .ok (.i2l, 1) := by decide +kernel
theorem dX11_oddsInAll_6 : decode cX11_oddsInAll 6 = .ok (.aload_n 0, 1) := by decide +kernel
theorem dX11_oddsInAll_7 : decode cX11_oddsInAll 7 = .ok (.getfield 7, 3) := by decide +kernel
theorem dX11_oddsInAll_10 : decode cX11_oddsInAll 10 = .ok (.iconst 4, 1) := by decide +kernel
theorem dX11_oddsInAll_11 : decode cX11_oddsInAll 11 = .ok (.laload, 1) := by decide +kernel
theorem dX11_oddsInAll_12 : decode cX11_oddsInAll 12 = .ok (.lcmp, 1) := by decide +kernel
theorem dX11_oddsInAll_13 : decode cX11_oddsInAll 13 = .ok (.ifCond .ge 21, 3) := by decide +kernel
theorem dX11_oddsInAll_16 : decode cX11_oddsInAll 16 = .ok (.lload_n 1, 1) := by decide +kernel
theorem dX11_oddsInAll_17 : decode cX11_oddsInAll 17 = .ok (.aload_n 0, 1) := by decide +kernel
theorem dX11_oddsInAll_18 : decode cX11_oddsInAll 18 = .ok (.getfield 7, 3) := by decide +kernel
theorem dX11_oddsInAll_21 : decode cX11_oddsInAll 21 = .ok (.bipush 11, 2) := by decide +kernel
theorem dX11_oddsInAll_23 : decode cX11_oddsInAll 23 = .ok (.iload_n 3, 1) := by decide +kernel
theorem dX11_oddsInAll_24 : decode cX11_oddsInAll 24 = .ok (.iadd, 1) := by decide +kernel
theorem dX11_oddsInAll_25 : decode cX11_oddsInAll 25 = .ok (.laload, 1) := by decide +kernel
theorem dX11_oddsInAll_26 : decode cX11_oddsInAll 26 = .ok (.ladd, 1) := by decide +kernel
theorem dX11_oddsInAll_27 : decode cX11_oddsInAll 27 = .ok (.lstore_n 1, 1) := by decide +kernel
theorem dX11_oddsInAll_28 : decode cX11_oddsInAll 28 = .ok (.iinc 3 1, 3) := by decide +kernel
theorem dX11_oddsInAll_31 : decode cX11_oddsInAll 31 = .ok (.goto (-27), 3) := by decide +kernel
theorem dX11_oddsInAll_34 : decode cX11_oddsInAll 34 = .ok (.lload_n 1, 1) := by decide +kernel
theorem dX11_oddsInAll_35 : decode cX11_oddsInAll 35 = .ok (.lreturn, 1) := by decide +kernel
set_option maxRecDepth 20000 in
theorem ggX11_goNight_X11_dueOf : GoodIn wsX11_goNight wsX11_dueOf := goodIn_r _ [9, 2, 14, 15, 16, 17, 18, 19, 20, 21, 22, 23, 24, 25, 26, 27, 28, 29, 30, 31, 32, 33] (by decide +kernel) (by decide +kernel)
set_option maxRecDepth 20000 in
theorem gX11_goNight_X11_dueOf : GoodIn wsX11_goNight (wsV RX11 158 RX11 yX11_dueOf wsX11_dueOf) := goodIn_app (goodIn_of _ (by decide +kernel)) ggX11_goNight_X11_dueOf
set_option maxRecDepth 20000 in
theorem ggX11_goNight_X11_oddsInAll : GoodIn wsX11_goNight wsX11_oddsInAll := goodIn_r _ [13, 2, 14, 15, 16, 17, 18, 19, 20, 21, 22, 23, 24, 25, 26, 27, 28, 29, 30, 31, 32, 33] (by decide +kernel) (by decide +kernel)
set_option maxRecDepth 20000 in
theorem gX11_goNight_X11_oddsInAll : GoodIn wsX11_goNight (wsV RX11 192 RX11 yX11_oddsInAll wsX11_oddsInAll) := goodIn_app (goodIn_of _ (by decide +kernel)) ggX11_goNight_X11_oddsInAll
theorem dX11_goNight_0 : decode cX11_goNight 0 = .ok (.iconst 0, 1) := by decide +kernel
theorem dX11_goNight_1 : decode cX11_goNight 1 = .ok (.istore_n 2, 1) := by decide +kernel
theorem dX11_goNight_2 : decode cX11_goNight 2 = .ok (.iload_n 2, 1) := by decide +kernel
theorem dX11_goNight_3 : decode cX11_goNight 3 = .ok (.sipush 999, 3) := by decide +kernel
theorem dX11_goNight_6 : decode cX11_goNight 6 = .ok (.if_icmp .gt 16, 3) := by decide +kernel
theorem dX11_goNight_9 : decode cX11_goNight 9 = .ok (.aload_n 0, 1) := by decide +kernel
theorem dX11_goNight_10 : decode cX11_goNight 10 = .ok (.getfield 32, 3) := by decide +kernel
theorem dX11_goNight_13 : decode cX11_goNight 13 = .ok (.iload_n 2, 1) := by decide +kernel
theorem dX11_goNight_14 : decode cX11_goNight 14 = .ok (.lconst 0, 1) := by decide +kernel
theorem dX11_goNight_15 : decode cX11_goNight 15 = .ok (.lastore, 1) := by decide +kernel
theorem dX11_goNight_16 : decode cX11_goNight 16 = .ok (.iinc 2 1, 3) := by decide +kernel
theorem dX11_goNight_19 : decode cX11_goNight 19 = .ok (.goto (-17), 3) := by decide +kernel
theorem dX11_goNight_22 : decode cX11_goNight 22 = .ok (.iconst 0, 1) := by decide +kernel
theorem dX11_goNight_23 : decode cX11_goNight 23 = .ok (.istore_n 2, 1) := by decide +kernel
theorem dX11_goNight_24 : decode cX11_goNight 24 = .ok (.iload_n 2, 1) := by decide +kernel
theorem dX11_goNight_25 : decode cX11_goNight 25 = .ok (.i2l, 1) := by decide +kernel
theorem dX11_goNight_26 : decode cX11_goNight 26 = .ok (.aload_n 0, 1) := by decide +kernel
theorem dX11_goNight_27 : decode cX11_goNight 27 = .ok (.getfield 7, 3) := by decide +kernel
theorem dX11_goNight_30 : decode cX11_goNight 30 = .ok (.iconst 4, 1) := by decide +kernel
theorem dX11_goNight_31 : decode cX11_goNight 31 = .ok (.laload, 1) := by decide +kernel
theorem dX11_goNight_32 : decode cX11_goNight 32 = .ok (.lcmp, 1) := by decide +kernel
theorem dX11_goNight_33 : decode cX11_goNight 33 = .ok (.ifCond .ge 121, 3) := by decide +kernel
theorem dX11_goNight_36 : decode cX11_goNight 36 = .ok (.aload_n 0, 1) := by decide +kernel
theorem dX11_goNight_37 : decode cX11_goNight 37 = .ok (.getfield 7, 3) := by decide +kernel
theorem dX11_goNight_40 : decode cX11_goNight 40 = .ok (.iconst 5, 1) := by decide +kernel
theorem dX11_goNight_41 : decode cX11_goNight 41 = .ok (.iload_n 2, 1) := by decide +kernel
theorem dX11_goNight_42 : decode cX11_goNight 42 = .ok (.iadd, 1) := by decide +kernel
theorem dX11_goNight_43 : decode cX11_goNight 43 = .ok (.laload, 1) := by decide +kernel
theorem dX11_goNight_44 : decode cX11_goNight 44 = .ok (.l2i, 1) := by decide +kernel
theorem dX11_goNight_45 : decode cX11_goNight 45 = .ok (.istore_n 3, 1) := by decide +kernel
theorem dX11_goNight_46 : decode cX11_goNight 46 = .ok (.iload_n 3, 1) := by decide +kernel
theorem dX11_goNight_47 : decode cX11_goNight 47 = .ok (.aload_n 0, 1) := by decide +kernel
theorem dX11_goNight_48 : decode cX11_goNight 48 = .ok (.getfield 7, 3) := by decide +kernel
theorem dX11_goNight_51 : decode cX11_goNight 51 = .ok (.iconst 1, 1) := by decide +kernel
theorem dX11_goNight_52 : decode cX11_goNight 52 = .ok (.laload, 1) := by decide +kernel
theorem dX11_goNight_53 : decode cX11_goNight 53 = .ok (.l2i, 1) := by decide +kernel
theorem dX11_goNight_54 : decode cX11_goNight 54 = .ok (.imul, 1) := by decide +kernel
theorem dX11_goNight_55 : decode cX11_goNight 55 = .ok (.istore 4, 2) := by decide +kernel
theorem dX11_goNight_57 : decode cX11_goNight 57 = .ok (.iload_n 3, 1) := by decide +kernel
theorem dX11_goNight_58 : decode cX11_goNight 58 = .ok (.ifCond .ne 7, 3) := by decide +kernel
theorem dX11_goNight_61 : decode cX11_goNight 61 = .ok (.iconst 0, 1) := by decide +kernel
theorem dX11_goNight_62 : decode cX11_goNight 62 = .ok (.goto 9, 3) := by decide +kernel
theorem dX11_goNight_65 : decode cX11_goNight 65 = .ok (.aload_n 0, 1) := by decide +kernel
theorem dX11_goNight_66 : decode cX11_goNight 66 = .ok (.iload_n 1, 1) := by decide +kernel
theorem dX11_goNight_67 : decode cX11_goNight 67 = .ok (.iload_n 3, 1) := by decide +kernel
theorem dX11_goNight_68 : decode cX11_goNight 68 = .ok (.invokevirtual 158, 3) := by decide +kernel
theorem dX11_goNight_71 : decode cX11_goNight 71 = .ok (.istore 5, 2) := by decide +kernel
theorem dX11_goNight_73 : decode cX11_goNight 73 = .ok (.iload 4, 2) := by decide +kernel
theorem dX11_goNight_75 : decode cX11_goNight 75 = .ok (.istore 6, 2) := by decide +kernel
theorem dX11_goNight_77 : decode cX11_goNight 77 = .ok (.iload 6, 2) := by decide +kernel
theorem dX11_goNight_79 : decode cX11_goNight 79 = .ok (.sipush 999, 3) := by decide +kernel
theorem dX11_goNight_82 : decode cX11_goNight 82 = .ok (.if_icmp .gt 66, 3) := by decide +kernel
theorem dX11_goNight_85 : decode cX11_goNight 85 = .ok (.iload 6, 2) := by decide +kernel
theorem dX11_goNight_87 : decode cX11_goNight 87 = .ok (.iload 4, 2) := by decide +kernel
theorem dX11_goNight_89 : decode cX11_goNight 89 = .ok (.isub, 1) := by decide +kernel
theorem dX11_goNight_90 : decode cX11_goNight 90 = .ok (.iload 5, 2) := by decide +kernel
theorem dX11_goNight_92 : decode cX11_goNight 92 = .ok (.iadd, 1) := by decide +kernel
theorem dX11_goNight_93 : decode cX11_goNight 93 = .ok (.sipush 999, 3) := by decide +kernel
theorem dX11_goNight_96 : decode cX11_goNight 96 = .ok (.if_icmp .le 9, 3) := by decide +kernel
theorem dX11_goNight_99 : decode cX11_goNight 99 = .ok (.sipush 999, 3) := by decide +kernel
theorem dX11_goNight_102 : decode cX11_goNight 102 = .ok (.goto 11, 3) := by decide +kernel
theorem dX11_goNight_105 : decode cX11_goNight 105 = .ok (.iload 6, 2) := by decide +kernel
theorem dX11_goNight_107 : decode cX11_goNight 107 = .ok (.iload 4, 2) := by decide +kernel
theorem dX11_goNight_109 : decode cX11_goNight 109 = .ok (.isub, 1) := by decide +kernel
theorem dX11_goNight_110 : decode cX11_goNight 110 = .ok (.iload 5, 2) := by decide +kernel
theorem dX11_goNight_112 : decode cX11_goNight 112 = .ok (.iadd, 1) := by decide +kernel
theorem dX11_goNight_113 : decode cX11_goNight 113 = .ok (.istore 7, 2) := by decide +kernel
theorem dX11_goNight_115 : decode cX11_goNight 115 = .ok (.aload_n 0, 1) := by decide +kernel
theorem dX11_goNight_116 : decode cX11_goNight 116 = .ok (.getfield 32, 3) := by decide +kernel
theorem dX11_goNight_119 : decode cX11_goNight 119 = .ok (.iload 7, 2) := by decide +kernel
theorem dX11_goNight_121 : decode cX11_goNight 121 = .ok (.dup2, 1) := by decide +kernel
theorem dX11_goNight_122 : decode cX11_goNight 122 = .ok (.laload, 1) := by decide +kernel
theorem dX11_goNight_123 : decode cX11_goNight 123 = .ok (.aload_n 0, 1) := by decide +kernel
theorem dX11_goNight_124 : decode cX11_goNight 124 = .ok (.getfield 29, 3) := by decide +kernel
theorem dX11_goNight_127 : decode cX11_goNight 127 = .ok (.iload 6, 2) := by decide +kernel
theorem dX11_goNight_129 : decode cX11_goNight 129 = .ok (.laload, 1) := by decide +kernel
theorem dX11_goNight_130 : decode cX11_goNight 130 = .ok (.aload_n 0, 1) := by decide +kernel
theorem dX11_goNight_131 : decode cX11_goNight 131 = .ok (.getfield 7, 3) := by decide +kernel
theorem dX11_goNight_134 : decode cX11_goNight 134 = .ok (.bipush 11, 2) := by decide +kernel
theorem dX11_goNight_136 : decode cX11_goNight 136 = .ok (.iload_n 2, 1) := by decide +kernel
theorem dX11_goNight_137 : decode cX11_goNight 137 = .ok (.iadd, 1) := by decide +kernel
theorem dX11_goNight_138 : decode cX11_goNight 138 = .ok (.laload, 1) := by decide +kernel
theorem dX11_goNight_139 : decode cX11_goNight 139 = .ok (.lmul, 1) := by decide +kernel
theorem dX11_goNight_140 : decode cX11_goNight 140 = .ok (.ladd, 1) := by decide +kernel
theorem dX11_goNight_141 : decode cX11_goNight 141 = .ok (.lastore, 1) := by decide +kernel
theorem dX11_goNight_142 : decode cX11_goNight 142 = .ok (.iinc 6 1, 3) := by decide +kernel
theorem dX11_goNight_145 : decode cX11_goNight 145 = .ok (.goto (-68), 3) := by decide +kernel
theorem dX11_goNight_148 : decode cX11_goNight 148 = .ok (.iinc 2 1, 3) := by decide +kernel
theorem dX11_goNight_151 : decode cX11_goNight 151 = .ok (.goto (-127), 3) := by decide +kernel
theorem dX11_goNight_154 : decode cX11_goNight 154 = .ok (.iconst 0, 1) := by decide +kernel
theorem dX11_goNight_155 : decode cX11_goNight 155 = .ok (.istore_n 2, 1) := by decide +kernel
theorem dX11_goNight_156 : decode cX11_goNight 156 = .ok (.iload_n 2, 1) := by decide +kernel
theorem dX11_goNight_157 : decode cX11_goNight 157 = .ok (.sipush 999, 3) := by decide +kernel
theorem dX11_goNight_160 : decode cX11_goNight 160 = .ok (.if_icmp .gt 21, 3) := by decide +kernel
theorem dX11_goNight_163 : decode cX11_goNight 163 = .ok (.aload_n 0, 1) := by decide +kernel
theorem dX11_goNight_164 : decode cX11_goNight 164 = .ok (.getfield 29, 3) := by decide +kernel
theorem dX11_goNight_167 : decode cX11_goNight 167 = .ok (.iload_n 2, 1) := by decide +kernel
theorem dX11_goNight_168 : decode cX11_goNight 168 = .ok (.aload_n 0, 1) := by decide +kernel
theorem dX11_goNight_169 : decode cX11_goNight 169 = .ok (.getfield 32, 3) := by decide +kernel
theorem dX11_goNight_172 : decode cX11_goNight 172 = .ok (.iload_n 2, 1) := by decide +kernel
theorem dX11_goNight_173 : decode cX11_goNight 173 = .ok (.laload, 1) := by decide +kernel
theorem dX11_goNight_174 : decode cX11_goNight 174 = .ok (.lastore, 1) := by decide +kernel
theorem dX11_goNight_175 : decode cX11_goNight 175 = .ok (.iinc 2 1, 3) := by decide +kernel
theorem dX11_goNight_178 : decode cX11_goNight 178 = .ok (.goto (-22), 3) := by decide +kernel
theorem dX11_goNight_181 : decode cX11_goNight 181 = .ok (.aload_n 0, 1) := by decide +kernel
theorem dX11_goNight_182 : decode cX11_goNight 182 = .ok (.dup, 1) := by decide +kernel
theorem dX11_goNight_183 : decode cX11_goNight 183 = .ok (.getfield 188, 3) := by decide +kernel
theorem dX11_goNight_186 : decode cX11_goNight 186 = .ok (.aload_n 0, 1) := by decide +kernel
theorem dX11_goNight_187 : decode cX11_goNight 187 = .ok (.invokevirtual 192, 3) := by decide +kernel
theorem dX11_goNight_190 : decode cX11_goNight 190 = .ok (.lmul, 1) := by decide +kernel
theorem dX11_goNight_191 : decode cX11_goNight 191 = .ok (.putfield 188, 3) := by decide +kernel
theorem dX11_goNight_194 : decode cX11_goNight 194 = .ok (.return_, 1) := by decide +kernel
set_option maxRecDepth 20000 in
theorem ggX11_safeWays_X11_goNight : GoodIn wsX11_safeWays wsX11_goNight := goodIn_r _ [7, 8, 9, 1, 2, 10, 11, 12, 6, 13, 14, 15, 16, 17, 18, 19, 20, 21, 22, 23, 24, 25, 26, 27, 28, 29, 30, 31, 32, 33, 34, 35, 36, 37] (by decide +kernel) (by decide +kernel)
set_option maxRecDepth 20000 in
theorem gX11_safeWays_X11_goNight : GoodIn wsX11_safeWays (wsV RX11 196 RX11 yX11_goNight wsX11_goNight) := goodIn_app (goodIn_of _ (by decide +kernel)) ggX11_safeWays_X11_goNight
theorem dX11_safeWays_0 : decode cX11_safeWays 0 = .ok (.iconst 0, 1) := by decide +kernel
theorem dX11_safeWays_1 : decode cX11_safeWays 1 = .ok (.istore 6, 2) := by decide +kernel
theorem dX11_safeWays_3 : decode cX11_safeWays 3 = .ok (.iload 6, 2) := by decide +kernel
theorem dX11_safeWays_5 : decode cX11_safeWays 5 = .ok (.sipush 999, 3) := by decide +kernel
theorem dX11_safeWays_8 : decode cX11_safeWays 8 = .ok (.if_icmp .gt 17, 3) := by decide +kernel
theorem dX11_safeWays_11 : decode cX11_safeWays 11 = .ok (.aload_n 0, 1) := by decide +kernel
theorem dX11_safeWays_12 : decode cX11_safeWays 12 = .ok (.getfield 29, 3) := by decide +kernel
theorem dX11_safeWays_15 : decode cX11_safeWays 15 = .ok (.iload 6, 2) := by decide +kernel
theorem dX11_safeWays_17 : decode cX11_safeWays 17 = .ok (.lconst 0, 1) := by decide +kernel
theorem dX11_safeWays_18 : decode cX11_safeWays 18 = .ok (.lastore, 1) := by decide +kernel
theorem dX11_safeWays_19 : decode cX11_safeWays 19 = .ok (.iinc 6 1, 3) := by decide +kernel
theorem dX11_safeWays_22 : decode cX11_safeWays 22 = .ok (.goto (-19), 3) := by decide +kernel
theorem dX11_safeWays_25 : decode cX11_safeWays 25 = .ok (.aload_n 0, 1) := by decide +kernel
theorem dX11_safeWays_26 : decode cX11_safeWays 26 = .ok (.getfield 29, 3) := by decide +kernel
theorem dX11_safeWays_29 : decode cX11_safeWays 29 = .ok (.iload_n 1, 1) := by decide +kernel
theorem dX11_safeWays_30 : decode cX11_safeWays 30 = .ok (.lconst 1, 1) := by decide +kernel
theorem dX11_safeWays_31 : decode cX11_safeWays 31 = .ok (.lastore, 1) := by decide +kernel
theorem dX11_safeWays_32 : decode cX11_safeWays 32 = .ok (.aload_n 0, 1) := by decide +kernel
theorem dX11_safeWays_33 : decode cX11_safeWays 33 = .ok (.lconst 1, 1) := by decide +kernel
theorem dX11_safeWays_34 : decode cX11_safeWays 34 = .ok (.putfield 188, 3) := by decide +kernel
theorem dX11_safeWays_37 : decode cX11_safeWays 37 = .ok (.iconst 1, 1) := by decide +kernel
theorem dX11_safeWays_38 : decode cX11_safeWays 38 = .ok (.istore 6, 2) := by decide +kernel
theorem dX11_safeWays_40 : decode cX11_safeWays 40 = .ok (.iload 6, 2) := by decide +kernel
theorem dX11_safeWays_42 : decode cX11_safeWays 42 = .ok (.iload_n 2, 1) := by decide +kernel
theorem dX11_safeWays_43 : decode cX11_safeWays 43 = .ok (.if_icmp .gt 86, 3) := by decide +kernel
theorem dX11_safeWays_46 : decode cX11_safeWays 46 = .ok (.sipush 999, 3) := by decide +kernel
theorem dX11_safeWays_49 : decode cX11_safeWays 49 = .ok (.istore 7, 2) := by decide +kernel
theorem dX11_safeWays_51 : decode cX11_safeWays 51 = .ok (.iload 7, 2) := by decide +kernel
theorem dX11_safeWays_53 : decode cX11_safeWays 53 = .ok (.ifCond .lt 65, 3) := by decide +kernel
theorem dX11_safeWays_56 : decode cX11_safeWays 56 = .ok (.iload 6, 2) := by decide +kernel
theorem dX11_safeWays_58 : decode cX11_safeWays 58 = .ok (.iload 4, 2) := by decide +kernel
theorem dX11_safeWays_60 : decode cX11_safeWays 60 = .ok (.if_icmp .ne 58, 3) := by decide +kernel
theorem dX11_safeWays_63 : decode cX11_safeWays 63 = .ok (.aload_n 0, 1) := by decide +kernel
theorem dX11_safeWays_64 : decode cX11_safeWays 64 = .ok (.getfield 29, 3) := by decide +kernel
theorem dX11_safeWays_67 : decode cX11_safeWays 67 = .ok (.iload 7, 2) := by decide +kernel
theorem dX11_safeWays_69 : decode cX11_safeWays 69 = .ok (.laload, 1) := by decide +kernel
theorem dX11_safeWays_70 : decode cX11_safeWays 70 = .ok (.lstore 8, 2) := by decide +kernel
theorem dX11_safeWays_72 : decode cX11_safeWays 72 = .ok (.aload_n 0, 1) := by decide +kernel
theorem dX11_safeWays_73 : decode cX11_safeWays 73 = .ok (.getfield 29, 3) := by decide +kernel
theorem dX11_safeWays_76 : decode cX11_safeWays 76 = .ok (.iload 7, 2) := by decide +kernel
theorem dX11_safeWays_78 : decode cX11_safeWays 78 = .ok (.lconst 0, 1) := by decide +kernel
theorem dX11_safeWays_79 : decode cX11_safeWays 79 = .ok (.lastore, 1) := by decide +kernel
theorem dX11_safeWays_80 : decode cX11_safeWays 80 = .ok (.aload_n 0, 1) := by decide +kernel
theorem dX11_safeWays_81 : decode cX11_safeWays 81 = .ok (.getfield 29, 3) := by decide +kernel
theorem dX11_safeWays_84 : decode cX11_safeWays 84 = .ok (.iload 7, 2) := by decide +kernel
theorem dX11_safeWays_86 : decode cX11_safeWays 86 = .ok (.iload 5, 2) := by decide +kernel
theorem dX11_safeWays_88 : decode cX11_safeWays 88 = .ok (.iadd, 1) := by decide +kernel
theorem dX11_safeWays_89 : decode cX11_safeWays 89 = .ok (.sipush 999, 3) := by decide +kernel
theorem dX11_safeWays_92 : decode cX11_safeWays 92 = .ok (.if_icmp .le 9, 3) := by decide +kernel
theorem dX11_safeWays_95 : decode cX11_safeWays 95 = .ok (.sipush 999, 3) := by decide +kernel
theorem dX11_safeWays_98 : decode cX11_safeWays 98 = .ok (.goto 8, 3) := by decide +kernel
theorem dX11_safeWays_101 : decode cX11_safeWays 101 = .ok (.iload 7, 2) := by decide +kernel
theorem dX11_safeWays_103 : decode cX11_safeWays 103 = .ok (.iload 5, 2) := by decide +kernel
theorem dX11_safeWays_105 : decode cX11_safeWays 105 = .ok (.iadd, 1) := by decide +kernel
theorem dX11_safeWays_106 : decode cX11_safeWays 106 = .ok (.dup2, 1) := by decide +kernel
theorem dX11_safeWays_107 : decode cX11_safeWays 107 = .ok (.laload, 1) := by decide +kernel
theorem dX11_safeWays_108 : decode cX11_safeWays 108 = .ok (.lload 8, 2) := by decide +kernel
theorem dX11_safeWays_110 : decode cX11_safeWays 110 = .ok (.ladd, 1) := by decide +kernel
theorem dX11_safeWays_111 : decode cX11_safeWays 111 = .ok (.lastore, 1) := by decide +kernel
theorem dX11_safeWays_112 : decode cX11_safeWays 112 = .ok (.iinc 7 (-1), 3) := by decide +kernel
theorem dX11_safeWays_115 : decode cX11_safeWays 115 = .ok (.goto (-64), 3) := by decide +kernel
theorem dX11_safeWays_118 : decode cX11_safeWays 118 = .ok (.aload_n 0, 1) := by decide +kernel
theorem dX11_safeWays_119 : decode cX11_safeWays 119 = .ok (.iload_n 3, 1) := by decide +kernel
theorem dX11_safeWays_120 : decode cX11_safeWays 120 = .ok (.invokevirtual 196, 3) := by decide +kernel
theorem dX11_safeWays_123 : decode cX11_safeWays 123 = .ok (.iinc 6 1, 3) := by decide +kernel
theorem dX11_safeWays_126 : decode cX11_safeWays 126 = .ok (.goto (-86), 3) := by decide +kernel
theorem dX11_safeWays_129 : decode cX11_safeWays 129 = .ok (.lconst 0, 1) := by decide +kernel
theorem dX11_safeWays_130 : decode cX11_safeWays 130 = .ok (.lstore 6, 2) := by decide +kernel
theorem dX11_safeWays_132 : decode cX11_safeWays 132 = .ok (.iconst 0, 1) := by decide +kernel
theorem dX11_safeWays_133 : decode cX11_safeWays 133 = .ok (.istore 8, 2) := by decide +kernel
theorem dX11_safeWays_135 : decode cX11_safeWays 135 = .ok (.iload 8, 2) := by decide +kernel
theorem dX11_safeWays_137 : decode cX11_safeWays 137 = .ok (.sipush 999, 3) := by decide +kernel
theorem dX11_safeWays_140 : decode cX11_safeWays 140 = .ok (.if_icmp .gt 21, 3) := by decide +kernel
theorem dX11_safeWays_143 : decode cX11_safeWays 143 = .ok (.lload 6, 2) := by decide +kernel
theorem dX11_safeWays_145 : decode cX11_safeWays 145 = .ok (.aload_n 0, 1) := by decide +kernel
theorem dX11_safeWays_146 : decode cX11_safeWays 146 = .ok (.getfield 29, 3) := by decide +kernel
theorem dX11_safeWays_149 : decode cX11_safeWays 149 = .ok (.iload 8, 2) := by decide +kernel
theorem dX11_safeWays_151 : decode cX11_safeWays 151 = .ok (.laload, 1) := by decide +kernel
theorem dX11_safeWays_152 : decode cX11_safeWays 152 = .ok (.ladd, 1) := by decide +kernel
theorem dX11_safeWays_153 : decode cX11_safeWays 153 = .ok (.lstore 6, 2) := by decide +kernel
theorem dX11_safeWays_155 : decode cX11_safeWays 155 = .ok (.iinc 8 1, 3) := by decide +kernel
theorem dX11_safeWays_158 : decode cX11_safeWays 158 = .ok (.goto (-23), 3) := by decide +kernel
theorem dX11_safeWays_161 : decode cX11_safeWays 161 = .ok (.lload 6, 2) := by decide +kernel
theorem dX11_safeWays_163 : decode cX11_safeWays 163 = .ok (.lreturn, 1) := by decide +kernel
set_option maxRecDepth 20000 in
theorem ggX11_safe_X11_isNone : GoodIn wsX11_safe wsX11_isNone := goodIn_r _ [13, 6, 38, 39, 40, 41, 42, 43, 44, 45, 46, 47, 48, 49, 50, 51, 52, 53, 54, 55, 56, 57] (by decide +kernel) (by decide +kernel)
set_option maxRecDepth 20000 in
theorem gX11_safe_X11_isNone : GoodIn wsX11_safe (wsV RX11 174 RX11 yX11_isNone wsX11_isNone) := goodIn_app (goodIn_of _ (by decide +kernel)) ggX11_safe_X11_isNone
set_option maxRecDepth 20000 in
theorem ggX11_safe_X11_in : GoodIn wsX11_safe wsX11_in := goodIn_r _ [16] (by decide +kernel) (by decide +kernel)
set_option maxRecDepth 20000 in
theorem gX11_safe_X11_in : GoodIn wsX11_safe (va_wsS RX11 46 yX11_in wsX11_in) := goodIn_app (goodIn_of _ (by decide +kernel)) ggX11_safe_X11_in
set_option maxRecDepth 20000 in
theorem ggX11_safe_X11_safeWays : GoodIn wsX11_safe wsX11_safeWays := goodIn_r _ [20, 21, 8, 22, 23, 24, 12, 25, 26, 6, 27, 28, 29, 30, 31, 32, 33, 34, 38, 39, 40, 41, 42, 43, 44, 45, 46, 47, 48, 49, 50, 51, 52, 53, 54, 55, 56, 57] (by decide +kernel) (by decide +kernel)
set_option maxRecDepth 20000 in
theorem gX11_safe_X11_safeWays : GoodIn wsX11_safe (wsV RX11 202 RX11 yX11_safeWays wsX11_safeWays) := goodIn_app (goodIn_of _ (by decide +kernel)) ggX11_safe_X11_safeWays
set_option maxRecDepth 20000 in
theorem ggX11_safe_X11_divisor : GoodIn wsX11_safe wsX11_divisor := goodIn_r _ [37] (by decide +kernel) (by decide +kernel)
set_option maxRecDepth 20000 in
theorem gX11_safe_X11_divisor : GoodIn wsX11_safe (va_wsS RX11 206 yX11_divisor wsX11_divisor) := goodIn_app (goodIn_of _ (by decide +kernel)) ggX11_safe_X11_divisor
theorem dX11_safe_0 : decode cX11_safe 0 = .ok (.aload_n 0, 1) := by decide +kernel
theorem dX11_safe_1 : decode cX11_safe 1 = .ok (.invokevirtual 174, 3) := by decide +kernel
theorem dX11_safe_4 : decode cX11_safe 4 = .ok (.ifCond .eq 7, 3) := by decide +kernel
theorem dX11_safe_7 : decode cX11_safe 7 = .ok (.ldc2_w 178, 3) := by decide +kernel
theorem dX11_safe_10 : decode cX11_safe 10 = .ok (.lreturn, 1) := by decide +kernel
theorem dX11_safe_11 : decode cX11_safe 11 = .ok (.iload_n 1, 1) := by decide +kernel
theorem dX11_safe_12 : decode cX11_safe 12 = .ok (.i2l, 1) := by decide +kernel
theorem dX11_safe_13 : decode cX11_safe 13 = .ok (.lconst 0, 1) := by decide +kernel
theorem dX11_safe_14 : decode cX11_safe 14 = .ok (.ldc2_w 164, 3) := by decide +kernel
theorem dX11_safe_17 : decode cX11_safe 17 = .ok (.invokestatic 46, 3) := by decide +kernel
theorem dX11_safe_20 : decode cX11_safe 20 = .ok (.ifCond .eq 38, 3) := by decide +kernel
theorem dX11_safe_23 : decode cX11_safe 23 = .ok (.iload_n 2, 1) := by decide +kernel
theorem dX11_safe_24 : decode cX11_safe 24 = .ok (.i2l, 1) := by decide +kernel
theorem dX11_safe_25 : decode cX11_safe 25 = .ok (.lconst 1, 1) := by decide +kernel
theorem dX11_safe_26 : decode cX11_safe 26 = .ok (.ldc2_w 74, 3) := by decide +kernel
theorem dX11_safe_29 : decode cX11_safe 29 = .ok (.invokestatic 46, 3) := by decide +kernel
theorem dX11_safe_32 : decode cX11_safe 32 = .ok (.ifCond .eq 26, 3) := by decide +kernel
theorem dX11_safe_35 : decode cX11_safe 35 = .ok (.iload_n 3, 1) := by decide +kernel
theorem dX11_safe_36 : decode cX11_safe 36 = .ok (.i2l, 1) := by decide +kernel
theorem dX11_safe_37 : decode cX11_safe 37 = .ok (.lconst 0, 1) := by decide +kernel
theorem dX11_safe_38 : decode cX11_safe 38 = .ok (.ldc2_w 54, 3) := by decide +kernel
theorem dX11_safe_41 : decode cX11_safe 41 = .ok (.invokestatic 46, 3) := by decide +kernel
theorem dX11_safe_44 : decode cX11_safe 44 = .ok (.ifCond .eq 14, 3) := by decide +kernel
theorem dX11_safe_47 : decode cX11_safe 47 = .ok (.iload 4, 2) := by decide +kernel
theorem dX11_safe_49 : decode cX11_safe 49 = .ok (.i2l, 1) := by decide +kernel
theorem dX11_safe_50 : decode cX11_safe 50 = .ok (.lconst 0, 1) := by decide +kernel
theorem dX11_safe_51 : decode cX11_safe 51 = .ok (.lconst 1, 1) := by decide +kernel
theorem dX11_safe_52 : decode cX11_safe 52 = .ok (.invokestatic 46, 3) := by decide +kernel
theorem dX11_safe_55 : decode cX11_safe 55 = .ok (.ifCond .ne 7, 3) := by decide +kernel
theorem dX11_safe_58 : decode cX11_safe 58 = .ok (.ldc2_w 56, 3) := by decide +kernel
theorem dX11_safe_61 : decode cX11_safe 61 = .ok (.lreturn, 1) := by decide +kernel
theorem dX11_safe_62 : decode cX11_safe 62 = .ok (.aload_n 0, 1) := by decide +kernel
theorem dX11_safe_63 : decode cX11_safe 63 = .ok (.getfield 7, 3) := by decide +kernel
theorem dX11_safe_66 : decode cX11_safe 66 = .ok (.iconst 4, 1) := by decide +kernel
theorem dX11_safe_67 : decode cX11_safe 67 = .ok (.laload, 1) := by decide +kernel
theorem dX11_safe_68 : decode cX11_safe 68 = .ok (.lconst 0, 1) := by decide +kernel
theorem dX11_safe_69 : decode cX11_safe 69 = .ok (.lcmp, 1) := by decide +kernel
theorem dX11_safe_70 : decode cX11_safe 70 = .ok (.ifCond .ne 7, 3) := by decide +kernel
theorem dX11_safe_73 : decode cX11_safe 73 = .ok (.ldc2_w 200, 3) := by decide +kernel
theorem dX11_safe_76 : decode cX11_safe 76 = .ok (.lreturn, 1) := by decide +kernel
theorem dX11_safe_77 : decode cX11_safe 77 = .ok (.aload_n 0, 1) := by decide +kernel
theorem dX11_safe_78 : decode cX11_safe 78 = .ok (.iload_n 1, 1) := by decide +kernel
theorem dX11_safe_79 : decode cX11_safe 79 = .ok (.iload_n 2, 1) := by decide +kernel
theorem dX11_safe_80 : decode cX11_safe 80 = .ok (.iload_n 3, 1) := by decide +kernel
theorem dX11_safe_81 : decode cX11_safe 81 = .ok (.iconst 0, 1) := by decide +kernel
theorem dX11_safe_82 : decode cX11_safe 82 = .ok (.iconst 0, 1) := by decide +kernel
theorem dX11_safe_83 : decode cX11_safe 83 = .ok (.invokevirtual 202, 3) := by decide +kernel
theorem dX11_safe_86 : decode cX11_safe 86 = .ok (.lstore 5, 2) := by decide +kernel
theorem dX11_safe_88 : decode cX11_safe 88 = .ok (.lload 5, 2) := by decide +kernel
theorem dX11_safe_90 : decode cX11_safe 90 = .ok (.lconst 0, 1) := by decide +kernel
theorem dX11_safe_91 : decode cX11_safe 91 = .ok (.lcmp, 1) := by decide +kernel
theorem dX11_safe_92 : decode cX11_safe 92 = .ok (.ifCond .ne 10, 3) := by decide +kernel
theorem dX11_safe_95 : decode cX11_safe 95 = .ok (.aload_n 0, 1) := by decide +kernel
theorem dX11_safe_96 : decode cX11_safe 96 = .ok (.getfield 188, 3) := by decide +kernel
theorem dX11_safe_99 : decode cX11_safe 99 = .ok (.goto 12, 3) := by decide +kernel
theorem dX11_safe_102 : decode cX11_safe 102 = .ok (.aload_n 0, 1) := by decide +kernel
theorem dX11_safe_103 : decode cX11_safe 103 = .ok (.getfield 188, 3) := by decide +kernel
theorem dX11_safe_106 : decode cX11_safe 106 = .ok (.lload 5, 2) := by decide +kernel
theorem dX11_safe_108 : decode cX11_safe 108 = .ok (.invokestatic 206, 3) := by decide +kernel
theorem dX11_safe_111 : decode cX11_safe 111 = .ok (.lstore 7, 2) := by decide +kernel
theorem dX11_safe_113 : decode cX11_safe 113 = .ok (.iload 4, 2) := by decide +kernel
theorem dX11_safe_115 : decode cX11_safe 115 = .ok (.ifCond .ne 11, 3) := by decide +kernel
theorem dX11_safe_118 : decode cX11_safe 118 = .ok (.lload 5, 2) := by decide +kernel
theorem dX11_safe_120 : decode cX11_safe 120 = .ok (.lload 7, 2) := by decide +kernel
theorem dX11_safe_122 : decode cX11_safe 122 = .ok (.ldiv, 1) := by decide +kernel
theorem dX11_safe_123 : decode cX11_safe 123 = .ok (.goto 10, 3) := by decide +kernel
theorem dX11_safe_126 : decode cX11_safe 126 = .ok (.aload_n 0, 1) := by decide +kernel
theorem dX11_safe_127 : decode cX11_safe 127 = .ok (.getfield 188, 3) := by decide +kernel
theorem dX11_safe_130 : decode cX11_safe 130 = .ok (.lload 7, 2) := by decide +kernel
theorem dX11_safe_132 : decode cX11_safe 132 = .ok (.ldiv, 1) := by decide +kernel
theorem dX11_safe_133 : decode cX11_safe 133 = .ok (.lreturn, 1) := by decide +kernel
set_option maxRecDepth 20000 in
theorem ggX11_stock_X11_isNone : GoodIn wsX11_stock wsX11_isNone := goodIn_r _ [13, 6, 35, 36, 37, 38, 39, 40, 41, 42, 43, 44, 45, 46, 47, 48, 49, 50, 51, 52, 53, 54] (by decide +kernel) (by decide +kernel)
set_option maxRecDepth 20000 in
theorem gX11_stock_X11_isNone : GoodIn wsX11_stock (wsV RX11 174 RX11 yX11_isNone wsX11_isNone) := goodIn_app (goodIn_of _ (by decide +kernel)) ggX11_stock_X11_isNone
set_option maxRecDepth 20000 in
theorem ggX11_stock_X11_in : GoodIn wsX11_stock wsX11_in := goodIn_r _ [16] (by decide +kernel) (by decide +kernel)
set_option maxRecDepth 20000 in
theorem gX11_stock_X11_in : GoodIn wsX11_stock (va_wsS RX11 46 yX11_in wsX11_in) := goodIn_app (goodIn_of _ (by decide +kernel)) ggX11_stock_X11_in
set_option maxRecDepth 20000 in
theorem ggX11_stock_X11_safeWays : GoodIn wsX11_stock wsX11_safeWays := goodIn_r _ [20, 21, 7, 22, 23, 24, 12, 25, 26, 6, 27, 28, 29, 30, 31, 32, 33, 34, 35, 36, 37, 38, 39, 40, 41, 42, 43, 44, 45, 46, 47, 48, 49, 50, 51, 52, 53, 54] (by decide +kernel) (by decide +kernel)
set_option maxRecDepth 20000 in
theorem gX11_stock_X11_safeWays : GoodIn wsX11_stock (wsV RX11 202 RX11 yX11_safeWays wsX11_safeWays) := goodIn_app (goodIn_of _ (by decide +kernel)) ggX11_stock_X11_safeWays
theorem dX11_stock_0 : decode cX11_stock 0 = .ok (.aload_n 0, 1) := by decide +kernel
theorem dX11_stock_1 : decode cX11_stock 1 = .ok (.invokevirtual 174, 3) := by decide +kernel
theorem dX11_stock_4 : decode cX11_stock 4 = .ok (.ifCond .eq 7, 3) := by decide +kernel
theorem dX11_stock_7 : decode cX11_stock 7 = .ok (.ldc2_w 178, 3) := by decide +kernel
theorem dX11_stock_10 : decode cX11_stock 10 = .ok (.lreturn, 1) := by decide +kernel
theorem dX11_stock_11 : decode cX11_stock 11 = .ok (.iload_n 1, 1) := by decide +kernel
theorem dX11_stock_12 : decode cX11_stock 12 = .ok (.i2l, 1) := by decide +kernel
theorem dX11_stock_13 : decode cX11_stock 13 = .ok (.lconst 1, 1) := by decide +kernel
theorem dX11_stock_14 : decode cX11_stock 14 = .ok (.ldc2_w 74, 3) := by decide +kernel
theorem dX11_stock_17 : decode cX11_stock 17 = .ok (.invokestatic 46, 3) := by decide +kernel
theorem dX11_stock_20 : decode cX11_stock 20 = .ok (.ifCond .eq 27, 3) := by decide +kernel
theorem dX11_stock_23 : decode cX11_stock 23 = .ok (.iload_n 2, 1) := by decide +kernel
theorem dX11_stock_24 : decode cX11_stock 24 = .ok (.i2l, 1) := by decide +kernel
theorem dX11_stock_25 : decode cX11_stock 25 = .ok (.lconst 0, 1) := by decide +kernel
theorem dX11_stock_26 : decode cX11_stock 26 = .ok (.ldc2_w 54, 3) := by decide +kernel
theorem dX11_stock_29 : decode cX11_stock 29 = .ok (.invokestatic 46, 3) := by decide +kernel
theorem dX11_stock_32 : decode cX11_stock 32 = .ok (.ifCond .eq 15, 3) := by decide +kernel
theorem dX11_stock_35 : decode cX11_stock 35 = .ok (.iload_n 3, 1) := by decide +kernel
theorem dX11_stock_36 : decode cX11_stock 36 = .ok (.i2l, 1) := by decide +kernel
theorem dX11_stock_37 : decode cX11_stock 37 = .ok (.lconst 0, 1) := by decide +kernel
theorem dX11_stock_38 : decode cX11_stock 38 = .ok (.ldc2_w 156, 3) := by decide +kernel
theorem dX11_stock_41 : decode cX11_stock 41 = .ok (.invokestatic 46, 3) := by decide +kernel
theorem dX11_stock_44 : decode cX11_stock 44 = .ok (.ifCond .ne 7, 3) := by decide +kernel
theorem dX11_stock_47 : decode cX11_stock 47 = .ok (.ldc2_w 56, 3) := by decide +kernel
theorem dX11_stock_50 : decode cX11_stock 50 = .ok (.lreturn, 1) := by decide +kernel
theorem dX11_stock_51 : decode cX11_stock 51 = .ok (.iconst 0, 1) := by decide +kernel
theorem dX11_stock_52 : decode cX11_stock 52 = .ok (.istore 4, 2) := by decide +kernel
theorem dX11_stock_54 : decode cX11_stock 54 = .ok (.iload 4, 2) := by decide +kernel
theorem dX11_stock_56 : decode cX11_stock 56 = .ok (.sipush 500, 3) := by decide +kernel
theorem dX11_stock_59 : decode cX11_stock 59 = .ok (.if_icmp .gt 49, 3) := by decide +kernel
theorem dX11_stock_62 : decode cX11_stock 62 = .ok (.aload_n 0, 1) := by decide +kernel
theorem dX11_stock_63 : decode cX11_stock 63 = .ok (.getfield 7, 3) := by decide +kernel
theorem dX11_stock_66 : decode cX11_stock 66 = .ok (.iconst 4, 1) := by decide +kernel
theorem dX11_stock_67 : decode cX11_stock 67 = .ok (.laload, 1) := by decide +kernel
theorem dX11_stock_68 : decode cX11_stock 68 = .ok (.lconst 0, 1) := by decide +kernel
theorem dX11_stock_69 : decode cX11_stock 69 = .ok (.lcmp, 1) := by decide +kernel
theorem dX11_stock_70 : decode cX11_stock 70 = .ok (.ifCond .le 38, 3) := by decide +kernel
theorem dX11_stock_73 : decode cX11_stock 73 = .ok (.ldc2_w 156, 3) := by decide +kernel
theorem dX11_stock_76 : decode cX11_stock 76 = .ok (.aload_n 0, 1) := by decide +kernel
theorem dX11_stock_77 : decode cX11_stock 77 = .ok (.iload 4, 2) := by decide +kernel
theorem dX11_stock_79 : decode cX11_stock 79 = .ok (.iload_n 1, 1) := by decide +kernel
theorem dX11_stock_80 : decode cX11_stock 80 = .ok (.iload_n 2, 1) := by decide +kernel
theorem dX11_stock_81 : decode cX11_stock 81 = .ok (.iconst 0, 1) := by decide +kernel
theorem dX11_stock_82 : decode cX11_stock 82 = .ok (.iconst 0, 1) := by decide +kernel
theorem dX11_stock_83 : decode cX11_stock 83 = .ok (.invokevirtual 202, 3) := by decide +kernel
theorem dX11_stock_86 : decode cX11_stock 86 = .ok (.lmul, 1) := by decide +kernel
theorem dX11_stock_87 : decode cX11_stock 87 = .ok (.iload_n 3, 1) := by decide +kernel
theorem dX11_stock_88 : decode cX11_stock 88 = .ok (.i2l, 1) := by decide +kernel
theorem dX11_stock_89 : decode cX11_stock 89 = .ok (.aload_n 0, 1) := by decide +kernel
theorem dX11_stock_90 : decode cX11_stock 90 = .ok (.getfield 188, 3) := by decide +kernel
theorem dX11_stock_93 : decode cX11_stock 93 = .ok (.lmul, 1) := by decide +kernel
theorem dX11_stock_94 : decode cX11_stock 94 = .ok (.lcmp, 1) := by decide +kernel
theorem dX11_stock_95 : decode cX11_stock 95 = .ok (.ifCond .lt 7, 3) := by decide +kernel
theorem dX11_stock_98 : decode cX11_stock 98 = .ok (.iload 4, 2) := by decide +kernel
theorem dX11_stock_100 : decode cX11_stock 100 = .ok (.i2l, 1) := by decide +kernel
theorem dX11_stock_101 : decode cX11_stock 101 = .ok (.lreturn, 1) := by decide +kernel
theorem dX11_stock_102 : decode cX11_stock 102 = .ok (.iinc 4 1, 3) := by decide +kernel
theorem dX11_stock_105 : decode cX11_stock 105 = .ok (.goto (-51), 3) := by decide +kernel
theorem dX11_stock_108 : decode cX11_stock 108 = .ok (.ldc2_w 200, 3) := by decide +kernel
theorem dX11_stock_111 : decode cX11_stock 111 = .ok (.lreturn, 1) := by decide +kernel
set_option maxRecDepth 20000 in
theorem ggX11_send_X11_isNone : GoodIn wsX11_send wsX11_isNone := goodIn_r _ [12, 5, 35, 36, 37, 38, 39, 40, 41, 42, 43, 44, 45, 46, 47, 48, 49, 50, 51, 52, 53, 54] (by decide +kernel) (by decide +kernel)
set_option maxRecDepth 20000 in
theorem gX11_send_X11_isNone : GoodIn wsX11_send (wsV RX11 174 RX11 yX11_isNone wsX11_isNone) := goodIn_app (goodIn_of _ (by decide +kernel)) ggX11_send_X11_isNone
set_option maxRecDepth 20000 in
theorem ggX11_send_X11_in : GoodIn wsX11_send wsX11_in := goodIn_r _ [15] (by decide +kernel) (by decide +kernel)
set_option maxRecDepth 20000 in
theorem gX11_send_X11_in : GoodIn wsX11_send (va_wsS RX11 46 yX11_in wsX11_in) := goodIn_app (goodIn_of _ (by decide +kernel)) ggX11_send_X11_in
set_option maxRecDepth 20000 in
theorem ggX11_send_X11_safeWays : GoodIn wsX11_send wsX11_safeWays := goodIn_r _ [19, 20, 21, 22, 23, 24, 11, 25, 26, 5, 27, 28, 29, 30, 31, 32, 33, 34, 35, 36, 37, 38, 39, 40, 41, 42, 43, 44, 45, 46, 47, 48, 49, 50, 51, 52, 53, 54] (by decide +kernel) (by decide +kernel)
set_option maxRecDepth 20000 in
theorem gX11_send_X11_safeWays : GoodIn wsX11_send (wsV RX11 202 RX11 yX11_safeWays wsX11_safeWays) := goodIn_app (goodIn_of _ (by decide +kernel)) ggX11_send_X11_safeWays
theorem dX11_send_0 : decode cX11_send 0 = .ok (.aload_n 0, 1) := by decide +kernel
theorem dX11_send_1 : decode cX11_send 1 = .ok (.invokevirtual 174, 3) := by decide +kernel
theorem dX11_send_4 : decode cX11_send 4 = .ok (.ifCond .eq 7, 3) := by decide +kernel
theorem dX11_send_7 : decode cX11_send 7 = .ok (.ldc2_w 178, 3) := by decide +kernel
theorem dX11_send_10 : decode cX11_send 10 = .ok (.lreturn, 1) := by decide +kernel
theorem dX11_send_11 : decode cX11_send 11 = .ok (.iload_n 1, 1) := by decide +kernel
theorem dX11_send_12 : decode cX11_send 12 = .ok (.i2l, 1) := by decide +kernel
theorem dX11_send_13 : decode cX11_send 13 = .ok (.lconst 1, 1) := by decide +kernel
theorem dX11_send_14 : decode cX11_send 14 = .ok (.ldc2_w 74, 3) := by decide +kernel
theorem dX11_send_17 : decode cX11_send 17 = .ok (.invokestatic 46, 3) := by decide +kernel
theorem dX11_send_20 : decode cX11_send 20 = .ok (.ifCond .eq 15, 3) := by decide +kernel
theorem dX11_send_23 : decode cX11_send 23 = .ok (.iload_n 2, 1) := by decide +kernel
theorem dX11_send_24 : decode cX11_send 24 = .ok (.i2l, 1) := by decide +kernel
theorem dX11_send_25 : decode cX11_send 25 = .ok (.lconst 1, 1) := by decide +kernel
theorem dX11_send_26 : decode cX11_send 26 = .ok (.ldc2_w 182, 3) := by decide +kernel
theorem dX11_send_29 : decode cX11_send 29 = .ok (.invokestatic 46, 3) := by decide +kernel
theorem dX11_send_32 : decode cX11_send 32 = .ok (.ifCond .ne 7, 3) := by decide +kernel
theorem dX11_send_35 : decode cX11_send 35 = .ok (.ldc2_w 56, 3) := by decide +kernel
theorem dX11_send_38 : decode cX11_send 38 = .ok (.lreturn, 1) := by decide +kernel
theorem dX11_send_39 : decode cX11_send 39 = .ok (.aload_n 0, 1) := by decide +kernel
theorem dX11_send_40 : decode cX11_send 40 = .ok (.getfield 7, 3) := by decide +kernel
theorem dX11_send_43 : decode cX11_send 43 = .ok (.iconst 4, 1) := by decide +kernel
theorem dX11_send_44 : decode cX11_send 44 = .ok (.laload, 1) := by decide +kernel
theorem dX11_send_45 : decode cX11_send 45 = .ok (.lconst 0, 1) := by decide +kernel
theorem dX11_send_46 : decode cX11_send 46 = .ok (.lcmp, 1) := by decide +kernel
theorem dX11_send_47 : decode cX11_send 47 = .ok (.ifCond .ne 7, 3) := by decide +kernel
theorem dX11_send_50 : decode cX11_send 50 = .ok (.ldc2_w 200, 3) := by decide +kernel
theorem dX11_send_53 : decode cX11_send 53 = .ok (.lreturn, 1) := by decide +kernel
theorem dX11_send_54 : decode cX11_send 54 = .ok (.iconst 0, 1) := by decide +kernel
theorem dX11_send_55 : decode cX11_send 55 = .ok (.istore_n 3, 1) := by decide +kernel
theorem dX11_send_56 : decode cX11_send 56 = .ok (.ldc2_w 210, 3) := by decide +kernel
theorem dX11_send_59 : decode cX11_send 59 = .ok (.lstore 4, 2) := by decide +kernel
theorem dX11_send_61 : decode cX11_send 61 = .ok (.iconst 1, 1) := by decide +kernel
theorem dX11_send_62 : decode cX11_send 62 = .ok (.istore 6, 2) := by decide +kernel
theorem dX11_send_64 : decode cX11_send 64 = .ok (.iload 6, 2) := by decide +kernel
theorem dX11_send_66 : decode cX11_send 66 = .ok (.iload_n 1, 1) := by decide +kernel
theorem dX11_send_67 : decode cX11_send 67 = .ok (.if_icmp .gt 65, 3) := by decide +kernel
theorem dX11_send_70 : decode cX11_send 70 = .ok (.aload_n 0, 1) := by decide +kernel
theorem dX11_send_71 : decode cX11_send 71 = .ok (.aload_n 0, 1) := by decide +kernel
theorem dX11_send_72 : decode cX11_send 72 = .ok (.getfield 7, 3) := by decide +kernel
theorem dX11_send_75 : decode cX11_send 75 = .ok (.iconst 0, 1) := by decide +kernel
theorem dX11_send_76 : decode cX11_send 76 = .ok (.laload, 1) := by decide +kernel
theorem dX11_send_77 : decode cX11_send 77 = .ok (.l2i, 1) := by decide +kernel
theorem dX11_send_78 : decode cX11_send 78 = .ok (.iload_n 1, 1) := by decide +kernel
theorem dX11_send_79 : decode cX11_send 79 = .ok (.aload_n 0, 1) := by decide +kernel
theorem dX11_send_80 : decode cX11_send 80 = .ok (.getfield 7, 3) := by decide +kernel
theorem dX11_send_83 : decode cX11_send 83 = .ok (.iconst 2, 1) := by decide +kernel
theorem dX11_send_84 : decode cX11_send 84 = .ok (.laload, 1) := by decide +kernel
theorem dX11_send_85 : decode cX11_send 85 = .ok (.l2i, 1) := by decide +kernel
theorem dX11_send_86 : decode cX11_send 86 = .ok (.iload 6, 2) := by decide +kernel
theorem dX11_send_88 : decode cX11_send 88 = .ok (.iload_n 2, 1) := by decide +kernel
theorem dX11_send_89 : decode cX11_send 89 = .ok (.invokevirtual 202, 3) := by decide +kernel
theorem dX11_send_92 : decode cX11_send 92 = .ok (.lstore 7, 2) := by decide +kernel
theorem dX11_send_94 : decode cX11_send 94 = .ok (.lload 7, 2) := by decide +kernel
theorem dX11_send_96 : decode cX11_send 96 = .ok (.lload 4, 2) := by decide +kernel
theorem dX11_send_98 : decode cX11_send 98 = .ok (.lcmp, 1) := by decide +kernel
theorem dX11_send_99 : decode cX11_send 99 = .ok (.ifCond .le 8, 3) := by decide +kernel
theorem dX11_send_102 : decode cX11_send 102 = .ok (.iload 6, 2) := by decide +kernel
theorem dX11_send_104 : decode cX11_send 104 = .ok (.goto 4, 3) := by decide +kernel
theorem dX11_send_107 : decode cX11_send 107 = .ok (.iload_n 3, 1) := by decide +kernel
theorem dX11_send_108 : decode cX11_send 108 = .ok (.istore_n 3, 1) := by decide +kernel
theorem dX11_send_109 : decode cX11_send 109 = .ok (.lload 7, 2) := by decide +kernel
theorem dX11_send_111 : decode cX11_send 111 = .ok (.lload 4, 2) := by decide +kernel
theorem dX11_send_113 : decode cX11_send 113 = .ok (.lcmp, 1) := by decide +kernel
theorem dX11_send_114 : decode cX11_send 114 = .ok (.ifCond .le 8, 3) := by decide +kernel
theorem dX11_send_117 : decode cX11_send 117 = .ok (.lload 7, 2) := by decide +kernel
theorem dX11_send_119 : decode cX11_send 119 = .ok (.goto 5, 3) := by decide +kernel
theorem dX11_send_122 : decode cX11_send 122 = .ok (.lload 4, 2) := by decide +kernel
theorem dX11_send_124 : decode cX11_send 124 = .ok (.lstore 4, 2) := by decide +kernel
theorem dX11_send_126 : decode cX11_send 126 = .ok (.iinc 6 1, 3) := by decide +kernel
theorem dX11_send_129 : decode cX11_send 129 = .ok (.goto (-65), 3) := by decide +kernel
theorem dX11_send_132 : decode cX11_send 132 = .ok (.iload_n 3, 1) := by decide +kernel
theorem dX11_send_133 : decode cX11_send 133 = .ok (.i2l, 1) := by decide +kernel
theorem dX11_send_134 : decode cX11_send 134 = .ok (.lreturn, 1) := by decide +kernel
set_option maxRecDepth 20000 in
theorem ggX11_areWithin_X11_in : GoodIn wsX11_areWithin wsX11_in := goodIn_r _ [6] (by decide +kernel) (by decide +kernel)
set_option maxRecDepth 20000 in
theorem gX11_areWithin_X11_in : GoodIn wsX11_areWithin (va_wsS RX11 46 yX11_in wsX11_in) := goodIn_app (goodIn_of _ (by decide +kernel)) ggX11_areWithin_X11_in
theorem dX11_areWithin_0 : decode cX11_areWithin 0 = .ok (.iconst 1, 1) := by decide +kernel
theorem dX11_areWithin_1 : decode cX11_areWithin 1 = .ok (.istore 6, 2) := by decide +kernel
theorem dX11_areWithin_3 : decode cX11_areWithin 3 = .ok (.iconst 0, 1) := by decide +kernel
theorem dX11_areWithin_4 : decode cX11_areWithin 4 = .ok (.istore 7, 2) := by decide +kernel
theorem dX11_areWithin_6 : decode cX11_areWithin 6 = .ok (.iload 7, 2) := by decide +kernel
theorem dX11_areWithin_8 : decode cX11_areWithin 8 = .ok (.iload_n 2, 1) := by decide +kernel
theorem dX11_areWithin_9 : decode cX11_areWithin 9 = .ok (.if_icmp .ge 81, 3) := by decide +kernel
theorem dX11_areWithin_12 : decode cX11_areWithin 12 = .ok (.iload 6, 2) := by decide +kernel
theorem dX11_areWithin_14 : decode cX11_areWithin 14 = .ok (.ifCond .eq 67, 3) := by decide +kernel
theorem dX11_areWithin_17 : decode cX11_areWithin 17 = .ok (.aload_n 0, 1) := by decide +kernel
theorem dX11_areWithin_18 : decode cX11_areWithin 18 = .ok (.getfield 13, 3) := by decide +kernel
theorem dX11_areWithin_21 : decode cX11_areWithin 21 = .ok (.bipush 40, 2) := by decide +kernel
theorem dX11_areWithin_23 : decode cX11_areWithin 23 = .ok (.iload_n 1, 1) := by decide +kernel
theorem dX11_areWithin_24 : decode cX11_areWithin 24 = .ok (.imul, 1) := by decide +kernel
theorem dX11_areWithin_25 : decode cX11_areWithin 25 = .ok (.iload 7, 2) := by decide +kernel
theorem dX11_areWithin_27 : decode cX11_areWithin 27 = .ok (.iadd, 1) := by decide +kernel
theorem dX11_areWithin_28 : decode cX11_areWithin 28 = .ok (.iaload, 1) := by decide +kernel
theorem dX11_areWithin_29 : decode cX11_areWithin 29 = .ok (.i2l, 1) := by decide +kernel
theorem dX11_areWithin_30 : decode cX11_areWithin 30 = .ok (.iload 5, 2) := by decide +kernel
theorem dX11_areWithin_32 : decode cX11_areWithin 32 = .ok (.ifCond .le 15, 3) := by decide +kernel
theorem dX11_areWithin_35 : decode cX11_areWithin 35 = .ok (.iload 7, 2) := by decide +kernel
theorem dX11_areWithin_37 : decode cX11_areWithin 37 = .ok (.iload 5, 2) := by decide +kernel
theorem dX11_areWithin_39 : decode cX11_areWithin 39 = .ok (.irem, 1) := by decide +kernel
theorem dX11_areWithin_40 : decode cX11_areWithin 40 = .ok (.ifCond .ne 7, 3) := by decide +kernel
theorem dX11_areWithin_43 : decode cX11_areWithin 43 = .ok (.lconst 1, 1) := by decide +kernel
theorem dX11_areWithin_44 : decode cX11_areWithin 44 = .ok (.goto 5, 3) := by decide +kernel
theorem dX11_areWithin_47 : decode cX11_areWithin 47 = .ok (.iload_n 3, 1) := by decide +kernel
theorem dX11_areWithin_48 : decode cX11_areWithin 48 = .ok (.i2l, 1) := by decide +kernel
theorem dX11_areWithin_49 : decode cX11_areWithin 49 = .ok (.iload 5, 2) := by decide +kernel
theorem dX11_areWithin_51 : decode cX11_areWithin 51 = .ok (.ifCond .le 17, 3) := by decide +kernel
theorem dX11_areWithin_54 : decode cX11_areWithin 54 = .ok (.iload 7, 2) := by decide +kernel
theorem dX11_areWithin_56 : decode cX11_areWithin 56 = .ok (.iload 5, 2) := by decide +kernel
theorem dX11_areWithin_58 : decode cX11_areWithin 58 = .ok (.irem, 1) := by decide +kernel
theorem dX11_areWithin_59 : decode cX11_areWithin 59 = .ok (.ifCond .ne 9, 3) := by decide +kernel
theorem dX11_areWithin_62 : decode cX11_areWithin 62 = .ok (.ldc2_w 184, 3) := by decide +kernel
theorem dX11_areWithin_65 : decode cX11_areWithin 65 = .ok (.goto 6, 3) := by decide +kernel
theorem dX11_areWithin_68 : decode cX11_areWithin 68 = .ok (.iload 4, 2) := by decide +kernel
theorem dX11_areWithin_70 : decode cX11_areWithin 70 = .ok (.i2l, 1) := by decide +kernel
theorem dX11_areWithin_71 : decode cX11_areWithin 71 = .ok (.invokestatic 46, 3) := by decide +kernel
theorem dX11_areWithin_74 : decode cX11_areWithin 74 = .ok (.ifCond .eq 7, 3) := by decide +kernel
theorem dX11_areWithin_77 : decode cX11_areWithin 77 = .ok (.iconst 1, 1) := by decide +kernel
theorem dX11_areWithin_78 : decode cX11_areWithin 78 = .ok (.goto 4, 3) := by decide +kernel
theorem dX11_areWithin_81 : decode cX11_areWithin 81 = .ok (.iconst 0, 1) := by decide +kernel
theorem dX11_areWithin_82 : decode cX11_areWithin 82 = .ok (.istore 6, 2) := by decide +kernel
theorem dX11_areWithin_84 : decode cX11_areWithin 84 = .ok (.iinc 7 1, 3) := by decide +kernel
theorem dX11_areWithin_87 : decode cX11_areWithin 87 = .ok (.goto (-81), 3) := by decide +kernel
theorem dX11_areWithin_90 : decode cX11_areWithin 90 = .ok (.iload 6, 2) := by decide +kernel
theorem dX11_areWithin_92 : decode cX11_areWithin 92 = .ok (.ireturn, 1) := by decide +kernel
set_option maxRecDepth 20000 in
theorem ggX11_broke_X11_isNone : GoodIn wsX11_broke wsX11_isNone := goodIn_r _ [11, 6, 42, 43, 44, 45, 46, 47, 48, 49, 50, 51, 52, 53, 54, 55, 56, 57, 58, 59, 60, 61] (by decide +kernel) (by decide +kernel)
set_option maxRecDepth 20000 in
theorem gX11_broke_X11_isNone : GoodIn wsX11_broke (wsV RX11 174 RX11 yX11_isNone wsX11_isNone) := goodIn_app (goodIn_of _ (by decide +kernel)) ggX11_broke_X11_isNone
set_option maxRecDepth 20000 in
theorem ggX11_broke_X11_isRow : GoodIn wsX11_broke wsX11_isRow := goodIn_r _ [15, 16, 17, 18, 10, 19] (by decide +kernel) (by decide +kernel)
set_option maxRecDepth 20000 in
theorem gX11_broke_X11_isRow : GoodIn wsX11_broke (wsV RX11 50 RX11 yX11_isRow wsX11_isRow) := goodIn_app (goodIn_of _ (by decide +kernel)) ggX11_broke_X11_isRow
set_option maxRecDepth 20000 in
theorem ggX11_broke_X11_in : GoodIn wsX11_broke wsX11_in := goodIn_r _ [19] (by decide +kernel) (by decide +kernel)
set_option maxRecDepth 20000 in
theorem gX11_broke_X11_in : GoodIn wsX11_broke (va_wsS RX11 46 yX11_in wsX11_in) := goodIn_app (goodIn_of _ (by decide +kernel)) ggX11_broke_X11_in
set_option maxRecDepth 20000 in
theorem ggX11_broke_X11_found : GoodIn wsX11_broke wsX11_found := goodIn_r _ [23, 24, 25, 42, 43, 44, 45, 46, 47, 48, 49, 50, 51, 52, 53, 54, 55, 56, 57, 58, 59, 60, 61] (by decide +kernel) (by decide +kernel)
set_option maxRecDepth 20000 in
theorem gX11_broke_X11_found : GoodIn wsX11_broke (wsV RX11 58 RX11 yX11_found wsX11_found) := goodIn_app (goodIn_of _ (by decide +kernel)) ggX11_broke_X11_found
set_option maxRecDepth 20000 in
theorem ggX11_broke_X11_areWithin : GoodIn wsX11_broke wsX11_areWithin := goodIn_r _ [29, 5, 30, 17, 18, 10, 19, 42, 43, 44, 45, 46, 47, 48, 49, 50, 51, 52, 53, 54, 55, 56, 57, 58, 59, 60, 61] (by decide +kernel) (by decide +kernel)
set_option maxRecDepth 20000 in
theorem gX11_broke_X11_areWithin : GoodIn wsX11_broke (wsV RX11 214 RX11 yX11_areWithin wsX11_areWithin) := goodIn_app (goodIn_of _ (by decide +kernel)) ggX11_broke_X11_areWithin
set_option maxRecDepth 20000 in
theorem ggX11_broke_X11_dueOf : GoodIn wsX11_broke wsX11_dueOf := goodIn_r _ [34, 6, 42, 43, 44, 45, 46, 47, 48, 49, 50, 51, 52, 53, 54, 55, 56, 57, 58, 59, 60, 61] (by decide +kernel) (by decide +kernel)
set_option maxRecDepth 20000 in
theorem gX11_broke_X11_dueOf : GoodIn wsX11_broke (wsV RX11 158 RX11 yX11_dueOf wsX11_dueOf) := goodIn_app (goodIn_of _ (by decide +kernel)) ggX11_broke_X11_dueOf
set_option maxRecDepth 20000 in
theorem ggX11_broke_X11_one : GoodIn wsX11_broke wsX11_one := goodIn_r _ [37] (by decide +kernel) (by decide +kernel)
set_option maxRecDepth 20000 in
theorem gX11_broke_X11_one : GoodIn wsX11_broke (va_wsS RX11 218 yX11_one wsX11_one) := goodIn_app (goodIn_of _ (by decide +kernel)) ggX11_broke_X11_one
set_option maxRecDepth 20000 in
theorem ggX11_broke_X11_good : GoodIn wsX11_broke wsX11_good := goodIn_r _ [41, 24, 42, 43, 44, 45, 46, 47, 48, 49, 50, 51, 52, 53, 54, 55, 56, 57, 58, 59, 60, 61] (by decide +kernel) (by decide +kernel)
set_option maxRecDepth 20000 in
theorem gX11_broke_X11_good : GoodIn wsX11_broke (wsV RX11 62 RX11 yX11_good wsX11_good) := goodIn_app (goodIn_of _ (by decide +kernel)) ggX11_broke_X11_good
theorem dX11_broke_0 : decode cX11_broke 0 = .ok (.aload_n 0, 1) := by decide +kernel
theorem dX11_broke_1 : decode cX11_broke 1 = .ok (.invokevirtual 174, 3) := by decide +kernel
theorem dX11_broke_4 : decode cX11_broke 4 = .ok (.ifCond .eq 7, 3) := by decide +kernel
theorem dX11_broke_7 : decode cX11_broke 7 = .ok (.ldc2_w 178, 3) := by decide +kernel
theorem dX11_broke_10 : decode cX11_broke 10 = .ok (.lreturn, 1) := by decide +kernel
theorem dX11_broke_11 : decode cX11_broke 11 = .ok (.aload_n 0, 1) := by decide +kernel
theorem dX11_broke_12 : decode cX11_broke 12 = .ok (.iload_n 1, 1) := by decide +kernel
theorem dX11_broke_13 : decode cX11_broke 13 = .ok (.invokevirtual 50, 3) := by decide +kernel
theorem dX11_broke_16 : decode cX11_broke 16 = .ok (.ifCond .eq 25, 3) := by decide +kernel
theorem dX11_broke_19 : decode cX11_broke 19 = .ok (.iload_n 2, 1) := by decide +kernel
theorem dX11_broke_20 : decode cX11_broke 20 = .ok (.i2l, 1) := by decide +kernel
theorem dX11_broke_21 : decode cX11_broke 21 = .ok (.lconst 1, 1) := by decide +kernel
theorem dX11_broke_22 : decode cX11_broke 22 = .ok (.ldc2_w 212, 3) := by decide +kernel
theorem dX11_broke_25 : decode cX11_broke 25 = .ok (.invokestatic 46, 3) := by decide +kernel
theorem dX11_broke_28 : decode cX11_broke 28 = .ok (.ifCond .eq 13, 3) := by decide +kernel
theorem dX11_broke_31 : decode cX11_broke 31 = .ok (.iload_n 3, 1) := by decide +kernel
theorem dX11_broke_32 : decode cX11_broke 32 = .ok (.i2l, 1) := by decide +kernel
theorem dX11_broke_33 : decode cX11_broke 33 = .ok (.lconst 0, 1) := by decide +kernel
theorem dX11_broke_34 : decode cX11_broke 34 = .ok (.lconst 1, 1) := by decide +kernel
theorem dX11_broke_35 : decode cX11_broke 35 = .ok (.invokestatic 46, 3) := by decide +kernel
theorem dX11_broke_38 : decode cX11_broke 38 = .ok (.ifCond .ne 7, 3) := by decide +kernel
theorem dX11_broke_41 : decode cX11_broke 41 = .ok (.ldc2_w 56, 3) := by decide +kernel
theorem dX11_broke_44 : decode cX11_broke 44 = .ok (.lreturn, 1) := by decide +kernel
theorem dX11_broke_45 : decode cX11_broke 45 = .ok (.aload_n 0, 1) := by decide +kernel
theorem dX11_broke_46 : decode cX11_broke 46 = .ok (.getfield 20, 3) := by decide +kernel
theorem dX11_broke_49 : decode cX11_broke 49 = .ok (.iload_n 1, 1) := by decide +kernel
theorem dX11_broke_50 : decode cX11_broke 50 = .ok (.iaload, 1) := by decide +kernel
theorem dX11_broke_51 : decode cX11_broke 51 = .ok (.ifCond .ge 9, 3) := by decide +kernel
theorem dX11_broke_54 : decode cX11_broke 54 = .ok (.aload_n 0, 1) := by decide +kernel
theorem dX11_broke_55 : decode cX11_broke 55 = .ok (.iconst 1, 1) := by decide +kernel
theorem dX11_broke_56 : decode cX11_broke 56 = .ok (.invokevirtual 58, 3) := by decide +kernel
theorem dX11_broke_59 : decode cX11_broke 59 = .ok (.lreturn, 1) := by decide +kernel
theorem dX11_broke_60 : decode cX11_broke 60 = .ok (.iconst 3, 1) := by decide +kernel
theorem dX11_broke_61 : decode cX11_broke 61 = .ok (.iload_n 2, 1) := by decide +kernel
theorem dX11_broke_62 : decode cX11_broke 62 = .ok (.imul, 1) := by decide +kernel
theorem dX11_broke_63 : decode cX11_broke 63 = .ok (.aload_n 0, 1) := by decide +kernel
theorem dX11_broke_64 : decode cX11_broke 64 = .ok (.getfield 20, 3) := by decide +kernel
theorem dX11_broke_67 : decode cX11_broke 67 = .ok (.iload_n 1, 1) := by decide +kernel
theorem dX11_broke_68 : decode cX11_broke 68 = .ok (.iaload, 1) := by decide +kernel
theorem dX11_broke_69 : decode cX11_broke 69 = .ok (.if_icmp .le 9, 3) := by decide +kernel
theorem dX11_broke_72 : decode cX11_broke 72 = .ok (.aload_n 0, 1) := by decide +kernel
theorem dX11_broke_73 : decode cX11_broke 73 = .ok (.iconst 2, 1) := by decide +kernel
theorem dX11_broke_74 : decode cX11_broke 74 = .ok (.invokevirtual 58, 3) := by decide +kernel
theorem dX11_broke_77 : decode cX11_broke 77 = .ok (.lreturn, 1) := by decide +kernel
theorem dX11_broke_78 : decode cX11_broke 78 = .ok (.aload_n 0, 1) := by decide +kernel
theorem dX11_broke_79 : decode cX11_broke 79 = .ok (.iload_n 1, 1) := by decide +kernel
theorem dX11_broke_80 : decode cX11_broke 80 = .ok (.iconst 3, 1) := by decide +kernel
theorem dX11_broke_81 : decode cX11_broke 81 = .ok (.iload_n 2, 1) := by decide +kernel
theorem dX11_broke_82 : decode cX11_broke 82 = .ok (.imul, 1) := by decide +kernel
theorem dX11_broke_83 : decode cX11_broke 83 = .ok (.iconst 0, 1) := by decide +kernel
theorem dX11_broke_84 : decode cX11_broke 84 = .ok (.sipush 999, 3) := by decide +kernel
theorem dX11_broke_87 : decode cX11_broke 87 = .ok (.iconst 3, 1) := by decide +kernel
theorem dX11_broke_88 : decode cX11_broke 88 = .ok (.invokevirtual 214, 3) := by decide +kernel
theorem dX11_broke_91 : decode cX11_broke 91 = .ok (.ifCond .ne 7, 3) := by decide +kernel
theorem dX11_broke_94 : decode cX11_broke 94 = .ok (.ldc2_w 56, 3) := by decide +kernel
theorem dX11_broke_97 : decode cX11_broke 97 = .ok (.lreturn, 1) := by decide +kernel
theorem dX11_broke_98 : decode cX11_broke 98 = .ok (.lconst 0, 1) := by decide +kernel
theorem dX11_broke_99 : decode cX11_broke 99 = .ok (.lstore 4, 2) := by decide +kernel
theorem dX11_broke_101 : decode cX11_broke 101 = .ok (.lconst 0, 1) := by decide +kernel
theorem dX11_broke_102 : decode cX11_broke 102 = .ok (.lstore 6, 2) := by decide +kernel
theorem dX11_broke_104 : decode cX11_broke 104 = .ok (.iconst 0, 1) := by decide +kernel
theorem dX11_broke_105 : decode cX11_broke 105 = .ok (.istore 8, 2) := by decide +kernel
theorem dX11_broke_107 : decode cX11_broke 107 = .ok (.iload 8, 2) := by decide +kernel
theorem dX11_broke_109 : decode cX11_broke 109 = .ok (.iload_n 2, 1) := by decide +kernel
theorem dX11_broke_110 : decode cX11_broke 110 = .ok (.if_icmp .ge 145, 3) := by decide +kernel
theorem dX11_broke_113 : decode cX11_broke 113 = .ok (.aload_n 0, 1) := by decide +kernel
theorem dX11_broke_114 : decode cX11_broke 114 = .ok (.getfield 13, 3) := by decide +kernel
theorem dX11_broke_117 : decode cX11_broke 117 = .ok (.bipush 40, 2) := by decide +kernel
theorem dX11_broke_119 : decode cX11_broke 119 = .ok (.iload_n 1, 1) := by decide +kernel
theorem dX11_broke_120 : decode cX11_broke 120 = .ok (.imul, 1) := by decide +kernel
theorem dX11_broke_121 : decode cX11_broke 121 = .ok (.iconst 3, 1) := by decide +kernel
theorem dX11_broke_122 : decode cX11_broke 122 = .ok (.iload 8, 2) := by decide +kernel
theorem dX11_broke_124 : decode cX11_broke 124 = .ok (.imul, 1) := by decide +kernel
theorem dX11_broke_125 : decode cX11_broke 125 = .ok (.iadd, 1) := by decide +kernel
theorem dX11_broke_126 : decode cX11_broke 126 = .ok (.iaload, 1) := by decide +kernel
theorem dX11_broke_127 : decode cX11_broke 127 = .ok (.istore 9, 2) := by decide +kernel
theorem dX11_broke_129 : decode cX11_broke 129 = .ok (.aload_n 0, 1) := by decide +kernel
theorem dX11_broke_130 : decode cX11_broke 130 = .ok (.getfield 13, 3) := by decide +kernel
theorem dX11_broke_133 : decode cX11_broke 133 = .ok (.bipush 40, 2) := by decide +kernel
theorem dX11_broke_135 : decode cX11_broke 135 = .ok (.iload_n 1, 1) := by decide +kernel
theorem dX11_broke_136 : decode cX11_broke 136 = .ok (.imul, 1) := by decide +kernel
theorem dX11_broke_137 : decode cX11_broke 137 = .ok (.iconst 3, 1) := by decide +kernel
theorem dX11_broke_138 : decode cX11_broke 138 = .ok (.iload 8, 2) := by decide +kernel
theorem dX11_broke_140 : decode cX11_broke 140 = .ok (.imul, 1) := by decide +kernel
theorem dX11_broke_141 : decode cX11_broke 141 = .ok (.iadd, 1) := by decide +kernel
theorem dX11_broke_142 : decode cX11_broke 142 = .ok (.iconst 1, 1) := by decide +kernel
theorem dX11_broke_143 : decode cX11_broke 143 = .ok (.iadd, 1) := by decide +kernel
theorem dX11_broke_144 : decode cX11_broke 144 = .ok (.iaload, 1) := by decide +kernel
theorem dX11_broke_145 : decode cX11_broke 145 = .ok (.iload 9, 2) := by decide +kernel
theorem dX11_broke_147 : decode cX11_broke 147 = .ok (.aload_n 0, 1) := by decide +kernel
theorem dX11_broke_148 : decode cX11_broke 148 = .ok (.getfield 7, 3) := by decide +kernel
theorem dX11_broke_151 : decode cX11_broke 151 = .ok (.iconst 1, 1) := by decide +kernel
theorem dX11_broke_152 : decode cX11_broke 152 = .ok (.laload, 1) := by decide +kernel
theorem dX11_broke_153 : decode cX11_broke 153 = .ok (.l2i, 1) := by decide +kernel
theorem dX11_broke_154 : decode cX11_broke 154 = .ok (.imul, 1) := by decide +kernel
theorem dX11_broke_155 : decode cX11_broke 155 = .ok (.isub, 1) := by decide +kernel
theorem dX11_broke_156 : decode cX11_broke 156 = .ok (.istore 10, 2) := by decide +kernel
theorem dX11_broke_158 : decode cX11_broke 158 = .ok (.aload_n 0, 1) := by decide +kernel
theorem dX11_broke_159 : decode cX11_broke 159 = .ok (.getfield 13, 3) := by decide +kernel
theorem dX11_broke_162 : decode cX11_broke 162 = .ok (.bipush 40, 2) := by decide +kernel
theorem dX11_broke_164 : decode cX11_broke 164 = .ok (.iload_n 1, 1) := by decide +kernel
theorem dX11_broke_165 : decode cX11_broke 165 = .ok (.imul, 1) := by decide +kernel
theorem dX11_broke_166 : decode cX11_broke 166 = .ok (.iconst 3, 1) := by decide +kernel
theorem dX11_broke_167 : decode cX11_broke 167 = .ok (.iload 8, 2) := by decide +kernel
theorem dX11_broke_169 : decode cX11_broke 169 = .ok (.imul, 1) := by decide +kernel
theorem dX11_broke_170 : decode cX11_broke 170 = .ok (.iadd, 1) := by decide +kernel
theorem dX11_broke_171 : decode cX11_broke 171 = .ok (.iconst 2, 1) := by decide +kernel
theorem dX11_broke_172 : decode cX11_broke 172 = .ok (.iadd, 1) := by decide +kernel
theorem dX11_broke_173 : decode cX11_broke 173 = .ok (.iaload, 1) := by decide +kernel
theorem dX11_broke_174 : decode cX11_broke 174 = .ok (.iload 10, 2) := by decide +kernel
theorem dX11_broke_176 : decode cX11_broke 176 = .ok (.ifCond .le 8, 3) := by decide +kernel
theorem dX11_broke_179 : decode cX11_broke 179 = .ok (.iload 10, 2) := by decide +kernel
theorem dX11_broke_181 : decode cX11_broke 181 = .ok (.goto 4, 3) := by decide +kernel
theorem dX11_broke_184 : decode cX11_broke 184 = .ok (.iconst 0, 1) := by decide +kernel
theorem dX11_broke_185 : decode cX11_broke 185 = .ok (.isub, 1) := by decide +kernel
theorem dX11_broke_186 : decode cX11_broke 186 = .ok (.istore 11, 2) := by decide +kernel
theorem dX11_broke_188 : decode cX11_broke 188 = .ok (.aload_n 0, 1) := by decide +kernel
theorem dX11_broke_189 : decode cX11_broke 189 = .ok (.aload_n 0, 1) := by decide +kernel
theorem dX11_broke_190 : decode cX11_broke 190 = .ok (.getfield 7, 3) := by decide +kernel
theorem dX11_broke_193 : decode cX11_broke 193 = .ok (.iconst 2, 1) := by decide +kernel
theorem dX11_broke_194 : decode cX11_broke 194 = .ok (.laload, 1) := by decide +kernel
theorem dX11_broke_195 : decode cX11_broke 195 = .ok (.l2i, 1) := by decide +kernel
theorem dX11_broke_196 : decode cX11_broke 196 = .ok (.iload 9, 2) := by decide +kernel
theorem dX11_broke_198 : decode cX11_broke 198 = .ok (.invokevirtual 158, 3) := by decide +kernel
theorem dX11_broke_201 : decode cX11_broke 201 = .ok (.istore 12, 2) := by decide +kernel
theorem dX11_broke_203 : decode cX11_broke 203 = .ok (.lload 4, 2) := by decide +kernel
theorem dX11_broke_205 : decode cX11_broke 205 = .ok (.iload 11, 2) := by decide +kernel
theorem dX11_broke_207 : decode cX11_broke 207 = .ok (.iload 12, 2) := by decide +kernel
theorem dX11_broke_209 : decode cX11_broke 209 = .ok (.if_icmp .ge 7, 3) := by decide +kernel
theorem dX11_broke_212 : decode cX11_broke 212 = .ok (.iconst 1, 1) := by decide +kernel
theorem dX11_broke_213 : decode cX11_broke 213 = .ok (.goto 4, 3) := by decide +kernel
theorem dX11_broke_216 : decode cX11_broke 216 = .ok (.iconst 0, 1) := by decide +kernel
theorem dX11_broke_217 : decode cX11_broke 217 = .ok (.invokestatic 218, 3) := by decide +kernel
theorem dX11_broke_220 : decode cX11_broke 220 = .ok (.i2l, 1) := by decide +kernel
theorem dX11_broke_221 : decode cX11_broke 221 = .ok (.iload 8, 2) := by decide +kernel
theorem dX11_broke_223 : decode cX11_broke 223 = .ok (.lshl, 1) := by decide +kernel
theorem dX11_broke_224 : decode cX11_broke 224 = .ok (.lor, 1) := by decide +kernel
theorem dX11_broke_225 : decode cX11_broke 225 = .ok (.lstore 4, 2) := by decide +kernel
theorem dX11_broke_227 : decode cX11_broke 227 = .ok (.lload 6, 2) := by decide +kernel
theorem dX11_broke_229 : decode cX11_broke 229 = .ok (.iload 11, 2) := by decide +kernel
theorem dX11_broke_231 : decode cX11_broke 231 = .ok (.iload 12, 2) := by decide +kernel
theorem dX11_broke_233 : decode cX11_broke 233 = .ok (.if_icmp .ge 12, 3) := by decide +kernel
theorem dX11_broke_236 : decode cX11_broke 236 = .ok (.iload 12, 2) := by decide +kernel
theorem dX11_broke_238 : decode cX11_broke 238 = .ok (.iload 11, 2) := by decide +kernel
theorem dX11_broke_240 : decode cX11_broke 240 = .ok (.isub, 1) := by decide +kernel
theorem dX11_broke_241 : decode cX11_broke 241 = .ok (.i2l, 1) := by decide +kernel
theorem dX11_broke_242 : decode cX11_broke 242 = .ok (.goto 4, 3) := by decide +kernel
theorem dX11_broke_245 : decode cX11_broke 245 = .ok (.lconst 0, 1) := by decide +kernel
theorem dX11_broke_246 : decode cX11_broke 246 = .ok (.ladd, 1) := by decide +kernel
theorem dX11_broke_247 : decode cX11_broke 247 = .ok (.lstore 6, 2) := by decide +kernel
theorem dX11_broke_249 : decode cX11_broke 249 = .ok (.iinc 8 1, 3) := by decide +kernel
theorem dX11_broke_252 : decode cX11_broke 252 = .ok (.goto (-145), 3) := by decide +kernel
theorem dX11_broke_255 : decode cX11_broke 255 = .ok (.aload_n 0, 1) := by decide +kernel
theorem dX11_broke_256 : decode cX11_broke 256 = .ok (.iload_n 3, 1) := by decide +kernel
theorem dX11_broke_257 : decode cX11_broke 257 = .ok (.ifCond .ne 8, 3) := by decide +kernel
theorem dX11_broke_260 : decode cX11_broke 260 = .ok (.lload 4, 2) := by decide +kernel
theorem dX11_broke_262 : decode cX11_broke 262 = .ok (.goto 5, 3) := by decide +kernel
theorem dX11_broke_265 : decode cX11_broke 265 = .ok (.lload 6, 2) := by decide +kernel
theorem dX11_broke_267 : decode cX11_broke 267 = .ok (.invokevirtual 62, 3) := by decide +kernel
theorem dX11_broke_270 : decode cX11_broke 270 = .ok (.lreturn, 1) := by decide +kernel
set_option maxRecDepth 20000 in
theorem ggX11_lies_X11_isRow : GoodIn wsX11_lies wsX11_isRow := goodIn_r _ [10, 11, 12, 13, 9, 14] (by decide +kernel) (by decide +kernel)
set_option maxRecDepth 20000 in
theorem gX11_lies_X11_isRow : GoodIn wsX11_lies (wsV RX11 50 RX11 yX11_isRow wsX11_isRow) := goodIn_app (goodIn_of _ (by decide +kernel)) ggX11_lies_X11_isRow
set_option maxRecDepth 20000 in
theorem ggX11_lies_X11_in : GoodIn wsX11_lies wsX11_in := goodIn_r _ [14] (by decide +kernel) (by decide +kernel)
set_option maxRecDepth 20000 in
theorem gX11_lies_X11_in : GoodIn wsX11_lies (va_wsS RX11 46 yX11_in wsX11_in) := goodIn_app (goodIn_of _ (by decide +kernel)) ggX11_lies_X11_in
set_option maxRecDepth 20000 in
theorem ggX11_lies_X11_found : GoodIn wsX11_lies wsX11_found := goodIn_r _ [18, 19, 20, 33, 34, 35, 36, 37, 38, 39, 40, 41, 42, 43, 44, 45, 46, 47, 48, 49, 50, 51, 52] (by decide +kernel) (by decide +kernel)
set_option maxRecDepth 20000 in
theorem gX11_lies_X11_found : GoodIn wsX11_lies (wsV RX11 58 RX11 yX11_found wsX11_found) := goodIn_app (goodIn_of _ (by decide +kernel)) ggX11_lies_X11_found
set_option maxRecDepth 20000 in
theorem ggX11_lies_X11_areWithin : GoodIn wsX11_lies wsX11_areWithin := goodIn_r _ [24, 5, 25, 12, 13, 9, 14, 33, 34, 35, 36, 37, 38, 39, 40, 41, 42, 43, 44, 45, 46, 47, 48, 49, 50, 51, 52] (by decide +kernel) (by decide +kernel)
set_option maxRecDepth 20000 in
theorem gX11_lies_X11_areWithin : GoodIn wsX11_lies (wsV RX11 214 RX11 yX11_areWithin wsX11_areWithin) := goodIn_app (goodIn_of _ (by decide +kernel)) ggX11_lies_X11_areWithin
set_option maxRecDepth 20000 in
theorem ggX11_lies_X11_one : GoodIn wsX11_lies wsX11_one := goodIn_r _ [28] (by decide +kernel) (by decide +kernel)
set_option maxRecDepth 20000 in
theorem gX11_lies_X11_one : GoodIn wsX11_lies (va_wsS RX11 218 yX11_one wsX11_one) := goodIn_app (goodIn_of _ (by decide +kernel)) ggX11_lies_X11_one
set_option maxRecDepth 20000 in
theorem ggX11_lies_X11_good : GoodIn wsX11_lies wsX11_good := goodIn_r _ [32, 19, 33, 34, 35, 36, 37, 38, 39, 40, 41, 42, 43, 44, 45, 46, 47, 48, 49, 50, 51, 52] (by decide +kernel) (by decide +kernel)
set_option maxRecDepth 20000 in
theorem gX11_lies_X11_good : GoodIn wsX11_lies (wsV RX11 62 RX11 yX11_good wsX11_good) := goodIn_app (goodIn_of _ (by decide +kernel)) ggX11_lies_X11_good
theorem dX11_lies_0 : decode cX11_lies 0 = .ok (.aload_n 0, 1) := by decide +kernel
theorem dX11_lies_1 : decode cX11_lies 1 = .ok (.iload_n 1, 1) := by decide +kernel
theorem dX11_lies_2 : decode cX11_lies 2 = .ok (.invokevirtual 50, 3) := by decide +kernel
theorem dX11_lies_5 : decode cX11_lies 5 = .ok (.ifCond .eq 25, 3) := by decide +kernel
theorem dX11_lies_8 : decode cX11_lies 8 = .ok (.iload_n 2, 1) := by decide +kernel
theorem dX11_lies_9 : decode cX11_lies 9 = .ok (.i2l, 1) := by decide +kernel
theorem dX11_lies_10 : decode cX11_lies 10 = .ok (.lconst 1, 1) := by decide +kernel
theorem dX11_lies_11 : decode cX11_lies 11 = .ok (.ldc2_w 221, 3) := by decide +kernel
theorem dX11_lies_14 : decode cX11_lies 14 = .ok (.invokestatic 46, 3) := by decide +kernel
theorem dX11_lies_17 : decode cX11_lies 17 = .ok (.ifCond .eq 13, 3) := by decide +kernel
theorem dX11_lies_20 : decode cX11_lies 20 = .ok (.iload_n 3, 1) := by decide +kernel
theorem dX11_lies_21 : decode cX11_lies 21 = .ok (.i2l, 1) := by decide +kernel
theorem dX11_lies_22 : decode cX11_lies 22 = .ok (.lconst 0, 1) := by decide +kernel
theorem dX11_lies_23 : decode cX11_lies 23 = .ok (.lconst 1, 1) := by decide +kernel
theorem dX11_lies_24 : decode cX11_lies 24 = .ok (.invokestatic 46, 3) := by decide +kernel
theorem dX11_lies_27 : decode cX11_lies 27 = .ok (.ifCond .ne 7, 3) := by decide +kernel
theorem dX11_lies_30 : decode cX11_lies 30 = .ok (.ldc2_w 56, 3) := by decide +kernel
theorem dX11_lies_33 : decode cX11_lies 33 = .ok (.lreturn, 1) := by decide +kernel
theorem dX11_lies_34 : decode cX11_lies 34 = .ok (.aload_n 0, 1) := by decide +kernel
theorem dX11_lies_35 : decode cX11_lies 35 = .ok (.getfield 20, 3) := by decide +kernel
theorem dX11_lies_38 : decode cX11_lies 38 = .ok (.iload_n 1, 1) := by decide +kernel
theorem dX11_lies_39 : decode cX11_lies 39 = .ok (.iaload, 1) := by decide +kernel
theorem dX11_lies_40 : decode cX11_lies 40 = .ok (.ifCond .ge 9, 3) := by decide +kernel
theorem dX11_lies_43 : decode cX11_lies 43 = .ok (.aload_n 0, 1) := by decide +kernel
theorem dX11_lies_44 : decode cX11_lies 44 = .ok (.iconst 1, 1) := by decide +kernel
theorem dX11_lies_45 : decode cX11_lies 45 = .ok (.invokevirtual 58, 3) := by decide +kernel
theorem dX11_lies_48 : decode cX11_lies 48 = .ok (.lreturn, 1) := by decide +kernel
theorem dX11_lies_49 : decode cX11_lies 49 = .ok (.iconst 2, 1) := by decide +kernel
theorem dX11_lies_50 : decode cX11_lies 50 = .ok (.iload_n 2, 1) := by decide +kernel
theorem dX11_lies_51 : decode cX11_lies 51 = .ok (.imul, 1) := by decide +kernel
theorem dX11_lies_52 : decode cX11_lies 52 = .ok (.aload_n 0, 1) := by decide +kernel
theorem dX11_lies_53 : decode cX11_lies 53 = .ok (.getfield 20, 3) := by decide +kernel
theorem dX11_lies_56 : decode cX11_lies 56 = .ok (.iload_n 1, 1) := by decide +kernel
theorem dX11_lies_57 : decode cX11_lies 57 = .ok (.iaload, 1) := by decide +kernel
theorem dX11_lies_58 : decode cX11_lies 58 = .ok (.if_icmp .le 9, 3) := by decide +kernel
theorem dX11_lies_61 : decode cX11_lies 61 = .ok (.aload_n 0, 1) := by decide +kernel
theorem dX11_lies_62 : decode cX11_lies 62 = .ok (.iconst 2, 1) := by decide +kernel
theorem dX11_lies_63 : decode cX11_lies 63 = .ok (.invokevirtual 58, 3) := by decide +kernel
theorem dX11_lies_66 : decode cX11_lies 66 = .ok (.lreturn, 1) := by decide +kernel
theorem dX11_lies_67 : decode cX11_lies 67 = .ok (.aload_n 0, 1) := by decide +kernel
theorem dX11_lies_68 : decode cX11_lies 68 = .ok (.iload_n 1, 1) := by decide +kernel
theorem dX11_lies_69 : decode cX11_lies 69 = .ok (.iconst 2, 1) := by decide +kernel
theorem dX11_lies_70 : decode cX11_lies 70 = .ok (.iload_n 2, 1) := by decide +kernel
theorem dX11_lies_71 : decode cX11_lies 71 = .ok (.imul, 1) := by decide +kernel
theorem dX11_lies_72 : decode cX11_lies 72 = .ok (.iconst 0, 1) := by decide +kernel
theorem dX11_lies_73 : decode cX11_lies 73 = .ok (.sipush 999, 3) := by decide +kernel
theorem dX11_lies_76 : decode cX11_lies 76 = .ok (.iconst 0, 1) := by decide +kernel
theorem dX11_lies_77 : decode cX11_lies 77 = .ok (.invokevirtual 214, 3) := by decide +kernel
theorem dX11_lies_80 : decode cX11_lies 80 = .ok (.ifCond .ne 7, 3) := by decide +kernel
theorem dX11_lies_83 : decode cX11_lies 83 = .ok (.ldc2_w 56, 3) := by decide +kernel
theorem dX11_lies_86 : decode cX11_lies 86 = .ok (.lreturn, 1) := by decide +kernel
theorem dX11_lies_87 : decode cX11_lies 87 = .ok (.lconst 0, 1) := by decide +kernel
theorem dX11_lies_88 : decode cX11_lies 88 = .ok (.lstore 4, 2) := by decide +kernel
theorem dX11_lies_90 : decode cX11_lies 90 = .ok (.ldc 223, 2) := by decide +kernel
theorem dX11_lies_92 : decode cX11_lies 92 = .ok (.istore 6, 2) := by decide +kernel
theorem dX11_lies_94 : decode cX11_lies 94 = .ok (.iconst 0, 1) := by decide +kernel
theorem dX11_lies_95 : decode cX11_lies 95 = .ok (.istore 7, 2) := by decide +kernel
theorem dX11_lies_97 : decode cX11_lies 97 = .ok (.iconst 0, 1) := by decide +kernel
theorem dX11_lies_98 : decode cX11_lies 98 = .ok (.istore 8, 2) := by decide +kernel
theorem dX11_lies_100 : decode cX11_lies 100 = .ok (.iload 8, 2) := by decide +kernel
theorem dX11_lies_102 : decode cX11_lies 102 = .ok (.iload_n 2, 1) := by decide +kernel
theorem dX11_lies_103 : decode cX11_lies 103 = .ok (.if_icmp .ge 96, 3) := by decide +kernel
theorem dX11_lies_106 : decode cX11_lies 106 = .ok (.aload_n 0, 1) := by decide +kernel
theorem dX11_lies_107 : decode cX11_lies 107 = .ok (.getfield 13, 3) := by decide +kernel
theorem dX11_lies_110 : decode cX11_lies 110 = .ok (.bipush 40, 2) := by decide +kernel
theorem dX11_lies_112 : decode cX11_lies 112 = .ok (.iload_n 1, 1) := by decide +kernel
theorem dX11_lies_113 : decode cX11_lies 113 = .ok (.imul, 1) := by decide +kernel
theorem dX11_lies_114 : decode cX11_lies 114 = .ok (.iconst 2, 1) := by decide +kernel
theorem dX11_lies_115 : decode cX11_lies 115 = .ok (.iload 8, 2) := by decide +kernel
theorem dX11_lies_117 : decode cX11_lies 117 = .ok (.imul, 1) := by decide +kernel
theorem dX11_lies_118 : decode cX11_lies 118 = .ok (.iadd, 1) := by decide +kernel
theorem dX11_lies_119 : decode cX11_lies 119 = .ok (.iaload, 1) := by decide +kernel
theorem dX11_lies_120 : decode cX11_lies 120 = .ok (.aload_n 0, 1) := by decide +kernel
theorem dX11_lies_121 : decode cX11_lies 121 = .ok (.getfield 13, 3) := by decide +kernel
theorem dX11_lies_124 : decode cX11_lies 124 = .ok (.bipush 40, 2) := by decide +kernel
theorem dX11_lies_126 : decode cX11_lies 126 = .ok (.iload_n 1, 1) := by decide +kernel
theorem dX11_lies_127 : decode cX11_lies 127 = .ok (.imul, 1) := by decide +kernel
theorem dX11_lies_128 : decode cX11_lies 128 = .ok (.iconst 2, 1) := by decide +kernel
theorem dX11_lies_129 : decode cX11_lies 129 = .ok (.iload 8, 2) := by decide +kernel
theorem dX11_lies_131 : decode cX11_lies 131 = .ok (.imul, 1) := by decide +kernel
theorem dX11_lies_132 : decode cX11_lies 132 = .ok (.iadd, 1) := by decide +kernel
theorem dX11_lies_133 : decode cX11_lies 133 = .ok (.iconst 1, 1) := by decide +kernel
theorem dX11_lies_134 : decode cX11_lies 134 = .ok (.iadd, 1) := by decide +kernel
theorem dX11_lies_135 : decode cX11_lies 135 = .ok (.iaload, 1) := by decide +kernel
theorem dX11_lies_136 : decode cX11_lies 136 = .ok (.isub, 1) := by decide +kernel
theorem dX11_lies_137 : decode cX11_lies 137 = .ok (.istore 9, 2) := by decide +kernel
theorem dX11_lies_139 : decode cX11_lies 139 = .ok (.lload 4, 2) := by decide +kernel
theorem dX11_lies_141 : decode cX11_lies 141 = .ok (.iload 9, 2) := by decide +kernel
theorem dX11_lies_143 : decode cX11_lies 143 = .ok (.ifCond .le 7, 3) := by decide +kernel
theorem dX11_lies_146 : decode cX11_lies 146 = .ok (.iconst 1, 1) := by decide +kernel
theorem dX11_lies_147 : decode cX11_lies 147 = .ok (.goto 4, 3) := by decide +kernel
theorem dX11_lies_150 : decode cX11_lies 150 = .ok (.iconst 0, 1) := by decide +kernel
theorem dX11_lies_151 : decode cX11_lies 151 = .ok (.invokestatic 218, 3) := by decide +kernel
theorem dX11_lies_154 : decode cX11_lies 154 = .ok (.i2l, 1) := by decide +kernel
theorem dX11_lies_155 : decode cX11_lies 155 = .ok (.iload 8, 2) := by decide +kernel
theorem dX11_lies_157 : decode cX11_lies 157 = .ok (.lshl, 1) := by decide +kernel
theorem dX11_lies_158 : decode cX11_lies 158 = .ok (.lor, 1) := by decide +kernel
theorem dX11_lies_159 : decode cX11_lies 159 = .ok (.lstore 4, 2) := by decide +kernel
theorem dX11_lies_161 : decode cX11_lies 161 = .ok (.iload 9, 2) := by decide +kernel
theorem dX11_lies_163 : decode cX11_lies 163 = .ok (.iload 7, 2) := by decide +kernel
theorem dX11_lies_165 : decode cX11_lies 165 = .ok (.if_icmp .le 8, 3) := by decide +kernel
theorem dX11_lies_168 : decode cX11_lies 168 = .ok (.iload 8, 2) := by decide +kernel
theorem dX11_lies_170 : decode cX11_lies 170 = .ok (.goto 5, 3) := by decide +kernel
theorem dX11_lies_173 : decode cX11_lies 173 = .ok (.iload 6, 2) := by decide +kernel
theorem dX11_lies_175 : decode cX11_lies 175 = .ok (.istore 6, 2) := by decide +kernel
theorem dX11_lies_177 : decode cX11_lies 177 = .ok (.iload 9, 2) := by decide +kernel
theorem dX11_lies_179 : decode cX11_lies 179 = .ok (.iload 7, 2) := by decide +kernel
theorem dX11_lies_181 : decode cX11_lies 181 = .ok (.if_icmp .le 8, 3) := by decide +kernel
theorem dX11_lies_184 : decode cX11_lies 184 = .ok (.iload 9, 2) := by decide +kernel
theorem dX11_lies_186 : decode cX11_lies 186 = .ok (.goto 5, 3) := by decide +kernel
theorem dX11_lies_189 : decode cX11_lies 189 = .ok (.iload 7, 2) := by decide +kernel
theorem dX11_lies_191 : decode cX11_lies 191 = .ok (.istore 7, 2) := by decide +kernel
theorem dX11_lies_193 : decode cX11_lies 193 = .ok (.iinc 8 1, 3) := by decide +kernel
theorem dX11_lies_196 : decode cX11_lies 196 = .ok (.goto (-96), 3) := by decide +kernel
theorem dX11_lies_199 : decode cX11_lies 199 = .ok (.aload_n 0, 1) := by decide +kernel
theorem dX11_lies_200 : decode cX11_lies 200 = .ok (.iload_n 3, 1) := by decide +kernel
theorem dX11_lies_201 : decode cX11_lies 201 = .ok (.ifCond .ne 8, 3) := by decide +kernel
theorem dX11_lies_204 : decode cX11_lies 204 = .ok (.lload 4, 2) := by decide +kernel
theorem dX11_lies_206 : decode cX11_lies 206 = .ok (.goto 6, 3) := by decide +kernel
theorem dX11_lies_209 : decode cX11_lies 209 = .ok (.iload 6, 2) := by decide +kernel
theorem dX11_lies_211 : decode cX11_lies 211 = .ok (.i2l, 1) := by decide +kernel
theorem dX11_lies_212 : decode cX11_lies 212 = .ok (.invokevirtual 62, 3) := by decide +kernel
theorem dX11_lies_215 : decode cX11_lies 215 = .ok (.lreturn, 1) := by decide +kernel
set_option maxRecDepth 20000 in
theorem ggX11_carry_X11_isNone : GoodIn wsX11_carry wsX11_isNone := goodIn_r _ [12, 5, 35, 36, 37, 38, 39, 40, 41, 42, 43, 44, 45, 46, 47, 48, 49, 50, 51, 52, 53, 54] (by decide +kernel) (by decide +kernel)
set_option maxRecDepth 20000 in
theorem gX11_carry_X11_isNone : GoodIn wsX11_carry (wsV RX11 174 RX11 yX11_isNone wsX11_isNone) := goodIn_app (goodIn_of _ (by decide +kernel)) ggX11_carry_X11_isNone
set_option maxRecDepth 20000 in
theorem ggX11_carry_X11_in : GoodIn wsX11_carry wsX11_in := goodIn_r _ [15] (by decide +kernel) (by decide +kernel)
set_option maxRecDepth 20000 in
theorem gX11_carry_X11_in : GoodIn wsX11_carry (va_wsS RX11 46 yX11_in wsX11_in) := goodIn_app (goodIn_of _ (by decide +kernel)) ggX11_carry_X11_in
set_option maxRecDepth 20000 in
theorem ggX11_carry_X11_safeWays : GoodIn wsX11_carry wsX11_safeWays := goodIn_r _ [19, 20, 21, 22, 23, 24, 11, 25, 26, 5, 27, 28, 29, 30, 31, 32, 33, 34, 35, 36, 37, 38, 39, 40, 41, 42, 43, 44, 45, 46, 47, 48, 49, 50, 51, 52, 53, 54] (by decide +kernel) (by decide +kernel)
set_option maxRecDepth 20000 in
theorem gX11_carry_X11_safeWays : GoodIn wsX11_carry (wsV RX11 202 RX11 yX11_safeWays wsX11_safeWays) := goodIn_app (goodIn_of _ (by decide +kernel)) ggX11_carry_X11_safeWays
theorem dX11_carry_0 : decode cX11_carry 0 = .ok (.aload_n 0, 1) := by decide +kernel
theorem dX11_carry_1 : decode cX11_carry 1 = .ok (.invokevirtual 174, 3) := by decide +kernel
theorem dX11_carry_4 : decode cX11_carry 4 = .ok (.ifCond .eq 7, 3) := by decide +kernel
theorem dX11_carry_7 : decode cX11_carry 7 = .ok (.ldc2_w 178, 3) := by decide +kernel
theorem dX11_carry_10 : decode cX11_carry 10 = .ok (.lreturn, 1) := by decide +kernel
theorem dX11_carry_11 : decode cX11_carry 11 = .ok (.iload_n 1, 1) := by decide +kernel
theorem dX11_carry_12 : decode cX11_carry 12 = .ok (.i2l, 1) := by decide +kernel
theorem dX11_carry_13 : decode cX11_carry 13 = .ok (.lconst 0, 1) := by decide +kernel
theorem dX11_carry_14 : decode cX11_carry 14 = .ok (.ldc2_w 224, 3) := by decide +kernel
theorem dX11_carry_17 : decode cX11_carry 17 = .ok (.invokestatic 46, 3) := by decide +kernel
theorem dX11_carry_20 : decode cX11_carry 20 = .ok (.ifCond .eq 27, 3) := by decide +kernel
theorem dX11_carry_23 : decode cX11_carry 23 = .ok (.iload_n 2, 1) := by decide +kernel
theorem dX11_carry_24 : decode cX11_carry 24 = .ok (.i2l, 1) := by decide +kernel
theorem dX11_carry_25 : decode cX11_carry 25 = .ok (.lconst 0, 1) := by decide +kernel
theorem dX11_carry_26 : decode cX11_carry 26 = .ok (.ldc2_w 224, 3) := by decide +kernel
theorem dX11_carry_29 : decode cX11_carry 29 = .ok (.invokestatic 46, 3) := by decide +kernel
theorem dX11_carry_32 : decode cX11_carry 32 = .ok (.ifCond .eq 15, 3) := by decide +kernel
theorem dX11_carry_35 : decode cX11_carry 35 = .ok (.iload_n 3, 1) := by decide +kernel
theorem dX11_carry_36 : decode cX11_carry 36 = .ok (.i2l, 1) := by decide +kernel
theorem dX11_carry_37 : decode cX11_carry 37 = .ok (.lconst 1, 1) := by decide +kernel
theorem dX11_carry_38 : decode cX11_carry 38 = .ok (.ldc2_w 226, 3) := by decide +kernel
theorem dX11_carry_41 : decode cX11_carry 41 = .ok (.invokestatic 46, 3) := by decide +kernel
theorem dX11_carry_44 : decode cX11_carry 44 = .ok (.ifCond .ne 7, 3) := by decide +kernel
theorem dX11_carry_47 : decode cX11_carry 47 = .ok (.ldc2_w 56, 3) := by decide +kernel
theorem dX11_carry_50 : decode cX11_carry 50 = .ok (.lreturn, 1) := by decide +kernel
theorem dX11_carry_51 : decode cX11_carry 51 = .ok (.aload_n 0, 1) := by decide +kernel
theorem dX11_carry_52 : decode cX11_carry 52 = .ok (.getfield 7, 3) := by decide +kernel
theorem dX11_carry_55 : decode cX11_carry 55 = .ok (.iconst 4, 1) := by decide +kernel
theorem dX11_carry_56 : decode cX11_carry 56 = .ok (.laload, 1) := by decide +kernel
theorem dX11_carry_57 : decode cX11_carry 57 = .ok (.lconst 0, 1) := by decide +kernel
theorem dX11_carry_58 : decode cX11_carry 58 = .ok (.lcmp, 1) := by decide +kernel
theorem dX11_carry_59 : decode cX11_carry 59 = .ok (.ifCond .ne 7, 3) := by decide +kernel
theorem dX11_carry_62 : decode cX11_carry 62 = .ok (.ldc2_w 200, 3) := by decide +kernel
theorem dX11_carry_65 : decode cX11_carry 65 = .ok (.lreturn, 1) := by decide +kernel
theorem dX11_carry_66 : decode cX11_carry 66 = .ok (.iconst 0, 1) := by decide +kernel
theorem dX11_carry_67 : decode cX11_carry 67 = .ok (.istore 4, 2) := by decide +kernel
theorem dX11_carry_69 : decode cX11_carry 69 = .ok (.ldc2_w 210, 3) := by decide +kernel
theorem dX11_carry_72 : decode cX11_carry 72 = .ok (.lstore 5, 2) := by decide +kernel
theorem dX11_carry_74 : decode cX11_carry 74 = .ok (.iconst 0, 1) := by decide +kernel
theorem dX11_carry_75 : decode cX11_carry 75 = .ok (.istore 7, 2) := by decide +kernel
theorem dX11_carry_77 : decode cX11_carry 77 = .ok (.iconst 2, 1) := by decide +kernel
theorem dX11_carry_78 : decode cX11_carry 78 = .ok (.iload 7, 2) := by decide +kernel
theorem dX11_carry_80 : decode cX11_carry 80 = .ok (.imul, 1) := by decide +kernel
theorem dX11_carry_81 : decode cX11_carry 81 = .ok (.iload_n 1, 1) := by decide +kernel
theorem dX11_carry_82 : decode cX11_carry 82 = .ok (.if_icmp .gt 88, 3) := by decide +kernel
theorem dX11_carry_85 : decode cX11_carry 85 = .ok (.aload_n 0, 1) := by decide +kernel
theorem dX11_carry_86 : decode cX11_carry 86 = .ok (.iload_n 1, 1) := by decide +kernel
theorem dX11_carry_87 : decode cX11_carry 87 = .ok (.iconst 2, 1) := by decide +kernel
theorem dX11_carry_88 : decode cX11_carry 88 = .ok (.iload 7, 2) := by decide +kernel
theorem dX11_carry_90 : decode cX11_carry 90 = .ok (.imul, 1) := by decide +kernel
theorem dX11_carry_91 : decode cX11_carry 91 = .ok (.isub, 1) := by decide +kernel
theorem dX11_carry_92 : decode cX11_carry 92 = .ok (.iload_n 3, 1) := by decide +kernel
theorem dX11_carry_93 : decode cX11_carry 93 = .ok (.aload_n 0, 1) := by decide +kernel
theorem dX11_carry_94 : decode cX11_carry 94 = .ok (.getfield 7, 3) := by decide +kernel
theorem dX11_carry_97 : decode cX11_carry 97 = .ok (.iconst 2, 1) := by decide +kernel
theorem dX11_carry_98 : decode cX11_carry 98 = .ok (.laload, 1) := by decide +kernel
theorem dX11_carry_99 : decode cX11_carry 99 = .ok (.l2i, 1) := by decide +kernel
theorem dX11_carry_100 : decode cX11_carry 100 = .ok (.iconst 0, 1) := by decide +kernel
theorem dX11_carry_101 : decode cX11_carry 101 = .ok (.iconst 0, 1) := by decide +kernel
theorem dX11_carry_102 : decode cX11_carry 102 = .ok (.invokevirtual 202, 3) := by decide +kernel
theorem dX11_carry_105 : decode cX11_carry 105 = .ok (.lstore 8, 2) := by decide +kernel
theorem dX11_carry_107 : decode cX11_carry 107 = .ok (.lload 8, 2) := by decide +kernel
theorem dX11_carry_109 : decode cX11_carry 109 = .ok (.aload_n 0, 1) := by decide +kernel
theorem dX11_carry_110 : decode cX11_carry 110 = .ok (.iload_n 2, 1) := by decide +kernel
theorem dX11_carry_111 : decode cX11_carry 111 = .ok (.iload 7, 2) := by decide +kernel
theorem dX11_carry_113 : decode cX11_carry 113 = .ok (.iadd, 1) := by decide +kernel
theorem dX11_carry_114 : decode cX11_carry 114 = .ok (.iload_n 3, 1) := by decide +kernel
theorem dX11_carry_115 : decode cX11_carry 115 = .ok (.aload_n 0, 1) := by decide +kernel
theorem dX11_carry_116 : decode cX11_carry 116 = .ok (.getfield 7, 3) := by decide +kernel
theorem dX11_carry_119 : decode cX11_carry 119 = .ok (.iconst 2, 1) := by decide +kernel
theorem dX11_carry_120 : decode cX11_carry 120 = .ok (.laload, 1) := by decide +kernel
theorem dX11_carry_121 : decode cX11_carry 121 = .ok (.l2i, 1) := by decide +kernel
theorem dX11_carry_122 : decode cX11_carry 122 = .ok (.iconst 0, 1) := by decide +kernel
theorem dX11_carry_123 : decode cX11_carry 123 = .ok (.iconst 0, 1) := by decide +kernel
theorem dX11_carry_124 : decode cX11_carry 124 = .ok (.invokevirtual 202, 3) := by decide +kernel
theorem dX11_carry_127 : decode cX11_carry 127 = .ok (.lmul, 1) := by decide +kernel
theorem dX11_carry_128 : decode cX11_carry 128 = .ok (.lstore 10, 2) := by decide +kernel
theorem dX11_carry_130 : decode cX11_carry 130 = .ok (.lload 10, 2) := by decide +kernel
theorem dX11_carry_132 : decode cX11_carry 132 = .ok (.lload 5, 2) := by decide +kernel
theorem dX11_carry_134 : decode cX11_carry 134 = .ok (.lcmp, 1) := by decide +kernel
theorem dX11_carry_135 : decode cX11_carry 135 = .ok (.ifCond .le 8, 3) := by decide +kernel
theorem dX11_carry_138 : decode cX11_carry 138 = .ok (.iload 7, 2) := by decide +kernel
theorem dX11_carry_140 : decode cX11_carry 140 = .ok (.goto 5, 3) := by decide +kernel
theorem dX11_carry_143 : decode cX11_carry 143 = .ok (.iload 4, 2) := by decide +kernel
theorem dX11_carry_145 : decode cX11_carry 145 = .ok (.istore 4, 2) := by decide +kernel
theorem dX11_carry_147 : decode cX11_carry 147 = .ok (.lload 10, 2) := by decide +kernel
theorem dX11_carry_149 : decode cX11_carry 149 = .ok (.lload 5, 2) := by decide +kernel
theorem dX11_carry_151 : decode cX11_carry 151 = .ok (.lcmp, 1) := by decide +kernel
theorem dX11_carry_152 : decode cX11_carry 152 = .ok (.ifCond .le 8, 3) := by decide +kernel
theorem dX11_carry_155 : decode cX11_carry 155 = .ok (.lload 10, 2) := by decide +kernel
theorem dX11_carry_157 : decode cX11_carry 157 = .ok (.goto 5, 3) := by decide +kernel
theorem dX11_carry_160 : decode cX11_carry 160 = .ok (.lload 5, 2) := by decide +kernel
theorem dX11_carry_162 : decode cX11_carry 162 = .ok (.lstore 5, 2) := by decide +kernel
theorem dX11_carry_164 : decode cX11_carry 164 = .ok (.iinc 7 1, 3) := by decide +kernel
theorem dX11_carry_167 : decode cX11_carry 167 = .ok (.goto (-90), 3) := by decide +kernel
theorem dX11_carry_170 : decode cX11_carry 170 = .ok (.iload 4, 2) := by decide +kernel
theorem dX11_carry_172 : decode cX11_carry 172 = .ok (.i2l, 1) := by decide +kernel
theorem dX11_carry_173 : decode cX11_carry 173 = .ok (.lreturn, 1) := by decide +kernel
set_option maxRecDepth 20000 in
theorem ggX11_image_X11_in : GoodIn wsX11_image wsX11_in := goodIn_r _ [6] (by decide +kernel) (by decide +kernel)
set_option maxRecDepth 20000 in
theorem gX11_image_X11_in : GoodIn wsX11_image (va_wsS RX11 46 yX11_in wsX11_in) := goodIn_app (goodIn_of _ (by decide +kernel)) ggX11_image_X11_in
set_option maxRecDepth 20000 in
theorem ggX11_image_X11_isNone : GoodIn wsX11_image wsX11_isNone := goodIn_r _ [10, 11, 16, 17, 18, 19, 20, 21, 22, 23, 24, 25, 26, 27, 28, 29, 30, 31, 32, 33, 34, 35] (by decide +kernel) (by decide +kernel)
set_option maxRecDepth 20000 in
theorem gX11_image_X11_isNone : GoodIn wsX11_image (wsV RX11 174 RX11 yX11_isNone wsX11_isNone) := goodIn_app (goodIn_of _ (by decide +kernel)) ggX11_image_X11_isNone
set_option maxRecDepth 20000 in
theorem ggX11_image_X11_copyPass : GoodIn wsX11_image wsX11_copyPass := goodIn_r _ [15, 11, 16, 17, 18, 19, 20, 21, 22, 23, 24, 25, 26, 27, 28, 29, 30, 31, 32, 33, 34, 35] (by decide +kernel) (by decide +kernel)
set_option maxRecDepth 20000 in
theorem gX11_image_X11_copyPass : GoodIn wsX11_image (wsV RX11 150 RX11 yX11_copyPass wsX11_copyPass) := goodIn_app (goodIn_of _ (by decide +kernel)) ggX11_image_X11_copyPass
theorem dX11_image_0 : decode cX11_image 0 = .ok (.iload_n 1, 1) := by decide +kernel
theorem dX11_image_1 : decode cX11_image 1 = .ok (.i2l, 1) := by decide +kernel
theorem dX11_image_2 : decode cX11_image 2 = .ok (.lconst 0, 1) := by decide +kernel
theorem dX11_image_3 : decode cX11_image 3 = .ok (.lconst 1, 1) := by decide +kernel
theorem dX11_image_4 : decode cX11_image 4 = .ok (.invokestatic 46, 3) := by decide +kernel
theorem dX11_image_7 : decode cX11_image 7 = .ok (.ifCond .ne 7, 3) := by decide +kernel
theorem dX11_image_10 : decode cX11_image 10 = .ok (.ldc2_w 56, 3) := by decide +kernel
theorem dX11_image_13 : decode cX11_image 13 = .ok (.lreturn, 1) := by decide +kernel
theorem dX11_image_14 : decode cX11_image 14 = .ok (.aload_n 0, 1) := by decide +kernel
theorem dX11_image_15 : decode cX11_image 15 = .ok (.invokevirtual 174, 3) := by decide +kernel
theorem dX11_image_18 : decode cX11_image 18 = .ok (.ifCond .eq 7, 3) := by decide +kernel
theorem dX11_image_21 : decode cX11_image 21 = .ok (.ldc2_w 178, 3) := by decide +kernel
theorem dX11_image_24 : decode cX11_image 24 = .ok (.lreturn, 1) := by decide +kernel
theorem dX11_image_25 : decode cX11_image 25 = .ok (.aload_n 0, 1) := by decide +kernel
theorem dX11_image_26 : decode cX11_image 26 = .ok (.iconst 0, 1) := by decide +kernel
theorem dX11_image_27 : decode cX11_image 27 = .ok (.sipush 140, 3) := by decide +kernel
theorem dX11_image_30 : decode cX11_image 30 = .ok (.sipush 140, 3) := by decide +kernel
theorem dX11_image_33 : decode cX11_image 33 = .ok (.iload_n 1, 1) := by decide +kernel
theorem dX11_image_34 : decode cX11_image 34 = .ok (.imul, 1) := by decide +kernel
theorem dX11_image_35 : decode cX11_image 35 = .ok (.iadd, 1) := by decide +kernel
theorem dX11_image_36 : decode cX11_image 36 = .ok (.invokevirtual 150, 3) := by decide +kernel
theorem dX11_image_39 : decode cX11_image 39 = .ok (.lconst 1, 1) := by decide +kernel
theorem dX11_image_40 : decode cX11_image 40 = .ok (.lreturn, 1) := by decide +kernel
set_option maxRecDepth 20000 in
theorem ggX11_restore_X11_in : GoodIn wsX11_restore wsX11_in := goodIn_r _ [7] (by decide +kernel) (by decide +kernel)
set_option maxRecDepth 20000 in
theorem gX11_restore_X11_in : GoodIn wsX11_restore (va_wsS RX11 46 yX11_in wsX11_in) := goodIn_app (goodIn_of _ (by decide +kernel)) ggX11_restore_X11_in
set_option maxRecDepth 20000 in
theorem ggX11_restore_X11_copyPass : GoodIn wsX11_restore wsX11_copyPass := goodIn_r _ [11, 2, 12, 13, 14, 15, 16, 17, 18, 19, 20, 21, 22, 23, 24, 25, 26, 27, 28, 29, 30, 31] (by decide +kernel) (by decide +kernel)
set_option maxRecDepth 20000 in
theorem gX11_restore_X11_copyPass : GoodIn wsX11_restore (wsV RX11 150 RX11 yX11_copyPass wsX11_copyPass) := goodIn_app (goodIn_of _ (by decide +kernel)) ggX11_restore_X11_copyPass
theorem dX11_restore_0 : decode cX11_restore 0 = .ok (.iload_n 1, 1) := by decide +kernel
theorem dX11_restore_1 : decode cX11_restore 1 = .ok (.i2l, 1) := by decide +kernel
theorem dX11_restore_2 : decode cX11_restore 2 = .ok (.lconst 0, 1) := by decide +kernel
theorem dX11_restore_3 : decode cX11_restore 3 = .ok (.lconst 1, 1) := by decide +kernel
theorem dX11_restore_4 : decode cX11_restore 4 = .ok (.invokestatic 46, 3) := by decide +kernel
theorem dX11_restore_7 : decode cX11_restore 7 = .ok (.ifCond .ne 7, 3) := by decide +kernel
theorem dX11_restore_10 : decode cX11_restore 10 = .ok (.ldc2_w 56, 3) := by decide +kernel
theorem dX11_restore_13 : decode cX11_restore 13 = .ok (.lreturn, 1) := by decide +kernel
theorem dX11_restore_14 : decode cX11_restore 14 = .ok (.aload_n 0, 1) := by decide +kernel
theorem dX11_restore_15 : decode cX11_restore 15 = .ok (.getfield 7, 3) := by decide +kernel
theorem dX11_restore_18 : decode cX11_restore 18 = .ok (.sipush 140, 3) := by decide +kernel
theorem dX11_restore_21 : decode cX11_restore 21 = .ok (.sipush 140, 3) := by decide +kernel
theorem dX11_restore_24 : decode cX11_restore 24 = .ok (.iload_n 1, 1) := by decide +kernel
theorem dX11_restore_25 : decode cX11_restore 25 = .ok (.imul, 1) := by decide +kernel
theorem dX11_restore_26 : decode cX11_restore 26 = .ok (.iadd, 1) := by decide +kernel
theorem dX11_restore_27 : decode cX11_restore 27 = .ok (.sipush 132, 3) := by decide +kernel
theorem dX11_restore_30 : decode cX11_restore 30 = .ok (.iadd, 1) := by decide +kernel
theorem dX11_restore_31 : decode cX11_restore 31 = .ok (.laload, 1) := by decide +kernel
theorem dX11_restore_32 : decode cX11_restore 32 = .ok (.lconst 0, 1) := by decide +kernel
theorem dX11_restore_33 : decode cX11_restore 33 = .ok (.lcmp, 1) := by decide +kernel
theorem dX11_restore_34 : decode cX11_restore 34 = .ok (.ifCond .ne 7, 3) := by decide +kernel
theorem dX11_restore_37 : decode cX11_restore 37 = .ok (.ldc2_w 178, 3) := by decide +kernel
theorem dX11_restore_40 : decode cX11_restore 40 = .ok (.lreturn, 1) := by decide +kernel
theorem dX11_restore_41 : decode cX11_restore 41 = .ok (.aload_n 0, 1) := by decide +kernel
theorem dX11_restore_42 : decode cX11_restore 42 = .ok (.sipush 140, 3) := by decide +kernel
theorem dX11_restore_45 : decode cX11_restore 45 = .ok (.sipush 140, 3) := by decide +kernel
theorem dX11_restore_48 : decode cX11_restore 48 = .ok (.iload_n 1, 1) := by decide +kernel
theorem dX11_restore_49 : decode cX11_restore 49 = .ok (.imul, 1) := by decide +kernel
theorem dX11_restore_50 : decode cX11_restore 50 = .ok (.iadd, 1) := by decide +kernel
theorem dX11_restore_51 : decode cX11_restore 51 = .ok (.iconst 0, 1) := by decide +kernel
theorem dX11_restore_52 : decode cX11_restore 52 = .ok (.invokevirtual 150, 3) := by decide +kernel
theorem dX11_restore_55 : decode cX11_restore 55 = .ok (.lconst 1, 1) := by decide +kernel
theorem dX11_restore_56 : decode cX11_restore 56 = .ok (.lreturn, 1) := by decide +kernel
theorem dX11_kindOf_0 : decode cX11_kindOf 0 = .ok (.aload_n 0, 1) := by decide +kernel
theorem dX11_kindOf_1 : decode cX11_kindOf 1 = .ok (.getfield 7, 3) := by decide +kernel
theorem dX11_kindOf_4 : decode cX11_kindOf 4 = .ok (.bipush 34, 2) := by decide +kernel
theorem dX11_kindOf_6 : decode cX11_kindOf 6 = .ok (.iload_n 1, 1) := by decide +kernel
theorem dX11_kindOf_7 : decode cX11_kindOf 7 = .ok (.iadd, 1) := by decide +kernel
theorem dX11_kindOf_8 : decode cX11_kindOf 8 = .ok (.laload, 1) := by decide +kernel
theorem dX11_kindOf_9 : decode cX11_kindOf 9 = .ok (.l2i, 1) := by decide +kernel
theorem dX11_kindOf_10 : decode cX11_kindOf 10 = .ok (.istore_n 2, 1) := by decide +kernel
theorem dX11_kindOf_11 : decode cX11_kindOf 11 = .ok (.iload_n 2, 1) := by decide +kernel
theorem dX11_kindOf_12 : decode cX11_kindOf 12 = .ok (.ifCond .ne 25, 3) := by decide +kernel
theorem dX11_kindOf_15 : decode cX11_kindOf 15 = .ok (.aload_n 0, 1) := by decide +kernel
theorem dX11_kindOf_16 : decode cX11_kindOf 16 = .ok (.getfield 7, 3) := by decide +kernel
theorem dX11_kindOf_19 : decode cX11_kindOf 19 = .ok (.bipush 18, 2) := by decide +kernel
theorem dX11_kindOf_21 : decode cX11_kindOf 21 = .ok (.iload_n 1, 1) := by decide +kernel
theorem dX11_kindOf_22 : decode cX11_kindOf 22 = .ok (.iadd, 1) := by decide +kernel
theorem dX11_kindOf_23 : decode cX11_kindOf 23 = .ok (.laload, 1) := by decide +kernel
theorem dX11_kindOf_24 : decode cX11_kindOf 24 = .ok (.lconst 1, 1) := by decide +kernel
theorem dX11_kindOf_25 : decode cX11_kindOf 25 = .ok (.lcmp, 1) := by decide +kernel
theorem dX11_kindOf_26 : decode cX11_kindOf 26 = .ok (.ifCond .ne 7, 3) := by decide +kernel
theorem dX11_kindOf_29 : decode cX11_kindOf 29 = .ok (.iconst 5, 1) := by decide +kernel
theorem dX11_kindOf_30 : decode cX11_kindOf 30 = .ok (.goto 26, 3) := by decide +kernel
theorem dX11_kindOf_33 : decode cX11_kindOf 33 = .ok (.iconst 1, 1) := by decide +kernel
theorem dX11_kindOf_34 : decode cX11_kindOf 34 = .ok (.goto 22, 3) := by decide +kernel
theorem dX11_kindOf_37 : decode cX11_kindOf 37 = .ok (.iload_n 2, 1) := by decide +kernel
theorem dX11_kindOf_38 : decode cX11_kindOf 38 = .ok (.iconst 1, 1) := by decide +kernel
theorem dX11_kindOf_39 : decode cX11_kindOf 39 = .ok (.if_icmp .ne 7, 3) := by decide +kernel
theorem dX11_kindOf_42 : decode cX11_kindOf 42 = .ok (.iconst 2, 1) := by decide +kernel
theorem dX11_kindOf_43 : decode cX11_kindOf 43 = .ok (.goto 13, 3) := by decide +kernel
theorem dX11_kindOf_46 : decode cX11_kindOf 46 = .ok (.iload_n 2, 1) := by decide +kernel
theorem dX11_kindOf_47 : decode cX11_kindOf 47 = .ok (.iconst 2, 1) := by decide +kernel
theorem dX11_kindOf_48 : decode cX11_kindOf 48 = .ok (.if_icmp .ne 7, 3) := by decide +kernel
theorem dX11_kindOf_51 : decode cX11_kindOf 51 = .ok (.iconst 3, 1) := by decide +kernel
theorem dX11_kindOf_52 : decode cX11_kindOf 52 = .ok (.goto 4, 3) := by decide +kernel
theorem dX11_kindOf_55 : decode cX11_kindOf 55 = .ok (.iconst 4, 1) := by decide +kernel
theorem dX11_kindOf_56 : decode cX11_kindOf 56 = .ok (.ireturn, 1) := by decide +kernel
set_option maxRecDepth 20000 in
theorem ggX11_kind_X11_isParty : GoodIn wsX11_kind wsX11_isParty := goodIn_r _ [6, 7, 8, 9, 5, 10, 15, 16, 17, 18, 19, 20, 21, 22, 23, 24, 25, 26, 27, 28, 29, 30, 31, 32, 33, 34] (by decide +kernel) (by decide +kernel)
set_option maxRecDepth 20000 in
theorem gX11_kind_X11_isParty : GoodIn wsX11_kind (wsV RX11 166 RX11 yX11_isParty wsX11_isParty) := goodIn_app (goodIn_of _ (by decide +kernel)) ggX11_kind_X11_isParty
set_option maxRecDepth 20000 in
theorem ggX11_kind_X11_kindOf : GoodIn wsX11_kind wsX11_kindOf := goodIn_r _ [14, 7, 15, 16, 17, 18, 19, 20, 21, 22, 23, 24, 25, 26, 27, 28, 29, 30, 31, 32, 33, 34] (by decide +kernel) (by decide +kernel)
set_option maxRecDepth 20000 in
theorem gX11_kind_X11_kindOf : GoodIn wsX11_kind (wsV RX11 228 RX11 yX11_kindOf wsX11_kindOf) := goodIn_app (goodIn_of _ (by decide +kernel)) ggX11_kind_X11_kindOf
theorem dX11_kind_0 : decode cX11_kind 0 = .ok (.aload_n 0, 1) := by decide +kernel
theorem dX11_kind_1 : decode cX11_kind 1 = .ok (.iload_n 1, 1) := by decide +kernel
theorem dX11_kind_2 : decode cX11_kind 2 = .ok (.i2l, 1) := by decide +kernel
theorem dX11_kind_3 : decode cX11_kind 3 = .ok (.invokevirtual 166, 3) := by decide +kernel
theorem dX11_kind_6 : decode cX11_kind 6 = .ok (.ifCond .eq 12, 3) := by decide +kernel
theorem dX11_kind_9 : decode cX11_kind 9 = .ok (.aload_n 0, 1) := by decide +kernel
theorem dX11_kind_10 : decode cX11_kind 10 = .ok (.iload_n 1, 1) := by decide +kernel
theorem dX11_kind_11 : decode cX11_kind 11 = .ok (.invokevirtual 228, 3) := by decide +kernel
theorem dX11_kind_14 : decode cX11_kind 14 = .ok (.i2l, 1) := by decide +kernel
theorem dX11_kind_15 : decode cX11_kind 15 = .ok (.goto 6, 3) := by decide +kernel
theorem dX11_kind_18 : decode cX11_kind 18 = .ok (.ldc2_w 56, 3) := by decide +kernel
theorem dX11_kind_21 : decode cX11_kind 21 = .ok (.lreturn, 1) := by decide +kernel
set_option maxRecDepth 20000 in
theorem ggX11_as_X11_isParty : GoodIn wsX11_as wsX11_isParty := goodIn_r _ [7, 8, 9, 10, 6, 11, 26, 27, 28, 29, 30, 31, 32, 33, 34, 35, 36, 37, 38, 39, 40, 41, 42, 43, 44, 45] (by decide +kernel) (by decide +kernel)
set_option maxRecDepth 20000 in
theorem gX11_as_X11_isParty : GoodIn wsX11_as (wsV RX11 166 RX11 yX11_isParty wsX11_isParty) := goodIn_app (goodIn_of _ (by decide +kernel)) ggX11_as_X11_isParty
set_option maxRecDepth 20000 in
theorem ggX11_as_X11_in : GoodIn wsX11_as wsX11_in := goodIn_r _ [11] (by decide +kernel) (by decide +kernel)
set_option maxRecDepth 20000 in
theorem gX11_as_X11_in : GoodIn wsX11_as (va_wsS RX11 46 yX11_in wsX11_in) := goodIn_app (goodIn_of _ (by decide +kernel)) ggX11_as_X11_in
set_option maxRecDepth 20000 in
theorem ggX11_as_X11_kindOf : GoodIn wsX11_as wsX11_kindOf := goodIn_r _ [15, 8, 26, 27, 28, 29, 30, 31, 32, 33, 34, 35, 36, 37, 38, 39, 40, 41, 42, 43, 44, 45] (by decide +kernel) (by decide +kernel)
set_option maxRecDepth 20000 in
theorem gX11_as_X11_kindOf : GoodIn wsX11_as (wsV RX11 228 RX11 yX11_kindOf wsX11_kindOf) := goodIn_app (goodIn_of _ (by decide +kernel)) ggX11_as_X11_kindOf
set_option maxRecDepth 20000 in
theorem ggX11_as_X11_good : GoodIn wsX11_as wsX11_good := goodIn_r _ [19, 20, 26, 27, 28, 29, 30, 31, 32, 33, 34, 35, 36, 37, 38, 39, 40, 41, 42, 43, 44, 45] (by decide +kernel) (by decide +kernel)
set_option maxRecDepth 20000 in
theorem gX11_as_X11_good : GoodIn wsX11_as (wsV RX11 62 RX11 yX11_good wsX11_good) := goodIn_app (goodIn_of _ (by decide +kernel)) ggX11_as_X11_good
set_option maxRecDepth 20000 in
theorem ggX11_as_X11_found : GoodIn wsX11_as wsX11_found := goodIn_r _ [24, 20, 25, 26, 27, 28, 29, 30, 31, 32, 33, 34, 35, 36, 37, 38, 39, 40, 41, 42, 43, 44, 45] (by decide +kernel) (by decide +kernel)
set_option maxRecDepth 20000 in
theorem gX11_as_X11_found : GoodIn wsX11_as (wsV RX11 58 RX11 yX11_found wsX11_found) := goodIn_app (goodIn_of _ (by decide +kernel)) ggX11_as_X11_found
theorem dX11_as_0 : decode cX11_as 0 = .ok (.aload_n 0, 1) := by decide +kernel
theorem dX11_as_1 : decode cX11_as 1 = .ok (.iload_n 1, 1) := by decide +kernel
theorem dX11_as_2 : decode cX11_as 2 = .ok (.i2l, 1) := by decide +kernel
theorem dX11_as_3 : decode cX11_as 3 = .ok (.invokevirtual 166, 3) := by decide +kernel
theorem dX11_as_6 : decode cX11_as 6 = .ok (.ifCond .eq 15, 3) := by decide +kernel
theorem dX11_as_9 : decode cX11_as 9 = .ok (.iload_n 2, 1) := by decide +kernel
theorem dX11_as_10 : decode cX11_as 10 = .ok (.i2l, 1) := by decide +kernel
theorem dX11_as_11 : decode cX11_as 11 = .ok (.lconst 0, 1) := by decide +kernel
theorem dX11_as_12 : decode cX11_as 12 = .ok (.ldc2_w 186, 3) := by decide +kernel
theorem dX11_as_15 : decode cX11_as 15 = .ok (.invokestatic 46, 3) := by decide +kernel
theorem dX11_as_18 : decode cX11_as 18 = .ok (.ifCond .ne 7, 3) := by decide +kernel
theorem dX11_as_21 : decode cX11_as 21 = .ok (.ldc2_w 56, 3) := by decide +kernel
theorem dX11_as_24 : decode cX11_as 24 = .ok (.lreturn, 1) := by decide +kernel
theorem dX11_as_25 : decode cX11_as 25 = .ok (.aload_n 0, 1) := by decide +kernel
theorem dX11_as_26 : decode cX11_as 26 = .ok (.iload_n 1, 1) := by decide +kernel
theorem dX11_as_27 : decode cX11_as 27 = .ok (.invokevirtual 228, 3) := by decide +kernel
theorem dX11_as_30 : decode cX11_as 30 = .ok (.istore_n 3, 1) := by decide +kernel
theorem dX11_as_31 : decode cX11_as 31 = .ok (.iload_n 2, 1) := by decide +kernel
theorem dX11_as_32 : decode cX11_as 32 = .ok (.ifCond .eq 23, 3) := by decide +kernel
theorem dX11_as_35 : decode cX11_as 35 = .ok (.iload_n 2, 1) := by decide +kernel
theorem dX11_as_36 : decode cX11_as 36 = .ok (.iload_n 3, 1) := by decide +kernel
theorem dX11_as_37 : decode cX11_as 37 = .ok (.if_icmp .eq 18, 3) := by decide +kernel
theorem dX11_as_40 : decode cX11_as 40 = .ok (.iload_n 2, 1) := by decide +kernel
theorem dX11_as_41 : decode cX11_as 41 = .ok (.iconst 1, 1) := by decide +kernel
theorem dX11_as_42 : decode cX11_as 42 = .ok (.if_icmp .ne 17, 3) := by decide +kernel
theorem dX11_as_45 : decode cX11_as 45 = .ok (.iload_n 3, 1) := by decide +kernel
theorem dX11_as_46 : decode cX11_as 46 = .ok (.iconst 2, 1) := by decide +kernel
theorem dX11_as_47 : decode cX11_as 47 = .ok (.if_icmp .eq 8, 3) := by decide +kernel
theorem dX11_as_50 : decode cX11_as 50 = .ok (.iload_n 3, 1) := by decide +kernel
theorem dX11_as_51 : decode cX11_as 51 = .ok (.iconst 5, 1) := by decide +kernel
theorem dX11_as_52 : decode cX11_as 52 = .ok (.if_icmp .ne 7, 3) := by decide +kernel
theorem dX11_as_55 : decode cX11_as 55 = .ok (.iconst 1, 1) := by decide +kernel
theorem dX11_as_56 : decode cX11_as 56 = .ok (.goto 4, 3) := by decide +kernel
theorem dX11_as_59 : decode cX11_as 59 = .ok (.iconst 0, 1) := by decide +kernel
theorem dX11_as_60 : decode cX11_as 60 = .ok (.istore 4, 2) := by decide +kernel
theorem dX11_as_62 : decode cX11_as 62 = .ok (.iload 4, 2) := by decide +kernel
theorem dX11_as_64 : decode cX11_as 64 = .ok (.ifCond .eq 12, 3) := by decide +kernel
theorem dX11_as_67 : decode cX11_as 67 = .ok (.aload_n 0, 1) := by decide +kernel
theorem dX11_as_68 : decode cX11_as 68 = .ok (.iload_n 1, 1) := by decide +kernel
theorem dX11_as_69 : decode cX11_as 69 = .ok (.i2l, 1) := by decide +kernel
theorem dX11_as_70 : decode cX11_as 70 = .ok (.invokevirtual 62, 3) := by decide +kernel
theorem dX11_as_73 : decode cX11_as 73 = .ok (.goto 8, 3) := by decide +kernel
theorem dX11_as_76 : decode cX11_as 76 = .ok (.aload_n 0, 1) := by decide +kernel
theorem dX11_as_77 : decode cX11_as 77 = .ok (.iconst 3, 1) := by decide +kernel
theorem dX11_as_78 : decode cX11_as 78 = .ok (.invokevirtual 58, 3) := by decide +kernel
theorem dX11_as_81 : decode cX11_as 81 = .ok (.lreturn, 1) := by decide +kernel
theorem dX11_leave_0 : decode cX11_leave 0 = .ok (.aload_n 0, 1) := by decide +kernel
theorem dX11_leave_1 : decode cX11_leave 1 = .ok (.getfield 231, 3) := by decide +kernel
theorem dX11_leave_4 : decode cX11_leave 4 = .ok (.bipush 16, 2) := by decide +kernel
theorem dX11_leave_6 : decode cX11_leave 6 = .ok (.if_icmp .ge 23, 3) := by decide +kernel
theorem dX11_leave_9 : decode cX11_leave 9 = .ok (.aload_n 0, 1) := by decide +kernel
theorem dX11_leave_10 : decode cX11_leave 10 = .ok (.getfield 35, 3) := by decide +kernel
theorem dX11_leave_13 : decode cX11_leave 13 = .ok (.aload_n 0, 1) := by decide +kernel
theorem dX11_leave_14 : decode cX11_leave 14 = .ok (.getfield 231, 3) := by decide +kernel
theorem dX11_leave_17 : decode cX11_leave 17 = .ok (.iload_n 1, 1) := by decide +kernel
theorem dX11_leave_18 : decode cX11_leave 18 = .ok (.iastore, 1) := by decide +kernel
theorem dX11_leave_19 : decode cX11_leave 19 = .ok (.aload_n 0, 1) := by decide +kernel
theorem dX11_leave_20 : decode cX11_leave 20 = .ok (.dup, 1) := by decide +kernel
theorem dX11_leave_21 : decode cX11_leave 21 = .ok (.getfield 231, 3) := by decide +kernel
theorem dX11_leave_24 : decode cX11_leave 24 = .ok (.iconst 1, 1) := by decide +kernel
theorem dX11_leave_25 : decode cX11_leave 25 = .ok (.iadd, 1) := by decide +kernel
theorem dX11_leave_26 : decode cX11_leave 26 = .ok (.putfield 231, 3) := by decide +kernel
theorem dX11_leave_29 : decode cX11_leave 29 = .ok (.return_, 1) := by decide +kernel
set_option maxRecDepth 20000 in
theorem ggX11_lentSize_X11_leave : GoodIn wsX11_lentSize wsX11_leave := goodIn_r _ [6, 7, 8, 9, 10, 11, 12, 13, 14, 15, 16, 17, 18, 19, 20, 21, 22, 23, 24, 25, 26, 27, 28] (by decide +kernel) (by decide +kernel)
set_option maxRecDepth 20000 in
theorem gX11_lentSize_X11_leave : GoodIn wsX11_lentSize (wsV RX11 234 RX11 yX11_leave wsX11_leave) := goodIn_app (goodIn_of _ (by decide +kernel)) ggX11_lentSize_X11_leave
theorem dX11_lentSize_0 : decode cX11_lentSize 0 = .ok (.aload_n 0, 1) := by decide +kernel
theorem dX11_lentSize_1 : decode cX11_lentSize 1 = .ok (.bipush 10, 2) := by decide +kernel
theorem dX11_lentSize_3 : decode cX11_lentSize 3 = .ok (.invokevirtual 234, 3) := by decide +kernel
theorem dX11_lentSize_6 : decode cX11_lentSize 6 = .ok (.aload_n 0, 1) := by decide +kernel
theorem dX11_lentSize_7 : decode cX11_lentSize 7 = .ok (.getfield 7, 3) := by decide +kernel
theorem dX11_lentSize_10 : decode cX11_lentSize 10 = .ok (.bipush 18, 2) := by decide +kernel
theorem dX11_lentSize_12 : decode cX11_lentSize 12 = .ok (.iload_n 1, 1) := by decide +kernel
theorem dX11_lentSize_13 : decode cX11_lentSize 13 = .ok (.iadd, 1) := by decide +kernel
theorem dX11_lentSize_14 : decode cX11_lentSize 14 = .ok (.laload, 1) := by decide +kernel
theorem dX11_lentSize_15 : decode cX11_lentSize 15 = .ok (.lreturn, 1) := by decide +kernel
set_option maxRecDepth 20000 in
theorem ggX11_lentMark_X11_leave : GoodIn wsX11_lentMark wsX11_leave := goodIn_r _ [5, 6, 7, 8, 9, 10, 11, 12, 13, 14, 15, 16, 17, 18, 19, 20, 21, 22, 23, 24, 25, 26, 27] (by decide +kernel) (by decide +kernel)
set_option maxRecDepth 20000 in
theorem gX11_lentMark_X11_leave : GoodIn wsX11_lentMark (wsV RX11 234 RX11 yX11_leave wsX11_leave) := goodIn_app (goodIn_of _ (by decide +kernel)) ggX11_lentMark_X11_leave
theorem dX11_lentMark_0 : decode cX11_lentMark 0 = .ok (.aload_n 0, 1) := by decide +kernel
theorem dX11_lentMark_1 : decode cX11_lentMark 1 = .ok (.bipush 20, 2) := by decide +kernel
theorem dX11_lentMark_3 : decode cX11_lentMark 3 = .ok (.invokevirtual 234, 3) := by decide +kernel
theorem dX11_lentMark_6 : decode cX11_lentMark 6 = .ok (.iload_n 1, 1) := by decide +kernel
theorem dX11_lentMark_7 : decode cX11_lentMark 7 = .ok (.i2l, 1) := by decide +kernel
theorem dX11_lentMark_8 : decode cX11_lentMark 8 = .ok (.lreturn, 1) := by decide +kernel
set_option maxRecDepth 20000 in
theorem ggX11_keepersMark_X11_leave : GoodIn wsX11_keepersMark wsX11_leave := goodIn_r _ [7, 8, 9, 18, 19, 20, 21, 22, 23, 24, 25, 26, 27, 28, 29, 30, 31, 32, 33, 34, 35, 36, 37] (by decide +kernel) (by decide +kernel)
set_option maxRecDepth 20000 in
theorem gX11_keepersMark_X11_leave : GoodIn wsX11_keepersMark (wsV RX11 234 RX11 yX11_leave wsX11_leave) := goodIn_app (goodIn_of _ (by decide +kernel)) ggX11_keepersMark_X11_leave
set_option maxRecDepth 20000 in
theorem ggX11_keepersMark_X11_lentMark : GoodIn wsX11_keepersMark wsX11_lentMark := goodIn_r _ [13, 3, 4, 5, 6, 7, 8, 9, 18, 19, 20, 21, 22, 23, 24, 25, 26, 27, 28, 29, 30, 31, 32, 33, 34, 35, 36, 37] (by decide +kernel) (by decide +kernel)
set_option maxRecDepth 20000 in
theorem gX11_keepersMark_X11_lentMark : GoodIn wsX11_keepersMark (wsV RX11 237 RX11 yX11_lentMark wsX11_lentMark) := goodIn_app (goodIn_of _ (by decide +kernel)) ggX11_keepersMark_X11_lentMark
set_option maxRecDepth 20000 in
theorem ggX11_keepersMark_X11_dueOf : GoodIn wsX11_keepersMark wsX11_dueOf := goodIn_r _ [17, 2, 18, 19, 20, 21, 22, 23, 24, 25, 26, 27, 28, 29, 30, 31, 32, 33, 34, 35, 36, 37] (by decide +kernel) (by decide +kernel)
set_option maxRecDepth 20000 in
theorem gX11_keepersMark_X11_dueOf : GoodIn wsX11_keepersMark (wsV RX11 158 RX11 yX11_dueOf wsX11_dueOf) := goodIn_app (goodIn_of _ (by decide +kernel)) ggX11_keepersMark_X11_dueOf
theorem dX11_keepersMark_0 : decode cX11_keepersMark 0 = .ok (.aload_n 0, 1) := by decide +kernel
theorem dX11_keepersMark_1 : decode cX11_keepersMark 1 = .ok (.bipush 21, 2) := by decide +kernel
theorem dX11_keepersMark_3 : decode cX11_keepersMark 3 = .ok (.invokevirtual 234, 3) := by decide +kernel
theorem dX11_keepersMark_6 : decode cX11_keepersMark 6 = .ok (.aload_n 0, 1) := by decide +kernel
theorem dX11_keepersMark_7 : decode cX11_keepersMark 7 = .ok (.iload_n 1, 1) := by decide +kernel
theorem dX11_keepersMark_8 : decode cX11_keepersMark 8 = .ok (.invokevirtual 237, 3) := by decide +kernel
theorem dX11_keepersMark_11 : decode cX11_keepersMark 11 = .ok (.ldc2_w 240, 3) := by decide +kernel
theorem dX11_keepersMark_14 : decode cX11_keepersMark 14 = .ok (.aload_n 0, 1) := by decide +kernel
theorem dX11_keepersMark_15 : decode cX11_keepersMark 15 = .ok (.aload_n 0, 1) := by decide +kernel
theorem dX11_keepersMark_16 : decode cX11_keepersMark 16 = .ok (.getfield 7, 3) := by decide +kernel
theorem dX11_keepersMark_19 : decode cX11_keepersMark 19 = .ok (.iconst 2, 1) := by decide +kernel
theorem dX11_keepersMark_20 : decode cX11_keepersMark 20 = .ok (.laload, 1) := by decide +kernel
theorem dX11_keepersMark_21 : decode cX11_keepersMark 21 = .ok (.l2i, 1) := by decide +kernel
theorem dX11_keepersMark_22 : decode cX11_keepersMark 22 = .ok (.aload_n 0, 1) := by decide +kernel
theorem dX11_keepersMark_23 : decode cX11_keepersMark 23 = .ok (.getfield 7, 3) := by decide +kernel
theorem dX11_keepersMark_26 : decode cX11_keepersMark 26 = .ok (.bipush 18, 2) := by decide +kernel
theorem dX11_keepersMark_28 : decode cX11_keepersMark 28 = .ok (.iload_n 1, 1) := by decide +kernel
theorem dX11_keepersMark_29 : decode cX11_keepersMark 29 = .ok (.iadd, 1) := by decide +kernel
theorem dX11_keepersMark_30 : decode cX11_keepersMark 30 = .ok (.laload, 1) := by decide +kernel
theorem dX11_keepersMark_31 : decode cX11_keepersMark 31 = .ok (.l2i, 1) := by decide +kernel
theorem dX11_keepersMark_32 : decode cX11_keepersMark 32 = .ok (.invokevirtual 158, 3) := by decide +kernel
theorem dX11_keepersMark_35 : decode cX11_keepersMark 35 = .ok (.i2l, 1) := by decide +kernel
theorem dX11_keepersMark_36 : decode cX11_keepersMark 36 = .ok (.lmul, 1) := by decide +kernel
theorem dX11_keepersMark_37 : decode cX11_keepersMark 37 = .ok (.ladd, 1) := by decide +kernel
theorem dX11_keepersMark_38 : decode cX11_keepersMark 38 = .ok (.lreturn, 1) := by decide +kernel
set_option maxRecDepth 20000 in
theorem ggX11_markOf_X11_kindOf : GoodIn wsX11_markOf wsX11_kindOf := goodIn_r _ [7, 1, 27, 28, 29, 30, 31, 32, 33, 34, 35, 36, 37, 38, 39, 40, 41, 42, 43, 44, 45, 46] (by decide +kernel) (by decide +kernel)
set_option maxRecDepth 20000 in
theorem gX11_markOf_X11_kindOf : GoodIn wsX11_markOf (wsV RX11 228 RX11 yX11_kindOf wsX11_kindOf) := goodIn_app (goodIn_of _ (by decide +kernel)) ggX11_markOf_X11_kindOf
set_option maxRecDepth 20000 in
theorem ggX11_markOf_X11_leave : GoodIn wsX11_markOf wsX11_leave := goodIn_r _ [11, 12, 13, 27, 28, 29, 30, 31, 32, 33, 34, 35, 36, 37, 38, 39, 40, 41, 42, 43, 44, 45, 46] (by decide +kernel) (by decide +kernel)
set_option maxRecDepth 20000 in
theorem gX11_markOf_X11_leave : GoodIn wsX11_markOf (wsV RX11 234 RX11 yX11_leave wsX11_leave) := goodIn_app (goodIn_of _ (by decide +kernel)) ggX11_markOf_X11_leave
set_option maxRecDepth 20000 in
theorem ggX11_markOf_X11_lentMark : GoodIn wsX11_markOf wsX11_lentMark := goodIn_r _ [17, 8, 9, 10, 6, 11, 12, 13, 27, 28, 29, 30, 31, 32, 33, 34, 35, 36, 37, 38, 39, 40, 41, 42, 43, 44, 45, 46] (by decide +kernel) (by decide +kernel)
set_option maxRecDepth 20000 in
theorem gX11_markOf_X11_lentMark : GoodIn wsX11_markOf (wsV RX11 237 RX11 yX11_lentMark wsX11_lentMark) := goodIn_app (goodIn_of _ (by decide +kernel)) ggX11_markOf_X11_lentMark
set_option maxRecDepth 20000 in
theorem ggX11_markOf_X11_keepersMark : GoodIn wsX11_markOf wsX11_keepersMark := goodIn_r _ [21, 22, 1, 8, 9, 10, 6, 11, 12, 13, 14, 15, 16, 17, 23, 24, 25, 26, 27, 28, 29, 30, 31, 32, 33, 34, 35, 36, 37, 38, 39, 40, 41, 42, 43, 44, 45, 46] (by decide +kernel) (by decide +kernel)
set_option maxRecDepth 20000 in
theorem gX11_markOf_X11_keepersMark : GoodIn wsX11_markOf (wsV RX11 242 RX11 yX11_keepersMark wsX11_keepersMark) := goodIn_app (goodIn_of _ (by decide +kernel)) ggX11_markOf_X11_keepersMark
theorem dX11_markOf_0 : decode cX11_markOf 0 = .ok (.aload_n 0, 1) := by decide +kernel
theorem dX11_markOf_1 : decode cX11_markOf 1 = .ok (.iload_n 1, 1) := by decide +kernel
theorem dX11_markOf_2 : decode cX11_markOf 2 = .ok (.invokevirtual 228, 3) := by decide +kernel
theorem dX11_markOf_5 : decode cX11_markOf 5 = .ok (.istore_n 2, 1) := by decide +kernel
theorem dX11_markOf_6 : decode cX11_markOf 6 = .ok (.iload_n 2, 1) := by decide +kernel
theorem dX11_markOf_7 : decode cX11_markOf 7 = .ok (.iconst 4, 1) := by decide +kernel
theorem dX11_markOf_8 : decode cX11_markOf 8 = .ok (.if_icmp .ne 25, 3) := by decide +kernel
theorem dX11_markOf_11 : decode cX11_markOf 11 = .ok (.aload_n 0, 1) := by decide +kernel
theorem dX11_markOf_12 : decode cX11_markOf 12 = .ok (.bipush 22, 2) := by decide +kernel
theorem dX11_markOf_14 : decode cX11_markOf 14 = .ok (.invokevirtual 234, 3) := by decide +kernel
theorem dX11_markOf_17 : decode cX11_markOf 17 = .ok (.aload_n 0, 1) := by decide +kernel
theorem dX11_markOf_18 : decode cX11_markOf 18 = .ok (.iload_n 1, 1) := by decide +kernel
theorem dX11_markOf_19 : decode cX11_markOf 19 = .ok (.invokevirtual 237, 3) := by decide +kernel
theorem dX11_markOf_22 : decode cX11_markOf 22 = .ok (.aload_n 0, 1) := by decide +kernel
theorem dX11_markOf_23 : decode cX11_markOf 23 = .ok (.getfield 7, 3) := by decide +kernel
theorem dX11_markOf_26 : decode cX11_markOf 26 = .ok (.bipush 50, 2) := by decide +kernel
theorem dX11_markOf_28 : decode cX11_markOf 28 = .ok (.iload_n 1, 1) := by decide +kernel
theorem dX11_markOf_29 : decode cX11_markOf 29 = .ok (.iadd, 1) := by decide +kernel
theorem dX11_markOf_30 : decode cX11_markOf 30 = .ok (.laload, 1) := by decide +kernel
theorem dX11_markOf_31 : decode cX11_markOf 31 = .ok (.ladd, 1) := by decide +kernel
theorem dX11_markOf_32 : decode cX11_markOf 32 = .ok (.lreturn, 1) := by decide +kernel
theorem dX11_markOf_33 : decode cX11_markOf 33 = .ok (.iload_n 2, 1) := by decide +kernel
theorem dX11_markOf_34 : decode cX11_markOf 34 = .ok (.iconst 5, 1) := by decide +kernel
theorem dX11_markOf_35 : decode cX11_markOf 35 = .ok (.if_icmp .ne 19, 3) := by decide +kernel
theorem dX11_markOf_38 : decode cX11_markOf 38 = .ok (.aload_n 0, 1) := by decide +kernel
theorem dX11_markOf_39 : decode cX11_markOf 39 = .ok (.bipush 24, 2) := by decide +kernel
theorem dX11_markOf_41 : decode cX11_markOf 41 = .ok (.invokevirtual 234, 3) := by decide +kernel
theorem dX11_markOf_44 : decode cX11_markOf 44 = .ok (.aload_n 0, 1) := by decide +kernel
theorem dX11_markOf_45 : decode cX11_markOf 45 = .ok (.iload_n 1, 1) := by decide +kernel
theorem dX11_markOf_46 : decode cX11_markOf 46 = .ok (.invokevirtual 242, 3) := by decide +kernel
theorem dX11_markOf_49 : decode cX11_markOf 49 = .ok (.ldc2_w 156, 3) := by decide +kernel
theorem dX11_markOf_52 : decode cX11_markOf 52 = .ok (.lsub, 1) := by decide +kernel
theorem dX11_markOf_53 : decode cX11_markOf 53 = .ok (.lreturn, 1) := by decide +kernel
theorem dX11_markOf_54 : decode cX11_markOf 54 = .ok (.aload_n 0, 1) := by decide +kernel
theorem dX11_markOf_55 : decode cX11_markOf 55 = .ok (.iload_n 1, 1) := by decide +kernel
theorem dX11_markOf_56 : decode cX11_markOf 56 = .ok (.invokevirtual 242, 3) := by decide +kernel
theorem dX11_markOf_59 : decode cX11_markOf 59 = .ok (.lreturn, 1) := by decide +kernel
set_option maxRecDepth 20000 in
theorem ggX11_keepersSize_X11_leave : GoodIn wsX11_keepersSize wsX11_leave := goodIn_r _ [5, 6, 7, 35, 36, 37, 38, 39, 40, 41, 42, 43, 44, 45, 46, 47, 48, 49, 50, 51, 52, 53, 54] (by decide +kernel) (by decide +kernel)
set_option maxRecDepth 20000 in
theorem gX11_keepersSize_X11_leave : GoodIn wsX11_keepersSize (wsV RX11 234 RX11 yX11_leave wsX11_leave) := goodIn_app (goodIn_of _ (by decide +kernel)) ggX11_keepersSize_X11_leave
set_option maxRecDepth 20000 in
theorem ggX11_keepersSize_X11_lentSize : GoodIn wsX11_keepersSize wsX11_lentSize := goodIn_r _ [11, 12, 1, 2, 3, 4, 5, 6, 7, 35, 36, 37, 38, 39, 40, 41, 42, 43, 44, 45, 46, 47, 48, 49, 50, 51, 52, 53, 54] (by decide +kernel) (by decide +kernel)
set_option maxRecDepth 20000 in
theorem gX11_keepersSize_X11_lentSize : GoodIn wsX11_keepersSize (wsV RX11 245 RX11 yX11_lentSize wsX11_lentSize) := goodIn_app (goodIn_of _ (by decide +kernel)) ggX11_keepersSize_X11_lentSize
set_option maxRecDepth 20000 in
theorem ggX11_keepersSize_X11_markOf : GoodIn wsX11_keepersSize wsX11_markOf := goodIn_r _ [16, 12, 17, 18, 19, 20, 4, 21, 1, 2, 3, 5, 6, 7, 22, 23, 24, 25, 26, 27, 28, 29, 30, 31, 32, 33, 34, 35, 36, 37, 38, 39, 40, 41, 42, 43, 44, 45, 46, 47, 48, 49, 50, 51, 52, 53, 54] (by decide +kernel) (by decide +kernel)
set_option maxRecDepth 20000 in
theorem gX11_keepersSize_X11_markOf : GoodIn wsX11_keepersSize (wsV RX11 248 RX11 yX11_markOf wsX11_markOf) := goodIn_app (goodIn_of _ (by decide +kernel)) ggX11_keepersSize_X11_markOf
theorem dX11_keepersSize_0 : decode cX11_keepersSize 0 = .ok (.aload_n 0, 1) := by decide +kernel
theorem dX11_keepersSize_1 : decode cX11_keepersSize 1 = .ok (.bipush 11, 2) := by decide +kernel
theorem dX11_keepersSize_3 : decode cX11_keepersSize 3 = .ok (.invokevirtual 234, 3) := by decide +kernel
theorem dX11_keepersSize_6 : decode cX11_keepersSize 6 = .ok (.aload_n 0, 1) := by decide +kernel
theorem dX11_keepersSize_7 : decode cX11_keepersSize 7 = .ok (.iload_n 1, 1) := by decide +kernel
theorem dX11_keepersSize_8 : decode cX11_keepersSize 8 = .ok (.invokevirtual 245, 3) := by decide +kernel
theorem dX11_keepersSize_11 : decode cX11_keepersSize 11 = .ok (.lstore_n 2, 1) := by decide +kernel
theorem dX11_keepersSize_12 : decode cX11_keepersSize 12 = .ok (.lload_n 2, 1) := by decide +kernel
theorem dX11_keepersSize_13 : decode cX11_keepersSize 13 = .ok (.aload_n 0, 1) := by decide +kernel
theorem dX11_keepersSize_14 : decode cX11_keepersSize 14 = .ok (.iload_n 1, 1) := by decide +kernel
theorem dX11_keepersSize_15 : decode cX11_keepersSize 15 = .ok (.invokevirtual 248, 3) := by decide +kernel
theorem dX11_keepersSize_18 : decode cX11_keepersSize 18 = .ok (.ladd, 1) := by decide +kernel
theorem dX11_keepersSize_19 : decode cX11_keepersSize 19 = .ok (.lreturn, 1) := by decide +kernel
set_option maxRecDepth 20000 in
theorem ggX11_noneSize_X11_leave : GoodIn wsX11_noneSize wsX11_leave := goodIn_r _ [6, 7, 8, 14, 15, 16, 17, 18, 19, 20, 21, 22, 23, 24, 25, 26, 27, 28, 29, 30, 31, 32, 33] (by decide +kernel) (by decide +kernel)
set_option maxRecDepth 20000 in
theorem gX11_noneSize_X11_leave : GoodIn wsX11_noneSize (wsV RX11 234 RX11 yX11_leave wsX11_leave) := goodIn_app (goodIn_of _ (by decide +kernel)) ggX11_noneSize_X11_leave
set_option maxRecDepth 20000 in
theorem ggX11_noneSize_X11_lentSize : GoodIn wsX11_noneSize wsX11_lentSize := goodIn_r _ [12, 13, 2, 3, 4, 5, 6, 7, 8, 14, 15, 16, 17, 18, 19, 20, 21, 22, 23, 24, 25, 26, 27, 28, 29, 30, 31, 32, 33] (by decide +kernel) (by decide +kernel)
set_option maxRecDepth 20000 in
theorem gX11_noneSize_X11_lentSize : GoodIn wsX11_noneSize (wsV RX11 245 RX11 yX11_lentSize wsX11_lentSize) := goodIn_app (goodIn_of _ (by decide +kernel)) ggX11_noneSize_X11_lentSize
theorem dX11_noneSize_0 : decode cX11_noneSize 0 = .ok (.aload_n 0, 1) := by decide +kernel
theorem dX11_noneSize_1 : decode cX11_noneSize 1 = .ok (.bipush 13, 2) := by decide +kernel
theorem dX11_noneSize_3 : decode cX11_noneSize 3 = .ok (.invokevirtual 234, 3) := by decide +kernel
theorem dX11_noneSize_6 : decode cX11_noneSize 6 = .ok (.aload_n 0, 1) := by decide +kernel
theorem dX11_noneSize_7 : decode cX11_noneSize 7 = .ok (.iload_n 1, 1) := by decide +kernel
theorem dX11_noneSize_8 : decode cX11_noneSize 8 = .ok (.invokevirtual 245, 3) := by decide +kernel
theorem dX11_noneSize_11 : decode cX11_noneSize 11 = .ok (.ldc2_w 154, 3) := by decide +kernel
theorem dX11_noneSize_14 : decode cX11_noneSize 14 = .ok (.lsub, 1) := by decide +kernel
theorem dX11_noneSize_15 : decode cX11_noneSize 15 = .ok (.lreturn, 1) := by decide +kernel
set_option maxRecDepth 20000 in
theorem ggX11_sizeOf_X11_kindOf : GoodIn wsX11_sizeOf wsX11_kindOf := goodIn_r _ [6, 7, 45, 46, 47, 48, 49, 50, 51, 52, 53, 54, 55, 56, 57, 58, 59, 60, 61, 62, 63, 64] (by decide +kernel) (by decide +kernel)
set_option maxRecDepth 20000 in
theorem gX11_sizeOf_X11_kindOf : GoodIn wsX11_sizeOf (wsV RX11 228 RX11 yX11_kindOf wsX11_kindOf) := goodIn_app (goodIn_of _ (by decide +kernel)) ggX11_sizeOf_X11_kindOf
set_option maxRecDepth 20000 in
theorem ggX11_sizeOf_X11_leave : GoodIn wsX11_sizeOf wsX11_leave := goodIn_r _ [11, 12, 13, 45, 46, 47, 48, 49, 50, 51, 52, 53, 54, 55, 56, 57, 58, 59, 60, 61, 62, 63, 64] (by decide +kernel) (by decide +kernel)
set_option maxRecDepth 20000 in
theorem gX11_sizeOf_X11_leave : GoodIn wsX11_sizeOf (wsV RX11 234 RX11 yX11_leave wsX11_leave) := goodIn_app (goodIn_of _ (by decide +kernel)) ggX11_sizeOf_X11_leave
set_option maxRecDepth 20000 in
theorem ggX11_sizeOf_X11_keepersSize : GoodIn wsX11_sizeOf wsX11_keepersSize := goodIn_r _ [17, 8, 9, 10, 5, 11, 12, 13, 18, 19, 20, 21, 7, 22, 23, 24, 25, 26, 2, 3, 4, 6, 27, 28, 29, 30, 31, 32, 33, 34, 35, 36, 37, 38, 39, 45, 46, 47, 48, 49, 50, 51, 52, 53, 54, 55, 56, 57, 58, 59, 60, 61, 62, 63, 64] (by decide +kernel) (by decide +kernel)
set_option maxRecDepth 20000 in
theorem gX11_sizeOf_X11_keepersSize : GoodIn wsX11_sizeOf (wsV RX11 251 RX11 yX11_keepersSize wsX11_keepersSize) := goodIn_app (goodIn_of _ (by decide +kernel)) ggX11_sizeOf_X11_keepersSize
set_option maxRecDepth 20000 in
theorem ggX11_sizeOf_X11_noneSize : GoodIn wsX11_sizeOf wsX11_noneSize := goodIn_r _ [43, 44, 8, 9, 10, 5, 11, 12, 13, 18, 19, 20, 21, 7, 45, 46, 47, 48, 49, 50, 51, 52, 53, 54, 55, 56, 57, 58, 59, 60, 61, 62, 63, 64] (by decide +kernel) (by decide +kernel)
set_option maxRecDepth 20000 in
theorem gX11_sizeOf_X11_noneSize : GoodIn wsX11_sizeOf (wsV RX11 254 RX11 yX11_noneSize wsX11_noneSize) := goodIn_app (goodIn_of _ (by decide +kernel)) ggX11_sizeOf_X11_noneSize
set_option maxRecDepth 20000 in
theorem ggX11_sizeOf_X11_lentSize : GoodIn wsX11_sizeOf wsX11_lentSize := goodIn_r _ [21, 7, 8, 9, 10, 5, 11, 12, 13, 45, 46, 47, 48, 49, 50, 51, 52, 53, 54, 55, 56, 57, 58, 59, 60, 61, 62, 63, 64] (by decide +kernel) (by decide +kernel)
set_option maxRecDepth 20000 in
theorem gX11_sizeOf_X11_lentSize : GoodIn wsX11_sizeOf (wsV RX11 245 RX11 yX11_lentSize wsX11_lentSize) := goodIn_app (goodIn_of _ (by decide +kernel)) ggX11_sizeOf_X11_lentSize
theorem dX11_sizeOf_0 : decode cX11_sizeOf 0 = .ok (.aload_n 0, 1) := by decide +kernel
theorem dX11_sizeOf_1 : decode cX11_sizeOf 1 = .ok (.iload_n 1, 1) := by decide +kernel
theorem dX11_sizeOf_2 : decode cX11_sizeOf 2 = .ok (.invokevirtual 228, 3) := by decide +kernel
theorem dX11_sizeOf_5 : decode cX11_sizeOf 5 = .ok (.istore_n 2, 1) := by decide +kernel
theorem dX11_sizeOf_6 : decode cX11_sizeOf 6 = .ok (.iload_n 2, 1) := by decide +kernel
theorem dX11_sizeOf_7 : decode cX11_sizeOf 7 = .ok (.iconst 2, 1) := by decide +kernel
theorem dX11_sizeOf_8 : decode cX11_sizeOf 8 = .ok (.if_icmp .ne 16, 3) := by decide +kernel
theorem dX11_sizeOf_11 : decode cX11_sizeOf 11 = .ok (.aload_n 0, 1) := by decide +kernel
theorem dX11_sizeOf_12 : decode cX11_sizeOf 12 = .ok (.bipush 12, 2) := by decide +kernel
theorem dX11_sizeOf_14 : decode cX11_sizeOf 14 = .ok (.invokevirtual 234, 3) := by decide +kernel
theorem dX11_sizeOf_17 : decode cX11_sizeOf 17 = .ok (.aload_n 0, 1) := by decide +kernel
theorem dX11_sizeOf_18 : decode cX11_sizeOf 18 = .ok (.iload_n 1, 1) := by decide +kernel
theorem dX11_sizeOf_19 : decode cX11_sizeOf 19 = .ok (.invokevirtual 251, 3) := by decide +kernel
theorem dX11_sizeOf_22 : decode cX11_sizeOf 22 = .ok (.lneg, 1) := by decide +kernel
theorem dX11_sizeOf_23 : decode cX11_sizeOf 23 = .ok (.lreturn, 1) := by decide +kernel
theorem dX11_sizeOf_24 : decode cX11_sizeOf 24 = .ok (.iload_n 2, 1) := by decide +kernel
theorem dX11_sizeOf_25 : decode cX11_sizeOf 25 = .ok (.iconst 5, 1) := by decide +kernel
theorem dX11_sizeOf_26 : decode cX11_sizeOf 26 = .ok (.if_icmp .ne 19, 3) := by decide +kernel
theorem dX11_sizeOf_29 : decode cX11_sizeOf 29 = .ok (.aload_n 0, 1) := by decide +kernel
theorem dX11_sizeOf_30 : decode cX11_sizeOf 30 = .ok (.bipush 14, 2) := by decide +kernel
theorem dX11_sizeOf_32 : decode cX11_sizeOf 32 = .ok (.invokevirtual 234, 3) := by decide +kernel
theorem dX11_sizeOf_35 : decode cX11_sizeOf 35 = .ok (.ldc2_w 54, 3) := by decide +kernel
theorem dX11_sizeOf_38 : decode cX11_sizeOf 38 = .ok (.aload_n 0, 1) := by decide +kernel
theorem dX11_sizeOf_39 : decode cX11_sizeOf 39 = .ok (.iload_n 1, 1) := by decide +kernel
theorem dX11_sizeOf_40 : decode cX11_sizeOf 40 = .ok (.invokevirtual 251, 3) := by decide +kernel
theorem dX11_sizeOf_43 : decode cX11_sizeOf 43 = .ok (.lmul, 1) := by decide +kernel
theorem dX11_sizeOf_44 : decode cX11_sizeOf 44 = .ok (.lreturn, 1) := by decide +kernel
theorem dX11_sizeOf_45 : decode cX11_sizeOf 45 = .ok (.iload_n 2, 1) := by decide +kernel
theorem dX11_sizeOf_46 : decode cX11_sizeOf 46 = .ok (.iconst 1, 1) := by decide +kernel
theorem dX11_sizeOf_47 : decode cX11_sizeOf 47 = .ok (.if_icmp .ne 11, 3) := by decide +kernel
theorem dX11_sizeOf_50 : decode cX11_sizeOf 50 = .ok (.aload_n 0, 1) := by decide +kernel
theorem dX11_sizeOf_51 : decode cX11_sizeOf 51 = .ok (.iload_n 1, 1) := by decide +kernel
theorem dX11_sizeOf_52 : decode cX11_sizeOf 52 = .ok (.invokevirtual 251, 3) := by decide +kernel
theorem dX11_sizeOf_55 : decode cX11_sizeOf 55 = .ok (.goto 21, 3) := by decide +kernel
theorem dX11_sizeOf_58 : decode cX11_sizeOf 58 = .ok (.iload_n 2, 1) := by decide +kernel
theorem dX11_sizeOf_59 : decode cX11_sizeOf 59 = .ok (.iconst 3, 1) := by decide +kernel
theorem dX11_sizeOf_60 : decode cX11_sizeOf 60 = .ok (.if_icmp .ne 11, 3) := by decide +kernel
theorem dX11_sizeOf_63 : decode cX11_sizeOf 63 = .ok (.aload_n 0, 1) := by decide +kernel
theorem dX11_sizeOf_64 : decode cX11_sizeOf 64 = .ok (.iload_n 1, 1) := by decide +kernel
theorem dX11_sizeOf_65 : decode cX11_sizeOf 65 = .ok (.invokevirtual 254, 3) := by decide +kernel
theorem dX11_sizeOf_68 : decode cX11_sizeOf 68 = .ok (.goto 8, 3) := by decide +kernel
theorem dX11_sizeOf_71 : decode cX11_sizeOf 71 = .ok (.aload_n 0, 1) := by decide +kernel
theorem dX11_sizeOf_72 : decode cX11_sizeOf 72 = .ok (.iload_n 1, 1) := by decide +kernel
theorem dX11_sizeOf_73 : decode cX11_sizeOf 73 = .ok (.invokevirtual 245, 3) := by decide +kernel
theorem dX11_sizeOf_76 : decode cX11_sizeOf 76 = .ok (.lreturn, 1) := by decide +kernel
set_option maxRecDepth 20000 in
theorem ggX11_noneMark_X11_leave : GoodIn wsX11_noneMark wsX11_leave := goodIn_r _ [5, 6, 7, 22, 23, 24, 25, 26, 27, 28, 29, 30, 31, 32, 33, 34, 35, 36, 37, 38, 39, 40, 41] (by decide +kernel) (by decide +kernel)
set_option maxRecDepth 20000 in
theorem gX11_noneMark_X11_leave : GoodIn wsX11_noneMark (wsV RX11 234 RX11 yX11_leave wsX11_leave) := goodIn_app (goodIn_of _ (by decide +kernel)) ggX11_noneMark_X11_leave
set_option maxRecDepth 20000 in
theorem ggX11_noneMark_X11_lentMark : GoodIn wsX11_noneMark wsX11_lentMark := goodIn_r _ [11, 1, 2, 3, 4, 5, 6, 7, 22, 23, 24, 25, 26, 27, 28, 29, 30, 31, 32, 33, 34, 35, 36, 37, 38, 39, 40, 41] (by decide +kernel) (by decide +kernel)
set_option maxRecDepth 20000 in
theorem gX11_noneMark_X11_lentMark : GoodIn wsX11_noneMark (wsV RX11 237 RX11 yX11_lentMark wsX11_lentMark) := goodIn_app (goodIn_of _ (by decide +kernel)) ggX11_noneMark_X11_lentMark
set_option maxRecDepth 20000 in
theorem ggX11_noneMark_X11_noneSize : GoodIn wsX11_noneMark wsX11_noneSize := goodIn_r _ [15, 16, 1, 2, 3, 4, 5, 6, 7, 17, 18, 19, 20, 21, 22, 23, 24, 25, 26, 27, 28, 29, 30, 31, 32, 33, 34, 35, 36, 37, 38, 39, 40, 41] (by decide +kernel) (by decide +kernel)
set_option maxRecDepth 20000 in
theorem gX11_noneMark_X11_noneSize : GoodIn wsX11_noneMark (wsV RX11 254 RX11 yX11_noneSize wsX11_noneSize) := goodIn_app (goodIn_of _ (by decide +kernel)) ggX11_noneMark_X11_noneSize
theorem dX11_noneMark_0 : decode cX11_noneMark 0 = .ok (.aload_n 0, 1) := by decide +kernel
theorem dX11_noneMark_1 : decode cX11_noneMark 1 = .ok (.bipush 23, 2) := by decide +kernel
theorem dX11_noneMark_3 : decode cX11_noneMark 3 = .ok (.invokevirtual 234, 3) := by decide +kernel
theorem dX11_noneMark_6 : decode cX11_noneMark 6 = .ok (.aload_n 0, 1) := by decide +kernel
theorem dX11_noneMark_7 : decode cX11_noneMark 7 = .ok (.iload_n 1, 1) := by decide +kernel
theorem dX11_noneMark_8 : decode cX11_noneMark 8 = .ok (.invokevirtual 237, 3) := by decide +kernel
theorem dX11_noneMark_11 : decode cX11_noneMark 11 = .ok (.lstore_n 2, 1) := by decide +kernel
theorem dX11_noneMark_12 : decode cX11_noneMark 12 = .ok (.lload_n 2, 1) := by decide +kernel
theorem dX11_noneMark_13 : decode cX11_noneMark 13 = .ok (.aload_n 0, 1) := by decide +kernel
theorem dX11_noneMark_14 : decode cX11_noneMark 14 = .ok (.iload_n 1, 1) := by decide +kernel
theorem dX11_noneMark_15 : decode cX11_noneMark 15 = .ok (.invokevirtual 254, 3) := by decide +kernel
theorem dX11_noneMark_18 : decode cX11_noneMark 18 = .ok (.lsub, 1) := by decide +kernel
theorem dX11_noneMark_19 : decode cX11_noneMark 19 = .ok (.lreturn, 1) := by decide +kernel
set_option maxRecDepth 20000 in
theorem ggX11_ask_X11_isParty : GoodIn wsX11_ask wsX11_isParty := goodIn_r _ [7, 8, 9, 10, 6, 11, 61, 62, 63, 64, 65, 66, 67, 68, 69, 70, 71, 72, 73, 74, 75, 76, 77, 78, 79, 80] (by decide +kernel) (by decide +kernel)
set_option maxRecDepth 20000 in
theorem gX11_ask_X11_isParty : GoodIn wsX11_ask (wsV RX11 166 RX11 yX11_isParty wsX11_isParty) := goodIn_app (goodIn_of _ (by decide +kernel)) ggX11_ask_X11_isParty
set_option maxRecDepth 20000 in
theorem ggX11_ask_X11_in : GoodIn wsX11_ask wsX11_in := goodIn_r _ [11] (by decide +kernel) (by decide +kernel)
set_option maxRecDepth 20000 in
theorem gX11_ask_X11_in : GoodIn wsX11_ask (va_wsS RX11 46 yX11_in wsX11_in) := goodIn_app (goodIn_of _ (by decide +kernel)) ggX11_ask_X11_in
set_option maxRecDepth 20000 in
theorem ggX11_ask_X11_sizeOf : GoodIn wsX11_ask wsX11_sizeOf := goodIn_r _ [15, 16, 17, 18, 19, 6, 20, 8, 21, 22, 23, 24, 2, 25, 26, 27, 28, 29, 30, 31, 32, 33, 34, 35, 36, 37, 38, 39, 40, 41, 42, 43, 44, 45, 46, 47, 48, 49, 50, 51, 52, 53, 54, 55, 56, 61, 62, 63, 64, 65, 66, 67, 68, 69, 70, 71, 72, 73, 74, 75, 76, 77, 78, 79, 80] (by decide +kernel) (by decide +kernel)
set_option maxRecDepth 20000 in
theorem gX11_ask_X11_sizeOf : GoodIn wsX11_ask (wsV RX11 257 RX11 yX11_sizeOf wsX11_sizeOf) := goodIn_app (goodIn_of _ (by decide +kernel)) ggX11_ask_X11_sizeOf
set_option maxRecDepth 20000 in
theorem ggX11_ask_X11_kindOf : GoodIn wsX11_ask wsX11_kindOf := goodIn_r _ [20, 8, 61, 62, 63, 64, 65, 66, 67, 68, 69, 70, 71, 72, 73, 74, 75, 76, 77, 78, 79, 80] (by decide +kernel) (by decide +kernel)
set_option maxRecDepth 20000 in
theorem gX11_ask_X11_kindOf : GoodIn wsX11_ask (wsV RX11 228 RX11 yX11_kindOf wsX11_kindOf) := goodIn_app (goodIn_of _ (by decide +kernel)) ggX11_ask_X11_kindOf
set_option maxRecDepth 20000 in
theorem ggX11_ask_X11_noneMark : GoodIn wsX11_ask wsX11_noneMark := goodIn_r _ [60, 21, 22, 23, 6, 24, 2, 25, 39, 40, 41, 42, 52, 53, 54, 55, 56, 30, 31, 32, 33, 8, 61, 62, 63, 64, 65, 66, 67, 68, 69, 70, 71, 72, 73, 74, 75, 76, 77, 78, 79, 80] (by decide +kernel) (by decide +kernel)
set_option maxRecDepth 20000 in
theorem gX11_ask_X11_noneMark : GoodIn wsX11_ask (wsV RX11 260 RX11 yX11_noneMark wsX11_noneMark) := goodIn_app (goodIn_of _ (by decide +kernel)) ggX11_ask_X11_noneMark
set_option maxRecDepth 20000 in
theorem ggX11_ask_X11_markOf : GoodIn wsX11_ask wsX11_markOf := goodIn_r _ [37, 8, 38, 17, 18, 19, 6, 20, 21, 22, 23, 24, 2, 25, 39, 40, 41, 42, 43, 44, 45, 46, 47, 48, 49, 50, 51, 61, 62, 63, 64, 65, 66, 67, 68, 69, 70, 71, 72, 73, 74, 75, 76, 77, 78, 79, 80] (by decide +kernel) (by decide +kernel)
set_option maxRecDepth 20000 in
theorem gX11_ask_X11_markOf : GoodIn wsX11_ask (wsV RX11 248 RX11 yX11_markOf wsX11_markOf) := goodIn_app (goodIn_of _ (by decide +kernel)) ggX11_ask_X11_markOf
theorem dX11_ask_0 : decode cX11_ask 0 = .ok (.aload_n 0, 1) := by decide +kernel
theorem dX11_ask_1 : decode cX11_ask 1 = .ok (.iload_n 1, 1) := by decide +kernel
theorem dX11_ask_2 : decode cX11_ask 2 = .ok (.i2l, 1) := by decide +kernel
theorem dX11_ask_3 : decode cX11_ask 3 = .ok (.invokevirtual 166, 3) := by decide +kernel
theorem dX11_ask_6 : decode cX11_ask 6 = .ok (.ifCond .eq 13, 3) := by decide +kernel
theorem dX11_ask_9 : decode cX11_ask 9 = .ok (.iload_n 2, 1) := by decide +kernel
theorem dX11_ask_10 : decode cX11_ask 10 = .ok (.i2l, 1) := by decide +kernel
theorem dX11_ask_11 : decode cX11_ask 11 = .ok (.lconst 0, 1) := by decide +kernel
theorem dX11_ask_12 : decode cX11_ask 12 = .ok (.lconst 1, 1) := by decide +kernel
theorem dX11_ask_13 : decode cX11_ask 13 = .ok (.invokestatic 46, 3) := by decide +kernel
theorem dX11_ask_16 : decode cX11_ask 16 = .ok (.ifCond .ne 7, 3) := by decide +kernel
theorem dX11_ask_19 : decode cX11_ask 19 = .ok (.ldc2_w 56, 3) := by decide +kernel
theorem dX11_ask_22 : decode cX11_ask 22 = .ok (.lreturn, 1) := by decide +kernel
theorem dX11_ask_23 : decode cX11_ask 23 = .ok (.aload_n 0, 1) := by decide +kernel
theorem dX11_ask_24 : decode cX11_ask 24 = .ok (.iconst 0, 1) := by decide +kernel
theorem dX11_ask_25 : decode cX11_ask 25 = .ok (.putfield 231, 3) := by decide +kernel
theorem dX11_ask_28 : decode cX11_ask 28 = .ok (.iload_n 2, 1) := by decide +kernel
theorem dX11_ask_29 : decode cX11_ask 29 = .ok (.ifCond .ne 11, 3) := by decide +kernel
theorem dX11_ask_32 : decode cX11_ask 32 = .ok (.aload_n 0, 1) := by decide +kernel
theorem dX11_ask_33 : decode cX11_ask 33 = .ok (.iload_n 1, 1) := by decide +kernel
theorem dX11_ask_34 : decode cX11_ask 34 = .ok (.invokevirtual 257, 3) := by decide +kernel
theorem dX11_ask_37 : decode cX11_ask 37 = .ok (.goto 25, 3) := by decide +kernel
theorem dX11_ask_40 : decode cX11_ask 40 = .ok (.aload_n 0, 1) := by decide +kernel
theorem dX11_ask_41 : decode cX11_ask 41 = .ok (.iload_n 1, 1) := by decide +kernel
theorem dX11_ask_42 : decode cX11_ask 42 = .ok (.invokevirtual 228, 3) := by decide +kernel
theorem dX11_ask_45 : decode cX11_ask 45 = .ok (.iconst 3, 1) := by decide +kernel
theorem dX11_ask_46 : decode cX11_ask 46 = .ok (.if_icmp .ne 11, 3) := by decide +kernel
theorem dX11_ask_49 : decode cX11_ask 49 = .ok (.aload_n 0, 1) := by decide +kernel
theorem dX11_ask_50 : decode cX11_ask 50 = .ok (.iload_n 1, 1) := by decide +kernel
theorem dX11_ask_51 : decode cX11_ask 51 = .ok (.invokevirtual 260, 3) := by decide +kernel
theorem dX11_ask_54 : decode cX11_ask 54 = .ok (.goto 8, 3) := by decide +kernel
theorem dX11_ask_57 : decode cX11_ask 57 = .ok (.aload_n 0, 1) := by decide +kernel
theorem dX11_ask_58 : decode cX11_ask 58 = .ok (.iload_n 1, 1) := by decide +kernel
theorem dX11_ask_59 : decode cX11_ask 59 = .ok (.invokevirtual 248, 3) := by decide +kernel
theorem dX11_ask_62 : decode cX11_ask 62 = .ok (.lreturn, 1) := by decide +kernel
set_option maxRecDepth 20000 in
theorem ggX11_trace_X11_in : GoodIn wsX11_trace wsX11_in := goodIn_r _ [7] (by decide +kernel) (by decide +kernel)
set_option maxRecDepth 20000 in
theorem gX11_trace_X11_in : GoodIn wsX11_trace (va_wsS RX11 46 yX11_in wsX11_in) := goodIn_app (goodIn_of _ (by decide +kernel)) ggX11_trace_X11_in
theorem dX11_trace_0 : decode cX11_trace 0 = .ok (.iload_n 1, 1) := by decide +kernel
theorem dX11_trace_1 : decode cX11_trace 1 = .ok (.i2l, 1) := by decide +kernel
theorem dX11_trace_2 : decode cX11_trace 2 = .ok (.lconst 0, 1) := by decide +kernel
theorem dX11_trace_3 : decode cX11_trace 3 = .ok (.aload_n 0, 1) := by decide +kernel
theorem dX11_trace_4 : decode cX11_trace 4 = .ok (.getfield 231, 3) := by decide +kernel
theorem dX11_trace_7 : decode cX11_trace 7 = .ok (.iconst 1, 1) := by decide +kernel
theorem dX11_trace_8 : decode cX11_trace 8 = .ok (.isub, 1) := by decide +kernel
theorem dX11_trace_9 : decode cX11_trace 9 = .ok (.i2l, 1) := by decide +kernel
theorem dX11_trace_10 : decode cX11_trace 10 = .ok (.invokestatic 46, 3) := by decide +kernel
theorem dX11_trace_13 : decode cX11_trace 13 = .ok (.ifCond .eq 12, 3) := by decide +kernel
theorem dX11_trace_16 : decode cX11_trace 16 = .ok (.aload_n 0, 1) := by decide +kernel
theorem dX11_trace_17 : decode cX11_trace 17 = .ok (.getfield 35, 3) := by decide +kernel
theorem dX11_trace_20 : decode cX11_trace 20 = .ok (.iload_n 1, 1) := by decide +kernel
theorem dX11_trace_21 : decode cX11_trace 21 = .ok (.iaload, 1) := by decide +kernel
theorem dX11_trace_22 : decode cX11_trace 22 = .ok (.goto 5, 3) := by decide +kernel
theorem dX11_trace_25 : decode cX11_trace 25 = .ok (.ldc 223, 2) := by decide +kernel
theorem dX11_trace_27 : decode cX11_trace 27 = .ok (.ireturn, 1) := by decide +kernel
set_option maxRecDepth 20000 in
theorem ggX11_count_X11_in : GoodIn wsX11_count wsX11_in := goodIn_r _ [9] (by decide +kernel) (by decide +kernel)
set_option maxRecDepth 20000 in
theorem gX11_count_X11_in : GoodIn wsX11_count (va_wsS RX11 46 yX11_in wsX11_in) := goodIn_app (goodIn_of _ (by decide +kernel)) ggX11_count_X11_in
set_option maxRecDepth 20000 in
theorem ggX11_count_X11_one : GoodIn wsX11_count wsX11_one := goodIn_r _ [12] (by decide +kernel) (by decide +kernel)
set_option maxRecDepth 20000 in
theorem gX11_count_X11_one : GoodIn wsX11_count (va_wsS RX11 218 yX11_one wsX11_one) := goodIn_app (goodIn_of _ (by decide +kernel)) ggX11_count_X11_one
theorem dX11_count_0 : decode cX11_count 0 = .ok (.iload_n 1, 1) := by decide +kernel
theorem dX11_count_1 : decode cX11_count 1 = .ok (.i2l, 1) := by decide +kernel
theorem dX11_count_2 : decode cX11_count 2 = .ok (.lconst 0, 1) := by decide +kernel
theorem dX11_count_3 : decode cX11_count 3 = .ok (.ldc2_w 263, 3) := by decide +kernel
theorem dX11_count_6 : decode cX11_count 6 = .ok (.invokestatic 46, 3) := by decide +kernel
theorem dX11_count_9 : decode cX11_count 9 = .ok (.ifCond .ne 7, 3) := by decide +kernel
theorem dX11_count_12 : decode cX11_count 12 = .ok (.ldc2_w 56, 3) := by decide +kernel
theorem dX11_count_15 : decode cX11_count 15 = .ok (.lreturn, 1) := by decide +kernel
theorem dX11_count_16 : decode cX11_count 16 = .ok (.iconst 0, 1) := by decide +kernel
theorem dX11_count_17 : decode cX11_count 17 = .ok (.istore_n 2, 1) := by decide +kernel
theorem dX11_count_18 : decode cX11_count 18 = .ok (.iconst 0, 1) := by decide +kernel
theorem dX11_count_19 : decode cX11_count 19 = .ok (.istore_n 3, 1) := by decide +kernel
theorem dX11_count_20 : decode cX11_count 20 = .ok (.iload_n 3, 1) := by decide +kernel
theorem dX11_count_21 : decode cX11_count 21 = .ok (.bipush 8, 2) := by decide +kernel
theorem dX11_count_23 : decode cX11_count 23 = .ok (.if_icmp .ge 29, 3) := by decide +kernel
theorem dX11_count_26 : decode cX11_count 26 = .ok (.iload_n 2, 1) := by decide +kernel
theorem dX11_count_27 : decode cX11_count 27 = .ok (.aload_n 0, 1) := by decide +kernel
theorem dX11_count_28 : decode cX11_count 28 = .ok (.getfield 20, 3) := by decide +kernel
theorem dX11_count_31 : decode cX11_count 31 = .ok (.iload_n 3, 1) := by decide +kernel
theorem dX11_count_32 : decode cX11_count 32 = .ok (.iaload, 1) := by decide +kernel
theorem dX11_count_33 : decode cX11_count 33 = .ok (.ifCond .lt 7, 3) := by decide +kernel
theorem dX11_count_36 : decode cX11_count 36 = .ok (.iconst 1, 1) := by decide +kernel
theorem dX11_count_37 : decode cX11_count 37 = .ok (.goto 4, 3) := by decide +kernel
theorem dX11_count_40 : decode cX11_count 40 = .ok (.iconst 0, 1) := by decide +kernel
theorem dX11_count_41 : decode cX11_count 41 = .ok (.invokestatic 218, 3) := by decide +kernel
theorem dX11_count_44 : decode cX11_count 44 = .ok (.iadd, 1) := by decide +kernel
theorem dX11_count_45 : decode cX11_count 45 = .ok (.istore_n 2, 1) := by decide +kernel
theorem dX11_count_46 : decode cX11_count 46 = .ok (.iinc 3 1, 3) := by decide +kernel
theorem dX11_count_49 : decode cX11_count 49 = .ok (.goto (-29), 3) := by decide +kernel
theorem dX11_count_52 : decode cX11_count 52 = .ok (.iload_n 1, 1) := by decide +kernel
theorem dX11_count_53 : decode cX11_count 53 = .ok (.tableswitch 82 0 5 #[39, 42, 50, 57, 66, 73], 39) := by decide +kernel
theorem dX11_count_92 : decode cX11_count 92 = .ok (.iload_n 2, 1) := by decide +kernel
theorem dX11_count_93 : decode cX11_count 93 = .ok (.i2l, 1) := by decide +kernel
theorem dX11_count_94 : decode cX11_count 94 = .ok (.lreturn, 1) := by decide +kernel
theorem dX11_count_95 : decode cX11_count 95 = .ok (.aload_n 0, 1) := by decide +kernel
theorem dX11_count_96 : decode cX11_count 96 = .ok (.getfield 7, 3) := by decide +kernel
theorem dX11_count_99 : decode cX11_count 99 = .ok (.bipush 17, 2) := by decide +kernel
theorem dX11_count_101 : decode cX11_count 101 = .ok (.laload, 1) := by decide +kernel
theorem dX11_count_102 : decode cX11_count 102 = .ok (.lreturn, 1) := by decide +kernel
theorem dX11_count_103 : decode cX11_count 103 = .ok (.aload_n 0, 1) := by decide +kernel
theorem dX11_count_104 : decode cX11_count 104 = .ok (.getfield 7, 3) := by decide +kernel
theorem dX11_count_107 : decode cX11_count 107 = .ok (.iconst 4, 1) := by decide +kernel
theorem dX11_count_108 : decode cX11_count 108 = .ok (.laload, 1) := by decide +kernel
theorem dX11_count_109 : decode cX11_count 109 = .ok (.lreturn, 1) := by decide +kernel
theorem dX11_count_110 : decode cX11_count 110 = .ok (.aload_n 0, 1) := by decide +kernel
theorem dX11_count_111 : decode cX11_count 111 = .ok (.getfield 7, 3) := by decide +kernel
theorem dX11_count_114 : decode cX11_count 114 = .ok (.sipush 130, 3) := by decide +kernel
theorem dX11_count_117 : decode cX11_count 117 = .ok (.laload, 1) := by decide +kernel
theorem dX11_count_118 : decode cX11_count 118 = .ok (.lreturn, 1) := by decide +kernel
theorem dX11_count_119 : decode cX11_count 119 = .ok (.aload_n 0, 1) := by decide +kernel
theorem dX11_count_120 : decode cX11_count 120 = .ok (.getfield 7, 3) := by decide +kernel
theorem dX11_count_123 : decode cX11_count 123 = .ok (.iconst 0, 1) := by decide +kernel
theorem dX11_count_124 : decode cX11_count 124 = .ok (.laload, 1) := by decide +kernel
theorem dX11_count_125 : decode cX11_count 125 = .ok (.lreturn, 1) := by decide +kernel
theorem dX11_count_126 : decode cX11_count 126 = .ok (.aload_n 0, 1) := by decide +kernel
theorem dX11_count_127 : decode cX11_count 127 = .ok (.getfield 7, 3) := by decide +kernel
theorem dX11_count_130 : decode cX11_count 130 = .ok (.sipush 131, 3) := by decide +kernel
theorem dX11_count_133 : decode cX11_count 133 = .ok (.laload, 1) := by decide +kernel
theorem dX11_count_134 : decode cX11_count 134 = .ok (.lreturn, 1) := by decide +kernel
theorem dX11_count_135 : decode cX11_count 135 = .ok (.aload_n 0, 1) := by decide +kernel
theorem dX11_count_136 : decode cX11_count 136 = .ok (.getfield 76, 3) := by decide +kernel
theorem dX11_count_139 : decode cX11_count 139 = .ok (.i2l, 1) := by decide +kernel
theorem dX11_count_140 : decode cX11_count 140 = .ok (.lreturn, 1) := by decide +kernel
theorem dX11_status_0 : decode cX11_status 0 = .ok (.aload_n 0, 1) := by decide +kernel
theorem dX11_status_1 : decode cX11_status 1 = .ok (.getfield 38, 3) := by decide +kernel
theorem dX11_status_4 : decode cX11_status 4 = .ok (.ireturn, 1) := by decide +kernel
