theorem dX8_init_0 : decode cX8_init 0 = .ok (.aload_n 0, 1) := by decide +kernel
theorem dX8_init_1 : decode cX8_init 1 = .ok (.invokespecial 1, 3) := by decide +kernel
theorem dX8_init_4 : decode cX8_init 4 = .ok (.aload_n 0, 1) := by decide +kernel
theorem dX8_init_5 : decode cX8_init 5 = .ok (.bipush 9, 2) := by decide +kernel
theorem dX8_init_7 : decode cX8_init 7 = .ok (.newarray .int, 2) := by decide +kernel
theorem dX8_init_9 : decode cX8_init 9 = .ok (.dup, 1) := by decide +kernel
theorem dX8_init_10 : decode cX8_init 10 = .ok (.iconst 0, 1) := by decide +kernel
theorem dX8_init_11 : decode cX8_init 11 = .ok (.sipush 255, 3) := by decide +kernel
theorem dX8_init_14 : decode cX8_init 14 = .ok (.iastore, 1) := by decide +kernel
theorem dX8_init_15 : decode cX8_init 15 = .ok (.dup, 1) := by decide +kernel
theorem dX8_init_16 : decode cX8_init 16 = .ok (.iconst 1, 1) := by decide +kernel
theorem dX8_init_17 : decode cX8_init 17 = .ok (.bipush 127, 2) := by decide +kernel
theorem dX8_init_19 : decode cX8_init 19 = .ok (.iastore, 1) := by decide +kernel
theorem dX8_init_20 : decode cX8_init 20 = .ok (.dup, 1) := by decide +kernel
theorem dX8_init_21 : decode cX8_init 21 = .ok (.iconst 2, 1) := by decide +kernel
theorem dX8_init_22 : decode cX8_init 22 = .ok (.bipush 63, 2) := by decide +kernel
theorem dX8_init_24 : decode cX8_init 24 = .ok (.iastore, 1) := by decide +kernel
theorem dX8_init_25 : decode cX8_init 25 = .ok (.dup, 1) := by decide +kernel
theorem dX8_init_26 : decode cX8_init 26 = .ok (.iconst 3, 1) := by decide +kernel
theorem dX8_init_27 : decode cX8_init 27 = .ok (.sipush 159, 3) := by decide +kernel
theorem dX8_init_30 : decode cX8_init 30 = .ok (.iastore, 1) := by decide +kernel
theorem dX8_init_31 : decode cX8_init 31 = .ok (.dup, 1) := by decide +kernel
theorem dX8_init_32 : decode cX8_init 32 = .ok (.iconst 4, 1) := by decide +kernel
theorem dX8_init_33 : decode cX8_init 33 = .ok (.sipush 143, 3) := by decide +kernel
theorem dX8_init_36 : decode cX8_init 36 = .ok (.iastore, 1) := by decide +kernel
theorem dX8_init_37 : decode cX8_init 37 = .ok (.dup, 1) := by decide +kernel
theorem dX8_init_38 : decode cX8_init 38 = .ok (.iconst 5, 1) := by decide +kernel
theorem dX8_init_39 : decode cX8_init 39 = .ok (.bipush 119, 2) := by decide +kernel
theorem dX8_init_41 : decode cX8_init 41 = .ok (.iastore, 1) := by decide +kernel
theorem dX8_init_42 : decode cX8_init 42 = .ok (.dup, 1) := by decide +kernel
theorem dX8_init_43 : decode cX8_init 43 = .ok (.bipush 6, 2) := by decide +kernel
theorem dX8_init_45 : decode cX8_init 45 = .ok (.bipush 115, 2) := by decide +kernel
theorem dX8_init_47 : decode cX8_init 47 = .ok (.iastore, 1) := by decide +kernel
theorem dX8_init_48 : decode cX8_init 48 = .ok (.dup, 1) := by decide +kernel
theorem dX8_init_49 : decode cX8_init 49 = .ok (.bipush 7, 2) := by decide +kernel
theorem dX8_init_51 : decode cX8_init 51 = .ok (.bipush 113, 2) := by decide +kernel
theorem dX8_init_53 : decode cX8_init 53 = .ok (.iastore, 1) := by decide +kernel
theorem dX8_init_54 : decode cX8_init 54 = .ok (.dup, 1) := by decide +kernel
theorem dX8_init_55 : decode cX8_init 55 = .ok (.bipush 8, 2) := by decide +kernel
theorem dX8_init_57 : decode cX8_init 57 = .ok (.bipush 114, 2) := by decide +kernel
theorem dX8_init_59 : decode cX8_init 59 = .ok (.iastore, 1) := by decide +kernel
theorem dX8_init_60 : decode cX8_init 60 = .ok (.putfield 7, 3) := by decide +kernel
theorem dX8_init_63 : decode cX8_init 63 = .ok (.aload_n 0, 1) := by decide +kernel
theorem dX8_init_64 : decode cX8_init 64 = .ok (.iconst 3, 1) := by decide +kernel
theorem dX8_init_65 : decode cX8_init 65 = .ok (.putfield 13, 3) := by decide +kernel
theorem dX8_init_68 : decode cX8_init 68 = .ok (.aload_n 0, 1) := by decide +kernel
theorem dX8_init_69 : decode cX8_init 69 = .ok (.bipush 32, 2) := by decide +kernel
theorem dX8_init_71 : decode cX8_init 71 = .ok (.newarray .int, 2) := by decide +kernel
theorem dX8_init_73 : decode cX8_init 73 = .ok (.putfield 17, 3) := by decide +kernel
theorem dX8_init_76 : decode cX8_init 76 = .ok (.aload_n 0, 1) := by decide +kernel
theorem dX8_init_77 : decode cX8_init 77 = .ok (.bipush 8, 2) := by decide +kernel
theorem dX8_init_79 : decode cX8_init 79 = .ok (.newarray .int, 2) := by decide +kernel
theorem dX8_init_81 : decode cX8_init 81 = .ok (.putfield 20, 3) := by decide +kernel
theorem dX8_init_84 : decode cX8_init 84 = .ok (.aload_n 0, 1) := by decide +kernel
theorem dX8_init_85 : decode cX8_init 85 = .ok (.iconst 4, 1) := by decide +kernel
theorem dX8_init_86 : decode cX8_init 86 = .ok (.newarray .int, 2) := by decide +kernel
theorem dX8_init_88 : decode cX8_init 88 = .ok (.putfield 23, 3) := by decide +kernel
theorem dX8_init_91 : decode cX8_init 91 = .ok (.aload_n 0, 1) := by decide +kernel
theorem dX8_init_92 : decode cX8_init 92 = .ok (.bipush 40, 2) := by decide +kernel
theorem dX8_init_94 : decode cX8_init 94 = .ok (.newarray .int, 2) := by decide +kernel
theorem dX8_init_96 : decode cX8_init 96 = .ok (.putfield 26, 3) := by decide +kernel
theorem dX8_init_99 : decode cX8_init 99 = .ok (.aload_n 0, 1) := by decide +kernel
theorem dX8_init_100 : decode cX8_init 100 = .ok (.bipush 40, 2) := by decide +kernel
theorem dX8_init_102 : decode cX8_init 102 = .ok (.newarray .int, 2) := by decide +kernel
theorem dX8_init_104 : decode cX8_init 104 = .ok (.putfield 29, 3) := by decide +kernel
theorem dX8_init_107 : decode cX8_init 107 = .ok (.aload_n 0, 1) := by decide +kernel
theorem dX8_init_108 : decode cX8_init 108 = .ok (.bipush 40, 2) := by decide +kernel
theorem dX8_init_110 : decode cX8_init 110 = .ok (.newarray .boolean, 2) := by decide +kernel
theorem dX8_init_112 : decode cX8_init 112 = .ok (.putfield 32, 3) := by decide +kernel
theorem dX8_init_115 : decode cX8_init 115 = .ok (.aload_n 0, 1) := by decide +kernel
theorem dX8_init_116 : decode cX8_init 116 = .ok (.iconst 4, 1) := by decide +kernel
theorem dX8_init_117 : decode cX8_init 117 = .ok (.newarray .int, 2) := by decide +kernel
theorem dX8_init_119 : decode cX8_init 119 = .ok (.putfield 36, 3) := by decide +kernel
theorem dX8_init_122 : decode cX8_init 122 = .ok (.aload_n 0, 1) := by decide +kernel
theorem dX8_init_123 : decode cX8_init 123 = .ok (.bipush 40, 2) := by decide +kernel
theorem dX8_init_125 : decode cX8_init 125 = .ok (.newarray .int, 2) := by decide +kernel
theorem dX8_init_127 : decode cX8_init 127 = .ok (.putfield 39, 3) := by decide +kernel
theorem dX8_init_130 : decode cX8_init 130 = .ok (.aload_n 0, 1) := by decide +kernel
theorem dX8_init_131 : decode cX8_init 131 = .ok (.bipush 40, 2) := by decide +kernel
theorem dX8_init_133 : decode cX8_init 133 = .ok (.newarray .int, 2) := by decide +kernel
theorem dX8_init_135 : decode cX8_init 135 = .ok (.putfield 42, 3) := by decide +kernel
theorem dX8_init_138 : decode cX8_init 138 = .ok (.aload_n 0, 1) := by decide +kernel
theorem dX8_init_139 : decode cX8_init 139 = .ok (.bipush 40, 2) := by decide +kernel
theorem dX8_init_141 : decode cX8_init 141 = .ok (.newarray .boolean, 2) := by decide +kernel
theorem dX8_init_143 : decode cX8_init 143 = .ok (.putfield 45, 3) := by decide +kernel
theorem dX8_init_146 : decode cX8_init 146 = .ok (.aload_n 0, 1) := by decide +kernel
theorem dX8_init_147 : decode cX8_init 147 = .ok (.sipush 369, 3) := by decide +kernel
theorem dX8_init_150 : decode cX8_init 150 = .ok (.newarray .int, 2) := by decide +kernel
theorem dX8_init_152 : decode cX8_init 152 = .ok (.putfield 48, 3) := by decide +kernel
theorem dX8_init_155 : decode cX8_init 155 = .ok (.aload_n 0, 1) := by decide +kernel
theorem dX8_init_156 : decode cX8_init 156 = .ok (.sipush 369, 3) := by decide +kernel
theorem dX8_init_159 : decode cX8_init 159 = .ok (.newarray .int, 2) := by decide +kernel
theorem dX8_init_161 : decode cX8_init 161 = .ok (.putfield 51, 3) := by decide +kernel
theorem dX8_init_164 : decode cX8_init 164 = .ok (.aload_n 0, 1) := by decide +kernel
theorem dX8_init_165 : decode cX8_init 165 = .ok (.sipush 369, 3) := by decide +kernel
theorem dX8_init_168 : decode cX8_init 168 = .ok (.newarray .int, 2) := by decide +kernel
theorem dX8_init_170 : decode cX8_init 170 = .ok (.putfield 54, 3) := by decide +kernel
theorem dX8_init_173 : decode cX8_init 173 = .ok (.aload_n 0, 1) := by decide +kernel
theorem dX8_init_174 : decode cX8_init 174 = .ok (.iconst 4, 1) := by decide +kernel
theorem dX8_init_175 : decode cX8_init 175 = .ok (.newarray .int, 2) := by decide +kernel
theorem dX8_init_177 : decode cX8_init 177 = .ok (.putfield 57, 3) := by decide +kernel
theorem dX8_init_180 : decode cX8_init 180 = .ok (.aload_n 0, 1) := by decide +kernel
theorem dX8_init_181 : decode cX8_init 181 = .ok (.iconst 4, 1) := by decide +kernel
theorem dX8_init_182 : decode cX8_init 182 = .ok (.newarray .int, 2) := by decide +kernel
theorem dX8_init_184 : decode cX8_init 184 = .ok (.putfield 60, 3) := by decide +kernel
theorem dX8_init_187 : decode cX8_init 187 = .ok (.return_, 1) := by decide +kernel
theorem dX8_thrown_0 : decode cX8_thrown 0 = .ok (.aload_n 0, 1) := by decide +kernel
theorem dX8_thrown_1 : decode cX8_thrown 1 = .ok (.getfield 63, 3) := by decide +kernel
theorem dX8_thrown_4 : decode cX8_thrown 4 = .ok (.ireturn, 1) := by decide +kernel
theorem dX8_goesWell_0 : decode cX8_goesWell 0 = .ok (.aload_n 0, 1) := by decide +kernel
theorem dX8_goesWell_1 : decode cX8_goesWell 1 = .ok (.iload_n 1, 1) := by decide +kernel
theorem dX8_goesWell_2 : decode cX8_goesWell 2 = .ok (.putfield 63, 3) := by decide +kernel
theorem dX8_goesWell_5 : decode cX8_goesWell 5 = .ok (.iload_n 1, 1) := by decide +kernel
theorem dX8_goesWell_6 : decode cX8_goesWell 6 = .ok (.ifCond .ne 7, 3) := by decide +kernel
theorem dX8_goesWell_9 : decode cX8_goesWell 9 = .ok (.iconst 1, 1) := by decide +kernel
theorem dX8_goesWell_10 : decode cX8_goesWell 10 = .ok (.goto 4, 3) := by decide +kernel
theorem dX8_goesWell_13 : decode cX8_goesWell 13 = .ok (.iconst 0, 1) := by decide +kernel
theorem dX8_goesWell_14 : decode cX8_goesWell 14 = .ok (.ireturn, 1) := by decide +kernel
theorem dX8_in_0 : decode cX8_in 0 = .ok (.iload_n 0, 1) := by decide +kernel
theorem dX8_in_1 : decode cX8_in 1 = .ok (.iload_n 1, 1) := by decide +kernel
theorem dX8_in_2 : decode cX8_in 2 = .ok (.if_icmp .lt 12, 3) := by decide +kernel
theorem dX8_in_5 : decode cX8_in 5 = .ok (.iload_n 0, 1) := by decide +kernel
theorem dX8_in_6 : decode cX8_in 6 = .ok (.iload_n 2, 1) := by decide +kernel
theorem dX8_in_7 : decode cX8_in 7 = .ok (.if_icmp .gt 7, 3) := by decide +kernel
theorem dX8_in_10 : decode cX8_in 10 = .ok (.iconst 1, 1) := by decide +kernel
theorem dX8_in_11 : decode cX8_in 11 = .ok (.goto 4, 3) := by decide +kernel
theorem dX8_in_14 : decode cX8_in 14 = .ok (.iconst 0, 1) := by decide +kernel
theorem dX8_in_15 : decode cX8_in 15 = .ok (.ireturn, 1) := by decide +kernel
set_option maxRecDepth 20000 in
theorem ggX8_isPitch_X8_in : GoodIn wsX8_isPitch wsX8_in := goodIn_r _ [4] (by decide +kernel) (by decide +kernel)
set_option maxRecDepth 20000 in
theorem gX8_isPitch_X8_in : GoodIn wsX8_isPitch (va_wsS RX8 66 yX8_in wsX8_in) := goodIn_app (goodIn_of _ (by decide +kernel)) ggX8_isPitch_X8_in
theorem dX8_isPitch_0 : decode cX8_isPitch 0 = .ok (.iload_n 0, 1) := by decide +kernel
theorem dX8_isPitch_1 : decode cX8_isPitch 1 = .ok (.iconst 0, 1) := by decide +kernel
theorem dX8_isPitch_2 : decode cX8_isPitch 2 = .ok (.bipush 8, 2) := by decide +kernel
theorem dX8_isPitch_4 : decode cX8_isPitch 4 = .ok (.invokestatic 66, 3) := by decide +kernel
theorem dX8_isPitch_7 : decode cX8_isPitch 7 = .ok (.ireturn, 1) := by decide +kernel
theorem dX8_costOf_0 : decode cX8_costOf 0 = .ok (.iconst 0, 1) := by decide +kernel
theorem dX8_costOf_1 : decode cX8_costOf 1 = .ok (.istore_n 3, 1) := by decide +kernel
theorem dX8_costOf_2 : decode cX8_costOf 2 = .ok (.iconst 0, 1) := by decide +kernel
theorem dX8_costOf_3 : decode cX8_costOf 3 = .ok (.istore 4, 2) := by decide +kernel
theorem dX8_costOf_5 : decode cX8_costOf 5 = .ok (.iload 4, 2) := by decide +kernel
theorem dX8_costOf_7 : decode cX8_costOf 7 = .ok (.bipush 8, 2) := by decide +kernel
theorem dX8_costOf_9 : decode cX8_costOf 9 = .ok (.if_icmp .ge 30, 3) := by decide +kernel
theorem dX8_costOf_12 : decode cX8_costOf 12 = .ok (.iload_n 3, 1) := by decide +kernel
theorem dX8_costOf_13 : decode cX8_costOf 13 = .ok (.aload_n 0, 1) := by decide +kernel
theorem dX8_costOf_14 : decode cX8_costOf 14 = .ok (.getfield 7, 3) := by decide +kernel
theorem dX8_costOf_17 : decode cX8_costOf 17 = .ok (.iload_n 1, 1) := by decide +kernel
theorem dX8_costOf_18 : decode cX8_costOf 18 = .ok (.iaload, 1) := by decide +kernel
theorem dX8_costOf_19 : decode cX8_costOf 19 = .ok (.aload_n 0, 1) := by decide +kernel
theorem dX8_costOf_20 : decode cX8_costOf 20 = .ok (.getfield 7, 3) := by decide +kernel
theorem dX8_costOf_23 : decode cX8_costOf 23 = .ok (.iload_n 2, 1) := by decide +kernel
theorem dX8_costOf_24 : decode cX8_costOf 24 = .ok (.iaload, 1) := by decide +kernel
theorem dX8_costOf_25 : decode cX8_costOf 25 = .ok (.ixor, 1) := by decide +kernel
theorem dX8_costOf_26 : decode cX8_costOf 26 = .ok (.iload 4, 2) := by decide +kernel
theorem dX8_costOf_28 : decode cX8_costOf 28 = .ok (.ishr, 1) := by decide +kernel
theorem dX8_costOf_29 : decode cX8_costOf 29 = .ok (.iconst 1, 1) := by decide +kernel
theorem dX8_costOf_30 : decode cX8_costOf 30 = .ok (.iand, 1) := by decide +kernel
theorem dX8_costOf_31 : decode cX8_costOf 31 = .ok (.iadd, 1) := by decide +kernel
theorem dX8_costOf_32 : decode cX8_costOf 32 = .ok (.istore_n 3, 1) := by decide +kernel
theorem dX8_costOf_33 : decode cX8_costOf 33 = .ok (.iinc 4 1, 3) := by decide +kernel
theorem dX8_costOf_36 : decode cX8_costOf 36 = .ok (.goto (-31), 3) := by decide +kernel
theorem dX8_costOf_39 : decode cX8_costOf 39 = .ok (.iload_n 3, 1) := by decide +kernel
theorem dX8_costOf_40 : decode cX8_costOf 40 = .ok (.ireturn, 1) := by decide +kernel
set_option maxRecDepth 20000 in
theorem ggX8_bars_X8_costOf : GoodIn wsX8_bars wsX8_costOf := goodIn_r _ [7, 1, 8, 9, 10, 11, 12, 13, 14, 15, 16, 17, 18, 19, 20, 21, 22, 23, 24, 25, 26, 27, 28] (by decide +kernel) (by decide +kernel)
set_option maxRecDepth 20000 in
theorem gX8_bars_X8_costOf : GoodIn wsX8_bars (wsV RX8 70 RX8 yX8_costOf wsX8_costOf) := goodIn_app (goodIn_of _ (by decide +kernel)) ggX8_bars_X8_costOf
theorem dX8_bars_0 : decode cX8_bars 0 = .ok (.aload_n 0, 1) := by decide +kernel
theorem dX8_bars_1 : decode cX8_bars 1 = .ok (.getfield 7, 3) := by decide +kernel
theorem dX8_bars_4 : decode cX8_bars 4 = .ok (.iload_n 1, 1) := by decide +kernel
theorem dX8_bars_5 : decode cX8_bars 5 = .ok (.iaload, 1) := by decide +kernel
theorem dX8_bars_6 : decode cX8_bars 6 = .ok (.aload_n 0, 1) := by decide +kernel
theorem dX8_bars_7 : decode cX8_bars 7 = .ok (.getfield 7, 3) := by decide +kernel
theorem dX8_bars_10 : decode cX8_bars 10 = .ok (.iload_n 2, 1) := by decide +kernel
theorem dX8_bars_11 : decode cX8_bars 11 = .ok (.iaload, 1) := by decide +kernel
theorem dX8_bars_12 : decode cX8_bars 12 = .ok (.iconst (-1), 1) := by decide +kernel
theorem dX8_bars_13 : decode cX8_bars 13 = .ok (.ixor, 1) := by decide +kernel
theorem dX8_bars_14 : decode cX8_bars 14 = .ok (.iand, 1) := by decide +kernel
theorem dX8_bars_15 : decode cX8_bars 15 = .ok (.ifCond .eq 7, 3) := by decide +kernel
theorem dX8_bars_18 : decode cX8_bars 18 = .ok (.iconst 1, 1) := by decide +kernel
theorem dX8_bars_19 : decode cX8_bars 19 = .ok (.goto 4, 3) := by decide +kernel
theorem dX8_bars_22 : decode cX8_bars 22 = .ok (.iconst 0, 1) := by decide +kernel
theorem dX8_bars_23 : decode cX8_bars 23 = .ok (.istore_n 3, 1) := by decide +kernel
theorem dX8_bars_24 : decode cX8_bars 24 = .ok (.aload_n 0, 1) := by decide +kernel
theorem dX8_bars_25 : decode cX8_bars 25 = .ok (.getfield 7, 3) := by decide +kernel
theorem dX8_bars_28 : decode cX8_bars 28 = .ok (.iload_n 2, 1) := by decide +kernel
theorem dX8_bars_29 : decode cX8_bars 29 = .ok (.iaload, 1) := by decide +kernel
theorem dX8_bars_30 : decode cX8_bars 30 = .ok (.aload_n 0, 1) := by decide +kernel
theorem dX8_bars_31 : decode cX8_bars 31 = .ok (.getfield 7, 3) := by decide +kernel
theorem dX8_bars_34 : decode cX8_bars 34 = .ok (.iload_n 1, 1) := by decide +kernel
theorem dX8_bars_35 : decode cX8_bars 35 = .ok (.iaload, 1) := by decide +kernel
theorem dX8_bars_36 : decode cX8_bars 36 = .ok (.iconst (-1), 1) := by decide +kernel
theorem dX8_bars_37 : decode cX8_bars 37 = .ok (.ixor, 1) := by decide +kernel
theorem dX8_bars_38 : decode cX8_bars 38 = .ok (.iand, 1) := by decide +kernel
theorem dX8_bars_39 : decode cX8_bars 39 = .ok (.ifCond .eq 7, 3) := by decide +kernel
theorem dX8_bars_42 : decode cX8_bars 42 = .ok (.iconst 1, 1) := by decide +kernel
theorem dX8_bars_43 : decode cX8_bars 43 = .ok (.goto 4, 3) := by decide +kernel
theorem dX8_bars_46 : decode cX8_bars 46 = .ok (.iconst 0, 1) := by decide +kernel
theorem dX8_bars_47 : decode cX8_bars 47 = .ok (.istore 4, 2) := by decide +kernel
theorem dX8_bars_49 : decode cX8_bars 49 = .ok (.iload_n 3, 1) := by decide +kernel
theorem dX8_bars_50 : decode cX8_bars 50 = .ok (.ifCond .eq 25, 3) := by decide +kernel
theorem dX8_bars_53 : decode cX8_bars 53 = .ok (.iload 4, 2) := by decide +kernel
theorem dX8_bars_55 : decode cX8_bars 55 = .ok (.ifCond .eq 20, 3) := by decide +kernel
theorem dX8_bars_58 : decode cX8_bars 58 = .ok (.aload_n 0, 1) := by decide +kernel
theorem dX8_bars_59 : decode cX8_bars 59 = .ok (.iload_n 1, 1) := by decide +kernel
theorem dX8_bars_60 : decode cX8_bars 60 = .ok (.iload_n 2, 1) := by decide +kernel
theorem dX8_bars_61 : decode cX8_bars 61 = .ok (.invokevirtual 70, 3) := by decide +kernel
theorem dX8_bars_64 : decode cX8_bars 64 = .ok (.aload_n 0, 1) := by decide +kernel
theorem dX8_bars_65 : decode cX8_bars 65 = .ok (.getfield 13, 3) := by decide +kernel
theorem dX8_bars_68 : decode cX8_bars 68 = .ok (.if_icmp .le 7, 3) := by decide +kernel
theorem dX8_bars_71 : decode cX8_bars 71 = .ok (.iconst 1, 1) := by decide +kernel
theorem dX8_bars_72 : decode cX8_bars 72 = .ok (.goto 4, 3) := by decide +kernel
theorem dX8_bars_75 : decode cX8_bars 75 = .ok (.iconst 0, 1) := by decide +kernel
theorem dX8_bars_76 : decode cX8_bars 76 = .ok (.ireturn, 1) := by decide +kernel
set_option maxRecDepth 20000 in
theorem ggX8_cost_X8_isPitch : GoodIn wsX8_cost wsX8_isPitch := goodIn_r _ [4, 5, 6, 3, 7] (by decide +kernel) (by decide +kernel)
set_option maxRecDepth 20000 in
theorem gX8_cost_X8_isPitch : GoodIn wsX8_cost (va_wsS RX8 74 yX8_isPitch wsX8_isPitch) := goodIn_app (goodIn_of _ (by decide +kernel)) ggX8_cost_X8_isPitch
set_option maxRecDepth 20000 in
theorem ggX8_cost_X8_goesWell : GoodIn wsX8_cost wsX8_goesWell := goodIn_r _ [11, 12, 18, 19, 20, 21, 22, 23, 24, 25, 26, 27, 28, 29, 30, 31, 32, 33, 34, 35, 36, 37, 38] (by decide +kernel) (by decide +kernel)
set_option maxRecDepth 20000 in
theorem gX8_cost_X8_goesWell : GoodIn wsX8_cost (wsV RX8 78 RX8 yX8_goesWell wsX8_goesWell) := goodIn_app (goodIn_of _ (by decide +kernel)) ggX8_cost_X8_goesWell
set_option maxRecDepth 20000 in
theorem ggX8_cost_X8_costOf : GoodIn wsX8_cost wsX8_costOf := goodIn_r _ [16, 17, 18, 19, 20, 21, 22, 23, 24, 25, 26, 27, 28, 29, 30, 31, 32, 33, 34, 35, 36, 37, 38] (by decide +kernel) (by decide +kernel)
set_option maxRecDepth 20000 in
theorem gX8_cost_X8_costOf : GoodIn wsX8_cost (wsV RX8 70 RX8 yX8_costOf wsX8_costOf) := goodIn_app (goodIn_of _ (by decide +kernel)) ggX8_cost_X8_costOf
theorem dX8_cost_0 : decode cX8_cost 0 = .ok (.aload_n 0, 1) := by decide +kernel
theorem dX8_cost_1 : decode cX8_cost 1 = .ok (.iload_n 1, 1) := by decide +kernel
theorem dX8_cost_2 : decode cX8_cost 2 = .ok (.invokestatic 74, 3) := by decide +kernel
theorem dX8_cost_5 : decode cX8_cost 5 = .ok (.ifCond .eq 14, 3) := by decide +kernel
theorem dX8_cost_8 : decode cX8_cost 8 = .ok (.iload_n 2, 1) := by decide +kernel
theorem dX8_cost_9 : decode cX8_cost 9 = .ok (.invokestatic 74, 3) := by decide +kernel
theorem dX8_cost_12 : decode cX8_cost 12 = .ok (.ifCond .eq 7, 3) := by decide +kernel
theorem dX8_cost_15 : decode cX8_cost 15 = .ok (.iconst 0, 1) := by decide +kernel
theorem dX8_cost_16 : decode cX8_cost 16 = .ok (.goto 4, 3) := by decide +kernel
theorem dX8_cost_19 : decode cX8_cost 19 = .ok (.iconst 1, 1) := by decide +kernel
theorem dX8_cost_20 : decode cX8_cost 20 = .ok (.invokevirtual 78, 3) := by decide +kernel
theorem dX8_cost_23 : decode cX8_cost 23 = .ok (.ifCond .eq 12, 3) := by decide +kernel
theorem dX8_cost_26 : decode cX8_cost 26 = .ok (.aload_n 0, 1) := by decide +kernel
theorem dX8_cost_27 : decode cX8_cost 27 = .ok (.iload_n 1, 1) := by decide +kernel
theorem dX8_cost_28 : decode cX8_cost 28 = .ok (.iload_n 2, 1) := by decide +kernel
theorem dX8_cost_29 : decode cX8_cost 29 = .ok (.invokevirtual 70, 3) := by decide +kernel
theorem dX8_cost_32 : decode cX8_cost 32 = .ok (.goto 4, 3) := by decide +kernel
theorem dX8_cost_35 : decode cX8_cost 35 = .ok (.iconst 0, 1) := by decide +kernel
theorem dX8_cost_36 : decode cX8_cost 36 = .ok (.ireturn, 1) := by decide +kernel
set_option maxRecDepth 20000 in
theorem ggX8_isBarred_X8_isPitch : GoodIn wsX8_isBarred wsX8_isPitch := goodIn_r _ [4, 5, 6, 3, 7] (by decide +kernel) (by decide +kernel)
set_option maxRecDepth 20000 in
theorem gX8_isBarred_X8_isPitch : GoodIn wsX8_isBarred (va_wsS RX8 74 yX8_isPitch wsX8_isPitch) := goodIn_app (goodIn_of _ (by decide +kernel)) ggX8_isBarred_X8_isPitch
set_option maxRecDepth 20000 in
theorem ggX8_isBarred_X8_goesWell : GoodIn wsX8_isBarred wsX8_goesWell := goodIn_r _ [11, 12, 23, 24, 25, 26, 27, 28, 29, 30, 31, 32, 33, 34, 35, 36, 37, 38, 39, 40, 41, 42, 43] (by decide +kernel) (by decide +kernel)
set_option maxRecDepth 20000 in
theorem gX8_isBarred_X8_goesWell : GoodIn wsX8_isBarred (wsV RX8 78 RX8 yX8_goesWell wsX8_goesWell) := goodIn_app (goodIn_of _ (by decide +kernel)) ggX8_isBarred_X8_goesWell
set_option maxRecDepth 20000 in
theorem ggX8_isBarred_X8_bars : GoodIn wsX8_isBarred wsX8_bars := goodIn_r _ [16, 17, 18, 19, 20, 21, 3, 22, 23, 24, 25, 26, 27, 28, 29, 30, 31, 32, 33, 34, 35, 36, 37, 38, 39, 40, 41, 42, 43] (by decide +kernel) (by decide +kernel)
set_option maxRecDepth 20000 in
theorem gX8_isBarred_X8_bars : GoodIn wsX8_isBarred (wsV RX8 81 RX8 yX8_bars wsX8_bars) := goodIn_app (goodIn_of _ (by decide +kernel)) ggX8_isBarred_X8_bars
theorem dX8_isBarred_0 : decode cX8_isBarred 0 = .ok (.aload_n 0, 1) := by decide +kernel
theorem dX8_isBarred_1 : decode cX8_isBarred 1 = .ok (.iload_n 1, 1) := by decide +kernel
theorem dX8_isBarred_2 : decode cX8_isBarred 2 = .ok (.invokestatic 74, 3) := by decide +kernel
theorem dX8_isBarred_5 : decode cX8_isBarred 5 = .ok (.ifCond .eq 14, 3) := by decide +kernel
theorem dX8_isBarred_8 : decode cX8_isBarred 8 = .ok (.iload_n 2, 1) := by decide +kernel
theorem dX8_isBarred_9 : decode cX8_isBarred 9 = .ok (.invokestatic 74, 3) := by decide +kernel
theorem dX8_isBarred_12 : decode cX8_isBarred 12 = .ok (.ifCond .eq 7, 3) := by decide +kernel
theorem dX8_isBarred_15 : decode cX8_isBarred 15 = .ok (.iconst 0, 1) := by decide +kernel
theorem dX8_isBarred_16 : decode cX8_isBarred 16 = .ok (.goto 4, 3) := by decide +kernel
theorem dX8_isBarred_19 : decode cX8_isBarred 19 = .ok (.iconst 1, 1) := by decide +kernel
theorem dX8_isBarred_20 : decode cX8_isBarred 20 = .ok (.invokevirtual 78, 3) := by decide +kernel
theorem dX8_isBarred_23 : decode cX8_isBarred 23 = .ok (.ifCond .eq 16, 3) := by decide +kernel
theorem dX8_isBarred_26 : decode cX8_isBarred 26 = .ok (.aload_n 0, 1) := by decide +kernel
theorem dX8_isBarred_27 : decode cX8_isBarred 27 = .ok (.iload_n 1, 1) := by decide +kernel
theorem dX8_isBarred_28 : decode cX8_isBarred 28 = .ok (.iload_n 2, 1) := by decide +kernel
theorem dX8_isBarred_29 : decode cX8_isBarred 29 = .ok (.invokevirtual 81, 3) := by decide +kernel
theorem dX8_isBarred_32 : decode cX8_isBarred 32 = .ok (.ifCond .eq 7, 3) := by decide +kernel
theorem dX8_isBarred_35 : decode cX8_isBarred 35 = .ok (.iconst 1, 1) := by decide +kernel
theorem dX8_isBarred_36 : decode cX8_isBarred 36 = .ok (.goto 4, 3) := by decide +kernel
theorem dX8_isBarred_39 : decode cX8_isBarred 39 = .ok (.iconst 0, 1) := by decide +kernel
theorem dX8_isBarred_40 : decode cX8_isBarred 40 = .ok (.ireturn, 1) := by decide +kernel
set_option maxRecDepth 20000 in
theorem ggX8_setLimit_X8_in : GoodIn wsX8_setLimit wsX8_in := goodIn_r _ [5] (by decide +kernel) (by decide +kernel)
set_option maxRecDepth 20000 in
theorem gX8_setLimit_X8_in : GoodIn wsX8_setLimit (va_wsS RX8 66 yX8_in wsX8_in) := goodIn_app (goodIn_of _ (by decide +kernel)) ggX8_setLimit_X8_in
set_option maxRecDepth 20000 in
theorem ggX8_setLimit_X8_goesWell : GoodIn wsX8_setLimit wsX8_goesWell := goodIn_r _ [9, 10, 20, 21, 22, 23, 24, 25, 26, 27, 28, 29, 30, 31, 32, 33, 34, 35, 36, 37, 38, 39, 40] (by decide +kernel) (by decide +kernel)
set_option maxRecDepth 20000 in
theorem gX8_setLimit_X8_goesWell : GoodIn wsX8_setLimit (wsV RX8 78 RX8 yX8_goesWell wsX8_goesWell) := goodIn_app (goodIn_of _ (by decide +kernel)) ggX8_setLimit_X8_goesWell
set_option maxRecDepth 20000 in
theorem ggX8_setLimit_X8_bars : GoodIn wsX8_setLimit wsX8_bars := goodIn_r _ [14, 15, 1, 16, 17, 18, 4, 19, 20, 21, 22, 23, 24, 25, 26, 27, 28, 29, 30, 31, 32, 33, 34, 35, 36, 37, 38, 39, 40] (by decide +kernel) (by decide +kernel)
set_option maxRecDepth 20000 in
theorem gX8_setLimit_X8_bars : GoodIn wsX8_setLimit (wsV RX8 81 RX8 yX8_bars wsX8_bars) := goodIn_app (goodIn_of _ (by decide +kernel)) ggX8_setLimit_X8_bars
theorem dX8_setLimit_0 : decode cX8_setLimit 0 = .ok (.aload_n 0, 1) := by decide +kernel
theorem dX8_setLimit_1 : decode cX8_setLimit 1 = .ok (.iload_n 1, 1) := by decide +kernel
theorem dX8_setLimit_2 : decode cX8_setLimit 2 = .ok (.iconst 0, 1) := by decide +kernel
theorem dX8_setLimit_3 : decode cX8_setLimit 3 = .ok (.bipush 8, 2) := by decide +kernel
theorem dX8_setLimit_5 : decode cX8_setLimit 5 = .ok (.invokestatic 66, 3) := by decide +kernel
theorem dX8_setLimit_8 : decode cX8_setLimit 8 = .ok (.ifCond .eq 7, 3) := by decide +kernel
theorem dX8_setLimit_11 : decode cX8_setLimit 11 = .ok (.iconst 0, 1) := by decide +kernel
theorem dX8_setLimit_12 : decode cX8_setLimit 12 = .ok (.goto 4, 3) := by decide +kernel
theorem dX8_setLimit_15 : decode cX8_setLimit 15 = .ok (.iconst 1, 1) := by decide +kernel
theorem dX8_setLimit_16 : decode cX8_setLimit 16 = .ok (.invokevirtual 78, 3) := by decide +kernel
theorem dX8_setLimit_19 : decode cX8_setLimit 19 = .ok (.ifCond .ne 5, 3) := by decide +kernel
theorem dX8_setLimit_22 : decode cX8_setLimit 22 = .ok (.iconst 0, 1) := by decide +kernel
theorem dX8_setLimit_23 : decode cX8_setLimit 23 = .ok (.ireturn, 1) := by decide +kernel
theorem dX8_setLimit_24 : decode cX8_setLimit 24 = .ok (.aload_n 0, 1) := by decide +kernel
theorem dX8_setLimit_25 : decode cX8_setLimit 25 = .ok (.iload_n 1, 1) := by decide +kernel
theorem dX8_setLimit_26 : decode cX8_setLimit 26 = .ok (.putfield 13, 3) := by decide +kernel
theorem dX8_setLimit_29 : decode cX8_setLimit 29 = .ok (.iconst 0, 1) := by decide +kernel
theorem dX8_setLimit_30 : decode cX8_setLimit 30 = .ok (.istore_n 2, 1) := by decide +kernel
theorem dX8_setLimit_31 : decode cX8_setLimit 31 = .ok (.iconst 0, 1) := by decide +kernel
theorem dX8_setLimit_32 : decode cX8_setLimit 32 = .ok (.istore_n 3, 1) := by decide +kernel
theorem dX8_setLimit_33 : decode cX8_setLimit 33 = .ok (.iload_n 3, 1) := by decide +kernel
theorem dX8_setLimit_34 : decode cX8_setLimit 34 = .ok (.bipush 9, 2) := by decide +kernel
theorem dX8_setLimit_36 : decode cX8_setLimit 36 = .ok (.if_icmp .ge 43, 3) := by decide +kernel
theorem dX8_setLimit_39 : decode cX8_setLimit 39 = .ok (.iconst 0, 1) := by decide +kernel
theorem dX8_setLimit_40 : decode cX8_setLimit 40 = .ok (.istore 4, 2) := by decide +kernel
theorem dX8_setLimit_42 : decode cX8_setLimit 42 = .ok (.iload 4, 2) := by decide +kernel
theorem dX8_setLimit_44 : decode cX8_setLimit 44 = .ok (.bipush 9, 2) := by decide +kernel
theorem dX8_setLimit_46 : decode cX8_setLimit 46 = .ok (.if_icmp .ge 27, 3) := by decide +kernel
theorem dX8_setLimit_49 : decode cX8_setLimit 49 = .ok (.iload_n 2, 1) := by decide +kernel
theorem dX8_setLimit_50 : decode cX8_setLimit 50 = .ok (.aload_n 0, 1) := by decide +kernel
theorem dX8_setLimit_51 : decode cX8_setLimit 51 = .ok (.iload_n 3, 1) := by decide +kernel
theorem dX8_setLimit_52 : decode cX8_setLimit 52 = .ok (.iload 4, 2) := by decide +kernel
theorem dX8_setLimit_54 : decode cX8_setLimit 54 = .ok (.invokevirtual 81, 3) := by decide +kernel
theorem dX8_setLimit_57 : decode cX8_setLimit 57 = .ok (.ifCond .eq 7, 3) := by decide +kernel
theorem dX8_setLimit_60 : decode cX8_setLimit 60 = .ok (.iconst 1, 1) := by decide +kernel
theorem dX8_setLimit_61 : decode cX8_setLimit 61 = .ok (.goto 4, 3) := by decide +kernel
theorem dX8_setLimit_64 : decode cX8_setLimit 64 = .ok (.iconst 0, 1) := by decide +kernel
theorem dX8_setLimit_65 : decode cX8_setLimit 65 = .ok (.iadd, 1) := by decide +kernel
theorem dX8_setLimit_66 : decode cX8_setLimit 66 = .ok (.istore_n 2, 1) := by decide +kernel
theorem dX8_setLimit_67 : decode cX8_setLimit 67 = .ok (.iinc 4 1, 3) := by decide +kernel
theorem dX8_setLimit_70 : decode cX8_setLimit 70 = .ok (.goto (-28), 3) := by decide +kernel
theorem dX8_setLimit_73 : decode cX8_setLimit 73 = .ok (.iinc 3 1, 3) := by decide +kernel
theorem dX8_setLimit_76 : decode cX8_setLimit 76 = .ok (.goto (-43), 3) := by decide +kernel
theorem dX8_setLimit_79 : decode cX8_setLimit 79 = .ok (.iload_n 2, 1) := by decide +kernel
theorem dX8_setLimit_80 : decode cX8_setLimit 80 = .ok (.ireturn, 1) := by decide +kernel
set_option maxRecDepth 20000 in
theorem ggX8_grace_X8_in : GoodIn wsX8_grace wsX8_in := goodIn_r _ [6] (by decide +kernel) (by decide +kernel)
set_option maxRecDepth 20000 in
theorem gX8_grace_X8_in : GoodIn wsX8_grace (va_wsS RX8 66 yX8_in wsX8_in) := goodIn_app (goodIn_of _ (by decide +kernel)) ggX8_grace_X8_in
set_option maxRecDepth 20000 in
theorem ggX8_grace_X8_goesWell : GoodIn wsX8_grace wsX8_goesWell := goodIn_r _ [10, 11, 12, 13, 14, 15, 16, 17, 18, 19, 20, 21, 22, 23, 24, 25, 26, 27, 28, 29, 30, 31, 32] (by decide +kernel) (by decide +kernel)
set_option maxRecDepth 20000 in
theorem gX8_grace_X8_goesWell : GoodIn wsX8_grace (wsV RX8 78 RX8 yX8_goesWell wsX8_goesWell) := goodIn_app (goodIn_of _ (by decide +kernel)) ggX8_grace_X8_goesWell
theorem dX8_grace_0 : decode cX8_grace 0 = .ok (.aload_n 0, 1) := by decide +kernel
theorem dX8_grace_1 : decode cX8_grace 1 = .ok (.iload_n 1, 1) := by decide +kernel
theorem dX8_grace_2 : decode cX8_grace 2 = .ok (.iconst 0, 1) := by decide +kernel
theorem dX8_grace_3 : decode cX8_grace 3 = .ok (.bipush 10, 2) := by decide +kernel
theorem dX8_grace_5 : decode cX8_grace 5 = .ok (.invokestatic 66, 3) := by decide +kernel
theorem dX8_grace_8 : decode cX8_grace 8 = .ok (.ifCond .ne 7, 3) := by decide +kernel
theorem dX8_grace_11 : decode cX8_grace 11 = .ok (.iconst 1, 1) := by decide +kernel
theorem dX8_grace_12 : decode cX8_grace 12 = .ok (.goto 16, 3) := by decide +kernel
theorem dX8_grace_15 : decode cX8_grace 15 = .ok (.aload_n 0, 1) := by decide +kernel
theorem dX8_grace_16 : decode cX8_grace 16 = .ok (.getfield 85, 3) := by decide +kernel
theorem dX8_grace_19 : decode cX8_grace 19 = .ok (.iconst 4, 1) := by decide +kernel
theorem dX8_grace_20 : decode cX8_grace 20 = .ok (.if_icmp .ne 7, 3) := by decide +kernel
theorem dX8_grace_23 : decode cX8_grace 23 = .ok (.iconst 2, 1) := by decide +kernel
theorem dX8_grace_24 : decode cX8_grace 24 = .ok (.goto 4, 3) := by decide +kernel
theorem dX8_grace_27 : decode cX8_grace 27 = .ok (.iconst 0, 1) := by decide +kernel
theorem dX8_grace_28 : decode cX8_grace 28 = .ok (.invokevirtual 78, 3) := by decide +kernel
theorem dX8_grace_31 : decode cX8_grace 31 = .ok (.ifCond .ne 5, 3) := by decide +kernel
theorem dX8_grace_34 : decode cX8_grace 34 = .ok (.iconst 0, 1) := by decide +kernel
theorem dX8_grace_35 : decode cX8_grace 35 = .ok (.ireturn, 1) := by decide +kernel
theorem dX8_grace_36 : decode cX8_grace 36 = .ok (.aload_n 0, 1) := by decide +kernel
theorem dX8_grace_37 : decode cX8_grace 37 = .ok (.getfield 23, 3) := by decide +kernel
theorem dX8_grace_40 : decode cX8_grace 40 = .ok (.aload_n 0, 1) := by decide +kernel
theorem dX8_grace_41 : decode cX8_grace 41 = .ok (.getfield 85, 3) := by decide +kernel
theorem dX8_grace_44 : decode cX8_grace 44 = .ok (.iload_n 1, 1) := by decide +kernel
theorem dX8_grace_45 : decode cX8_grace 45 = .ok (.iastore, 1) := by decide +kernel
theorem dX8_grace_46 : decode cX8_grace 46 = .ok (.aload_n 0, 1) := by decide +kernel
theorem dX8_grace_47 : decode cX8_grace 47 = .ok (.dup, 1) := by decide +kernel
theorem dX8_grace_48 : decode cX8_grace 48 = .ok (.getfield 85, 3) := by decide +kernel
theorem dX8_grace_51 : decode cX8_grace 51 = .ok (.iconst 1, 1) := by decide +kernel
theorem dX8_grace_52 : decode cX8_grace 52 = .ok (.iadd, 1) := by decide +kernel
theorem dX8_grace_53 : decode cX8_grace 53 = .ok (.putfield 85, 3) := by decide +kernel
theorem dX8_grace_56 : decode cX8_grace 56 = .ok (.aload_n 0, 1) := by decide +kernel
theorem dX8_grace_57 : decode cX8_grace 57 = .ok (.getfield 85, 3) := by decide +kernel
theorem dX8_grace_60 : decode cX8_grace 60 = .ok (.ireturn, 1) := by decide +kernel
set_option maxRecDepth 20000 in
theorem ggX8_enter_X8_goesWell : GoodIn wsX8_enter wsX8_goesWell := goodIn_r _ [10, 11, 12, 13, 14, 15, 16, 17, 18, 19, 20, 21, 22, 23, 24, 25, 26, 27, 28, 29, 30, 31, 32] (by decide +kernel) (by decide +kernel)
set_option maxRecDepth 20000 in
theorem gX8_enter_X8_goesWell : GoodIn wsX8_enter (wsV RX8 78 RX8 yX8_goesWell wsX8_goesWell) := goodIn_app (goodIn_of _ (by decide +kernel)) ggX8_enter_X8_goesWell
theorem dX8_enter_0 : decode cX8_enter 0 = .ok (.aload_n 0, 1) := by decide +kernel
theorem dX8_enter_1 : decode cX8_enter 1 = .ok (.aload_n 0, 1) := by decide +kernel
theorem dX8_enter_2 : decode cX8_enter 2 = .ok (.getfield 85, 3) := by decide +kernel
theorem dX8_enter_5 : decode cX8_enter 5 = .ok (.ifCond .eq 12, 3) := by decide +kernel
theorem dX8_enter_8 : decode cX8_enter 8 = .ok (.aload_n 0, 1) := by decide +kernel
theorem dX8_enter_9 : decode cX8_enter 9 = .ok (.getfield 88, 3) := by decide +kernel
theorem dX8_enter_12 : decode cX8_enter 12 = .ok (.bipush 8, 2) := by decide +kernel
theorem dX8_enter_14 : decode cX8_enter 14 = .ok (.if_icmp .ne 7, 3) := by decide +kernel
theorem dX8_enter_17 : decode cX8_enter 17 = .ok (.iconst 1, 1) := by decide +kernel
theorem dX8_enter_18 : decode cX8_enter 18 = .ok (.goto 4, 3) := by decide +kernel
theorem dX8_enter_21 : decode cX8_enter 21 = .ok (.iconst 0, 1) := by decide +kernel
theorem dX8_enter_22 : decode cX8_enter 22 = .ok (.invokevirtual 78, 3) := by decide +kernel
theorem dX8_enter_25 : decode cX8_enter 25 = .ok (.ifCond .ne 5, 3) := by decide +kernel
theorem dX8_enter_28 : decode cX8_enter 28 = .ok (.iconst 0, 1) := by decide +kernel
theorem dX8_enter_29 : decode cX8_enter 29 = .ok (.ireturn, 1) := by decide +kernel
theorem dX8_enter_30 : decode cX8_enter 30 = .ok (.iconst 0, 1) := by decide +kernel
theorem dX8_enter_31 : decode cX8_enter 31 = .ok (.istore_n 1, 1) := by decide +kernel
theorem dX8_enter_32 : decode cX8_enter 32 = .ok (.iload_n 1, 1) := by decide +kernel
theorem dX8_enter_33 : decode cX8_enter 33 = .ok (.aload_n 0, 1) := by decide +kernel
theorem dX8_enter_34 : decode cX8_enter 34 = .ok (.getfield 85, 3) := by decide +kernel
theorem dX8_enter_37 : decode cX8_enter 37 = .ok (.if_icmp .ge 28, 3) := by decide +kernel
theorem dX8_enter_40 : decode cX8_enter 40 = .ok (.aload_n 0, 1) := by decide +kernel
theorem dX8_enter_41 : decode cX8_enter 41 = .ok (.getfield 17, 3) := by decide +kernel
theorem dX8_enter_44 : decode cX8_enter 44 = .ok (.iconst 4, 1) := by decide +kernel
theorem dX8_enter_45 : decode cX8_enter 45 = .ok (.aload_n 0, 1) := by decide +kernel
theorem dX8_enter_46 : decode cX8_enter 46 = .ok (.getfield 88, 3) := by decide +kernel
theorem dX8_enter_49 : decode cX8_enter 49 = .ok (.imul, 1) := by decide +kernel
theorem dX8_enter_50 : decode cX8_enter 50 = .ok (.iload_n 1, 1) := by decide +kernel
theorem dX8_enter_51 : decode cX8_enter 51 = .ok (.iadd, 1) := by decide +kernel
theorem dX8_enter_52 : decode cX8_enter 52 = .ok (.aload_n 0, 1) := by decide +kernel
theorem dX8_enter_53 : decode cX8_enter 53 = .ok (.getfield 23, 3) := by decide +kernel
theorem dX8_enter_56 : decode cX8_enter 56 = .ok (.iload_n 1, 1) := by decide +kernel
theorem dX8_enter_57 : decode cX8_enter 57 = .ok (.iaload, 1) := by decide +kernel
theorem dX8_enter_58 : decode cX8_enter 58 = .ok (.iastore, 1) := by decide +kernel
theorem dX8_enter_59 : decode cX8_enter 59 = .ok (.iinc 1 1, 3) := by decide +kernel
theorem dX8_enter_62 : decode cX8_enter 62 = .ok (.goto (-30), 3) := by decide +kernel
theorem dX8_enter_65 : decode cX8_enter 65 = .ok (.aload_n 0, 1) := by decide +kernel
theorem dX8_enter_66 : decode cX8_enter 66 = .ok (.getfield 20, 3) := by decide +kernel
theorem dX8_enter_69 : decode cX8_enter 69 = .ok (.aload_n 0, 1) := by decide +kernel
theorem dX8_enter_70 : decode cX8_enter 70 = .ok (.getfield 88, 3) := by decide +kernel
theorem dX8_enter_73 : decode cX8_enter 73 = .ok (.aload_n 0, 1) := by decide +kernel
theorem dX8_enter_74 : decode cX8_enter 74 = .ok (.getfield 85, 3) := by decide +kernel
theorem dX8_enter_77 : decode cX8_enter 77 = .ok (.iastore, 1) := by decide +kernel
theorem dX8_enter_78 : decode cX8_enter 78 = .ok (.aload_n 0, 1) := by decide +kernel
theorem dX8_enter_79 : decode cX8_enter 79 = .ok (.iconst 0, 1) := by decide +kernel
theorem dX8_enter_80 : decode cX8_enter 80 = .ok (.putfield 85, 3) := by decide +kernel
theorem dX8_enter_83 : decode cX8_enter 83 = .ok (.aload_n 0, 1) := by decide +kernel
theorem dX8_enter_84 : decode cX8_enter 84 = .ok (.dup, 1) := by decide +kernel
theorem dX8_enter_85 : decode cX8_enter 85 = .ok (.getfield 88, 3) := by decide +kernel
theorem dX8_enter_88 : decode cX8_enter 88 = .ok (.iconst 1, 1) := by decide +kernel
theorem dX8_enter_89 : decode cX8_enter 89 = .ok (.iadd, 1) := by decide +kernel
theorem dX8_enter_90 : decode cX8_enter 90 = .ok (.putfield 88, 3) := by decide +kernel
theorem dX8_enter_93 : decode cX8_enter 93 = .ok (.aload_n 0, 1) := by decide +kernel
theorem dX8_enter_94 : decode cX8_enter 94 = .ok (.getfield 88, 3) := by decide +kernel
theorem dX8_enter_97 : decode cX8_enter 97 = .ok (.iconst 1, 1) := by decide +kernel
theorem dX8_enter_98 : decode cX8_enter 98 = .ok (.isub, 1) := by decide +kernel
theorem dX8_enter_99 : decode cX8_enter 99 = .ok (.ireturn, 1) := by decide +kernel
theorem dX8_ornaments_0 : decode cX8_ornaments 0 = .ok (.aload_n 0, 1) := by decide +kernel
theorem dX8_ornaments_1 : decode cX8_ornaments 1 = .ok (.iconst 0, 1) := by decide +kernel
theorem dX8_ornaments_2 : decode cX8_ornaments 2 = .ok (.putfield 63, 3) := by decide +kernel
theorem dX8_ornaments_5 : decode cX8_ornaments 5 = .ok (.aload_n 0, 1) := by decide +kernel
theorem dX8_ornaments_6 : decode cX8_ornaments 6 = .ok (.getfield 88, 3) := by decide +kernel
theorem dX8_ornaments_9 : decode cX8_ornaments 9 = .ok (.ireturn, 1) := by decide +kernel
set_option maxRecDepth 20000 in
theorem ggX8_moves_X8_bars : GoodIn wsX8_moves wsX8_bars := goodIn_r _ [6, 7, 8, 9, 10, 11, 5, 12, 13, 14, 15, 16, 17, 18, 19, 20, 21, 22, 23, 24, 25, 26, 27, 28, 29, 30, 31, 32, 33] (by decide +kernel) (by decide +kernel)
set_option maxRecDepth 20000 in
theorem gX8_moves_X8_bars : GoodIn wsX8_moves (wsV RX8 81 RX8 yX8_bars wsX8_bars) := goodIn_app (goodIn_of _ (by decide +kernel)) ggX8_moves_X8_bars
set_option maxRecDepth 20000 in
theorem ggX8_moves_X8_costOf : GoodIn wsX8_moves wsX8_costOf := goodIn_r _ [12, 7, 13, 14, 15, 16, 17, 18, 19, 20, 21, 22, 23, 24, 25, 26, 27, 28, 29, 30, 31, 32, 33] (by decide +kernel) (by decide +kernel)
set_option maxRecDepth 20000 in
theorem gX8_moves_X8_costOf : GoodIn wsX8_moves (wsV RX8 70 RX8 yX8_costOf wsX8_costOf) := goodIn_app (goodIn_of _ (by decide +kernel)) ggX8_moves_X8_costOf
theorem dX8_moves_0 : decode cX8_moves 0 = .ok (.iload_n 1, 1) := by decide +kernel
theorem dX8_moves_1 : decode cX8_moves 1 = .ok (.iload_n 2, 1) := by decide +kernel
theorem dX8_moves_2 : decode cX8_moves 2 = .ok (.if_icmp .eq 12, 3) := by decide +kernel
theorem dX8_moves_5 : decode cX8_moves 5 = .ok (.aload_n 0, 1) := by decide +kernel
theorem dX8_moves_6 : decode cX8_moves 6 = .ok (.iload_n 1, 1) := by decide +kernel
theorem dX8_moves_7 : decode cX8_moves 7 = .ok (.iload_n 2, 1) := by decide +kernel
theorem dX8_moves_8 : decode cX8_moves 8 = .ok (.invokevirtual 81, 3) := by decide +kernel
theorem dX8_moves_11 : decode cX8_moves 11 = .ok (.ifCond .eq 8, 3) := by decide +kernel
theorem dX8_moves_14 : decode cX8_moves 14 = .ok (.ldc 91, 2) := by decide +kernel
theorem dX8_moves_16 : decode cX8_moves 16 = .ok (.goto 9, 3) := by decide +kernel
theorem dX8_moves_19 : decode cX8_moves 19 = .ok (.aload_n 0, 1) := by decide +kernel
theorem dX8_moves_20 : decode cX8_moves 20 = .ok (.iload_n 1, 1) := by decide +kernel
theorem dX8_moves_21 : decode cX8_moves 21 = .ok (.iload_n 2, 1) := by decide +kernel
theorem dX8_moves_22 : decode cX8_moves 22 = .ok (.invokevirtual 70, 3) := by decide +kernel
theorem dX8_moves_25 : decode cX8_moves 25 = .ok (.ireturn, 1) := by decide +kernel
set_option maxRecDepth 20000 in
theorem ggX8_between_X8_moves : GoodIn wsX8_between wsX8_moves := goodIn_r _ [8, 2, 9, 10, 11, 7, 12, 13, 14, 15, 16, 17, 18, 19, 20, 21, 22, 23, 24, 25, 26, 27, 28, 29, 30, 31, 32, 33, 34, 35, 36, 37, 38, 39] (by decide +kernel) (by decide +kernel)
set_option maxRecDepth 20000 in
theorem gX8_between_X8_moves : GoodIn wsX8_between (wsV RX8 92 RX8 yX8_moves wsX8_moves) := goodIn_app (goodIn_of _ (by decide +kernel)) ggX8_between_X8_moves
theorem dX8_between_0 : decode cX8_between 0 = .ok (.iload_n 1, 1) := by decide +kernel
theorem dX8_between_1 : decode cX8_between 1 = .ok (.iconst (-1), 1) := by decide +kernel
theorem dX8_between_2 : decode cX8_between 2 = .ok (.if_icmp .ne 11, 3) := by decide +kernel
theorem dX8_between_5 : decode cX8_between 5 = .ok (.aload_n 0, 1) := by decide +kernel
theorem dX8_between_6 : decode cX8_between 6 = .ok (.iload_n 2, 1) := by decide +kernel
theorem dX8_between_7 : decode cX8_between 7 = .ok (.iload 4, 2) := by decide +kernel
theorem dX8_between_9 : decode cX8_between 9 = .ok (.invokevirtual 92, 3) := by decide +kernel
theorem dX8_between_12 : decode cX8_between 12 = .ok (.ireturn, 1) := by decide +kernel
theorem dX8_between_13 : decode cX8_between 13 = .ok (.aload_n 0, 1) := by decide +kernel
theorem dX8_between_14 : decode cX8_between 14 = .ok (.getfield 20, 3) := by decide +kernel
theorem dX8_between_17 : decode cX8_between 17 = .ok (.iload_n 1, 1) := by decide +kernel
theorem dX8_between_18 : decode cX8_between 18 = .ok (.iaload, 1) := by decide +kernel
theorem dX8_between_19 : decode cX8_between 19 = .ok (.iload_n 3, 1) := by decide +kernel
theorem dX8_between_20 : decode cX8_between 20 = .ok (.if_icmp .ge 7, 3) := by decide +kernel
theorem dX8_between_23 : decode cX8_between 23 = .ok (.iconst 0, 1) := by decide +kernel
theorem dX8_between_24 : decode cX8_between 24 = .ok (.goto 5, 3) := by decide +kernel
theorem dX8_between_27 : decode cX8_between 27 = .ok (.ldc 91, 2) := by decide +kernel
theorem dX8_between_29 : decode cX8_between 29 = .ok (.istore 5, 2) := by decide +kernel
theorem dX8_between_31 : decode cX8_between 31 = .ok (.iload_n 2, 1) := by decide +kernel
theorem dX8_between_32 : decode cX8_between 32 = .ok (.istore 6, 2) := by decide +kernel
theorem dX8_between_34 : decode cX8_between 34 = .ok (.iconst 0, 1) := by decide +kernel
theorem dX8_between_35 : decode cX8_between 35 = .ok (.istore 7, 2) := by decide +kernel
theorem dX8_between_37 : decode cX8_between 37 = .ok (.iload 7, 2) := by decide +kernel
theorem dX8_between_39 : decode cX8_between 39 = .ok (.aload_n 0, 1) := by decide +kernel
theorem dX8_between_40 : decode cX8_between 40 = .ok (.getfield 20, 3) := by decide +kernel
theorem dX8_between_43 : decode cX8_between 43 = .ok (.iload_n 1, 1) := by decide +kernel
theorem dX8_between_44 : decode cX8_between 44 = .ok (.iaload, 1) := by decide +kernel
theorem dX8_between_45 : decode cX8_between 45 = .ok (.if_icmp .ge 66, 3) := by decide +kernel
theorem dX8_between_48 : decode cX8_between 48 = .ok (.aload_n 0, 1) := by decide +kernel
theorem dX8_between_49 : decode cX8_between 49 = .ok (.getfield 17, 3) := by decide +kernel
theorem dX8_between_52 : decode cX8_between 52 = .ok (.iconst 4, 1) := by decide +kernel
theorem dX8_between_53 : decode cX8_between 53 = .ok (.iload_n 1, 1) := by decide +kernel
theorem dX8_between_54 : decode cX8_between 54 = .ok (.imul, 1) := by decide +kernel
theorem dX8_between_55 : decode cX8_between 55 = .ok (.iload 7, 2) := by decide +kernel
theorem dX8_between_57 : decode cX8_between 57 = .ok (.iadd, 1) := by decide +kernel
theorem dX8_between_58 : decode cX8_between 58 = .ok (.iaload, 1) := by decide +kernel
theorem dX8_between_59 : decode cX8_between 59 = .ok (.istore 8, 2) := by decide +kernel
theorem dX8_between_61 : decode cX8_between 61 = .ok (.iload 8, 2) := by decide +kernel
theorem dX8_between_63 : decode cX8_between 63 = .ok (.bipush 9, 2) := by decide +kernel
theorem dX8_between_65 : decode cX8_between 65 = .ok (.if_icmp .ne 8, 3) := by decide +kernel
theorem dX8_between_68 : decode cX8_between 68 = .ok (.iload 4, 2) := by decide +kernel
theorem dX8_between_70 : decode cX8_between 70 = .ok (.goto 16, 3) := by decide +kernel
theorem dX8_between_73 : decode cX8_between 73 = .ok (.iload 8, 2) := by decide +kernel
theorem dX8_between_75 : decode cX8_between 75 = .ok (.bipush 10, 2) := by decide +kernel
theorem dX8_between_77 : decode cX8_between 77 = .ok (.if_icmp .ne 7, 3) := by decide +kernel
theorem dX8_between_80 : decode cX8_between 80 = .ok (.iload_n 2, 1) := by decide +kernel
theorem dX8_between_81 : decode cX8_between 81 = .ok (.goto 5, 3) := by decide +kernel
theorem dX8_between_84 : decode cX8_between 84 = .ok (.iload 8, 2) := by decide +kernel
theorem dX8_between_86 : decode cX8_between 86 = .ok (.istore 9, 2) := by decide +kernel
theorem dX8_between_88 : decode cX8_between 88 = .ok (.iload 5, 2) := by decide +kernel
theorem dX8_between_90 : decode cX8_between 90 = .ok (.aload_n 0, 1) := by decide +kernel
theorem dX8_between_91 : decode cX8_between 91 = .ok (.iload 6, 2) := by decide +kernel
theorem dX8_between_93 : decode cX8_between 93 = .ok (.iload 9, 2) := by decide +kernel
theorem dX8_between_95 : decode cX8_between 95 = .ok (.invokevirtual 92, 3) := by decide +kernel
theorem dX8_between_98 : decode cX8_between 98 = .ok (.iadd, 1) := by decide +kernel
theorem dX8_between_99 : decode cX8_between 99 = .ok (.istore 5, 2) := by decide +kernel
theorem dX8_between_101 : decode cX8_between 101 = .ok (.iload 9, 2) := by decide +kernel
theorem dX8_between_103 : decode cX8_between 103 = .ok (.istore 6, 2) := by decide +kernel
theorem dX8_between_105 : decode cX8_between 105 = .ok (.iinc 7 1, 3) := by decide +kernel
theorem dX8_between_108 : decode cX8_between 108 = .ok (.goto (-71), 3) := by decide +kernel
theorem dX8_between_111 : decode cX8_between 111 = .ok (.iload 5, 2) := by decide +kernel
theorem dX8_between_113 : decode cX8_between 113 = .ok (.aload_n 0, 1) := by decide +kernel
theorem dX8_between_114 : decode cX8_between 114 = .ok (.iload 6, 2) := by decide +kernel
theorem dX8_between_116 : decode cX8_between 116 = .ok (.iload 4, 2) := by decide +kernel
theorem dX8_between_118 : decode cX8_between 118 = .ok (.invokevirtual 92, 3) := by decide +kernel
theorem dX8_between_121 : decode cX8_between 121 = .ok (.iadd, 1) := by decide +kernel
theorem dX8_between_122 : decode cX8_between 122 = .ok (.ireturn, 1) := by decide +kernel
set_option maxRecDepth 20000 in
theorem ggX8_fits_X8_isPitch : GoodIn wsX8_fits wsX8_isPitch := goodIn_r _ [6, 7, 8, 5, 9] (by decide +kernel) (by decide +kernel)
set_option maxRecDepth 20000 in
theorem gX8_fits_X8_isPitch : GoodIn wsX8_fits (va_wsS RX8 74 yX8_isPitch wsX8_isPitch) := goodIn_app (goodIn_of _ (by decide +kernel)) ggX8_fits_X8_isPitch
set_option maxRecDepth 20000 in
theorem ggX8_fits_X8_in : GoodIn wsX8_fits wsX8_in := goodIn_r _ [9] (by decide +kernel) (by decide +kernel)
set_option maxRecDepth 20000 in
theorem gX8_fits_X8_in : GoodIn wsX8_fits (va_wsS RX8 66 yX8_in wsX8_in) := goodIn_app (goodIn_of _ (by decide +kernel)) ggX8_fits_X8_in
set_option maxRecDepth 20000 in
theorem ggX8_fits_X8_goesWell : GoodIn wsX8_fits wsX8_goesWell := goodIn_r _ [13, 14, 35, 36, 37, 38, 39, 40, 41, 42, 43, 44, 45, 46, 47, 48, 49, 50, 51, 52, 53, 54, 55] (by decide +kernel) (by decide +kernel)
set_option maxRecDepth 20000 in
theorem gX8_fits_X8_goesWell : GoodIn wsX8_fits (wsV RX8 78 RX8 yX8_goesWell wsX8_goesWell) := goodIn_app (goodIn_of _ (by decide +kernel)) ggX8_fits_X8_goesWell
set_option maxRecDepth 20000 in
theorem ggX8_fits_X8_between : GoodIn wsX8_fits wsX8_between := goodIn_r _ [18, 19, 2, 20, 21, 22, 23, 5, 24, 25, 26, 27, 28, 29, 30, 31, 32, 33, 34, 35, 36, 37, 38, 39, 40, 41, 42, 43, 44, 45, 46, 47, 48, 49, 50, 51, 52, 53, 54, 55] (by decide +kernel) (by decide +kernel)
set_option maxRecDepth 20000 in
theorem gX8_fits_X8_between : GoodIn wsX8_fits (wsV RX8 95 RX8 yX8_between wsX8_between) := goodIn_app (goodIn_of _ (by decide +kernel)) ggX8_fits_X8_between
theorem dX8_fits_0 : decode cX8_fits 0 = .ok (.iload_n 2, 1) := by decide +kernel
theorem dX8_fits_1 : decode cX8_fits 1 = .ok (.invokestatic 74, 3) := by decide +kernel
theorem dX8_fits_4 : decode cX8_fits 4 = .ok (.ifCond .eq 25, 3) := by decide +kernel
theorem dX8_fits_7 : decode cX8_fits 7 = .ok (.iload_n 3, 1) := by decide +kernel
theorem dX8_fits_8 : decode cX8_fits 8 = .ok (.iconst 1, 1) := by decide +kernel
theorem dX8_fits_9 : decode cX8_fits 9 = .ok (.bipush 32, 2) := by decide +kernel
theorem dX8_fits_11 : decode cX8_fits 11 = .ok (.invokestatic 66, 3) := by decide +kernel
theorem dX8_fits_14 : decode cX8_fits 14 = .ok (.ifCond .eq 15, 3) := by decide +kernel
theorem dX8_fits_17 : decode cX8_fits 17 = .ok (.iload 4, 2) := by decide +kernel
theorem dX8_fits_19 : decode cX8_fits 19 = .ok (.invokestatic 74, 3) := by decide +kernel
theorem dX8_fits_22 : decode cX8_fits 22 = .ok (.ifCond .eq 7, 3) := by decide +kernel
theorem dX8_fits_25 : decode cX8_fits 25 = .ok (.iconst 1, 1) := by decide +kernel
theorem dX8_fits_26 : decode cX8_fits 26 = .ok (.goto 4, 3) := by decide +kernel
theorem dX8_fits_29 : decode cX8_fits 29 = .ok (.iconst 0, 1) := by decide +kernel
theorem dX8_fits_30 : decode cX8_fits 30 = .ok (.istore 5, 2) := by decide +kernel
theorem dX8_fits_32 : decode cX8_fits 32 = .ok (.aload_n 0, 1) := by decide +kernel
theorem dX8_fits_33 : decode cX8_fits 33 = .ok (.iload_n 1, 1) := by decide +kernel
theorem dX8_fits_34 : decode cX8_fits 34 = .ok (.iconst 0, 1) := by decide +kernel
theorem dX8_fits_35 : decode cX8_fits 35 = .ok (.aload_n 0, 1) := by decide +kernel
theorem dX8_fits_36 : decode cX8_fits 36 = .ok (.getfield 88, 3) := by decide +kernel
theorem dX8_fits_39 : decode cX8_fits 39 = .ok (.iconst 1, 1) := by decide +kernel
theorem dX8_fits_40 : decode cX8_fits 40 = .ok (.isub, 1) := by decide +kernel
theorem dX8_fits_41 : decode cX8_fits 41 = .ok (.invokestatic 66, 3) := by decide +kernel
theorem dX8_fits_44 : decode cX8_fits 44 = .ok (.ifCond .ne 7, 3) := by decide +kernel
theorem dX8_fits_47 : decode cX8_fits 47 = .ok (.iconst 1, 1) := by decide +kernel
theorem dX8_fits_48 : decode cX8_fits 48 = .ok (.goto 13, 3) := by decide +kernel
theorem dX8_fits_51 : decode cX8_fits 51 = .ok (.iload 5, 2) := by decide +kernel
theorem dX8_fits_53 : decode cX8_fits 53 = .ok (.ifCond .eq 7, 3) := by decide +kernel
theorem dX8_fits_56 : decode cX8_fits 56 = .ok (.iconst 0, 1) := by decide +kernel
theorem dX8_fits_57 : decode cX8_fits 57 = .ok (.goto 4, 3) := by decide +kernel
theorem dX8_fits_60 : decode cX8_fits 60 = .ok (.iconst 2, 1) := by decide +kernel
theorem dX8_fits_61 : decode cX8_fits 61 = .ok (.invokevirtual 78, 3) := by decide +kernel
theorem dX8_fits_64 : decode cX8_fits 64 = .ok (.ifCond .eq 21, 3) := by decide +kernel
theorem dX8_fits_67 : decode cX8_fits 67 = .ok (.aload_n 0, 1) := by decide +kernel
theorem dX8_fits_68 : decode cX8_fits 68 = .ok (.iload_n 1, 1) := by decide +kernel
theorem dX8_fits_69 : decode cX8_fits 69 = .ok (.iload_n 2, 1) := by decide +kernel
theorem dX8_fits_70 : decode cX8_fits 70 = .ok (.iload_n 3, 1) := by decide +kernel
theorem dX8_fits_71 : decode cX8_fits 71 = .ok (.iload 4, 2) := by decide +kernel
theorem dX8_fits_73 : decode cX8_fits 73 = .ok (.invokevirtual 95, 3) := by decide +kernel
theorem dX8_fits_76 : decode cX8_fits 76 = .ok (.ldc 91, 2) := by decide +kernel
theorem dX8_fits_78 : decode cX8_fits 78 = .ok (.if_icmp .ge 7, 3) := by decide +kernel
theorem dX8_fits_81 : decode cX8_fits 81 = .ok (.iconst 1, 1) := by decide +kernel
theorem dX8_fits_82 : decode cX8_fits 82 = .ok (.goto 4, 3) := by decide +kernel
theorem dX8_fits_85 : decode cX8_fits 85 = .ok (.iconst 0, 1) := by decide +kernel
theorem dX8_fits_86 : decode cX8_fits 86 = .ok (.ireturn, 1) := by decide +kernel
set_option maxRecDepth 20000 in
theorem ggX8_isTune_X8_in : GoodIn wsX8_isTune wsX8_in := goodIn_r _ [4] (by decide +kernel) (by decide +kernel)
set_option maxRecDepth 20000 in
theorem gX8_isTune_X8_in : GoodIn wsX8_isTune (va_wsS RX8 66 yX8_in wsX8_in) := goodIn_app (goodIn_of _ (by decide +kernel)) ggX8_isTune_X8_in
theorem dX8_isTune_0 : decode cX8_isTune 0 = .ok (.iload_n 0, 1) := by decide +kernel
theorem dX8_isTune_1 : decode cX8_isTune 1 = .ok (.iconst 0, 1) := by decide +kernel
theorem dX8_isTune_2 : decode cX8_isTune 2 = .ok (.iconst 3, 1) := by decide +kernel
theorem dX8_isTune_3 : decode cX8_isTune 3 = .ok (.invokestatic 66, 3) := by decide +kernel
theorem dX8_isTune_6 : decode cX8_isTune 6 = .ok (.ireturn, 1) := by decide +kernel
set_option maxRecDepth 20000 in
theorem ggX8_addNote_X8_isTune : GoodIn wsX8_addNote wsX8_isTune := goodIn_r _ [8, 9, 10, 7, 11] (by decide +kernel) (by decide +kernel)
set_option maxRecDepth 20000 in
theorem gX8_addNote_X8_isTune : GoodIn wsX8_addNote (va_wsS RX8 99 yX8_isTune wsX8_isTune) := goodIn_app (goodIn_of _ (by decide +kernel)) ggX8_addNote_X8_isTune
set_option maxRecDepth 20000 in
theorem ggX8_addNote_X8_isPitch : GoodIn wsX8_addNote wsX8_isPitch := goodIn_r _ [14, 9, 10, 7, 11] (by decide +kernel) (by decide +kernel)
set_option maxRecDepth 20000 in
theorem gX8_addNote_X8_isPitch : GoodIn wsX8_addNote (va_wsS RX8 74 yX8_isPitch wsX8_isPitch) := goodIn_app (goodIn_of _ (by decide +kernel)) ggX8_addNote_X8_isPitch
set_option maxRecDepth 20000 in
theorem ggX8_addNote_X8_in : GoodIn wsX8_addNote wsX8_in := goodIn_r _ [11] (by decide +kernel) (by decide +kernel)
set_option maxRecDepth 20000 in
theorem gX8_addNote_X8_in : GoodIn wsX8_addNote (va_wsS RX8 66 yX8_in wsX8_in) := goodIn_app (goodIn_of _ (by decide +kernel)) ggX8_addNote_X8_in
set_option maxRecDepth 20000 in
theorem ggX8_addNote_X8_goesWell : GoodIn wsX8_addNote wsX8_goesWell := goodIn_r _ [18, 19, 20, 21, 22, 23, 24, 25, 26, 27, 28, 29, 30, 31, 32, 33, 34, 35, 36, 37, 38, 39, 40] (by decide +kernel) (by decide +kernel)
set_option maxRecDepth 20000 in
theorem gX8_addNote_X8_goesWell : GoodIn wsX8_addNote (wsV RX8 78 RX8 yX8_goesWell wsX8_goesWell) := goodIn_app (goodIn_of _ (by decide +kernel)) ggX8_addNote_X8_goesWell
theorem dX8_addNote_0 : decode cX8_addNote 0 = .ok (.iload_n 1, 1) := by decide +kernel
theorem dX8_addNote_1 : decode cX8_addNote 1 = .ok (.invokestatic 99, 3) := by decide +kernel
theorem dX8_addNote_4 : decode cX8_addNote 4 = .ok (.ifCond .eq 24, 3) := by decide +kernel
theorem dX8_addNote_7 : decode cX8_addNote 7 = .ok (.iload_n 2, 1) := by decide +kernel
theorem dX8_addNote_8 : decode cX8_addNote 8 = .ok (.invokestatic 74, 3) := by decide +kernel
theorem dX8_addNote_11 : decode cX8_addNote 11 = .ok (.ifCond .eq 17, 3) := by decide +kernel
theorem dX8_addNote_14 : decode cX8_addNote 14 = .ok (.iload_n 3, 1) := by decide +kernel
theorem dX8_addNote_15 : decode cX8_addNote 15 = .ok (.iconst 1, 1) := by decide +kernel
theorem dX8_addNote_16 : decode cX8_addNote 16 = .ok (.bipush 32, 2) := by decide +kernel
theorem dX8_addNote_18 : decode cX8_addNote 18 = .ok (.invokestatic 66, 3) := by decide +kernel
theorem dX8_addNote_21 : decode cX8_addNote 21 = .ok (.ifCond .eq 7, 3) := by decide +kernel
theorem dX8_addNote_24 : decode cX8_addNote 24 = .ok (.iconst 1, 1) := by decide +kernel
theorem dX8_addNote_25 : decode cX8_addNote 25 = .ok (.goto 4, 3) := by decide +kernel
theorem dX8_addNote_28 : decode cX8_addNote 28 = .ok (.iconst 0, 1) := by decide +kernel
theorem dX8_addNote_29 : decode cX8_addNote 29 = .ok (.istore 4, 2) := by decide +kernel
theorem dX8_addNote_31 : decode cX8_addNote 31 = .ok (.aload_n 0, 1) := by decide +kernel
theorem dX8_addNote_32 : decode cX8_addNote 32 = .ok (.iload 4, 2) := by decide +kernel
theorem dX8_addNote_34 : decode cX8_addNote 34 = .ok (.ifCond .ne 7, 3) := by decide +kernel
theorem dX8_addNote_37 : decode cX8_addNote 37 = .ok (.iconst 1, 1) := by decide +kernel
theorem dX8_addNote_38 : decode cX8_addNote 38 = .ok (.goto 19, 3) := by decide +kernel
theorem dX8_addNote_41 : decode cX8_addNote 41 = .ok (.aload_n 0, 1) := by decide +kernel
theorem dX8_addNote_42 : decode cX8_addNote 42 = .ok (.getfield 36, 3) := by decide +kernel
theorem dX8_addNote_45 : decode cX8_addNote 45 = .ok (.iload_n 1, 1) := by decide +kernel
theorem dX8_addNote_46 : decode cX8_addNote 46 = .ok (.iaload, 1) := by decide +kernel
theorem dX8_addNote_47 : decode cX8_addNote 47 = .ok (.bipush 10, 2) := by decide +kernel
theorem dX8_addNote_49 : decode cX8_addNote 49 = .ok (.if_icmp .ne 7, 3) := by decide +kernel
theorem dX8_addNote_52 : decode cX8_addNote 52 = .ok (.iconst 2, 1) := by decide +kernel
theorem dX8_addNote_53 : decode cX8_addNote 53 = .ok (.goto 4, 3) := by decide +kernel
theorem dX8_addNote_56 : decode cX8_addNote 56 = .ok (.iconst 0, 1) := by decide +kernel
theorem dX8_addNote_57 : decode cX8_addNote 57 = .ok (.invokevirtual 78, 3) := by decide +kernel
theorem dX8_addNote_60 : decode cX8_addNote 60 = .ok (.ifCond .ne 5, 3) := by decide +kernel
theorem dX8_addNote_63 : decode cX8_addNote 63 = .ok (.iconst 0, 1) := by decide +kernel
theorem dX8_addNote_64 : decode cX8_addNote 64 = .ok (.ireturn, 1) := by decide +kernel
theorem dX8_addNote_65 : decode cX8_addNote 65 = .ok (.bipush 10, 2) := by decide +kernel
theorem dX8_addNote_67 : decode cX8_addNote 67 = .ok (.iload_n 1, 1) := by decide +kernel
theorem dX8_addNote_68 : decode cX8_addNote 68 = .ok (.imul, 1) := by decide +kernel
theorem dX8_addNote_69 : decode cX8_addNote 69 = .ok (.aload_n 0, 1) := by decide +kernel
theorem dX8_addNote_70 : decode cX8_addNote 70 = .ok (.getfield 36, 3) := by decide +kernel
theorem dX8_addNote_73 : decode cX8_addNote 73 = .ok (.iload_n 1, 1) := by decide +kernel
theorem dX8_addNote_74 : decode cX8_addNote 74 = .ok (.iaload, 1) := by decide +kernel
theorem dX8_addNote_75 : decode cX8_addNote 75 = .ok (.iadd, 1) := by decide +kernel
theorem dX8_addNote_76 : decode cX8_addNote 76 = .ok (.istore 5, 2) := by decide +kernel
theorem dX8_addNote_78 : decode cX8_addNote 78 = .ok (.aload_n 0, 1) := by decide +kernel
theorem dX8_addNote_79 : decode cX8_addNote 79 = .ok (.getfield 26, 3) := by decide +kernel
theorem dX8_addNote_82 : decode cX8_addNote 82 = .ok (.iload 5, 2) := by decide +kernel
theorem dX8_addNote_84 : decode cX8_addNote 84 = .ok (.iload_n 2, 1) := by decide +kernel
theorem dX8_addNote_85 : decode cX8_addNote 85 = .ok (.iastore, 1) := by decide +kernel
theorem dX8_addNote_86 : decode cX8_addNote 86 = .ok (.aload_n 0, 1) := by decide +kernel
theorem dX8_addNote_87 : decode cX8_addNote 87 = .ok (.getfield 29, 3) := by decide +kernel
theorem dX8_addNote_90 : decode cX8_addNote 90 = .ok (.iload 5, 2) := by decide +kernel
theorem dX8_addNote_92 : decode cX8_addNote 92 = .ok (.iload_n 3, 1) := by decide +kernel
theorem dX8_addNote_93 : decode cX8_addNote 93 = .ok (.iastore, 1) := by decide +kernel
theorem dX8_addNote_94 : decode cX8_addNote 94 = .ok (.aload_n 0, 1) := by decide +kernel
theorem dX8_addNote_95 : decode cX8_addNote 95 = .ok (.getfield 32, 3) := by decide +kernel
theorem dX8_addNote_98 : decode cX8_addNote 98 = .ok (.iload 5, 2) := by decide +kernel
theorem dX8_addNote_100 : decode cX8_addNote 100 = .ok (.iconst 0, 1) := by decide +kernel
theorem dX8_addNote_101 : decode cX8_addNote 101 = .ok (.bastore, 1) := by decide +kernel
theorem dX8_addNote_102 : decode cX8_addNote 102 = .ok (.aload_n 0, 1) := by decide +kernel
theorem dX8_addNote_103 : decode cX8_addNote 103 = .ok (.getfield 36, 3) := by decide +kernel
theorem dX8_addNote_106 : decode cX8_addNote 106 = .ok (.iload_n 1, 1) := by decide +kernel
theorem dX8_addNote_107 : decode cX8_addNote 107 = .ok (.iaload, 1) := by decide +kernel
theorem dX8_addNote_108 : decode cX8_addNote 108 = .ok (.ifCond .le 13, 3) := by decide +kernel
theorem dX8_addNote_111 : decode cX8_addNote 111 = .ok (.aload_n 0, 1) := by decide +kernel
theorem dX8_addNote_112 : decode cX8_addNote 112 = .ok (.getfield 32, 3) := by decide +kernel
theorem dX8_addNote_115 : decode cX8_addNote 115 = .ok (.iload 5, 2) := by decide +kernel
theorem dX8_addNote_117 : decode cX8_addNote 117 = .ok (.iconst 1, 1) := by decide +kernel
theorem dX8_addNote_118 : decode cX8_addNote 118 = .ok (.isub, 1) := by decide +kernel
theorem dX8_addNote_119 : decode cX8_addNote 119 = .ok (.iconst 0, 1) := by decide +kernel
theorem dX8_addNote_120 : decode cX8_addNote 120 = .ok (.bastore, 1) := by decide +kernel
theorem dX8_addNote_121 : decode cX8_addNote 121 = .ok (.aload_n 0, 1) := by decide +kernel
theorem dX8_addNote_122 : decode cX8_addNote 122 = .ok (.getfield 36, 3) := by decide +kernel
theorem dX8_addNote_125 : decode cX8_addNote 125 = .ok (.iload_n 1, 1) := by decide +kernel
theorem dX8_addNote_126 : decode cX8_addNote 126 = .ok (.dup2, 1) := by decide +kernel
theorem dX8_addNote_127 : decode cX8_addNote 127 = .ok (.iaload, 1) := by decide +kernel
theorem dX8_addNote_128 : decode cX8_addNote 128 = .ok (.iconst 1, 1) := by decide +kernel
theorem dX8_addNote_129 : decode cX8_addNote 129 = .ok (.iadd, 1) := by decide +kernel
theorem dX8_addNote_130 : decode cX8_addNote 130 = .ok (.iastore, 1) := by decide +kernel
theorem dX8_addNote_131 : decode cX8_addNote 131 = .ok (.aload_n 0, 1) := by decide +kernel
theorem dX8_addNote_132 : decode cX8_addNote 132 = .ok (.getfield 36, 3) := by decide +kernel
theorem dX8_addNote_135 : decode cX8_addNote 135 = .ok (.iload_n 1, 1) := by decide +kernel
theorem dX8_addNote_136 : decode cX8_addNote 136 = .ok (.iaload, 1) := by decide +kernel
theorem dX8_addNote_137 : decode cX8_addNote 137 = .ok (.ireturn, 1) := by decide +kernel
set_option maxRecDepth 20000 in
theorem ggX8_removeNote_X8_isTune : GoodIn wsX8_removeNote wsX8_isTune := goodIn_r _ [6, 7, 8, 5, 9] (by decide +kernel) (by decide +kernel)
set_option maxRecDepth 20000 in
theorem gX8_removeNote_X8_isTune : GoodIn wsX8_removeNote (va_wsS RX8 99 yX8_isTune wsX8_isTune) := goodIn_app (goodIn_of _ (by decide +kernel)) ggX8_removeNote_X8_isTune
set_option maxRecDepth 20000 in
theorem ggX8_removeNote_X8_goesWell : GoodIn wsX8_removeNote wsX8_goesWell := goodIn_r _ [13, 14, 15, 16, 17, 18, 19, 20, 21, 22, 23, 24, 25, 26, 27, 28, 29, 30, 31, 32, 33, 34, 35] (by decide +kernel) (by decide +kernel)
set_option maxRecDepth 20000 in
theorem gX8_removeNote_X8_goesWell : GoodIn wsX8_removeNote (wsV RX8 78 RX8 yX8_goesWell wsX8_goesWell) := goodIn_app (goodIn_of _ (by decide +kernel)) ggX8_removeNote_X8_goesWell
theorem dX8_removeNote_0 : decode cX8_removeNote 0 = .ok (.aload_n 0, 1) := by decide +kernel
theorem dX8_removeNote_1 : decode cX8_removeNote 1 = .ok (.iload_n 1, 1) := by decide +kernel
theorem dX8_removeNote_2 : decode cX8_removeNote 2 = .ok (.invokestatic 99, 3) := by decide +kernel
theorem dX8_removeNote_5 : decode cX8_removeNote 5 = .ok (.ifCond .ne 7, 3) := by decide +kernel
theorem dX8_removeNote_8 : decode cX8_removeNote 8 = .ok (.iconst 1, 1) := by decide +kernel
theorem dX8_removeNote_9 : decode cX8_removeNote 9 = .ok (.goto 17, 3) := by decide +kernel
theorem dX8_removeNote_12 : decode cX8_removeNote 12 = .ok (.aload_n 0, 1) := by decide +kernel
theorem dX8_removeNote_13 : decode cX8_removeNote 13 = .ok (.getfield 36, 3) := by decide +kernel
theorem dX8_removeNote_16 : decode cX8_removeNote 16 = .ok (.iload_n 1, 1) := by decide +kernel
theorem dX8_removeNote_17 : decode cX8_removeNote 17 = .ok (.iaload, 1) := by decide +kernel
theorem dX8_removeNote_18 : decode cX8_removeNote 18 = .ok (.ifCond .ne 7, 3) := by decide +kernel
theorem dX8_removeNote_21 : decode cX8_removeNote 21 = .ok (.iconst 2, 1) := by decide +kernel
theorem dX8_removeNote_22 : decode cX8_removeNote 22 = .ok (.goto 4, 3) := by decide +kernel
theorem dX8_removeNote_25 : decode cX8_removeNote 25 = .ok (.iconst 0, 1) := by decide +kernel
theorem dX8_removeNote_26 : decode cX8_removeNote 26 = .ok (.invokevirtual 78, 3) := by decide +kernel
theorem dX8_removeNote_29 : decode cX8_removeNote 29 = .ok (.ifCond .ne 5, 3) := by decide +kernel
theorem dX8_removeNote_32 : decode cX8_removeNote 32 = .ok (.iconst 0, 1) := by decide +kernel
theorem dX8_removeNote_33 : decode cX8_removeNote 33 = .ok (.ireturn, 1) := by decide +kernel
theorem dX8_removeNote_34 : decode cX8_removeNote 34 = .ok (.aload_n 0, 1) := by decide +kernel
theorem dX8_removeNote_35 : decode cX8_removeNote 35 = .ok (.getfield 36, 3) := by decide +kernel
theorem dX8_removeNote_38 : decode cX8_removeNote 38 = .ok (.iload_n 1, 1) := by decide +kernel
theorem dX8_removeNote_39 : decode cX8_removeNote 39 = .ok (.dup2, 1) := by decide +kernel
theorem dX8_removeNote_40 : decode cX8_removeNote 40 = .ok (.iaload, 1) := by decide +kernel
theorem dX8_removeNote_41 : decode cX8_removeNote 41 = .ok (.iconst 1, 1) := by decide +kernel
theorem dX8_removeNote_42 : decode cX8_removeNote 42 = .ok (.isub, 1) := by decide +kernel
theorem dX8_removeNote_43 : decode cX8_removeNote 43 = .ok (.iastore, 1) := by decide +kernel
theorem dX8_removeNote_44 : decode cX8_removeNote 44 = .ok (.aload_n 0, 1) := by decide +kernel
theorem dX8_removeNote_45 : decode cX8_removeNote 45 = .ok (.getfield 26, 3) := by decide +kernel
theorem dX8_removeNote_48 : decode cX8_removeNote 48 = .ok (.bipush 10, 2) := by decide +kernel
theorem dX8_removeNote_50 : decode cX8_removeNote 50 = .ok (.iload_n 1, 1) := by decide +kernel
theorem dX8_removeNote_51 : decode cX8_removeNote 51 = .ok (.imul, 1) := by decide +kernel
theorem dX8_removeNote_52 : decode cX8_removeNote 52 = .ok (.aload_n 0, 1) := by decide +kernel
theorem dX8_removeNote_53 : decode cX8_removeNote 53 = .ok (.getfield 36, 3) := by decide +kernel
theorem dX8_removeNote_56 : decode cX8_removeNote 56 = .ok (.iload_n 1, 1) := by decide +kernel
theorem dX8_removeNote_57 : decode cX8_removeNote 57 = .ok (.iaload, 1) := by decide +kernel
theorem dX8_removeNote_58 : decode cX8_removeNote 58 = .ok (.iadd, 1) := by decide +kernel
theorem dX8_removeNote_59 : decode cX8_removeNote 59 = .ok (.iaload, 1) := by decide +kernel
theorem dX8_removeNote_60 : decode cX8_removeNote 60 = .ok (.ireturn, 1) := by decide +kernel
set_option maxRecDepth 20000 in
theorem ggX8_isGap_X8_in : GoodIn wsX8_isGap wsX8_in := goodIn_r _ [5] (by decide +kernel) (by decide +kernel)
set_option maxRecDepth 20000 in
theorem gX8_isGap_X8_in : GoodIn wsX8_isGap (va_wsS RX8 66 yX8_in wsX8_in) := goodIn_app (goodIn_of _ (by decide +kernel)) ggX8_isGap_X8_in
theorem dX8_isGap_0 : decode cX8_isGap 0 = .ok (.iload_n 2, 1) := by decide +kernel
theorem dX8_isGap_1 : decode cX8_isGap 1 = .ok (.iconst 0, 1) := by decide +kernel
theorem dX8_isGap_2 : decode cX8_isGap 2 = .ok (.aload_n 0, 1) := by decide +kernel
theorem dX8_isGap_3 : decode cX8_isGap 3 = .ok (.getfield 36, 3) := by decide +kernel
theorem dX8_isGap_6 : decode cX8_isGap 6 = .ok (.iload_n 1, 1) := by decide +kernel
theorem dX8_isGap_7 : decode cX8_isGap 7 = .ok (.iaload, 1) := by decide +kernel
theorem dX8_isGap_8 : decode cX8_isGap 8 = .ok (.iconst 2, 1) := by decide +kernel
theorem dX8_isGap_9 : decode cX8_isGap 9 = .ok (.isub, 1) := by decide +kernel
theorem dX8_isGap_10 : decode cX8_isGap 10 = .ok (.invokestatic 66, 3) := by decide +kernel
theorem dX8_isGap_13 : decode cX8_isGap 13 = .ok (.ireturn, 1) := by decide +kernel
set_option maxRecDepth 20000 in
theorem ggX8_setWish_X8_isTune : GoodIn wsX8_setWish wsX8_isTune := goodIn_r _ [5, 6, 7, 4, 8] (by decide +kernel) (by decide +kernel)
set_option maxRecDepth 20000 in
theorem gX8_setWish_X8_isTune : GoodIn wsX8_setWish (va_wsS RX8 99 yX8_isTune wsX8_isTune) := goodIn_app (goodIn_of _ (by decide +kernel)) ggX8_setWish_X8_isTune
set_option maxRecDepth 20000 in
theorem ggX8_setWish_X8_isGap : GoodIn wsX8_setWish wsX8_isGap := goodIn_r _ [12, 13, 6, 7, 4, 8, 19, 20, 21, 22, 23, 24, 25, 26, 27, 28, 29, 30, 31, 32, 33, 34, 35, 36, 37, 38, 39] (by decide +kernel) (by decide +kernel)
set_option maxRecDepth 20000 in
theorem gX8_setWish_X8_isGap : GoodIn wsX8_setWish (wsV RX8 102 RX8 yX8_isGap wsX8_isGap) := goodIn_app (goodIn_of _ (by decide +kernel)) ggX8_setWish_X8_isGap
set_option maxRecDepth 20000 in
theorem ggX8_setWish_X8_goesWell : GoodIn wsX8_setWish wsX8_goesWell := goodIn_r _ [17, 18, 19, 20, 21, 22, 23, 24, 25, 26, 27, 28, 29, 30, 31, 32, 33, 34, 35, 36, 37, 38, 39] (by decide +kernel) (by decide +kernel)
set_option maxRecDepth 20000 in
theorem gX8_setWish_X8_goesWell : GoodIn wsX8_setWish (wsV RX8 78 RX8 yX8_goesWell wsX8_goesWell) := goodIn_app (goodIn_of _ (by decide +kernel)) ggX8_setWish_X8_goesWell
theorem dX8_setWish_0 : decode cX8_setWish 0 = .ok (.aload_n 0, 1) := by decide +kernel
theorem dX8_setWish_1 : decode cX8_setWish 1 = .ok (.iload_n 1, 1) := by decide +kernel
theorem dX8_setWish_2 : decode cX8_setWish 2 = .ok (.invokestatic 99, 3) := by decide +kernel
theorem dX8_setWish_5 : decode cX8_setWish 5 = .ok (.ifCond .ne 7, 3) := by decide +kernel
theorem dX8_setWish_8 : decode cX8_setWish 8 = .ok (.iconst 1, 1) := by decide +kernel
theorem dX8_setWish_9 : decode cX8_setWish 9 = .ok (.goto 17, 3) := by decide +kernel
theorem dX8_setWish_12 : decode cX8_setWish 12 = .ok (.aload_n 0, 1) := by decide +kernel
theorem dX8_setWish_13 : decode cX8_setWish 13 = .ok (.iload_n 1, 1) := by decide +kernel
theorem dX8_setWish_14 : decode cX8_setWish 14 = .ok (.iload_n 2, 1) := by decide +kernel
theorem dX8_setWish_15 : decode cX8_setWish 15 = .ok (.invokevirtual 102, 3) := by decide +kernel
theorem dX8_setWish_18 : decode cX8_setWish 18 = .ok (.ifCond .eq 7, 3) := by decide +kernel
theorem dX8_setWish_21 : decode cX8_setWish 21 = .ok (.iconst 0, 1) := by decide +kernel
theorem dX8_setWish_22 : decode cX8_setWish 22 = .ok (.goto 4, 3) := by decide +kernel
theorem dX8_setWish_25 : decode cX8_setWish 25 = .ok (.iconst 2, 1) := by decide +kernel
theorem dX8_setWish_26 : decode cX8_setWish 26 = .ok (.invokevirtual 78, 3) := by decide +kernel
theorem dX8_setWish_29 : decode cX8_setWish 29 = .ok (.ifCond .ne 5, 3) := by decide +kernel
theorem dX8_setWish_32 : decode cX8_setWish 32 = .ok (.iconst 0, 1) := by decide +kernel
theorem dX8_setWish_33 : decode cX8_setWish 33 = .ok (.ireturn, 1) := by decide +kernel
theorem dX8_setWish_34 : decode cX8_setWish 34 = .ok (.aload_n 0, 1) := by decide +kernel
theorem dX8_setWish_35 : decode cX8_setWish 35 = .ok (.getfield 32, 3) := by decide +kernel
theorem dX8_setWish_38 : decode cX8_setWish 38 = .ok (.bipush 10, 2) := by decide +kernel
theorem dX8_setWish_40 : decode cX8_setWish 40 = .ok (.iload_n 1, 1) := by decide +kernel
theorem dX8_setWish_41 : decode cX8_setWish 41 = .ok (.imul, 1) := by decide +kernel
theorem dX8_setWish_42 : decode cX8_setWish 42 = .ok (.iload_n 2, 1) := by decide +kernel
theorem dX8_setWish_43 : decode cX8_setWish 43 = .ok (.iadd, 1) := by decide +kernel
theorem dX8_setWish_44 : decode cX8_setWish 44 = .ok (.baload, 1) := by decide +kernel
theorem dX8_setWish_45 : decode cX8_setWish 45 = .ok (.istore 4, 2) := by decide +kernel
theorem dX8_setWish_47 : decode cX8_setWish 47 = .ok (.aload_n 0, 1) := by decide +kernel
theorem dX8_setWish_48 : decode cX8_setWish 48 = .ok (.getfield 32, 3) := by decide +kernel
theorem dX8_setWish_51 : decode cX8_setWish 51 = .ok (.bipush 10, 2) := by decide +kernel
theorem dX8_setWish_53 : decode cX8_setWish 53 = .ok (.iload_n 1, 1) := by decide +kernel
theorem dX8_setWish_54 : decode cX8_setWish 54 = .ok (.imul, 1) := by decide +kernel
theorem dX8_setWish_55 : decode cX8_setWish 55 = .ok (.iload_n 2, 1) := by decide +kernel
theorem dX8_setWish_56 : decode cX8_setWish 56 = .ok (.iadd, 1) := by decide +kernel
theorem dX8_setWish_57 : decode cX8_setWish 57 = .ok (.iload_n 3, 1) := by decide +kernel
theorem dX8_setWish_58 : decode cX8_setWish 58 = .ok (.bastore, 1) := by decide +kernel
theorem dX8_setWish_59 : decode cX8_setWish 59 = .ok (.iload 4, 2) := by decide +kernel
theorem dX8_setWish_61 : decode cX8_setWish 61 = .ok (.ireturn, 1) := by decide +kernel
set_option maxRecDepth 20000 in
theorem ggX8_notes_X8_isTune : GoodIn wsX8_notes wsX8_isTune := goodIn_r _ [5, 6, 7, 4, 8] (by decide +kernel) (by decide +kernel)
set_option maxRecDepth 20000 in
theorem gX8_notes_X8_isTune : GoodIn wsX8_notes (va_wsS RX8 99 yX8_isTune wsX8_isTune) := goodIn_app (goodIn_of _ (by decide +kernel)) ggX8_notes_X8_isTune
set_option maxRecDepth 20000 in
theorem ggX8_notes_X8_goesWell : GoodIn wsX8_notes wsX8_goesWell := goodIn_r _ [12, 13, 14, 15, 16, 17, 18, 19, 20, 21, 22, 23, 24, 25, 26, 27, 28, 29, 30, 31, 32, 33, 34] (by decide +kernel) (by decide +kernel)
set_option maxRecDepth 20000 in
theorem gX8_notes_X8_goesWell : GoodIn wsX8_notes (wsV RX8 78 RX8 yX8_goesWell wsX8_goesWell) := goodIn_app (goodIn_of _ (by decide +kernel)) ggX8_notes_X8_goesWell
theorem dX8_notes_0 : decode cX8_notes 0 = .ok (.aload_n 0, 1) := by decide +kernel
theorem dX8_notes_1 : decode cX8_notes 1 = .ok (.iload_n 1, 1) := by decide +kernel
theorem dX8_notes_2 : decode cX8_notes 2 = .ok (.invokestatic 99, 3) := by decide +kernel
theorem dX8_notes_5 : decode cX8_notes 5 = .ok (.ifCond .eq 7, 3) := by decide +kernel
theorem dX8_notes_8 : decode cX8_notes 8 = .ok (.iconst 0, 1) := by decide +kernel
theorem dX8_notes_9 : decode cX8_notes 9 = .ok (.goto 4, 3) := by decide +kernel
theorem dX8_notes_12 : decode cX8_notes 12 = .ok (.iconst 1, 1) := by decide +kernel
theorem dX8_notes_13 : decode cX8_notes 13 = .ok (.invokevirtual 78, 3) := by decide +kernel
theorem dX8_notes_16 : decode cX8_notes 16 = .ok (.ifCond .eq 12, 3) := by decide +kernel
theorem dX8_notes_19 : decode cX8_notes 19 = .ok (.aload_n 0, 1) := by decide +kernel
theorem dX8_notes_20 : decode cX8_notes 20 = .ok (.getfield 36, 3) := by decide +kernel
theorem dX8_notes_23 : decode cX8_notes 23 = .ok (.iload_n 1, 1) := by decide +kernel
theorem dX8_notes_24 : decode cX8_notes 24 = .ok (.iaload, 1) := by decide +kernel
theorem dX8_notes_25 : decode cX8_notes 25 = .ok (.goto 4, 3) := by decide +kernel
theorem dX8_notes_28 : decode cX8_notes 28 = .ok (.iconst 0, 1) := by decide +kernel
theorem dX8_notes_29 : decode cX8_notes 29 = .ok (.ireturn, 1) := by decide +kernel
theorem dX8_append_0 : decode cX8_append 0 = .ok (.iconst 0, 1) := by decide +kernel
theorem dX8_append_1 : decode cX8_append 1 = .ok (.istore_n 2, 1) := by decide +kernel
theorem dX8_append_2 : decode cX8_append 2 = .ok (.iload_n 2, 1) := by decide +kernel
theorem dX8_append_3 : decode cX8_append 3 = .ok (.aload_n 0, 1) := by decide +kernel
theorem dX8_append_4 : decode cX8_append 4 = .ok (.getfield 36, 3) := by decide +kernel
theorem dX8_append_7 : decode cX8_append 7 = .ok (.iload_n 1, 1) := by decide +kernel
theorem dX8_append_8 : decode cX8_append 8 = .ok (.iaload, 1) := by decide +kernel
theorem dX8_append_9 : decode cX8_append 9 = .ok (.if_icmp .ge 99, 3) := by decide +kernel
theorem dX8_append_12 : decode cX8_append 12 = .ok (.aload_n 0, 1) := by decide +kernel
theorem dX8_append_13 : decode cX8_append 13 = .ok (.getfield 39, 3) := by decide +kernel
theorem dX8_append_16 : decode cX8_append 16 = .ok (.aload_n 0, 1) := by decide +kernel
theorem dX8_append_17 : decode cX8_append 17 = .ok (.getfield 105, 3) := by decide +kernel
theorem dX8_append_20 : decode cX8_append 20 = .ok (.aload_n 0, 1) := by decide +kernel
theorem dX8_append_21 : decode cX8_append 21 = .ok (.getfield 26, 3) := by decide +kernel
theorem dX8_append_24 : decode cX8_append 24 = .ok (.bipush 10, 2) := by decide +kernel
theorem dX8_append_26 : decode cX8_append 26 = .ok (.iload_n 1, 1) := by decide +kernel
theorem dX8_append_27 : decode cX8_append 27 = .ok (.imul, 1) := by decide +kernel
theorem dX8_append_28 : decode cX8_append 28 = .ok (.iload_n 2, 1) := by decide +kernel
theorem dX8_append_29 : decode cX8_append 29 = .ok (.iadd, 1) := by decide +kernel
theorem dX8_append_30 : decode cX8_append 30 = .ok (.iaload, 1) := by decide +kernel
theorem dX8_append_31 : decode cX8_append 31 = .ok (.iastore, 1) := by decide +kernel
theorem dX8_append_32 : decode cX8_append 32 = .ok (.aload_n 0, 1) := by decide +kernel
theorem dX8_append_33 : decode cX8_append 33 = .ok (.getfield 42, 3) := by decide +kernel
theorem dX8_append_36 : decode cX8_append 36 = .ok (.aload_n 0, 1) := by decide +kernel
theorem dX8_append_37 : decode cX8_append 37 = .ok (.getfield 105, 3) := by decide +kernel
theorem dX8_append_40 : decode cX8_append 40 = .ok (.aload_n 0, 1) := by decide +kernel
theorem dX8_append_41 : decode cX8_append 41 = .ok (.getfield 29, 3) := by decide +kernel
theorem dX8_append_44 : decode cX8_append 44 = .ok (.bipush 10, 2) := by decide +kernel
theorem dX8_append_46 : decode cX8_append 46 = .ok (.iload_n 1, 1) := by decide +kernel
theorem dX8_append_47 : decode cX8_append 47 = .ok (.imul, 1) := by decide +kernel
theorem dX8_append_48 : decode cX8_append 48 = .ok (.iload_n 2, 1) := by decide +kernel
theorem dX8_append_49 : decode cX8_append 49 = .ok (.iadd, 1) := by decide +kernel
theorem dX8_append_50 : decode cX8_append 50 = .ok (.iaload, 1) := by decide +kernel
theorem dX8_append_51 : decode cX8_append 51 = .ok (.iastore, 1) := by decide +kernel
theorem dX8_append_52 : decode cX8_append 52 = .ok (.aload_n 0, 1) := by decide +kernel
theorem dX8_append_53 : decode cX8_append 53 = .ok (.getfield 45, 3) := by decide +kernel
theorem dX8_append_56 : decode cX8_append 56 = .ok (.aload_n 0, 1) := by decide +kernel
theorem dX8_append_57 : decode cX8_append 57 = .ok (.getfield 105, 3) := by decide +kernel
theorem dX8_append_60 : decode cX8_append 60 = .ok (.iload_n 2, 1) := by decide +kernel
theorem dX8_append_61 : decode cX8_append 61 = .ok (.iconst 1, 1) := by decide +kernel
theorem dX8_append_62 : decode cX8_append 62 = .ok (.iadd, 1) := by decide +kernel
theorem dX8_append_63 : decode cX8_append 63 = .ok (.aload_n 0, 1) := by decide +kernel
theorem dX8_append_64 : decode cX8_append 64 = .ok (.getfield 36, 3) := by decide +kernel
theorem dX8_append_67 : decode cX8_append 67 = .ok (.iload_n 1, 1) := by decide +kernel
theorem dX8_append_68 : decode cX8_append 68 = .ok (.iaload, 1) := by decide +kernel
theorem dX8_append_69 : decode cX8_append 69 = .ok (.if_icmp .ge 21, 3) := by decide +kernel
theorem dX8_append_72 : decode cX8_append 72 = .ok (.aload_n 0, 1) := by decide +kernel
theorem dX8_append_73 : decode cX8_append 73 = .ok (.getfield 32, 3) := by decide +kernel
theorem dX8_append_76 : decode cX8_append 76 = .ok (.bipush 10, 2) := by decide +kernel
theorem dX8_append_78 : decode cX8_append 78 = .ok (.iload_n 1, 1) := by decide +kernel
theorem dX8_append_79 : decode cX8_append 79 = .ok (.imul, 1) := by decide +kernel
theorem dX8_append_80 : decode cX8_append 80 = .ok (.iload_n 2, 1) := by decide +kernel
theorem dX8_append_81 : decode cX8_append 81 = .ok (.iadd, 1) := by decide +kernel
theorem dX8_append_82 : decode cX8_append 82 = .ok (.baload, 1) := by decide +kernel
theorem dX8_append_83 : decode cX8_append 83 = .ok (.ifCond .eq 7, 3) := by decide +kernel
theorem dX8_append_86 : decode cX8_append 86 = .ok (.iconst 1, 1) := by decide +kernel
theorem dX8_append_87 : decode cX8_append 87 = .ok (.goto 4, 3) := by decide +kernel
theorem dX8_append_90 : decode cX8_append 90 = .ok (.iconst 0, 1) := by decide +kernel
theorem dX8_append_91 : decode cX8_append 91 = .ok (.bastore, 1) := by decide +kernel
theorem dX8_append_92 : decode cX8_append 92 = .ok (.aload_n 0, 1) := by decide +kernel
theorem dX8_append_93 : decode cX8_append 93 = .ok (.dup, 1) := by decide +kernel
theorem dX8_append_94 : decode cX8_append 94 = .ok (.getfield 105, 3) := by decide +kernel
theorem dX8_append_97 : decode cX8_append 97 = .ok (.iconst 1, 1) := by decide +kernel
theorem dX8_append_98 : decode cX8_append 98 = .ok (.iadd, 1) := by decide +kernel
theorem dX8_append_99 : decode cX8_append 99 = .ok (.putfield 105, 3) := by decide +kernel
theorem dX8_append_102 : decode cX8_append 102 = .ok (.iinc 2 1, 3) := by decide +kernel
theorem dX8_append_105 : decode cX8_append 105 = .ok (.goto (-103), 3) := by decide +kernel
theorem dX8_append_108 : decode cX8_append 108 = .ok (.return_, 1) := by decide +kernel
set_option maxRecDepth 20000 in
theorem ggX8_at_X8_between : GoodIn wsX8_at wsX8_between := goodIn_r _ [9, 10, 4, 11, 12, 13, 14, 8, 15, 16, 17, 18, 19, 20, 21, 22, 23, 24, 25, 26, 27, 28, 29, 30, 31, 32, 33, 34, 35, 36, 37, 38, 39, 40, 41, 42, 43, 44, 45, 46] (by decide +kernel) (by decide +kernel)
set_option maxRecDepth 20000 in
theorem gX8_at_X8_between : GoodIn wsX8_at (wsV RX8 95 RX8 yX8_between wsX8_between) := goodIn_app (goodIn_of _ (by decide +kernel)) ggX8_at_X8_between
theorem dX8_at_0 : decode cX8_at 0 = .ok (.aload_n 0, 1) := by decide +kernel
theorem dX8_at_1 : decode cX8_at 1 = .ok (.iload_n 2, 1) := by decide +kernel
theorem dX8_at_2 : decode cX8_at 2 = .ok (.aload_n 0, 1) := by decide +kernel
theorem dX8_at_3 : decode cX8_at 3 = .ok (.getfield 39, 3) := by decide +kernel
theorem dX8_at_6 : decode cX8_at 6 = .ok (.iload_n 1, 1) := by decide +kernel
theorem dX8_at_7 : decode cX8_at 7 = .ok (.iaload, 1) := by decide +kernel
theorem dX8_at_8 : decode cX8_at 8 = .ok (.aload_n 0, 1) := by decide +kernel
theorem dX8_at_9 : decode cX8_at 9 = .ok (.getfield 42, 3) := by decide +kernel
theorem dX8_at_12 : decode cX8_at 12 = .ok (.iload_n 1, 1) := by decide +kernel
theorem dX8_at_13 : decode cX8_at 13 = .ok (.iaload, 1) := by decide +kernel
theorem dX8_at_14 : decode cX8_at 14 = .ok (.aload_n 0, 1) := by decide +kernel
theorem dX8_at_15 : decode cX8_at 15 = .ok (.getfield 39, 3) := by decide +kernel
theorem dX8_at_18 : decode cX8_at 18 = .ok (.iload_n 1, 1) := by decide +kernel
theorem dX8_at_19 : decode cX8_at 19 = .ok (.iconst 1, 1) := by decide +kernel
theorem dX8_at_20 : decode cX8_at 20 = .ok (.iadd, 1) := by decide +kernel
theorem dX8_at_21 : decode cX8_at 21 = .ok (.iaload, 1) := by decide +kernel
theorem dX8_at_22 : decode cX8_at 22 = .ok (.invokevirtual 95, 3) := by decide +kernel
theorem dX8_at_25 : decode cX8_at 25 = .ok (.istore_n 3, 1) := by decide +kernel
theorem dX8_at_26 : decode cX8_at 26 = .ok (.iload_n 2, 1) := by decide +kernel
theorem dX8_at_27 : decode cX8_at 27 = .ok (.iconst (-1), 1) := by decide +kernel
theorem dX8_at_28 : decode cX8_at 28 = .ok (.if_icmp .ne 17, 3) := by decide +kernel
theorem dX8_at_31 : decode cX8_at 31 = .ok (.aload_n 0, 1) := by decide +kernel
theorem dX8_at_32 : decode cX8_at 32 = .ok (.getfield 45, 3) := by decide +kernel
theorem dX8_at_35 : decode cX8_at 35 = .ok (.iload_n 1, 1) := by decide +kernel
theorem dX8_at_36 : decode cX8_at 36 = .ok (.baload, 1) := by decide +kernel
theorem dX8_at_37 : decode cX8_at 37 = .ok (.ifCond .eq 8, 3) := by decide +kernel
theorem dX8_at_40 : decode cX8_at 40 = .ok (.ldc 91, 2) := by decide +kernel
theorem dX8_at_42 : decode cX8_at 42 = .ok (.goto 4, 3) := by decide +kernel
theorem dX8_at_45 : decode cX8_at 45 = .ok (.iload_n 3, 1) := by decide +kernel
theorem dX8_at_46 : decode cX8_at 46 = .ok (.ireturn, 1) := by decide +kernel
set_option maxRecDepth 20000 in
theorem ggX8_count_X8_countAt : GoodIn wsX8_count wsX8_countAt := goodIn_r _ [9, 10, 11, 12, 3, 2, 13, 4, 14, 15, 16, 8, 17, 18, 19, 20, 21, 22, 23, 24, 25, 26, 27, 28, 29, 30, 31, 32, 33, 34, 35, 36, 37, 38, 39, 40, 41, 42, 43, 44, 45, 46, 47, 48, 49, 50, 51, 52, 53, 54, 55, 56, 57, 58, 59, 60, 61] (by decide +kernel) (by decide +kernel)
set_option maxRecDepth 20000 in
theorem gX8_count_X8_countAt : GoodIn wsX8_count (wsV RX8 108 RX8 yX8_countAt wsX8_countAt) := goodIn_app (goodIn_of _ (by decide +kernel)) ggX8_count_X8_countAt
theorem dX8_count_0 : decode cX8_count 0 = .ok (.aload_n 0, 1) := by decide +kernel
theorem dX8_count_1 : decode cX8_count 1 = .ok (.getfield 105, 3) := by decide +kernel
theorem dX8_count_4 : decode cX8_count 4 = .ok (.ifCond .le 12, 3) := by decide +kernel
theorem dX8_count_7 : decode cX8_count 7 = .ok (.aload_n 0, 1) := by decide +kernel
theorem dX8_count_8 : decode cX8_count 8 = .ok (.getfield 105, 3) := by decide +kernel
theorem dX8_count_11 : decode cX8_count 11 = .ok (.iconst 1, 1) := by decide +kernel
theorem dX8_count_12 : decode cX8_count 12 = .ok (.isub, 1) := by decide +kernel
theorem dX8_count_13 : decode cX8_count 13 = .ok (.goto 4, 3) := by decide +kernel
theorem dX8_count_16 : decode cX8_count 16 = .ok (.iconst 0, 1) := by decide +kernel
theorem dX8_count_17 : decode cX8_count 17 = .ok (.istore_n 1, 1) := by decide +kernel
theorem dX8_count_18 : decode cX8_count 18 = .ok (.iconst 0, 1) := by decide +kernel
theorem dX8_count_19 : decode cX8_count 19 = .ok (.istore_n 2, 1) := by decide +kernel
theorem dX8_count_20 : decode cX8_count 20 = .ok (.iload_n 2, 1) := by decide +kernel
theorem dX8_count_21 : decode cX8_count 21 = .ok (.bipush 8, 2) := by decide +kernel
theorem dX8_count_23 : decode cX8_count 23 = .ok (.if_icmp .gt 45, 3) := by decide +kernel
theorem dX8_count_26 : decode cX8_count 26 = .ok (.aload_n 0, 1) := by decide +kernel
theorem dX8_count_27 : decode cX8_count 27 = .ok (.getfield 48, 3) := by decide +kernel
theorem dX8_count_30 : decode cX8_count 30 = .ok (.bipush 9, 2) := by decide +kernel
theorem dX8_count_32 : decode cX8_count 32 = .ok (.iload_n 1, 1) := by decide +kernel
theorem dX8_count_33 : decode cX8_count 33 = .ok (.imul, 1) := by decide +kernel
theorem dX8_count_34 : decode cX8_count 34 = .ok (.iload_n 2, 1) := by decide +kernel
theorem dX8_count_35 : decode cX8_count 35 = .ok (.iadd, 1) := by decide +kernel
theorem dX8_count_36 : decode cX8_count 36 = .ok (.iconst 0, 1) := by decide +kernel
theorem dX8_count_37 : decode cX8_count 37 = .ok (.iastore, 1) := by decide +kernel
theorem dX8_count_38 : decode cX8_count 38 = .ok (.aload_n 0, 1) := by decide +kernel
theorem dX8_count_39 : decode cX8_count 39 = .ok (.getfield 51, 3) := by decide +kernel
theorem dX8_count_42 : decode cX8_count 42 = .ok (.bipush 9, 2) := by decide +kernel
theorem dX8_count_44 : decode cX8_count 44 = .ok (.iload_n 1, 1) := by decide +kernel
theorem dX8_count_45 : decode cX8_count 45 = .ok (.imul, 1) := by decide +kernel
theorem dX8_count_46 : decode cX8_count 46 = .ok (.iload_n 2, 1) := by decide +kernel
theorem dX8_count_47 : decode cX8_count 47 = .ok (.iadd, 1) := by decide +kernel
theorem dX8_count_48 : decode cX8_count 48 = .ok (.iconst 1, 1) := by decide +kernel
theorem dX8_count_49 : decode cX8_count 49 = .ok (.iastore, 1) := by decide +kernel
theorem dX8_count_50 : decode cX8_count 50 = .ok (.aload_n 0, 1) := by decide +kernel
theorem dX8_count_51 : decode cX8_count 51 = .ok (.getfield 54, 3) := by decide +kernel
theorem dX8_count_54 : decode cX8_count 54 = .ok (.bipush 9, 2) := by decide +kernel
theorem dX8_count_56 : decode cX8_count 56 = .ok (.iload_n 1, 1) := by decide +kernel
theorem dX8_count_57 : decode cX8_count 57 = .ok (.imul, 1) := by decide +kernel
theorem dX8_count_58 : decode cX8_count 58 = .ok (.iload_n 2, 1) := by decide +kernel
theorem dX8_count_59 : decode cX8_count 59 = .ok (.iadd, 1) := by decide +kernel
theorem dX8_count_60 : decode cX8_count 60 = .ok (.iconst 0, 1) := by decide +kernel
theorem dX8_count_61 : decode cX8_count 61 = .ok (.iastore, 1) := by decide +kernel
theorem dX8_count_62 : decode cX8_count 62 = .ok (.iinc 2 1, 3) := by decide +kernel
theorem dX8_count_65 : decode cX8_count 65 = .ok (.goto (-45), 3) := by decide +kernel
theorem dX8_count_68 : decode cX8_count 68 = .ok (.iload_n 1, 1) := by decide +kernel
theorem dX8_count_69 : decode cX8_count 69 = .ok (.iconst 1, 1) := by decide +kernel
theorem dX8_count_70 : decode cX8_count 70 = .ok (.isub, 1) := by decide +kernel
theorem dX8_count_71 : decode cX8_count 71 = .ok (.istore_n 2, 1) := by decide +kernel
theorem dX8_count_72 : decode cX8_count 72 = .ok (.iload_n 2, 1) := by decide +kernel
theorem dX8_count_73 : decode cX8_count 73 = .ok (.ifCond .lt 29, 3) := by decide +kernel
theorem dX8_count_76 : decode cX8_count 76 = .ok (.iconst 0, 1) := by decide +kernel
theorem dX8_count_77 : decode cX8_count 77 = .ok (.istore_n 3, 1) := by decide +kernel
theorem dX8_count_78 : decode cX8_count 78 = .ok (.iload_n 3, 1) := by decide +kernel
theorem dX8_count_79 : decode cX8_count 79 = .ok (.bipush 8, 2) := by decide +kernel
theorem dX8_count_81 : decode cX8_count 81 = .ok (.if_icmp .gt 15, 3) := by decide +kernel
theorem dX8_count_84 : decode cX8_count 84 = .ok (.aload_n 0, 1) := by decide +kernel
theorem dX8_count_85 : decode cX8_count 85 = .ok (.iload_n 2, 1) := by decide +kernel
theorem dX8_count_86 : decode cX8_count 86 = .ok (.iload_n 3, 1) := by decide +kernel
theorem dX8_count_87 : decode cX8_count 87 = .ok (.invokevirtual 108, 3) := by decide +kernel
theorem dX8_count_90 : decode cX8_count 90 = .ok (.iinc 3 1, 3) := by decide +kernel
theorem dX8_count_93 : decode cX8_count 93 = .ok (.goto (-15), 3) := by decide +kernel
theorem dX8_count_96 : decode cX8_count 96 = .ok (.iinc 2 (-1), 3) := by decide +kernel
theorem dX8_count_99 : decode cX8_count 99 = .ok (.goto (-27), 3) := by decide +kernel
theorem dX8_count_102 : decode cX8_count 102 = .ok (.return_, 1) := by decide +kernel
set_option maxRecDepth 20000 in
theorem ggX8_countAt_X8_at : GoodIn wsX8_countAt wsX8_at := goodIn_r _ [12, 13, 14, 15, 1, 16, 17, 18, 11, 19, 20, 21, 22, 23, 24, 25, 26, 27, 28, 29, 30, 31, 32, 33, 34, 35, 36, 37, 38, 39, 40, 41, 42, 43, 44, 45, 46, 47, 48, 49, 50, 51, 52, 53, 54, 55, 56] (by decide +kernel) (by decide +kernel)
set_option maxRecDepth 20000 in
theorem gX8_countAt_X8_at : GoodIn wsX8_countAt (wsV RX8 113 RX8 yX8_at wsX8_at) := goodIn_app (goodIn_of _ (by decide +kernel)) ggX8_countAt_X8_at
theorem dX8_countAt_0 : decode cX8_countAt 0 = .ok (.ldc 91, 2) := by decide +kernel
theorem dX8_countAt_2 : decode cX8_countAt 2 = .ok (.istore_n 3, 1) := by decide +kernel
theorem dX8_countAt_3 : decode cX8_countAt 3 = .ok (.iconst 0, 1) := by decide +kernel
theorem dX8_countAt_4 : decode cX8_countAt 4 = .ok (.istore 4, 2) := by decide +kernel
theorem dX8_countAt_6 : decode cX8_countAt 6 = .ok (.ldc 112, 2) := by decide +kernel
theorem dX8_countAt_8 : decode cX8_countAt 8 = .ok (.istore 5, 2) := by decide +kernel
theorem dX8_countAt_10 : decode cX8_countAt 10 = .ok (.iconst (-1), 1) := by decide +kernel
theorem dX8_countAt_11 : decode cX8_countAt 11 = .ok (.istore 6, 2) := by decide +kernel
theorem dX8_countAt_13 : decode cX8_countAt 13 = .ok (.iload 6, 2) := by decide +kernel
theorem dX8_countAt_15 : decode cX8_countAt 15 = .ok (.aload_n 0, 1) := by decide +kernel
theorem dX8_countAt_16 : decode cX8_countAt 16 = .ok (.getfield 88, 3) := by decide +kernel
theorem dX8_countAt_19 : decode cX8_countAt 19 = .ok (.if_icmp .ge 172, 3) := by decide +kernel
theorem dX8_countAt_22 : decode cX8_countAt 22 = .ok (.bipush 9, 2) := by decide +kernel
theorem dX8_countAt_24 : decode cX8_countAt 24 = .ok (.iload_n 1, 1) := by decide +kernel
theorem dX8_countAt_25 : decode cX8_countAt 25 = .ok (.iconst 1, 1) := by decide +kernel
theorem dX8_countAt_26 : decode cX8_countAt 26 = .ok (.iadd, 1) := by decide +kernel
theorem dX8_countAt_27 : decode cX8_countAt 27 = .ok (.imul, 1) := by decide +kernel
theorem dX8_countAt_28 : decode cX8_countAt 28 = .ok (.iload 6, 2) := by decide +kernel
theorem dX8_countAt_30 : decode cX8_countAt 30 = .ok (.iadd, 1) := by decide +kernel
theorem dX8_countAt_31 : decode cX8_countAt 31 = .ok (.iconst 1, 1) := by decide +kernel
theorem dX8_countAt_32 : decode cX8_countAt 32 = .ok (.iadd, 1) := by decide +kernel
theorem dX8_countAt_33 : decode cX8_countAt 33 = .ok (.istore 7, 2) := by decide +kernel
theorem dX8_countAt_35 : decode cX8_countAt 35 = .ok (.aload_n 0, 1) := by decide +kernel
theorem dX8_countAt_36 : decode cX8_countAt 36 = .ok (.iload_n 1, 1) := by decide +kernel
theorem dX8_countAt_37 : decode cX8_countAt 37 = .ok (.iload 6, 2) := by decide +kernel
theorem dX8_countAt_39 : decode cX8_countAt 39 = .ok (.invokevirtual 113, 3) := by decide +kernel
theorem dX8_countAt_42 : decode cX8_countAt 42 = .ok (.istore 8, 2) := by decide +kernel
theorem dX8_countAt_44 : decode cX8_countAt 44 = .ok (.iload 8, 2) := by decide +kernel
theorem dX8_countAt_46 : decode cX8_countAt 46 = .ok (.ldc 91, 2) := by decide +kernel
theorem dX8_countAt_48 : decode cX8_countAt 48 = .ok (.if_icmp .ge 31, 3) := by decide +kernel
theorem dX8_countAt_51 : decode cX8_countAt 51 = .ok (.iload 6, 2) := by decide +kernel
theorem dX8_countAt_53 : decode cX8_countAt 53 = .ok (.iconst (-1), 1) := by decide +kernel
theorem dX8_countAt_54 : decode cX8_countAt 54 = .ok (.if_icmp .eq 11, 3) := by decide +kernel
theorem dX8_countAt_57 : decode cX8_countAt 57 = .ok (.iload 6, 2) := by decide +kernel
theorem dX8_countAt_59 : decode cX8_countAt 59 = .ok (.iconst 1, 1) := by decide +kernel
theorem dX8_countAt_60 : decode cX8_countAt 60 = .ok (.iadd, 1) := by decide +kernel
theorem dX8_countAt_61 : decode cX8_countAt 61 = .ok (.iload_n 2, 1) := by decide +kernel
theorem dX8_countAt_62 : decode cX8_countAt 62 = .ok (.if_icmp .eq 17, 3) := by decide +kernel
theorem dX8_countAt_65 : decode cX8_countAt 65 = .ok (.aload_n 0, 1) := by decide +kernel
theorem dX8_countAt_66 : decode cX8_countAt 66 = .ok (.getfield 51, 3) := by decide +kernel
theorem dX8_countAt_69 : decode cX8_countAt 69 = .ok (.iload 7, 2) := by decide +kernel
theorem dX8_countAt_71 : decode cX8_countAt 71 = .ok (.iaload, 1) := by decide +kernel
theorem dX8_countAt_72 : decode cX8_countAt 72 = .ok (.ifCond .le 7, 3) := by decide +kernel
theorem dX8_countAt_75 : decode cX8_countAt 75 = .ok (.iconst 1, 1) := by decide +kernel
theorem dX8_countAt_76 : decode cX8_countAt 76 = .ok (.goto 4, 3) := by decide +kernel
theorem dX8_countAt_79 : decode cX8_countAt 79 = .ok (.iconst 0, 1) := by decide +kernel
theorem dX8_countAt_80 : decode cX8_countAt 80 = .ok (.istore 9, 2) := by decide +kernel
theorem dX8_countAt_82 : decode cX8_countAt 82 = .ok (.iload 9, 2) := by decide +kernel
theorem dX8_countAt_84 : decode cX8_countAt 84 = .ok (.ifCond .eq 101, 3) := by decide +kernel
theorem dX8_countAt_87 : decode cX8_countAt 87 = .ok (.iload 8, 2) := by decide +kernel
theorem dX8_countAt_89 : decode cX8_countAt 89 = .ok (.aload_n 0, 1) := by decide +kernel
theorem dX8_countAt_90 : decode cX8_countAt 90 = .ok (.getfield 48, 3) := by decide +kernel
theorem dX8_countAt_93 : decode cX8_countAt 93 = .ok (.iload 7, 2) := by decide +kernel
theorem dX8_countAt_95 : decode cX8_countAt 95 = .ok (.iaload, 1) := by decide +kernel
theorem dX8_countAt_96 : decode cX8_countAt 96 = .ok (.iadd, 1) := by decide +kernel
theorem dX8_countAt_97 : decode cX8_countAt 97 = .ok (.iload_n 3, 1) := by decide +kernel
theorem dX8_countAt_98 : decode cX8_countAt 98 = .ok (.if_icmp .ge 16, 3) := by decide +kernel
theorem dX8_countAt_101 : decode cX8_countAt 101 = .ok (.iload 8, 2) := by decide +kernel
theorem dX8_countAt_103 : decode cX8_countAt 103 = .ok (.aload_n 0, 1) := by decide +kernel
theorem dX8_countAt_104 : decode cX8_countAt 104 = .ok (.getfield 48, 3) := by decide +kernel
theorem dX8_countAt_107 : decode cX8_countAt 107 = .ok (.iload 7, 2) := by decide +kernel
theorem dX8_countAt_109 : decode cX8_countAt 109 = .ok (.iaload, 1) := by decide +kernel
theorem dX8_countAt_110 : decode cX8_countAt 110 = .ok (.iadd, 1) := by decide +kernel
theorem dX8_countAt_111 : decode cX8_countAt 111 = .ok (.goto 4, 3) := by decide +kernel
theorem dX8_countAt_114 : decode cX8_countAt 114 = .ok (.iload_n 3, 1) := by decide +kernel
theorem dX8_countAt_115 : decode cX8_countAt 115 = .ok (.istore_n 3, 1) := by decide +kernel
theorem dX8_countAt_116 : decode cX8_countAt 116 = .ok (.iload 4, 2) := by decide +kernel
theorem dX8_countAt_118 : decode cX8_countAt 118 = .ok (.aload_n 0, 1) := by decide +kernel
theorem dX8_countAt_119 : decode cX8_countAt 119 = .ok (.getfield 51, 3) := by decide +kernel
theorem dX8_countAt_122 : decode cX8_countAt 122 = .ok (.iload 7, 2) := by decide +kernel
theorem dX8_countAt_124 : decode cX8_countAt 124 = .ok (.iaload, 1) := by decide +kernel
theorem dX8_countAt_125 : decode cX8_countAt 125 = .ok (.iadd, 1) := by decide +kernel
theorem dX8_countAt_126 : decode cX8_countAt 126 = .ok (.ldc 116, 2) := by decide +kernel
theorem dX8_countAt_128 : decode cX8_countAt 128 = .ok (.if_icmp .le 8, 3) := by decide +kernel
theorem dX8_countAt_131 : decode cX8_countAt 131 = .ok (.ldc 116, 2) := by decide +kernel
theorem dX8_countAt_133 : decode cX8_countAt 133 = .ok (.goto 13, 3) := by decide +kernel
theorem dX8_countAt_136 : decode cX8_countAt 136 = .ok (.iload 4, 2) := by decide +kernel
theorem dX8_countAt_138 : decode cX8_countAt 138 = .ok (.aload_n 0, 1) := by decide +kernel
theorem dX8_countAt_139 : decode cX8_countAt 139 = .ok (.getfield 51, 3) := by decide +kernel
theorem dX8_countAt_142 : decode cX8_countAt 142 = .ok (.iload 7, 2) := by decide +kernel
theorem dX8_countAt_144 : decode cX8_countAt 144 = .ok (.iaload, 1) := by decide +kernel
theorem dX8_countAt_145 : decode cX8_countAt 145 = .ok (.iadd, 1) := by decide +kernel
theorem dX8_countAt_146 : decode cX8_countAt 146 = .ok (.istore 4, 2) := by decide +kernel
theorem dX8_countAt_148 : decode cX8_countAt 148 = .ok (.aload_n 0, 1) := by decide +kernel
theorem dX8_countAt_149 : decode cX8_countAt 149 = .ok (.getfield 54, 3) := by decide +kernel
theorem dX8_countAt_152 : decode cX8_countAt 152 = .ok (.iload 7, 2) := by decide +kernel
theorem dX8_countAt_154 : decode cX8_countAt 154 = .ok (.iaload, 1) := by decide +kernel
theorem dX8_countAt_155 : decode cX8_countAt 155 = .ok (.iload 6, 2) := by decide +kernel
theorem dX8_countAt_157 : decode cX8_countAt 157 = .ok (.iconst (-1), 1) := by decide +kernel
theorem dX8_countAt_158 : decode cX8_countAt 158 = .ok (.if_icmp .ne 7, 3) := by decide +kernel
theorem dX8_countAt_161 : decode cX8_countAt 161 = .ok (.iconst 0, 1) := by decide +kernel
theorem dX8_countAt_162 : decode cX8_countAt 162 = .ok (.goto 4, 3) := by decide +kernel
theorem dX8_countAt_165 : decode cX8_countAt 165 = .ok (.iconst 1, 1) := by decide +kernel
theorem dX8_countAt_166 : decode cX8_countAt 166 = .ok (.iadd, 1) := by decide +kernel
theorem dX8_countAt_167 : decode cX8_countAt 167 = .ok (.istore 10, 2) := by decide +kernel
theorem dX8_countAt_169 : decode cX8_countAt 169 = .ok (.iload 10, 2) := by decide +kernel
theorem dX8_countAt_171 : decode cX8_countAt 171 = .ok (.iload 5, 2) := by decide +kernel
theorem dX8_countAt_173 : decode cX8_countAt 173 = .ok (.if_icmp .le 8, 3) := by decide +kernel
theorem dX8_countAt_176 : decode cX8_countAt 176 = .ok (.iload 10, 2) := by decide +kernel
theorem dX8_countAt_178 : decode cX8_countAt 178 = .ok (.goto 5, 3) := by decide +kernel
theorem dX8_countAt_181 : decode cX8_countAt 181 = .ok (.iload 5, 2) := by decide +kernel
theorem dX8_countAt_183 : decode cX8_countAt 183 = .ok (.istore 5, 2) := by decide +kernel
theorem dX8_countAt_185 : decode cX8_countAt 185 = .ok (.iinc 6 1, 3) := by decide +kernel
theorem dX8_countAt_188 : decode cX8_countAt 188 = .ok (.goto (-175), 3) := by decide +kernel
theorem dX8_countAt_191 : decode cX8_countAt 191 = .ok (.aload_n 0, 1) := by decide +kernel
theorem dX8_countAt_192 : decode cX8_countAt 192 = .ok (.getfield 48, 3) := by decide +kernel
theorem dX8_countAt_195 : decode cX8_countAt 195 = .ok (.bipush 9, 2) := by decide +kernel
theorem dX8_countAt_197 : decode cX8_countAt 197 = .ok (.iload_n 1, 1) := by decide +kernel
theorem dX8_countAt_198 : decode cX8_countAt 198 = .ok (.imul, 1) := by decide +kernel
theorem dX8_countAt_199 : decode cX8_countAt 199 = .ok (.iload_n 2, 1) := by decide +kernel
theorem dX8_countAt_200 : decode cX8_countAt 200 = .ok (.iadd, 1) := by decide +kernel
theorem dX8_countAt_201 : decode cX8_countAt 201 = .ok (.iload_n 3, 1) := by decide +kernel
theorem dX8_countAt_202 : decode cX8_countAt 202 = .ok (.iastore, 1) := by decide +kernel
theorem dX8_countAt_203 : decode cX8_countAt 203 = .ok (.aload_n 0, 1) := by decide +kernel
theorem dX8_countAt_204 : decode cX8_countAt 204 = .ok (.getfield 51, 3) := by decide +kernel
theorem dX8_countAt_207 : decode cX8_countAt 207 = .ok (.bipush 9, 2) := by decide +kernel
theorem dX8_countAt_209 : decode cX8_countAt 209 = .ok (.iload_n 1, 1) := by decide +kernel
theorem dX8_countAt_210 : decode cX8_countAt 210 = .ok (.imul, 1) := by decide +kernel
theorem dX8_countAt_211 : decode cX8_countAt 211 = .ok (.iload_n 2, 1) := by decide +kernel
theorem dX8_countAt_212 : decode cX8_countAt 212 = .ok (.iadd, 1) := by decide +kernel
theorem dX8_countAt_213 : decode cX8_countAt 213 = .ok (.iload 4, 2) := by decide +kernel
theorem dX8_countAt_215 : decode cX8_countAt 215 = .ok (.iastore, 1) := by decide +kernel
theorem dX8_countAt_216 : decode cX8_countAt 216 = .ok (.aload_n 0, 1) := by decide +kernel
theorem dX8_countAt_217 : decode cX8_countAt 217 = .ok (.getfield 54, 3) := by decide +kernel
theorem dX8_countAt_220 : decode cX8_countAt 220 = .ok (.bipush 9, 2) := by decide +kernel
theorem dX8_countAt_222 : decode cX8_countAt 222 = .ok (.iload_n 1, 1) := by decide +kernel
theorem dX8_countAt_223 : decode cX8_countAt 223 = .ok (.imul, 1) := by decide +kernel
theorem dX8_countAt_224 : decode cX8_countAt 224 = .ok (.iload_n 2, 1) := by decide +kernel
theorem dX8_countAt_225 : decode cX8_countAt 225 = .ok (.iadd, 1) := by decide +kernel
theorem dX8_countAt_226 : decode cX8_countAt 226 = .ok (.iload 5, 2) := by decide +kernel
theorem dX8_countAt_228 : decode cX8_countAt 228 = .ok (.iastore, 1) := by decide +kernel
theorem dX8_countAt_229 : decode cX8_countAt 229 = .ok (.return_, 1) := by decide +kernel
set_option maxRecDepth 20000 in
theorem ggX8_layTune_X8_append : GoodIn wsX8_layTune wsX8_append := goodIn_r _ [6, 7, 8, 1, 9, 10, 11, 12, 13, 53, 54, 55, 56, 57, 58, 59, 60, 61, 62, 63, 64, 65, 66, 67, 68, 69, 70, 71, 72, 73] (by decide +kernel) (by decide +kernel)
set_option maxRecDepth 20000 in
theorem gX8_layTune_X8_append : GoodIn wsX8_layTune (wsV RX8 117 RX8 yX8_append wsX8_append) := goodIn_app (goodIn_of _ (by decide +kernel)) ggX8_layTune_X8_append
set_option maxRecDepth 20000 in
theorem ggX8_layTune_X8_count : GoodIn wsX8_layTune wsX8_count := goodIn_r _ [17, 1, 18, 19, 20, 21, 22, 23, 5, 24, 25, 26, 27, 28, 29, 30, 31, 32, 8, 10, 12, 33, 34, 35, 36, 37, 38, 39, 40, 41, 42, 43, 44, 45, 46, 47, 48, 49, 50, 51, 52, 53, 54, 55, 56, 57, 58, 59, 60, 61, 62, 63, 64, 65, 66, 67, 68, 69, 70, 71, 72, 73] (by decide +kernel) (by decide +kernel)
set_option maxRecDepth 20000 in
theorem gX8_layTune_X8_count : GoodIn wsX8_layTune (wsV RX8 121 RX8 yX8_count wsX8_count) := goodIn_app (goodIn_of _ (by decide +kernel)) ggX8_layTune_X8_count
theorem dX8_layTune_0 : decode cX8_layTune 0 = .ok (.aload_n 0, 1) := by decide +kernel
theorem dX8_layTune_1 : decode cX8_layTune 1 = .ok (.iconst 0, 1) := by decide +kernel
theorem dX8_layTune_2 : decode cX8_layTune 2 = .ok (.putfield 105, 3) := by decide +kernel
theorem dX8_layTune_5 : decode cX8_layTune 5 = .ok (.aload_n 0, 1) := by decide +kernel
theorem dX8_layTune_6 : decode cX8_layTune 6 = .ok (.iload_n 1, 1) := by decide +kernel
theorem dX8_layTune_7 : decode cX8_layTune 7 = .ok (.invokevirtual 117, 3) := by decide +kernel
theorem dX8_layTune_10 : decode cX8_layTune 10 = .ok (.aload_n 0, 1) := by decide +kernel
theorem dX8_layTune_11 : decode cX8_layTune 11 = .ok (.invokevirtual 121, 3) := by decide +kernel
theorem dX8_layTune_14 : decode cX8_layTune 14 = .ok (.return_, 1) := by decide +kernel
set_option maxRecDepth 20000 in
theorem ggX8_chosenAt_X8_isFirst : GoodIn wsX8_chosenAt wsX8_isFirst := goodIn_r _ [5, 6, 7, 8, 9, 10, 4, 11, 12, 13, 14, 15, 16, 17, 18, 19, 20, 21, 22, 23, 24, 25, 26, 27, 28, 29, 30, 31, 32, 33, 34, 35, 36, 37, 38, 39, 40, 41, 42, 43, 44, 45, 46, 47, 48, 49, 50, 51, 52, 53, 54, 55, 56] (by decide +kernel) (by decide +kernel)
set_option maxRecDepth 20000 in
theorem gX8_chosenAt_X8_isFirst : GoodIn wsX8_chosenAt (wsV RX8 124 RX8 yX8_isFirst wsX8_isFirst) := goodIn_app (goodIn_of _ (by decide +kernel)) ggX8_chosenAt_X8_isFirst
theorem dX8_chosenAt_0 : decode cX8_chosenAt 0 = .ok (.iconst 0, 1) := by decide +kernel
theorem dX8_chosenAt_1 : decode cX8_chosenAt 1 = .ok (.istore_n 2, 1) := by decide +kernel
theorem dX8_chosenAt_2 : decode cX8_chosenAt 2 = .ok (.iconst (-1), 1) := by decide +kernel
theorem dX8_chosenAt_3 : decode cX8_chosenAt 3 = .ok (.istore_n 3, 1) := by decide +kernel
theorem dX8_chosenAt_4 : decode cX8_chosenAt 4 = .ok (.iconst 0, 1) := by decide +kernel
theorem dX8_chosenAt_5 : decode cX8_chosenAt 5 = .ok (.istore 4, 2) := by decide +kernel
theorem dX8_chosenAt_7 : decode cX8_chosenAt 7 = .ok (.iload 4, 2) := by decide +kernel
theorem dX8_chosenAt_9 : decode cX8_chosenAt 9 = .ok (.iload_n 1, 1) := by decide +kernel
theorem dX8_chosenAt_10 : decode cX8_chosenAt 10 = .ok (.if_icmp .gt 32, 3) := by decide +kernel
theorem dX8_chosenAt_13 : decode cX8_chosenAt 13 = .ok (.iconst (-1), 1) := by decide +kernel
theorem dX8_chosenAt_14 : decode cX8_chosenAt 14 = .ok (.istore_n 3, 1) := by decide +kernel
theorem dX8_chosenAt_15 : decode cX8_chosenAt 15 = .ok (.aload_n 0, 1) := by decide +kernel
theorem dX8_chosenAt_16 : decode cX8_chosenAt 16 = .ok (.iload 4, 2) := by decide +kernel
theorem dX8_chosenAt_18 : decode cX8_chosenAt 18 = .ok (.iload_n 2, 1) := by decide +kernel
theorem dX8_chosenAt_19 : decode cX8_chosenAt 19 = .ok (.iload_n 3, 1) := by decide +kernel
theorem dX8_chosenAt_20 : decode cX8_chosenAt 20 = .ok (.invokevirtual 124, 3) := by decide +kernel
theorem dX8_chosenAt_23 : decode cX8_chosenAt 23 = .ok (.ifCond .ne 9, 3) := by decide +kernel
theorem dX8_chosenAt_26 : decode cX8_chosenAt 26 = .ok (.iinc 3 1, 3) := by decide +kernel
theorem dX8_chosenAt_29 : decode cX8_chosenAt 29 = .ok (.goto (-14), 3) := by decide +kernel
theorem dX8_chosenAt_32 : decode cX8_chosenAt 32 = .ok (.iload_n 3, 1) := by decide +kernel
theorem dX8_chosenAt_33 : decode cX8_chosenAt 33 = .ok (.iconst 1, 1) := by decide +kernel
theorem dX8_chosenAt_34 : decode cX8_chosenAt 34 = .ok (.iadd, 1) := by decide +kernel
theorem dX8_chosenAt_35 : decode cX8_chosenAt 35 = .ok (.istore_n 2, 1) := by decide +kernel
theorem dX8_chosenAt_36 : decode cX8_chosenAt 36 = .ok (.iinc 4 1, 3) := by decide +kernel
theorem dX8_chosenAt_39 : decode cX8_chosenAt 39 = .ok (.goto (-32), 3) := by decide +kernel
theorem dX8_chosenAt_42 : decode cX8_chosenAt 42 = .ok (.iload_n 3, 1) := by decide +kernel
theorem dX8_chosenAt_43 : decode cX8_chosenAt 43 = .ok (.ireturn, 1) := by decide +kernel
set_option maxRecDepth 20000 in
theorem ggX8_isFirst_X8_at : GoodIn wsX8_isFirst wsX8_at := goodIn_r _ [7, 8, 9, 10, 11, 12, 13, 14, 6, 15, 16, 17, 18, 19, 20, 21, 22, 23, 24, 25, 26, 27, 28, 29, 30, 31, 32, 33, 34, 35, 36, 37, 38, 39, 40, 41, 42, 43, 44, 45, 46, 47, 48, 49, 50, 51, 52] (by decide +kernel) (by decide +kernel)
set_option maxRecDepth 20000 in
theorem gX8_isFirst_X8_at : GoodIn wsX8_isFirst (wsV RX8 113 RX8 yX8_at wsX8_at) := goodIn_app (goodIn_of _ (by decide +kernel)) ggX8_isFirst_X8_at
theorem dX8_isFirst_0 : decode cX8_isFirst 0 = .ok (.bipush 9, 2) := by decide +kernel
theorem dX8_isFirst_2 : decode cX8_isFirst 2 = .ok (.iload_n 1, 1) := by decide +kernel
theorem dX8_isFirst_3 : decode cX8_isFirst 3 = .ok (.iconst 1, 1) := by decide +kernel
theorem dX8_isFirst_4 : decode cX8_isFirst 4 = .ok (.iadd, 1) := by decide +kernel
theorem dX8_isFirst_5 : decode cX8_isFirst 5 = .ok (.imul, 1) := by decide +kernel
theorem dX8_isFirst_6 : decode cX8_isFirst 6 = .ok (.iload_n 3, 1) := by decide +kernel
theorem dX8_isFirst_7 : decode cX8_isFirst 7 = .ok (.iadd, 1) := by decide +kernel
theorem dX8_isFirst_8 : decode cX8_isFirst 8 = .ok (.iconst 1, 1) := by decide +kernel
theorem dX8_isFirst_9 : decode cX8_isFirst 9 = .ok (.iadd, 1) := by decide +kernel
theorem dX8_isFirst_10 : decode cX8_isFirst 10 = .ok (.istore 4, 2) := by decide +kernel
theorem dX8_isFirst_12 : decode cX8_isFirst 12 = .ok (.iload_n 3, 1) := by decide +kernel
theorem dX8_isFirst_13 : decode cX8_isFirst 13 = .ok (.iconst (-1), 1) := by decide +kernel
theorem dX8_isFirst_14 : decode cX8_isFirst 14 = .ok (.if_icmp .eq 10, 3) := by decide +kernel
theorem dX8_isFirst_17 : decode cX8_isFirst 17 = .ok (.iload_n 3, 1) := by decide +kernel
theorem dX8_isFirst_18 : decode cX8_isFirst 18 = .ok (.iconst 1, 1) := by decide +kernel
theorem dX8_isFirst_19 : decode cX8_isFirst 19 = .ok (.iadd, 1) := by decide +kernel
theorem dX8_isFirst_20 : decode cX8_isFirst 20 = .ok (.iload_n 2, 1) := by decide +kernel
theorem dX8_isFirst_21 : decode cX8_isFirst 21 = .ok (.if_icmp .eq 17, 3) := by decide +kernel
theorem dX8_isFirst_24 : decode cX8_isFirst 24 = .ok (.aload_n 0, 1) := by decide +kernel
theorem dX8_isFirst_25 : decode cX8_isFirst 25 = .ok (.getfield 51, 3) := by decide +kernel
theorem dX8_isFirst_28 : decode cX8_isFirst 28 = .ok (.iload 4, 2) := by decide +kernel
theorem dX8_isFirst_30 : decode cX8_isFirst 30 = .ok (.iaload, 1) := by decide +kernel
theorem dX8_isFirst_31 : decode cX8_isFirst 31 = .ok (.ifCond .le 7, 3) := by decide +kernel
theorem dX8_isFirst_34 : decode cX8_isFirst 34 = .ok (.iconst 1, 1) := by decide +kernel
theorem dX8_isFirst_35 : decode cX8_isFirst 35 = .ok (.goto 4, 3) := by decide +kernel
theorem dX8_isFirst_38 : decode cX8_isFirst 38 = .ok (.iconst 0, 1) := by decide +kernel
theorem dX8_isFirst_39 : decode cX8_isFirst 39 = .ok (.istore 5, 2) := by decide +kernel
theorem dX8_isFirst_41 : decode cX8_isFirst 41 = .ok (.iload 5, 2) := by decide +kernel
theorem dX8_isFirst_43 : decode cX8_isFirst 43 = .ok (.ifCond .eq 35, 3) := by decide +kernel
theorem dX8_isFirst_46 : decode cX8_isFirst 46 = .ok (.aload_n 0, 1) := by decide +kernel
theorem dX8_isFirst_47 : decode cX8_isFirst 47 = .ok (.iload_n 1, 1) := by decide +kernel
theorem dX8_isFirst_48 : decode cX8_isFirst 48 = .ok (.iload_n 3, 1) := by decide +kernel
theorem dX8_isFirst_49 : decode cX8_isFirst 49 = .ok (.invokevirtual 113, 3) := by decide +kernel
theorem dX8_isFirst_52 : decode cX8_isFirst 52 = .ok (.aload_n 0, 1) := by decide +kernel
theorem dX8_isFirst_53 : decode cX8_isFirst 53 = .ok (.getfield 48, 3) := by decide +kernel
theorem dX8_isFirst_56 : decode cX8_isFirst 56 = .ok (.iload 4, 2) := by decide +kernel
theorem dX8_isFirst_58 : decode cX8_isFirst 58 = .ok (.iaload, 1) := by decide +kernel
theorem dX8_isFirst_59 : decode cX8_isFirst 59 = .ok (.iadd, 1) := by decide +kernel
theorem dX8_isFirst_60 : decode cX8_isFirst 60 = .ok (.aload_n 0, 1) := by decide +kernel
theorem dX8_isFirst_61 : decode cX8_isFirst 61 = .ok (.getfield 48, 3) := by decide +kernel
theorem dX8_isFirst_64 : decode cX8_isFirst 64 = .ok (.bipush 9, 2) := by decide +kernel
theorem dX8_isFirst_66 : decode cX8_isFirst 66 = .ok (.iload_n 1, 1) := by decide +kernel
theorem dX8_isFirst_67 : decode cX8_isFirst 67 = .ok (.imul, 1) := by decide +kernel
theorem dX8_isFirst_68 : decode cX8_isFirst 68 = .ok (.iload_n 2, 1) := by decide +kernel
theorem dX8_isFirst_69 : decode cX8_isFirst 69 = .ok (.iadd, 1) := by decide +kernel
theorem dX8_isFirst_70 : decode cX8_isFirst 70 = .ok (.iaload, 1) := by decide +kernel
theorem dX8_isFirst_71 : decode cX8_isFirst 71 = .ok (.if_icmp .ne 7, 3) := by decide +kernel
theorem dX8_isFirst_74 : decode cX8_isFirst 74 = .ok (.iconst 1, 1) := by decide +kernel
theorem dX8_isFirst_75 : decode cX8_isFirst 75 = .ok (.goto 4, 3) := by decide +kernel
theorem dX8_isFirst_78 : decode cX8_isFirst 78 = .ok (.iconst 0, 1) := by decide +kernel
theorem dX8_isFirst_79 : decode cX8_isFirst 79 = .ok (.ireturn, 1) := by decide +kernel
set_option maxRecDepth 20000 in
theorem ggX8_faultOf_X8_isTune : GoodIn wsX8_faultOf wsX8_isTune := goodIn_r _ [5, 6, 7, 4, 8] (by decide +kernel) (by decide +kernel)
set_option maxRecDepth 20000 in
theorem gX8_faultOf_X8_isTune : GoodIn wsX8_faultOf (va_wsS RX8 99 yX8_isTune wsX8_isTune) := goodIn_app (goodIn_of _ (by decide +kernel)) ggX8_faultOf_X8_isTune
set_option maxRecDepth 20000 in
theorem ggX8_faultOf_X8_layTune : GoodIn wsX8_faultOf wsX8_layTune := goodIn_r _ [12, 13, 14, 15, 16, 4, 17, 18, 19, 20, 21, 22, 23, 24, 25, 26, 27, 28, 29, 1, 30, 31, 32, 33, 34, 35, 36, 37, 38, 39, 40, 41, 42, 43, 44, 45, 46, 47, 48, 49, 50, 51, 52, 53, 54, 55, 56, 57, 58, 59, 60, 61, 62, 63, 64, 65, 66, 67, 68, 69, 70, 71, 72, 73, 74, 75, 76, 77, 78, 79, 80, 81, 82, 83] (by decide +kernel) (by decide +kernel)
set_option maxRecDepth 20000 in
theorem gX8_faultOf_X8_layTune : GoodIn wsX8_faultOf (wsV RX8 127 RX8 yX8_layTune wsX8_layTune) := goodIn_app (goodIn_of _ (by decide +kernel)) ggX8_faultOf_X8_layTune
theorem dX8_faultOf_0 : decode cX8_faultOf 0 = .ok (.iload_n 1, 1) := by decide +kernel
theorem dX8_faultOf_1 : decode cX8_faultOf 1 = .ok (.invokestatic 99, 3) := by decide +kernel
theorem dX8_faultOf_4 : decode cX8_faultOf 4 = .ok (.ifCond .ne 5, 3) := by decide +kernel
theorem dX8_faultOf_7 : decode cX8_faultOf 7 = .ok (.iconst 1, 1) := by decide +kernel
theorem dX8_faultOf_8 : decode cX8_faultOf 8 = .ok (.ireturn, 1) := by decide +kernel
theorem dX8_faultOf_9 : decode cX8_faultOf 9 = .ok (.aload_n 0, 1) := by decide +kernel
theorem dX8_faultOf_10 : decode cX8_faultOf 10 = .ok (.iload_n 1, 1) := by decide +kernel
theorem dX8_faultOf_11 : decode cX8_faultOf 11 = .ok (.invokevirtual 127, 3) := by decide +kernel
theorem dX8_faultOf_14 : decode cX8_faultOf 14 = .ok (.iload_n 2, 1) := by decide +kernel
theorem dX8_faultOf_15 : decode cX8_faultOf 15 = .ok (.ifCond .ne 7, 3) := by decide +kernel
theorem dX8_faultOf_18 : decode cX8_faultOf 18 = .ok (.iconst 2, 1) := by decide +kernel
theorem dX8_faultOf_19 : decode cX8_faultOf 19 = .ok (.goto 17, 3) := by decide +kernel
theorem dX8_faultOf_22 : decode cX8_faultOf 22 = .ok (.aload_n 0, 1) := by decide +kernel
theorem dX8_faultOf_23 : decode cX8_faultOf 23 = .ok (.getfield 51, 3) := by decide +kernel
theorem dX8_faultOf_26 : decode cX8_faultOf 26 = .ok (.iconst 0, 1) := by decide +kernel
theorem dX8_faultOf_27 : decode cX8_faultOf 27 = .ok (.iaload, 1) := by decide +kernel
theorem dX8_faultOf_28 : decode cX8_faultOf 28 = .ok (.ifCond .ne 7, 3) := by decide +kernel
theorem dX8_faultOf_31 : decode cX8_faultOf 31 = .ok (.iconst 3, 1) := by decide +kernel
theorem dX8_faultOf_32 : decode cX8_faultOf 32 = .ok (.goto 4, 3) := by decide +kernel
theorem dX8_faultOf_35 : decode cX8_faultOf 35 = .ok (.iconst 0, 1) := by decide +kernel
theorem dX8_faultOf_36 : decode cX8_faultOf 36 = .ok (.ireturn, 1) := by decide +kernel
set_option maxRecDepth 20000 in
theorem ggX8_time_X8_isTune : GoodIn wsX8_time wsX8_isTune := goodIn_r _ [8, 9, 10, 7, 11] (by decide +kernel) (by decide +kernel)
set_option maxRecDepth 20000 in
theorem gX8_time_X8_isTune : GoodIn wsX8_time (va_wsS RX8 99 yX8_isTune wsX8_isTune) := goodIn_app (goodIn_of _ (by decide +kernel)) ggX8_time_X8_isTune
set_option maxRecDepth 20000 in
theorem ggX8_time_X8_in : GoodIn wsX8_time wsX8_in := goodIn_r _ [11] (by decide +kernel) (by decide +kernel)
set_option maxRecDepth 20000 in
theorem gX8_time_X8_in : GoodIn wsX8_time (va_wsS RX8 66 yX8_in wsX8_in) := goodIn_app (goodIn_of _ (by decide +kernel)) ggX8_time_X8_in
set_option maxRecDepth 20000 in
theorem ggX8_time_X8_faultOf : GoodIn wsX8_time wsX8_faultOf := goodIn_r _ [15, 16, 5, 6, 7, 8, 9, 10, 11, 17, 18, 19, 20, 2, 21, 22, 23, 24, 1, 25, 26, 3, 27, 28, 29, 30, 31, 32, 33, 34, 35, 36, 37, 38, 39, 40, 41, 42, 43, 44, 45, 46, 47, 48, 49, 50, 51, 4, 52, 53, 54, 55, 56, 57, 58, 59, 60, 61, 62, 63, 64, 65, 66, 80, 81, 82, 83, 84, 85, 86, 87, 88, 89, 90, 91, 92, 93, 94, 95, 96, 97, 98, 99, 100] (by decide +kernel) (by decide +kernel)
set_option maxRecDepth 20000 in
theorem gX8_time_X8_faultOf : GoodIn wsX8_time (wsV RX8 130 RX8 yX8_faultOf wsX8_faultOf) := goodIn_app (goodIn_of _ (by decide +kernel)) ggX8_time_X8_faultOf
set_option maxRecDepth 20000 in
theorem ggX8_time_X8_goesWell : GoodIn wsX8_time wsX8_goesWell := goodIn_r _ [70, 71, 80, 81, 82, 83, 84, 85, 86, 87, 88, 89, 90, 91, 92, 93, 94, 95, 96, 97, 98, 99, 100] (by decide +kernel) (by decide +kernel)
set_option maxRecDepth 20000 in
theorem gX8_time_X8_goesWell : GoodIn wsX8_time (wsV RX8 78 RX8 yX8_goesWell wsX8_goesWell) := goodIn_app (goodIn_of _ (by decide +kernel)) ggX8_time_X8_goesWell
set_option maxRecDepth 20000 in
theorem ggX8_time_X8_chosenAt : GoodIn wsX8_time wsX8_chosenAt := goodIn_r _ [75, 76, 77, 78, 7, 79, 16, 34, 44, 45, 46, 47, 25, 3, 28, 40, 48, 49, 50, 51, 4, 52, 53, 54, 55, 56, 57, 58, 59, 60, 61, 62, 63, 64, 65, 66, 80, 81, 82, 83, 84, 85, 86, 87, 88, 89, 90, 91, 92, 93, 94, 95, 96, 97, 98, 99, 100] (by decide +kernel) (by decide +kernel)
set_option maxRecDepth 20000 in
theorem gX8_time_X8_chosenAt : GoodIn wsX8_time (wsV RX8 134 RX8 yX8_chosenAt wsX8_chosenAt) := goodIn_app (goodIn_of _ (by decide +kernel)) ggX8_time_X8_chosenAt
theorem dX8_time_0 : decode cX8_time 0 = .ok (.aload_n 0, 1) := by decide +kernel
theorem dX8_time_1 : decode cX8_time 1 = .ok (.aload_n 0, 1) := by decide +kernel
theorem dX8_time_2 : decode cX8_time 2 = .ok (.iload_n 1, 1) := by decide +kernel
theorem dX8_time_3 : decode cX8_time 3 = .ok (.iload_n 1, 1) := by decide +kernel
theorem dX8_time_4 : decode cX8_time 4 = .ok (.invokestatic 99, 3) := by decide +kernel
theorem dX8_time_7 : decode cX8_time 7 = .ok (.ifCond .eq 23, 3) := by decide +kernel
theorem dX8_time_10 : decode cX8_time 10 = .ok (.iload_n 2, 1) := by decide +kernel
theorem dX8_time_11 : decode cX8_time 11 = .ok (.iconst 0, 1) := by decide +kernel
theorem dX8_time_12 : decode cX8_time 12 = .ok (.aload_n 0, 1) := by decide +kernel
theorem dX8_time_13 : decode cX8_time 13 = .ok (.getfield 36, 3) := by decide +kernel
theorem dX8_time_16 : decode cX8_time 16 = .ok (.iload_n 1, 1) := by decide +kernel
theorem dX8_time_17 : decode cX8_time 17 = .ok (.iaload, 1) := by decide +kernel
theorem dX8_time_18 : decode cX8_time 18 = .ok (.iconst 1, 1) := by decide +kernel
theorem dX8_time_19 : decode cX8_time 19 = .ok (.isub, 1) := by decide +kernel
theorem dX8_time_20 : decode cX8_time 20 = .ok (.invokestatic 66, 3) := by decide +kernel
theorem dX8_time_23 : decode cX8_time 23 = .ok (.ifCond .eq 7, 3) := by decide +kernel
theorem dX8_time_26 : decode cX8_time 26 = .ok (.iconst 1, 1) := by decide +kernel
theorem dX8_time_27 : decode cX8_time 27 = .ok (.goto 4, 3) := by decide +kernel
theorem dX8_time_30 : decode cX8_time 30 = .ok (.iconst 0, 1) := by decide +kernel
theorem dX8_time_31 : decode cX8_time 31 = .ok (.invokevirtual 130, 3) := by decide +kernel
theorem dX8_time_34 : decode cX8_time 34 = .ok (.invokevirtual 78, 3) := by decide +kernel
theorem dX8_time_37 : decode cX8_time 37 = .ok (.ifCond .ne 5, 3) := by decide +kernel
theorem dX8_time_40 : decode cX8_time 40 = .ok (.iconst 0, 1) := by decide +kernel
theorem dX8_time_41 : decode cX8_time 41 = .ok (.ireturn, 1) := by decide +kernel
theorem dX8_time_42 : decode cX8_time 42 = .ok (.iload_n 2, 1) := by decide +kernel
theorem dX8_time_43 : decode cX8_time 43 = .ok (.iconst 1, 1) := by decide +kernel
theorem dX8_time_44 : decode cX8_time 44 = .ok (.iadd, 1) := by decide +kernel
theorem dX8_time_45 : decode cX8_time 45 = .ok (.aload_n 0, 1) := by decide +kernel
theorem dX8_time_46 : decode cX8_time 46 = .ok (.getfield 105, 3) := by decide +kernel
theorem dX8_time_49 : decode cX8_time 49 = .ok (.if_icmp .ge 11, 3) := by decide +kernel
theorem dX8_time_52 : decode cX8_time 52 = .ok (.aload_n 0, 1) := by decide +kernel
theorem dX8_time_53 : decode cX8_time 53 = .ok (.iload_n 2, 1) := by decide +kernel
theorem dX8_time_54 : decode cX8_time 54 = .ok (.invokevirtual 134, 3) := by decide +kernel
theorem dX8_time_57 : decode cX8_time 57 = .ok (.goto 4, 3) := by decide +kernel
theorem dX8_time_60 : decode cX8_time 60 = .ok (.iconst (-1), 1) := by decide +kernel
theorem dX8_time_61 : decode cX8_time 61 = .ok (.istore_n 3, 1) := by decide +kernel
theorem dX8_time_62 : decode cX8_time 62 = .ok (.aload_n 0, 1) := by decide +kernel
theorem dX8_time_63 : decode cX8_time 63 = .ok (.getfield 42, 3) := by decide +kernel
theorem dX8_time_66 : decode cX8_time 66 = .ok (.iload_n 2, 1) := by decide +kernel
theorem dX8_time_67 : decode cX8_time 67 = .ok (.iaload, 1) := by decide +kernel
theorem dX8_time_68 : decode cX8_time 68 = .ok (.iload_n 3, 1) := by decide +kernel
theorem dX8_time_69 : decode cX8_time 69 = .ok (.iconst (-1), 1) := by decide +kernel
theorem dX8_time_70 : decode cX8_time 70 = .ok (.if_icmp .ne 7, 3) := by decide +kernel
theorem dX8_time_73 : decode cX8_time 73 = .ok (.iconst 0, 1) := by decide +kernel
theorem dX8_time_74 : decode cX8_time 74 = .ok (.goto 9, 3) := by decide +kernel
theorem dX8_time_77 : decode cX8_time 77 = .ok (.aload_n 0, 1) := by decide +kernel
theorem dX8_time_78 : decode cX8_time 78 = .ok (.getfield 20, 3) := by decide +kernel
theorem dX8_time_81 : decode cX8_time 81 = .ok (.iload_n 3, 1) := by decide +kernel
theorem dX8_time_82 : decode cX8_time 82 = .ok (.iaload, 1) := by decide +kernel
theorem dX8_time_83 : decode cX8_time 83 = .ok (.isub, 1) := by decide +kernel
theorem dX8_time_84 : decode cX8_time 84 = .ok (.ireturn, 1) := by decide +kernel
set_option maxRecDepth 20000 in
theorem ggX8_fitting_X8_isTune : GoodIn wsX8_fitting wsX8_isTune := goodIn_r _ [6, 7, 8, 5, 9] (by decide +kernel) (by decide +kernel)
set_option maxRecDepth 20000 in
theorem gX8_fitting_X8_isTune : GoodIn wsX8_fitting (va_wsS RX8 99 yX8_isTune wsX8_isTune) := goodIn_app (goodIn_of _ (by decide +kernel)) ggX8_fitting_X8_isTune
set_option maxRecDepth 20000 in
theorem ggX8_fitting_X8_isGap : GoodIn wsX8_fitting wsX8_isGap := goodIn_r _ [13, 14, 7, 8, 5, 9, 72, 73, 74, 75, 76, 77, 78, 79, 80, 81, 82, 83, 84, 85, 86, 87, 88, 89, 90, 91, 92] (by decide +kernel) (by decide +kernel)
set_option maxRecDepth 20000 in
theorem gX8_fitting_X8_isGap : GoodIn wsX8_fitting (wsV RX8 102 RX8 yX8_isGap wsX8_isGap) := goodIn_app (goodIn_of _ (by decide +kernel)) ggX8_fitting_X8_isGap
set_option maxRecDepth 20000 in
theorem ggX8_fitting_X8_goesWell : GoodIn wsX8_fitting wsX8_goesWell := goodIn_r _ [18, 19, 72, 73, 74, 75, 76, 77, 78, 79, 80, 81, 82, 83, 84, 85, 86, 87, 88, 89, 90, 91, 92] (by decide +kernel) (by decide +kernel)
set_option maxRecDepth 20000 in
theorem gX8_fitting_X8_goesWell : GoodIn wsX8_fitting (wsV RX8 78 RX8 yX8_goesWell wsX8_goesWell) := goodIn_app (goodIn_of _ (by decide +kernel)) ggX8_fitting_X8_goesWell
set_option maxRecDepth 20000 in
theorem ggX8_fitting_X8_layTune : GoodIn wsX8_fitting wsX8_layTune := goodIn_r _ [23, 24, 25, 26, 27, 5, 28, 14, 29, 30, 31, 32, 33, 34, 35, 36, 37, 38, 39, 40, 41, 42, 43, 44, 45, 2, 46, 1, 47, 48, 49, 50, 51, 52, 53, 54, 55, 56, 57, 58, 59, 60, 61, 62, 63, 64, 65, 66, 67, 68, 69, 70, 71, 72, 73, 74, 75, 76, 77, 78, 79, 80, 81, 82, 83, 84, 85, 86, 87, 88, 89, 90, 91, 92] (by decide +kernel) (by decide +kernel)
set_option maxRecDepth 20000 in
theorem gX8_fitting_X8_layTune : GoodIn wsX8_fitting (wsV RX8 127 RX8 yX8_layTune wsX8_layTune) := goodIn_app (goodIn_of _ (by decide +kernel)) ggX8_fitting_X8_layTune
set_option maxRecDepth 20000 in
theorem ggX8_fitting_X8_at : GoodIn wsX8_fitting wsX8_at := goodIn_r _ [51, 29, 31, 33, 2, 52, 53, 54, 5, 55, 56, 57, 58, 59, 60, 61, 62, 63, 64, 65, 66, 67, 68, 69, 70, 71, 72, 73, 74, 75, 76, 77, 78, 79, 80, 81, 82, 83, 84, 85, 86, 87, 88, 89, 90, 91, 92] (by decide +kernel) (by decide +kernel)
set_option maxRecDepth 20000 in
theorem gX8_fitting_X8_at : GoodIn wsX8_fitting (wsV RX8 113 RX8 yX8_at wsX8_at) := goodIn_app (goodIn_of _ (by decide +kernel)) ggX8_fitting_X8_at
theorem dX8_fitting_0 : decode cX8_fitting 0 = .ok (.aload_n 0, 1) := by decide +kernel
theorem dX8_fitting_1 : decode cX8_fitting 1 = .ok (.iload_n 1, 1) := by decide +kernel
theorem dX8_fitting_2 : decode cX8_fitting 2 = .ok (.invokestatic 99, 3) := by decide +kernel
theorem dX8_fitting_5 : decode cX8_fitting 5 = .ok (.ifCond .ne 7, 3) := by decide +kernel
theorem dX8_fitting_8 : decode cX8_fitting 8 = .ok (.iconst 1, 1) := by decide +kernel
theorem dX8_fitting_9 : decode cX8_fitting 9 = .ok (.goto 17, 3) := by decide +kernel
theorem dX8_fitting_12 : decode cX8_fitting 12 = .ok (.aload_n 0, 1) := by decide +kernel
theorem dX8_fitting_13 : decode cX8_fitting 13 = .ok (.iload_n 1, 1) := by decide +kernel
theorem dX8_fitting_14 : decode cX8_fitting 14 = .ok (.iload_n 2, 1) := by decide +kernel
theorem dX8_fitting_15 : decode cX8_fitting 15 = .ok (.invokevirtual 102, 3) := by decide +kernel
theorem dX8_fitting_18 : decode cX8_fitting 18 = .ok (.ifCond .eq 7, 3) := by decide +kernel
theorem dX8_fitting_21 : decode cX8_fitting 21 = .ok (.iconst 0, 1) := by decide +kernel
theorem dX8_fitting_22 : decode cX8_fitting 22 = .ok (.goto 4, 3) := by decide +kernel
theorem dX8_fitting_25 : decode cX8_fitting 25 = .ok (.iconst 2, 1) := by decide +kernel
theorem dX8_fitting_26 : decode cX8_fitting 26 = .ok (.invokevirtual 78, 3) := by decide +kernel
theorem dX8_fitting_29 : decode cX8_fitting 29 = .ok (.ifCond .ne 5, 3) := by decide +kernel
theorem dX8_fitting_32 : decode cX8_fitting 32 = .ok (.iconst 0, 1) := by decide +kernel
theorem dX8_fitting_33 : decode cX8_fitting 33 = .ok (.ireturn, 1) := by decide +kernel
theorem dX8_fitting_34 : decode cX8_fitting 34 = .ok (.aload_n 0, 1) := by decide +kernel
theorem dX8_fitting_35 : decode cX8_fitting 35 = .ok (.iload_n 1, 1) := by decide +kernel
theorem dX8_fitting_36 : decode cX8_fitting 36 = .ok (.invokevirtual 127, 3) := by decide +kernel
theorem dX8_fitting_39 : decode cX8_fitting 39 = .ok (.iconst 0, 1) := by decide +kernel
theorem dX8_fitting_40 : decode cX8_fitting 40 = .ok (.istore_n 3, 1) := by decide +kernel
theorem dX8_fitting_41 : decode cX8_fitting 41 = .ok (.iconst 0, 1) := by decide +kernel
theorem dX8_fitting_42 : decode cX8_fitting 42 = .ok (.istore 4, 2) := by decide +kernel
theorem dX8_fitting_44 : decode cX8_fitting 44 = .ok (.iload 4, 2) := by decide +kernel
theorem dX8_fitting_46 : decode cX8_fitting 46 = .ok (.aload_n 0, 1) := by decide +kernel
theorem dX8_fitting_47 : decode cX8_fitting 47 = .ok (.getfield 88, 3) := by decide +kernel
theorem dX8_fitting_50 : decode cX8_fitting 50 = .ok (.if_icmp .ge 29, 3) := by decide +kernel
theorem dX8_fitting_53 : decode cX8_fitting 53 = .ok (.iload_n 3, 1) := by decide +kernel
theorem dX8_fitting_54 : decode cX8_fitting 54 = .ok (.aload_n 0, 1) := by decide +kernel
theorem dX8_fitting_55 : decode cX8_fitting 55 = .ok (.iload_n 2, 1) := by decide +kernel
theorem dX8_fitting_56 : decode cX8_fitting 56 = .ok (.iload 4, 2) := by decide +kernel
theorem dX8_fitting_58 : decode cX8_fitting 58 = .ok (.invokevirtual 113, 3) := by decide +kernel
theorem dX8_fitting_61 : decode cX8_fitting 61 = .ok (.ldc 91, 2) := by decide +kernel
theorem dX8_fitting_63 : decode cX8_fitting 63 = .ok (.if_icmp .ge 7, 3) := by decide +kernel
theorem dX8_fitting_66 : decode cX8_fitting 66 = .ok (.iconst 1, 1) := by decide +kernel
theorem dX8_fitting_67 : decode cX8_fitting 67 = .ok (.goto 4, 3) := by decide +kernel
theorem dX8_fitting_70 : decode cX8_fitting 70 = .ok (.iconst 0, 1) := by decide +kernel
theorem dX8_fitting_71 : decode cX8_fitting 71 = .ok (.iadd, 1) := by decide +kernel
theorem dX8_fitting_72 : decode cX8_fitting 72 = .ok (.istore_n 3, 1) := by decide +kernel
theorem dX8_fitting_73 : decode cX8_fitting 73 = .ok (.iinc 4 1, 3) := by decide +kernel
theorem dX8_fitting_76 : decode cX8_fitting 76 = .ok (.goto (-32), 3) := by decide +kernel
theorem dX8_fitting_79 : decode cX8_fitting 79 = .ok (.iload_n 3, 1) := by decide +kernel
theorem dX8_fitting_80 : decode cX8_fitting 80 = .ok (.ireturn, 1) := by decide +kernel
set_option maxRecDepth 20000 in
theorem ggX8_choices_X8_isTune : GoodIn wsX8_choices wsX8_isTune := goodIn_r _ [5, 6, 7, 4, 8] (by decide +kernel) (by decide +kernel)
set_option maxRecDepth 20000 in
theorem gX8_choices_X8_isTune : GoodIn wsX8_choices (va_wsS RX8 99 yX8_isTune wsX8_isTune) := goodIn_app (goodIn_of _ (by decide +kernel)) ggX8_choices_X8_isTune
set_option maxRecDepth 20000 in
theorem ggX8_choices_X8_goesWell : GoodIn wsX8_choices wsX8_goesWell := goodIn_r _ [12, 13, 68, 69, 70, 71, 72, 73, 74, 75, 76, 77, 78, 79, 80, 81, 82, 83, 84, 85, 86, 87, 88] (by decide +kernel) (by decide +kernel)
set_option maxRecDepth 20000 in
theorem gX8_choices_X8_goesWell : GoodIn wsX8_choices (wsV RX8 78 RX8 yX8_goesWell wsX8_goesWell) := goodIn_app (goodIn_of _ (by decide +kernel)) ggX8_choices_X8_goesWell
set_option maxRecDepth 20000 in
theorem ggX8_choices_X8_layTune : GoodIn wsX8_choices wsX8_layTune := goodIn_r _ [17, 18, 19, 20, 21, 4, 22, 23, 24, 25, 26, 27, 28, 29, 30, 31, 32, 33, 34, 1, 35, 36, 37, 38, 39, 40, 41, 42, 43, 44, 45, 46, 47, 48, 49, 50, 51, 52, 53, 54, 55, 56, 57, 58, 59, 60, 61, 62, 63, 64, 65, 66, 67, 68, 69, 70, 71, 72, 73, 74, 75, 76, 77, 78, 79, 80, 81, 82, 83, 84, 85, 86, 87, 88] (by decide +kernel) (by decide +kernel)
set_option maxRecDepth 20000 in
theorem gX8_choices_X8_layTune : GoodIn wsX8_choices (wsV RX8 127 RX8 yX8_layTune wsX8_layTune) := goodIn_app (goodIn_of _ (by decide +kernel)) ggX8_choices_X8_layTune
theorem dX8_choices_0 : decode cX8_choices 0 = .ok (.aload_n 0, 1) := by decide +kernel
theorem dX8_choices_1 : decode cX8_choices 1 = .ok (.iload_n 1, 1) := by decide +kernel
theorem dX8_choices_2 : decode cX8_choices 2 = .ok (.invokestatic 99, 3) := by decide +kernel
theorem dX8_choices_5 : decode cX8_choices 5 = .ok (.ifCond .eq 7, 3) := by decide +kernel
theorem dX8_choices_8 : decode cX8_choices 8 = .ok (.iconst 0, 1) := by decide +kernel
theorem dX8_choices_9 : decode cX8_choices 9 = .ok (.goto 4, 3) := by decide +kernel
theorem dX8_choices_12 : decode cX8_choices 12 = .ok (.iconst 1, 1) := by decide +kernel
theorem dX8_choices_13 : decode cX8_choices 13 = .ok (.invokevirtual 78, 3) := by decide +kernel
theorem dX8_choices_16 : decode cX8_choices 16 = .ok (.ifCond .ne 5, 3) := by decide +kernel
theorem dX8_choices_19 : decode cX8_choices 19 = .ok (.iconst 0, 1) := by decide +kernel
theorem dX8_choices_20 : decode cX8_choices 20 = .ok (.ireturn, 1) := by decide +kernel
theorem dX8_choices_21 : decode cX8_choices 21 = .ok (.aload_n 0, 1) := by decide +kernel
theorem dX8_choices_22 : decode cX8_choices 22 = .ok (.iload_n 1, 1) := by decide +kernel
theorem dX8_choices_23 : decode cX8_choices 23 = .ok (.invokevirtual 127, 3) := by decide +kernel
theorem dX8_choices_26 : decode cX8_choices 26 = .ok (.aload_n 0, 1) := by decide +kernel
theorem dX8_choices_27 : decode cX8_choices 27 = .ok (.getfield 51, 3) := by decide +kernel
theorem dX8_choices_30 : decode cX8_choices 30 = .ok (.iconst 0, 1) := by decide +kernel
theorem dX8_choices_31 : decode cX8_choices 31 = .ok (.iaload, 1) := by decide +kernel
theorem dX8_choices_32 : decode cX8_choices 32 = .ok (.ireturn, 1) := by decide +kernel
set_option maxRecDepth 20000 in
theorem ggX8_faultOfTune_X8_faultOf : GoodIn wsX8_faultOfTune wsX8_faultOf := goodIn_r _ [5, 6, 7, 8, 4, 9, 10, 11, 12, 13, 14, 15, 16, 17, 18, 19, 20, 21, 22, 23, 24, 25, 26, 27, 28, 29, 30, 31, 32, 33, 34, 35, 36, 37, 38, 39, 40, 41, 42, 43, 44, 45, 46, 47, 48, 49, 50, 51, 52, 53, 54, 55, 56, 57, 58, 59, 60, 61, 62, 63, 64, 65, 66, 67, 68, 69, 70, 71, 72, 73, 74, 75, 76, 77, 78, 79, 80, 81, 82, 83, 84, 85, 86, 87] (by decide +kernel) (by decide +kernel)
set_option maxRecDepth 20000 in
theorem gX8_faultOfTune_X8_faultOf : GoodIn wsX8_faultOfTune (wsV RX8 130 RX8 yX8_faultOf wsX8_faultOf) := goodIn_app (goodIn_of _ (by decide +kernel)) ggX8_faultOfTune_X8_faultOf
theorem dX8_faultOfTune_0 : decode cX8_faultOfTune 0 = .ok (.aload_n 0, 1) := by decide +kernel
theorem dX8_faultOfTune_1 : decode cX8_faultOfTune 1 = .ok (.iload_n 1, 1) := by decide +kernel
theorem dX8_faultOfTune_2 : decode cX8_faultOfTune 2 = .ok (.iconst 1, 1) := by decide +kernel
theorem dX8_faultOfTune_3 : decode cX8_faultOfTune 3 = .ok (.invokevirtual 130, 3) := by decide +kernel
theorem dX8_faultOfTune_6 : decode cX8_faultOfTune 6 = .ok (.istore_n 2, 1) := by decide +kernel
theorem dX8_faultOfTune_7 : decode cX8_faultOfTune 7 = .ok (.iload_n 2, 1) := by decide +kernel
theorem dX8_faultOfTune_8 : decode cX8_faultOfTune 8 = .ok (.iconst 3, 1) := by decide +kernel
theorem dX8_faultOfTune_9 : decode cX8_faultOfTune 9 = .ok (.if_icmp .ne 7, 3) := by decide +kernel
theorem dX8_faultOfTune_12 : decode cX8_faultOfTune 12 = .ok (.iconst 2, 1) := by decide +kernel
theorem dX8_faultOfTune_13 : decode cX8_faultOfTune 13 = .ok (.goto 4, 3) := by decide +kernel
theorem dX8_faultOfTune_16 : decode cX8_faultOfTune 16 = .ok (.iload_n 2, 1) := by decide +kernel
theorem dX8_faultOfTune_17 : decode cX8_faultOfTune 17 = .ok (.ireturn, 1) := by decide +kernel
set_option maxRecDepth 20000 in
theorem ggX8_least_X8_faultOfTune : GoodIn wsX8_least wsX8_faultOfTune := goodIn_r _ [6, 7, 8, 9, 5, 10, 11, 12, 13, 14, 15, 16, 17, 18, 19, 20, 21, 22, 23, 24, 25, 26, 27, 28, 29, 30, 31, 32, 33, 34, 35, 36, 37, 1, 38, 39, 40, 41, 42, 43, 44, 45, 46, 47, 48, 49, 50, 51, 52, 53, 54, 55, 56, 57, 58, 59, 60, 61, 62, 63, 64, 65, 66, 67, 68, 69, 70, 76, 77, 78, 79, 80, 81, 82, 83, 84, 85, 86, 87, 88, 89, 90, 91, 92, 93, 94, 95, 96] (by decide +kernel) (by decide +kernel)
set_option maxRecDepth 20000 in
theorem gX8_least_X8_faultOfTune : GoodIn wsX8_least (wsV RX8 138 RX8 yX8_faultOfTune wsX8_faultOfTune) := goodIn_app (goodIn_of _ (by decide +kernel)) ggX8_least_X8_faultOfTune
set_option maxRecDepth 20000 in
theorem ggX8_least_X8_goesWell : GoodIn wsX8_least wsX8_goesWell := goodIn_r _ [74, 75, 76, 77, 78, 79, 80, 81, 82, 83, 84, 85, 86, 87, 88, 89, 90, 91, 92, 93, 94, 95, 96] (by decide +kernel) (by decide +kernel)
set_option maxRecDepth 20000 in
theorem gX8_least_X8_goesWell : GoodIn wsX8_least (wsV RX8 78 RX8 yX8_goesWell wsX8_goesWell) := goodIn_app (goodIn_of _ (by decide +kernel)) ggX8_least_X8_goesWell
theorem dX8_least_0 : decode cX8_least 0 = .ok (.aload_n 0, 1) := by decide +kernel
theorem dX8_least_1 : decode cX8_least 1 = .ok (.aload_n 0, 1) := by decide +kernel
theorem dX8_least_2 : decode cX8_least 2 = .ok (.iload_n 1, 1) := by decide +kernel
theorem dX8_least_3 : decode cX8_least 3 = .ok (.invokevirtual 138, 3) := by decide +kernel
theorem dX8_least_6 : decode cX8_least 6 = .ok (.invokevirtual 78, 3) := by decide +kernel
theorem dX8_least_9 : decode cX8_least 9 = .ok (.ifCond .eq 12, 3) := by decide +kernel
theorem dX8_least_12 : decode cX8_least 12 = .ok (.aload_n 0, 1) := by decide +kernel
theorem dX8_least_13 : decode cX8_least 13 = .ok (.getfield 48, 3) := by decide +kernel
theorem dX8_least_16 : decode cX8_least 16 = .ok (.iconst 0, 1) := by decide +kernel
theorem dX8_least_17 : decode cX8_least 17 = .ok (.iaload, 1) := by decide +kernel
theorem dX8_least_18 : decode cX8_least 18 = .ok (.goto 4, 3) := by decide +kernel
theorem dX8_least_21 : decode cX8_least 21 = .ok (.iconst 0, 1) := by decide +kernel
theorem dX8_least_22 : decode cX8_least 22 = .ok (.ireturn, 1) := by decide +kernel
set_option maxRecDepth 20000 in
theorem ggX8_chosen_X8_isTune : GoodIn wsX8_chosen wsX8_isTune := goodIn_r _ [4, 5, 6, 3, 7] (by decide +kernel) (by decide +kernel)
set_option maxRecDepth 20000 in
theorem gX8_chosen_X8_isTune : GoodIn wsX8_chosen (va_wsS RX8 99 yX8_isTune wsX8_isTune) := goodIn_app (goodIn_of _ (by decide +kernel)) ggX8_chosen_X8_isTune
set_option maxRecDepth 20000 in
theorem ggX8_chosen_X8_isGap : GoodIn wsX8_chosen wsX8_isGap := goodIn_r _ [11, 12, 5, 6, 3, 7, 84, 85, 86, 87, 88, 89, 90, 91, 92, 93, 94, 95, 96, 97, 98, 99, 100, 101, 102, 103, 104] (by decide +kernel) (by decide +kernel)
set_option maxRecDepth 20000 in
theorem gX8_chosen_X8_isGap : GoodIn wsX8_chosen (wsV RX8 102 RX8 yX8_isGap wsX8_isGap) := goodIn_app (goodIn_of _ (by decide +kernel)) ggX8_chosen_X8_isGap
set_option maxRecDepth 20000 in
theorem ggX8_chosen_X8_faultOf : GoodIn wsX8_chosen wsX8_faultOf := goodIn_r _ [16, 17, 1, 2, 3, 4, 5, 6, 7, 18, 19, 20, 21, 22, 23, 24, 25, 26, 12, 27, 28, 29, 30, 31, 32, 33, 34, 35, 36, 37, 38, 39, 40, 41, 42, 43, 44, 45, 46, 47, 48, 49, 50, 51, 52, 53, 54, 55, 56, 57, 58, 59, 60, 61, 62, 63, 64, 65, 66, 67, 68, 69, 70, 84, 85, 86, 87, 88, 89, 90, 91, 92, 93, 94, 95, 96, 97, 98, 99, 100, 101, 102, 103, 104] (by decide +kernel) (by decide +kernel)
set_option maxRecDepth 20000 in
theorem gX8_chosen_X8_faultOf : GoodIn wsX8_chosen (wsV RX8 130 RX8 yX8_faultOf wsX8_faultOf) := goodIn_app (goodIn_of _ (by decide +kernel)) ggX8_chosen_X8_faultOf
set_option maxRecDepth 20000 in
theorem ggX8_chosen_X8_goesWell : GoodIn wsX8_chosen wsX8_goesWell := goodIn_r _ [74, 75, 84, 85, 86, 87, 88, 89, 90, 91, 92, 93, 94, 95, 96, 97, 98, 99, 100, 101, 102, 103, 104] (by decide +kernel) (by decide +kernel)
set_option maxRecDepth 20000 in
theorem gX8_chosen_X8_goesWell : GoodIn wsX8_chosen (wsV RX8 78 RX8 yX8_goesWell wsX8_goesWell) := goodIn_app (goodIn_of _ (by decide +kernel)) ggX8_chosen_X8_goesWell
set_option maxRecDepth 20000 in
theorem ggX8_chosen_X8_chosenAt : GoodIn wsX8_chosen wsX8_chosenAt := goodIn_r _ [79, 80, 81, 82, 3, 83, 17, 37, 47, 48, 49, 50, 27, 29, 31, 43, 51, 52, 53, 54, 55, 56, 57, 58, 59, 60, 61, 62, 63, 64, 65, 66, 67, 68, 69, 70, 84, 85, 86, 87, 88, 89, 90, 91, 92, 93, 94, 95, 96, 97, 98, 99, 100, 101, 102, 103, 104] (by decide +kernel) (by decide +kernel)
set_option maxRecDepth 20000 in
theorem gX8_chosen_X8_chosenAt : GoodIn wsX8_chosen (wsV RX8 134 RX8 yX8_chosenAt wsX8_chosenAt) := goodIn_app (goodIn_of _ (by decide +kernel)) ggX8_chosen_X8_chosenAt
theorem dX8_chosen_0 : decode cX8_chosen 0 = .ok (.aload_n 0, 1) := by decide +kernel
theorem dX8_chosen_1 : decode cX8_chosen 1 = .ok (.aload_n 0, 1) := by decide +kernel
theorem dX8_chosen_2 : decode cX8_chosen 2 = .ok (.iload_n 1, 1) := by decide +kernel
theorem dX8_chosen_3 : decode cX8_chosen 3 = .ok (.iload_n 1, 1) := by decide +kernel
theorem dX8_chosen_4 : decode cX8_chosen 4 = .ok (.invokestatic 99, 3) := by decide +kernel
theorem dX8_chosen_7 : decode cX8_chosen 7 = .ok (.ifCond .eq 16, 3) := by decide +kernel
theorem dX8_chosen_10 : decode cX8_chosen 10 = .ok (.aload_n 0, 1) := by decide +kernel
theorem dX8_chosen_11 : decode cX8_chosen 11 = .ok (.iload_n 1, 1) := by decide +kernel
theorem dX8_chosen_12 : decode cX8_chosen 12 = .ok (.iload_n 2, 1) := by decide +kernel
theorem dX8_chosen_13 : decode cX8_chosen 13 = .ok (.invokevirtual 102, 3) := by decide +kernel
theorem dX8_chosen_16 : decode cX8_chosen 16 = .ok (.ifCond .eq 7, 3) := by decide +kernel
theorem dX8_chosen_19 : decode cX8_chosen 19 = .ok (.iconst 1, 1) := by decide +kernel
theorem dX8_chosen_20 : decode cX8_chosen 20 = .ok (.goto 4, 3) := by decide +kernel
theorem dX8_chosen_23 : decode cX8_chosen 23 = .ok (.iconst 0, 1) := by decide +kernel
theorem dX8_chosen_24 : decode cX8_chosen 24 = .ok (.invokevirtual 130, 3) := by decide +kernel
theorem dX8_chosen_27 : decode cX8_chosen 27 = .ok (.invokevirtual 78, 3) := by decide +kernel
theorem dX8_chosen_30 : decode cX8_chosen 30 = .ok (.ifCond .eq 11, 3) := by decide +kernel
theorem dX8_chosen_33 : decode cX8_chosen 33 = .ok (.aload_n 0, 1) := by decide +kernel
theorem dX8_chosen_34 : decode cX8_chosen 34 = .ok (.iload_n 2, 1) := by decide +kernel
theorem dX8_chosen_35 : decode cX8_chosen 35 = .ok (.invokevirtual 134, 3) := by decide +kernel
theorem dX8_chosen_38 : decode cX8_chosen 38 = .ok (.goto 4, 3) := by decide +kernel
theorem dX8_chosen_41 : decode cX8_chosen 41 = .ok (.iconst 0, 1) := by decide +kernel
theorem dX8_chosen_42 : decode cX8_chosen 42 = .ok (.ireturn, 1) := by decide +kernel
set_option maxRecDepth 20000 in
theorem ggX8_mostOrnaments_X8_faultOfTune : GoodIn wsX8_mostOrnaments wsX8_faultOfTune := goodIn_r _ [6, 7, 8, 9, 5, 10, 11, 12, 13, 14, 15, 16, 17, 18, 19, 20, 21, 22, 23, 24, 25, 26, 27, 28, 29, 30, 31, 32, 33, 34, 35, 36, 37, 38, 1, 39, 40, 41, 42, 43, 44, 45, 46, 47, 48, 49, 50, 51, 52, 53, 54, 55, 56, 57, 58, 59, 60, 61, 62, 63, 64, 65, 66, 67, 68, 69, 70, 76, 77, 78, 79, 80, 81, 82, 83, 84, 85, 86, 87, 88, 89, 90, 91, 92, 93, 94, 95, 96] (by decide +kernel) (by decide +kernel)
set_option maxRecDepth 20000 in
theorem gX8_mostOrnaments_X8_faultOfTune : GoodIn wsX8_mostOrnaments (wsV RX8 138 RX8 yX8_faultOfTune wsX8_faultOfTune) := goodIn_app (goodIn_of _ (by decide +kernel)) ggX8_mostOrnaments_X8_faultOfTune
set_option maxRecDepth 20000 in
theorem ggX8_mostOrnaments_X8_goesWell : GoodIn wsX8_mostOrnaments wsX8_goesWell := goodIn_r _ [74, 75, 76, 77, 78, 79, 80, 81, 82, 83, 84, 85, 86, 87, 88, 89, 90, 91, 92, 93, 94, 95, 96] (by decide +kernel) (by decide +kernel)
set_option maxRecDepth 20000 in
theorem gX8_mostOrnaments_X8_goesWell : GoodIn wsX8_mostOrnaments (wsV RX8 78 RX8 yX8_goesWell wsX8_goesWell) := goodIn_app (goodIn_of _ (by decide +kernel)) ggX8_mostOrnaments_X8_goesWell
theorem dX8_mostOrnaments_0 : decode cX8_mostOrnaments 0 = .ok (.aload_n 0, 1) := by decide +kernel
theorem dX8_mostOrnaments_1 : decode cX8_mostOrnaments 1 = .ok (.aload_n 0, 1) := by decide +kernel
theorem dX8_mostOrnaments_2 : decode cX8_mostOrnaments 2 = .ok (.iload_n 1, 1) := by decide +kernel
theorem dX8_mostOrnaments_3 : decode cX8_mostOrnaments 3 = .ok (.invokevirtual 138, 3) := by decide +kernel
theorem dX8_mostOrnaments_6 : decode cX8_mostOrnaments 6 = .ok (.invokevirtual 78, 3) := by decide +kernel
theorem dX8_mostOrnaments_9 : decode cX8_mostOrnaments 9 = .ok (.ifCond .eq 12, 3) := by decide +kernel
theorem dX8_mostOrnaments_12 : decode cX8_mostOrnaments 12 = .ok (.aload_n 0, 1) := by decide +kernel
theorem dX8_mostOrnaments_13 : decode cX8_mostOrnaments 13 = .ok (.getfield 54, 3) := by decide +kernel
theorem dX8_mostOrnaments_16 : decode cX8_mostOrnaments 16 = .ok (.iconst 0, 1) := by decide +kernel
theorem dX8_mostOrnaments_17 : decode cX8_mostOrnaments 17 = .ok (.iaload, 1) := by decide +kernel
theorem dX8_mostOrnaments_18 : decode cX8_mostOrnaments 18 = .ok (.goto 4, 3) := by decide +kernel
theorem dX8_mostOrnaments_21 : decode cX8_mostOrnaments 21 = .ok (.iconst 0, 1) := by decide +kernel
theorem dX8_mostOrnaments_22 : decode cX8_mostOrnaments 22 = .ok (.ireturn, 1) := by decide +kernel
set_option maxRecDepth 20000 in
theorem ggX8_average_X8_faultOfTune : GoodIn wsX8_average wsX8_faultOfTune := goodIn_r _ [7, 8, 9, 10, 6, 11, 12, 13, 14, 15, 16, 17, 18, 19, 20, 21, 22, 1, 23, 24, 25, 26, 27, 28, 29, 30, 31, 32, 33, 34, 35, 36, 37, 2, 38, 39, 40, 41, 42, 43, 44, 45, 46, 47, 48, 49, 50, 51, 52, 53, 54, 55, 56, 57, 58, 59, 60, 61, 62, 63, 64, 65, 66, 67, 68, 69, 70, 76, 77, 78, 79, 80, 81, 82, 83, 84, 85, 86, 87, 88, 89, 90, 91, 92, 93, 94, 95, 96] (by decide +kernel) (by decide +kernel)
set_option maxRecDepth 20000 in
theorem gX8_average_X8_faultOfTune : GoodIn wsX8_average (wsV RX8 138 RX8 yX8_faultOfTune wsX8_faultOfTune) := goodIn_app (goodIn_of _ (by decide +kernel)) ggX8_average_X8_faultOfTune
set_option maxRecDepth 20000 in
theorem ggX8_average_X8_goesWell : GoodIn wsX8_average wsX8_goesWell := goodIn_r _ [74, 75, 76, 77, 78, 79, 80, 81, 82, 83, 84, 85, 86, 87, 88, 89, 90, 91, 92, 93, 94, 95, 96] (by decide +kernel) (by decide +kernel)
set_option maxRecDepth 20000 in
theorem gX8_average_X8_goesWell : GoodIn wsX8_average (wsV RX8 78 RX8 yX8_goesWell wsX8_goesWell) := goodIn_app (goodIn_of _ (by decide +kernel)) ggX8_average_X8_goesWell
theorem dX8_average_0 : decode cX8_average 0 = .ok (.aload_n 0, 1) := by decide +kernel
theorem dX8_average_1 : decode cX8_average 1 = .ok (.aload_n 0, 1) := by decide +kernel
theorem dX8_average_2 : decode cX8_average 2 = .ok (.iload_n 1, 1) := by decide +kernel
theorem dX8_average_3 : decode cX8_average 3 = .ok (.invokevirtual 138, 3) := by decide +kernel
theorem dX8_average_6 : decode cX8_average 6 = .ok (.invokevirtual 78, 3) := by decide +kernel
theorem dX8_average_9 : decode cX8_average 9 = .ok (.ifCond .ne 5, 3) := by decide +kernel
theorem dX8_average_12 : decode cX8_average 12 = .ok (.fconst 0, 1) := by decide +kernel
theorem dX8_average_13 : decode cX8_average 13 = .ok (.freturn, 1) := by decide +kernel
theorem dX8_average_14 : decode cX8_average 14 = .ok (.aload_n 0, 1) := by decide +kernel
theorem dX8_average_15 : decode cX8_average 15 = .ok (.getfield 105, 3) := by decide +kernel
theorem dX8_average_18 : decode cX8_average 18 = .ok (.iconst 2, 1) := by decide +kernel
theorem dX8_average_19 : decode cX8_average 19 = .ok (.if_icmp .ge 7, 3) := by decide +kernel
theorem dX8_average_22 : decode cX8_average 22 = .ok (.fconst 0, 1) := by decide +kernel
theorem dX8_average_23 : decode cX8_average 23 = .ok (.goto 18, 3) := by decide +kernel
theorem dX8_average_26 : decode cX8_average 26 = .ok (.aload_n 0, 1) := by decide +kernel
theorem dX8_average_27 : decode cX8_average 27 = .ok (.getfield 48, 3) := by decide +kernel
theorem dX8_average_30 : decode cX8_average 30 = .ok (.iconst 0, 1) := by decide +kernel
theorem dX8_average_31 : decode cX8_average 31 = .ok (.iaload, 1) := by decide +kernel
theorem dX8_average_32 : decode cX8_average 32 = .ok (.i2f, 1) := by decide +kernel
theorem dX8_average_33 : decode cX8_average 33 = .ok (.aload_n 0, 1) := by decide +kernel
theorem dX8_average_34 : decode cX8_average 34 = .ok (.getfield 105, 3) := by decide +kernel
theorem dX8_average_37 : decode cX8_average 37 = .ok (.iconst 1, 1) := by decide +kernel
theorem dX8_average_38 : decode cX8_average 38 = .ok (.isub, 1) := by decide +kernel
theorem dX8_average_39 : decode cX8_average 39 = .ok (.i2f, 1) := by decide +kernel
theorem dX8_average_40 : decode cX8_average 40 = .ok (.fdiv, 1) := by decide +kernel
theorem dX8_average_41 : decode cX8_average 41 = .ok (.freturn, 1) := by decide +kernel
theorem dX8_layOrder_0 : decode cX8_layOrder 0 = .ok (.iload_n 1, 1) := by decide +kernel
theorem dX8_layOrder_1 : decode cX8_layOrder 1 = .ok (.istore_n 2, 1) := by decide +kernel
theorem dX8_layOrder_2 : decode cX8_layOrder 2 = .ok (.iconst 0, 1) := by decide +kernel
theorem dX8_layOrder_3 : decode cX8_layOrder 3 = .ok (.istore_n 3, 1) := by decide +kernel
theorem dX8_layOrder_4 : decode cX8_layOrder 4 = .ok (.iconst 0, 1) := by decide +kernel
theorem dX8_layOrder_5 : decode cX8_layOrder 5 = .ok (.istore 4, 2) := by decide +kernel
theorem dX8_layOrder_7 : decode cX8_layOrder 7 = .ok (.iconst 1, 1) := by decide +kernel
theorem dX8_layOrder_8 : decode cX8_layOrder 8 = .ok (.istore 5, 2) := by decide +kernel
theorem dX8_layOrder_10 : decode cX8_layOrder 10 = .ok (.iconst 3, 1) := by decide +kernel
theorem dX8_layOrder_11 : decode cX8_layOrder 11 = .ok (.istore 6, 2) := by decide +kernel
theorem dX8_layOrder_13 : decode cX8_layOrder 13 = .ok (.iload 6, 2) := by decide +kernel
theorem dX8_layOrder_15 : decode cX8_layOrder 15 = .ok (.ifCond .lt 23, 3) := by decide +kernel
theorem dX8_layOrder_18 : decode cX8_layOrder 18 = .ok (.aload_n 0, 1) := by decide +kernel
theorem dX8_layOrder_19 : decode cX8_layOrder 19 = .ok (.getfield 57, 3) := by decide +kernel
theorem dX8_layOrder_22 : decode cX8_layOrder 22 = .ok (.iload 6, 2) := by decide +kernel
theorem dX8_layOrder_24 : decode cX8_layOrder 24 = .ok (.iload_n 2, 1) := by decide +kernel
theorem dX8_layOrder_25 : decode cX8_layOrder 25 = .ok (.iconst 4, 1) := by decide +kernel
theorem dX8_layOrder_26 : decode cX8_layOrder 26 = .ok (.irem, 1) := by decide +kernel
theorem dX8_layOrder_27 : decode cX8_layOrder 27 = .ok (.iastore, 1) := by decide +kernel
theorem dX8_layOrder_28 : decode cX8_layOrder 28 = .ok (.iload_n 2, 1) := by decide +kernel
theorem dX8_layOrder_29 : decode cX8_layOrder 29 = .ok (.iconst 4, 1) := by decide +kernel
theorem dX8_layOrder_30 : decode cX8_layOrder 30 = .ok (.idiv, 1) := by decide +kernel
theorem dX8_layOrder_31 : decode cX8_layOrder 31 = .ok (.istore_n 2, 1) := by decide +kernel
theorem dX8_layOrder_32 : decode cX8_layOrder 32 = .ok (.iinc 6 (-1), 3) := by decide +kernel
theorem dX8_layOrder_35 : decode cX8_layOrder 35 = .ok (.goto (-22), 3) := by decide +kernel
theorem dX8_layOrder_38 : decode cX8_layOrder 38 = .ok (.iconst 0, 1) := by decide +kernel
theorem dX8_layOrder_39 : decode cX8_layOrder 39 = .ok (.istore 6, 2) := by decide +kernel
theorem dX8_layOrder_41 : decode cX8_layOrder 41 = .ok (.iload 6, 2) := by decide +kernel
theorem dX8_layOrder_43 : decode cX8_layOrder 43 = .ok (.iconst 4, 1) := by decide +kernel
theorem dX8_layOrder_44 : decode cX8_layOrder 44 = .ok (.if_icmp .ge 129, 3) := by decide +kernel
theorem dX8_layOrder_47 : decode cX8_layOrder 47 = .ok (.aload_n 0, 1) := by decide +kernel
theorem dX8_layOrder_48 : decode cX8_layOrder 48 = .ok (.getfield 57, 3) := by decide +kernel
theorem dX8_layOrder_51 : decode cX8_layOrder 51 = .ok (.iload 6, 2) := by decide +kernel
theorem dX8_layOrder_53 : decode cX8_layOrder 53 = .ok (.iaload, 1) := by decide +kernel
theorem dX8_layOrder_54 : decode cX8_layOrder 54 = .ok (.istore 7, 2) := by decide +kernel
theorem dX8_layOrder_56 : decode cX8_layOrder 56 = .ok (.iload 6, 2) := by decide +kernel
theorem dX8_layOrder_58 : decode cX8_layOrder 58 = .ok (.ifCond .le 36, 3) := by decide +kernel
theorem dX8_layOrder_61 : decode cX8_layOrder 61 = .ok (.aload_n 0, 1) := by decide +kernel
theorem dX8_layOrder_62 : decode cX8_layOrder 62 = .ok (.getfield 36, 3) := by decide +kernel
theorem dX8_layOrder_65 : decode cX8_layOrder 65 = .ok (.iload 7, 2) := by decide +kernel
theorem dX8_layOrder_67 : decode cX8_layOrder 67 = .ok (.iaload, 1) := by decide +kernel
theorem dX8_layOrder_68 : decode cX8_layOrder 68 = .ok (.ifCond .ne 26, 3) := by decide +kernel
theorem dX8_layOrder_71 : decode cX8_layOrder 71 = .ok (.iload 4, 2) := by decide +kernel
theorem dX8_layOrder_73 : decode cX8_layOrder 73 = .ok (.ifCond .eq 21, 3) := by decide +kernel
theorem dX8_layOrder_76 : decode cX8_layOrder 76 = .ok (.aload_n 0, 1) := by decide +kernel
theorem dX8_layOrder_77 : decode cX8_layOrder 77 = .ok (.getfield 57, 3) := by decide +kernel
theorem dX8_layOrder_80 : decode cX8_layOrder 80 = .ok (.iload 6, 2) := by decide +kernel
theorem dX8_layOrder_82 : decode cX8_layOrder 82 = .ok (.iconst 1, 1) := by decide +kernel
theorem dX8_layOrder_83 : decode cX8_layOrder 83 = .ok (.isub, 1) := by decide +kernel
theorem dX8_layOrder_84 : decode cX8_layOrder 84 = .ok (.iaload, 1) := by decide +kernel
theorem dX8_layOrder_85 : decode cX8_layOrder 85 = .ok (.iload 7, 2) := by decide +kernel
theorem dX8_layOrder_87 : decode cX8_layOrder 87 = .ok (.if_icmp .le 7, 3) := by decide +kernel
theorem dX8_layOrder_90 : decode cX8_layOrder 90 = .ok (.iconst 1, 1) := by decide +kernel
theorem dX8_layOrder_91 : decode cX8_layOrder 91 = .ok (.goto 4, 3) := by decide +kernel
theorem dX8_layOrder_94 : decode cX8_layOrder 94 = .ok (.iconst 0, 1) := by decide +kernel
theorem dX8_layOrder_95 : decode cX8_layOrder 95 = .ok (.istore 8, 2) := by decide +kernel
theorem dX8_layOrder_97 : decode cX8_layOrder 97 = .ok (.iload 5, 2) := by decide +kernel
theorem dX8_layOrder_99 : decode cX8_layOrder 99 = .ok (.ifCond .eq 36, 3) := by decide +kernel
theorem dX8_layOrder_102 : decode cX8_layOrder 102 = .ok (.iload_n 3, 1) := by decide +kernel
theorem dX8_layOrder_103 : decode cX8_layOrder 103 = .ok (.iload 7, 2) := by decide +kernel
theorem dX8_layOrder_105 : decode cX8_layOrder 105 = .ok (.ishr, 1) := by decide +kernel
theorem dX8_layOrder_106 : decode cX8_layOrder 106 = .ok (.iconst 1, 1) := by decide +kernel
theorem dX8_layOrder_107 : decode cX8_layOrder 107 = .ok (.iand, 1) := by decide +kernel
theorem dX8_layOrder_108 : decode cX8_layOrder 108 = .ok (.ifCond .ne 27, 3) := by decide +kernel
theorem dX8_layOrder_111 : decode cX8_layOrder 111 = .ok (.iload 8, 2) := by decide +kernel
theorem dX8_layOrder_113 : decode cX8_layOrder 113 = .ok (.ifCond .ne 22, 3) := by decide +kernel
theorem dX8_layOrder_116 : decode cX8_layOrder 116 = .ok (.aload_n 0, 1) := by decide +kernel
theorem dX8_layOrder_117 : decode cX8_layOrder 117 = .ok (.getfield 36, 3) := by decide +kernel
theorem dX8_layOrder_120 : decode cX8_layOrder 120 = .ok (.iload 7, 2) := by decide +kernel
theorem dX8_layOrder_122 : decode cX8_layOrder 122 = .ok (.iaload, 1) := by decide +kernel
theorem dX8_layOrder_123 : decode cX8_layOrder 123 = .ok (.ifCond .eq 8, 3) := by decide +kernel
theorem dX8_layOrder_126 : decode cX8_layOrder 126 = .ok (.iload 4, 2) := by decide +kernel
theorem dX8_layOrder_128 : decode cX8_layOrder 128 = .ok (.ifCond .ne 7, 3) := by decide +kernel
theorem dX8_layOrder_131 : decode cX8_layOrder 131 = .ok (.iconst 1, 1) := by decide +kernel
theorem dX8_layOrder_132 : decode cX8_layOrder 132 = .ok (.goto 4, 3) := by decide +kernel
theorem dX8_layOrder_135 : decode cX8_layOrder 135 = .ok (.iconst 0, 1) := by decide +kernel
theorem dX8_layOrder_136 : decode cX8_layOrder 136 = .ok (.istore 5, 2) := by decide +kernel
theorem dX8_layOrder_138 : decode cX8_layOrder 138 = .ok (.iload 4, 2) := by decide +kernel
theorem dX8_layOrder_140 : decode cX8_layOrder 140 = .ok (.ifCond .ne 13, 3) := by decide +kernel
theorem dX8_layOrder_143 : decode cX8_layOrder 143 = .ok (.aload_n 0, 1) := by decide +kernel
theorem dX8_layOrder_144 : decode cX8_layOrder 144 = .ok (.getfield 36, 3) := by decide +kernel
theorem dX8_layOrder_147 : decode cX8_layOrder 147 = .ok (.iload 7, 2) := by decide +kernel
theorem dX8_layOrder_149 : decode cX8_layOrder 149 = .ok (.iaload, 1) := by decide +kernel
theorem dX8_layOrder_150 : decode cX8_layOrder 150 = .ok (.ifCond .ne 7, 3) := by decide +kernel
theorem dX8_layOrder_153 : decode cX8_layOrder 153 = .ok (.iconst 1, 1) := by decide +kernel
theorem dX8_layOrder_154 : decode cX8_layOrder 154 = .ok (.goto 4, 3) := by decide +kernel
theorem dX8_layOrder_157 : decode cX8_layOrder 157 = .ok (.iconst 0, 1) := by decide +kernel
theorem dX8_layOrder_158 : decode cX8_layOrder 158 = .ok (.istore 4, 2) := by decide +kernel
theorem dX8_layOrder_160 : decode cX8_layOrder 160 = .ok (.iload_n 3, 1) := by decide +kernel
theorem dX8_layOrder_161 : decode cX8_layOrder 161 = .ok (.iconst 1, 1) := by decide +kernel
theorem dX8_layOrder_162 : decode cX8_layOrder 162 = .ok (.iload 7, 2) := by decide +kernel
theorem dX8_layOrder_164 : decode cX8_layOrder 164 = .ok (.ishl, 1) := by decide +kernel
theorem dX8_layOrder_165 : decode cX8_layOrder 165 = .ok (.ior, 1) := by decide +kernel
theorem dX8_layOrder_166 : decode cX8_layOrder 166 = .ok (.istore_n 3, 1) := by decide +kernel
theorem dX8_layOrder_167 : decode cX8_layOrder 167 = .ok (.iinc 6 1, 3) := by decide +kernel
theorem dX8_layOrder_170 : decode cX8_layOrder 170 = .ok (.goto (-129), 3) := by decide +kernel
theorem dX8_layOrder_173 : decode cX8_layOrder 173 = .ok (.iload 5, 2) := by decide +kernel
theorem dX8_layOrder_175 : decode cX8_layOrder 175 = .ok (.ireturn, 1) := by decide +kernel
set_option maxRecDepth 20000 in
theorem ggX8_goThrough_X8_layOrder : GoodIn wsX8_goThrough wsX8_layOrder := goodIn_r _ [11, 3, 12, 59, 60, 61, 62, 63, 64, 65, 66, 67, 68, 69, 70, 71, 72, 73, 74, 75, 76, 77, 78, 79] (by decide +kernel) (by decide +kernel)
set_option maxRecDepth 20000 in
theorem gX8_goThrough_X8_layOrder : GoodIn wsX8_goThrough (wsV RX8 141 RX8 yX8_layOrder wsX8_layOrder) := goodIn_app (goodIn_of _ (by decide +kernel)) ggX8_goThrough_X8_layOrder
set_option maxRecDepth 20000 in
theorem ggX8_goThrough_X8_append : GoodIn wsX8_goThrough wsX8_append := goodIn_r _ [16, 12, 17, 2, 18, 19, 20, 21, 22, 59, 60, 61, 62, 63, 64, 65, 66, 67, 68, 69, 70, 71, 72, 73, 74, 75, 76, 77, 78, 79] (by decide +kernel) (by decide +kernel)
set_option maxRecDepth 20000 in
theorem gX8_goThrough_X8_append : GoodIn wsX8_goThrough (wsV RX8 117 RX8 yX8_append wsX8_append) := goodIn_app (goodIn_of _ (by decide +kernel)) ggX8_goThrough_X8_append
set_option maxRecDepth 20000 in
theorem ggX8_goThrough_X8_count : GoodIn wsX8_goThrough wsX8_count := goodIn_r _ [26, 2, 5, 4, 27, 28, 29, 30, 10, 31, 1, 32, 33, 34, 35, 36, 37, 38, 17, 19, 21, 39, 40, 41, 42, 43, 44, 45, 46, 47, 48, 49, 50, 51, 52, 53, 54, 55, 56, 57, 58, 59, 60, 61, 62, 63, 64, 65, 66, 67, 68, 69, 70, 71, 72, 73, 74, 75, 76, 77, 78, 79] (by decide +kernel) (by decide +kernel)
set_option maxRecDepth 20000 in
theorem gX8_goThrough_X8_count : GoodIn wsX8_goThrough (wsV RX8 121 RX8 yX8_count wsX8_count) := goodIn_app (goodIn_of _ (by decide +kernel)) ggX8_goThrough_X8_count
theorem dX8_goThrough_0 : decode cX8_goThrough 0 = .ok (.iconst 0, 1) := by decide +kernel
theorem dX8_goThrough_1 : decode cX8_goThrough 1 = .ok (.istore_n 2, 1) := by decide +kernel
theorem dX8_goThrough_2 : decode cX8_goThrough 2 = .ok (.ldc 91, 2) := by decide +kernel
theorem dX8_goThrough_4 : decode cX8_goThrough 4 = .ok (.istore_n 3, 1) := by decide +kernel
theorem dX8_goThrough_5 : decode cX8_goThrough 5 = .ok (.iconst 0, 1) := by decide +kernel
theorem dX8_goThrough_6 : decode cX8_goThrough 6 = .ok (.istore 4, 2) := by decide +kernel
theorem dX8_goThrough_8 : decode cX8_goThrough 8 = .ok (.iload 4, 2) := by decide +kernel
theorem dX8_goThrough_10 : decode cX8_goThrough 10 = .ok (.sipush 256, 3) := by decide +kernel
theorem dX8_goThrough_13 : decode cX8_goThrough 13 = .ok (.if_icmp .ge 125, 3) := by decide +kernel
theorem dX8_goThrough_16 : decode cX8_goThrough 16 = .ok (.aload_n 0, 1) := by decide +kernel
theorem dX8_goThrough_17 : decode cX8_goThrough 17 = .ok (.iload 4, 2) := by decide +kernel
theorem dX8_goThrough_19 : decode cX8_goThrough 19 = .ok (.invokevirtual 141, 3) := by decide +kernel
theorem dX8_goThrough_22 : decode cX8_goThrough 22 = .ok (.ifCond .eq 110, 3) := by decide +kernel
theorem dX8_goThrough_25 : decode cX8_goThrough 25 = .ok (.aload_n 0, 1) := by decide +kernel
theorem dX8_goThrough_26 : decode cX8_goThrough 26 = .ok (.iconst 0, 1) := by decide +kernel
theorem dX8_goThrough_27 : decode cX8_goThrough 27 = .ok (.putfield 105, 3) := by decide +kernel
theorem dX8_goThrough_30 : decode cX8_goThrough 30 = .ok (.iconst 0, 1) := by decide +kernel
theorem dX8_goThrough_31 : decode cX8_goThrough 31 = .ok (.istore 5, 2) := by decide +kernel
theorem dX8_goThrough_33 : decode cX8_goThrough 33 = .ok (.iload 5, 2) := by decide +kernel
theorem dX8_goThrough_35 : decode cX8_goThrough 35 = .ok (.iconst 4, 1) := by decide +kernel
theorem dX8_goThrough_36 : decode cX8_goThrough 36 = .ok (.if_icmp .ge 20, 3) := by decide +kernel
theorem dX8_goThrough_39 : decode cX8_goThrough 39 = .ok (.aload_n 0, 1) := by decide +kernel
theorem dX8_goThrough_40 : decode cX8_goThrough 40 = .ok (.aload_n 0, 1) := by decide +kernel
theorem dX8_goThrough_41 : decode cX8_goThrough 41 = .ok (.getfield 57, 3) := by decide +kernel
theorem dX8_goThrough_44 : decode cX8_goThrough 44 = .ok (.iload 5, 2) := by decide +kernel
theorem dX8_goThrough_46 : decode cX8_goThrough 46 = .ok (.iaload, 1) := by decide +kernel
theorem dX8_goThrough_47 : decode cX8_goThrough 47 = .ok (.invokevirtual 117, 3) := by decide +kernel
theorem dX8_goThrough_50 : decode cX8_goThrough 50 = .ok (.iinc 5 1, 3) := by decide +kernel
theorem dX8_goThrough_53 : decode cX8_goThrough 53 = .ok (.goto (-20), 3) := by decide +kernel
theorem dX8_goThrough_56 : decode cX8_goThrough 56 = .ok (.aload_n 0, 1) := by decide +kernel
theorem dX8_goThrough_57 : decode cX8_goThrough 57 = .ok (.invokevirtual 121, 3) := by decide +kernel
theorem dX8_goThrough_60 : decode cX8_goThrough 60 = .ok (.iload_n 2, 1) := by decide +kernel
theorem dX8_goThrough_61 : decode cX8_goThrough 61 = .ok (.aload_n 0, 1) := by decide +kernel
theorem dX8_goThrough_62 : decode cX8_goThrough 62 = .ok (.getfield 51, 3) := by decide +kernel
theorem dX8_goThrough_65 : decode cX8_goThrough 65 = .ok (.iconst 0, 1) := by decide +kernel
theorem dX8_goThrough_66 : decode cX8_goThrough 66 = .ok (.iaload, 1) := by decide +kernel
theorem dX8_goThrough_67 : decode cX8_goThrough 67 = .ok (.ifCond .le 7, 3) := by decide +kernel
theorem dX8_goThrough_70 : decode cX8_goThrough 70 = .ok (.iconst 1, 1) := by decide +kernel
theorem dX8_goThrough_71 : decode cX8_goThrough 71 = .ok (.goto 4, 3) := by decide +kernel
theorem dX8_goThrough_74 : decode cX8_goThrough 74 = .ok (.iconst 0, 1) := by decide +kernel
theorem dX8_goThrough_75 : decode cX8_goThrough 75 = .ok (.iadd, 1) := by decide +kernel
theorem dX8_goThrough_76 : decode cX8_goThrough 76 = .ok (.istore_n 2, 1) := by decide +kernel
theorem dX8_goThrough_77 : decode cX8_goThrough 77 = .ok (.aload_n 0, 1) := by decide +kernel
theorem dX8_goThrough_78 : decode cX8_goThrough 78 = .ok (.getfield 51, 3) := by decide +kernel
theorem dX8_goThrough_81 : decode cX8_goThrough 81 = .ok (.iconst 0, 1) := by decide +kernel
theorem dX8_goThrough_82 : decode cX8_goThrough 82 = .ok (.iaload, 1) := by decide +kernel
theorem dX8_goThrough_83 : decode cX8_goThrough 83 = .ok (.ifCond .le 49, 3) := by decide +kernel
theorem dX8_goThrough_86 : decode cX8_goThrough 86 = .ok (.aload_n 0, 1) := by decide +kernel
theorem dX8_goThrough_87 : decode cX8_goThrough 87 = .ok (.getfield 48, 3) := by decide +kernel
theorem dX8_goThrough_90 : decode cX8_goThrough 90 = .ok (.iconst 0, 1) := by decide +kernel
theorem dX8_goThrough_91 : decode cX8_goThrough 91 = .ok (.iaload, 1) := by decide +kernel
theorem dX8_goThrough_92 : decode cX8_goThrough 92 = .ok (.iload_n 3, 1) := by decide +kernel
theorem dX8_goThrough_93 : decode cX8_goThrough 93 = .ok (.if_icmp .ge 39, 3) := by decide +kernel
theorem dX8_goThrough_96 : decode cX8_goThrough 96 = .ok (.aload_n 0, 1) := by decide +kernel
theorem dX8_goThrough_97 : decode cX8_goThrough 97 = .ok (.getfield 48, 3) := by decide +kernel
theorem dX8_goThrough_100 : decode cX8_goThrough 100 = .ok (.iconst 0, 1) := by decide +kernel
theorem dX8_goThrough_101 : decode cX8_goThrough 101 = .ok (.iaload, 1) := by decide +kernel
theorem dX8_goThrough_102 : decode cX8_goThrough 102 = .ok (.istore_n 3, 1) := by decide +kernel
theorem dX8_goThrough_103 : decode cX8_goThrough 103 = .ok (.iconst 0, 1) := by decide +kernel
theorem dX8_goThrough_104 : decode cX8_goThrough 104 = .ok (.istore 5, 2) := by decide +kernel
theorem dX8_goThrough_106 : decode cX8_goThrough 106 = .ok (.iload 5, 2) := by decide +kernel
theorem dX8_goThrough_108 : decode cX8_goThrough 108 = .ok (.iconst 4, 1) := by decide +kernel
theorem dX8_goThrough_109 : decode cX8_goThrough 109 = .ok (.if_icmp .ge 23, 3) := by decide +kernel
theorem dX8_goThrough_112 : decode cX8_goThrough 112 = .ok (.aload_n 0, 1) := by decide +kernel
theorem dX8_goThrough_113 : decode cX8_goThrough 113 = .ok (.getfield 60, 3) := by decide +kernel
theorem dX8_goThrough_116 : decode cX8_goThrough 116 = .ok (.iload 5, 2) := by decide +kernel
theorem dX8_goThrough_118 : decode cX8_goThrough 118 = .ok (.aload_n 0, 1) := by decide +kernel
theorem dX8_goThrough_119 : decode cX8_goThrough 119 = .ok (.getfield 57, 3) := by decide +kernel
theorem dX8_goThrough_122 : decode cX8_goThrough 122 = .ok (.iload 5, 2) := by decide +kernel
theorem dX8_goThrough_124 : decode cX8_goThrough 124 = .ok (.iaload, 1) := by decide +kernel
theorem dX8_goThrough_125 : decode cX8_goThrough 125 = .ok (.iastore, 1) := by decide +kernel
theorem dX8_goThrough_126 : decode cX8_goThrough 126 = .ok (.iinc 5 1, 3) := by decide +kernel
theorem dX8_goThrough_129 : decode cX8_goThrough 129 = .ok (.goto (-23), 3) := by decide +kernel
theorem dX8_goThrough_132 : decode cX8_goThrough 132 = .ok (.iinc 4 1, 3) := by decide +kernel
theorem dX8_goThrough_135 : decode cX8_goThrough 135 = .ok (.goto (-127), 3) := by decide +kernel
theorem dX8_goThrough_138 : decode cX8_goThrough 138 = .ok (.iload_n 1, 1) := by decide +kernel
theorem dX8_goThrough_139 : decode cX8_goThrough 139 = .ok (.ifCond .eq 7, 3) := by decide +kernel
theorem dX8_goThrough_142 : decode cX8_goThrough 142 = .ok (.iload_n 2, 1) := by decide +kernel
theorem dX8_goThrough_143 : decode cX8_goThrough 143 = .ok (.goto 4, 3) := by decide +kernel
theorem dX8_goThrough_146 : decode cX8_goThrough 146 = .ok (.iload_n 3, 1) := by decide +kernel
theorem dX8_goThrough_147 : decode cX8_goThrough 147 = .ok (.ireturn, 1) := by decide +kernel
set_option maxRecDepth 20000 in
theorem ggX8_leastSet_X8_goThrough : GoodIn wsX8_leastSet wsX8_goThrough := goodIn_r _ [6, 1, 7, 8, 9, 10, 11, 12, 13, 14, 5, 15, 16, 17, 18, 19, 20, 21, 22, 23, 24, 25, 26, 27, 28, 29, 30, 31, 32, 33, 34, 35, 36, 37, 38, 39, 40, 41, 42, 43, 44, 45, 46, 47, 48, 49, 50, 51, 52, 53, 54, 55, 56, 57, 58, 59, 60, 61, 62, 68, 69, 70, 71, 72, 73, 74, 75, 76, 77, 78, 79, 80, 81, 82, 83, 84, 85, 86, 87, 88] (by decide +kernel) (by decide +kernel)
set_option maxRecDepth 20000 in
theorem gX8_leastSet_X8_goThrough : GoodIn wsX8_leastSet (wsV RX8 144 RX8 yX8_goThrough wsX8_goThrough) := goodIn_app (goodIn_of _ (by decide +kernel)) ggX8_leastSet_X8_goThrough
set_option maxRecDepth 20000 in
theorem ggX8_leastSet_X8_goesWell : GoodIn wsX8_leastSet wsX8_goesWell := goodIn_r _ [66, 67, 68, 69, 70, 71, 72, 73, 74, 75, 76, 77, 78, 79, 80, 81, 82, 83, 84, 85, 86, 87, 88] (by decide +kernel) (by decide +kernel)
set_option maxRecDepth 20000 in
theorem gX8_leastSet_X8_goesWell : GoodIn wsX8_leastSet (wsV RX8 78 RX8 yX8_goesWell wsX8_goesWell) := goodIn_app (goodIn_of _ (by decide +kernel)) ggX8_leastSet_X8_goesWell
theorem dX8_leastSet_0 : decode cX8_leastSet 0 = .ok (.aload_n 0, 1) := by decide +kernel
theorem dX8_leastSet_1 : decode cX8_leastSet 1 = .ok (.iconst 0, 1) := by decide +kernel
theorem dX8_leastSet_2 : decode cX8_leastSet 2 = .ok (.invokevirtual 144, 3) := by decide +kernel
theorem dX8_leastSet_5 : decode cX8_leastSet 5 = .ok (.istore_n 1, 1) := by decide +kernel
theorem dX8_leastSet_6 : decode cX8_leastSet 6 = .ok (.aload_n 0, 1) := by decide +kernel
theorem dX8_leastSet_7 : decode cX8_leastSet 7 = .ok (.iload_n 1, 1) := by decide +kernel
theorem dX8_leastSet_8 : decode cX8_leastSet 8 = .ok (.ldc 91, 2) := by decide +kernel
theorem dX8_leastSet_10 : decode cX8_leastSet 10 = .ok (.if_icmp .ne 7, 3) := by decide +kernel
theorem dX8_leastSet_13 : decode cX8_leastSet 13 = .ok (.iconst 1, 1) := by decide +kernel
theorem dX8_leastSet_14 : decode cX8_leastSet 14 = .ok (.goto 4, 3) := by decide +kernel
theorem dX8_leastSet_17 : decode cX8_leastSet 17 = .ok (.iconst 0, 1) := by decide +kernel
theorem dX8_leastSet_18 : decode cX8_leastSet 18 = .ok (.invokevirtual 78, 3) := by decide +kernel
theorem dX8_leastSet_21 : decode cX8_leastSet 21 = .ok (.ifCond .eq 7, 3) := by decide +kernel
theorem dX8_leastSet_24 : decode cX8_leastSet 24 = .ok (.iload_n 1, 1) := by decide +kernel
theorem dX8_leastSet_25 : decode cX8_leastSet 25 = .ok (.goto 4, 3) := by decide +kernel
theorem dX8_leastSet_28 : decode cX8_leastSet 28 = .ok (.iconst 0, 1) := by decide +kernel
theorem dX8_leastSet_29 : decode cX8_leastSet 29 = .ok (.ireturn, 1) := by decide +kernel
set_option maxRecDepth 20000 in
theorem ggX8_tuneAt_X8_goThrough : GoodIn wsX8_tuneAt wsX8_goThrough := goodIn_r _ [8, 1, 9, 10, 11, 12, 3, 13, 14, 15, 7, 16, 2, 17, 18, 19, 20, 21, 22, 23, 24, 25, 26, 27, 28, 29, 30, 31, 32, 33, 34, 35, 36, 37, 38, 39, 40, 41, 42, 43, 44, 45, 46, 47, 48, 49, 50, 51, 52, 53, 54, 55, 56, 57, 58, 59, 60, 61, 62, 71, 72, 73, 74, 75, 76, 77, 78, 79, 80, 81, 82, 83, 84, 85, 86, 87, 88, 89, 90, 91] (by decide +kernel) (by decide +kernel)
set_option maxRecDepth 20000 in
theorem gX8_tuneAt_X8_goThrough : GoodIn wsX8_tuneAt (wsV RX8 144 RX8 yX8_goThrough wsX8_goThrough) := goodIn_app (goodIn_of _ (by decide +kernel)) ggX8_tuneAt_X8_goThrough
set_option maxRecDepth 20000 in
theorem ggX8_tuneAt_X8_in : GoodIn wsX8_tuneAt wsX8_in := goodIn_r _ [65] (by decide +kernel) (by decide +kernel)
set_option maxRecDepth 20000 in
theorem gX8_tuneAt_X8_in : GoodIn wsX8_tuneAt (va_wsS RX8 66 yX8_in wsX8_in) := goodIn_app (goodIn_of _ (by decide +kernel)) ggX8_tuneAt_X8_in
set_option maxRecDepth 20000 in
theorem ggX8_tuneAt_X8_goesWell : GoodIn wsX8_tuneAt wsX8_goesWell := goodIn_r _ [69, 70, 71, 72, 73, 74, 75, 76, 77, 78, 79, 80, 81, 82, 83, 84, 85, 86, 87, 88, 89, 90, 91] (by decide +kernel) (by decide +kernel)
set_option maxRecDepth 20000 in
theorem gX8_tuneAt_X8_goesWell : GoodIn wsX8_tuneAt (wsV RX8 78 RX8 yX8_goesWell wsX8_goesWell) := goodIn_app (goodIn_of _ (by decide +kernel)) ggX8_tuneAt_X8_goesWell
theorem dX8_tuneAt_0 : decode cX8_tuneAt 0 = .ok (.aload_n 0, 1) := by decide +kernel
theorem dX8_tuneAt_1 : decode cX8_tuneAt 1 = .ok (.iconst 0, 1) := by decide +kernel
theorem dX8_tuneAt_2 : decode cX8_tuneAt 2 = .ok (.invokevirtual 144, 3) := by decide +kernel
theorem dX8_tuneAt_5 : decode cX8_tuneAt 5 = .ok (.ldc 91, 2) := by decide +kernel
theorem dX8_tuneAt_7 : decode cX8_tuneAt 7 = .ok (.if_icmp .ge 7, 3) := by decide +kernel
theorem dX8_tuneAt_10 : decode cX8_tuneAt 10 = .ok (.iconst 1, 1) := by decide +kernel
theorem dX8_tuneAt_11 : decode cX8_tuneAt 11 = .ok (.goto 4, 3) := by decide +kernel
theorem dX8_tuneAt_14 : decode cX8_tuneAt 14 = .ok (.iconst 0, 1) := by decide +kernel
theorem dX8_tuneAt_15 : decode cX8_tuneAt 15 = .ok (.istore_n 2, 1) := by decide +kernel
theorem dX8_tuneAt_16 : decode cX8_tuneAt 16 = .ok (.iconst 0, 1) := by decide +kernel
theorem dX8_tuneAt_17 : decode cX8_tuneAt 17 = .ok (.istore_n 3, 1) := by decide +kernel
theorem dX8_tuneAt_18 : decode cX8_tuneAt 18 = .ok (.iconst 0, 1) := by decide +kernel
theorem dX8_tuneAt_19 : decode cX8_tuneAt 19 = .ok (.istore 4, 2) := by decide +kernel
theorem dX8_tuneAt_21 : decode cX8_tuneAt 21 = .ok (.iload 4, 2) := by decide +kernel
theorem dX8_tuneAt_23 : decode cX8_tuneAt 23 = .ok (.iconst 4, 1) := by decide +kernel
theorem dX8_tuneAt_24 : decode cX8_tuneAt 24 = .ok (.if_icmp .ge 27, 3) := by decide +kernel
theorem dX8_tuneAt_27 : decode cX8_tuneAt 27 = .ok (.iload_n 3, 1) := by decide +kernel
theorem dX8_tuneAt_28 : decode cX8_tuneAt 28 = .ok (.aload_n 0, 1) := by decide +kernel
theorem dX8_tuneAt_29 : decode cX8_tuneAt 29 = .ok (.getfield 36, 3) := by decide +kernel
theorem dX8_tuneAt_32 : decode cX8_tuneAt 32 = .ok (.iload 4, 2) := by decide +kernel
theorem dX8_tuneAt_34 : decode cX8_tuneAt 34 = .ok (.iaload, 1) := by decide +kernel
theorem dX8_tuneAt_35 : decode cX8_tuneAt 35 = .ok (.ifCond .le 7, 3) := by decide +kernel
theorem dX8_tuneAt_38 : decode cX8_tuneAt 38 = .ok (.iconst 1, 1) := by decide +kernel
theorem dX8_tuneAt_39 : decode cX8_tuneAt 39 = .ok (.goto 4, 3) := by decide +kernel
theorem dX8_tuneAt_42 : decode cX8_tuneAt 42 = .ok (.iconst 0, 1) := by decide +kernel
theorem dX8_tuneAt_43 : decode cX8_tuneAt 43 = .ok (.iadd, 1) := by decide +kernel
theorem dX8_tuneAt_44 : decode cX8_tuneAt 44 = .ok (.istore_n 3, 1) := by decide +kernel
theorem dX8_tuneAt_45 : decode cX8_tuneAt 45 = .ok (.iinc 4 1, 3) := by decide +kernel
theorem dX8_tuneAt_48 : decode cX8_tuneAt 48 = .ok (.goto (-27), 3) := by decide +kernel
theorem dX8_tuneAt_51 : decode cX8_tuneAt 51 = .ok (.aload_n 0, 1) := by decide +kernel
theorem dX8_tuneAt_52 : decode cX8_tuneAt 52 = .ok (.iload_n 2, 1) := by decide +kernel
theorem dX8_tuneAt_53 : decode cX8_tuneAt 53 = .ok (.ifCond .ne 7, 3) := by decide +kernel
theorem dX8_tuneAt_56 : decode cX8_tuneAt 56 = .ok (.iconst 1, 1) := by decide +kernel
theorem dX8_tuneAt_57 : decode cX8_tuneAt 57 = .ok (.goto 19, 3) := by decide +kernel
theorem dX8_tuneAt_60 : decode cX8_tuneAt 60 = .ok (.iload_n 1, 1) := by decide +kernel
theorem dX8_tuneAt_61 : decode cX8_tuneAt 61 = .ok (.iconst 0, 1) := by decide +kernel
theorem dX8_tuneAt_62 : decode cX8_tuneAt 62 = .ok (.iload_n 3, 1) := by decide +kernel
theorem dX8_tuneAt_63 : decode cX8_tuneAt 63 = .ok (.iconst 1, 1) := by decide +kernel
theorem dX8_tuneAt_64 : decode cX8_tuneAt 64 = .ok (.isub, 1) := by decide +kernel
theorem dX8_tuneAt_65 : decode cX8_tuneAt 65 = .ok (.invokestatic 66, 3) := by decide +kernel
theorem dX8_tuneAt_68 : decode cX8_tuneAt 68 = .ok (.ifCond .eq 7, 3) := by decide +kernel
theorem dX8_tuneAt_71 : decode cX8_tuneAt 71 = .ok (.iconst 0, 1) := by decide +kernel
theorem dX8_tuneAt_72 : decode cX8_tuneAt 72 = .ok (.goto 4, 3) := by decide +kernel
theorem dX8_tuneAt_75 : decode cX8_tuneAt 75 = .ok (.iconst 2, 1) := by decide +kernel
theorem dX8_tuneAt_76 : decode cX8_tuneAt 76 = .ok (.invokevirtual 78, 3) := by decide +kernel
theorem dX8_tuneAt_79 : decode cX8_tuneAt 79 = .ok (.ifCond .eq 12, 3) := by decide +kernel
theorem dX8_tuneAt_82 : decode cX8_tuneAt 82 = .ok (.aload_n 0, 1) := by decide +kernel
theorem dX8_tuneAt_83 : decode cX8_tuneAt 83 = .ok (.getfield 60, 3) := by decide +kernel
theorem dX8_tuneAt_86 : decode cX8_tuneAt 86 = .ok (.iload_n 1, 1) := by decide +kernel
theorem dX8_tuneAt_87 : decode cX8_tuneAt 87 = .ok (.iaload, 1) := by decide +kernel
theorem dX8_tuneAt_88 : decode cX8_tuneAt 88 = .ok (.goto 4, 3) := by decide +kernel
theorem dX8_tuneAt_91 : decode cX8_tuneAt 91 = .ok (.iconst 0, 1) := by decide +kernel
theorem dX8_tuneAt_92 : decode cX8_tuneAt 92 = .ok (.ireturn, 1) := by decide +kernel
set_option maxRecDepth 20000 in
theorem ggX8_sets_X8_goThrough : GoodIn wsX8_sets wsX8_goThrough := goodIn_r _ [6, 7, 8, 9, 10, 11, 12, 13, 14, 15, 5, 16, 17, 18, 19, 20, 21, 22, 23, 24, 25, 26, 27, 28, 29, 30, 31, 32, 33, 34, 35, 36, 37, 38, 39, 40, 41, 42, 43, 44, 45, 46, 47, 48, 49, 50, 51, 52, 53, 54, 55, 56, 57, 58, 59, 60, 61, 62, 63, 64, 65, 66, 67, 68, 69, 70, 71, 72, 73, 74, 75, 76, 77, 78, 79, 80, 81, 82, 83, 84] (by decide +kernel) (by decide +kernel)
set_option maxRecDepth 20000 in
theorem gX8_sets_X8_goThrough : GoodIn wsX8_sets (wsV RX8 144 RX8 yX8_goThrough wsX8_goThrough) := goodIn_app (goodIn_of _ (by decide +kernel)) ggX8_sets_X8_goThrough
theorem dX8_sets_0 : decode cX8_sets 0 = .ok (.aload_n 0, 1) := by decide +kernel
theorem dX8_sets_1 : decode cX8_sets 1 = .ok (.iconst 0, 1) := by decide +kernel
theorem dX8_sets_2 : decode cX8_sets 2 = .ok (.putfield 63, 3) := by decide +kernel
theorem dX8_sets_5 : decode cX8_sets 5 = .ok (.aload_n 0, 1) := by decide +kernel
theorem dX8_sets_6 : decode cX8_sets 6 = .ok (.iconst 1, 1) := by decide +kernel
theorem dX8_sets_7 : decode cX8_sets 7 = .ok (.invokevirtual 144, 3) := by decide +kernel
theorem dX8_sets_10 : decode cX8_sets 10 = .ok (.ireturn, 1) := by decide +kernel
