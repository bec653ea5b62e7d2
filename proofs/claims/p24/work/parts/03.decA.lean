set_option maxRecDepth 20000 in
theorem ggX0_init_X0_limitTo : GoodIn wsX0_init wsX0_limitTo := goodIn_r _ [11, 6, 12, 13, 14, 10, 15, 16, 17, 18, 19, 20, 21, 22, 23, 24, 25, 26] (by decide +kernel) (by decide +kernel)
set_option maxRecDepth 20000 in
theorem gX0_init_X0_limitTo : GoodIn wsX0_init (wsV RX0 16 RX0 yX0_limitTo wsX0_limitTo) := goodIn_app (goodIn_of _ (by decide +kernel)) ggX0_init_X0_limitTo
theorem dX0_init_0 : decode cX0_init 0 = .ok (.aload_n 0, 1) := by decide +kernel
theorem dX0_init_1 : decode cX0_init 1 = .ok (.invokespecial 3, 3) := by decide +kernel
theorem dX0_init_4 : decode cX0_init 4 = .ok (.aload_n 0, 1) := by decide +kernel
theorem dX0_init_5 : decode cX0_init 5 = .ok (.bipush 9, 2) := by decide +kernel
theorem dX0_init_7 : decode cX0_init 7 = .ok (.bipush 9, 2) := by decide +kernel
theorem dX0_init_9 : decode cX0_init 9 = .ok (.multianewarray 9 2, 4) := by decide +kernel
theorem dX0_init_13 : decode cX0_init 13 = .ok (.putfield 11, 3) := by decide +kernel
theorem dX0_init_16 : decode cX0_init 16 = .ok (.aload_n 0, 1) := by decide +kernel
theorem dX0_init_17 : decode cX0_init 17 = .ok (.iconst 3, 1) := by decide +kernel
theorem dX0_init_18 : decode cX0_init 18 = .ok (.invokevirtual 16, 3) := by decide +kernel
theorem dX0_init_21 : decode cX0_init 21 = .ok (.pop, 1) := by decide +kernel
theorem dX0_init_22 : decode cX0_init 22 = .ok (.return_, 1) := by decide +kernel
set_option maxRecDepth 20000 in
theorem ggX0_holesMoved_J6_bitCount_0f7a4 : GoodIn wsX0_holesMoved wsJ6_bitCount_0f7a4 := goodIn_r _ [4, 5, 6, 7] (by decide +kernel) (by decide +kernel)
set_option maxRecDepth 20000 in
theorem gX0_holesMoved_J6_bitCount_0f7a4 : GoodIn wsX0_holesMoved (va_wsS RX0 24 yJ6_bitCount_0f7a4 wsJ6_bitCount_0f7a4) := goodIn_app (goodIn_of _ (by decide +kernel)) ggX0_holesMoved_J6_bitCount_0f7a4
theorem dX0_holesMoved_0 : decode cX0_holesMoved 0 = .ok (.getstatic 20, 3) := by decide +kernel
theorem dX0_holesMoved_3 : decode cX0_holesMoved 3 = .ok (.iload_n 0, 1) := by decide +kernel
theorem dX0_holesMoved_4 : decode cX0_holesMoved 4 = .ok (.iaload, 1) := by decide +kernel
theorem dX0_holesMoved_5 : decode cX0_holesMoved 5 = .ok (.getstatic 20, 3) := by decide +kernel
theorem dX0_holesMoved_8 : decode cX0_holesMoved 8 = .ok (.iload_n 1, 1) := by decide +kernel
theorem dX0_holesMoved_9 : decode cX0_holesMoved 9 = .ok (.iaload, 1) := by decide +kernel
theorem dX0_holesMoved_10 : decode cX0_holesMoved 10 = .ok (.ixor, 1) := by decide +kernel
theorem dX0_holesMoved_11 : decode cX0_holesMoved 11 = .ok (.invokestatic 24, 3) := by decide +kernel
theorem dX0_holesMoved_14 : decode cX0_holesMoved 14 = .ok (.ireturn, 1) := by decide +kernel
theorem dX0_crosses_0 : decode cX0_crosses 0 = .ok (.getstatic 20, 3) := by decide +kernel
theorem dX0_crosses_3 : decode cX0_crosses 3 = .ok (.iload_n 0, 1) := by decide +kernel
theorem dX0_crosses_4 : decode cX0_crosses 4 = .ok (.iaload, 1) := by decide +kernel
theorem dX0_crosses_5 : decode cX0_crosses 5 = .ok (.getstatic 20, 3) := by decide +kernel
theorem dX0_crosses_8 : decode cX0_crosses 8 = .ok (.iload_n 1, 1) := by decide +kernel
theorem dX0_crosses_9 : decode cX0_crosses 9 = .ok (.iaload, 1) := by decide +kernel
theorem dX0_crosses_10 : decode cX0_crosses 10 = .ok (.iconst (-1), 1) := by decide +kernel
theorem dX0_crosses_11 : decode cX0_crosses 11 = .ok (.ixor, 1) := by decide +kernel
theorem dX0_crosses_12 : decode cX0_crosses 12 = .ok (.iand, 1) := by decide +kernel
theorem dX0_crosses_13 : decode cX0_crosses 13 = .ok (.ifCond .eq 7, 3) := by decide +kernel
theorem dX0_crosses_16 : decode cX0_crosses 16 = .ok (.iconst 1, 1) := by decide +kernel
theorem dX0_crosses_17 : decode cX0_crosses 17 = .ok (.goto 4, 3) := by decide +kernel
theorem dX0_crosses_20 : decode cX0_crosses 20 = .ok (.iconst 0, 1) := by decide +kernel
theorem dX0_crosses_21 : decode cX0_crosses 21 = .ok (.istore_n 2, 1) := by decide +kernel
theorem dX0_crosses_22 : decode cX0_crosses 22 = .ok (.getstatic 20, 3) := by decide +kernel
theorem dX0_crosses_25 : decode cX0_crosses 25 = .ok (.iload_n 1, 1) := by decide +kernel
theorem dX0_crosses_26 : decode cX0_crosses 26 = .ok (.iaload, 1) := by decide +kernel
theorem dX0_crosses_27 : decode cX0_crosses 27 = .ok (.getstatic 20, 3) := by decide +kernel
theorem dX0_crosses_30 : decode cX0_crosses 30 = .ok (.iload_n 0, 1) := by decide +kernel
theorem dX0_crosses_31 : decode cX0_crosses 31 = .ok (.iaload, 1) := by decide +kernel
theorem dX0_crosses_32 : decode cX0_crosses 32 = .ok (.iconst (-1), 1) := by decide +kernel
theorem dX0_crosses_33 : decode cX0_crosses 33 = .ok (.ixor, 1) := by decide +kernel
theorem dX0_crosses_34 : decode cX0_crosses 34 = .ok (.iand, 1) := by decide +kernel
theorem dX0_crosses_35 : decode cX0_crosses 35 = .ok (.ifCond .eq 7, 3) := by decide +kernel
theorem dX0_crosses_38 : decode cX0_crosses 38 = .ok (.iconst 1, 1) := by decide +kernel
theorem dX0_crosses_39 : decode cX0_crosses 39 = .ok (.goto 4, 3) := by decide +kernel
theorem dX0_crosses_42 : decode cX0_crosses 42 = .ok (.iconst 0, 1) := by decide +kernel
theorem dX0_crosses_43 : decode cX0_crosses 43 = .ok (.istore_n 3, 1) := by decide +kernel
theorem dX0_crosses_44 : decode cX0_crosses 44 = .ok (.iload_n 2, 1) := by decide +kernel
theorem dX0_crosses_45 : decode cX0_crosses 45 = .ok (.ifCond .eq 11, 3) := by decide +kernel
theorem dX0_crosses_48 : decode cX0_crosses 48 = .ok (.iload_n 3, 1) := by decide +kernel
theorem dX0_crosses_49 : decode cX0_crosses 49 = .ok (.ifCond .eq 7, 3) := by decide +kernel
theorem dX0_crosses_52 : decode cX0_crosses 52 = .ok (.iconst 1, 1) := by decide +kernel
theorem dX0_crosses_53 : decode cX0_crosses 53 = .ok (.goto 4, 3) := by decide +kernel
theorem dX0_crosses_56 : decode cX0_crosses 56 = .ok (.iconst 0, 1) := by decide +kernel
theorem dX0_crosses_57 : decode cX0_crosses 57 = .ok (.ireturn, 1) := by decide +kernel
set_option maxRecDepth 20000 in
theorem ggX0_limitTo_X0_holesMoved : GoodIn wsX0_limitTo wsX0_holesMoved := goodIn_r _ [6, 7, 8, 9, 10, 11, 12, 13] (by decide +kernel) (by decide +kernel)
set_option maxRecDepth 20000 in
theorem gX0_limitTo_X0_holesMoved : GoodIn wsX0_limitTo (va_wsS RX0 29 yX0_holesMoved wsX0_holesMoved) := goodIn_app (goodIn_of _ (by decide +kernel)) ggX0_limitTo_X0_holesMoved
set_option maxRecDepth 20000 in
theorem ggX0_limitTo_X0_crosses : GoodIn wsX0_limitTo wsX0_crosses := goodIn_r _ [16] (by decide +kernel) (by decide +kernel)
set_option maxRecDepth 20000 in
theorem gX0_limitTo_X0_crosses : GoodIn wsX0_limitTo (va_wsS RX0 33 yX0_crosses wsX0_crosses) := goodIn_app (goodIn_of _ (by decide +kernel)) ggX0_limitTo_X0_crosses
theorem dX0_limitTo_0 : decode cX0_limitTo 0 = .ok (.iconst 0, 1) := by decide +kernel
theorem dX0_limitTo_1 : decode cX0_limitTo 1 = .ok (.istore_n 2, 1) := by decide +kernel
theorem dX0_limitTo_2 : decode cX0_limitTo 2 = .ok (.iconst 0, 1) := by decide +kernel
theorem dX0_limitTo_3 : decode cX0_limitTo 3 = .ok (.istore_n 3, 1) := by decide +kernel
theorem dX0_limitTo_4 : decode cX0_limitTo 4 = .ok (.iload_n 3, 1) := by decide +kernel
theorem dX0_limitTo_5 : decode cX0_limitTo 5 = .ok (.bipush 9, 2) := by decide +kernel
theorem dX0_limitTo_7 : decode cX0_limitTo 7 = .ok (.if_icmp .ge 90, 3) := by decide +kernel
theorem dX0_limitTo_10 : decode cX0_limitTo 10 = .ok (.iconst 0, 1) := by decide +kernel
theorem dX0_limitTo_11 : decode cX0_limitTo 11 = .ok (.istore 4, 2) := by decide +kernel
theorem dX0_limitTo_13 : decode cX0_limitTo 13 = .ok (.iload 4, 2) := by decide +kernel
theorem dX0_limitTo_15 : decode cX0_limitTo 15 = .ok (.bipush 9, 2) := by decide +kernel
theorem dX0_limitTo_17 : decode cX0_limitTo 17 = .ok (.if_icmp .ge 74, 3) := by decide +kernel
theorem dX0_limitTo_20 : decode cX0_limitTo 20 = .ok (.iload_n 3, 1) := by decide +kernel
theorem dX0_limitTo_21 : decode cX0_limitTo 21 = .ok (.iload 4, 2) := by decide +kernel
theorem dX0_limitTo_23 : decode cX0_limitTo 23 = .ok (.invokestatic 29, 3) := by decide +kernel
theorem dX0_limitTo_26 : decode cX0_limitTo 26 = .ok (.istore 5, 2) := by decide +kernel
theorem dX0_limitTo_28 : decode cX0_limitTo 28 = .ok (.iload_n 3, 1) := by decide +kernel
theorem dX0_limitTo_29 : decode cX0_limitTo 29 = .ok (.iload 4, 2) := by decide +kernel
theorem dX0_limitTo_31 : decode cX0_limitTo 31 = .ok (.invokestatic 33, 3) := by decide +kernel
theorem dX0_limitTo_34 : decode cX0_limitTo 34 = .ok (.ifCond .eq 13, 3) := by decide +kernel
theorem dX0_limitTo_37 : decode cX0_limitTo 37 = .ok (.iload 5, 2) := by decide +kernel
theorem dX0_limitTo_39 : decode cX0_limitTo 39 = .ok (.iload_n 1, 1) := by decide +kernel
theorem dX0_limitTo_40 : decode cX0_limitTo 40 = .ok (.if_icmp .le 7, 3) := by decide +kernel
theorem dX0_limitTo_43 : decode cX0_limitTo 43 = .ok (.iconst 1, 1) := by decide +kernel
theorem dX0_limitTo_44 : decode cX0_limitTo 44 = .ok (.goto 4, 3) := by decide +kernel
theorem dX0_limitTo_47 : decode cX0_limitTo 47 = .ok (.iconst 0, 1) := by decide +kernel
theorem dX0_limitTo_48 : decode cX0_limitTo 48 = .ok (.istore 6, 2) := by decide +kernel
theorem dX0_limitTo_50 : decode cX0_limitTo 50 = .ok (.aload_n 0, 1) := by decide +kernel
theorem dX0_limitTo_51 : decode cX0_limitTo 51 = .ok (.getfield 11, 3) := by decide +kernel
theorem dX0_limitTo_54 : decode cX0_limitTo 54 = .ok (.iload_n 3, 1) := by decide +kernel
theorem dX0_limitTo_55 : decode cX0_limitTo 55 = .ok (.aaload, 1) := by decide +kernel
theorem dX0_limitTo_56 : decode cX0_limitTo 56 = .ok (.iload 4, 2) := by decide +kernel
theorem dX0_limitTo_58 : decode cX0_limitTo 58 = .ok (.iload 6, 2) := by decide +kernel
theorem dX0_limitTo_60 : decode cX0_limitTo 60 = .ok (.ifCond .ne 9, 3) := by decide +kernel
theorem dX0_limitTo_63 : decode cX0_limitTo 63 = .ok (.iload_n 3, 1) := by decide +kernel
theorem dX0_limitTo_64 : decode cX0_limitTo 64 = .ok (.iload 4, 2) := by decide +kernel
theorem dX0_limitTo_66 : decode cX0_limitTo 66 = .ok (.if_icmp .ne 8, 3) := by decide +kernel
theorem dX0_limitTo_69 : decode cX0_limitTo 69 = .ok (.ldc 37, 2) := by decide +kernel
theorem dX0_limitTo_71 : decode cX0_limitTo 71 = .ok (.goto 5, 3) := by decide +kernel
theorem dX0_limitTo_74 : decode cX0_limitTo 74 = .ok (.iload 5, 2) := by decide +kernel
theorem dX0_limitTo_76 : decode cX0_limitTo 76 = .ok (.iastore, 1) := by decide +kernel
theorem dX0_limitTo_77 : decode cX0_limitTo 77 = .ok (.iload 6, 2) := by decide +kernel
theorem dX0_limitTo_79 : decode cX0_limitTo 79 = .ok (.ifCond .eq 6, 3) := by decide +kernel
theorem dX0_limitTo_82 : decode cX0_limitTo 82 = .ok (.iinc 2 1, 3) := by decide +kernel
theorem dX0_limitTo_85 : decode cX0_limitTo 85 = .ok (.iinc 4 1, 3) := by decide +kernel
theorem dX0_limitTo_88 : decode cX0_limitTo 88 = .ok (.goto (-75), 3) := by decide +kernel
theorem dX0_limitTo_91 : decode cX0_limitTo 91 = .ok (.iinc 3 1, 3) := by decide +kernel
theorem dX0_limitTo_94 : decode cX0_limitTo 94 = .ok (.goto (-90), 3) := by decide +kernel
theorem dX0_limitTo_97 : decode cX0_limitTo 97 = .ok (.iload_n 2, 1) := by decide +kernel
theorem dX0_limitTo_98 : decode cX0_limitTo 98 = .ok (.ireturn, 1) := by decide +kernel
theorem dX0_bars_0 : decode cX0_bars 0 = .ok (.iload_n 1, 1) := by decide +kernel
theorem dX0_bars_1 : decode cX0_bars 1 = .ok (.iload_n 2, 1) := by decide +kernel
theorem dX0_bars_2 : decode cX0_bars 2 = .ok (.if_icmp .eq 20, 3) := by decide +kernel
theorem dX0_bars_5 : decode cX0_bars 5 = .ok (.aload_n 0, 1) := by decide +kernel
theorem dX0_bars_6 : decode cX0_bars 6 = .ok (.getfield 11, 3) := by decide +kernel
theorem dX0_bars_9 : decode cX0_bars 9 = .ok (.iload_n 1, 1) := by decide +kernel
theorem dX0_bars_10 : decode cX0_bars 10 = .ok (.aaload, 1) := by decide +kernel
theorem dX0_bars_11 : decode cX0_bars 11 = .ok (.iload_n 2, 1) := by decide +kernel
theorem dX0_bars_12 : decode cX0_bars 12 = .ok (.iaload, 1) := by decide +kernel
theorem dX0_bars_13 : decode cX0_bars 13 = .ok (.ldc 37, 2) := by decide +kernel
theorem dX0_bars_15 : decode cX0_bars 15 = .ok (.if_icmp .ne 7, 3) := by decide +kernel
theorem dX0_bars_18 : decode cX0_bars 18 = .ok (.iconst 1, 1) := by decide +kernel
theorem dX0_bars_19 : decode cX0_bars 19 = .ok (.goto 4, 3) := by decide +kernel
theorem dX0_bars_22 : decode cX0_bars 22 = .ok (.iconst 0, 1) := by decide +kernel
theorem dX0_bars_23 : decode cX0_bars 23 = .ok (.ireturn, 1) := by decide +kernel
theorem dX0_stepCost_0 : decode cX0_stepCost 0 = .ok (.aload_n 0, 1) := by decide +kernel
theorem dX0_stepCost_1 : decode cX0_stepCost 1 = .ok (.getfield 11, 3) := by decide +kernel
theorem dX0_stepCost_4 : decode cX0_stepCost 4 = .ok (.iload_n 1, 1) := by decide +kernel
theorem dX0_stepCost_5 : decode cX0_stepCost 5 = .ok (.aaload, 1) := by decide +kernel
theorem dX0_stepCost_6 : decode cX0_stepCost 6 = .ok (.iload_n 2, 1) := by decide +kernel
theorem dX0_stepCost_7 : decode cX0_stepCost 7 = .ok (.iaload, 1) := by decide +kernel
theorem dX0_stepCost_8 : decode cX0_stepCost 8 = .ok (.ireturn, 1) := by decide +kernel
theorem dX1_init_0 : decode cX1_init 0 = .ok (.aload_n 0, 1) := by decide +kernel
theorem dX1_init_1 : decode cX1_init 1 = .ok (.invokespecial 3, 3) := by decide +kernel
theorem dX1_init_4 : decode cX1_init 4 = .ok (.aload_n 0, 1) := by decide +kernel
theorem dX1_init_5 : decode cX1_init 5 = .ok (.bipush 9, 2) := by decide +kernel
theorem dX1_init_7 : decode cX1_init 7 = .ok (.newarray .int, 2) := by decide +kernel
theorem dX1_init_9 : decode cX1_init 9 = .ok (.putfield 9, 3) := by decide +kernel
theorem dX1_init_12 : decode cX1_init 12 = .ok (.return_, 1) := by decide +kernel
set_option maxRecDepth 20000 in
theorem ggX1_startRow_J7_fill_53178 : GoodIn wsX1_startRow wsJ7_fill_53178 := goodIn_r _ [6] (by decide +kernel) (by decide +kernel)
set_option maxRecDepth 20000 in
theorem gX1_startRow_J7_fill_53178 : GoodIn wsX1_startRow (va_wsS RX1 16 yJ7_fill_53178 wsJ7_fill_53178) := goodIn_app (goodIn_of _ (by decide +kernel)) ggX1_startRow_J7_fill_53178
theorem dX1_startRow_0 : decode cX1_startRow 0 = .ok (.aload_n 0, 1) := by decide +kernel
theorem dX1_startRow_1 : decode cX1_startRow 1 = .ok (.getfield 9, 3) := by decide +kernel
theorem dX1_startRow_4 : decode cX1_startRow 4 = .ok (.ldc 15, 2) := by decide +kernel
theorem dX1_startRow_6 : decode cX1_startRow 6 = .ok (.invokestatic 16, 3) := by decide +kernel
theorem dX1_startRow_9 : decode cX1_startRow 9 = .ok (.aload_n 0, 1) := by decide +kernel
theorem dX1_startRow_10 : decode cX1_startRow 10 = .ok (.getfield 9, 3) := by decide +kernel
theorem dX1_startRow_13 : decode cX1_startRow 13 = .ok (.iconst 0, 1) := by decide +kernel
theorem dX1_startRow_14 : decode cX1_startRow 14 = .ok (.iconst 0, 1) := by decide +kernel
theorem dX1_startRow_15 : decode cX1_startRow 15 = .ok (.iastore, 1) := by decide +kernel
theorem dX1_startRow_16 : decode cX1_startRow 16 = .ok (.return_, 1) := by decide +kernel
set_option maxRecDepth 20000 in
theorem ggX1_growFrom_X1_firstLeastBeside : GoodIn wsX1_growFrom wsX1_firstLeastBeside := goodIn_r _ [11, 1, 12] (by decide +kernel) (by decide +kernel)
set_option maxRecDepth 20000 in
theorem gX1_growFrom_X1_firstLeastBeside : GoodIn wsX1_growFrom (wsV RX1 22 RX1 yX1_firstLeastBeside wsX1_firstLeastBeside) := goodIn_app (goodIn_of _ (by decide +kernel)) ggX1_growFrom_X1_firstLeastBeside
theorem dX1_growFrom_0 : decode cX1_growFrom 0 = .ok (.aload_n 1, 1) := by decide +kernel
theorem dX1_growFrom_1 : decode cX1_growFrom 1 = .ok (.iconst 0, 1) := by decide +kernel
theorem dX1_growFrom_2 : decode cX1_growFrom 2 = .ok (.invokevirtual 22, 3) := by decide +kernel
theorem dX1_growFrom_5 : decode cX1_growFrom 5 = .ok (.istore_n 3, 1) := by decide +kernel
theorem dX1_growFrom_6 : decode cX1_growFrom 6 = .ok (.aload_n 1, 1) := by decide +kernel
theorem dX1_growFrom_7 : decode cX1_growFrom 7 = .ok (.getfield 9, 3) := by decide +kernel
theorem dX1_growFrom_10 : decode cX1_growFrom 10 = .ok (.iload_n 3, 1) := by decide +kernel
theorem dX1_growFrom_11 : decode cX1_growFrom 11 = .ok (.iaload, 1) := by decide +kernel
theorem dX1_growFrom_12 : decode cX1_growFrom 12 = .ok (.istore 4, 2) := by decide +kernel
theorem dX1_growFrom_14 : decode cX1_growFrom 14 = .ok (.aload_n 1, 1) := by decide +kernel
theorem dX1_growFrom_15 : decode cX1_growFrom 15 = .ok (.getfield 9, 3) := by decide +kernel
theorem dX1_growFrom_18 : decode cX1_growFrom 18 = .ok (.aload_n 1, 1) := by decide +kernel
theorem dX1_growFrom_19 : decode cX1_growFrom 19 = .ok (.iload_n 3, 1) := by decide +kernel
theorem dX1_growFrom_20 : decode cX1_growFrom 20 = .ok (.invokevirtual 22, 3) := by decide +kernel
theorem dX1_growFrom_23 : decode cX1_growFrom 23 = .ok (.iaload, 1) := by decide +kernel
theorem dX1_growFrom_24 : decode cX1_growFrom 24 = .ok (.istore 5, 2) := by decide +kernel
theorem dX1_growFrom_26 : decode cX1_growFrom 26 = .ok (.iconst 0, 1) := by decide +kernel
theorem dX1_growFrom_27 : decode cX1_growFrom 27 = .ok (.istore 6, 2) := by decide +kernel
theorem dX1_growFrom_29 : decode cX1_growFrom 29 = .ok (.iload 6, 2) := by decide +kernel
theorem dX1_growFrom_31 : decode cX1_growFrom 31 = .ok (.bipush 9, 2) := by decide +kernel
theorem dX1_growFrom_33 : decode cX1_growFrom 33 = .ok (.if_icmp .ge 43, 3) := by decide +kernel
theorem dX1_growFrom_36 : decode cX1_growFrom 36 = .ok (.iload 6, 2) := by decide +kernel
theorem dX1_growFrom_38 : decode cX1_growFrom 38 = .ok (.iload_n 3, 1) := by decide +kernel
theorem dX1_growFrom_39 : decode cX1_growFrom 39 = .ok (.if_icmp .ne 8, 3) := by decide +kernel
theorem dX1_growFrom_42 : decode cX1_growFrom 42 = .ok (.iload 5, 2) := by decide +kernel
theorem dX1_growFrom_44 : decode cX1_growFrom 44 = .ok (.goto 5, 3) := by decide +kernel
theorem dX1_growFrom_47 : decode cX1_growFrom 47 = .ok (.iload 4, 2) := by decide +kernel
theorem dX1_growFrom_49 : decode cX1_growFrom 49 = .ok (.istore 7, 2) := by decide +kernel
theorem dX1_growFrom_51 : decode cX1_growFrom 51 = .ok (.aload_n 0, 1) := by decide +kernel
theorem dX1_growFrom_52 : decode cX1_growFrom 52 = .ok (.getfield 9, 3) := by decide +kernel
theorem dX1_growFrom_55 : decode cX1_growFrom 55 = .ok (.iload 6, 2) := by decide +kernel
theorem dX1_growFrom_57 : decode cX1_growFrom 57 = .ok (.ldc 15, 2) := by decide +kernel
theorem dX1_growFrom_59 : decode cX1_growFrom 59 = .ok (.iload 7, 2) := by decide +kernel
theorem dX1_growFrom_61 : decode cX1_growFrom 61 = .ok (.aload_n 2, 1) := by decide +kernel
theorem dX1_growFrom_62 : decode cX1_growFrom 62 = .ok (.iload 6, 2) := by decide +kernel
theorem dX1_growFrom_64 : decode cX1_growFrom 64 = .ok (.iaload, 1) := by decide +kernel
theorem dX1_growFrom_65 : decode cX1_growFrom 65 = .ok (.iadd, 1) := by decide +kernel
theorem dX1_growFrom_66 : decode cX1_growFrom 66 = .ok (.invokestatic 26, 3) := by decide +kernel
theorem dX1_growFrom_69 : decode cX1_growFrom 69 = .ok (.iastore, 1) := by decide +kernel
theorem dX1_growFrom_70 : decode cX1_growFrom 70 = .ok (.iinc 6 1, 3) := by decide +kernel
theorem dX1_growFrom_73 : decode cX1_growFrom 73 = .ok (.goto (-44), 3) := by decide +kernel
theorem dX1_growFrom_76 : decode cX1_growFrom 76 = .ok (.return_, 1) := by decide +kernel
theorem dX1_firstLeastBeside_0 : decode cX1_firstLeastBeside 0 = .ok (.iconst 0, 1) := by decide +kernel
theorem dX1_firstLeastBeside_1 : decode cX1_firstLeastBeside 1 = .ok (.istore_n 2, 1) := by decide +kernel
theorem dX1_firstLeastBeside_2 : decode cX1_firstLeastBeside 2 = .ok (.iconst 1, 1) := by decide +kernel
theorem dX1_firstLeastBeside_3 : decode cX1_firstLeastBeside 3 = .ok (.istore_n 3, 1) := by decide +kernel
theorem dX1_firstLeastBeside_4 : decode cX1_firstLeastBeside 4 = .ok (.iload_n 3, 1) := by decide +kernel
theorem dX1_firstLeastBeside_5 : decode cX1_firstLeastBeside 5 = .ok (.bipush 9, 2) := by decide +kernel
theorem dX1_firstLeastBeside_7 : decode cX1_firstLeastBeside 7 = .ok (.if_icmp .ge 31, 3) := by decide +kernel
theorem dX1_firstLeastBeside_10 : decode cX1_firstLeastBeside 10 = .ok (.iload_n 3, 1) := by decide +kernel
theorem dX1_firstLeastBeside_11 : decode cX1_firstLeastBeside 11 = .ok (.iload_n 1, 1) := by decide +kernel
theorem dX1_firstLeastBeside_12 : decode cX1_firstLeastBeside 12 = .ok (.if_icmp .eq 20, 3) := by decide +kernel
theorem dX1_firstLeastBeside_15 : decode cX1_firstLeastBeside 15 = .ok (.aload_n 0, 1) := by decide +kernel
theorem dX1_firstLeastBeside_16 : decode cX1_firstLeastBeside 16 = .ok (.getfield 9, 3) := by decide +kernel
theorem dX1_firstLeastBeside_19 : decode cX1_firstLeastBeside 19 = .ok (.iload_n 3, 1) := by decide +kernel
theorem dX1_firstLeastBeside_20 : decode cX1_firstLeastBeside 20 = .ok (.iaload, 1) := by decide +kernel
theorem dX1_firstLeastBeside_21 : decode cX1_firstLeastBeside 21 = .ok (.aload_n 0, 1) := by decide +kernel
theorem dX1_firstLeastBeside_22 : decode cX1_firstLeastBeside 22 = .ok (.getfield 9, 3) := by decide +kernel
theorem dX1_firstLeastBeside_25 : decode cX1_firstLeastBeside 25 = .ok (.iload_n 2, 1) := by decide +kernel
theorem dX1_firstLeastBeside_26 : decode cX1_firstLeastBeside 26 = .ok (.iaload, 1) := by decide +kernel
theorem dX1_firstLeastBeside_27 : decode cX1_firstLeastBeside 27 = .ok (.if_icmp .ge 5, 3) := by decide +kernel
theorem dX1_firstLeastBeside_30 : decode cX1_firstLeastBeside 30 = .ok (.iload_n 3, 1) := by decide +kernel
theorem dX1_firstLeastBeside_31 : decode cX1_firstLeastBeside 31 = .ok (.istore_n 2, 1) := by decide +kernel
theorem dX1_firstLeastBeside_32 : decode cX1_firstLeastBeside 32 = .ok (.iinc 3 1, 3) := by decide +kernel
theorem dX1_firstLeastBeside_35 : decode cX1_firstLeastBeside 35 = .ok (.goto (-31), 3) := by decide +kernel
theorem dX1_firstLeastBeside_38 : decode cX1_firstLeastBeside 38 = .ok (.iload_n 2, 1) := by decide +kernel
theorem dX1_firstLeastBeside_39 : decode cX1_firstLeastBeside 39 = .ok (.ireturn, 1) := by decide +kernel
set_option maxRecDepth 20000 in
theorem ggX1_leastOfAll_X1_firstLeastBeside : GoodIn wsX1_leastOfAll wsX1_firstLeastBeside := goodIn_r _ [6, 1, 7] (by decide +kernel) (by decide +kernel)
set_option maxRecDepth 20000 in
theorem gX1_leastOfAll_X1_firstLeastBeside : GoodIn wsX1_leastOfAll (wsV RX1 22 RX1 yX1_firstLeastBeside wsX1_firstLeastBeside) := goodIn_app (goodIn_of _ (by decide +kernel)) ggX1_leastOfAll_X1_firstLeastBeside
theorem dX1_leastOfAll_0 : decode cX1_leastOfAll 0 = .ok (.aload_n 0, 1) := by decide +kernel
theorem dX1_leastOfAll_1 : decode cX1_leastOfAll 1 = .ok (.getfield 9, 3) := by decide +kernel
theorem dX1_leastOfAll_4 : decode cX1_leastOfAll 4 = .ok (.aload_n 0, 1) := by decide +kernel
theorem dX1_leastOfAll_5 : decode cX1_leastOfAll 5 = .ok (.iconst 0, 1) := by decide +kernel
theorem dX1_leastOfAll_6 : decode cX1_leastOfAll 6 = .ok (.invokevirtual 22, 3) := by decide +kernel
theorem dX1_leastOfAll_9 : decode cX1_leastOfAll 9 = .ok (.iaload, 1) := by decide +kernel
theorem dX1_leastOfAll_10 : decode cX1_leastOfAll 10 = .ok (.ireturn, 1) := by decide +kernel
theorem dX2_init_0 : decode cX2_init 0 = .ok (.aload_n 0, 1) := by decide +kernel
theorem dX2_init_1 : decode cX2_init 1 = .ok (.invokespecial 3, 3) := by decide +kernel
theorem dX2_init_4 : decode cX2_init 4 = .ok (.aload_n 0, 1) := by decide +kernel
theorem dX2_init_5 : decode cX2_init 5 = .ok (.aload_n 1, 1) := by decide +kernel
theorem dX2_init_6 : decode cX2_init 6 = .ok (.putfield 9, 3) := by decide +kernel
theorem dX2_init_9 : decode cX2_init 9 = .ok (.return_, 1) := by decide +kernel
theorem dX2_size_0 : decode cX2_size 0 = .ok (.aload_n 0, 1) := by decide +kernel
theorem dX2_size_1 : decode cX2_size 1 = .ok (.getfield 9, 3) := by decide +kernel
theorem dX2_size_4 : decode cX2_size 4 = .ok (.arraylength, 1) := by decide +kernel
theorem dX2_size_5 : decode cX2_size 5 = .ok (.ireturn, 1) := by decide +kernel
set_option maxRecDepth 20000 in
theorem ggX2_costBetween_X2_soundOf : GoodIn wsX2_costBetween wsX2_soundOf := goodIn_r _ [10] (by decide +kernel) (by decide +kernel)
set_option maxRecDepth 20000 in
theorem gX2_costBetween_X2_soundOf : GoodIn wsX2_costBetween (va_wsS RX2 16 yX2_soundOf wsX2_soundOf) := goodIn_app (goodIn_of _ (by decide +kernel)) ggX2_costBetween_X2_soundOf
set_option maxRecDepth 20000 in
theorem ggX2_costBetween_X0_stepCost : GoodIn wsX2_costBetween wsX0_stepCost := goodIn_r _ [15, 16, 18] (by decide +kernel) (by decide +kernel)
set_option maxRecDepth 20000 in
theorem gX2_costBetween_X0_stepCost : GoodIn wsX2_costBetween (wsV RX2 20 RX0 yX0_stepCost wsX0_stepCost) := goodIn_app (goodIn_of _ (by decide +kernel)) ggX2_costBetween_X0_stepCost
theorem dX2_costBetween_0 : decode cX2_costBetween 0 = .ok (.aload_n 0, 1) := by decide +kernel
theorem dX2_costBetween_1 : decode cX2_costBetween 1 = .ok (.getfield 9, 3) := by decide +kernel
theorem dX2_costBetween_4 : decode cX2_costBetween 4 = .ok (.arraylength, 1) := by decide +kernel
theorem dX2_costBetween_5 : decode cX2_costBetween 5 = .ok (.iload_n 3, 1) := by decide +kernel
theorem dX2_costBetween_6 : decode cX2_costBetween 6 = .ok (.if_icmp .lt 6, 3) := by decide +kernel
theorem dX2_costBetween_9 : decode cX2_costBetween 9 = .ok (.ldc 15, 2) := by decide +kernel
theorem dX2_costBetween_11 : decode cX2_costBetween 11 = .ok (.ireturn, 1) := by decide +kernel
theorem dX2_costBetween_12 : decode cX2_costBetween 12 = .ok (.iconst 0, 1) := by decide +kernel
theorem dX2_costBetween_13 : decode cX2_costBetween 13 = .ok (.istore 5, 2) := by decide +kernel
theorem dX2_costBetween_15 : decode cX2_costBetween 15 = .ok (.iload_n 2, 1) := by decide +kernel
theorem dX2_costBetween_16 : decode cX2_costBetween 16 = .ok (.istore 6, 2) := by decide +kernel
theorem dX2_costBetween_18 : decode cX2_costBetween 18 = .ok (.iconst 0, 1) := by decide +kernel
theorem dX2_costBetween_19 : decode cX2_costBetween 19 = .ok (.istore 7, 2) := by decide +kernel
theorem dX2_costBetween_21 : decode cX2_costBetween 21 = .ok (.iload 7, 2) := by decide +kernel
theorem dX2_costBetween_23 : decode cX2_costBetween 23 = .ok (.aload_n 0, 1) := by decide +kernel
theorem dX2_costBetween_24 : decode cX2_costBetween 24 = .ok (.getfield 9, 3) := by decide +kernel
theorem dX2_costBetween_27 : decode cX2_costBetween 27 = .ok (.arraylength, 1) := by decide +kernel
theorem dX2_costBetween_28 : decode cX2_costBetween 28 = .ok (.if_icmp .ge 41, 3) := by decide +kernel
theorem dX2_costBetween_31 : decode cX2_costBetween 31 = .ok (.aload_n 0, 1) := by decide +kernel
theorem dX2_costBetween_32 : decode cX2_costBetween 32 = .ok (.getfield 9, 3) := by decide +kernel
theorem dX2_costBetween_35 : decode cX2_costBetween 35 = .ok (.iload 7, 2) := by decide +kernel
theorem dX2_costBetween_37 : decode cX2_costBetween 37 = .ok (.iaload, 1) := by decide +kernel
theorem dX2_costBetween_38 : decode cX2_costBetween 38 = .ok (.iload_n 2, 1) := by decide +kernel
theorem dX2_costBetween_39 : decode cX2_costBetween 39 = .ok (.iload 4, 2) := by decide +kernel
theorem dX2_costBetween_41 : decode cX2_costBetween 41 = .ok (.invokestatic 16, 3) := by decide +kernel
theorem dX2_costBetween_44 : decode cX2_costBetween 44 = .ok (.istore 8, 2) := by decide +kernel
theorem dX2_costBetween_46 : decode cX2_costBetween 46 = .ok (.iload 5, 2) := by decide +kernel
theorem dX2_costBetween_48 : decode cX2_costBetween 48 = .ok (.aload_n 1, 1) := by decide +kernel
theorem dX2_costBetween_49 : decode cX2_costBetween 49 = .ok (.iload 6, 2) := by decide +kernel
theorem dX2_costBetween_51 : decode cX2_costBetween 51 = .ok (.iload 8, 2) := by decide +kernel
theorem dX2_costBetween_53 : decode cX2_costBetween 53 = .ok (.invokevirtual 20, 3) := by decide +kernel
theorem dX2_costBetween_56 : decode cX2_costBetween 56 = .ok (.iadd, 1) := by decide +kernel
theorem dX2_costBetween_57 : decode cX2_costBetween 57 = .ok (.istore 5, 2) := by decide +kernel
theorem dX2_costBetween_59 : decode cX2_costBetween 59 = .ok (.iload 8, 2) := by decide +kernel
theorem dX2_costBetween_61 : decode cX2_costBetween 61 = .ok (.istore 6, 2) := by decide +kernel
theorem dX2_costBetween_63 : decode cX2_costBetween 63 = .ok (.iinc 7 1, 3) := by decide +kernel
theorem dX2_costBetween_66 : decode cX2_costBetween 66 = .ok (.goto (-45), 3) := by decide +kernel
theorem dX2_costBetween_69 : decode cX2_costBetween 69 = .ok (.ldc 15, 2) := by decide +kernel
theorem dX2_costBetween_71 : decode cX2_costBetween 71 = .ok (.iload 5, 2) := by decide +kernel
theorem dX2_costBetween_73 : decode cX2_costBetween 73 = .ok (.aload_n 1, 1) := by decide +kernel
theorem dX2_costBetween_74 : decode cX2_costBetween 74 = .ok (.iload 6, 2) := by decide +kernel
theorem dX2_costBetween_76 : decode cX2_costBetween 76 = .ok (.iload 4, 2) := by decide +kernel
theorem dX2_costBetween_78 : decode cX2_costBetween 78 = .ok (.invokevirtual 20, 3) := by decide +kernel
theorem dX2_costBetween_81 : decode cX2_costBetween 81 = .ok (.iadd, 1) := by decide +kernel
theorem dX2_costBetween_82 : decode cX2_costBetween 82 = .ok (.invokestatic 26, 3) := by decide +kernel
theorem dX2_costBetween_85 : decode cX2_costBetween 85 = .ok (.ireturn, 1) := by decide +kernel
theorem dX2_soundOf_0 : decode cX2_soundOf 0 = .ok (.iload_n 0, 1) := by decide +kernel
theorem dX2_soundOf_1 : decode cX2_soundOf 1 = .ok (.bipush 9, 2) := by decide +kernel
theorem dX2_soundOf_3 : decode cX2_soundOf 3 = .ok (.if_icmp .ne 5, 3) := by decide +kernel
theorem dX2_soundOf_6 : decode cX2_soundOf 6 = .ok (.iload_n 2, 1) := by decide +kernel
theorem dX2_soundOf_7 : decode cX2_soundOf 7 = .ok (.ireturn, 1) := by decide +kernel
theorem dX2_soundOf_8 : decode cX2_soundOf 8 = .ok (.iload_n 0, 1) := by decide +kernel
theorem dX2_soundOf_9 : decode cX2_soundOf 9 = .ok (.bipush 10, 2) := by decide +kernel
theorem dX2_soundOf_11 : decode cX2_soundOf 11 = .ok (.if_icmp .ne 7, 3) := by decide +kernel
theorem dX2_soundOf_14 : decode cX2_soundOf 14 = .ok (.iload_n 1, 1) := by decide +kernel
theorem dX2_soundOf_15 : decode cX2_soundOf 15 = .ok (.goto 4, 3) := by decide +kernel
theorem dX2_soundOf_18 : decode cX2_soundOf 18 = .ok (.iload_n 0, 1) := by decide +kernel
theorem dX2_soundOf_19 : decode cX2_soundOf 19 = .ok (.ireturn, 1) := by decide +kernel
theorem dX3_init_0 : decode cX3_init 0 = .ok (.aload_n 0, 1) := by decide +kernel
theorem dX3_init_1 : decode cX3_init 1 = .ok (.invokespecial 3, 3) := by decide +kernel
theorem dX3_init_4 : decode cX3_init 4 = .ok (.aload_n 0, 1) := by decide +kernel
theorem dX3_init_5 : decode cX3_init 5 = .ok (.bipush 8, 2) := by decide +kernel
theorem dX3_init_7 : decode cX3_init 7 = .ok (.anewarray 9, 3) := by decide +kernel
theorem dX3_init_10 : decode cX3_init 10 = .ok (.putfield 11, 3) := by decide +kernel
theorem dX3_init_13 : decode cX3_init 13 = .ok (.aload_n 0, 1) := by decide +kernel
theorem dX3_init_14 : decode cX3_init 14 = .ok (.iconst 4, 1) := by decide +kernel
theorem dX3_init_15 : decode cX3_init 15 = .ok (.newarray .int, 2) := by decide +kernel
theorem dX3_init_17 : decode cX3_init 17 = .ok (.putfield 17, 3) := by decide +kernel
theorem dX3_init_20 : decode cX3_init 20 = .ok (.return_, 1) := by decide +kernel
theorem dX3_size_0 : decode cX3_size 0 = .ok (.aload_n 0, 1) := by decide +kernel
theorem dX3_size_1 : decode cX3_size 1 = .ok (.getfield 21, 3) := by decide +kernel
theorem dX3_size_4 : decode cX3_size 4 = .ok (.ireturn, 1) := by decide +kernel
theorem dX3_isFull_0 : decode cX3_isFull 0 = .ok (.aload_n 0, 1) := by decide +kernel
theorem dX3_isFull_1 : decode cX3_isFull 1 = .ok (.getfield 21, 3) := by decide +kernel
theorem dX3_isFull_4 : decode cX3_isFull 4 = .ok (.bipush 8, 2) := by decide +kernel
theorem dX3_isFull_6 : decode cX3_isFull 6 = .ok (.if_icmp .lt 7, 3) := by decide +kernel
theorem dX3_isFull_9 : decode cX3_isFull 9 = .ok (.iconst 1, 1) := by decide +kernel
theorem dX3_isFull_10 : decode cX3_isFull 10 = .ok (.goto 4, 3) := by decide +kernel
theorem dX3_isFull_13 : decode cX3_isFull 13 = .ok (.iconst 0, 1) := by decide +kernel
theorem dX3_isFull_14 : decode cX3_isFull 14 = .ok (.ireturn, 1) := by decide +kernel
theorem dX3_isDraftEmpty_0 : decode cX3_isDraftEmpty 0 = .ok (.aload_n 0, 1) := by decide +kernel
theorem dX3_isDraftEmpty_1 : decode cX3_isDraftEmpty 1 = .ok (.getfield 25, 3) := by decide +kernel
theorem dX3_isDraftEmpty_4 : decode cX3_isDraftEmpty 4 = .ok (.ifCond .ne 7, 3) := by decide +kernel
theorem dX3_isDraftEmpty_7 : decode cX3_isDraftEmpty 7 = .ok (.iconst 1, 1) := by decide +kernel
theorem dX3_isDraftEmpty_8 : decode cX3_isDraftEmpty 8 = .ok (.goto 4, 3) := by decide +kernel
theorem dX3_isDraftEmpty_11 : decode cX3_isDraftEmpty 11 = .ok (.iconst 0, 1) := by decide +kernel
theorem dX3_isDraftEmpty_12 : decode cX3_isDraftEmpty 12 = .ok (.ireturn, 1) := by decide +kernel
theorem dX3_isDraftFull_0 : decode cX3_isDraftFull 0 = .ok (.aload_n 0, 1) := by decide +kernel
theorem dX3_isDraftFull_1 : decode cX3_isDraftFull 1 = .ok (.getfield 25, 3) := by decide +kernel
theorem dX3_isDraftFull_4 : decode cX3_isDraftFull 4 = .ok (.iconst 4, 1) := by decide +kernel
theorem dX3_isDraftFull_5 : decode cX3_isDraftFull 5 = .ok (.if_icmp .lt 7, 3) := by decide +kernel
theorem dX3_isDraftFull_8 : decode cX3_isDraftFull 8 = .ok (.iconst 1, 1) := by decide +kernel
theorem dX3_isDraftFull_9 : decode cX3_isDraftFull 9 = .ok (.goto 4, 3) := by decide +kernel
theorem dX3_isDraftFull_12 : decode cX3_isDraftFull 12 = .ok (.iconst 0, 1) := by decide +kernel
theorem dX3_isDraftFull_13 : decode cX3_isDraftFull 13 = .ok (.ireturn, 1) := by decide +kernel
theorem dX3_addToDraft_0 : decode cX3_addToDraft 0 = .ok (.aload_n 0, 1) := by decide +kernel
theorem dX3_addToDraft_1 : decode cX3_addToDraft 1 = .ok (.getfield 17, 3) := by decide +kernel
theorem dX3_addToDraft_4 : decode cX3_addToDraft 4 = .ok (.aload_n 0, 1) := by decide +kernel
theorem dX3_addToDraft_5 : decode cX3_addToDraft 5 = .ok (.getfield 25, 3) := by decide +kernel
theorem dX3_addToDraft_8 : decode cX3_addToDraft 8 = .ok (.iload_n 1, 1) := by decide +kernel
theorem dX3_addToDraft_9 : decode cX3_addToDraft 9 = .ok (.iastore, 1) := by decide +kernel
theorem dX3_addToDraft_10 : decode cX3_addToDraft 10 = .ok (.aload_n 0, 1) := by decide +kernel
theorem dX3_addToDraft_11 : decode cX3_addToDraft 11 = .ok (.dup, 1) := by decide +kernel
theorem dX3_addToDraft_12 : decode cX3_addToDraft 12 = .ok (.getfield 25, 3) := by decide +kernel
theorem dX3_addToDraft_15 : decode cX3_addToDraft 15 = .ok (.iconst 1, 1) := by decide +kernel
theorem dX3_addToDraft_16 : decode cX3_addToDraft 16 = .ok (.iadd, 1) := by decide +kernel
theorem dX3_addToDraft_17 : decode cX3_addToDraft 17 = .ok (.putfield 25, 3) := by decide +kernel
theorem dX3_addToDraft_20 : decode cX3_addToDraft 20 = .ok (.aload_n 0, 1) := by decide +kernel
theorem dX3_addToDraft_21 : decode cX3_addToDraft 21 = .ok (.getfield 25, 3) := by decide +kernel
theorem dX3_addToDraft_24 : decode cX3_addToDraft 24 = .ok (.ireturn, 1) := by decide +kernel
set_option maxRecDepth 20000 in
theorem ggX3_enterDraft_J7_copyOf_59c91 : GoodIn wsX3_enterDraft wsJ7_copyOf_59c91 := goodIn_r _ [11, 12, 13, 14, 15, 16, 17, 18, 19, 20, 21, 22, 23, 24, 25, 26] (by decide +kernel) (by decide +kernel)
set_option maxRecDepth 20000 in
theorem gX3_enterDraft_J7_copyOf_59c91 : GoodIn wsX3_enterDraft (va_wsS RX3 28 yJ7_copyOf_59c91 wsJ7_copyOf_59c91) := goodIn_app (goodIn_of _ (by decide +kernel)) ggX3_enterDraft_J7_copyOf_59c91
set_option maxRecDepth 20000 in
theorem ggX3_enterDraft_X2_init : GoodIn wsX3_enterDraft wsX2_init := goodIn_r _ [29, 30, 31, 32, 33, 38] (by decide +kernel) (by decide +kernel)
set_option maxRecDepth 20000 in
theorem gX3_enterDraft_X2_init : GoodIn wsX3_enterDraft (wsX2_init) := ggX3_enterDraft_X2_init
theorem dX3_enterDraft_0 : decode cX3_enterDraft 0 = .ok (.aload_n 0, 1) := by decide +kernel
theorem dX3_enterDraft_1 : decode cX3_enterDraft 1 = .ok (.getfield 11, 3) := by decide +kernel
theorem dX3_enterDraft_4 : decode cX3_enterDraft 4 = .ok (.aload_n 0, 1) := by decide +kernel
theorem dX3_enterDraft_5 : decode cX3_enterDraft 5 = .ok (.getfield 21, 3) := by decide +kernel
theorem dX3_enterDraft_8 : decode cX3_enterDraft 8 = .ok (.new 9, 3) := by decide +kernel
theorem dX3_enterDraft_11 : decode cX3_enterDraft 11 = .ok (.dup, 1) := by decide +kernel
theorem dX3_enterDraft_12 : decode cX3_enterDraft 12 = .ok (.aload_n 0, 1) := by decide +kernel
theorem dX3_enterDraft_13 : decode cX3_enterDraft 13 = .ok (.getfield 17, 3) := by decide +kernel
theorem dX3_enterDraft_16 : decode cX3_enterDraft 16 = .ok (.aload_n 0, 1) := by decide +kernel
theorem dX3_enterDraft_17 : decode cX3_enterDraft 17 = .ok (.getfield 25, 3) := by decide +kernel
theorem dX3_enterDraft_20 : decode cX3_enterDraft 20 = .ok (.invokestatic 28, 3) := by decide +kernel
theorem dX3_enterDraft_23 : decode cX3_enterDraft 23 = .ok (.invokespecial 34, 3) := by decide +kernel
theorem dX3_enterDraft_26 : decode cX3_enterDraft 26 = .ok (.aastore, 1) := by decide +kernel
theorem dX3_enterDraft_27 : decode cX3_enterDraft 27 = .ok (.aload_n 0, 1) := by decide +kernel
theorem dX3_enterDraft_28 : decode cX3_enterDraft 28 = .ok (.iconst 0, 1) := by decide +kernel
theorem dX3_enterDraft_29 : decode cX3_enterDraft 29 = .ok (.putfield 25, 3) := by decide +kernel
theorem dX3_enterDraft_32 : decode cX3_enterDraft 32 = .ok (.aload_n 0, 1) := by decide +kernel
theorem dX3_enterDraft_33 : decode cX3_enterDraft 33 = .ok (.dup, 1) := by decide +kernel
theorem dX3_enterDraft_34 : decode cX3_enterDraft 34 = .ok (.getfield 21, 3) := by decide +kernel
theorem dX3_enterDraft_37 : decode cX3_enterDraft 37 = .ok (.iconst 1, 1) := by decide +kernel
theorem dX3_enterDraft_38 : decode cX3_enterDraft 38 = .ok (.iadd, 1) := by decide +kernel
theorem dX3_enterDraft_39 : decode cX3_enterDraft 39 = .ok (.putfield 21, 3) := by decide +kernel
theorem dX3_enterDraft_42 : decode cX3_enterDraft 42 = .ok (.aload_n 0, 1) := by decide +kernel
theorem dX3_enterDraft_43 : decode cX3_enterDraft 43 = .ok (.getfield 21, 3) := by decide +kernel
theorem dX3_enterDraft_46 : decode cX3_enterDraft 46 = .ok (.iconst 1, 1) := by decide +kernel
theorem dX3_enterDraft_47 : decode cX3_enterDraft 47 = .ok (.isub, 1) := by decide +kernel
theorem dX3_enterDraft_48 : decode cX3_enterDraft 48 = .ok (.ireturn, 1) := by decide +kernel
set_option maxRecDepth 20000 in
theorem ggX3_costOf_X2_costBetween : GoodIn wsX3_costOf wsX2_costBetween := goodIn_r _ [7, 8, 9, 10, 11, 12, 13, 14, 15, 6, 16, 17, 18, 19, 20, 21, 22, 27, 28] (by decide +kernel) (by decide +kernel)
set_option maxRecDepth 20000 in
theorem gX3_costOf_X2_costBetween : GoodIn wsX3_costOf (wsV RX3 38 RX2 yX2_costBetween wsX2_costBetween) := goodIn_app (goodIn_of _ (by decide +kernel)) ggX3_costOf_X2_costBetween
theorem dX3_costOf_0 : decode cX3_costOf 0 = .ok (.aload_n 0, 1) := by decide +kernel
theorem dX3_costOf_1 : decode cX3_costOf 1 = .ok (.getfield 11, 3) := by decide +kernel
theorem dX3_costOf_4 : decode cX3_costOf 4 = .ok (.iload_n 1, 1) := by decide +kernel
theorem dX3_costOf_5 : decode cX3_costOf 5 = .ok (.aaload, 1) := by decide +kernel
theorem dX3_costOf_6 : decode cX3_costOf 6 = .ok (.astore 6, 2) := by decide +kernel
theorem dX3_costOf_8 : decode cX3_costOf 8 = .ok (.aload 6, 2) := by decide +kernel
theorem dX3_costOf_10 : decode cX3_costOf 10 = .ok (.ifnonnull 8, 3) := by decide +kernel
theorem dX3_costOf_13 : decode cX3_costOf 13 = .ok (.ldc 37, 2) := by decide +kernel
theorem dX3_costOf_15 : decode cX3_costOf 15 = .ok (.goto 14, 3) := by decide +kernel
theorem dX3_costOf_18 : decode cX3_costOf 18 = .ok (.aload 6, 2) := by decide +kernel
theorem dX3_costOf_20 : decode cX3_costOf 20 = .ok (.aload_n 2, 1) := by decide +kernel
theorem dX3_costOf_21 : decode cX3_costOf 21 = .ok (.iload_n 3, 1) := by decide +kernel
theorem dX3_costOf_22 : decode cX3_costOf 22 = .ok (.iload 4, 2) := by decide +kernel
theorem dX3_costOf_24 : decode cX3_costOf 24 = .ok (.iload 5, 2) := by decide +kernel
theorem dX3_costOf_26 : decode cX3_costOf 26 = .ok (.invokevirtual 38, 3) := by decide +kernel
theorem dX3_costOf_29 : decode cX3_costOf 29 = .ok (.ireturn, 1) := by decide +kernel
set_option maxRecDepth 20000 in
theorem ggX3_gracesOf_X2_size : GoodIn wsX3_gracesOf wsX2_size := goodIn_r _ [6, 7, 12] (by decide +kernel) (by decide +kernel)
set_option maxRecDepth 20000 in
theorem gX3_gracesOf_X2_size : GoodIn wsX3_gracesOf (wsV RX3 42 RX2 yX2_size wsX2_size) := goodIn_app (goodIn_of _ (by decide +kernel)) ggX3_gracesOf_X2_size
theorem dX3_gracesOf_0 : decode cX3_gracesOf 0 = .ok (.iload_n 1, 1) := by decide +kernel
theorem dX3_gracesOf_1 : decode cX3_gracesOf 1 = .ok (.ifCond .ne 5, 3) := by decide +kernel
theorem dX3_gracesOf_4 : decode cX3_gracesOf 4 = .ok (.iconst 0, 1) := by decide +kernel
theorem dX3_gracesOf_5 : decode cX3_gracesOf 5 = .ok (.ireturn, 1) := by decide +kernel
theorem dX3_gracesOf_6 : decode cX3_gracesOf 6 = .ok (.aload_n 0, 1) := by decide +kernel
theorem dX3_gracesOf_7 : decode cX3_gracesOf 7 = .ok (.getfield 11, 3) := by decide +kernel
theorem dX3_gracesOf_10 : decode cX3_gracesOf 10 = .ok (.iload_n 1, 1) := by decide +kernel
theorem dX3_gracesOf_11 : decode cX3_gracesOf 11 = .ok (.iconst 1, 1) := by decide +kernel
theorem dX3_gracesOf_12 : decode cX3_gracesOf 12 = .ok (.isub, 1) := by decide +kernel
theorem dX3_gracesOf_13 : decode cX3_gracesOf 13 = .ok (.aaload, 1) := by decide +kernel
theorem dX3_gracesOf_14 : decode cX3_gracesOf 14 = .ok (.astore_n 2, 1) := by decide +kernel
theorem dX3_gracesOf_15 : decode cX3_gracesOf 15 = .ok (.aload_n 2, 1) := by decide +kernel
theorem dX3_gracesOf_16 : decode cX3_gracesOf 16 = .ok (.ifnonnull 7, 3) := by decide +kernel
theorem dX3_gracesOf_19 : decode cX3_gracesOf 19 = .ok (.iconst 0, 1) := by decide +kernel
theorem dX3_gracesOf_20 : decode cX3_gracesOf 20 = .ok (.goto 7, 3) := by decide +kernel
theorem dX3_gracesOf_23 : decode cX3_gracesOf 23 = .ok (.aload_n 2, 1) := by decide +kernel
theorem dX3_gracesOf_24 : decode cX3_gracesOf 24 = .ok (.invokevirtual 42, 3) := by decide +kernel
theorem dX3_gracesOf_27 : decode cX3_gracesOf 27 = .ok (.ireturn, 1) := by decide +kernel
set_option maxRecDepth 20000 in
theorem ggX3_weigh_X0_stepCost : GoodIn wsX3_weigh wsX0_stepCost := goodIn_r _ [6, 7, 29] (by decide +kernel) (by decide +kernel)
set_option maxRecDepth 20000 in
theorem gX3_weigh_X0_stepCost : GoodIn wsX3_weigh (wsV RX3 45 RX0 yX0_stepCost wsX0_stepCost) := goodIn_app (goodIn_of _ (by decide +kernel)) ggX3_weigh_X0_stepCost
set_option maxRecDepth 20000 in
theorem ggX3_weigh_X3_costOf : GoodIn wsX3_weigh wsX3_costOf := goodIn_r _ [12, 13, 1, 14, 15, 16, 17, 18, 19, 20, 21, 22, 23, 24, 25, 26, 27, 28, 3, 4, 5, 6, 7, 30, 31, 32, 33, 34, 29] (by decide +kernel) (by decide +kernel)
set_option maxRecDepth 20000 in
theorem gX3_weigh_X3_costOf : GoodIn wsX3_weigh (wsV RX3 51 RX3 yX3_costOf wsX3_costOf) := goodIn_app (goodIn_of _ (by decide +kernel)) ggX3_weigh_X3_costOf
theorem dX3_weigh_0 : decode cX3_weigh 0 = .ok (.aload 6, 2) := by decide +kernel
theorem dX3_weigh_2 : decode cX3_weigh 2 = .ok (.iconst 0, 1) := by decide +kernel
theorem dX3_weigh_3 : decode cX3_weigh 3 = .ok (.iload 5, 2) := by decide +kernel
theorem dX3_weigh_5 : decode cX3_weigh 5 = .ok (.ifCond .eq 8, 3) := by decide +kernel
theorem dX3_weigh_8 : decode cX3_weigh 8 = .ok (.ldc 37, 2) := by decide +kernel
theorem dX3_weigh_10 : decode cX3_weigh 10 = .ok (.goto 10, 3) := by decide +kernel
theorem dX3_weigh_13 : decode cX3_weigh 13 = .ok (.aload_n 1, 1) := by decide +kernel
theorem dX3_weigh_14 : decode cX3_weigh 14 = .ok (.iload_n 2, 1) := by decide +kernel
theorem dX3_weigh_15 : decode cX3_weigh 15 = .ok (.iload 4, 2) := by decide +kernel
theorem dX3_weigh_17 : decode cX3_weigh 17 = .ok (.invokevirtual 45, 3) := by decide +kernel
theorem dX3_weigh_20 : decode cX3_weigh 20 = .ok (.iastore, 1) := by decide +kernel
theorem dX3_weigh_21 : decode cX3_weigh 21 = .ok (.iconst 0, 1) := by decide +kernel
theorem dX3_weigh_22 : decode cX3_weigh 22 = .ok (.istore 7, 2) := by decide +kernel
theorem dX3_weigh_24 : decode cX3_weigh 24 = .ok (.iload 7, 2) := by decide +kernel
theorem dX3_weigh_26 : decode cX3_weigh 26 = .ok (.bipush 8, 2) := by decide +kernel
theorem dX3_weigh_28 : decode cX3_weigh 28 = .ok (.if_icmp .ge 27, 3) := by decide +kernel
theorem dX3_weigh_31 : decode cX3_weigh 31 = .ok (.aload 6, 2) := by decide +kernel
theorem dX3_weigh_33 : decode cX3_weigh 33 = .ok (.iload 7, 2) := by decide +kernel
theorem dX3_weigh_35 : decode cX3_weigh 35 = .ok (.iconst 1, 1) := by decide +kernel
theorem dX3_weigh_36 : decode cX3_weigh 36 = .ok (.iadd, 1) := by decide +kernel
theorem dX3_weigh_37 : decode cX3_weigh 37 = .ok (.aload_n 0, 1) := by decide +kernel
theorem dX3_weigh_38 : decode cX3_weigh 38 = .ok (.iload 7, 2) := by decide +kernel
theorem dX3_weigh_40 : decode cX3_weigh 40 = .ok (.aload_n 1, 1) := by decide +kernel
theorem dX3_weigh_41 : decode cX3_weigh 41 = .ok (.iload_n 2, 1) := by decide +kernel
theorem dX3_weigh_42 : decode cX3_weigh 42 = .ok (.iload_n 3, 1) := by decide +kernel
theorem dX3_weigh_43 : decode cX3_weigh 43 = .ok (.iload 4, 2) := by decide +kernel
theorem dX3_weigh_45 : decode cX3_weigh 45 = .ok (.invokevirtual 51, 3) := by decide +kernel
theorem dX3_weigh_48 : decode cX3_weigh 48 = .ok (.iastore, 1) := by decide +kernel
theorem dX3_weigh_49 : decode cX3_weigh 49 = .ok (.iinc 7 1, 3) := by decide +kernel
theorem dX3_weigh_52 : decode cX3_weigh 52 = .ok (.goto (-28), 3) := by decide +kernel
theorem dX3_weigh_55 : decode cX3_weigh 55 = .ok (.return_, 1) := by decide +kernel
set_option maxRecDepth 20000 in
theorem ggX4_init_X1_init : GoodIn wsX4_init wsX1_init := goodIn_r _ [15, 16, 2, 3, 5, 17, 24] (by decide +kernel) (by decide +kernel)
set_option maxRecDepth 20000 in
theorem gX4_init_X1_init : GoodIn wsX4_init (wsX1_init) := ggX4_init_X1_init
theorem dX4_init_0 : decode cX4_init 0 = .ok (.aload_n 0, 1) := by decide +kernel
theorem dX4_init_1 : decode cX4_init 1 = .ok (.invokespecial 3, 3) := by decide +kernel
theorem dX4_init_4 : decode cX4_init 4 = .ok (.aload_n 0, 1) := by decide +kernel
theorem dX4_init_5 : decode cX4_init 5 = .ok (.bipush 16, 2) := by decide +kernel
theorem dX4_init_7 : decode cX4_init 7 = .ok (.bipush 9, 2) := by decide +kernel
theorem dX4_init_9 : decode cX4_init 9 = .ok (.multianewarray 9 2, 4) := by decide +kernel
theorem dX4_init_13 : decode cX4_init 13 = .ok (.putfield 11, 3) := by decide +kernel
theorem dX4_init_16 : decode cX4_init 16 = .ok (.aload_n 0, 1) := by decide +kernel
theorem dX4_init_17 : decode cX4_init 17 = .ok (.new 16, 3) := by decide +kernel
theorem dX4_init_20 : decode cX4_init 20 = .ok (.dup, 1) := by decide +kernel
theorem dX4_init_21 : decode cX4_init 21 = .ok (.invokespecial 18, 3) := by decide +kernel
theorem dX4_init_24 : decode cX4_init 24 = .ok (.putfield 19, 3) := by decide +kernel
theorem dX4_init_27 : decode cX4_init 27 = .ok (.aload_n 0, 1) := by decide +kernel
theorem dX4_init_28 : decode cX4_init 28 = .ok (.iconst 4, 1) := by decide +kernel
theorem dX4_init_29 : decode cX4_init 29 = .ok (.newarray .int, 2) := by decide +kernel
theorem dX4_init_31 : decode cX4_init 31 = .ok (.putfield 23, 3) := by decide +kernel
theorem dX4_init_34 : decode cX4_init 34 = .ok (.aload_n 0, 1) := by decide +kernel
theorem dX4_init_35 : decode cX4_init 35 = .ok (.iconst 4, 1) := by decide +kernel
theorem dX4_init_36 : decode cX4_init 36 = .ok (.newarray .int, 2) := by decide +kernel
theorem dX4_init_38 : decode cX4_init 38 = .ok (.putfield 27, 3) := by decide +kernel
theorem dX4_init_41 : decode cX4_init 41 = .ok (.return_, 1) := by decide +kernel
theorem dX4_size_0 : decode cX4_size 0 = .ok (.aload_n 0, 1) := by decide +kernel
theorem dX4_size_1 : decode cX4_size 1 = .ok (.getfield 30, 3) := by decide +kernel
theorem dX4_size_4 : decode cX4_size 4 = .ok (.ireturn, 1) := by decide +kernel
theorem dX4_leastCost_0 : decode cX4_leastCost 0 = .ok (.aload_n 0, 1) := by decide +kernel
theorem dX4_leastCost_1 : decode cX4_leastCost 1 = .ok (.getfield 34, 3) := by decide +kernel
theorem dX4_leastCost_4 : decode cX4_leastCost 4 = .ok (.ireturn, 1) := by decide +kernel
theorem dX4_bestAt_0 : decode cX4_bestAt 0 = .ok (.aload_n 0, 1) := by decide +kernel
theorem dX4_bestAt_1 : decode cX4_bestAt 1 = .ok (.getfield 27, 3) := by decide +kernel
theorem dX4_bestAt_4 : decode cX4_bestAt 4 = .ok (.iload_n 1, 1) := by decide +kernel
theorem dX4_bestAt_5 : decode cX4_bestAt 5 = .ok (.iaload, 1) := by decide +kernel
theorem dX4_bestAt_6 : decode cX4_bestAt 6 = .ok (.ireturn, 1) := by decide +kernel
set_option maxRecDepth 20000 in
theorem ggX4_weighJoins_X5_size : GoodIn wsX4_weighJoins wsX5_size := goodIn_r _ [6, 7, 56, 57, 58, 59, 60] (by decide +kernel) (by decide +kernel)
set_option maxRecDepth 20000 in
theorem gX4_weighJoins_X5_size : GoodIn wsX4_weighJoins (wsV RX4 37 RX5 yX5_size wsX5_size) := goodIn_app (goodIn_of _ (by decide +kernel)) ggX4_weighJoins_X5_size
set_option maxRecDepth 20000 in
theorem ggX4_weighJoins_X5_pitchOf : GoodIn wsX4_weighJoins wsX5_pitchOf := goodIn_r _ [11, 12, 56, 57, 58, 59, 60] (by decide +kernel) (by decide +kernel)
set_option maxRecDepth 20000 in
theorem gX4_weighJoins_X5_pitchOf : GoodIn wsX4_weighJoins (wsV RX4 42 RX5 yX5_pitchOf wsX5_pitchOf) := goodIn_app (goodIn_of _ (by decide +kernel)) ggX4_weighJoins_X5_pitchOf
set_option maxRecDepth 20000 in
theorem ggX4_weighJoins_X5_lengthOf : GoodIn wsX4_weighJoins wsX5_lengthOf := goodIn_r _ [16, 17, 56, 57, 58, 59, 60] (by decide +kernel) (by decide +kernel)
set_option maxRecDepth 20000 in
theorem gX4_weighJoins_X5_lengthOf : GoodIn wsX4_weighJoins (wsV RX4 46 RX5 yX5_lengthOf wsX5_lengthOf) := goodIn_app (goodIn_of _ (by decide +kernel)) ggX4_weighJoins_X5_lengthOf
set_option maxRecDepth 20000 in
theorem ggX4_weighJoins_X3_weigh : GoodIn wsX4_weighJoins wsX3_weigh := goodIn_r _ [22, 23, 24, 25, 26, 27, 28, 29, 30, 31, 32, 21, 33, 34, 35, 36, 37, 38, 39, 40, 41, 42, 43, 44, 45, 46, 47, 48, 49, 61, 62, 63, 64, 65, 66] (by decide +kernel) (by decide +kernel)
set_option maxRecDepth 20000 in
theorem gX4_weighJoins_X3_weigh : GoodIn wsX4_weighJoins (wsV RX4 49 RX3 yX3_weigh wsX3_weigh) := goodIn_app (goodIn_of _ (by decide +kernel)) ggX4_weighJoins_X3_weigh
theorem dX4_weighJoins_0 : decode cX4_weighJoins 0 = .ok (.iconst 0, 1) := by decide +kernel
theorem dX4_weighJoins_1 : decode cX4_weighJoins 1 = .ok (.istore 4, 2) := by decide +kernel
theorem dX4_weighJoins_3 : decode cX4_weighJoins 3 = .ok (.iload 4, 2) := by decide +kernel
theorem dX4_weighJoins_5 : decode cX4_weighJoins 5 = .ok (.iconst 4, 1) := by decide +kernel
theorem dX4_weighJoins_6 : decode cX4_weighJoins 6 = .ok (.if_icmp .ge 110, 3) := by decide +kernel
theorem dX4_weighJoins_9 : decode cX4_weighJoins 9 = .ok (.aload_n 1, 1) := by decide +kernel
theorem dX4_weighJoins_10 : decode cX4_weighJoins 10 = .ok (.iload 4, 2) := by decide +kernel
theorem dX4_weighJoins_12 : decode cX4_weighJoins 12 = .ok (.aaload, 1) := by decide +kernel
theorem dX4_weighJoins_13 : decode cX4_weighJoins 13 = .ok (.invokevirtual 37, 3) := by decide +kernel
theorem dX4_weighJoins_16 : decode cX4_weighJoins 16 = .ok (.iconst 1, 1) := by decide +kernel
theorem dX4_weighJoins_17 : decode cX4_weighJoins 17 = .ok (.isub, 1) := by decide +kernel
theorem dX4_weighJoins_18 : decode cX4_weighJoins 18 = .ok (.istore 5, 2) := by decide +kernel
theorem dX4_weighJoins_20 : decode cX4_weighJoins 20 = .ok (.iconst 0, 1) := by decide +kernel
theorem dX4_weighJoins_21 : decode cX4_weighJoins 21 = .ok (.istore 6, 2) := by decide +kernel
theorem dX4_weighJoins_23 : decode cX4_weighJoins 23 = .ok (.iload 6, 2) := by decide +kernel
theorem dX4_weighJoins_25 : decode cX4_weighJoins 25 = .ok (.iconst 4, 1) := by decide +kernel
theorem dX4_weighJoins_26 : decode cX4_weighJoins 26 = .ok (.if_icmp .ge 84, 3) := by decide +kernel
theorem dX4_weighJoins_29 : decode cX4_weighJoins 29 = .ok (.iload 5, 2) := by decide +kernel
theorem dX4_weighJoins_31 : decode cX4_weighJoins 31 = .ok (.ifCond .lt 73, 3) := by decide +kernel
theorem dX4_weighJoins_34 : decode cX4_weighJoins 34 = .ok (.aload_n 1, 1) := by decide +kernel
theorem dX4_weighJoins_35 : decode cX4_weighJoins 35 = .ok (.iload 6, 2) := by decide +kernel
theorem dX4_weighJoins_37 : decode cX4_weighJoins 37 = .ok (.aaload, 1) := by decide +kernel
theorem dX4_weighJoins_38 : decode cX4_weighJoins 38 = .ok (.invokevirtual 37, 3) := by decide +kernel
theorem dX4_weighJoins_41 : decode cX4_weighJoins 41 = .ok (.ifCond .le 63, 3) := by decide +kernel
theorem dX4_weighJoins_44 : decode cX4_weighJoins 44 = .ok (.aload_n 1, 1) := by decide +kernel
theorem dX4_weighJoins_45 : decode cX4_weighJoins 45 = .ok (.iload 4, 2) := by decide +kernel
theorem dX4_weighJoins_47 : decode cX4_weighJoins 47 = .ok (.aaload, 1) := by decide +kernel
theorem dX4_weighJoins_48 : decode cX4_weighJoins 48 = .ok (.iload 5, 2) := by decide +kernel
theorem dX4_weighJoins_50 : decode cX4_weighJoins 50 = .ok (.invokevirtual 42, 3) := by decide +kernel
theorem dX4_weighJoins_53 : decode cX4_weighJoins 53 = .ok (.istore 7, 2) := by decide +kernel
theorem dX4_weighJoins_55 : decode cX4_weighJoins 55 = .ok (.aload_n 1, 1) := by decide +kernel
theorem dX4_weighJoins_56 : decode cX4_weighJoins 56 = .ok (.iload 4, 2) := by decide +kernel
theorem dX4_weighJoins_58 : decode cX4_weighJoins 58 = .ok (.aaload, 1) := by decide +kernel
theorem dX4_weighJoins_59 : decode cX4_weighJoins 59 = .ok (.iload 5, 2) := by decide +kernel
theorem dX4_weighJoins_61 : decode cX4_weighJoins 61 = .ok (.invokevirtual 46, 3) := by decide +kernel
theorem dX4_weighJoins_64 : decode cX4_weighJoins 64 = .ok (.istore 8, 2) := by decide +kernel
theorem dX4_weighJoins_66 : decode cX4_weighJoins 66 = .ok (.aload_n 1, 1) := by decide +kernel
theorem dX4_weighJoins_67 : decode cX4_weighJoins 67 = .ok (.iload 6, 2) := by decide +kernel
theorem dX4_weighJoins_69 : decode cX4_weighJoins 69 = .ok (.aaload, 1) := by decide +kernel
theorem dX4_weighJoins_70 : decode cX4_weighJoins 70 = .ok (.iconst 0, 1) := by decide +kernel
theorem dX4_weighJoins_71 : decode cX4_weighJoins 71 = .ok (.invokevirtual 42, 3) := by decide +kernel
theorem dX4_weighJoins_74 : decode cX4_weighJoins 74 = .ok (.istore 9, 2) := by decide +kernel
theorem dX4_weighJoins_76 : decode cX4_weighJoins 76 = .ok (.aload_n 0, 1) := by decide +kernel
theorem dX4_weighJoins_77 : decode cX4_weighJoins 77 = .ok (.getfield 11, 3) := by decide +kernel
theorem dX4_weighJoins_80 : decode cX4_weighJoins 80 = .ok (.iload 4, 2) := by decide +kernel
theorem dX4_weighJoins_82 : decode cX4_weighJoins 82 = .ok (.iconst 4, 1) := by decide +kernel
theorem dX4_weighJoins_83 : decode cX4_weighJoins 83 = .ok (.imul, 1) := by decide +kernel
theorem dX4_weighJoins_84 : decode cX4_weighJoins 84 = .ok (.iload 6, 2) := by decide +kernel
theorem dX4_weighJoins_86 : decode cX4_weighJoins 86 = .ok (.iadd, 1) := by decide +kernel
theorem dX4_weighJoins_87 : decode cX4_weighJoins 87 = .ok (.aaload, 1) := by decide +kernel
theorem dX4_weighJoins_88 : decode cX4_weighJoins 88 = .ok (.astore 10, 2) := by decide +kernel
theorem dX4_weighJoins_90 : decode cX4_weighJoins 90 = .ok (.aload_n 3, 1) := by decide +kernel
theorem dX4_weighJoins_91 : decode cX4_weighJoins 91 = .ok (.aload_n 2, 1) := by decide +kernel
theorem dX4_weighJoins_92 : decode cX4_weighJoins 92 = .ok (.iload 7, 2) := by decide +kernel
theorem dX4_weighJoins_94 : decode cX4_weighJoins 94 = .ok (.iload 8, 2) := by decide +kernel
theorem dX4_weighJoins_96 : decode cX4_weighJoins 96 = .ok (.iload 9, 2) := by decide +kernel
theorem dX4_weighJoins_98 : decode cX4_weighJoins 98 = .ok (.iconst 0, 1) := by decide +kernel
theorem dX4_weighJoins_99 : decode cX4_weighJoins 99 = .ok (.aload 10, 2) := by decide +kernel
theorem dX4_weighJoins_101 : decode cX4_weighJoins 101 = .ok (.invokevirtual 49, 3) := by decide +kernel
theorem dX4_weighJoins_104 : decode cX4_weighJoins 104 = .ok (.iinc 6 1, 3) := by decide +kernel
theorem dX4_weighJoins_107 : decode cX4_weighJoins 107 = .ok (.goto (-84), 3) := by decide +kernel
theorem dX4_weighJoins_110 : decode cX4_weighJoins 110 = .ok (.iinc 4 1, 3) := by decide +kernel
theorem dX4_weighJoins_113 : decode cX4_weighJoins 113 = .ok (.goto (-110), 3) := by decide +kernel
theorem dX4_weighJoins_116 : decode cX4_weighJoins 116 = .ok (.return_, 1) := by decide +kernel
set_option maxRecDepth 20000 in
theorem ggX4_tryAllOrders_X4_startOrder : GoodIn wsX4_tryAllOrders wsX4_startOrder := goodIn_r _ [7, 8, 9, 10, 11, 12, 13, 14, 15, 75, 76, 77, 78, 79, 80, 81, 82, 83, 84, 85] (by decide +kernel) (by decide +kernel)
set_option maxRecDepth 20000 in
theorem gX4_tryAllOrders_X4_startOrder : GoodIn wsX4_tryAllOrders (wsV RX4 55 RX4 yX4_startOrder wsX4_startOrder) := goodIn_app (goodIn_of _ (by decide +kernel)) ggX4_tryAllOrders_X4_startOrder
set_option maxRecDepth 20000 in
theorem ggX4_tryAllOrders_X4_costOfOrder : GoodIn wsX4_tryAllOrders wsX4_costOfOrder := goodIn_r _ [19, 20, 8, 9, 21, 22, 23, 24, 25, 26, 27, 28, 29, 30, 31, 32, 33, 34, 35, 36, 37, 38, 39, 40, 41, 42, 43, 44, 45, 46, 47, 13, 48, 15, 49, 50, 51, 52, 53, 54, 55, 56, 57, 75, 76, 77, 78, 79, 80, 86, 81, 82, 83, 84, 85] (by decide +kernel) (by decide +kernel)
set_option maxRecDepth 20000 in
theorem gX4_tryAllOrders_X4_costOfOrder : GoodIn wsX4_tryAllOrders (wsV RX4 60 RX4 yX4_costOfOrder wsX4_costOfOrder) := goodIn_app (goodIn_of _ (by decide +kernel)) ggX4_tryAllOrders_X4_costOfOrder
set_option maxRecDepth 20000 in
theorem ggX4_tryAllOrders_X4_keepIfLess : GoodIn wsX4_tryAllOrders wsX4_keepIfLess := goodIn_r _ [61, 2, 9, 62, 8, 63, 64, 65, 66, 75, 76, 77, 78, 79, 80] (by decide +kernel) (by decide +kernel)
set_option maxRecDepth 20000 in
theorem gX4_tryAllOrders_X4_keepIfLess : GoodIn wsX4_tryAllOrders (wsV RX4 64 RX4 yX4_keepIfLess wsX4_keepIfLess) := goodIn_app (goodIn_of _ (by decide +kernel)) ggX4_tryAllOrders_X4_keepIfLess
set_option maxRecDepth 20000 in
theorem ggX4_tryAllOrders_X4_goToNextOrder : GoodIn wsX4_tryAllOrders wsX4_goToNextOrder := goodIn_r _ [70, 8, 9, 71, 72, 73, 6, 74, 75, 76, 77, 78, 79, 80] (by decide +kernel) (by decide +kernel)
set_option maxRecDepth 20000 in
theorem gX4_tryAllOrders_X4_goToNextOrder : GoodIn wsX4_tryAllOrders (wsV RX4 68 RX4 yX4_goToNextOrder wsX4_goToNextOrder) := goodIn_app (goodIn_of _ (by decide +kernel)) ggX4_tryAllOrders_X4_goToNextOrder
theorem dX4_tryAllOrders_0 : decode cX4_tryAllOrders 0 = .ok (.aload_n 0, 1) := by decide +kernel
theorem dX4_tryAllOrders_1 : decode cX4_tryAllOrders 1 = .ok (.aload_n 1, 1) := by decide +kernel
theorem dX4_tryAllOrders_2 : decode cX4_tryAllOrders 2 = .ok (.invokevirtual 55, 3) := by decide +kernel
theorem dX4_tryAllOrders_5 : decode cX4_tryAllOrders 5 = .ok (.aload_n 0, 1) := by decide +kernel
theorem dX4_tryAllOrders_6 : decode cX4_tryAllOrders 6 = .ok (.ldc 59, 2) := by decide +kernel
theorem dX4_tryAllOrders_8 : decode cX4_tryAllOrders 8 = .ok (.putfield 34, 3) := by decide +kernel
theorem dX4_tryAllOrders_11 : decode cX4_tryAllOrders 11 = .ok (.iconst 0, 1) := by decide +kernel
theorem dX4_tryAllOrders_12 : decode cX4_tryAllOrders 12 = .ok (.istore_n 2, 1) := by decide +kernel
theorem dX4_tryAllOrders_13 : decode cX4_tryAllOrders 13 = .ok (.iconst 1, 1) := by decide +kernel
theorem dX4_tryAllOrders_14 : decode cX4_tryAllOrders 14 = .ok (.istore_n 3, 1) := by decide +kernel
theorem dX4_tryAllOrders_15 : decode cX4_tryAllOrders 15 = .ok (.iconst 0, 1) := by decide +kernel
theorem dX4_tryAllOrders_16 : decode cX4_tryAllOrders 16 = .ok (.istore 4, 2) := by decide +kernel
theorem dX4_tryAllOrders_18 : decode cX4_tryAllOrders 18 = .ok (.iload_n 3, 1) := by decide +kernel
theorem dX4_tryAllOrders_19 : decode cX4_tryAllOrders 19 = .ok (.ifCond .eq 44, 3) := by decide +kernel
theorem dX4_tryAllOrders_22 : decode cX4_tryAllOrders 22 = .ok (.iload 4, 2) := by decide +kernel
theorem dX4_tryAllOrders_24 : decode cX4_tryAllOrders 24 = .ok (.bipush 24, 2) := by decide +kernel
theorem dX4_tryAllOrders_26 : decode cX4_tryAllOrders 26 = .ok (.if_icmp .ge 37, 3) := by decide +kernel
theorem dX4_tryAllOrders_29 : decode cX4_tryAllOrders 29 = .ok (.aload_n 0, 1) := by decide +kernel
theorem dX4_tryAllOrders_30 : decode cX4_tryAllOrders 30 = .ok (.aload_n 1, 1) := by decide +kernel
theorem dX4_tryAllOrders_31 : decode cX4_tryAllOrders 31 = .ok (.invokevirtual 60, 3) := by decide +kernel
theorem dX4_tryAllOrders_34 : decode cX4_tryAllOrders 34 = .ok (.istore 5, 2) := by decide +kernel
theorem dX4_tryAllOrders_36 : decode cX4_tryAllOrders 36 = .ok (.iload 5, 2) := by decide +kernel
theorem dX4_tryAllOrders_38 : decode cX4_tryAllOrders 38 = .ok (.ldc 59, 2) := by decide +kernel
theorem dX4_tryAllOrders_40 : decode cX4_tryAllOrders 40 = .ok (.if_icmp .ge 12, 3) := by decide +kernel
theorem dX4_tryAllOrders_43 : decode cX4_tryAllOrders 43 = .ok (.iinc 2 1, 3) := by decide +kernel
theorem dX4_tryAllOrders_46 : decode cX4_tryAllOrders 46 = .ok (.aload_n 0, 1) := by decide +kernel
theorem dX4_tryAllOrders_47 : decode cX4_tryAllOrders 47 = .ok (.iload 5, 2) := by decide +kernel
theorem dX4_tryAllOrders_49 : decode cX4_tryAllOrders 49 = .ok (.invokevirtual 64, 3) := by decide +kernel
theorem dX4_tryAllOrders_52 : decode cX4_tryAllOrders 52 = .ok (.aload_n 0, 1) := by decide +kernel
theorem dX4_tryAllOrders_53 : decode cX4_tryAllOrders 53 = .ok (.invokevirtual 68, 3) := by decide +kernel
theorem dX4_tryAllOrders_56 : decode cX4_tryAllOrders 56 = .ok (.istore_n 3, 1) := by decide +kernel
theorem dX4_tryAllOrders_57 : decode cX4_tryAllOrders 57 = .ok (.iinc 4 1, 3) := by decide +kernel
theorem dX4_tryAllOrders_60 : decode cX4_tryAllOrders 60 = .ok (.goto (-42), 3) := by decide +kernel
theorem dX4_tryAllOrders_63 : decode cX4_tryAllOrders 63 = .ok (.iload_n 2, 1) := by decide +kernel
theorem dX4_tryAllOrders_64 : decode cX4_tryAllOrders 64 = .ok (.ireturn, 1) := by decide +kernel
set_option maxRecDepth 20000 in
theorem ggX4_startOrder_X5_size : GoodIn wsX4_startOrder wsX5_size := goodIn_r _ [7, 8, 15, 16, 17, 18, 19] (by decide +kernel) (by decide +kernel)
set_option maxRecDepth 20000 in
theorem gX4_startOrder_X5_size : GoodIn wsX4_startOrder (wsV RX4 37 RX5 yX5_size wsX5_size) := goodIn_app (goodIn_of _ (by decide +kernel)) ggX4_startOrder_X5_size
theorem dX4_startOrder_0 : decode cX4_startOrder 0 = .ok (.aload_n 0, 1) := by decide +kernel
theorem dX4_startOrder_1 : decode cX4_startOrder 1 = .ok (.iconst 0, 1) := by decide +kernel
theorem dX4_startOrder_2 : decode cX4_startOrder 2 = .ok (.putfield 30, 3) := by decide +kernel
theorem dX4_startOrder_5 : decode cX4_startOrder 5 = .ok (.iconst 0, 1) := by decide +kernel
theorem dX4_startOrder_6 : decode cX4_startOrder 6 = .ok (.istore_n 2, 1) := by decide +kernel
theorem dX4_startOrder_7 : decode cX4_startOrder 7 = .ok (.iload_n 2, 1) := by decide +kernel
theorem dX4_startOrder_8 : decode cX4_startOrder 8 = .ok (.iconst 4, 1) := by decide +kernel
theorem dX4_startOrder_9 : decode cX4_startOrder 9 = .ok (.if_icmp .ge 38, 3) := by decide +kernel
theorem dX4_startOrder_12 : decode cX4_startOrder 12 = .ok (.aload_n 1, 1) := by decide +kernel
theorem dX4_startOrder_13 : decode cX4_startOrder 13 = .ok (.iload_n 2, 1) := by decide +kernel
theorem dX4_startOrder_14 : decode cX4_startOrder 14 = .ok (.aaload, 1) := by decide +kernel
theorem dX4_startOrder_15 : decode cX4_startOrder 15 = .ok (.invokevirtual 37, 3) := by decide +kernel
theorem dX4_startOrder_18 : decode cX4_startOrder 18 = .ok (.ifCond .le 23, 3) := by decide +kernel
theorem dX4_startOrder_21 : decode cX4_startOrder 21 = .ok (.aload_n 0, 1) := by decide +kernel
theorem dX4_startOrder_22 : decode cX4_startOrder 22 = .ok (.getfield 23, 3) := by decide +kernel
theorem dX4_startOrder_25 : decode cX4_startOrder 25 = .ok (.aload_n 0, 1) := by decide +kernel
theorem dX4_startOrder_26 : decode cX4_startOrder 26 = .ok (.getfield 30, 3) := by decide +kernel
theorem dX4_startOrder_29 : decode cX4_startOrder 29 = .ok (.iload_n 2, 1) := by decide +kernel
theorem dX4_startOrder_30 : decode cX4_startOrder 30 = .ok (.iastore, 1) := by decide +kernel
theorem dX4_startOrder_31 : decode cX4_startOrder 31 = .ok (.aload_n 0, 1) := by decide +kernel
theorem dX4_startOrder_32 : decode cX4_startOrder 32 = .ok (.dup, 1) := by decide +kernel
theorem dX4_startOrder_33 : decode cX4_startOrder 33 = .ok (.getfield 30, 3) := by decide +kernel
theorem dX4_startOrder_36 : decode cX4_startOrder 36 = .ok (.iconst 1, 1) := by decide +kernel
theorem dX4_startOrder_37 : decode cX4_startOrder 37 = .ok (.iadd, 1) := by decide +kernel
theorem dX4_startOrder_38 : decode cX4_startOrder 38 = .ok (.putfield 30, 3) := by decide +kernel
theorem dX4_startOrder_41 : decode cX4_startOrder 41 = .ok (.iinc 2 1, 3) := by decide +kernel
theorem dX4_startOrder_44 : decode cX4_startOrder 44 = .ok (.goto (-37), 3) := by decide +kernel
theorem dX4_startOrder_47 : decode cX4_startOrder 47 = .ok (.return_, 1) := by decide +kernel
theorem dX4_keepIfLess_0 : decode cX4_keepIfLess 0 = .ok (.iload_n 1, 1) := by decide +kernel
theorem dX4_keepIfLess_1 : decode cX4_keepIfLess 1 = .ok (.aload_n 0, 1) := by decide +kernel
theorem dX4_keepIfLess_2 : decode cX4_keepIfLess 2 = .ok (.getfield 34, 3) := by decide +kernel
theorem dX4_keepIfLess_5 : decode cX4_keepIfLess 5 = .ok (.if_icmp .ge 25, 3) := by decide +kernel
theorem dX4_keepIfLess_8 : decode cX4_keepIfLess 8 = .ok (.aload_n 0, 1) := by decide +kernel
theorem dX4_keepIfLess_9 : decode cX4_keepIfLess 9 = .ok (.iload_n 1, 1) := by decide +kernel
theorem dX4_keepIfLess_10 : decode cX4_keepIfLess 10 = .ok (.putfield 34, 3) := by decide +kernel
theorem dX4_keepIfLess_13 : decode cX4_keepIfLess 13 = .ok (.aload_n 0, 1) := by decide +kernel
theorem dX4_keepIfLess_14 : decode cX4_keepIfLess 14 = .ok (.getfield 23, 3) := by decide +kernel
theorem dX4_keepIfLess_17 : decode cX4_keepIfLess 17 = .ok (.iconst 0, 1) := by decide +kernel
theorem dX4_keepIfLess_18 : decode cX4_keepIfLess 18 = .ok (.aload_n 0, 1) := by decide +kernel
theorem dX4_keepIfLess_19 : decode cX4_keepIfLess 19 = .ok (.getfield 27, 3) := by decide +kernel
theorem dX4_keepIfLess_22 : decode cX4_keepIfLess 22 = .ok (.iconst 0, 1) := by decide +kernel
theorem dX4_keepIfLess_23 : decode cX4_keepIfLess 23 = .ok (.aload_n 0, 1) := by decide +kernel
theorem dX4_keepIfLess_24 : decode cX4_keepIfLess 24 = .ok (.getfield 30, 3) := by decide +kernel
theorem dX4_keepIfLess_27 : decode cX4_keepIfLess 27 = .ok (.invokestatic 72, 3) := by decide +kernel
theorem dX4_keepIfLess_30 : decode cX4_keepIfLess 30 = .ok (.return_, 1) := by decide +kernel
set_option maxRecDepth 20000 in
theorem ggX4_costOfOrder_X1_startRow : GoodIn wsX4_costOfOrder wsX1_startRow := goodIn_r _ [9, 10, 11, 12, 13, 14, 15, 49] (by decide +kernel) (by decide +kernel)
set_option maxRecDepth 20000 in
theorem gX4_costOfOrder_X1_startRow : GoodIn wsX4_costOfOrder (wsV RX4 78 RX1 yX1_startRow wsX1_startRow) := goodIn_app (goodIn_of _ (by decide +kernel)) ggX4_costOfOrder_X1_startRow
set_option maxRecDepth 20000 in
theorem ggX4_costOfOrder_X1_growFrom : GoodIn wsX4_costOfOrder wsX1_growFrom := goodIn_r _ [19, 10, 11, 20, 21, 22, 23, 24, 25, 26, 8, 27, 49] (by decide +kernel) (by decide +kernel)
set_option maxRecDepth 20000 in
theorem gX4_costOfOrder_X1_growFrom : GoodIn wsX4_costOfOrder (wsV RX4 81 RX1 yX1_growFrom wsX1_growFrom) := goodIn_app (goodIn_of _ (by decide +kernel)) ggX4_costOfOrder_X1_growFrom
set_option maxRecDepth 20000 in
theorem ggX4_costOfOrder_X5_gaps : GoodIn wsX4_costOfOrder wsX5_gaps := goodIn_r _ [32, 33, 50, 51, 52, 53, 54] (by decide +kernel) (by decide +kernel)
set_option maxRecDepth 20000 in
theorem gX4_costOfOrder_X5_gaps : GoodIn wsX4_costOfOrder (wsV RX4 85 RX5 yX5_gaps wsX5_gaps) := goodIn_app (goodIn_of _ (by decide +kernel)) ggX4_costOfOrder_X5_gaps
set_option maxRecDepth 20000 in
theorem ggX4_costOfOrder_X5_costsAt : GoodIn wsX4_costOfOrder wsX5_costsAt := goodIn_r _ [37, 38, 50, 51, 52, 53, 54] (by decide +kernel) (by decide +kernel)
set_option maxRecDepth 20000 in
theorem gX4_costOfOrder_X5_costsAt : GoodIn wsX4_costOfOrder (wsV RX4 88 RX5 yX5_costsAt wsX5_costsAt) := goodIn_app (goodIn_of _ (by decide +kernel)) ggX4_costOfOrder_X5_costsAt
set_option maxRecDepth 20000 in
theorem ggX4_costOfOrder_X1_leastOfAll : GoodIn wsX4_costOfOrder wsX1_leastOfAll := goodIn_r _ [42, 10, 24, 25, 26, 8, 27, 49] (by decide +kernel) (by decide +kernel)
set_option maxRecDepth 20000 in
theorem gX4_costOfOrder_X1_leastOfAll : GoodIn wsX4_costOfOrder (wsV RX4 92 RX1 yX1_leastOfAll wsX1_leastOfAll) := goodIn_app (goodIn_of _ (by decide +kernel)) ggX4_costOfOrder_X1_leastOfAll
theorem dX4_costOfOrder_0 : decode cX4_costOfOrder 0 = .ok (.aload_n 0, 1) := by decide +kernel
theorem dX4_costOfOrder_1 : decode cX4_costOfOrder 1 = .ok (.getfield 19, 3) := by decide +kernel
theorem dX4_costOfOrder_4 : decode cX4_costOfOrder 4 = .ok (.invokevirtual 78, 3) := by decide +kernel
theorem dX4_costOfOrder_7 : decode cX4_costOfOrder 7 = .ok (.iconst 0, 1) := by decide +kernel
theorem dX4_costOfOrder_8 : decode cX4_costOfOrder 8 = .ok (.istore_n 2, 1) := by decide +kernel
theorem dX4_costOfOrder_9 : decode cX4_costOfOrder 9 = .ok (.iload_n 2, 1) := by decide +kernel
theorem dX4_costOfOrder_10 : decode cX4_costOfOrder 10 = .ok (.aload_n 0, 1) := by decide +kernel
theorem dX4_costOfOrder_11 : decode cX4_costOfOrder 11 = .ok (.getfield 30, 3) := by decide +kernel
theorem dX4_costOfOrder_14 : decode cX4_costOfOrder 14 = .ok (.if_icmp .ge 90, 3) := by decide +kernel
theorem dX4_costOfOrder_17 : decode cX4_costOfOrder 17 = .ok (.aload_n 1, 1) := by decide +kernel
theorem dX4_costOfOrder_18 : decode cX4_costOfOrder 18 = .ok (.aload_n 0, 1) := by decide +kernel
theorem dX4_costOfOrder_19 : decode cX4_costOfOrder 19 = .ok (.getfield 23, 3) := by decide +kernel
theorem dX4_costOfOrder_22 : decode cX4_costOfOrder 22 = .ok (.iload_n 2, 1) := by decide +kernel
theorem dX4_costOfOrder_23 : decode cX4_costOfOrder 23 = .ok (.iaload, 1) := by decide +kernel
theorem dX4_costOfOrder_24 : decode cX4_costOfOrder 24 = .ok (.aaload, 1) := by decide +kernel
theorem dX4_costOfOrder_25 : decode cX4_costOfOrder 25 = .ok (.astore_n 3, 1) := by decide +kernel
theorem dX4_costOfOrder_26 : decode cX4_costOfOrder 26 = .ok (.iload_n 2, 1) := by decide +kernel
theorem dX4_costOfOrder_27 : decode cX4_costOfOrder 27 = .ok (.ifCond .le 36, 3) := by decide +kernel
theorem dX4_costOfOrder_30 : decode cX4_costOfOrder 30 = .ok (.aload_n 0, 1) := by decide +kernel
theorem dX4_costOfOrder_31 : decode cX4_costOfOrder 31 = .ok (.getfield 19, 3) := by decide +kernel
theorem dX4_costOfOrder_34 : decode cX4_costOfOrder 34 = .ok (.aload_n 0, 1) := by decide +kernel
theorem dX4_costOfOrder_35 : decode cX4_costOfOrder 35 = .ok (.getfield 19, 3) := by decide +kernel
theorem dX4_costOfOrder_38 : decode cX4_costOfOrder 38 = .ok (.aload_n 0, 1) := by decide +kernel
theorem dX4_costOfOrder_39 : decode cX4_costOfOrder 39 = .ok (.getfield 11, 3) := by decide +kernel
theorem dX4_costOfOrder_42 : decode cX4_costOfOrder 42 = .ok (.aload_n 0, 1) := by decide +kernel
theorem dX4_costOfOrder_43 : decode cX4_costOfOrder 43 = .ok (.getfield 23, 3) := by decide +kernel
theorem dX4_costOfOrder_46 : decode cX4_costOfOrder 46 = .ok (.iload_n 2, 1) := by decide +kernel
theorem dX4_costOfOrder_47 : decode cX4_costOfOrder 47 = .ok (.iconst 1, 1) := by decide +kernel
theorem dX4_costOfOrder_48 : decode cX4_costOfOrder 48 = .ok (.isub, 1) := by decide +kernel
theorem dX4_costOfOrder_49 : decode cX4_costOfOrder 49 = .ok (.iaload, 1) := by decide +kernel
theorem dX4_costOfOrder_50 : decode cX4_costOfOrder 50 = .ok (.iconst 4, 1) := by decide +kernel
theorem dX4_costOfOrder_51 : decode cX4_costOfOrder 51 = .ok (.imul, 1) := by decide +kernel
theorem dX4_costOfOrder_52 : decode cX4_costOfOrder 52 = .ok (.aload_n 0, 1) := by decide +kernel
theorem dX4_costOfOrder_53 : decode cX4_costOfOrder 53 = .ok (.getfield 23, 3) := by decide +kernel
theorem dX4_costOfOrder_56 : decode cX4_costOfOrder 56 = .ok (.iload_n 2, 1) := by decide +kernel
theorem dX4_costOfOrder_57 : decode cX4_costOfOrder 57 = .ok (.iaload, 1) := by decide +kernel
theorem dX4_costOfOrder_58 : decode cX4_costOfOrder 58 = .ok (.iadd, 1) := by decide +kernel
theorem dX4_costOfOrder_59 : decode cX4_costOfOrder 59 = .ok (.aaload, 1) := by decide +kernel
theorem dX4_costOfOrder_60 : decode cX4_costOfOrder 60 = .ok (.invokevirtual 81, 3) := by decide +kernel
theorem dX4_costOfOrder_63 : decode cX4_costOfOrder 63 = .ok (.iconst 0, 1) := by decide +kernel
theorem dX4_costOfOrder_64 : decode cX4_costOfOrder 64 = .ok (.istore 4, 2) := by decide +kernel
theorem dX4_costOfOrder_66 : decode cX4_costOfOrder 66 = .ok (.iload 4, 2) := by decide +kernel
theorem dX4_costOfOrder_68 : decode cX4_costOfOrder 68 = .ok (.aload_n 3, 1) := by decide +kernel
theorem dX4_costOfOrder_69 : decode cX4_costOfOrder 69 = .ok (.invokevirtual 85, 3) := by decide +kernel
theorem dX4_costOfOrder_72 : decode cX4_costOfOrder 72 = .ok (.if_icmp .ge 26, 3) := by decide +kernel
theorem dX4_costOfOrder_75 : decode cX4_costOfOrder 75 = .ok (.aload_n 0, 1) := by decide +kernel
theorem dX4_costOfOrder_76 : decode cX4_costOfOrder 76 = .ok (.getfield 19, 3) := by decide +kernel
theorem dX4_costOfOrder_79 : decode cX4_costOfOrder 79 = .ok (.aload_n 0, 1) := by decide +kernel
theorem dX4_costOfOrder_80 : decode cX4_costOfOrder 80 = .ok (.getfield 19, 3) := by decide +kernel
theorem dX4_costOfOrder_83 : decode cX4_costOfOrder 83 = .ok (.aload_n 3, 1) := by decide +kernel
theorem dX4_costOfOrder_84 : decode cX4_costOfOrder 84 = .ok (.iload 4, 2) := by decide +kernel
theorem dX4_costOfOrder_86 : decode cX4_costOfOrder 86 = .ok (.invokevirtual 88, 3) := by decide +kernel
theorem dX4_costOfOrder_89 : decode cX4_costOfOrder 89 = .ok (.invokevirtual 81, 3) := by decide +kernel
theorem dX4_costOfOrder_92 : decode cX4_costOfOrder 92 = .ok (.iinc 4 1, 3) := by decide +kernel
theorem dX4_costOfOrder_95 : decode cX4_costOfOrder 95 = .ok (.goto (-29), 3) := by decide +kernel
theorem dX4_costOfOrder_98 : decode cX4_costOfOrder 98 = .ok (.iinc 2 1, 3) := by decide +kernel
theorem dX4_costOfOrder_101 : decode cX4_costOfOrder 101 = .ok (.goto (-92), 3) := by decide +kernel
theorem dX4_costOfOrder_104 : decode cX4_costOfOrder 104 = .ok (.aload_n 0, 1) := by decide +kernel
theorem dX4_costOfOrder_105 : decode cX4_costOfOrder 105 = .ok (.getfield 19, 3) := by decide +kernel
theorem dX4_costOfOrder_108 : decode cX4_costOfOrder 108 = .ok (.invokevirtual 92, 3) := by decide +kernel
theorem dX4_costOfOrder_111 : decode cX4_costOfOrder 111 = .ok (.ireturn, 1) := by decide +kernel
set_option maxRecDepth 20000 in
theorem ggX4_goToNextOrder_X4_exchange : GoodIn wsX4_goToNextOrder wsX4_exchange := goodIn_r _ [7, 2, 8, 9, 10, 11, 12, 13] (by decide +kernel) (by decide +kernel)
set_option maxRecDepth 20000 in
theorem gX4_goToNextOrder_X4_exchange : GoodIn wsX4_goToNextOrder (wsV RX4 95 RX4 yX4_exchange wsX4_exchange) := goodIn_app (goodIn_of _ (by decide +kernel)) ggX4_goToNextOrder_X4_exchange
theorem dX4_goToNextOrder_0 : decode cX4_goToNextOrder 0 = .ok (.aload_n 0, 1) := by decide +kernel
theorem dX4_goToNextOrder_1 : decode cX4_goToNextOrder 1 = .ok (.getfield 30, 3) := by decide +kernel
theorem dX4_goToNextOrder_4 : decode cX4_goToNextOrder 4 = .ok (.iconst 2, 1) := by decide +kernel
theorem dX4_goToNextOrder_5 : decode cX4_goToNextOrder 5 = .ok (.isub, 1) := by decide +kernel
theorem dX4_goToNextOrder_6 : decode cX4_goToNextOrder 6 = .ok (.istore_n 1, 1) := by decide +kernel
theorem dX4_goToNextOrder_7 : decode cX4_goToNextOrder 7 = .ok (.iload_n 1, 1) := by decide +kernel
theorem dX4_goToNextOrder_8 : decode cX4_goToNextOrder 8 = .ok (.ifCond .lt 26, 3) := by decide +kernel
theorem dX4_goToNextOrder_11 : decode cX4_goToNextOrder 11 = .ok (.aload_n 0, 1) := by decide +kernel
theorem dX4_goToNextOrder_12 : decode cX4_goToNextOrder 12 = .ok (.getfield 23, 3) := by decide +kernel
theorem dX4_goToNextOrder_15 : decode cX4_goToNextOrder 15 = .ok (.iload_n 1, 1) := by decide +kernel
theorem dX4_goToNextOrder_16 : decode cX4_goToNextOrder 16 = .ok (.iaload, 1) := by decide +kernel
theorem dX4_goToNextOrder_17 : decode cX4_goToNextOrder 17 = .ok (.aload_n 0, 1) := by decide +kernel
theorem dX4_goToNextOrder_18 : decode cX4_goToNextOrder 18 = .ok (.getfield 23, 3) := by decide +kernel
theorem dX4_goToNextOrder_21 : decode cX4_goToNextOrder 21 = .ok (.iload_n 1, 1) := by decide +kernel
theorem dX4_goToNextOrder_22 : decode cX4_goToNextOrder 22 = .ok (.iconst 1, 1) := by decide +kernel
theorem dX4_goToNextOrder_23 : decode cX4_goToNextOrder 23 = .ok (.iadd, 1) := by decide +kernel
theorem dX4_goToNextOrder_24 : decode cX4_goToNextOrder 24 = .ok (.iaload, 1) := by decide +kernel
theorem dX4_goToNextOrder_25 : decode cX4_goToNextOrder 25 = .ok (.if_icmp .le 9, 3) := by decide +kernel
theorem dX4_goToNextOrder_28 : decode cX4_goToNextOrder 28 = .ok (.iinc 1 (-1), 3) := by decide +kernel
theorem dX4_goToNextOrder_31 : decode cX4_goToNextOrder 31 = .ok (.goto (-24), 3) := by decide +kernel
theorem dX4_goToNextOrder_34 : decode cX4_goToNextOrder 34 = .ok (.iload_n 1, 1) := by decide +kernel
theorem dX4_goToNextOrder_35 : decode cX4_goToNextOrder 35 = .ok (.ifCond .ge 5, 3) := by decide +kernel
theorem dX4_goToNextOrder_38 : decode cX4_goToNextOrder 38 = .ok (.iconst 0, 1) := by decide +kernel
theorem dX4_goToNextOrder_39 : decode cX4_goToNextOrder 39 = .ok (.ireturn, 1) := by decide +kernel
theorem dX4_goToNextOrder_40 : decode cX4_goToNextOrder 40 = .ok (.aload_n 0, 1) := by decide +kernel
theorem dX4_goToNextOrder_41 : decode cX4_goToNextOrder 41 = .ok (.getfield 30, 3) := by decide +kernel
theorem dX4_goToNextOrder_44 : decode cX4_goToNextOrder 44 = .ok (.iconst 1, 1) := by decide +kernel
theorem dX4_goToNextOrder_45 : decode cX4_goToNextOrder 45 = .ok (.isub, 1) := by decide +kernel
theorem dX4_goToNextOrder_46 : decode cX4_goToNextOrder 46 = .ok (.istore_n 2, 1) := by decide +kernel
theorem dX4_goToNextOrder_47 : decode cX4_goToNextOrder 47 = .ok (.iload_n 2, 1) := by decide +kernel
theorem dX4_goToNextOrder_48 : decode cX4_goToNextOrder 48 = .ok (.iload_n 1, 1) := by decide +kernel
theorem dX4_goToNextOrder_49 : decode cX4_goToNextOrder 49 = .ok (.if_icmp .le 24, 3) := by decide +kernel
theorem dX4_goToNextOrder_52 : decode cX4_goToNextOrder 52 = .ok (.aload_n 0, 1) := by decide +kernel
theorem dX4_goToNextOrder_53 : decode cX4_goToNextOrder 53 = .ok (.getfield 23, 3) := by decide +kernel
theorem dX4_goToNextOrder_56 : decode cX4_goToNextOrder 56 = .ok (.iload_n 2, 1) := by decide +kernel
theorem dX4_goToNextOrder_57 : decode cX4_goToNextOrder 57 = .ok (.iaload, 1) := by decide +kernel
theorem dX4_goToNextOrder_58 : decode cX4_goToNextOrder 58 = .ok (.aload_n 0, 1) := by decide +kernel
theorem dX4_goToNextOrder_59 : decode cX4_goToNextOrder 59 = .ok (.getfield 23, 3) := by decide +kernel
theorem dX4_goToNextOrder_62 : decode cX4_goToNextOrder 62 = .ok (.iload_n 1, 1) := by decide +kernel
theorem dX4_goToNextOrder_63 : decode cX4_goToNextOrder 63 = .ok (.iaload, 1) := by decide +kernel
theorem dX4_goToNextOrder_64 : decode cX4_goToNextOrder 64 = .ok (.if_icmp .ge 9, 3) := by decide +kernel
theorem dX4_goToNextOrder_67 : decode cX4_goToNextOrder 67 = .ok (.iinc 2 (-1), 3) := by decide +kernel
theorem dX4_goToNextOrder_70 : decode cX4_goToNextOrder 70 = .ok (.goto (-23), 3) := by decide +kernel
theorem dX4_goToNextOrder_73 : decode cX4_goToNextOrder 73 = .ok (.aload_n 0, 1) := by decide +kernel
theorem dX4_goToNextOrder_74 : decode cX4_goToNextOrder 74 = .ok (.iload_n 1, 1) := by decide +kernel
theorem dX4_goToNextOrder_75 : decode cX4_goToNextOrder 75 = .ok (.iload_n 2, 1) := by decide +kernel
theorem dX4_goToNextOrder_76 : decode cX4_goToNextOrder 76 = .ok (.invokevirtual 95, 3) := by decide +kernel
theorem dX4_goToNextOrder_79 : decode cX4_goToNextOrder 79 = .ok (.iload_n 1, 1) := by decide +kernel
theorem dX4_goToNextOrder_80 : decode cX4_goToNextOrder 80 = .ok (.iconst 1, 1) := by decide +kernel
theorem dX4_goToNextOrder_81 : decode cX4_goToNextOrder 81 = .ok (.iadd, 1) := by decide +kernel
theorem dX4_goToNextOrder_82 : decode cX4_goToNextOrder 82 = .ok (.istore_n 3, 1) := by decide +kernel
theorem dX4_goToNextOrder_83 : decode cX4_goToNextOrder 83 = .ok (.aload_n 0, 1) := by decide +kernel
theorem dX4_goToNextOrder_84 : decode cX4_goToNextOrder 84 = .ok (.getfield 30, 3) := by decide +kernel
theorem dX4_goToNextOrder_87 : decode cX4_goToNextOrder 87 = .ok (.iconst 1, 1) := by decide +kernel
theorem dX4_goToNextOrder_88 : decode cX4_goToNextOrder 88 = .ok (.isub, 1) := by decide +kernel
theorem dX4_goToNextOrder_89 : decode cX4_goToNextOrder 89 = .ok (.istore 4, 2) := by decide +kernel
theorem dX4_goToNextOrder_91 : decode cX4_goToNextOrder 91 = .ok (.iload_n 3, 1) := by decide +kernel
theorem dX4_goToNextOrder_92 : decode cX4_goToNextOrder 92 = .ok (.iload 4, 2) := by decide +kernel
theorem dX4_goToNextOrder_94 : decode cX4_goToNextOrder 94 = .ok (.if_icmp .ge 19, 3) := by decide +kernel
theorem dX4_goToNextOrder_97 : decode cX4_goToNextOrder 97 = .ok (.aload_n 0, 1) := by decide +kernel
theorem dX4_goToNextOrder_98 : decode cX4_goToNextOrder 98 = .ok (.iload_n 3, 1) := by decide +kernel
theorem dX4_goToNextOrder_99 : decode cX4_goToNextOrder 99 = .ok (.iload 4, 2) := by decide +kernel
theorem dX4_goToNextOrder_101 : decode cX4_goToNextOrder 101 = .ok (.invokevirtual 95, 3) := by decide +kernel
theorem dX4_goToNextOrder_104 : decode cX4_goToNextOrder 104 = .ok (.iinc 3 1, 3) := by decide +kernel
theorem dX4_goToNextOrder_107 : decode cX4_goToNextOrder 107 = .ok (.iinc 4 (-1), 3) := by decide +kernel
theorem dX4_goToNextOrder_110 : decode cX4_goToNextOrder 110 = .ok (.goto (-19), 3) := by decide +kernel
theorem dX4_goToNextOrder_113 : decode cX4_goToNextOrder 113 = .ok (.iconst 1, 1) := by decide +kernel
theorem dX4_goToNextOrder_114 : decode cX4_goToNextOrder 114 = .ok (.ireturn, 1) := by decide +kernel
theorem dX4_exchange_0 : decode cX4_exchange 0 = .ok (.aload_n 0, 1) := by decide +kernel
theorem dX4_exchange_1 : decode cX4_exchange 1 = .ok (.getfield 23, 3) := by decide +kernel
theorem dX4_exchange_4 : decode cX4_exchange 4 = .ok (.iload_n 1, 1) := by decide +kernel
theorem dX4_exchange_5 : decode cX4_exchange 5 = .ok (.iaload, 1) := by decide +kernel
theorem dX4_exchange_6 : decode cX4_exchange 6 = .ok (.istore_n 3, 1) := by decide +kernel
theorem dX4_exchange_7 : decode cX4_exchange 7 = .ok (.aload_n 0, 1) := by decide +kernel
theorem dX4_exchange_8 : decode cX4_exchange 8 = .ok (.getfield 23, 3) := by decide +kernel
theorem dX4_exchange_11 : decode cX4_exchange 11 = .ok (.iload_n 1, 1) := by decide +kernel
theorem dX4_exchange_12 : decode cX4_exchange 12 = .ok (.aload_n 0, 1) := by decide +kernel
theorem dX4_exchange_13 : decode cX4_exchange 13 = .ok (.getfield 23, 3) := by decide +kernel
theorem dX4_exchange_16 : decode cX4_exchange 16 = .ok (.iload_n 2, 1) := by decide +kernel
theorem dX4_exchange_17 : decode cX4_exchange 17 = .ok (.iaload, 1) := by decide +kernel
theorem dX4_exchange_18 : decode cX4_exchange 18 = .ok (.iastore, 1) := by decide +kernel
theorem dX4_exchange_19 : decode cX4_exchange 19 = .ok (.aload_n 0, 1) := by decide +kernel
theorem dX4_exchange_20 : decode cX4_exchange 20 = .ok (.getfield 23, 3) := by decide +kernel
theorem dX4_exchange_23 : decode cX4_exchange 23 = .ok (.iload_n 2, 1) := by decide +kernel
theorem dX4_exchange_24 : decode cX4_exchange 24 = .ok (.iload_n 3, 1) := by decide +kernel
theorem dX4_exchange_25 : decode cX4_exchange 25 = .ok (.iastore, 1) := by decide +kernel
theorem dX4_exchange_26 : decode cX4_exchange 26 = .ok (.return_, 1) := by decide +kernel
theorem dX5_init_0 : decode cX5_init 0 = .ok (.aload_n 0, 1) := by decide +kernel
theorem dX5_init_1 : decode cX5_init 1 = .ok (.invokespecial 3, 3) := by decide +kernel
theorem dX5_init_4 : decode cX5_init 4 = .ok (.aload_n 0, 1) := by decide +kernel
theorem dX5_init_5 : decode cX5_init 5 = .ok (.bipush 10, 2) := by decide +kernel
theorem dX5_init_7 : decode cX5_init 7 = .ok (.newarray .int, 2) := by decide +kernel
theorem dX5_init_9 : decode cX5_init 9 = .ok (.putfield 9, 3) := by decide +kernel
theorem dX5_init_12 : decode cX5_init 12 = .ok (.aload_n 0, 1) := by decide +kernel
theorem dX5_init_13 : decode cX5_init 13 = .ok (.bipush 10, 2) := by decide +kernel
theorem dX5_init_15 : decode cX5_init 15 = .ok (.newarray .int, 2) := by decide +kernel
theorem dX5_init_17 : decode cX5_init 17 = .ok (.putfield 15, 3) := by decide +kernel
theorem dX5_init_20 : decode cX5_init 20 = .ok (.aload_n 0, 1) := by decide +kernel
theorem dX5_init_21 : decode cX5_init 21 = .ok (.bipush 9, 2) := by decide +kernel
theorem dX5_init_23 : decode cX5_init 23 = .ok (.newarray .boolean, 2) := by decide +kernel
theorem dX5_init_25 : decode cX5_init 25 = .ok (.putfield 18, 3) := by decide +kernel
theorem dX5_init_28 : decode cX5_init 28 = .ok (.aload_n 0, 1) := by decide +kernel
theorem dX5_init_29 : decode cX5_init 29 = .ok (.bipush 9, 2) := by decide +kernel
theorem dX5_init_31 : decode cX5_init 31 = .ok (.bipush 9, 2) := by decide +kernel
theorem dX5_init_33 : decode cX5_init 33 = .ok (.multianewarray 22 2, 4) := by decide +kernel
theorem dX5_init_37 : decode cX5_init 37 = .ok (.putfield 24, 3) := by decide +kernel
theorem dX5_init_40 : decode cX5_init 40 = .ok (.return_, 1) := by decide +kernel
theorem dX5_size_0 : decode cX5_size 0 = .ok (.aload_n 0, 1) := by decide +kernel
theorem dX5_size_1 : decode cX5_size 1 = .ok (.getfield 27, 3) := by decide +kernel
theorem dX5_size_4 : decode cX5_size 4 = .ok (.ireturn, 1) := by decide +kernel
theorem dX5_gaps_0 : decode cX5_gaps 0 = .ok (.aload_n 0, 1) := by decide +kernel
theorem dX5_gaps_1 : decode cX5_gaps 1 = .ok (.getfield 27, 3) := by decide +kernel
theorem dX5_gaps_4 : decode cX5_gaps 4 = .ok (.ifCond .ne 7, 3) := by decide +kernel
theorem dX5_gaps_7 : decode cX5_gaps 7 = .ok (.iconst 0, 1) := by decide +kernel
theorem dX5_gaps_8 : decode cX5_gaps 8 = .ok (.goto 9, 3) := by decide +kernel
theorem dX5_gaps_11 : decode cX5_gaps 11 = .ok (.aload_n 0, 1) := by decide +kernel
theorem dX5_gaps_12 : decode cX5_gaps 12 = .ok (.getfield 27, 3) := by decide +kernel
theorem dX5_gaps_15 : decode cX5_gaps 15 = .ok (.iconst 1, 1) := by decide +kernel
theorem dX5_gaps_16 : decode cX5_gaps 16 = .ok (.isub, 1) := by decide +kernel
theorem dX5_gaps_17 : decode cX5_gaps 17 = .ok (.ireturn, 1) := by decide +kernel
theorem dX5_pitchOf_0 : decode cX5_pitchOf 0 = .ok (.aload_n 0, 1) := by decide +kernel
theorem dX5_pitchOf_1 : decode cX5_pitchOf 1 = .ok (.getfield 9, 3) := by decide +kernel
theorem dX5_pitchOf_4 : decode cX5_pitchOf 4 = .ok (.iload_n 1, 1) := by decide +kernel
theorem dX5_pitchOf_5 : decode cX5_pitchOf 5 = .ok (.iaload, 1) := by decide +kernel
theorem dX5_pitchOf_6 : decode cX5_pitchOf 6 = .ok (.ireturn, 1) := by decide +kernel
theorem dX5_lengthOf_0 : decode cX5_lengthOf 0 = .ok (.aload_n 0, 1) := by decide +kernel
theorem dX5_lengthOf_1 : decode cX5_lengthOf 1 = .ok (.getfield 15, 3) := by decide +kernel
theorem dX5_lengthOf_4 : decode cX5_lengthOf 4 = .ok (.iload_n 1, 1) := by decide +kernel
theorem dX5_lengthOf_5 : decode cX5_lengthOf 5 = .ok (.iaload, 1) := by decide +kernel
theorem dX5_lengthOf_6 : decode cX5_lengthOf 6 = .ok (.ireturn, 1) := by decide +kernel
theorem dX5_append_0 : decode cX5_append 0 = .ok (.aload_n 0, 1) := by decide +kernel
theorem dX5_append_1 : decode cX5_append 1 = .ok (.getfield 27, 3) := by decide +kernel
theorem dX5_append_4 : decode cX5_append 4 = .ok (.ifCond .le 15, 3) := by decide +kernel
theorem dX5_append_7 : decode cX5_append 7 = .ok (.aload_n 0, 1) := by decide +kernel
theorem dX5_append_8 : decode cX5_append 8 = .ok (.getfield 18, 3) := by decide +kernel
theorem dX5_append_11 : decode cX5_append 11 = .ok (.aload_n 0, 1) := by decide +kernel
theorem dX5_append_12 : decode cX5_append 12 = .ok (.getfield 27, 3) := by decide +kernel
theorem dX5_append_15 : decode cX5_append 15 = .ok (.iconst 1, 1) := by decide +kernel
theorem dX5_append_16 : decode cX5_append 16 = .ok (.isub, 1) := by decide +kernel
theorem dX5_append_17 : decode cX5_append 17 = .ok (.iconst 0, 1) := by decide +kernel
theorem dX5_append_18 : decode cX5_append 18 = .ok (.bastore, 1) := by decide +kernel
theorem dX5_append_19 : decode cX5_append 19 = .ok (.aload_n 0, 1) := by decide +kernel
theorem dX5_append_20 : decode cX5_append 20 = .ok (.getfield 9, 3) := by decide +kernel
theorem dX5_append_23 : decode cX5_append 23 = .ok (.aload_n 0, 1) := by decide +kernel
theorem dX5_append_24 : decode cX5_append 24 = .ok (.getfield 27, 3) := by decide +kernel
theorem dX5_append_27 : decode cX5_append 27 = .ok (.iload_n 1, 1) := by decide +kernel
theorem dX5_append_28 : decode cX5_append 28 = .ok (.iastore, 1) := by decide +kernel
theorem dX5_append_29 : decode cX5_append 29 = .ok (.aload_n 0, 1) := by decide +kernel
theorem dX5_append_30 : decode cX5_append 30 = .ok (.getfield 15, 3) := by decide +kernel
theorem dX5_append_33 : decode cX5_append 33 = .ok (.aload_n 0, 1) := by decide +kernel
theorem dX5_append_34 : decode cX5_append 34 = .ok (.getfield 27, 3) := by decide +kernel
theorem dX5_append_37 : decode cX5_append 37 = .ok (.iload_n 2, 1) := by decide +kernel
theorem dX5_append_38 : decode cX5_append 38 = .ok (.iastore, 1) := by decide +kernel
theorem dX5_append_39 : decode cX5_append 39 = .ok (.aload_n 0, 1) := by decide +kernel
theorem dX5_append_40 : decode cX5_append 40 = .ok (.dup, 1) := by decide +kernel
theorem dX5_append_41 : decode cX5_append 41 = .ok (.getfield 27, 3) := by decide +kernel
theorem dX5_append_44 : decode cX5_append 44 = .ok (.iconst 1, 1) := by decide +kernel
theorem dX5_append_45 : decode cX5_append 45 = .ok (.iadd, 1) := by decide +kernel
theorem dX5_append_46 : decode cX5_append 46 = .ok (.putfield 27, 3) := by decide +kernel
theorem dX5_append_49 : decode cX5_append 49 = .ok (.aload_n 0, 1) := by decide +kernel
theorem dX5_append_50 : decode cX5_append 50 = .ok (.getfield 27, 3) := by decide +kernel
theorem dX5_append_53 : decode cX5_append 53 = .ok (.ireturn, 1) := by decide +kernel
theorem dX5_dropLast_0 : decode cX5_dropLast 0 = .ok (.aload_n 0, 1) := by decide +kernel
theorem dX5_dropLast_1 : decode cX5_dropLast 1 = .ok (.dup, 1) := by decide +kernel
theorem dX5_dropLast_2 : decode cX5_dropLast 2 = .ok (.getfield 27, 3) := by decide +kernel
theorem dX5_dropLast_5 : decode cX5_dropLast 5 = .ok (.iconst 1, 1) := by decide +kernel
theorem dX5_dropLast_6 : decode cX5_dropLast 6 = .ok (.isub, 1) := by decide +kernel
theorem dX5_dropLast_7 : decode cX5_dropLast 7 = .ok (.putfield 27, 3) := by decide +kernel
theorem dX5_dropLast_10 : decode cX5_dropLast 10 = .ok (.aload_n 0, 1) := by decide +kernel
theorem dX5_dropLast_11 : decode cX5_dropLast 11 = .ok (.getfield 9, 3) := by decide +kernel
theorem dX5_dropLast_14 : decode cX5_dropLast 14 = .ok (.aload_n 0, 1) := by decide +kernel
theorem dX5_dropLast_15 : decode cX5_dropLast 15 = .ok (.getfield 27, 3) := by decide +kernel
theorem dX5_dropLast_18 : decode cX5_dropLast 18 = .ok (.iaload, 1) := by decide +kernel
theorem dX5_dropLast_19 : decode cX5_dropLast 19 = .ok (.ireturn, 1) := by decide +kernel
theorem dX5_replaceWish_0 : decode cX5_replaceWish 0 = .ok (.aload_n 0, 1) := by decide +kernel
theorem dX5_replaceWish_1 : decode cX5_replaceWish 1 = .ok (.getfield 18, 3) := by decide +kernel
theorem dX5_replaceWish_4 : decode cX5_replaceWish 4 = .ok (.iload_n 1, 1) := by decide +kernel
theorem dX5_replaceWish_5 : decode cX5_replaceWish 5 = .ok (.baload, 1) := by decide +kernel
theorem dX5_replaceWish_6 : decode cX5_replaceWish 6 = .ok (.istore_n 3, 1) := by decide +kernel
theorem dX5_replaceWish_7 : decode cX5_replaceWish 7 = .ok (.aload_n 0, 1) := by decide +kernel
theorem dX5_replaceWish_8 : decode cX5_replaceWish 8 = .ok (.getfield 18, 3) := by decide +kernel
theorem dX5_replaceWish_11 : decode cX5_replaceWish 11 = .ok (.iload_n 1, 1) := by decide +kernel
theorem dX5_replaceWish_12 : decode cX5_replaceWish 12 = .ok (.iload_n 2, 1) := by decide +kernel
theorem dX5_replaceWish_13 : decode cX5_replaceWish 13 = .ok (.bastore, 1) := by decide +kernel
theorem dX5_replaceWish_14 : decode cX5_replaceWish 14 = .ok (.iload_n 3, 1) := by decide +kernel
theorem dX5_replaceWish_15 : decode cX5_replaceWish 15 = .ok (.ireturn, 1) := by decide +kernel
set_option maxRecDepth 20000 in
theorem ggX5_weighGaps_X3_weigh : GoodIn wsX5_weighGaps wsX3_weigh := goodIn_r _ [10, 11, 12, 13, 14, 15, 16, 17, 18, 19, 20, 9, 21, 22, 23, 24, 25, 26, 27, 28, 29, 30, 31, 32, 33, 34, 35, 36, 37, 43, 44, 45, 46, 47, 48] (by decide +kernel) (by decide +kernel)
set_option maxRecDepth 20000 in
theorem gX5_weighGaps_X3_weigh : GoodIn wsX5_weighGaps (wsV RX5 31 RX3 yX3_weigh wsX3_weigh) := goodIn_app (goodIn_of _ (by decide +kernel)) ggX5_weighGaps_X3_weigh
theorem dX5_weighGaps_0 : decode cX5_weighGaps 0 = .ok (.iconst 0, 1) := by decide +kernel
theorem dX5_weighGaps_1 : decode cX5_weighGaps 1 = .ok (.istore_n 3, 1) := by decide +kernel
theorem dX5_weighGaps_2 : decode cX5_weighGaps 2 = .ok (.iload_n 3, 1) := by decide +kernel
theorem dX5_weighGaps_3 : decode cX5_weighGaps 3 = .ok (.iconst 1, 1) := by decide +kernel
theorem dX5_weighGaps_4 : decode cX5_weighGaps 4 = .ok (.iadd, 1) := by decide +kernel
theorem dX5_weighGaps_5 : decode cX5_weighGaps 5 = .ok (.aload_n 0, 1) := by decide +kernel
theorem dX5_weighGaps_6 : decode cX5_weighGaps 6 = .ok (.getfield 27, 3) := by decide +kernel
theorem dX5_weighGaps_9 : decode cX5_weighGaps 9 = .ok (.if_icmp .ge 50, 3) := by decide +kernel
theorem dX5_weighGaps_12 : decode cX5_weighGaps 12 = .ok (.aload_n 0, 1) := by decide +kernel
theorem dX5_weighGaps_13 : decode cX5_weighGaps 13 = .ok (.getfield 9, 3) := by decide +kernel
theorem dX5_weighGaps_16 : decode cX5_weighGaps 16 = .ok (.iload_n 3, 1) := by decide +kernel
theorem dX5_weighGaps_17 : decode cX5_weighGaps 17 = .ok (.iconst 1, 1) := by decide +kernel
theorem dX5_weighGaps_18 : decode cX5_weighGaps 18 = .ok (.iadd, 1) := by decide +kernel
theorem dX5_weighGaps_19 : decode cX5_weighGaps 19 = .ok (.iaload, 1) := by decide +kernel
theorem dX5_weighGaps_20 : decode cX5_weighGaps 20 = .ok (.istore 4, 2) := by decide +kernel
theorem dX5_weighGaps_22 : decode cX5_weighGaps 22 = .ok (.aload_n 2, 1) := by decide +kernel
theorem dX5_weighGaps_23 : decode cX5_weighGaps 23 = .ok (.aload_n 1, 1) := by decide +kernel
theorem dX5_weighGaps_24 : decode cX5_weighGaps 24 = .ok (.aload_n 0, 1) := by decide +kernel
theorem dX5_weighGaps_25 : decode cX5_weighGaps 25 = .ok (.getfield 9, 3) := by decide +kernel
theorem dX5_weighGaps_28 : decode cX5_weighGaps 28 = .ok (.iload_n 3, 1) := by decide +kernel
theorem dX5_weighGaps_29 : decode cX5_weighGaps 29 = .ok (.iaload, 1) := by decide +kernel
theorem dX5_weighGaps_30 : decode cX5_weighGaps 30 = .ok (.aload_n 0, 1) := by decide +kernel
theorem dX5_weighGaps_31 : decode cX5_weighGaps 31 = .ok (.getfield 15, 3) := by decide +kernel
theorem dX5_weighGaps_34 : decode cX5_weighGaps 34 = .ok (.iload_n 3, 1) := by decide +kernel
theorem dX5_weighGaps_35 : decode cX5_weighGaps 35 = .ok (.iaload, 1) := by decide +kernel
theorem dX5_weighGaps_36 : decode cX5_weighGaps 36 = .ok (.iload 4, 2) := by decide +kernel
theorem dX5_weighGaps_38 : decode cX5_weighGaps 38 = .ok (.aload_n 0, 1) := by decide +kernel
theorem dX5_weighGaps_39 : decode cX5_weighGaps 39 = .ok (.getfield 18, 3) := by decide +kernel
theorem dX5_weighGaps_42 : decode cX5_weighGaps 42 = .ok (.iload_n 3, 1) := by decide +kernel
theorem dX5_weighGaps_43 : decode cX5_weighGaps 43 = .ok (.baload, 1) := by decide +kernel
theorem dX5_weighGaps_44 : decode cX5_weighGaps 44 = .ok (.aload_n 0, 1) := by decide +kernel
theorem dX5_weighGaps_45 : decode cX5_weighGaps 45 = .ok (.getfield 24, 3) := by decide +kernel
theorem dX5_weighGaps_48 : decode cX5_weighGaps 48 = .ok (.iload_n 3, 1) := by decide +kernel
theorem dX5_weighGaps_49 : decode cX5_weighGaps 49 = .ok (.aaload, 1) := by decide +kernel
theorem dX5_weighGaps_50 : decode cX5_weighGaps 50 = .ok (.invokevirtual 31, 3) := by decide +kernel
theorem dX5_weighGaps_53 : decode cX5_weighGaps 53 = .ok (.iinc 3 1, 3) := by decide +kernel
theorem dX5_weighGaps_56 : decode cX5_weighGaps 56 = .ok (.goto (-54), 3) := by decide +kernel
theorem dX5_weighGaps_59 : decode cX5_weighGaps 59 = .ok (.return_, 1) := by decide +kernel
theorem dX5_costsAt_0 : decode cX5_costsAt 0 = .ok (.aload_n 0, 1) := by decide +kernel
theorem dX5_costsAt_1 : decode cX5_costsAt 1 = .ok (.getfield 24, 3) := by decide +kernel
theorem dX5_costsAt_4 : decode cX5_costsAt 4 = .ok (.iload_n 1, 1) := by decide +kernel
theorem dX5_costsAt_5 : decode cX5_costsAt 5 = .ok (.aaload, 1) := by decide +kernel
theorem dX5_costsAt_6 : decode cX5_costsAt 6 = .ok (.areturn, 1) := by decide +kernel
set_option maxRecDepth 20000 in
theorem ggX6_init_X1_init : GoodIn wsX6_init wsX1_init := goodIn_r _ [14, 15, 2, 3, 9, 16, 21] (by decide +kernel) (by decide +kernel)
set_option maxRecDepth 20000 in
theorem gX6_init_X1_init : GoodIn wsX6_init (wsX1_init) := ggX6_init_X1_init
theorem dX6_init_0 : decode cX6_init 0 = .ok (.aload_n 0, 1) := by decide +kernel
theorem dX6_init_1 : decode cX6_init 1 = .ok (.invokespecial 3, 3) := by decide +kernel
theorem dX6_init_4 : decode cX6_init 4 = .ok (.aload_n 0, 1) := by decide +kernel
theorem dX6_init_5 : decode cX6_init 5 = .ok (.bipush 10, 2) := by decide +kernel
theorem dX6_init_7 : decode cX6_init 7 = .ok (.anewarray 9, 3) := by decide +kernel
theorem dX6_init_10 : decode cX6_init 10 = .ok (.putfield 11, 3) := by decide +kernel
theorem dX6_init_13 : decode cX6_init 13 = .ok (.iconst 0, 1) := by decide +kernel
theorem dX6_init_14 : decode cX6_init 14 = .ok (.istore_n 1, 1) := by decide +kernel
theorem dX6_init_15 : decode cX6_init 15 = .ok (.iload_n 1, 1) := by decide +kernel
theorem dX6_init_16 : decode cX6_init 16 = .ok (.bipush 9, 2) := by decide +kernel
theorem dX6_init_18 : decode cX6_init 18 = .ok (.if_icmp .gt 22, 3) := by decide +kernel
theorem dX6_init_21 : decode cX6_init 21 = .ok (.aload_n 0, 1) := by decide +kernel
theorem dX6_init_22 : decode cX6_init 22 = .ok (.getfield 11, 3) := by decide +kernel
theorem dX6_init_25 : decode cX6_init 25 = .ok (.iload_n 1, 1) := by decide +kernel
theorem dX6_init_26 : decode cX6_init 26 = .ok (.new 9, 3) := by decide +kernel
theorem dX6_init_29 : decode cX6_init 29 = .ok (.dup, 1) := by decide +kernel
theorem dX6_init_30 : decode cX6_init 30 = .ok (.invokespecial 17, 3) := by decide +kernel
theorem dX6_init_33 : decode cX6_init 33 = .ok (.aastore, 1) := by decide +kernel
theorem dX6_init_34 : decode cX6_init 34 = .ok (.iinc 1 1, 3) := by decide +kernel
theorem dX6_init_37 : decode cX6_init 37 = .ok (.goto (-22), 3) := by decide +kernel
theorem dX6_init_40 : decode cX6_init 40 = .ok (.aload_n 0, 1) := by decide +kernel
theorem dX6_init_41 : decode cX6_init 41 = .ok (.new 9, 3) := by decide +kernel
theorem dX6_init_44 : decode cX6_init 44 = .ok (.dup, 1) := by decide +kernel
theorem dX6_init_45 : decode cX6_init 45 = .ok (.invokespecial 17, 3) := by decide +kernel
theorem dX6_init_48 : decode cX6_init 48 = .ok (.putfield 18, 3) := by decide +kernel
theorem dX6_init_51 : decode cX6_init 51 = .ok (.aload_n 0, 1) := by decide +kernel
theorem dX6_init_52 : decode cX6_init 52 = .ok (.bipush 9, 2) := by decide +kernel
theorem dX6_init_54 : decode cX6_init 54 = .ok (.newarray .int, 2) := by decide +kernel
theorem dX6_init_56 : decode cX6_init 56 = .ok (.putfield 22, 3) := by decide +kernel
theorem dX6_init_59 : decode cX6_init 59 = .ok (.aload_n 0, 1) := by decide +kernel
theorem dX6_init_60 : decode cX6_init 60 = .ok (.bipush 9, 2) := by decide +kernel
theorem dX6_init_62 : decode cX6_init 62 = .ok (.newarray .int, 2) := by decide +kernel
theorem dX6_init_64 : decode cX6_init 64 = .ok (.putfield 26, 3) := by decide +kernel
theorem dX6_init_67 : decode cX6_init 67 = .ok (.return_, 1) := by decide +kernel
set_option maxRecDepth 20000 in
theorem ggX6_solveFor_X5_gaps : GoodIn wsX6_solveFor wsX5_gaps := goodIn_r _ [6, 7, 44, 45, 46, 47, 48] (by decide +kernel) (by decide +kernel)
set_option maxRecDepth 20000 in
theorem gX6_solveFor_X5_gaps : GoodIn wsX6_solveFor (wsV RX6 29 RX5 yX5_gaps wsX5_gaps) := goodIn_app (goodIn_of _ (by decide +kernel)) ggX6_solveFor_X5_gaps
set_option maxRecDepth 20000 in
theorem ggX6_solveFor_X1_startRow : GoodIn wsX6_solveFor wsX1_startRow := goodIn_r _ [12, 13, 14, 15, 16, 17, 18, 49] (by decide +kernel) (by decide +kernel)
set_option maxRecDepth 20000 in
theorem gX6_solveFor_X1_startRow : GoodIn wsX6_solveFor (wsV RX6 35 RX1 yX1_startRow wsX1_startRow) := goodIn_app (goodIn_of _ (by decide +kernel)) ggX6_solveFor_X1_startRow
set_option maxRecDepth 20000 in
theorem ggX6_solveFor_X5_costsAt : GoodIn wsX6_solveFor wsX5_costsAt := goodIn_r _ [22, 23, 44, 45, 46, 47, 48] (by decide +kernel) (by decide +kernel)
set_option maxRecDepth 20000 in
theorem gX6_solveFor_X5_costsAt : GoodIn wsX6_solveFor (wsV RX6 38 RX5 yX5_costsAt wsX5_costsAt) := goodIn_app (goodIn_of _ (by decide +kernel)) ggX6_solveFor_X5_costsAt
set_option maxRecDepth 20000 in
theorem ggX6_solveFor_X1_growFrom : GoodIn wsX6_solveFor wsX1_growFrom := goodIn_r _ [27, 13, 14, 28, 29, 30, 31, 32, 33, 34, 11, 35, 49] (by decide +kernel) (by decide +kernel)
set_option maxRecDepth 20000 in
theorem gX6_solveFor_X1_growFrom : GoodIn wsX6_solveFor (wsV RX6 42 RX1 yX1_growFrom wsX1_growFrom) := goodIn_app (goodIn_of _ (by decide +kernel)) ggX6_solveFor_X1_growFrom
set_option maxRecDepth 20000 in
theorem ggX6_solveFor_X1_leastOfAll : GoodIn wsX6_solveFor wsX1_leastOfAll := goodIn_r _ [39, 13, 32, 33, 34, 11, 35, 49] (by decide +kernel) (by decide +kernel)
set_option maxRecDepth 20000 in
theorem gX6_solveFor_X1_leastOfAll : GoodIn wsX6_solveFor (wsV RX6 46 RX1 yX1_leastOfAll wsX1_leastOfAll) := goodIn_app (goodIn_of _ (by decide +kernel)) ggX6_solveFor_X1_leastOfAll
theorem dX6_solveFor_0 : decode cX6_solveFor 0 = .ok (.aload_n 0, 1) := by decide +kernel
theorem dX6_solveFor_1 : decode cX6_solveFor 1 = .ok (.getfield 11, 3) := by decide +kernel
theorem dX6_solveFor_4 : decode cX6_solveFor 4 = .ok (.aload_n 1, 1) := by decide +kernel
theorem dX6_solveFor_5 : decode cX6_solveFor 5 = .ok (.invokevirtual 29, 3) := by decide +kernel
theorem dX6_solveFor_8 : decode cX6_solveFor 8 = .ok (.aaload, 1) := by decide +kernel
theorem dX6_solveFor_9 : decode cX6_solveFor 9 = .ok (.invokevirtual 35, 3) := by decide +kernel
theorem dX6_solveFor_12 : decode cX6_solveFor 12 = .ok (.aload_n 1, 1) := by decide +kernel
theorem dX6_solveFor_13 : decode cX6_solveFor 13 = .ok (.invokevirtual 29, 3) := by decide +kernel
theorem dX6_solveFor_16 : decode cX6_solveFor 16 = .ok (.iconst 1, 1) := by decide +kernel
theorem dX6_solveFor_17 : decode cX6_solveFor 17 = .ok (.isub, 1) := by decide +kernel
theorem dX6_solveFor_18 : decode cX6_solveFor 18 = .ok (.istore_n 2, 1) := by decide +kernel
theorem dX6_solveFor_19 : decode cX6_solveFor 19 = .ok (.iload_n 2, 1) := by decide +kernel
theorem dX6_solveFor_20 : decode cX6_solveFor 20 = .ok (.ifCond .lt 31, 3) := by decide +kernel
theorem dX6_solveFor_23 : decode cX6_solveFor 23 = .ok (.aload_n 0, 1) := by decide +kernel
theorem dX6_solveFor_24 : decode cX6_solveFor 24 = .ok (.getfield 11, 3) := by decide +kernel
theorem dX6_solveFor_27 : decode cX6_solveFor 27 = .ok (.iload_n 2, 1) := by decide +kernel
theorem dX6_solveFor_28 : decode cX6_solveFor 28 = .ok (.aaload, 1) := by decide +kernel
theorem dX6_solveFor_29 : decode cX6_solveFor 29 = .ok (.aload_n 0, 1) := by decide +kernel
theorem dX6_solveFor_30 : decode cX6_solveFor 30 = .ok (.getfield 11, 3) := by decide +kernel
theorem dX6_solveFor_33 : decode cX6_solveFor 33 = .ok (.iload_n 2, 1) := by decide +kernel
theorem dX6_solveFor_34 : decode cX6_solveFor 34 = .ok (.iconst 1, 1) := by decide +kernel
theorem dX6_solveFor_35 : decode cX6_solveFor 35 = .ok (.iadd, 1) := by decide +kernel
theorem dX6_solveFor_36 : decode cX6_solveFor 36 = .ok (.aaload, 1) := by decide +kernel
theorem dX6_solveFor_37 : decode cX6_solveFor 37 = .ok (.aload_n 1, 1) := by decide +kernel
theorem dX6_solveFor_38 : decode cX6_solveFor 38 = .ok (.iload_n 2, 1) := by decide +kernel
theorem dX6_solveFor_39 : decode cX6_solveFor 39 = .ok (.invokevirtual 38, 3) := by decide +kernel
theorem dX6_solveFor_42 : decode cX6_solveFor 42 = .ok (.invokevirtual 42, 3) := by decide +kernel
theorem dX6_solveFor_45 : decode cX6_solveFor 45 = .ok (.iinc 2 (-1), 3) := by decide +kernel
theorem dX6_solveFor_48 : decode cX6_solveFor 48 = .ok (.goto (-29), 3) := by decide +kernel
theorem dX6_solveFor_51 : decode cX6_solveFor 51 = .ok (.aload_n 0, 1) := by decide +kernel
theorem dX6_solveFor_52 : decode cX6_solveFor 52 = .ok (.getfield 11, 3) := by decide +kernel
theorem dX6_solveFor_55 : decode cX6_solveFor 55 = .ok (.iconst 0, 1) := by decide +kernel
theorem dX6_solveFor_56 : decode cX6_solveFor 56 = .ok (.aaload, 1) := by decide +kernel
theorem dX6_solveFor_57 : decode cX6_solveFor 57 = .ok (.invokevirtual 46, 3) := by decide +kernel
theorem dX6_solveFor_60 : decode cX6_solveFor 60 = .ok (.ireturn, 1) := by decide +kernel
set_option maxRecDepth 20000 in
theorem ggX6_firstAt_X1_firstLeastBeside : GoodIn wsX6_firstAt wsX1_firstLeastBeside := goodIn_r _ [6, 7, 12] (by decide +kernel) (by decide +kernel)
set_option maxRecDepth 20000 in
theorem gX6_firstAt_X1_firstLeastBeside : GoodIn wsX6_firstAt (wsV RX6 49 RX1 yX1_firstLeastBeside wsX1_firstLeastBeside) := goodIn_app (goodIn_of _ (by decide +kernel)) ggX6_firstAt_X1_firstLeastBeside
theorem dX6_firstAt_0 : decode cX6_firstAt 0 = .ok (.iconst 0, 1) := by decide +kernel
theorem dX6_firstAt_1 : decode cX6_firstAt 1 = .ok (.istore_n 2, 1) := by decide +kernel
theorem dX6_firstAt_2 : decode cX6_firstAt 2 = .ok (.iconst 0, 1) := by decide +kernel
theorem dX6_firstAt_3 : decode cX6_firstAt 3 = .ok (.istore_n 3, 1) := by decide +kernel
theorem dX6_firstAt_4 : decode cX6_firstAt 4 = .ok (.iload_n 3, 1) := by decide +kernel
theorem dX6_firstAt_5 : decode cX6_firstAt 5 = .ok (.iload_n 1, 1) := by decide +kernel
theorem dX6_firstAt_6 : decode cX6_firstAt 6 = .ok (.if_icmp .gt 20, 3) := by decide +kernel
theorem dX6_firstAt_9 : decode cX6_firstAt 9 = .ok (.aload_n 0, 1) := by decide +kernel
theorem dX6_firstAt_10 : decode cX6_firstAt 10 = .ok (.getfield 11, 3) := by decide +kernel
theorem dX6_firstAt_13 : decode cX6_firstAt 13 = .ok (.iload_n 3, 1) := by decide +kernel
theorem dX6_firstAt_14 : decode cX6_firstAt 14 = .ok (.aaload, 1) := by decide +kernel
theorem dX6_firstAt_15 : decode cX6_firstAt 15 = .ok (.iload_n 2, 1) := by decide +kernel
theorem dX6_firstAt_16 : decode cX6_firstAt 16 = .ok (.invokevirtual 49, 3) := by decide +kernel
theorem dX6_firstAt_19 : decode cX6_firstAt 19 = .ok (.istore_n 2, 1) := by decide +kernel
theorem dX6_firstAt_20 : decode cX6_firstAt 20 = .ok (.iinc 3 1, 3) := by decide +kernel
theorem dX6_firstAt_23 : decode cX6_firstAt 23 = .ok (.goto (-19), 3) := by decide +kernel
theorem dX6_firstAt_26 : decode cX6_firstAt 26 = .ok (.iload_n 2, 1) := by decide +kernel
theorem dX6_firstAt_27 : decode cX6_firstAt 27 = .ok (.ireturn, 1) := by decide +kernel
set_option maxRecDepth 20000 in
theorem ggX6_fewestEmptyGaps_X1_startRow : GoodIn wsX6_fewestEmptyGaps wsX1_startRow := goodIn_r _ [8, 9, 10, 11, 12, 13, 14, 46] (by decide +kernel) (by decide +kernel)
set_option maxRecDepth 20000 in
theorem gX6_fewestEmptyGaps_X1_startRow : GoodIn wsX6_fewestEmptyGaps (wsV RX6 35 RX1 yX1_startRow wsX1_startRow) := goodIn_app (goodIn_of _ (by decide +kernel)) ggX6_fewestEmptyGaps_X1_startRow
set_option maxRecDepth 20000 in
theorem ggX6_fewestEmptyGaps_X5_gaps : GoodIn wsX6_fewestEmptyGaps wsX5_gaps := goodIn_r _ [19, 20, 47, 48, 49, 50, 51] (by decide +kernel) (by decide +kernel)
set_option maxRecDepth 20000 in
theorem gX6_fewestEmptyGaps_X5_gaps : GoodIn wsX6_fewestEmptyGaps (wsV RX6 29 RX5 yX5_gaps wsX5_gaps) := goodIn_app (goodIn_of _ (by decide +kernel)) ggX6_fewestEmptyGaps_X5_gaps
set_option maxRecDepth 20000 in
theorem ggX6_fewestEmptyGaps_X5_costsAt : GoodIn wsX6_fewestEmptyGaps wsX5_costsAt := goodIn_r _ [24, 25, 47, 48, 49, 50, 51] (by decide +kernel) (by decide +kernel)
set_option maxRecDepth 20000 in
theorem gX6_fewestEmptyGaps_X5_costsAt : GoodIn wsX6_fewestEmptyGaps (wsV RX6 38 RX5 yX5_costsAt wsX5_costsAt) := goodIn_app (goodIn_of _ (by decide +kernel)) ggX6_fewestEmptyGaps_X5_costsAt
set_option maxRecDepth 20000 in
theorem ggX6_fewestEmptyGaps_X1_growFrom : GoodIn wsX6_fewestEmptyGaps wsX1_growFrom := goodIn_r _ [29, 9, 10, 30, 31, 32, 33, 34, 35, 36, 7, 37, 46] (by decide +kernel) (by decide +kernel)
set_option maxRecDepth 20000 in
theorem gX6_fewestEmptyGaps_X1_growFrom : GoodIn wsX6_fewestEmptyGaps (wsV RX6 42 RX1 yX1_growFrom wsX1_growFrom) := goodIn_app (goodIn_of _ (by decide +kernel)) ggX6_fewestEmptyGaps_X1_growFrom
set_option maxRecDepth 20000 in
theorem ggX6_fewestEmptyGaps_X1_leastOfAll : GoodIn wsX6_fewestEmptyGaps wsX1_leastOfAll := goodIn_r _ [41, 9, 34, 35, 36, 7, 37, 46] (by decide +kernel) (by decide +kernel)
set_option maxRecDepth 20000 in
theorem gX6_fewestEmptyGaps_X1_leastOfAll : GoodIn wsX6_fewestEmptyGaps (wsV RX6 46 RX1 yX1_leastOfAll wsX1_leastOfAll) := goodIn_app (goodIn_of _ (by decide +kernel)) ggX6_fewestEmptyGaps_X1_leastOfAll
theorem dX6_fewestEmptyGaps_0 : decode cX6_fewestEmptyGaps 0 = .ok (.aload_n 0, 1) := by decide +kernel
theorem dX6_fewestEmptyGaps_1 : decode cX6_fewestEmptyGaps 1 = .ok (.getfield 18, 3) := by decide +kernel
theorem dX6_fewestEmptyGaps_4 : decode cX6_fewestEmptyGaps 4 = .ok (.invokevirtual 35, 3) := by decide +kernel
theorem dX6_fewestEmptyGaps_7 : decode cX6_fewestEmptyGaps 7 = .ok (.iconst 0, 1) := by decide +kernel
theorem dX6_fewestEmptyGaps_8 : decode cX6_fewestEmptyGaps 8 = .ok (.istore_n 2, 1) := by decide +kernel
theorem dX6_fewestEmptyGaps_9 : decode cX6_fewestEmptyGaps 9 = .ok (.iload_n 2, 1) := by decide +kernel
theorem dX6_fewestEmptyGaps_10 : decode cX6_fewestEmptyGaps 10 = .ok (.aload_n 1, 1) := by decide +kernel
theorem dX6_fewestEmptyGaps_11 : decode cX6_fewestEmptyGaps 11 = .ok (.invokevirtual 29, 3) := by decide +kernel
theorem dX6_fewestEmptyGaps_14 : decode cX6_fewestEmptyGaps 14 = .ok (.if_icmp .ge 81, 3) := by decide +kernel
theorem dX6_fewestEmptyGaps_17 : decode cX6_fewestEmptyGaps 17 = .ok (.aload_n 1, 1) := by decide +kernel
theorem dX6_fewestEmptyGaps_18 : decode cX6_fewestEmptyGaps 18 = .ok (.iload_n 2, 1) := by decide +kernel
theorem dX6_fewestEmptyGaps_19 : decode cX6_fewestEmptyGaps 19 = .ok (.invokevirtual 38, 3) := by decide +kernel
theorem dX6_fewestEmptyGaps_22 : decode cX6_fewestEmptyGaps 22 = .ok (.astore_n 3, 1) := by decide +kernel
theorem dX6_fewestEmptyGaps_23 : decode cX6_fewestEmptyGaps 23 = .ok (.iconst 0, 1) := by decide +kernel
theorem dX6_fewestEmptyGaps_24 : decode cX6_fewestEmptyGaps 24 = .ok (.istore 4, 2) := by decide +kernel
theorem dX6_fewestEmptyGaps_26 : decode cX6_fewestEmptyGaps 26 = .ok (.iload 4, 2) := by decide +kernel
theorem dX6_fewestEmptyGaps_28 : decode cX6_fewestEmptyGaps 28 = .ok (.bipush 9, 2) := by decide +kernel
theorem dX6_fewestEmptyGaps_30 : decode cX6_fewestEmptyGaps 30 = .ok (.if_icmp .ge 44, 3) := by decide +kernel
theorem dX6_fewestEmptyGaps_33 : decode cX6_fewestEmptyGaps 33 = .ok (.iload 4, 2) := by decide +kernel
theorem dX6_fewestEmptyGaps_35 : decode cX6_fewestEmptyGaps 35 = .ok (.ifCond .ne 7, 3) := by decide +kernel
theorem dX6_fewestEmptyGaps_38 : decode cX6_fewestEmptyGaps 38 = .ok (.iconst 1, 1) := by decide +kernel
theorem dX6_fewestEmptyGaps_39 : decode cX6_fewestEmptyGaps 39 = .ok (.goto 4, 3) := by decide +kernel
theorem dX6_fewestEmptyGaps_42 : decode cX6_fewestEmptyGaps 42 = .ok (.iconst 0, 1) := by decide +kernel
theorem dX6_fewestEmptyGaps_43 : decode cX6_fewestEmptyGaps 43 = .ok (.istore 5, 2) := by decide +kernel
theorem dX6_fewestEmptyGaps_45 : decode cX6_fewestEmptyGaps 45 = .ok (.aload_n 0, 1) := by decide +kernel
theorem dX6_fewestEmptyGaps_46 : decode cX6_fewestEmptyGaps 46 = .ok (.getfield 22, 3) := by decide +kernel
theorem dX6_fewestEmptyGaps_49 : decode cX6_fewestEmptyGaps 49 = .ok (.iload 4, 2) := by decide +kernel
theorem dX6_fewestEmptyGaps_51 : decode cX6_fewestEmptyGaps 51 = .ok (.aload_n 3, 1) := by decide +kernel
theorem dX6_fewestEmptyGaps_52 : decode cX6_fewestEmptyGaps 52 = .ok (.iload 4, 2) := by decide +kernel
theorem dX6_fewestEmptyGaps_54 : decode cX6_fewestEmptyGaps 54 = .ok (.iaload, 1) := by decide +kernel
theorem dX6_fewestEmptyGaps_55 : decode cX6_fewestEmptyGaps 55 = .ok (.ldc 53, 2) := by decide +kernel
theorem dX6_fewestEmptyGaps_57 : decode cX6_fewestEmptyGaps 57 = .ok (.if_icmp .ge 8, 3) := by decide +kernel
theorem dX6_fewestEmptyGaps_60 : decode cX6_fewestEmptyGaps 60 = .ok (.iload 5, 2) := by decide +kernel
theorem dX6_fewestEmptyGaps_62 : decode cX6_fewestEmptyGaps 62 = .ok (.goto 5, 3) := by decide +kernel
theorem dX6_fewestEmptyGaps_65 : decode cX6_fewestEmptyGaps 65 = .ok (.ldc 53, 2) := by decide +kernel
theorem dX6_fewestEmptyGaps_67 : decode cX6_fewestEmptyGaps 67 = .ok (.iastore, 1) := by decide +kernel
theorem dX6_fewestEmptyGaps_68 : decode cX6_fewestEmptyGaps 68 = .ok (.iinc 4 1, 3) := by decide +kernel
theorem dX6_fewestEmptyGaps_71 : decode cX6_fewestEmptyGaps 71 = .ok (.goto (-45), 3) := by decide +kernel
theorem dX6_fewestEmptyGaps_74 : decode cX6_fewestEmptyGaps 74 = .ok (.aload_n 0, 1) := by decide +kernel
theorem dX6_fewestEmptyGaps_75 : decode cX6_fewestEmptyGaps 75 = .ok (.getfield 18, 3) := by decide +kernel
theorem dX6_fewestEmptyGaps_78 : decode cX6_fewestEmptyGaps 78 = .ok (.aload_n 0, 1) := by decide +kernel
theorem dX6_fewestEmptyGaps_79 : decode cX6_fewestEmptyGaps 79 = .ok (.getfield 18, 3) := by decide +kernel
theorem dX6_fewestEmptyGaps_82 : decode cX6_fewestEmptyGaps 82 = .ok (.aload_n 0, 1) := by decide +kernel
theorem dX6_fewestEmptyGaps_83 : decode cX6_fewestEmptyGaps 83 = .ok (.getfield 22, 3) := by decide +kernel
theorem dX6_fewestEmptyGaps_86 : decode cX6_fewestEmptyGaps 86 = .ok (.invokevirtual 42, 3) := by decide +kernel
theorem dX6_fewestEmptyGaps_89 : decode cX6_fewestEmptyGaps 89 = .ok (.iinc 2 1, 3) := by decide +kernel
theorem dX6_fewestEmptyGaps_92 : decode cX6_fewestEmptyGaps 92 = .ok (.goto (-83), 3) := by decide +kernel
theorem dX6_fewestEmptyGaps_95 : decode cX6_fewestEmptyGaps 95 = .ok (.aload_n 0, 1) := by decide +kernel
theorem dX6_fewestEmptyGaps_96 : decode cX6_fewestEmptyGaps 96 = .ok (.getfield 18, 3) := by decide +kernel
theorem dX6_fewestEmptyGaps_99 : decode cX6_fewestEmptyGaps 99 = .ok (.invokevirtual 46, 3) := by decide +kernel
theorem dX6_fewestEmptyGaps_102 : decode cX6_fewestEmptyGaps 102 = .ok (.ireturn, 1) := by decide +kernel
set_option maxRecDepth 20000 in
theorem ggX6_countFor_J7_fill_53178 : GoodIn wsX6_countFor wsJ7_fill_53178 := goodIn_r _ [5] (by decide +kernel) (by decide +kernel)
set_option maxRecDepth 20000 in
theorem gX6_countFor_J7_fill_53178 : GoodIn wsX6_countFor (va_wsS RX6 54 yJ7_fill_53178 wsJ7_fill_53178) := goodIn_app (goodIn_of _ (by decide +kernel)) ggX6_countFor_J7_fill_53178
set_option maxRecDepth 20000 in
theorem ggX6_countFor_X5_gaps : GoodIn wsX6_countFor wsX5_gaps := goodIn_r _ [10, 11, 27, 28, 29, 30, 31] (by decide +kernel) (by decide +kernel)
set_option maxRecDepth 20000 in
theorem gX6_countFor_X5_gaps : GoodIn wsX6_countFor (wsV RX6 29 RX5 yX5_gaps wsX5_gaps) := goodIn_app (goodIn_of _ (by decide +kernel)) ggX6_countFor_X5_gaps
set_option maxRecDepth 20000 in
theorem ggX6_countFor_X5_costsAt : GoodIn wsX6_countFor wsX5_costsAt := goodIn_r _ [15, 16, 27, 28, 29, 30, 31] (by decide +kernel) (by decide +kernel)
set_option maxRecDepth 20000 in
theorem gX6_countFor_X5_costsAt : GoodIn wsX6_countFor (wsV RX6 38 RX5 yX5_costsAt wsX5_costsAt) := goodIn_app (goodIn_of _ (by decide +kernel)) ggX6_countFor_X5_costsAt
set_option maxRecDepth 20000 in
theorem ggX6_countFor_X6_countWithGap : GoodIn wsX6_countFor wsX6_countWithGap := goodIn_r _ [21, 1, 22, 23, 24, 25, 26] (by decide +kernel) (by decide +kernel)
set_option maxRecDepth 20000 in
theorem gX6_countFor_X6_countWithGap : GoodIn wsX6_countFor (wsV RX6 60 RX6 yX6_countWithGap wsX6_countWithGap) := goodIn_app (goodIn_of _ (by decide +kernel)) ggX6_countFor_X6_countWithGap
theorem dX6_countFor_0 : decode cX6_countFor 0 = .ok (.aload_n 0, 1) := by decide +kernel
theorem dX6_countFor_1 : decode cX6_countFor 1 = .ok (.getfield 26, 3) := by decide +kernel
theorem dX6_countFor_4 : decode cX6_countFor 4 = .ok (.iconst 0, 1) := by decide +kernel
theorem dX6_countFor_5 : decode cX6_countFor 5 = .ok (.invokestatic 54, 3) := by decide +kernel
theorem dX6_countFor_8 : decode cX6_countFor 8 = .ok (.aload_n 0, 1) := by decide +kernel
theorem dX6_countFor_9 : decode cX6_countFor 9 = .ok (.getfield 26, 3) := by decide +kernel
theorem dX6_countFor_12 : decode cX6_countFor 12 = .ok (.iconst 0, 1) := by decide +kernel
theorem dX6_countFor_13 : decode cX6_countFor 13 = .ok (.iconst 1, 1) := by decide +kernel
theorem dX6_countFor_14 : decode cX6_countFor 14 = .ok (.iastore, 1) := by decide +kernel
theorem dX6_countFor_15 : decode cX6_countFor 15 = .ok (.iconst 1, 1) := by decide +kernel
theorem dX6_countFor_16 : decode cX6_countFor 16 = .ok (.istore_n 2, 1) := by decide +kernel
theorem dX6_countFor_17 : decode cX6_countFor 17 = .ok (.iconst 0, 1) := by decide +kernel
theorem dX6_countFor_18 : decode cX6_countFor 18 = .ok (.istore_n 3, 1) := by decide +kernel
theorem dX6_countFor_19 : decode cX6_countFor 19 = .ok (.iload_n 3, 1) := by decide +kernel
theorem dX6_countFor_20 : decode cX6_countFor 20 = .ok (.aload_n 1, 1) := by decide +kernel
theorem dX6_countFor_21 : decode cX6_countFor 21 = .ok (.invokevirtual 29, 3) := by decide +kernel
theorem dX6_countFor_24 : decode cX6_countFor 24 = .ok (.if_icmp .ge 20, 3) := by decide +kernel
theorem dX6_countFor_27 : decode cX6_countFor 27 = .ok (.aload_n 0, 1) := by decide +kernel
theorem dX6_countFor_28 : decode cX6_countFor 28 = .ok (.aload_n 1, 1) := by decide +kernel
theorem dX6_countFor_29 : decode cX6_countFor 29 = .ok (.iload_n 3, 1) := by decide +kernel
theorem dX6_countFor_30 : decode cX6_countFor 30 = .ok (.invokevirtual 38, 3) := by decide +kernel
theorem dX6_countFor_33 : decode cX6_countFor 33 = .ok (.iload_n 2, 1) := by decide +kernel
theorem dX6_countFor_34 : decode cX6_countFor 34 = .ok (.invokevirtual 60, 3) := by decide +kernel
theorem dX6_countFor_37 : decode cX6_countFor 37 = .ok (.istore_n 2, 1) := by decide +kernel
theorem dX6_countFor_38 : decode cX6_countFor 38 = .ok (.iinc 3 1, 3) := by decide +kernel
theorem dX6_countFor_41 : decode cX6_countFor 41 = .ok (.goto (-22), 3) := by decide +kernel
theorem dX6_countFor_44 : decode cX6_countFor 44 = .ok (.iload_n 2, 1) := by decide +kernel
theorem dX6_countFor_45 : decode cX6_countFor 45 = .ok (.ireturn, 1) := by decide +kernel
theorem dX6_countWithGap_0 : decode cX6_countWithGap 0 = .ok (.iconst 0, 1) := by decide +kernel
theorem dX6_countWithGap_1 : decode cX6_countWithGap 1 = .ok (.istore_n 3, 1) := by decide +kernel
theorem dX6_countWithGap_2 : decode cX6_countWithGap 2 = .ok (.iconst 0, 1) := by decide +kernel
theorem dX6_countWithGap_3 : decode cX6_countWithGap 3 = .ok (.istore 4, 2) := by decide +kernel
theorem dX6_countWithGap_5 : decode cX6_countWithGap 5 = .ok (.iload 4, 2) := by decide +kernel
theorem dX6_countWithGap_7 : decode cX6_countWithGap 7 = .ok (.bipush 9, 2) := by decide +kernel
theorem dX6_countWithGap_9 : decode cX6_countWithGap 9 = .ok (.if_icmp .ge 61, 3) := by decide +kernel
theorem dX6_countWithGap_12 : decode cX6_countWithGap 12 = .ok (.iload 4, 2) := by decide +kernel
theorem dX6_countWithGap_14 : decode cX6_countWithGap 14 = .ok (.ifCond .ne 7, 3) := by decide +kernel
theorem dX6_countWithGap_17 : decode cX6_countWithGap 17 = .ok (.iconst 0, 1) := by decide +kernel
theorem dX6_countWithGap_18 : decode cX6_countWithGap 18 = .ok (.goto 10, 3) := by decide +kernel
theorem dX6_countWithGap_21 : decode cX6_countWithGap 21 = .ok (.aload_n 0, 1) := by decide +kernel
theorem dX6_countWithGap_22 : decode cX6_countWithGap 22 = .ok (.getfield 26, 3) := by decide +kernel
theorem dX6_countWithGap_25 : decode cX6_countWithGap 25 = .ok (.iload 4, 2) := by decide +kernel
theorem dX6_countWithGap_27 : decode cX6_countWithGap 27 = .ok (.iaload, 1) := by decide +kernel
theorem dX6_countWithGap_28 : decode cX6_countWithGap 28 = .ok (.istore 5, 2) := by decide +kernel
theorem dX6_countWithGap_30 : decode cX6_countWithGap 30 = .ok (.aload_n 0, 1) := by decide +kernel
theorem dX6_countWithGap_31 : decode cX6_countWithGap 31 = .ok (.getfield 26, 3) := by decide +kernel
theorem dX6_countWithGap_34 : decode cX6_countWithGap 34 = .ok (.iload 4, 2) := by decide +kernel
theorem dX6_countWithGap_36 : decode cX6_countWithGap 36 = .ok (.aload_n 1, 1) := by decide +kernel
theorem dX6_countWithGap_37 : decode cX6_countWithGap 37 = .ok (.iload 4, 2) := by decide +kernel
theorem dX6_countWithGap_39 : decode cX6_countWithGap 39 = .ok (.iaload, 1) := by decide +kernel
theorem dX6_countWithGap_40 : decode cX6_countWithGap 40 = .ok (.ldc 53, 2) := by decide +kernel
theorem dX6_countWithGap_42 : decode cX6_countWithGap 42 = .ok (.if_icmp .ge 10, 3) := by decide +kernel
theorem dX6_countWithGap_45 : decode cX6_countWithGap 45 = .ok (.iload_n 2, 1) := by decide +kernel
theorem dX6_countWithGap_46 : decode cX6_countWithGap 46 = .ok (.iload 5, 2) := by decide +kernel
theorem dX6_countWithGap_48 : decode cX6_countWithGap 48 = .ok (.isub, 1) := by decide +kernel
theorem dX6_countWithGap_49 : decode cX6_countWithGap 49 = .ok (.goto 4, 3) := by decide +kernel
theorem dX6_countWithGap_52 : decode cX6_countWithGap 52 = .ok (.iconst 0, 1) := by decide +kernel
theorem dX6_countWithGap_53 : decode cX6_countWithGap 53 = .ok (.iastore, 1) := by decide +kernel
theorem dX6_countWithGap_54 : decode cX6_countWithGap 54 = .ok (.iload_n 3, 1) := by decide +kernel
theorem dX6_countWithGap_55 : decode cX6_countWithGap 55 = .ok (.aload_n 0, 1) := by decide +kernel
theorem dX6_countWithGap_56 : decode cX6_countWithGap 56 = .ok (.getfield 26, 3) := by decide +kernel
theorem dX6_countWithGap_59 : decode cX6_countWithGap 59 = .ok (.iload 4, 2) := by decide +kernel
theorem dX6_countWithGap_61 : decode cX6_countWithGap 61 = .ok (.iaload, 1) := by decide +kernel
theorem dX6_countWithGap_62 : decode cX6_countWithGap 62 = .ok (.iadd, 1) := by decide +kernel
theorem dX6_countWithGap_63 : decode cX6_countWithGap 63 = .ok (.istore_n 3, 1) := by decide +kernel
theorem dX6_countWithGap_64 : decode cX6_countWithGap 64 = .ok (.iinc 4 1, 3) := by decide +kernel
theorem dX6_countWithGap_67 : decode cX6_countWithGap 67 = .ok (.goto (-62), 3) := by decide +kernel
theorem dX6_countWithGap_70 : decode cX6_countWithGap 70 = .ok (.iload_n 3, 1) := by decide +kernel
theorem dX6_countWithGap_71 : decode cX6_countWithGap 71 = .ok (.ireturn, 1) := by decide +kernel
theorem dJ6_bitCount_0f7a4_0 : decode cJ6_bitCount_0f7a4 0 = .ok (.iload_n 0, 1) := by decide +kernel
theorem dJ6_bitCount_0f7a4_1 : decode cJ6_bitCount_0f7a4 1 = .ok (.iload_n 0, 1) := by decide +kernel
theorem dJ6_bitCount_0f7a4_2 : decode cJ6_bitCount_0f7a4 2 = .ok (.iconst 1, 1) := by decide +kernel
theorem dJ6_bitCount_0f7a4_3 : decode cJ6_bitCount_0f7a4 3 = .ok (.iushr, 1) := by decide +kernel
theorem dJ6_bitCount_0f7a4_4 : decode cJ6_bitCount_0f7a4 4 = .ok (.ldc_w 265, 3) := by decide +kernel
theorem dJ6_bitCount_0f7a4_7 : decode cJ6_bitCount_0f7a4 7 = .ok (.iand, 1) := by decide +kernel
theorem dJ6_bitCount_0f7a4_8 : decode cJ6_bitCount_0f7a4 8 = .ok (.isub, 1) := by decide +kernel
theorem dJ6_bitCount_0f7a4_9 : decode cJ6_bitCount_0f7a4 9 = .ok (.istore_n 0, 1) := by decide +kernel
theorem dJ6_bitCount_0f7a4_10 : decode cJ6_bitCount_0f7a4 10 = .ok (.iload_n 0, 1) := by decide +kernel
theorem dJ6_bitCount_0f7a4_11 : decode cJ6_bitCount_0f7a4 11 = .ok (.ldc_w 266, 3) := by decide +kernel
theorem dJ6_bitCount_0f7a4_14 : decode cJ6_bitCount_0f7a4 14 = .ok (.iand, 1) := by decide +kernel
theorem dJ6_bitCount_0f7a4_15 : decode cJ6_bitCount_0f7a4 15 = .ok (.iload_n 0, 1) := by decide +kernel
theorem dJ6_bitCount_0f7a4_16 : decode cJ6_bitCount_0f7a4 16 = .ok (.iconst 2, 1) := by decide +kernel
theorem dJ6_bitCount_0f7a4_17 : decode cJ6_bitCount_0f7a4 17 = .ok (.iushr, 1) := by decide +kernel
theorem dJ6_bitCount_0f7a4_18 : decode cJ6_bitCount_0f7a4 18 = .ok (.ldc_w 266, 3) := by decide +kernel
theorem dJ6_bitCount_0f7a4_21 : decode cJ6_bitCount_0f7a4 21 = .ok (.iand, 1) := by decide +kernel
theorem dJ6_bitCount_0f7a4_22 : decode cJ6_bitCount_0f7a4 22 = .ok (.iadd, 1) := by decide +kernel
theorem dJ6_bitCount_0f7a4_23 : decode cJ6_bitCount_0f7a4 23 = .ok (.istore_n 0, 1) := by decide +kernel
theorem dJ6_bitCount_0f7a4_24 : decode cJ6_bitCount_0f7a4 24 = .ok (.iload_n 0, 1) := by decide +kernel
theorem dJ6_bitCount_0f7a4_25 : decode cJ6_bitCount_0f7a4 25 = .ok (.iload_n 0, 1) := by decide +kernel
theorem dJ6_bitCount_0f7a4_26 : decode cJ6_bitCount_0f7a4 26 = .ok (.iconst 4, 1) := by decide +kernel
theorem dJ6_bitCount_0f7a4_27 : decode cJ6_bitCount_0f7a4 27 = .ok (.iushr, 1) := by decide +kernel
theorem dJ6_bitCount_0f7a4_28 : decode cJ6_bitCount_0f7a4 28 = .ok (.iadd, 1) := by decide +kernel
theorem dJ6_bitCount_0f7a4_29 : decode cJ6_bitCount_0f7a4 29 = .ok (.ldc_w 267, 3) := by decide +kernel
theorem dJ6_bitCount_0f7a4_32 : decode cJ6_bitCount_0f7a4 32 = .ok (.iand, 1) := by decide +kernel
theorem dJ6_bitCount_0f7a4_33 : decode cJ6_bitCount_0f7a4 33 = .ok (.istore_n 0, 1) := by decide +kernel
theorem dJ6_bitCount_0f7a4_34 : decode cJ6_bitCount_0f7a4 34 = .ok (.iload_n 0, 1) := by decide +kernel
theorem dJ6_bitCount_0f7a4_35 : decode cJ6_bitCount_0f7a4 35 = .ok (.iload_n 0, 1) := by decide +kernel
theorem dJ6_bitCount_0f7a4_36 : decode cJ6_bitCount_0f7a4 36 = .ok (.bipush 8, 2) := by decide +kernel
theorem dJ6_bitCount_0f7a4_38 : decode cJ6_bitCount_0f7a4 38 = .ok (.iushr, 1) := by decide +kernel
theorem dJ6_bitCount_0f7a4_39 : decode cJ6_bitCount_0f7a4 39 = .ok (.iadd, 1) := by decide +kernel
theorem dJ6_bitCount_0f7a4_40 : decode cJ6_bitCount_0f7a4 40 = .ok (.istore_n 0, 1) := by decide +kernel
theorem dJ6_bitCount_0f7a4_41 : decode cJ6_bitCount_0f7a4 41 = .ok (.iload_n 0, 1) := by decide +kernel
theorem dJ6_bitCount_0f7a4_42 : decode cJ6_bitCount_0f7a4 42 = .ok (.iload_n 0, 1) := by decide +kernel
theorem dJ6_bitCount_0f7a4_43 : decode cJ6_bitCount_0f7a4 43 = .ok (.bipush 16, 2) := by decide +kernel
theorem dJ6_bitCount_0f7a4_45 : decode cJ6_bitCount_0f7a4 45 = .ok (.iushr, 1) := by decide +kernel
theorem dJ6_bitCount_0f7a4_46 : decode cJ6_bitCount_0f7a4 46 = .ok (.iadd, 1) := by decide +kernel
theorem dJ6_bitCount_0f7a4_47 : decode cJ6_bitCount_0f7a4 47 = .ok (.istore_n 0, 1) := by decide +kernel
theorem dJ6_bitCount_0f7a4_48 : decode cJ6_bitCount_0f7a4 48 = .ok (.iload_n 0, 1) := by decide +kernel
theorem dJ6_bitCount_0f7a4_49 : decode cJ6_bitCount_0f7a4 49 = .ok (.bipush 63, 2) := by decide +kernel
theorem dJ6_bitCount_0f7a4_51 : decode cJ6_bitCount_0f7a4 51 = .ok (.iand, 1) := by decide +kernel
theorem dJ6_bitCount_0f7a4_52 : decode cJ6_bitCount_0f7a4 52 = .ok (.ireturn, 1) := by decide +kernel
theorem dJ9_min_7cf53_0 : decode cJ9_min_7cf53 0 = .ok (.iload_n 0, 1) := by decide +kernel
theorem dJ9_min_7cf53_1 : decode cJ9_min_7cf53 1 = .ok (.iload_n 1, 1) := by decide +kernel
theorem dJ9_min_7cf53_2 : decode cJ9_min_7cf53 2 = .ok (.if_icmp .gt 7, 3) := by decide +kernel
theorem dJ9_min_7cf53_5 : decode cJ9_min_7cf53 5 = .ok (.iload_n 0, 1) := by decide +kernel
theorem dJ9_min_7cf53_6 : decode cJ9_min_7cf53 6 = .ok (.goto 4, 3) := by decide +kernel
theorem dJ9_min_7cf53_9 : decode cJ9_min_7cf53 9 = .ok (.iload_n 1, 1) := by decide +kernel
theorem dJ9_min_7cf53_10 : decode cJ9_min_7cf53 10 = .ok (.ireturn, 1) := by decide +kernel
theorem dJ7_fill_53178_0 : decode cJ7_fill_53178 0 = .ok (.iconst 0, 1) := by decide +kernel
theorem dJ7_fill_53178_1 : decode cJ7_fill_53178 1 = .ok (.istore_n 2, 1) := by decide +kernel
theorem dJ7_fill_53178_2 : decode cJ7_fill_53178 2 = .ok (.aload_n 0, 1) := by decide +kernel
theorem dJ7_fill_53178_3 : decode cJ7_fill_53178 3 = .ok (.arraylength, 1) := by decide +kernel
theorem dJ7_fill_53178_4 : decode cJ7_fill_53178 4 = .ok (.istore_n 3, 1) := by decide +kernel
theorem dJ7_fill_53178_5 : decode cJ7_fill_53178 5 = .ok (.iload_n 2, 1) := by decide +kernel
theorem dJ7_fill_53178_6 : decode cJ7_fill_53178 6 = .ok (.iload_n 3, 1) := by decide +kernel
theorem dJ7_fill_53178_7 : decode cJ7_fill_53178 7 = .ok (.if_icmp .ge 13, 3) := by decide +kernel
theorem dJ7_fill_53178_10 : decode cJ7_fill_53178 10 = .ok (.aload_n 0, 1) := by decide +kernel
theorem dJ7_fill_53178_11 : decode cJ7_fill_53178 11 = .ok (.iload_n 2, 1) := by decide +kernel
theorem dJ7_fill_53178_12 : decode cJ7_fill_53178 12 = .ok (.iload_n 1, 1) := by decide +kernel
theorem dJ7_fill_53178_13 : decode cJ7_fill_53178 13 = .ok (.iastore, 1) := by decide +kernel
theorem dJ7_fill_53178_14 : decode cJ7_fill_53178 14 = .ok (.iinc 2 1, 3) := by decide +kernel
theorem dJ7_fill_53178_17 : decode cJ7_fill_53178 17 = .ok (.goto (-12), 3) := by decide +kernel
theorem dJ7_fill_53178_20 : decode cJ7_fill_53178 20 = .ok (.return_, 1) := by decide +kernel
theorem dJ7_copyOf_59c91_0 : decode cJ7_copyOf_59c91 0 = .ok (.iload_n 1, 1) := by decide +kernel
theorem dJ7_copyOf_59c91_1 : decode cJ7_copyOf_59c91 1 = .ok (.aload_n 0, 1) := by decide +kernel
theorem dJ7_copyOf_59c91_2 : decode cJ7_copyOf_59c91 2 = .ok (.arraylength, 1) := by decide +kernel
theorem dJ7_copyOf_59c91_3 : decode cJ7_copyOf_59c91 3 = .ok (.if_icmp .ne 11, 3) := by decide +kernel
theorem dJ7_copyOf_59c91_6 : decode cJ7_copyOf_59c91 6 = .ok (.aload_n 0, 1) := by decide +kernel
theorem dJ7_copyOf_59c91_7 : decode cJ7_copyOf_59c91 7 = .ok (.invokevirtual 316, 3) := by decide +kernel
theorem dJ7_copyOf_59c91_10 : decode cJ7_copyOf_59c91 10 = .ok (.checkcast 317, 3) := by decide +kernel
theorem dJ7_copyOf_59c91_13 : decode cJ7_copyOf_59c91 13 = .ok (.areturn, 1) := by decide +kernel
theorem dJ7_copyOf_59c91_14 : decode cJ7_copyOf_59c91 14 = .ok (.iload_n 1, 1) := by decide +kernel
theorem dJ7_copyOf_59c91_15 : decode cJ7_copyOf_59c91 15 = .ok (.newarray .int, 2) := by decide +kernel
theorem dJ7_copyOf_59c91_17 : decode cJ7_copyOf_59c91 17 = .ok (.astore_n 2, 1) := by decide +kernel
theorem dJ7_copyOf_59c91_18 : decode cJ7_copyOf_59c91 18 = .ok (.aload_n 0, 1) := by decide +kernel
theorem dJ7_copyOf_59c91_19 : decode cJ7_copyOf_59c91 19 = .ok (.iconst 0, 1) := by decide +kernel
theorem dJ7_copyOf_59c91_20 : decode cJ7_copyOf_59c91 20 = .ok (.aload_n 2, 1) := by decide +kernel
theorem dJ7_copyOf_59c91_21 : decode cJ7_copyOf_59c91 21 = .ok (.iconst 0, 1) := by decide +kernel
theorem dJ7_copyOf_59c91_22 : decode cJ7_copyOf_59c91 22 = .ok (.aload_n 0, 1) := by decide +kernel
theorem dJ7_copyOf_59c91_23 : decode cJ7_copyOf_59c91 23 = .ok (.arraylength, 1) := by decide +kernel
theorem dJ7_copyOf_59c91_24 : decode cJ7_copyOf_59c91 24 = .ok (.iload_n 1, 1) := by decide +kernel
theorem dJ7_copyOf_59c91_25 : decode cJ7_copyOf_59c91 25 = .ok (.invokestatic 304, 3) := by decide +kernel
theorem dJ7_copyOf_59c91_28 : decode cJ7_copyOf_59c91 28 = .ok (.invokestatic 150, 3) := by decide +kernel
theorem dJ7_copyOf_59c91_31 : decode cJ7_copyOf_59c91 31 = .ok (.aload_n 2, 1) := by decide +kernel
theorem dJ7_copyOf_59c91_32 : decode cJ7_copyOf_59c91 32 = .ok (.areturn, 1) := by decide +kernel
