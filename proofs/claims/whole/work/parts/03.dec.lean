set_option maxRecDepth 20000 in
theorem ggX0_init_X0_limitTo : GoodIn wsX0_init wsX0_limitTo := goodIn_r _ [11, 6, 12, 13, 14, 10, 15, 16, 17, 18, 19, 20, 21, 22, 23, 24, 25, 26] (by decide +kernel) (by decide +kernel)
set_option maxRecDepth 20000 in
theorem gX0_init_X0_limitTo : GoodIn wsX0_init (wsV RX0 16 RX0 yX0_limitTo wsX0_limitTo) := goodIn_app (goodIn_of _ (by decide +kernel)) ggX0_init_X0_limitTo
theorem dX0_init_0 : decode cX0_init 0 = .ok (.aload_n 0, 1) := by decide +kernel
theorem dX0_init_1 : decode cX0_init 1 = .ok (.invokespecial 3, 3) := by decide +kernel
theorem dX0_init_4 : decode cX0_init 4 = .ok (.aload_n 0, 1) := by decide +kernel
theorem dX0_init_5 : decode cX0_init 5 = .ok (.bipush 9, 2) := by decide +kernel
theorem dX0_init_7 : decode cX0_init 7 = .ok (.bipush 9, 2) := by decide +kernel
theorem dX0_init_9 : decode cX0_init 9 = .ok (.multianewarray 9 2, 4) := by decide +kernel
theorem dX0_init_13 : decode cX0_init 13 = .ok (.putfield 11, 3) := by decide +kernel
theorem dX0_init_16 : decode cX0_init 16 = .ok (.aload_n 0, 1) := by decide +kernel
theorem dX0_init_17 : decode cX0_init 17 = .ok (.iconst 3, 1) := by decide +kernel
theorem dX0_init_18 : decode cX0_init 18 = .ok (.invokevirtual 16, 3) := by decide +kernel
theorem dX0_init_21 : decode cX0_init 21 = .ok (.pop, 1) := by decide +kernel
theorem dX0_init_22 : decode cX0_init 22 = .ok (.return_, 1) := by decide +kernel
set_option maxRecDepth 20000 in
theorem ggX0_holesMoved_J6_bitCount_0f7a4 : GoodIn wsX0_holesMoved wsJ6_bitCount_0f7a4 := goodIn_r _ [4, 5, 6, 7] (by decide +kernel) (by decide +kernel)
set_option maxRecDepth 20000 in
theorem gX0_holesMoved_J6_bitCount_0f7a4 : GoodIn wsX0_holesMoved (va_wsS RX0 24 yJ6_bitCount_0f7a4 wsJ6_bitCount_0f7a4) := goodIn_app (goodIn_of _ (by decide +kernel)) ggX0_holesMoved_J6_bitCount_0f7a4
theorem dX0_holesMoved_0 : decode cX0_holesMoved 0 = .ok (.getstatic 20, 3) := by decide +kernel
theorem dX0_holesMoved_3 : decode cX0_holesMoved 3 = .ok (.iload_n 0, 1) := by decide +kernel
theorem dX0_holesMoved_4 : decode cX0_holesMoved 4 = .ok (.iaload, 1) := by decide +kernel
theorem dX0_holesMoved_5 : decode cX0_holesMoved 5 = .ok (.getstatic 20, 3) := by decide +kernel
theorem dX0_holesMoved_8 : decode cX0_holesMoved 8 = .ok (.iload_n 1, 1) := by decide +kernel
theorem dX0_holesMoved_9 : decode cX0_holesMoved 9 = .ok (.iaload, 1) := by decide +kernel
theorem dX0_holesMoved_10 : decode cX0_holesMoved 10 = .ok (.ixor, 1) := by decide +kernel
theorem dX0_holesMoved_11 : decode cX0_holesMoved 11 = .ok (.invokestatic 24, 3) := by decide +kernel
theorem dX0_holesMoved_14 : decode cX0_holesMoved 14 = .ok (.ireturn, 1) := by decide +kernel
theorem dX0_crosses_0 : decode cX0_crosses 0 = .ok (.getstatic 20, 3) := by decide +kernel
theorem dX0_crosses_3 : decode cX0_crosses 3 = .ok (.iload_n 0, 1) := by decide +kernel
theorem dX0_crosses_4 : decode cX0_crosses 4 = .ok (.iaload, 1) := by decide +kernel
theorem dX0_crosses_5 : decode cX0_crosses 5 = .ok (.getstatic 20, 3) := by decide +kernel
theorem dX0_crosses_8 : decode cX0_crosses 8 = .ok (.iload_n 1, 1) := by decide +kernel
theorem dX0_crosses_9 : decode cX0_crosses 9 = .ok (.iaload, 1) := by decide +kernel
theorem dX0_crosses_10 : decode cX0_crosses 10 = .ok (.iconst (-1), 1) := by decide +kernel
theorem dX0_crosses_11 : decode cX0_crosses 11 = .ok (.ixor, 1) := by decide +kernel
theorem dX0_crosses_12 : decode cX0_crosses 12 = .ok (.iand, 1) := by decide +kernel
theorem dX0_crosses_13 : decode cX0_crosses 13 = .ok (.ifCond .eq 7, 3) := by decide +kernel
theorem dX0_crosses_16 : decode cX0_crosses 16 = .ok (.iconst 1, 1) := by decide +kernel
theorem dX0_crosses_17 : decode cX0_crosses 17 = .ok (.goto 4, 3) := by decide +kernel
theorem dX0_crosses_20 : decode cX0_crosses 20 = .ok (.iconst 0, 1) := by decide +kernel
theorem dX0_crosses_21 : decode cX0_crosses 21 = .ok (.istore_n 2, 1) := by decide +kernel
theorem dX0_crosses_22 : decode cX0_crosses 22 = .ok (.getstatic 20, 3) := by decide +kernel
theorem dX0_crosses_25 : decode cX0_crosses 25 = .ok (.iload_n 1, 1) := by decide +kernel
theorem dX0_crosses_26 : decode cX0_crosses 26 = .ok (.iaload, 1) := by decide +kernel
theorem dX0_crosses_27 : decode cX0_crosses 27 = .ok (.getstatic 20, 3) := by decide +kernel
theorem dX0_crosses_30 : decode cX0_crosses 30 = .ok (.iload_n 0, 1) := by decide +kernel
theorem dX0_crosses_31 : decode cX0_crosses 31 = .ok (.iaload, 1) := by decide +kernel
theorem dX0_crosses_32 : decode cX0_crosses 32 = .ok (.iconst (-1), 1) := by decide +kernel
theorem dX0_crosses_33 : decode cX0_crosses 33 = .ok (.ixor, 1) := by decide +kernel
theorem dX0_crosses_34 : decode cX0_crosses 34 = .ok (.iand, 1) := by decide +kernel
theorem dX0_crosses_35 : decode cX0_crosses 35 = .ok (.ifCond .eq 7, 3) := by decide +kernel
theorem dX0_crosses_38 : decode cX0_crosses 38 = .ok (.iconst 1, 1) := by decide +kernel
theorem dX0_crosses_39 : decode cX0_crosses 39 = .ok (.goto 4, 3) := by decide +kernel
theorem dX0_crosses_42 : decode cX0_crosses 42 = .ok (.iconst 0, 1) := by decide +kernel
theorem dX0_crosses_43 : decode cX0_crosses 43 = .ok (.istore_n 3, 1) := by decide +kernel
theorem dX0_crosses_44 : decode cX0_crosses 44 = .ok (.iload_n 2, 1) := by decide +kernel
theorem dX0_crosses_45 : decode cX0_crosses 45 = .ok (.ifCond .eq 11, 3) := by decide +kernel
theorem dX0_crosses_48 : decode cX0_crosses 48 = .ok (.iload_n 3, 1) := by decide +kernel
theorem dX0_crosses_49 : decode cX0_crosses 49 = .ok (.ifCond .eq 7, 3) := by decide +kernel
theorem dX0_crosses_52 : decode cX0_crosses 52 = .ok (.iconst 1, 1) := by decide +kernel
theorem dX0_crosses_53 : decode cX0_crosses 53 = .ok (.goto 4, 3) := by decide +kernel
theorem dX0_crosses_56 : decode cX0_crosses 56 = .ok (.iconst 0, 1) := by decide +kernel
theorem dX0_crosses_57 : decode cX0_crosses 57 = .ok (.ireturn, 1) := by decide +kernel
set_option maxRecDepth 20000 in
theorem ggX0_limitTo_X0_holesMoved : GoodIn wsX0_limitTo wsX0_holesMoved := goodIn_r _ [6, 7, 8, 9, 10, 11, 12, 13] (by decide +kernel) (by decide +kernel)
set_option maxRecDepth 20000 in
theorem gX0_limitTo_X0_holesMoved : GoodIn wsX0_limitTo (va_wsS RX0 29 yX0_holesMoved wsX0_holesMoved) := goodIn_app (goodIn_of _ (by decide +kernel)) ggX0_limitTo_X0_holesMoved
set_option maxRecDepth 20000 in
theorem ggX0_limitTo_X0_crosses : GoodIn wsX0_limitTo wsX0_crosses := goodIn_r _ [16] (by decide +kernel) (by decide +kernel)
set_option maxRecDepth 20000 in
theorem gX0_limitTo_X0_crosses : GoodIn wsX0_limitTo (va_wsS RX0 33 yX0_crosses wsX0_crosses) := goodIn_app (goodIn_of _ (by decide +kernel)) ggX0_limitTo_X0_crosses
theorem dX0_limitTo_0 : decode cX0_limitTo 0 = .ok (.iconst 0, 1) := by decide +kernel
theorem dX0_limitTo_1 : decode cX0_limitTo 1 = .ok (.istore_n 2, 1) := by decide +kernel
theorem dX0_limitTo_2 : decode cX0_limitTo 2 = .ok (.iconst 0, 1) := by decide +kernel
theorem dX0_limitTo_3 : decode cX0_limitTo 3 = .ok (.istore_n 3, 1) := by decide +kernel
theorem dX0_limitTo_4 : decode cX0_limitTo 4 = .ok (.iload_n 3, 1) := by decide +kernel
theorem dX0_limitTo_5 : decode cX0_limitTo 5 = .ok (.bipush 9, 2) := by decide +kernel
theorem dX0_limitTo_7 : decode cX0_limitTo 7 = .ok (.if_icmp .ge 90, 3) := by decide +kernel
theorem dX0_limitTo_10 : decode cX0_limitTo 10 = .ok (.iconst 0, 1) := by decide +kernel
theorem dX0_limitTo_11 : decode cX0_limitTo 11 = .ok (.istore 4, 2) := by decide +kernel
theorem dX0_limitTo_13 : decode cX0_limitTo 13 = .ok (.iload 4, 2) := by decide +kernel
theorem dX0_limitTo_15 : decode cX0_limitTo 15 = .ok (.bipush 9, 2) := by decide +kernel
theorem dX0_limitTo_17 : decode cX0_limitTo 17 = .ok (.if_icmp .ge 74, 3) := by decide +kernel
theorem dX0_limitTo_20 : decode cX0_limitTo 20 = .ok (.iload_n 3, 1) := by decide +kernel
theorem dX0_limitTo_21 : decode cX0_limitTo 21 = .ok (.iload 4, 2) := by decide +kernel
theorem dX0_limitTo_23 : decode cX0_limitTo 23 = .ok (.invokestatic 29, 3) := by decide +kernel
theorem dX0_limitTo_26 : decode cX0_limitTo 26 = .ok (.istore 5, 2) := by decide +kernel
theorem dX0_limitTo_28 : decode cX0_limitTo 28 = .ok (.iload_n 3, 1) := by decide +kernel
theorem dX0_limitTo_29 : decode cX0_limitTo 29 = .ok (.iload 4, 2) := by decide +kernel
theorem dX0_limitTo_31 : decode cX0_limitTo 31 = .ok (.invokestatic 33, 3) := by decide +kernel
theorem dX0_limitTo_34 : decode cX0_limitTo 34 = .ok (.ifCond .eq 13, 3) := by decide +kernel
theorem dX0_limitTo_37 : decode cX0_limitTo 37 = .ok (.iload 5, 2) := by decide +kernel
theorem dX0_limitTo_39 : decode cX0_limitTo 39 = .ok (.iload_n 1, 1) := by decide +kernel
theorem dX0_limitTo_40 : decode cX0_limitTo 40 = .ok (.if_icmp .le 7, 3) := by decide +kernel
theorem dX0_limitTo_43 : decode cX0_limitTo 43 = .ok (.iconst 1, 1) := by decide +kernel
theorem dX0_limitTo_44 : decode cX0_limitTo 44 = .ok (.goto 4, 3) := by decide +kernel
theorem dX0_limitTo_47 : decode cX0_limitTo 47 = .ok (.iconst 0, 1) := by decide +kernel
theorem dX0_limitTo_48 : decode cX0_limitTo 48 = .ok (.istore 6, 2) := by decide +kernel
theorem dX0_limitTo_50 : decode cX0_limitTo 50 = .ok (.aload_n 0, 1) := by decide +kernel
theorem dX0_limitTo_51 : decode cX0_limitTo 51 = .ok (.getfield 11, 3) := by decide +kernel
theorem dX0_limitTo_54 : decode cX0_limitTo 54 = .ok (.iload_n 3, 1) := by decide +kernel
theorem dX0_limitTo_55 : decode cX0_limitTo 55 = .ok (.aaload, 1) := by decide +kernel
theorem dX0_limitTo_56 : decode cX0_limitTo 56 = .ok (.iload 4, 2) := by decide +kernel
theorem dX0_limitTo_58 : decode cX0_limitTo 58 = .ok (.iload 6, 2) := by decide +kernel
theorem dX0_limitTo_60 : decode cX0_limitTo 60 = .ok (.ifCond .ne 9, 3) := by decide +kernel
theorem dX0_limitTo_63 : decode cX0_limitTo 63 = .ok (.iload_n 3, 1) := by decide +kernel
theorem dX0_limitTo_64 : decode cX0_limitTo 64 = .ok (.iload 4, 2) := by decide +kernel
theorem dX0_limitTo_66 : decode cX0_limitTo 66 = .ok (.if_icmp .ne 8, 3) := by decide +kernel
theorem dX0_limitTo_69 : decode cX0_limitTo 69 = .ok (.ldc 37, 2) := by decide +kernel
theorem dX0_limitTo_71 : decode cX0_limitTo 71 = .ok (.goto 5, 3) := by decide +kernel
theorem dX0_limitTo_74 : decode cX0_limitTo 74 = .ok (.iload 5, 2) := by decide +kernel
theorem dX0_limitTo_76 : decode cX0_limitTo 76 = .ok (.iastore, 1) := by decide +kernel
theorem dX0_limitTo_77 : decode cX0_limitTo 77 = .ok (.iload 6, 2) := by decide +kernel
theorem dX0_limitTo_79 : decode cX0_limitTo 79 = .ok (.ifCond .eq 6, 3) := by decide +kernel
theorem dX0_limitTo_82 : decode cX0_limitTo 82 = .ok (.iinc 2 1, 3) := by decide +kernel
theorem dX0_limitTo_85 : decode cX0_limitTo 85 = .ok (.iinc 4 1, 3) := by decide +kernel
theorem dX0_limitTo_88 : decode cX0_limitTo 88 = .ok (.goto (-75), 3) := by decide +kernel
theorem dX0_limitTo_91 : decode cX0_limitTo 91 = .ok (.iinc 3 1, 3) := by decide +kernel
theorem dX0_limitTo_94 : decode cX0_limitTo 94 = .ok (.goto (-90), 3) := by decide +kernel
theorem dX0_limitTo_97 : decode cX0_limitTo 97 = .ok (.iload_n 2, 1) := by decide +kernel
theorem dX0_limitTo_98 : decode cX0_limitTo 98 = .ok (.ireturn, 1) := by decide +kernel
theorem dX0_bars_0 : decode cX0_bars 0 = .ok (.iload_n 1, 1) := by decide +kernel
theorem dX0_bars_1 : decode cX0_bars 1 = .ok (.iload_n 2, 1) := by decide +kernel
theorem dX0_bars_2 : decode cX0_bars 2 = .ok (.if_icmp .eq 20, 3) := by decide +kernel
theorem dX0_bars_5 : decode cX0_bars 5 = .ok (.aload_n 0, 1) := by decide +kernel
theorem dX0_bars_6 : decode cX0_bars 6 = .ok (.getfield 11, 3) := by decide +kernel
theorem dX0_bars_9 : decode cX0_bars 9 = .ok (.iload_n 1, 1) := by decide +kernel
theorem dX0_bars_10 : decode cX0_bars 10 = .ok (.aaload, 1) := by decide +kernel
theorem dX0_bars_11 : decode cX0_bars 11 = .ok (.iload_n 2, 1) := by decide +kernel
theorem dX0_bars_12 : decode cX0_bars 12 = .ok (.iaload, 1) := by decide +kernel
theorem dX0_bars_13 : decode cX0_bars 13 = .ok (.ldc 37, 2) := by decide +kernel
theorem dX0_bars_15 : decode cX0_bars 15 = .ok (.if_icmp .ne 7, 3) := by decide +kernel
theorem dX0_bars_18 : decode cX0_bars 18 = .ok (.iconst 1, 1) := by decide +kernel
theorem dX0_bars_19 : decode cX0_bars 19 = .ok (.goto 4, 3) := by decide +kernel
theorem dX0_bars_22 : decode cX0_bars 22 = .ok (.iconst 0, 1) := by decide +kernel
theorem dX0_bars_23 : decode cX0_bars 23 = .ok (.ireturn, 1) := by decide +kernel
theorem dX0_stepCost_0 : decode cX0_stepCost 0 = .ok (.aload_n 0, 1) := by decide +kernel
theorem dX0_stepCost_1 : decode cX0_stepCost 1 = .ok (.getfield 11, 3) := by decide +kernel
theorem dX0_stepCost_4 : decode cX0_stepCost 4 = .ok (.iload_n 1, 1) := by decide +kernel
theorem dX0_stepCost_5 : decode cX0_stepCost 5 = .ok (.aaload, 1) := by decide +kernel
theorem dX0_stepCost_6 : decode cX0_stepCost 6 = .ok (.iload_n 2, 1) := by decide +kernel
theorem dX0_stepCost_7 : decode cX0_stepCost 7 = .ok (.iaload, 1) := by decide +kernel
theorem dX0_stepCost_8 : decode cX0_stepCost 8 = .ok (.ireturn, 1) := by decide +kernel
theorem dX1_init_0 : decode cX1_init 0 = .ok (.aload_n 0, 1) := by decide +kernel
theorem dX1_init_1 : decode cX1_init 1 = .ok (.invokespecial 3, 3) := by decide +kernel
theorem dX1_init_4 : decode cX1_init 4 = .ok (.aload_n 0, 1) := by decide +kernel
theorem dX1_init_5 : decode cX1_init 5 = .ok (.bipush 9, 2) := by decide +kernel
theorem dX1_init_7 : decode cX1_init 7 = .ok (.newarray .int, 2) := by decide +kernel
theorem dX1_init_9 : decode cX1_init 9 = .ok (.putfield 9, 3) := by decide +kernel
theorem dX1_init_12 : decode cX1_init 12 = .ok (.return_, 1) := by decide +kernel
set_option maxRecDepth 20000 in
theorem ggX1_startRow_J7_fill_53178 : GoodIn wsX1_startRow wsJ7_fill_53178 := goodIn_r _ [6] (by decide +kernel) (by decide +kernel)
set_option maxRecDepth 20000 in
theorem gX1_startRow_J7_fill_53178 : GoodIn wsX1_startRow (va_wsS RX1 16 yJ7_fill_53178 wsJ7_fill_53178) := goodIn_app (goodIn_of _ (by decide +kernel)) ggX1_startRow_J7_fill_53178
theorem dX1_startRow_0 : decode cX1_startRow 0 = .ok (.aload_n 0, 1) := by decide +kernel
theorem dX1_startRow_1 : decode cX1_startRow 1 = .ok (.getfield 9, 3) := by decide +kernel
theorem dX1_startRow_4 : decode cX1_startRow 4 = .ok (.ldc 15, 2) := by decide +kernel
theorem dX1_startRow_6 : decode cX1_startRow 6 = .ok (.invokestatic 16, 3) := by decide +kernel
theorem dX1_startRow_9 : decode cX1_startRow 9 = .ok (.aload_n 0, 1) := by decide +kernel
theorem dX1_startRow_10 : decode cX1_startRow 10 = .ok (.getfield 9, 3) := by decide +kernel
theorem dX1_startRow_13 : decode cX1_startRow 13 = .ok (.iconst 0, 1) := by decide +kernel
theorem dX1_startRow_14 : decode cX1_startRow 14 = .ok (.iconst 0, 1) := by decide +kernel
theorem dX1_startRow_15 : decode cX1_startRow 15 = .ok (.iastore, 1) := by decide +kernel
theorem dX1_startRow_16 : decode cX1_startRow 16 = .ok (.return_, 1) := by decide +kernel
set_option maxRecDepth 20000 in
theorem ggX1_growFrom_X1_firstLeastBeside : GoodIn wsX1_growFrom wsX1_firstLeastBeside := goodIn_r _ [11, 1, 12] (by decide +kernel) (by decide +kernel)
set_option maxRecDepth 20000 in
theorem gX1_growFrom_X1_firstLeastBeside : GoodIn wsX1_growFrom (wsV RX1 22 RX1 yX1_firstLeastBeside wsX1_firstLeastBeside) := goodIn_app (goodIn_of _ (by decide +kernel)) ggX1_growFrom_X1_firstLeastBeside
theorem dX1_growFrom_0 : decode cX1_growFrom 0 = .ok (.aload_n 1, 1) := by decide +kernel
theorem dX1_growFrom_1 : decode cX1_growFrom 1 = .ok (.iconst 0, 1) := by decide +kernel
theorem dX1_growFrom_2 : decode cX1_growFrom 2 = .ok (.invokevirtual 22, 3) := by decide +kernel
theorem dX1_growFrom_5 : decode cX1_growFrom 5 = .ok (.istore_n 3, 1) := by decide +kernel
theorem dX1_growFrom_6 : decode cX1_growFrom 6 = .ok (.aload_n 1, 1) := by decide +kernel
theorem dX1_growFrom_7 : decode cX1_growFrom 7 = .ok (.getfield 9, 3) := by decide +kernel
theorem dX1_growFrom_10 : decode cX1_growFrom 10 = .ok (.iload_n 3, 1) := by decide +kernel
theorem dX1_growFrom_11 : decode cX1_growFrom 11 = .ok (.iaload, 1) := by decide +kernel
theorem dX1_growFrom_12 : decode cX1_growFrom 12 = .ok (.istore 4, 2) := by decide +kernel
theorem dX1_growFrom_14 : decode cX1_growFrom 14 = .ok (.aload_n 1, 1) := by decide +kernel
theorem dX1_growFrom_15 : decode cX1_growFrom 15 = .ok (.getfield 9, 3) := by decide +kernel
theorem dX1_growFrom_18 : decode cX1_growFrom 18 = .ok (.aload_n 1, 1) := by decide +kernel
theorem dX1_growFrom_19 : decode cX1_growFrom 19 = .ok (.iload_n 3, 1) := by decide +kernel
theorem dX1_growFrom_20 : decode cX1_growFrom 20 = .ok (.invokevirtual 22, 3) := by decide +kernel
theorem dX1_growFrom_23 : decode cX1_growFrom 23 = .ok (.iaload, 1) := by decide +kernel
theorem dX1_growFrom_24 : decode cX1_growFrom 24 = .ok (.istore 5, 2) := by decide +kernel
theorem dX1_growFrom_26 : decode cX1_growFrom 26 = .ok (.iconst 0, 1) := by decide +kernel
theorem dX1_growFrom_27 : decode cX1_growFrom 27 = .ok (.istore 6, 2) := by decide +kernel
theorem dX1_growFrom_29 : decode cX1_growFrom 29 = .ok (.iload 6, 2) := by decide +kernel
theorem dX1_growFrom_31 : decode cX1_growFrom 31 = .ok (.bipush 9, 2) := by decide +kernel
theorem dX1_growFrom_33 : decode cX1_growFrom 33 = .ok (.if_icmp .ge 43, 3) := by decide +kernel
theorem dX1_growFrom_36 : decode cX1_growFrom 36 = .ok (.iload 6, 2) := by decide +kernel
theorem dX1_growFrom_38 : decode cX1_growFrom 38 = .ok (.iload_n 3, 1) := by decide +kernel
theorem dX1_growFrom_39 : decode cX1_growFrom 39 = .ok (.if_icmp .ne 8, 3) := by decide +kernel
theorem dX1_growFrom_42 : decode cX1_growFrom 42 = .ok (.iload 5, 2) := by decide +kernel
theorem dX1_growFrom_44 : decode cX1_growFrom 44 = .ok (.goto 5, 3) := by decide +kernel
theorem dX1_growFrom_47 : decode cX1_growFrom 47 = .ok (.iload 4, 2) := by decide +kernel
theorem dX1_growFrom_49 : decode cX1_growFrom 49 = .ok (.istore 7, 2) := by decide +kernel
theorem dX1_growFrom_51 : decode cX1_growFrom 51 = .ok (.aload_n 0, 1) := by decide +kernel
theorem dX1_growFrom_52 : decode cX1_growFrom 52 = .ok (.getfield 9, 3) := by decide +kernel
theorem dX1_growFrom_55 : decode cX1_growFrom 55 = .ok (.iload 6, 2) := by decide +kernel
theorem dX1_growFrom_57 : decode cX1_growFrom 57 = .ok (.ldc 15, 2) := by decide +kernel
theorem dX1_growFrom_59 : decode cX1_growFrom 59 = .ok (.iload 7, 2) := by decide +kernel
theorem dX1_growFrom_61 : decode cX1_growFrom 61 = .ok (.aload_n 2, 1) := by decide +kernel
theorem dX1_growFrom_62 : decode cX1_growFrom 62 = .ok (.iload 6, 2) := by decide +kernel
theorem dX1_growFrom_64 : decode cX1_growFrom 64 = .ok (.iaload, 1) := by decide +kernel
theorem dX1_growFrom_65 : decode cX1_growFrom 65 = .ok (.iadd, 1) := by decide +kernel
theorem dX1_growFrom_66 : decode cX1_growFrom 66 = .ok (.invokestatic 26, 3) := by decide +kernel
theorem dX1_growFrom_69 : decode cX1_growFrom 69 = .ok (.iastore, 1) := by decide +kernel
theorem dX1_growFrom_70 : decode cX1_growFrom 70 = .ok (.iinc 6 1, 3) := by decide +kernel
theorem dX1_growFrom_73 : decode cX1_growFrom 73 = .ok (.goto (-44), 3) := by decide +kernel
theorem dX1_growFrom_76 : decode cX1_growFrom 76 = .ok (.return_, 1) := by decide +kernel
theorem dX1_firstLeastBeside_0 : decode cX1_firstLeastBeside 0 = .ok (.iconst 0, 1) := by decide +kernel
theorem dX1_firstLeastBeside_1 : decode cX1_firstLeastBeside 1 = .ok (.istore_n 2, 1) := by decide +kernel
theorem dX1_firstLeastBeside_2 : decode cX1_firstLeastBeside 2 = .ok (.iconst 1, 1) := by decide +kernel
theorem dX1_firstLeastBeside_3 : decode cX1_firstLeastBeside 3 = .ok (.istore_n 3, 1) := by decide +kernel
theorem dX1_firstLeastBeside_4 : decode cX1_firstLeastBeside 4 = .ok (.iload_n 3, 1) := by decide +kernel
theorem dX1_firstLeastBeside_5 : decode cX1_firstLeastBeside 5 = .ok (.bipush 9, 2) := by decide +kernel
theorem dX1_firstLeastBeside_7 : decode cX1_firstLeastBeside 7 = .ok (.if_icmp .ge 31, 3) := by decide +kernel
theorem dX1_firstLeastBeside_10 : decode cX1_firstLeastBeside 10 = .ok (.iload_n 3, 1) := by decide +kernel
theorem dX1_firstLeastBeside_11 : decode cX1_firstLeastBeside 11 = .ok (.iload_n 1, 1) := by decide +kernel
theorem dX1_firstLeastBeside_12 : decode cX1_firstLeastBeside 12 = .ok (.if_icmp .eq 20, 3) := by decide +kernel
theorem dX1_firstLeastBeside_15 : decode cX1_firstLeastBeside 15 = .ok (.aload_n 0, 1) := by decide +kernel
theorem dX1_firstLeastBeside_16 : decode cX1_firstLeastBeside 16 = .ok (.getfield 9, 3) := by decide +kernel
theorem dX1_firstLeastBeside_19 : decode cX1_firstLeastBeside 19 = .ok (.iload_n 3, 1) := by decide +kernel
theorem dX1_firstLeastBeside_20 : decode cX1_firstLeastBeside 20 = .ok (.iaload, 1) := by decide +kernel
theorem dX1_firstLeastBeside_21 : decode cX1_firstLeastBeside 21 = .ok (.aload_n 0, 1) := by decide +kernel
theorem dX1_firstLeastBeside_22 : decode cX1_firstLeastBeside 22 = .ok (.getfield 9, 3) := by decide +kernel
theorem dX1_firstLeastBeside_25 : decode cX1_firstLeastBeside 25 = .ok (.iload_n 2, 1) := by decide +kernel
theorem dX1_firstLeastBeside_26 : decode cX1_firstLeastBeside 26 = .ok (.iaload, 1) := by decide +kernel
theorem dX1_firstLeastBeside_27 : decode cX1_firstLeastBeside 27 = .ok (.if_icmp .ge 5, 3) := by decide +kernel
theorem dX1_firstLeastBeside_30 : decode cX1_firstLeastBeside 30 = .ok (.iload_n 3, 1) := by decide +kernel
theorem dX1_firstLeastBeside_31 : decode cX1_firstLeastBeside 31 = .ok (.istore_n 2, 1) := by decide +kernel
theorem dX1_firstLeastBeside_32 : decode cX1_firstLeastBeside 32 = .ok (.iinc 3 1, 3) := by decide +kernel
theorem dX1_firstLeastBeside_35 : decode cX1_firstLeastBeside 35 = .ok (.goto (-31), 3) := by decide +kernel
theorem dX1_firstLeastBeside_38 : decode cX1_firstLeastBeside 38 = .ok (.iload_n 2, 1) := by decide +kernel
theorem dX1_firstLeastBeside_39 : decode cX1_firstLeastBeside 39 = .ok (.ireturn, 1) := by decide +kernel
set_option maxRecDepth 20000 in
theorem ggX1_leastOfAll_X1_firstLeastBeside : GoodIn wsX1_leastOfAll wsX1_firstLeastBeside := goodIn_r _ [6, 1, 7] (by decide +kernel) (by decide +kernel)
set_option maxRecDepth 20000 in
theorem gX1_leastOfAll_X1_firstLeastBeside : GoodIn wsX1_leastOfAll (wsV RX1 22 RX1 yX1_firstLeastBeside wsX1_firstLeastBeside) := goodIn_app (goodIn_of _ (by decide +kernel)) ggX1_leastOfAll_X1_firstLeastBeside
theorem dX1_leastOfAll_0 : decode cX1_leastOfAll 0 = .ok (.aload_n 0, 1) := by decide +kernel
theorem dX1_leastOfAll_1 : decode cX1_leastOfAll 1 = .ok (.getfield 9, 3) := by decide +kernel
theorem dX1_leastOfAll_4 : decode cX1_leastOfAll 4 = .ok (.aload_n 0, 1) := by decide +kernel
theorem dX1_leastOfAll_5 : decode cX1_leastOfAll 5 = .ok (.iconst 0, 1) := by decide +kernel
theorem dX1_leastOfAll_6 : decode cX1_leastOfAll 6 = .ok (.invokevirtual 22, 3) := by decide +kernel
theorem dX1_leastOfAll_9 : decode cX1_leastOfAll 9 = .ok (.iaload, 1) := by decide +kernel
theorem dX1_leastOfAll_10 : decode cX1_leastOfAll 10 = .ok (.ireturn, 1) := by decide +kernel
theorem dX2_init_0 : decode cX2_init 0 = .ok (.aload_n 0, 1) := by decide +kernel
theorem dX2_init_1 : decode cX2_init 1 = .ok (.invokespecial 3, 3) := by decide +kernel
theorem dX2_init_4 : decode cX2_init 4 = .ok (.aload_n 0, 1) := by decide +kernel
theorem dX2_init_5 : decode cX2_init 5 = .ok (.aload_n 1, 1) := by decide +kernel
theorem dX2_init_6 : decode cX2_init 6 = .ok (.putfield 9, 3) := by decide +kernel
theorem dX2_init_9 : decode cX2_init 9 = .ok (.return_, 1) := by decide +kernel
theorem dX2_size_0 : decode cX2_size 0 = .ok (.aload_n 0, 1) := by decide +kernel
theorem dX2_size_1 : decode cX2_size 1 = .ok (.getfield 9, 3) := by decide +kernel
theorem dX2_size_4 : decode cX2_size 4 = .ok (.arraylength, 1) := by decide +kernel
theorem dX2_size_5 : decode cX2_size 5 = .ok (.ireturn, 1) := by decide +kernel
set_option maxRecDepth 20000 in
theorem ggX2_costBetween_X2_soundOf : GoodIn wsX2_costBetween wsX2_soundOf := goodIn_r _ [10] (by decide +kernel) (by decide +kernel)
set_option maxRecDepth 20000 in
theorem gX2_costBetween_X2_soundOf : GoodIn wsX2_costBetween (va_wsS RX2 16 yX2_soundOf wsX2_soundOf) := goodIn_app (goodIn_of _ (by decide +kernel)) ggX2_costBetween_X2_soundOf
set_option maxRecDepth 20000 in
theorem ggX2_costBetween_X0_stepCost : GoodIn wsX2_costBetween wsX0_stepCost := goodIn_r _ [15, 16, 18] (by decide +kernel) (by decide +kernel)
set_option maxRecDepth 20000 in
theorem gX2_costBetween_X0_stepCost : GoodIn wsX2_costBetween (wsV RX2 20 RX0 yX0_stepCost wsX0_stepCost) := goodIn_app (goodIn_of _ (by decide +kernel)) ggX2_costBetween_X0_stepCost
theorem dX2_costBetween_0 : decode cX2_costBetween 0 = .ok (.aload_n 0, 1) := by decide +kernel
theorem dX2_costBetween_1 : decode cX2_costBetween 1 = .ok (.getfield 9, 3) := by decide +kernel
theorem dX2_costBetween_4 : decode cX2_costBetween 4 = .ok (.arraylength, 1) := by decide +kernel
theorem dX2_costBetween_5 : decode cX2_costBetween 5 = .ok (.iload_n 3, 1) := by decide +kernel
theorem dX2_costBetween_6 : decode cX2_costBetween 6 = .ok (.if_icmp .lt 6, 3) := by decide +kernel
theorem dX2_costBetween_9 : decode cX2_costBetween 9 = .ok (.ldc 15, 2) := by decide +kernel
theorem dX2_costBetween_11 : decode cX2_costBetween 11 = .ok (.ireturn, 1) := by decide +kernel
theorem dX2_costBetween_12 : decode cX2_costBetween 12 = .ok (.iconst 0, 1) := by decide +kernel
theorem dX2_costBetween_13 : decode cX2_costBetween 13 = .ok (.istore 5, 2) := by decide +kernel
theorem dX2_costBetween_15 : decode cX2_costBetween 15 = .ok (.iload_n 2, 1) := by decide +kernel
theorem dX2_costBetween_16 : decode cX2_costBetween 16 = .ok (.istore 6, 2) := by decide +kernel
theorem dX2_costBetween_18 : decode cX2_costBetween 18 = .ok (.iconst 0, 1) := by decide +kernel
theorem dX2_costBetween_19 : decode cX2_costBetween 19 = .ok (.istore 7, 2) := by decide +kernel
theorem dX2_costBetween_21 : decode cX2_costBetween 21 = .ok (.iload 7, 2) := by decide +kernel
theorem dX2_costBetween_23 : decode cX2_costBetween 23 = .ok (.aload_n 0, 1) := by decide +kernel
theorem dX2_costBetween_24 : decode cX2_costBetween 24 = .ok (.getfield 9, 3) := by decide +kernel
theorem dX2_costBetween_27 : decode cX2_costBetween 27 = .ok (.arraylength, 1) := by decide +kernel
theorem dX2_costBetween_28 : decode cX2_costBetween 28 = .ok (.if_icmp .ge 41, 3) := by decide +kernel
theorem dX2_costBetween_31 : decode cX2_costBetween 31 = .ok (.aload_n 0, 1) := by decide +kernel
theorem dX2_costBetween_32 : decode cX2_costBetween 32 = .ok (.getfield 9, 3) := by decide +kernel
theorem dX2_costBetween_35 : decode cX2_costBetween 35 = .ok (.iload 7, 2) := by decide +kernel
theorem dX2_costBetween_37 : decode cX2_costBetween 37 = .ok (.iaload, 1) := by decide +kernel
theorem dX2_costBetween_38 : decode cX2_costBetween 38 = .ok (.iload_n 2, 1) := by decide +kernel
theorem dX2_costBetween_39 : decode cX2_costBetween 39 = .ok (.iload 4, 2) := by decide +kernel
theorem dX2_costBetween_41 : decode cX2_costBetween 41 = .ok (.invokestatic 16, 3) := by decide +kernel
theorem dX2_costBetween_44 : decode cX2_costBetween 44 = .ok (.istore 8, 2) := by decide +kernel
theorem dX2_costBetween_46 : decode cX2_costBetween 46 = .ok (.iload 5, 2) := by decide +kernel
theorem dX2_costBetween_48 : decode cX2_costBetween 48 = .ok (.aload_n 1, 1) := by decide +kernel
theorem dX2_costBetween_49 : decode cX2_costBetween 49 = .ok (.iload 6, 2) := by decide +kernel
theorem dX2_costBetween_51 : decode cX2_costBetween 51 = .ok (.iload 8, 2) := by decide +kernel
theorem dX2_costBetween_53 : decode cX2_costBetween 53 = .ok (.invokevirtual 20, 3) := by decide +kernel
theorem dX2_costBetween_56 : decode cX2_costBetween 56 = .ok (.iadd, 1) := by decide +kernel
theorem dX2_costBetween_57 : decode cX2_costBetween 57 = .ok (.istore 5, 2) := by decide +kernel
theorem dX2_costBetween_59 : decode cX2_costBetween 59 = .ok (.iload 8, 2) := by decide +kernel
theorem dX2_costBetween_61 : decode cX2_costBetween 61 = .ok (.istore 6, 2) := by decide +kernel
theorem dX2_costBetween_63 : decode cX2_costBetween 63 = .ok (.iinc 7 1, 3) := by decide +kernel
theorem dX2_costBetween_66 : decode cX2_costBetween 66 = .ok (.goto (-45), 3) := by decide +kernel
theorem dX2_costBetween_69 : decode cX2_costBetween 69 = .ok (.ldc 15, 2) := by decide +kernel
theorem dX2_costBetween_71 : decode cX2_costBetween 71 = .ok (.iload 5, 2) := by decide +kernel
theorem dX2_costBetween_73 : decode cX2_costBetween 73 = .ok (.aload_n 1, 1) := by decide +kernel
theorem dX2_costBetween_74 : decode cX2_costBetween 74 = .ok (.iload 6, 2) := by decide +kernel
theorem dX2_costBetween_76 : decode cX2_costBetween 76 = .ok (.iload 4, 2) := by decide +kernel
theorem dX2_costBetween_78 : decode cX2_costBetween 78 = .ok (.invokevirtual 20, 3) := by decide +kernel
theorem dX2_costBetween_81 : decode cX2_costBetween 81 = .ok (.iadd, 1) := by decide +kernel
theorem dX2_costBetween_82 : decode cX2_costBetween 82 = .ok (.invokestatic 26, 3) := by decide +kernel
theorem dX2_costBetween_85 : decode cX2_costBetween 85 = .ok (.ireturn, 1) := by decide +kernel
theorem dX2_soundOf_0 : decode cX2_soundOf 0 = .ok (.iload_n 0, 1) := by decide +kernel
theorem dX2_soundOf_1 : decode cX2_soundOf 1 = .ok (.bipush 9, 2) := by decide +kernel
theorem dX2_soundOf_3 : decode cX2_soundOf 3 = .ok (.if_icmp .ne 5, 3) := by decide +kernel
theorem dX2_soundOf_6 : decode cX2_soundOf 6 = .ok (.iload_n 2, 1) := by decide +kernel
theorem dX2_soundOf_7 : decode cX2_soundOf 7 = .ok (.ireturn, 1) := by decide +kernel
theorem dX2_soundOf_8 : decode cX2_soundOf 8 = .ok (.iload_n 0, 1) := by decide +kernel
theorem dX2_soundOf_9 : decode cX2_soundOf 9 = .ok (.bipush 10, 2) := by decide +kernel
theorem dX2_soundOf_11 : decode cX2_soundOf 11 = .ok (.if_icmp .ne 7, 3) := by decide +kernel
theorem dX2_soundOf_14 : decode cX2_soundOf 14 = .ok (.iload_n 1, 1) := by decide +kernel
theorem dX2_soundOf_15 : decode cX2_soundOf 15 = .ok (.goto 4, 3) := by decide +kernel
theorem dX2_soundOf_18 : decode cX2_soundOf 18 = .ok (.iload_n 0, 1) := by decide +kernel
theorem dX2_soundOf_19 : decode cX2_soundOf 19 = .ok (.ireturn, 1) := by decide +kernel
theorem dX3_init_0 : decode cX3_init 0 = .ok (.aload_n 0, 1) := by decide +kernel
theorem dX3_init_1 : decode cX3_init 1 = .ok (.invokespecial 3, 3) := by decide +kernel
theorem dX3_init_4 : decode cX3_init 4 = .ok (.aload_n 0, 1) := by decide +kernel
theorem dX3_init_5 : decode cX3_init 5 = .ok (.bipush 8, 2) := by decide +kernel
theorem dX3_init_7 : decode cX3_init 7 = .ok (.anewarray 9, 3) := by decide +kernel
theorem dX3_init_10 : decode cX3_init 10 = .ok (.putfield 11, 3) := by decide +kernel
theorem dX3_init_13 : decode cX3_init 13 = .ok (.aload_n 0, 1) := by decide +kernel
theorem dX3_init_14 : decode cX3_init 14 = .ok (.iconst 4, 1) := by decide +kernel
theorem dX3_init_15 : decode cX3_init 15 = .ok (.newarray .int, 2) := by decide +kernel
theorem dX3_init_17 : decode cX3_init 17 = .ok (.putfield 17, 3) := by decide +kernel
theorem dX3_init_20 : decode cX3_init 20 = .ok (.return_, 1) := by decide +kernel
theorem dX3_size_0 : decode cX3_size 0 = .ok (.aload_n 0, 1) := by decide +kernel
theorem dX3_size_1 : decode cX3_size 1 = .ok (.getfield 21, 3) := by decide +kernel
theorem dX3_size_4 : decode cX3_size 4 = .ok (.ireturn, 1) := by decide +kernel
theorem dX3_isFull_0 : decode cX3_isFull 0 = .ok (.aload_n 0, 1) := by decide +kernel
theorem dX3_isFull_1 : decode cX3_isFull 1 = .ok (.getfield 21, 3) := by decide +kernel
theorem dX3_isFull_4 : decode cX3_isFull 4 = .ok (.bipush 8, 2) := by decide +kernel
theorem dX3_isFull_6 : decode cX3_isFull 6 = .ok (.if_icmp .lt 7, 3) := by decide +kernel
theorem dX3_isFull_9 : decode cX3_isFull 9 = .ok (.iconst 1, 1) := by decide +kernel
theorem dX3_isFull_10 : decode cX3_isFull 10 = .ok (.goto 4, 3) := by decide +kernel
theorem dX3_isFull_13 : decode cX3_isFull 13 = .ok (.iconst 0, 1) := by decide +kernel
theorem dX3_isFull_14 : decode cX3_isFull 14 = .ok (.ireturn, 1) := by decide +kernel
theorem dX3_isDraftEmpty_0 : decode cX3_isDraftEmpty 0 = .ok (.aload_n 0, 1) := by decide +kernel
theorem dX3_isDraftEmpty_1 : decode cX3_isDraftEmpty 1 = .ok (.getfield 25, 3) := by decide +kernel
theorem dX3_isDraftEmpty_4 : decode cX3_isDraftEmpty 4 = .ok (.ifCond .ne 7, 3) := by decide +kernel
theorem dX3_isDraftEmpty_7 : decode cX3_isDraftEmpty 7 = .ok (.iconst 1, 1) := by decide +kernel
theorem dX3_isDraftEmpty_8 : decode cX3_isDraftEmpty 8 = .ok (.goto 4, 3) := by decide +kernel
theorem dX3_isDraftEmpty_11 : decode cX3_isDraftEmpty 11 = .ok (.iconst 0, 1) := by decide +kernel
theorem dX3_isDraftEmpty_12 : decode cX3_isDraftEmpty 12 = .ok (.ireturn, 1) := by decide +kernel
theorem dX3_isDraftFull_0 : decode cX3_isDraftFull 0 = .ok (.aload_n 0, 1) := by decide +kernel
theorem dX3_isDraftFull_1 : decode cX3_isDraftFull 1 = .ok (.getfield 25, 3) := by decide +kernel
theorem dX3_isDraftFull_4 : decode cX3_isDraftFull 4 = .ok (.iconst 4, 1) := by decide +kernel
theorem dX3_isDraftFull_5 : decode cX3_isDraftFull 5 = .ok (.if_icmp .lt 7, 3) := by decide +kernel
theorem dX3_isDraftFull_8 : decode cX3_isDraftFull 8 = .ok (.iconst 1, 1) := by decide +kernel
theorem dX3_isDraftFull_9 : decode cX3_isDraftFull 9 = .ok (.goto 4, 3) := by decide +kernel
theorem dX3_isDraftFull_12 : decode cX3_isDraftFull 12 = .ok (.iconst 0, 1) := by decide +kernel
theorem dX3_isDraftFull_13 : decode cX3_isDraftFull 13 = .ok (.ireturn, 1) := by decide +kernel
theorem dX3_addToDraft_0 : decode cX3_addToDraft 0 = .ok (.aload_n 0, 1) := by decide +kernel
theorem dX3_addToDraft_1 : decode cX3_addToDraft 1 = .ok (.getfield 17, 3) := by decide +kernel
theorem dX3_addToDraft_4 : decode cX3_addToDraft 4 = .ok (.aload_n 0, 1) := by decide +kernel
theorem dX3_addToDraft_5 : decode cX3_addToDraft 5 = .ok (.getfield 25, 3) := by decide +kernel
theorem dX3_addToDraft_8 : decode cX3_addToDraft 8 = .ok (.iload_n 1, 1) := by decide +kernel
theorem dX3_addToDraft_9 : decode cX3_addToDraft 9 = .ok (.iastore, 1) := by decide +kernel
theorem dX3_addToDraft_10 : decode cX3_addToDraft 10 = .ok (.aload_n 0, 1) := by decide +kernel
theorem dX3_addToDraft_11 : decode cX3_addToDraft 11 = .ok (.dup, 1) := by decide +kernel
theorem dX3_addToDraft_12 : decode cX3_addToDraft 12 = .ok (.getfield 25, 3) := by decide +kernel
theorem dX3_addToDraft_15 : decode cX3_addToDraft 15 = .ok (.iconst 1, 1) := by decide +kernel
theorem dX3_addToDraft_16 : decode cX3_addToDraft 16 = .ok (.iadd, 1) := by decide +kernel
theorem dX3_addToDraft_17 : decode cX3_addToDraft 17 = .ok (.putfield 25, 3) := by decide +kernel
theorem dX3_addToDraft_20 : decode cX3_addToDraft 20 = .ok (.aload_n 0, 1) := by decide +kernel
theorem dX3_addToDraft_21 : decode cX3_addToDraft 21 = .ok (.getfield 25, 3) := by decide +kernel
theorem dX3_addToDraft_24 : decode cX3_addToDraft 24 = .ok (.ireturn, 1) := by decide +kernel
set_option maxRecDepth 20000 in
theorem ggX3_enterDraft_J7_copyOf_59c91 : GoodIn wsX3_enterDraft wsJ7_copyOf_59c91 := goodIn_r _ [11, 12, 13, 14, 15, 16, 17, 18, 19, 20, 21, 22, 23, 24, 25, 26] (by decide +kernel) (by decide +kernel)
set_option maxRecDepth 20000 in
theorem gX3_enterDraft_J7_copyOf_59c91 : GoodIn wsX3_enterDraft (va_wsS RX3 28 yJ7_copyOf_59c91 wsJ7_copyOf_59c91) := goodIn_app (goodIn_of _ (by decide +kernel)) ggX3_enterDraft_J7_copyOf_59c91
set_option maxRecDepth 20000 in
theorem ggX3_enterDraft_X2_init : GoodIn wsX3_enterDraft wsX2_init := goodIn_r _ [29, 30, 31, 32, 33, 38] (by decide +kernel) (by decide +kernel)
set_option maxRecDepth 20000 in
theorem gX3_enterDraft_X2_init : GoodIn wsX3_enterDraft (wsX2_init) := ggX3_enterDraft_X2_init
theorem dX3_enterDraft_0 : decode cX3_enterDraft 0 = .ok (.aload_n 0, 1) := by decide +kernel
theorem dX3_enterDraft_1 : decode cX3_enterDraft 1 = .ok (.getfield 11, 3) := by decide +kernel
theorem dX3_enterDraft_4 : decode cX3_enterDraft 4 = .ok (.aload_n 0, 1) := by decide +kernel
theorem dX3_enterDraft_5 : decode cX3_enterDraft 5 = .ok (.getfield 21, 3) := by decide +kernel
theorem dX3_enterDraft_8 : decode cX3_enterDraft 8 = .ok (.new 9, 3) := by decide +kernel
theorem dX3_enterDraft_11 : decode cX3_enterDraft 11 = .ok (.dup, 1) := by decide +kernel
theorem dX3_enterDraft_12 : decode cX3_enterDraft 12 = .ok (.aload_n 0, 1) := by decide +kernel
theorem dX3_enterDraft_13 : decode cX3_enterDraft 13 = .ok (.getfield 17, 3) := by decide +kernel
theorem dX3_enterDraft_16 : decode cX3_enterDraft 16 = .ok (.aload_n 0, 1) := by decide +kernel
theorem dX3_enterDraft_17 : decode cX3_enterDraft 17 = .ok (.getfield 25, 3) := by decide +kernel
theorem dX3_enterDraft_20 : decode cX3_enterDraft 20 = .ok (.invokestatic 28, 3) := by decide +kernel
theorem dX3_enterDraft_23 : decode cX3_enterDraft 23 = .ok (.invokespecial 34, 3) := by decide +kernel
theorem dX3_enterDraft_26 : decode cX3_enterDraft 26 = .ok (.aastore, 1) := by decide +kernel
theorem dX3_enterDraft_27 : decode cX3_enterDraft 27 = .ok (.aload_n 0, 1) := by decide +kernel
theorem dX3_enterDraft_28 : decode cX3_enterDraft 28 = .ok (.iconst 0, 1) := by decide +kernel
theorem dX3_enterDraft_29 : decode cX3_enterDraft 29 = .ok (.putfield 25, 3) := by decide +kernel
theorem dX3_enterDraft_32 : decode cX3_enterDraft 32 = .ok (.aload_n 0, 1) := by decide +kernel
theorem dX3_enterDraft_33 : decode cX3_enterDraft 33 = .ok (.dup, 1) := by decide +kernel
theorem dX3_enterDraft_34 : decode cX3_enterDraft 34 = .ok (.getfield 21, 3) := by decide +kernel
theorem dX3_enterDraft_37 : decode cX3_enterDraft 37 = .ok (.iconst 1, 1) := by decide +kernel
theorem dX3_enterDraft_38 : decode cX3_enterDraft 38 = .ok (.iadd, 1) := by decide +kernel
theorem dX3_enterDraft_39 : decode cX3_enterDraft 39 = .ok (.putfield 21, 3) := by decide +kernel
theorem dX3_enterDraft_42 : decode cX3_enterDraft 42 = .ok (.aload_n 0, 1) := by decide +kernel
theorem dX3_enterDraft_43 : decode cX3_enterDraft 43 = .ok (.getfield 21, 3) := by decide +kernel
theorem dX3_enterDraft_46 : decode cX3_enterDraft 46 = .ok (.iconst 1, 1) := by decide +kernel
theorem dX3_enterDraft_47 : decode cX3_enterDraft 47 = .ok (.isub, 1) := by decide +kernel
theorem dX3_enterDraft_48 : decode cX3_enterDraft 48 = .ok (.ireturn, 1) := by decide +kernel
set_option maxRecDepth 20000 in
theorem ggX3_costOf_X2_costBetween : GoodIn wsX3_costOf wsX2_costBetween := goodIn_r _ [7, 8, 9, 10, 11, 12, 13, 14, 15, 6, 16, 17, 18, 19, 20, 21, 22, 27, 28] (by decide +kernel) (by decide +kernel)
set_option maxRecDepth 20000 in
theorem gX3_costOf_X2_costBetween : GoodIn wsX3_costOf (wsV RX3 38 RX2 yX2_costBetween wsX2_costBetween) := goodIn_app (goodIn_of _ (by decide +kernel)) ggX3_costOf_X2_costBetween
theorem dX3_costOf_0 : decode cX3_costOf 0 = .ok (.aload_n 0, 1) := by decide +kernel
theorem dX3_costOf_1 : decode cX3_costOf 1 = .ok (.getfield 11, 3) := by decide +kernel
theorem dX3_costOf_4 : decode cX3_costOf 4 = .ok (.iload_n 1, 1) := by decide +kernel
theorem dX3_costOf_5 : decode cX3_costOf 5 = .ok (.aaload, 1) := by decide +kernel
theorem dX3_costOf_6 : decode cX3_costOf 6 = .ok (.astore 6, 2) := by decide +kernel
theorem dX3_costOf_8 : decode cX3_costOf 8 = .ok (.aload 6, 2) := by decide +kernel
theorem dX3_costOf_10 : decode cX3_costOf 10 = .ok (.ifnonnull 8, 3) := by decide +kernel
theorem dX3_costOf_13 : decode cX3_costOf 13 = .ok (.ldc 37, 2) := by decide +kernel
theorem dX3_costOf_15 : decode cX3_costOf 15 = .ok (.goto 14, 3) := by decide +kernel
theorem dX3_costOf_18 : decode cX3_costOf 18 = .ok (.aload 6, 2) := by decide +kernel
theorem dX3_costOf_20 : decode cX3_costOf 20 = .ok (.aload_n 2, 1) := by decide +kernel
theorem dX3_costOf_21 : decode cX3_costOf 21 = .ok (.iload_n 3, 1) := by decide +kernel
theorem dX3_costOf_22 : decode cX3_costOf 22 = .ok (.iload 4, 2) := by decide +kernel
theorem dX3_costOf_24 : decode cX3_costOf 24 = .ok (.iload 5, 2) := by decide +kernel
theorem dX3_costOf_26 : decode cX3_costOf 26 = .ok (.invokevirtual 38, 3) := by decide +kernel
theorem dX3_costOf_29 : decode cX3_costOf 29 = .ok (.ireturn, 1) := by decide +kernel
set_option maxRecDepth 20000 in
theorem ggX3_gracesOf_X2_size : GoodIn wsX3_gracesOf wsX2_size := goodIn_r _ [6, 7, 12] (by decide +kernel) (by decide +kernel)
set_option maxRecDepth 20000 in
theorem gX3_gracesOf_X2_size : GoodIn wsX3_gracesOf (wsV RX3 42 RX2 yX2_size wsX2_size) := goodIn_app (goodIn_of _ (by decide +kernel)) ggX3_gracesOf_X2_size
theorem dX3_gracesOf_0 : decode cX3_gracesOf 0 = .ok (.iload_n 1, 1) := by decide +kernel
theorem dX3_gracesOf_1 : decode cX3_gracesOf 1 = .ok (.ifCond .ne 5, 3) := by decide +kernel
theorem dX3_gracesOf_4 : decode cX3_gracesOf 4 = .ok (.iconst 0, 1) := by decide +kernel
theorem dX3_gracesOf_5 : decode cX3_gracesOf 5 = .ok (.ireturn, 1) := by decide +kernel
theorem dX3_gracesOf_6 : decode cX3_gracesOf 6 = .ok (.aload_n 0, 1) := by decide +kernel
theorem dX3_gracesOf_7 : decode cX3_gracesOf 7 = .ok (.getfield 11, 3) := by decide +kernel
theorem dX3_gracesOf_10 : decode cX3_gracesOf 10 = .ok (.iload_n 1, 1) := by decide +kernel
theorem dX3_gracesOf_11 : decode cX3_gracesOf 11 = .ok (.iconst 1, 1) := by decide +kernel
theorem dX3_gracesOf_12 : decode cX3_gracesOf 12 = .ok (.isub, 1) := by decide +kernel
theorem dX3_gracesOf_13 : decode cX3_gracesOf 13 = .ok (.aaload, 1) := by decide +kernel
theorem dX3_gracesOf_14 : decode cX3_gracesOf 14 = .ok (.astore_n 2, 1) := by decide +kernel
theorem dX3_gracesOf_15 : decode cX3_gracesOf 15 = .ok (.aload_n 2, 1) := by decide +kernel
theorem dX3_gracesOf_16 : decode cX3_gracesOf 16 = .ok (.ifnonnull 7, 3) := by decide +kernel
theorem dX3_gracesOf_19 : decode cX3_gracesOf 19 = .ok (.iconst 0, 1) := by decide +kernel
theorem dX3_gracesOf_20 : decode cX3_gracesOf 20 = .ok (.goto 7, 3) := by decide +kernel
theorem dX3_gracesOf_23 : decode cX3_gracesOf 23 = .ok (.aload_n 2, 1) := by decide +kernel
theorem dX3_gracesOf_24 : decode cX3_gracesOf 24 = .ok (.invokevirtual 42, 3) := by decide +kernel
theorem dX3_gracesOf_27 : decode cX3_gracesOf 27 = .ok (.ireturn, 1) := by decide +kernel
set_option maxRecDepth 20000 in
theorem ggX3_weigh_X0_stepCost : GoodIn wsX3_weigh wsX0_stepCost := goodIn_r _ [6, 7, 29] (by decide +kernel) (by decide +kernel)
set_option maxRecDepth 20000 in
theorem gX3_weigh_X0_stepCost : GoodIn wsX3_weigh (wsV RX3 45 RX0 yX0_stepCost wsX0_stepCost) := goodIn_app (goodIn_of _ (by decide +kernel)) ggX3_weigh_X0_stepCost
set_option maxRecDepth 20000 in
theorem ggX3_weigh_X3_costOf : GoodIn wsX3_weigh wsX3_costOf := goodIn_r _ [12, 13, 1, 14, 15, 16, 17, 18, 19, 20, 21, 22, 23, 24, 25, 26, 27, 28, 3, 4, 5, 6, 7, 30, 31, 32, 33, 34, 29] (by decide +kernel) (by decide +kernel)
set_option maxRecDepth 20000 in
theorem gX3_weigh_X3_costOf : GoodIn wsX3_weigh (wsV RX3 51 RX3 yX3_costOf wsX3_costOf) := goodIn_app (goodIn_of _ (by decide +kernel)) ggX3_weigh_X3_costOf
theorem dX3_weigh_0 : decode cX3_weigh 0 = .ok (.aload 6, 2) := by decide +kernel
theorem dX3_weigh_2 : decode cX3_weigh 2 = .ok (.iconst 0, 1) := by decide +kernel
theorem dX3_weigh_3 : decode cX3_weigh 3 = .ok (.iload 5, 2) := by decide +kernel
theorem dX3_weigh_5 : decode cX3_weigh 5 = .ok (.ifCond .eq 8, 3) := by decide +kernel
theorem dX3_weigh_8 : decode cX3_weigh 8 = .ok (.ldc 37, 2) := by decide +kernel
theorem dX3_weigh_10 : decode cX3_weigh 10 = .ok (.goto 10, 3) := by decide +kernel
theorem dX3_weigh_13 : decode cX3_weigh 13 = .ok (.aload_n 1, 1) := by decide +kernel
theorem dX3_weigh_14 : decode cX3_weigh 14 = .ok (.iload_n 2, 1) := by decide +kernel
theorem dX3_weigh_15 : decode cX3_weigh 15 = .ok (.iload 4, 2) := by decide +kernel
theorem dX3_weigh_17 : decode cX3_weigh 17 = .ok (.invokevirtual 45, 3) := by decide +kernel
theorem dX3_weigh_20 : decode cX3_weigh 20 = .ok (.iastore, 1) := by decide +kernel
theorem dX3_weigh_21 : decode cX3_weigh 21 = .ok (.iconst 0, 1) := by decide +kernel
theorem dX3_weigh_22 : decode cX3_weigh 22 = .ok (.istore 7, 2) := by decide +kernel
theorem dX3_weigh_24 : decode cX3_weigh 24 = .ok (.iload 7, 2) := by decide +kernel
theorem dX3_weigh_26 : decode cX3_weigh 26 = .ok (.bipush 8, 2) := by decide +kernel
theorem dX3_weigh_28 : decode cX3_weigh 28 = .ok (.if_icmp .ge 27, 3) := by decide +kernel
theorem dX3_weigh_31 : decode cX3_weigh 31 = .ok (.aload 6, 2) := by decide +kernel
theorem dX3_weigh_33 : decode cX3_weigh 33 = .ok (.iload 7, 2) := by decide +kernel
theorem dX3_weigh_35 : decode cX3_weigh 35 = .ok (.iconst 1, 1) := by decide +kernel
theorem dX3_weigh_36 : decode cX3_weigh 36 = .ok (.iadd, 1) := by decide +kernel
theorem dX3_weigh_37 : decode cX3_weigh 37 = .ok (.aload_n 0, 1) := by decide +kernel
theorem dX3_weigh_38 : decode cX3_weigh 38 = .ok (.iload 7, 2) := by decide +kernel
theorem dX3_weigh_40 : decode cX3_weigh 40 = .ok (.aload_n 1, 1) := by decide +kernel
theorem dX3_weigh_41 : decode cX3_weigh 41 = .ok (.iload_n 2, 1) := by decide +kernel
theorem dX3_weigh_42 : decode cX3_weigh 42 = .ok (.iload_n 3, 1) := by decide +kernel
theorem dX3_weigh_43 : decode cX3_weigh 43 = .ok (.iload 4, 2) := by decide +kernel
theorem dX3_weigh_45 : decode cX3_weigh 45 = .ok (.invokevirtual 51, 3) := by decide +kernel
theorem dX3_weigh_48 : decode cX3_weigh 48 = .ok (.iastore, 1) := by decide +kernel
theorem dX3_weigh_49 : decode cX3_weigh 49 = .ok (.iinc 7 1, 3) := by decide +kernel
theorem dX3_weigh_52 : decode cX3_weigh 52 = .ok (.goto (-28), 3) := by decide +kernel
theorem dX3_weigh_55 : decode cX3_weigh 55 = .ok (.return_, 1) := by decide +kernel
set_option maxRecDepth 20000 in
theorem ggX4_init_X1_init : GoodIn wsX4_init wsX1_init := goodIn_r _ [15, 16, 2, 3, 5, 17, 24] (by decide +kernel) (by decide +kernel)
set_option maxRecDepth 20000 in
theorem gX4_init_X1_init : GoodIn wsX4_init (wsX1_init) := ggX4_init_X1_init
theorem dX4_init_0 : decode cX4_init 0 = .ok (.aload_n 0, 1) := by decide +kernel
theorem dX4_init_1 : decode cX4_init 1 = .ok (.invokespecial 3, 3) := by decide +kernel
theorem dX4_init_4 : decode cX4_init 4 = .ok (.aload_n 0, 1) := by decide +kernel
theorem dX4_init_5 : decode cX4_init 5 = .ok (.bipush 16, 2) := by decide +kernel
theorem dX4_init_7 : decode cX4_init 7 = .ok (.bipush 9, 2) := by decide +kernel
theorem dX4_init_9 : decode cX4_init 9 = .ok (.multianewarray 9 2, 4) := by decide +kernel
theorem dX4_init_13 : decode cX4_init 13 = .ok (.putfield 11, 3) := by decide +kernel
theorem dX4_init_16 : decode cX4_init 16 = .ok (.aload_n 0, 1) := by decide +kernel
theorem dX4_init_17 : decode cX4_init 17 = .ok (.new 16, 3) := by decide +kernel
theorem dX4_init_20 : decode cX4_init 20 = .ok (.dup, 1) := by decide +kernel
theorem dX4_init_21 : decode cX4_init 21 = .ok (.invokespecial 18, 3) := by decide +kernel
theorem dX4_init_24 : decode cX4_init 24 = .ok (.putfield 19, 3) := by decide +kernel
theorem dX4_init_27 : decode cX4_init 27 = .ok (.aload_n 0, 1) := by decide +kernel
theorem dX4_init_28 : decode cX4_init 28 = .ok (.iconst 4, 1) := by decide +kernel
theorem dX4_init_29 : decode cX4_init 29 = .ok (.newarray .int, 2) := by decide +kernel
theorem dX4_init_31 : decode cX4_init 31 = .ok (.putfield 23, 3) := by decide +kernel
theorem dX4_init_34 : decode cX4_init 34 = .ok (.aload_n 0, 1) := by decide +kernel
theorem dX4_init_35 : decode cX4_init 35 = .ok (.iconst 4, 1) := by decide +kernel
theorem dX4_init_36 : decode cX4_init 36 = .ok (.newarray .int, 2) := by decide +kernel
theorem dX4_init_38 : decode cX4_init 38 = .ok (.putfield 27, 3) := by decide +kernel
theorem dX4_init_41 : decode cX4_init 41 = .ok (.return_, 1) := by decide +kernel
theorem dX4_size_0 : decode cX4_size 0 = .ok (.aload_n 0, 1) := by decide +kernel
theorem dX4_size_1 : decode cX4_size 1 = .ok (.getfield 30, 3) := by decide +kernel
theorem dX4_size_4 : decode cX4_size 4 = .ok (.ireturn, 1) := by decide +kernel
theorem dX4_leastCost_0 : decode cX4_leastCost 0 = .ok (.aload_n 0, 1) := by decide +kernel
theorem dX4_leastCost_1 : decode cX4_leastCost 1 = .ok (.getfield 34, 3) := by decide +kernel
theorem dX4_leastCost_4 : decode cX4_leastCost 4 = .ok (.ireturn, 1) := by decide +kernel
theorem dX4_bestAt_0 : decode cX4_bestAt 0 = .ok (.aload_n 0, 1) := by decide +kernel
theorem dX4_bestAt_1 : decode cX4_bestAt 1 = .ok (.getfield 27, 3) := by decide +kernel
theorem dX4_bestAt_4 : decode cX4_bestAt 4 = .ok (.iload_n 1, 1) := by decide +kernel
theorem dX4_bestAt_5 : decode cX4_bestAt 5 = .ok (.iaload, 1) := by decide +kernel
theorem dX4_bestAt_6 : decode cX4_bestAt 6 = .ok (.ireturn, 1) := by decide +kernel
set_option maxRecDepth 20000 in
theorem ggX4_weighJoins_X5_size : GoodIn wsX4_weighJoins wsX5_size := goodIn_r _ [6, 7, 56, 57, 58, 59, 60] (by decide +kernel) (by decide +kernel)
set_option maxRecDepth 20000 in
theorem gX4_weighJoins_X5_size : GoodIn wsX4_weighJoins (wsV RX4 37 RX5 yX5_size wsX5_size) := goodIn_app (goodIn_of _ (by decide +kernel)) ggX4_weighJoins_X5_size
set_option maxRecDepth 20000 in
theorem ggX4_weighJoins_X5_pitchOf : GoodIn wsX4_weighJoins wsX5_pitchOf := goodIn_r _ [11, 12, 56, 57, 58, 59, 60] (by decide +kernel) (by decide +kernel)
set_option maxRecDepth 20000 in
theorem gX4_weighJoins_X5_pitchOf : GoodIn wsX4_weighJoins (wsV RX4 42 RX5 yX5_pitchOf wsX5_pitchOf) := goodIn_app (goodIn_of _ (by decide +kernel)) ggX4_weighJoins_X5_pitchOf
set_option maxRecDepth 20000 in
theorem ggX4_weighJoins_X5_lengthOf : GoodIn wsX4_weighJoins wsX5_lengthOf := goodIn_r _ [16, 17, 56, 57, 58, 59, 60] (by decide +kernel) (by decide +kernel)
set_option maxRecDepth 20000 in
theorem gX4_weighJoins_X5_lengthOf : GoodIn wsX4_weighJoins (wsV RX4 46 RX5 yX5_lengthOf wsX5_lengthOf) := goodIn_app (goodIn_of _ (by decide +kernel)) ggX4_weighJoins_X5_lengthOf
set_option maxRecDepth 20000 in
theorem ggX4_weighJoins_X3_weigh : GoodIn wsX4_weighJoins wsX3_weigh := goodIn_r _ [22, 23, 24, 25, 26, 27, 28, 29, 30, 31, 32, 21, 33, 34, 35, 36, 37, 38, 39, 40, 41, 42, 43, 44, 45, 46, 47, 48, 49, 61, 62, 63, 64, 65, 66] (by decide +kernel) (by decide +kernel)
set_option maxRecDepth 20000 in
theorem gX4_weighJoins_X3_weigh : GoodIn wsX4_weighJoins (wsV RX4 49 RX3 yX3_weigh wsX3_weigh) := goodIn_app (goodIn_of _ (by decide +kernel)) ggX4_weighJoins_X3_weigh
theorem dX4_weighJoins_0 : decode cX4_weighJoins 0 = .ok (.iconst 0, 1) := by decide +kernel
theorem dX4_weighJoins_1 : decode cX4_weighJoins 1 = .ok (.istore 4, 2) := by decide +kernel
theorem dX4_weighJoins_3 : decode cX4_weighJoins 3 = .ok (.iload 4, 2) := by decide +kernel
theorem dX4_weighJoins_5 : decode cX4_weighJoins 5 = .ok (.iconst 4, 1) := by decide +kernel
theorem dX4_weighJoins_6 : decode cX4_weighJoins 6 = .ok (.if_icmp .ge 110, 3) := by decide +kernel
theorem dX4_weighJoins_9 : decode cX4_weighJoins 9 = .ok (.aload_n 1, 1) := by decide +kernel
theorem dX4_weighJoins_10 : decode cX4_weighJoins 10 = .ok (.iload 4, 2) := by decide +kernel
theorem dX4_weighJoins_12 : decode cX4_weighJoins 12 = .ok (.aaload, 1) := by decide +kernel
theorem dX4_weighJoins_13 : decode cX4_weighJoins 13 = .ok (.invokevirtual 37, 3) := by decide +kernel
theorem dX4_weighJoins_16 : decode cX4_weighJoins 16 = .ok (.iconst 1, 1) := by decide +kernel
theorem dX4_weighJoins_17 : decode cX4_weighJoins 17 = .ok (.isub, 1) := by decide +kernel
theorem dX4_weighJoins_18 : decode cX4_weighJoins 18 = .ok (.istore 5, 2) := by decide +kernel
theorem dX4_weighJoins_20 : decode cX4_weighJoins 20 = .ok (.iconst 0, 1) := by decide +kernel
theorem dX4_weighJoins_21 : decode cX4_weighJoins 21 = .ok (.istore 6, 2) := by decide +kernel
theorem dX4_weighJoins_23 : decode cX4_weighJoins 23 = .ok (.iload 6, 2) := by decide +kernel
theorem dX4_weighJoins_25 : decode cX4_weighJoins 25 = .ok (.iconst 4, 1) := by decide +kernel
theorem dX4_weighJoins_26 : decode cX4_weighJoins 26 = .ok (.if_icmp .ge 84, 3) := by decide +kernel
theorem dX4_weighJoins_29 : decode cX4_weighJoins 29 = .ok (.iload 5, 2) := by decide +kernel
theorem dX4_weighJoins_31 : decode cX4_weighJoins 31 = .ok (.ifCond .lt 73, 3) := by decide +kernel
theorem dX4_weighJoins_34 : decode cX4_weighJoins 34 = .ok (.aload_n 1, 1) := by decide +kernel
theorem dX4_weighJoins_35 : decode cX4_weighJoins 35 = .ok (.iload 6, 2) := by decide +kernel
theorem dX4_weighJoins_37 : decode cX4_weighJoins 37 = .ok (.aaload, 1) := by decide +kernel
theorem dX4_weighJoins_38 : decode cX4_weighJoins 38 = .ok (.invokevirtual 37, 3) := by decide +kernel
theorem dX4_weighJoins_41 : decode cX4_weighJoins 41 = .ok (.ifCond .le 63, 3) := by decide +kernel
theorem dX4_weighJoins_44 : decode cX4_weighJoins 44 = .ok (.aload_n 1, 1) := by decide +kernel
theorem dX4_weighJoins_45 : decode cX4_weighJoins 45 = .ok (.iload 4, 2) := by decide +kernel
theorem dX4_weighJoins_47 : decode cX4_weighJoins 47 = .ok (.aaload, 1) := by decide +kernel
theorem dX4_weighJoins_48 : decode cX4_weighJoins 48 = .ok (.iload 5, 2) := by decide +kernel
theorem dX4_weighJoins_50 : decode cX4_weighJoins 50 = .ok (.invokevirtual 42, 3) := by decide +kernel
theorem dX4_weighJoins_53 : decode cX4_weighJoins 53 = .ok (.istore 7, 2) := by decide +kernel
theorem dX4_weighJoins_55 : decode cX4_weighJoins 55 = .ok (.aload_n 1, 1) := by decide +kernel
theorem dX4_weighJoins_56 : decode cX4_weighJoins 56 = .ok (.iload 4, 2) := by decide +kernel
theorem dX4_weighJoins_58 : decode cX4_weighJoins 58 = .ok (.aaload, 1) := by decide +kernel
theorem dX4_weighJoins_59 : decode cX4_weighJoins 59 = .ok (.iload 5, 2) := by decide +kernel
theorem dX4_weighJoins_61 : decode cX4_weighJoins 61 = .ok (.invokevirtual 46, 3) := by decide +kernel
theorem dX4_weighJoins_64 : decode cX4_weighJoins 64 = .ok (.istore 8, 2) := by decide +kernel
theorem dX4_weighJoins_66 : decode cX4_weighJoins 66 = .ok (.aload_n 1, 1) := by decide +kernel
theorem dX4_weighJoins_67 : decode cX4_weighJoins 67 = .ok (.iload 6, 2) := by decide +kernel
theorem dX4_weighJoins_69 : decode cX4_weighJoins 69 = .ok (.aaload, 1) := by decide +kernel
theorem dX4_weighJoins_70 : decode cX4_weighJoins 70 = .ok (.iconst 0, 1) := by decide +kernel
theorem dX4_weighJoins_71 : decode cX4_weighJoins 71 = .ok (.invokevirtual 42, 3) := by decide +kernel
theorem dX4_weighJoins_74 : decode cX4_weighJoins 74 = .ok (.istore 9, 2) := by decide +kernel
theorem dX4_weighJoins_76 : decode cX4_weighJoins 76 = .ok (.aload_n 0, 1) := by decide +kernel
theorem dX4_weighJoins_77 : decode cX4_weighJoins 77 = .ok (.getfield 11, 3) := by decide +kernel
theorem dX4_weighJoins_80 : decode cX4_weighJoins 80 = .ok (.iload 4, 2) := by decide +kernel
theorem dX4_weighJoins_82 : decode cX4_weighJoins 82 = .ok (.iconst 4, 1) := by decide +kernel
theorem dX4_weighJoins_83 : decode cX4_weighJoins 83 = .ok (.imul, 1) := by decide +kernel
theorem dX4_weighJoins_84 : decode cX4_weighJoins 84 = .ok (.iload 6, 2) := by decide +kernel
theorem dX4_weighJoins_86 : decode cX4_weighJoins 86 = .ok (.iadd, 1) := by decide +kernel
theorem dX4_weighJoins_87 : decode cX4_weighJoins 87 = .ok (.aaload, 1) := by decide +kernel
theorem dX4_weighJoins_88 : decode cX4_weighJoins 88 = .ok (.astore 10, 2) := by decide +kernel
theorem dX4_weighJoins_90 : decode cX4_weighJoins 90 = .ok (.aload_n 3, 1) := by decide +kernel
theorem dX4_weighJoins_91 : decode cX4_weighJoins 91 = .ok (.aload_n 2, 1) := by decide +kernel
theorem dX4_weighJoins_92 : decode cX4_weighJoins 92 = .ok (.iload 7, 2) := by decide +kernel
theorem dX4_weighJoins_94 : decode cX4_weighJoins 94 = .ok (.iload 8, 2) := by decide +kernel
theorem dX4_weighJoins_96 : decode cX4_weighJoins 96 = .ok (.iload 9, 2) := by decide +kernel
theorem dX4_weighJoins_98 : decode cX4_weighJoins 98 = .ok (.iconst 0, 1) := by decide +kernel
theorem dX4_weighJoins_99 : decode cX4_weighJoins 99 = .ok (.aload 10, 2) := by decide +kernel
theorem dX4_weighJoins_101 : decode cX4_weighJoins 101 = .ok (.invokevirtual 49, 3) := by decide +kernel
theorem dX4_weighJoins_104 : decode cX4_weighJoins 104 = .ok (.iinc 6 1, 3) := by decide +kernel
theorem dX4_weighJoins_107 : decode cX4_weighJoins 107 = .ok (.goto (-84), 3) := by decide +kernel
theorem dX4_weighJoins_110 : decode cX4_weighJoins 110 = .ok (.iinc 4 1, 3) := by decide +kernel
theorem dX4_weighJoins_113 : decode cX4_weighJoins 113 = .ok (.goto (-110), 3) := by decide +kernel
theorem dX4_weighJoins_116 : decode cX4_weighJoins 116 = .ok (.return_, 1) := by decide +kernel
set_option maxRecDepth 20000 in
theorem ggX4_tryAllOrders_X4_startOrder : GoodIn wsX4_tryAllOrders wsX4_startOrder := goodIn_r _ [7, 8, 9, 10, 11, 12, 13, 14, 15, 75, 76, 77, 78, 79, 80, 81, 82, 83, 84, 85] (by decide +kernel) (by decide +kernel)
set_option maxRecDepth 20000 in
theorem gX4_tryAllOrders_X4_startOrder : GoodIn wsX4_tryAllOrders (wsV RX4 55 RX4 yX4_startOrder wsX4_startOrder) := goodIn_app (goodIn_of _ (by decide +kernel)) ggX4_tryAllOrders_X4_startOrder
set_option maxRecDepth 20000 in
theorem ggX4_tryAllOrders_X4_costOfOrder : GoodIn wsX4_tryAllOrders wsX4_costOfOrder := goodIn_r _ [19, 20, 8, 9, 21, 22, 23, 24, 25, 26, 27, 28, 29, 30, 31, 32, 33, 34, 35, 36, 37, 38, 39, 40, 41, 42, 43, 44, 45, 46, 47, 13, 48, 15, 49, 50, 51, 52, 53, 54, 55, 56, 57, 75, 76, 77, 78, 79, 80, 86, 81, 82, 83, 84, 85] (by decide +kernel) (by decide +kernel)
set_option maxRecDepth 20000 in
theorem gX4_tryAllOrders_X4_costOfOrder : GoodIn wsX4_tryAllOrders (wsV RX4 60 RX4 yX4_costOfOrder wsX4_costOfOrder) := goodIn_app (goodIn_of _ (by decide +kernel)) ggX4_tryAllOrders_X4_costOfOrder
set_option maxRecDepth 20000 in
theorem ggX4_tryAllOrders_X4_keepIfLess : GoodIn wsX4_tryAllOrders wsX4_keepIfLess := goodIn_r _ [61, 2, 9, 62, 8, 63, 64, 65, 66, 75, 76, 77, 78, 79, 80] (by decide +kernel) (by decide +kernel)
set_option maxRecDepth 20000 in
theorem gX4_tryAllOrders_X4_keepIfLess : GoodIn wsX4_tryAllOrders (wsV RX4 64 RX4 yX4_keepIfLess wsX4_keepIfLess) := goodIn_app (goodIn_of _ (by decide +kernel)) ggX4_tryAllOrders_X4_keepIfLess
set_option maxRecDepth 20000 in
theorem ggX4_tryAllOrders_X4_goToNextOrder : GoodIn wsX4_tryAllOrders wsX4_goToNextOrder := goodIn_r _ [70, 8, 9, 71, 72, 73, 6, 74, 75, 76, 77, 78, 79, 80] (by decide +kernel) (by decide +kernel)
set_option maxRecDepth 20000 in
theorem gX4_tryAllOrders_X4_goToNextOrder : GoodIn wsX4_tryAllOrders (wsV RX4 68 RX4 yX4_goToNextOrder wsX4_goToNextOrder) := goodIn_app (goodIn_of _ (by decide +kernel)) ggX4_tryAllOrders_X4_goToNextOrder
theorem dX4_tryAllOrders_0 : decode cX4_tryAllOrders 0 = .ok (.aload_n 0, 1) := by decide +kernel
theorem dX4_tryAllOrders_1 : decode cX4_tryAllOrders 1 = .ok (.aload_n 1, 1) := by decide +kernel
theorem dX4_tryAllOrders_2 : decode cX4_tryAllOrders 2 = .ok (.invokevirtual 55, 3) := by decide +kernel
theorem dX4_tryAllOrders_5 : decode cX4_tryAllOrders 5 = .ok (.aload_n 0, 1) := by decide +kernel
theorem dX4_tryAllOrders_6 : decode cX4_tryAllOrders 6 = .ok (.ldc 59, 2) := by decide +kernel
theorem dX4_tryAllOrders_8 : decode cX4_tryAllOrders 8 = .ok (.putfield 34, 3) := by decide +kernel
theorem dX4_tryAllOrders_11 : decode cX4_tryAllOrders 11 = .ok (.iconst 0, 1) := by decide +kernel
theorem dX4_tryAllOrders_12 : decode cX4_tryAllOrders 12 = .ok (.istore_n 2, 1) := by decide +kernel
theorem dX4_tryAllOrders_13 : decode cX4_tryAllOrders 13 = .ok (.iconst 1, 1) := by decide +kernel
theorem dX4_tryAllOrders_14 : decode cX4_tryAllOrders 14 = .ok (.istore_n 3, 1) := by decide +kernel
theorem dX4_tryAllOrders_15 : decode cX4_tryAllOrders 15 = .ok (.iconst 0, 1) := by decide +kernel
theorem dX4_tryAllOrders_16 : decode cX4_tryAllOrders 16 = .ok (.istore 4, 2) := by decide +kernel
theorem dX4_tryAllOrders_18 : decode cX4_tryAllOrders 18 = .ok (.iload_n 3, 1) := by decide +kernel
theorem dX4_tryAllOrders_19 : decode cX4_tryAllOrders 19 = .ok (.ifCond .eq 44, 3) := by decide +kernel
theorem dX4_tryAllOrders_22 : decode cX4_tryAllOrders 22 = .ok (.iload 4, 2) := by decide +kernel
theorem dX4_tryAllOrders_24 : decode cX4_tryAllOrders 24 = .ok (.bipush 24, 2) := by decide +kernel
theorem dX4_tryAllOrders_26 : decode cX4_tryAllOrders 26 = .ok (.if_icmp .ge 37, 3) := by decide +kernel
theorem dX4_tryAllOrders_29 : decode cX4_tryAllOrders 29 = .ok (.aload_n 0, 1) := by decide +kernel
theorem dX4_tryAllOrders_30 : decode cX4_tryAllOrders 30 = .ok (.aload_n 1, 1) := by decide +kernel
theorem dX4_tryAllOrders_31 : decode cX4_tryAllOrders 31 = .ok (.invokevirtual 60, 3) := by decide +kernel
theorem dX4_tryAllOrders_34 : decode cX4_tryAllOrders 34 = .ok (.istore 5, 2) := by decide +kernel
theorem dX4_tryAllOrders_36 : decode cX4_tryAllOrders 36 = .ok (.iload 5, 2) := by decide +kernel
theorem dX4_tryAllOrders_38 : decode cX4_tryAllOrders 38 = .ok (.ldc 59, 2) := by decide +kernel
theorem dX4_tryAllOrders_40 : decode cX4_tryAllOrders 40 = .ok (.if_icmp .ge 12, 3) := by decide +kernel
theorem dX4_tryAllOrders_43 : decode cX4_tryAllOrders 43 = .ok (.iinc 2 1, 3) := by decide +kernel
theorem dX4_tryAllOrders_46 : decode cX4_tryAllOrders 46 = .ok (.aload_n 0, 1) := by decide +kernel
theorem dX4_tryAllOrders_47 : decode cX4_tryAllOrders 47 = .ok (.iload 5, 2) := by decide +kernel
theorem dX4_tryAllOrders_49 : decode cX4_tryAllOrders 49 = .ok (.invokevirtual 64, 3) := by decide +kernel
theorem dX4_tryAllOrders_52 : decode cX4_tryAllOrders 52 = .ok (.aload_n 0, 1) := by decide +kernel
theorem dX4_tryAllOrders_53 : decode cX4_tryAllOrders 53 = .ok (.invokevirtual 68, 3) := by decide +kernel
theorem dX4_tryAllOrders_56 : decode cX4_tryAllOrders 56 = .ok (.istore_n 3, 1) := by decide +kernel
theorem dX4_tryAllOrders_57 : decode cX4_tryAllOrders 57 = .ok (.iinc 4 1, 3) := by decide +kernel
theorem dX4_tryAllOrders_60 : decode cX4_tryAllOrders 60 = .ok (.goto (-42), 3) := by decide +kernel
theorem dX4_tryAllOrders_63 : decode cX4_tryAllOrders 63 = .ok (.iload_n 2, 1) := by decide +kernel
theorem dX4_tryAllOrders_64 : decode cX4_tryAllOrders 64 = .ok (.ireturn, 1) := by decide +kernel
set_option maxRecDepth 20000 in
theorem ggX4_startOrder_X5_size : GoodIn wsX4_startOrder wsX5_size := goodIn_r _ [7, 8, 15, 16, 17, 18, 19] (by decide +kernel) (by decide +kernel)
set_option maxRecDepth 20000 in
theorem gX4_startOrder_X5_size : GoodIn wsX4_startOrder (wsV RX4 37 RX5 yX5_size wsX5_size) := goodIn_app (goodIn_of _ (by decide +kernel)) ggX4_startOrder_X5_size
theorem dX4_startOrder_0 : decode cX4_startOrder 0 = .ok (.aload_n 0, 1) := by decide +kernel
theorem dX4_startOrder_1 : decode cX4_startOrder 1 = .ok (.iconst 0, 1) := by decide +kernel
theorem dX4_startOrder_2 : decode cX4_startOrder 2 = .ok (.putfield 30, 3) := by decide +kernel
theorem dX4_startOrder_5 : decode cX4_startOrder 5 = .ok (.iconst 0, 1) := by decide +kernel
theorem dX4_startOrder_6 : decode cX4_startOrder 6 = .ok (.istore_n 2, 1) := by decide +kernel
theorem dX4_startOrder_7 : decode cX4_startOrder 7 = .ok (.iload_n 2, 1) := by decide +kernel
theorem dX4_startOrder_8 : decode cX4_startOrder 8 = .ok (.iconst 4, 1) := by decide +kernel
theorem dX4_startOrder_9 : decode cX4_startOrder 9 = .ok (.if_icmp .ge 38, 3) := by decide +kernel
theorem dX4_startOrder_12 : decode cX4_startOrder 12 = .ok (.aload_n 1, 1) := by decide +kernel
theorem dX4_startOrder_13 : decode cX4_startOrder 13 = .ok (.iload_n 2, 1) := by decide +kernel
theorem dX4_startOrder_14 : decode cX4_startOrder 14 = .ok (.aaload, 1) := by decide +kernel
theorem dX4_startOrder_15 : decode cX4_startOrder 15 = .ok (.invokevirtual 37, 3) := by decide +kernel
theorem dX4_startOrder_18 : decode cX4_startOrder 18 = .ok (.ifCond .le 23, 3) := by decide +kernel
theorem dX4_startOrder_21 : decode cX4_startOrder 21 = .ok (.aload_n 0, 1) := by decide +kernel
theorem dX4_startOrder_22 : decode cX4_startOrder 22 = .ok (.getfield 23, 3) := by decide +kernel
theorem dX4_startOrder_25 : decode cX4_startOrder 25 = .ok (.aload_n 0, 1) := by decide +kernel
theorem dX4_startOrder_26 : decode cX4_startOrder 26 = .ok (.getfield 30, 3) := by decide +kernel
theorem dX4_startOrder_29 : decode cX4_startOrder 29 = .ok (.iload_n 2, 1) := by decide +kernel
theorem dX4_startOrder_30 : decode cX4_startOrder 30 = .ok (.iastore, 1) := by decide +kernel
theorem dX4_startOrder_31 : decode cX4_startOrder 31 = .ok (.aload_n 0, 1) := by decide +kernel
theorem dX4_startOrder_32 : decode cX4_startOrder 32 = .ok (.dup, 1) := by decide +kernel
theorem dX4_startOrder_33 : decode cX4_startOrder 33 = .ok (.getfield 30, 3) := by decide +kernel
theorem dX4_startOrder_36 : decode cX4_startOrder 36 = .ok (.iconst 1, 1) := by decide +kernel
theorem dX4_startOrder_37 : decode cX4_startOrder 37 = .ok (.iadd, 1) := by decide +kernel
theorem dX4_startOrder_38 : decode cX4_startOrder 38 = .ok (.putfield 30, 3) := by decide +kernel
theorem dX4_startOrder_41 : decode cX4_startOrder 41 = .ok (.iinc 2 1, 3) := by decide +kernel
theorem dX4_startOrder_44 : decode cX4_startOrder 44 = .ok (.goto (-37), 3) := by decide +kernel
theorem dX4_startOrder_47 : decode cX4_startOrder 47 = .ok (.return_, 1) := by decide +kernel
theorem dX4_keepIfLess_0 : decode cX4_keepIfLess 0 = .ok (.iload_n 1, 1) := by decide +kernel
theorem dX4_keepIfLess_1 : decode cX4_keepIfLess 1 = .ok (.aload_n 0, 1) := by decide +kernel
theorem dX4_keepIfLess_2 : decode cX4_keepIfLess 2 = .ok (.getfield 34, 3) := by decide +kernel
theorem dX4_keepIfLess_5 : decode cX4_keepIfLess 5 = .ok (.if_icmp .ge 25, 3) := by decide +kernel
theorem dX4_keepIfLess_8 : decode cX4_keepIfLess 8 = .ok (.aload_n 0, 1) := by decide +kernel
theorem dX4_keepIfLess_9 : decode cX4_keepIfLess 9 = .ok (.iload_n 1, 1) := by decide +kernel
theorem dX4_keepIfLess_10 : decode cX4_keepIfLess 10 = .ok (.putfield 34, 3) := by decide +kernel
theorem dX4_keepIfLess_13 : decode cX4_keepIfLess 13 = .ok (.aload_n 0, 1) := by decide +kernel
theorem dX4_keepIfLess_14 : decode cX4_keepIfLess 14 = .ok (.getfield 23, 3) := by decide +kernel
theorem dX4_keepIfLess_17 : decode cX4_keepIfLess 17 = .ok (.iconst 0, 1) := by decide +kernel
theorem dX4_keepIfLess_18 : decode cX4_keepIfLess 18 = .ok (.aload_n 0, 1) := by decide +kernel
theorem dX4_keepIfLess_19 : decode cX4_keepIfLess 19 = .ok (.getfield 27, 3) := by decide +kernel
theorem dX4_keepIfLess_22 : decode cX4_keepIfLess 22 = .ok (.iconst 0, 1) := by decide +kernel
theorem dX4_keepIfLess_23 : decode cX4_keepIfLess 23 = .ok (.aload_n 0, 1) := by decide +kernel
theorem dX4_keepIfLess_24 : decode cX4_keepIfLess 24 = .ok (.getfield 30, 3) := by decide +kernel
theorem dX4_keepIfLess_27 : decode cX4_keepIfLess 27 = .ok (.invokestatic 72, 3) := by decide +kernel
theorem dX4_keepIfLess_30 : decode cX4_keepIfLess 30 = .ok (.return_, 1) := by decide +kernel
set_option maxRecDepth 20000 in
theorem ggX4_costOfOrder_X1_startRow : GoodIn wsX4_costOfOrder wsX1_startRow := goodIn_r _ [9, 10, 11, 12, 13, 14, 15, 49] (by decide +kernel) (by decide +kernel)
set_option maxRecDepth 20000 in
theorem gX4_costOfOrder_X1_startRow : GoodIn wsX4_costOfOrder (wsV RX4 78 RX1 yX1_startRow wsX1_startRow) := goodIn_app (goodIn_of _ (by decide +kernel)) ggX4_costOfOrder_X1_startRow
set_option maxRecDepth 20000 in
theorem ggX4_costOfOrder_X1_growFrom : GoodIn wsX4_costOfOrder wsX1_growFrom := goodIn_r _ [19, 10, 11, 20, 21, 22, 23, 24, 25, 26, 8, 27, 49] (by decide +kernel) (by decide +kernel)
set_option maxRecDepth 20000 in
theorem gX4_costOfOrder_X1_growFrom : GoodIn wsX4_costOfOrder (wsV RX4 81 RX1 yX1_growFrom wsX1_growFrom) := goodIn_app (goodIn_of _ (by decide +kernel)) ggX4_costOfOrder_X1_growFrom
set_option maxRecDepth 20000 in
theorem ggX4_costOfOrder_X5_gaps : GoodIn wsX4_costOfOrder wsX5_gaps := goodIn_r _ [32, 33, 50, 51, 52, 53, 54] (by decide +kernel) (by decide +kernel)
set_option maxRecDepth 20000 in
theorem gX4_costOfOrder_X5_gaps : GoodIn wsX4_costOfOrder (wsV RX4 85 RX5 yX5_gaps wsX5_gaps) := goodIn_app (goodIn_of _ (by decide +kernel)) ggX4_costOfOrder_X5_gaps
set_option maxRecDepth 20000 in
theorem ggX4_costOfOrder_X5_costsAt : GoodIn wsX4_costOfOrder wsX5_costsAt := goodIn_r _ [37, 38, 50, 51, 52, 53, 54] (by decide +kernel) (by decide +kernel)
set_option maxRecDepth 20000 in
theorem gX4_costOfOrder_X5_costsAt : GoodIn wsX4_costOfOrder (wsV RX4 88 RX5 yX5_costsAt wsX5_costsAt) := goodIn_app (goodIn_of _ (by decide +kernel)) ggX4_costOfOrder_X5_costsAt
set_option maxRecDepth 20000 in
theorem ggX4_costOfOrder_X1_leastOfAll : GoodIn wsX4_costOfOrder wsX1_leastOfAll := goodIn_r _ [42, 10, 24, 25, 26, 8, 27, 49] (by decide +kernel) (by decide +kernel)
set_option maxRecDepth 20000 in
theorem gX4_costOfOrder_X1_leastOfAll : GoodIn wsX4_costOfOrder (wsV RX4 92 RX1 yX1_leastOfAll wsX1_leastOfAll) := goodIn_app (goodIn_of _ (by decide +kernel)) ggX4_costOfOrder_X1_leastOfAll
theorem dX4_costOfOrder_0 : decode cX4_costOfOrder 0 = .ok (.aload_n 0, 1) := by decide +kernel
theorem dX4_costOfOrder_1 : decode cX4_costOfOrder 1 = .ok (.getfield 19, 3) := by decide +kernel
theorem dX4_costOfOrder_4 : decode cX4_costOfOrder 4 = .ok (.invokevirtual 78, 3) := by decide +kernel
theorem dX4_costOfOrder_7 : decode cX4_costOfOrder 7 = .ok (.iconst 0, 1) := by decide +kernel
theorem dX4_costOfOrder_8 : decode cX4_costOfOrder 8 = .ok (.istore_n 2, 1) := by decide +kernel
theorem dX4_costOfOrder_9 : decode cX4_costOfOrder 9 = .ok (.iload_n 2, 1) := by decide +kernel
theorem dX4_costOfOrder_10 : decode cX4_costOfOrder 10 = .ok (.aload_n 0, 1) := by decide +kernel
theorem dX4_costOfOrder_11 : decode cX4_costOfOrder 11 = .ok (.getfield 30, 3) := by decide +kernel
theorem dX4_costOfOrder_14 : decode cX4_costOfOrder 14 = .ok (.if_icmp .ge 90, 3) := by decide +kernel
theorem dX4_costOfOrder_17 : decode cX4_costOfOrder 17 = .ok (.aload_n 1, 1) := by decide +kernel
theorem dX4_costOfOrder_18 : decode cX4_costOfOrder 18 = .ok (.aload_n 0, 1) := by decide +kernel
theorem dX4_costOfOrder_19 : decode cX4_costOfOrder 19 = .ok (.getfield 23, 3) := by decide +kernel
theorem dX4_costOfOrder_22 : decode cX4_costOfOrder 22 = .ok (.iload_n 2, 1) := by decide +kernel
theorem dX4_costOfOrder_23 : decode cX4_costOfOrder 23 = .ok (.iaload, 1) := by decide +kernel
theorem dX4_costOfOrder_24 : decode cX4_costOfOrder 24 = .ok (.aaload, 1) := by decide +kernel
theorem dX4_costOfOrder_25 : decode cX4_costOfOrder 25 = .ok (.astore_n 3, 1) := by decide +kernel
theorem dX4_costOfOrder_26 : decode cX4_costOfOrder 26 = .ok (.iload_n 2, 1) := by decide +kernel
theorem dX4_costOfOrder_27 : decode cX4_costOfOrder 27 = .ok (.ifCond .le 36, 3) := by decide +kernel
theorem dX4_costOfOrder_30 : decode cX4_costOfOrder 30 = .ok (.aload_n 0, 1) := by decide +kernel
theorem dX4_costOfOrder_31 : decode cX4_costOfOrder 31 = .ok (.getfield 19, 3) := by decide +kernel
theorem dX4_costOfOrder_34 : decode cX4_costOfOrder 34 = .ok (.aload_n 0, 1) := by decide +kernel
theorem dX4_costOfOrder_35 : decode cX4_costOfOrder 35 = .ok (.getfield 19, 3) := by decide +kernel
theorem dX4_costOfOrder_38 : decode cX4_costOfOrder 38 = .ok (.aload_n 0, 1) := by decide +kernel
theorem dX4_costOfOrder_39 : decode cX4_costOfOrder 39 = .ok (.getfield 11, 3) := by decide +kernel
theorem dX4_costOfOrder_42 : decode cX4_costOfOrder 42 = .ok (.aload_n 0, 1) := by decide +kernel
theorem dX4_costOfOrder_43 : decode cX4_costOfOrder 43 = .ok (.getfield 23, 3) := by decide +kernel
theorem dX4_costOfOrder_46 : decode cX4_costOfOrder 46 = .ok (.iload_n 2, 1) := by decide +kernel
theorem dX4_costOfOrder_47 : decode cX4_costOfOrder 47 = .ok (.iconst 1, 1) := by decide +kernel
theorem dX4_costOfOrder_48 : decode cX4_costOfOrder 48 = .ok (.isub, 1) := by decide +kernel
theorem dX4_costOfOrder_49 : decode cX4_costOfOrder 49 = .ok (.iaload, 1) := by decide +kernel
theorem dX4_costOfOrder_50 : decode cX4_costOfOrder 50 = .ok (.iconst 4, 1) := by decide +kernel
theorem dX4_costOfOrder_51 : decode cX4_costOfOrder 51 = .ok (.imul, 1) := by decide +kernel
theorem dX4_costOfOrder_52 : decode cX4_costOfOrder 52 = .ok (.aload_n 0, 1) := by decide +kernel
theorem dX4_costOfOrder_53 : decode cX4_costOfOrder 53 = .ok (.getfield 23, 3) := by decide +kernel
theorem dX4_costOfOrder_56 : decode cX4_costOfOrder 56 = .ok (.iload_n 2, 1) := by decide +kernel
theorem dX4_costOfOrder_57 : decode cX4_costOfOrder 57 = .ok (.iaload, 1) := by decide +kernel
theorem dX4_costOfOrder_58 : decode cX4_costOfOrder 58 = .ok (.iadd, 1) := by decide +kernel
theorem dX4_costOfOrder_59 : decode cX4_costOfOrder 59 = .ok (.aaload, 1) := by decide +kernel
theorem dX4_costOfOrder_60 : decode cX4_costOfOrder 60 = .ok (.invokevirtual 81, 3) := by decide +kernel
theorem dX4_costOfOrder_63 : decode cX4_costOfOrder 63 = .ok (.iconst 0, 1) := by decide +kernel
theorem dX4_costOfOrder_64 : decode cX4_costOfOrder 64 = .ok (.istore 4, 2) := by decide +kernel
theorem dX4_costOfOrder_66 : decode cX4_costOfOrder 66 = .ok (.iload 4, 2) := by decide +kernel
theorem dX4_costOfOrder_68 : decode cX4_costOfOrder 68 = .ok (.aload_n 3, 1) := by decide +kernel
theorem dX4_costOfOrder_69 : decode cX4_costOfOrder 69 = .ok (.invokevirtual 85, 3) := by decide +kernel
theorem dX4_costOfOrder_72 : decode cX4_costOfOrder 72 = .ok (.if_icmp .ge 26, 3) := by decide +kernel
theorem dX4_costOfOrder_75 : decode cX4_costOfOrder 75 = .ok (.aload_n 0, 1) := by decide +kernel
theorem dX4_costOfOrder_76 : decode cX4_costOfOrder 76 = .ok (.getfield 19, 3) := by decide +kernel
theorem dX4_costOfOrder_79 : decode cX4_costOfOrder 79 = .ok (.aload_n 0, 1) := by decide +kernel
theorem dX4_costOfOrder_80 : decode cX4_costOfOrder 80 = .ok (.getfield 19, 3) := by decide +kernel
theorem dX4_costOfOrder_83 : decode cX4_costOfOrder 83 = .ok (.aload_n 3, 1) := by decide +kernel
theorem dX4_costOfOrder_84 : decode cX4_costOfOrder 84 = .ok (.iload 4, 2) := by decide +kernel
theorem dX4_costOfOrder_86 : decode cX4_costOfOrder 86 = .ok (.invokevirtual 88, 3) := by decide +kernel
theorem dX4_costOfOrder_89 : decode cX4_costOfOrder 89 = .ok (.invokevirtual 81, 3) := by decide +kernel
theorem dX4_costOfOrder_92 : decode cX4_costOfOrder 92 = .ok (.iinc 4 1, 3) := by decide +kernel
theorem dX4_costOfOrder_95 : decode cX4_costOfOrder 95 = .ok (.goto (-29), 3) := by decide +kernel
theorem dX4_costOfOrder_98 : decode cX4_costOfOrder 98 = .ok (.iinc 2 1, 3) := by decide +kernel
theorem dX4_costOfOrder_101 : decode cX4_costOfOrder 101 = .ok (.goto (-92), 3) := by decide +kernel
theorem dX4_costOfOrder_104 : decode cX4_costOfOrder 104 = .ok (.aload_n 0, 1) := by decide +kernel
theorem dX4_costOfOrder_105 : decode cX4_costOfOrder 105 = .ok (.getfield 19, 3) := by decide +kernel
theorem dX4_costOfOrder_108 : decode cX4_costOfOrder 108 = .ok (.invokevirtual 92, 3) := by decide +kernel
theorem dX4_costOfOrder_111 : decode cX4_costOfOrder 111 = .ok (.ireturn, 1) := by decide +kernel
set_option maxRecDepth 20000 in
theorem ggX4_goToNextOrder_X4_exchange : GoodIn wsX4_goToNextOrder wsX4_exchange := goodIn_r _ [7, 2, 8, 9, 10, 11, 12, 13] (by decide +kernel) (by decide +kernel)
set_option maxRecDepth 20000 in
theorem gX4_goToNextOrder_X4_exchange : GoodIn wsX4_goToNextOrder (wsV RX4 95 RX4 yX4_exchange wsX4_exchange) := goodIn_app (goodIn_of _ (by decide +kernel)) ggX4_goToNextOrder_X4_exchange
theorem dX4_goToNextOrder_0 : decode cX4_goToNextOrder 0 = .ok (.aload_n 0, 1) := by decide +kernel
theorem dX4_goToNextOrder_1 : decode cX4_goToNextOrder 1 = .ok (.getfield 30, 3) := by decide +kernel
theorem dX4_goToNextOrder_4 : decode cX4_goToNextOrder 4 = .ok (.iconst 2, 1) := by decide +kernel
theorem dX4_goToNextOrder_5 : decode cX4_goToNextOrder 5 = .ok (.isub, 1) := by decide +kernel
theorem dX4_goToNextOrder_6 : decode cX4_goToNextOrder 6 = .ok (.istore_n 1, 1) := by decide +kernel
theorem dX4_goToNextOrder_7 : decode cX4_goToNextOrder 7 = .ok (.iload_n 1, 1) := by decide +kernel
theorem dX4_goToNextOrder_8 : decode cX4_goToNextOrder 8 = .ok (.ifCond .lt 26, 3) := by decide +kernel
theorem dX4_goToNextOrder_11 : decode cX4_goToNextOrder 11 = .ok (.aload_n 0, 1) := by decide +kernel
theorem dX4_goToNextOrder_12 : decode cX4_goToNextOrder 12 = .ok (.getfield 23, 3) := by decide +kernel
theorem dX4_goToNextOrder_15 : decode cX4_goToNextOrder 15 = .ok (.iload_n 1, 1) := by decide +kernel
theorem dX4_goToNextOrder_16 : decode cX4_goToNextOrder 16 = .ok (.iaload, 1) := by decide +kernel
theorem dX4_goToNextOrder_17 : decode cX4_goToNextOrder 17 = .ok (.aload_n 0, 1) := by decide +kernel
theorem dX4_goToNextOrder_18 : decode cX4_goToNextOrder 18 = .ok (.getfield 23, 3) := by decide +kernel
theorem dX4_goToNextOrder_21 : decode cX4_goToNextOrder 21 = .ok (.iload_n 1, 1) := by decide +kernel
theorem dX4_goToNextOrder_22 : decode cX4_goToNextOrder 22 = .ok (.iconst 1, 1) := by decide +kernel
theorem dX4_goToNextOrder_23 : decode cX4_goToNextOrder 23 = .ok (.iadd, 1) := by decide +kernel
theorem dX4_goToNextOrder_24 : decode cX4_goToNextOrder 24 = .ok (.iaload, 1) := by decide +kernel
theorem dX4_goToNextOrder_25 : decode cX4_goToNextOrder 25 = .ok (.if_icmp .le 9, 3) := by decide +kernel
theorem dX4_goToNextOrder_28 : decode cX4_goToNextOrder 28 = .ok (.iinc 1 (-1), 3) := by decide +kernel
theorem dX4_goToNextOrder_31 : decode cX4_goToNextOrder 31 = .ok (.goto (-24), 3) := by decide +kernel
theorem dX4_goToNextOrder_34 : decode cX4_goToNextOrder 34 = .ok (.iload_n 1, 1) := by decide +kernel
theorem dX4_goToNextOrder_35 : decode cX4_goToNextOrder 35 = .ok (.ifCond .ge 5, 3) := by decide +kernel
theorem dX4_goToNextOrder_38 : decode cX4_goToNextOrder 38 = .ok (.iconst 0, 1) := by decide +kernel
theorem dX4_goToNextOrder_39 : decode cX4_goToNextOrder 39 = .ok (.ireturn, 1) := by decide +kernel
theorem dX4_goToNextOrder_40 : decode cX4_goToNextOrder 40 = .ok (.aload_n 0, 1) := by decide +kernel
theorem dX4_goToNextOrder_41 : decode cX4_goToNextOrder 41 = .ok (.getfield 30, 3) := by decide +kernel
theorem dX4_goToNextOrder_44 : decode cX4_goToNextOrder 44 = .ok (.iconst 1, 1) := by decide +kernel
theorem dX4_goToNextOrder_45 : decode cX4_goToNextOrder 45 = .ok (.isub, 1) := by decide +kernel
theorem dX4_goToNextOrder_46 : decode cX4_goToNextOrder 46 = .ok (.istore_n 2, 1) := by decide +kernel
theorem dX4_goToNextOrder_47 : decode cX4_goToNextOrder 47 = .ok (.iload_n 2, 1) := by decide +kernel
theorem dX4_goToNextOrder_48 : decode cX4_goToNextOrder 48 = .ok (.iload_n 1, 1) := by decide +kernel
theorem dX4_goToNextOrder_49 : decode cX4_goToNextOrder 49 = .ok (.if_icmp .le 24, 3) := by decide +kernel
theorem dX4_goToNextOrder_52 : decode cX4_goToNextOrder 52 = .ok (.aload_n 0, 1) := by decide +kernel
theorem dX4_goToNextOrder_53 : decode cX4_goToNextOrder 53 = .ok (.getfield 23, 3) := by decide +kernel
theorem dX4_goToNextOrder_56 : decode cX4_goToNextOrder 56 = .ok (.iload_n 2, 1) := by decide +kernel
theorem dX4_goToNextOrder_57 : decode cX4_goToNextOrder 57 = .ok (.iaload, 1) := by decide +kernel
theorem dX4_goToNextOrder_58 : decode cX4_goToNextOrder 58 = .ok (.aload_n 0, 1) := by decide +kernel
theorem dX4_goToNextOrder_59 : decode cX4_goToNextOrder 59 = .ok (.getfield 23, 3) := by decide +kernel
theorem dX4_goToNextOrder_62 : decode cX4_goToNextOrder 62 = .ok (.iload_n 1, 1) := by decide +kernel
theorem dX4_goToNextOrder_63 : decode cX4_goToNextOrder 63 = .ok (.iaload, 1) := by decide +kernel
theorem dX4_goToNextOrder_64 : decode cX4_goToNextOrder 64 = .ok (.if_icmp .ge 9, 3) := by decide +kernel
theorem dX4_goToNextOrder_67 : decode cX4_goToNextOrder 67 = .ok (.iinc 2 (-1), 3) := by decide +kernel
theorem dX4_goToNextOrder_70 : decode cX4_goToNextOrder 70 = .ok (.goto (-23), 3) := by decide +kernel
theorem dX4_goToNextOrder_73 : decode cX4_goToNextOrder 73 = .ok (.aload_n 0, 1) := by decide +kernel
theorem dX4_goToNextOrder_74 : decode cX4_goToNextOrder 74 = .ok (.iload_n 1, 1) := by decide +kernel
theorem dX4_goToNextOrder_75 : decode cX4_goToNextOrder 75 = .ok (.iload_n 2, 1) := by decide +kernel
theorem dX4_goToNextOrder_76 : decode cX4_goToNextOrder 76 = .ok (.invokevirtual 95, 3) := by decide +kernel
theorem dX4_goToNextOrder_79 : decode cX4_goToNextOrder 79 = .ok (.iload_n 1, 1) := by decide +kernel
theorem dX4_goToNextOrder_80 : decode cX4_goToNextOrder 80 = .ok (.iconst 1, 1) := by decide +kernel
theorem dX4_goToNextOrder_81 : decode cX4_goToNextOrder 81 = .ok (.iadd, 1) := by decide +kernel
theorem dX4_goToNextOrder_82 : decode cX4_goToNextOrder 82 = .ok (.istore_n 3, 1) := by decide +kernel
theorem dX4_goToNextOrder_83 : decode cX4_goToNextOrder 83 = .ok (.aload_n 0, 1) := by decide +kernel
theorem dX4_goToNextOrder_84 : decode cX4_goToNextOrder 84 = .ok (.getfield 30, 3) := by decide +kernel
theorem dX4_goToNextOrder_87 : decode cX4_goToNextOrder 87 = .ok (.iconst 1, 1) := by decide +kernel
theorem dX4_goToNextOrder_88 : decode cX4_goToNextOrder 88 = .ok (.isub, 1) := by decide +kernel
theorem dX4_goToNextOrder_89 : decode cX4_goToNextOrder 89 = .ok (.istore 4, 2) := by decide +kernel
theorem dX4_goToNextOrder_91 : decode cX4_goToNextOrder 91 = .ok (.iload_n 3, 1) := by decide +kernel
theorem dX4_goToNextOrder_92 : decode cX4_goToNextOrder 92 = .ok (.iload 4, 2) := by decide +kernel
theorem dX4_goToNextOrder_94 : decode cX4_goToNextOrder 94 = .ok (.if_icmp .ge 19, 3) := by decide +kernel
theorem dX4_goToNextOrder_97 : decode cX4_goToNextOrder 97 = .ok (.aload_n 0, 1) := by decide +kernel
theorem dX4_goToNextOrder_98 : decode cX4_goToNextOrder 98 = .ok (.iload_n 3, 1) := by decide +kernel
theorem dX4_goToNextOrder_99 : decode cX4_goToNextOrder 99 = .ok (.iload 4, 2) := by decide +kernel
theorem dX4_goToNextOrder_101 : decode cX4_goToNextOrder 101 = .ok (.invokevirtual 95, 3) := by decide +kernel
theorem dX4_goToNextOrder_104 : decode cX4_goToNextOrder 104 = .ok (.iinc 3 1, 3) := by decide +kernel
theorem dX4_goToNextOrder_107 : decode cX4_goToNextOrder 107 = .ok (.iinc 4 (-1), 3) := by decide +kernel
theorem dX4_goToNextOrder_110 : decode cX4_goToNextOrder 110 = .ok (.goto (-19), 3) := by decide +kernel
theorem dX4_goToNextOrder_113 : decode cX4_goToNextOrder 113 = .ok (.iconst 1, 1) := by decide +kernel
theorem dX4_goToNextOrder_114 : decode cX4_goToNextOrder 114 = .ok (.ireturn, 1) := by decide +kernel
theorem dX4_exchange_0 : decode cX4_exchange 0 = .ok (.aload_n 0, 1) := by decide +kernel
theorem dX4_exchange_1 : decode cX4_exchange 1 = .ok (.getfield 23, 3) := by decide +kernel
theorem dX4_exchange_4 : decode cX4_exchange 4 = .ok (.iload_n 1, 1) := by decide +kernel
theorem dX4_exchange_5 : decode cX4_exchange 5 = .ok (.iaload, 1) := by decide +kernel
theorem dX4_exchange_6 : decode cX4_exchange 6 = .ok (.istore_n 3, 1) := by decide +kernel
theorem dX4_exchange_7 : decode cX4_exchange 7 = .ok (.aload_n 0, 1) := by decide +kernel
theorem dX4_exchange_8 : decode cX4_exchange 8 = .ok (.getfield 23, 3) := by decide +kernel
theorem dX4_exchange_11 : decode cX4_exchange 11 = .ok (.iload_n 1, 1) := by decide +kernel
theorem dX4_exchange_12 : decode cX4_exchange 12 = .ok (.aload_n 0, 1) := by decide +kernel
theorem dX4_exchange_13 : decode cX4_exchange 13 = .ok (.getfield 23, 3) := by decide +kernel
theorem dX4_exchange_16 : decode cX4_exchange 16 = .ok (.iload_n 2, 1) := by decide +kernel
theorem dX4_exchange_17 : decode cX4_exchange 17 = .ok (.iaload, 1) := by decide +kernel
theorem dX4_exchange_18 : decode cX4_exchange 18 = .ok (.iastore, 1) := by decide +kernel
theorem dX4_exchange_19 : decode cX4_exchange 19 = .ok (.aload_n 0, 1) := by decide +kernel
theorem dX4_exchange_20 : decode cX4_exchange 20 = .ok (.getfield 23, 3) := by decide +kernel
theorem dX4_exchange_23 : decode cX4_exchange 23 = .ok (.iload_n 2, 1) := by decide +kernel
theorem dX4_exchange_24 : decode cX4_exchange 24 = .ok (.iload_n 3, 1) := by decide +kernel
theorem dX4_exchange_25 : decode cX4_exchange 25 = .ok (.iastore, 1) := by decide +kernel
theorem dX4_exchange_26 : decode cX4_exchange 26 = .ok (.return_, 1) := by decide +kernel
theorem dX5_init_0 : decode cX5_init 0 = .ok (.aload_n 0, 1) := by decide +kernel
theorem dX5_init_1 : decode cX5_init 1 = .ok (.invokespecial 3, 3) := by decide +kernel
theorem dX5_init_4 : decode cX5_init 4 = .ok (.aload_n 0, 1) := by decide +kernel
theorem dX5_init_5 : decode cX5_init 5 = .ok (.bipush 10, 2) := by decide +kernel
theorem dX5_init_7 : decode cX5_init 7 = .ok (.newarray .int, 2) := by decide +kernel
theorem dX5_init_9 : decode cX5_init 9 = .ok (.putfield 9, 3) := by decide +kernel
theorem dX5_init_12 : decode cX5_init 12 = .ok (.aload_n 0, 1) := by decide +kernel
theorem dX5_init_13 : decode cX5_init 13 = .ok (.bipush 10, 2) := by decide +kernel
theorem dX5_init_15 : decode cX5_init 15 = .ok (.newarray .int, 2) := by decide +kernel
theorem dX5_init_17 : decode cX5_init 17 = .ok (.putfield 15, 3) := by decide +kernel
theorem dX5_init_20 : decode cX5_init 20 = .ok (.aload_n 0, 1) := by decide +kernel
theorem dX5_init_21 : decode cX5_init 21 = .ok (.bipush 9, 2) := by decide +kernel
theorem dX5_init_23 : decode cX5_init 23 = .ok (.newarray .boolean, 2) := by decide +kernel
theorem dX5_init_25 : decode cX5_init 25 = .ok (.putfield 18, 3) := by decide +kernel
theorem dX5_init_28 : decode cX5_init 28 = .ok (.aload_n 0, 1) := by decide +kernel
theorem dX5_init_29 : decode cX5_init 29 = .ok (.bipush 9, 2) := by decide +kernel
theorem dX5_init_31 : decode cX5_init 31 = .ok (.bipush 9, 2) := by decide +kernel
theorem dX5_init_33 : decode cX5_init 33 = .ok (.multianewarray 22 2, 4) := by decide +kernel
theorem dX5_init_37 : decode cX5_init 37 = .ok (.putfield 24, 3) := by decide +kernel
theorem dX5_init_40 : decode cX5_init 40 = .ok (.return_, 1) := by decide +kernel
theorem dX5_size_0 : decode cX5_size 0 = .ok (.aload_n 0, 1) := by decide +kernel
theorem dX5_size_1 : decode cX5_size 1 = .ok (.getfield 27, 3) := by decide +kernel
theorem dX5_size_4 : decode cX5_size 4 = .ok (.ireturn, 1) := by decide +kernel
theorem dX5_gaps_0 : decode cX5_gaps 0 = .ok (.aload_n 0, 1) := by decide +kernel
theorem dX5_gaps_1 : decode cX5_gaps 1 = .ok (.getfield 27, 3) := by decide +kernel
theorem dX5_gaps_4 : decode cX5_gaps 4 = .ok (.ifCond .ne 7, 3) := by decide +kernel
theorem dX5_gaps_7 : decode cX5_gaps 7 = .ok (.iconst 0, 1) := by decide +kernel
theorem dX5_gaps_8 : decode cX5_gaps 8 = .ok (.goto 9, 3) := by decide +kernel
theorem dX5_gaps_11 : decode cX5_gaps 11 = .ok (.aload_n 0, 1) := by decide +kernel
theorem dX5_gaps_12 : decode cX5_gaps 12 = .ok (.getfield 27, 3) := by decide +kernel
theorem dX5_gaps_15 : decode cX5_gaps 15 = .ok (.iconst 1, 1) := by decide +kernel
theorem dX5_gaps_16 : decode cX5_gaps 16 = .ok (.isub, 1) := by decide +kernel
theorem dX5_gaps_17 : decode cX5_gaps 17 = .ok (.ireturn, 1) := by decide +kernel
theorem dX5_pitchOf_0 : decode cX5_pitchOf 0 = .ok (.aload_n 0, 1) := by decide +kernel
theorem dX5_pitchOf_1 : decode cX5_pitchOf 1 = .ok (.getfield 9, 3) := by decide +kernel
theorem dX5_pitchOf_4 : decode cX5_pitchOf 4 = .ok (.iload_n 1, 1) := by decide +kernel
theorem dX5_pitchOf_5 : decode cX5_pitchOf 5 = .ok (.iaload, 1) := by decide +kernel
theorem dX5_pitchOf_6 : decode cX5_pitchOf 6 = .ok (.ireturn, 1) := by decide +kernel
theorem dX5_lengthOf_0 : decode cX5_lengthOf 0 = .ok (.aload_n 0, 1) := by decide +kernel
theorem dX5_lengthOf_1 : decode cX5_lengthOf 1 = .ok (.getfield 15, 3) := by decide +kernel
theorem dX5_lengthOf_4 : decode cX5_lengthOf 4 = .ok (.iload_n 1, 1) := by decide +kernel
theorem dX5_lengthOf_5 : decode cX5_lengthOf 5 = .ok (.iaload, 1) := by decide +kernel
theorem dX5_lengthOf_6 : decode cX5_lengthOf 6 = .ok (.ireturn, 1) := by decide +kernel
theorem dX5_append_0 : decode cX5_append 0 = .ok (.aload_n 0, 1) := by decide +kernel
theorem dX5_append_1 : decode cX5_append 1 = .ok (.getfield 27, 3) := by decide +kernel
theorem dX5_append_4 : decode cX5_append 4 = .ok (.ifCond .le 15, 3) := by decide +kernel
theorem dX5_append_7 : decode cX5_append 7 = .ok (.aload_n 0, 1) := by decide +kernel
theorem dX5_append_8 : decode cX5_append 8 = .ok (.getfield 18, 3) := by decide +kernel
theorem dX5_append_11 : decode cX5_append 11 = .ok (.aload_n 0, 1) := by decide +kernel
theorem dX5_append_12 : decode cX5_append 12 = .ok (.getfield 27, 3) := by decide +kernel
theorem dX5_append_15 : decode cX5_append 15 = .ok (.iconst 1, 1) := by decide +kernel
theorem dX5_append_16 : decode cX5_append 16 = .ok (.isub, 1) := by decide +kernel
theorem dX5_append_17 : decode cX5_append 17 = .ok (.iconst 0, 1) := by decide +kernel
theorem dX5_append_18 : decode cX5_append 18 = .ok (.bastore, 1) := by decide +kernel
theorem dX5_append_19 : decode cX5_append 19 = .ok (.aload_n 0, 1) := by decide +kernel
theorem dX5_append_20 : decode cX5_append 20 = .ok (.getfield 9, 3) := by decide +kernel
theorem dX5_append_23 : decode cX5_append 23 = .ok (.aload_n 0, 1) := by decide +kernel
theorem dX5_append_24 : decode cX5_append 24 = .ok (.getfield 27, 3) := by decide +kernel
theorem dX5_append_27 : decode cX5_append 27 = .ok (.iload_n 1, 1) := by decide +kernel
theorem dX5_append_28 : decode cX5_append 28 = .ok (.iastore, 1) := by decide +kernel
theorem dX5_append_29 : decode cX5_append 29 = .ok (.aload_n 0, 1) := by decide +kernel
theorem dX5_append_30 : decode cX5_append 30 = .ok (.getfield 15, 3) := by decide +kernel
theorem dX5_append_33 : decode cX5_append 33 = .ok (.aload_n 0, 1) := by decide +kernel
theorem dX5_append_34 : decode cX5_append 34 = .ok (.getfield 27, 3) := by decide +kernel
theorem dX5_append_37 : decode cX5_append 37 = .ok (.iload_n 2, 1) := by decide +kernel
theorem dX5_append_38 : decode cX5_append 38 = .ok (.iastore, 1) := by decide +kernel
theorem dX5_append_39 : decode cX5_append 39 = .ok (.aload_n 0, 1) := by decide +kernel
theorem dX5_append_40 : decode cX5_append 40 = .ok (.dup, 1) := by decide +kernel
theorem dX5_append_41 : decode cX5_append 41 = .ok (.getfield 27, 3) := by decide +kernel
theorem dX5_append_44 : decode cX5_append 44 = .ok (.iconst 1, 1) := by decide +kernel
theorem dX5_append_45 : decode cX5_append 45 = .ok (.iadd, 1) := by decide +kernel
theorem dX5_append_46 : decode cX5_append 46 = .ok (.putfield 27, 3) := by decide +kernel
theorem dX5_append_49 : decode cX5_append 49 = .ok (.aload_n 0, 1) := by decide +kernel
theorem dX5_append_50 : decode cX5_append 50 = .ok (.getfield 27, 3) := by decide +kernel
theorem dX5_append_53 : decode cX5_append 53 = .ok (.ireturn, 1) := by decide +kernel
theorem dX5_dropLast_0 : decode cX5_dropLast 0 = .ok (.aload_n 0, 1) := by decide +kernel
theorem dX5_dropLast_1 : decode cX5_dropLast 1 = .ok (.dup, 1) := by decide +kernel
theorem dX5_dropLast_2 : decode cX5_dropLast 2 = .ok (.getfield 27, 3) := by decide +kernel
theorem dX5_dropLast_5 : decode cX5_dropLast 5 = .ok (.iconst 1, 1) := by decide +kernel
theorem dX5_dropLast_6 : decode cX5_dropLast 6 = .ok (.isub, 1) := by decide +kernel
theorem dX5_dropLast_7 : decode cX5_dropLast 7 = .ok (.putfield 27, 3) := by decide +kernel
theorem dX5_dropLast_10 : decode cX5_dropLast 10 = .ok (.aload_n 0, 1) := by decide +kernel
theorem dX5_dropLast_11 : decode cX5_dropLast 11 = .ok (.getfield 9, 3) := by decide +kernel
theorem dX5_dropLast_14 : decode cX5_dropLast 14 = .ok (.aload_n 0, 1) := by decide +kernel
theorem dX5_dropLast_15 : decode cX5_dropLast 15 = .ok (.getfield 27, 3) := by decide +kernel
theorem dX5_dropLast_18 : decode cX5_dropLast 18 = .ok (.iaload, 1) := by decide +kernel
theorem dX5_dropLast_19 : decode cX5_dropLast 19 = .ok (.ireturn, 1) := by decide +kernel
theorem dX5_replaceWish_0 : decode cX5_replaceWish 0 = .ok (.aload_n 0, 1) := by decide +kernel
theorem dX5_replaceWish_1 : decode cX5_replaceWish 1 = .ok (.getfield 18, 3) := by decide +kernel
theorem dX5_replaceWish_4 : decode cX5_replaceWish 4 = .ok (.iload_n 1, 1) := by decide +kernel
theorem dX5_replaceWish_5 : decode cX5_replaceWish 5 = .ok (.baload, 1) := by decide +kernel
theorem dX5_replaceWish_6 : decode cX5_replaceWish 6 = .ok (.istore_n 3, 1) := by decide +kernel
theorem dX5_replaceWish_7 : decode cX5_replaceWish 7 = .ok (.aload_n 0, 1) := by decide +kernel
theorem dX5_replaceWish_8 : decode cX5_replaceWish 8 = .ok (.getfield 18, 3) := by decide +kernel
theorem dX5_replaceWish_11 : decode cX5_replaceWish 11 = .ok (.iload_n 1, 1) := by decide +kernel
theorem dX5_replaceWish_12 : decode cX5_replaceWish 12 = .ok (.iload_n 2, 1) := by decide +kernel
theorem dX5_replaceWish_13 : decode cX5_replaceWish 13 = .ok (.bastore, 1) := by decide +kernel
theorem dX5_replaceWish_14 : decode cX5_replaceWish 14 = .ok (.iload_n 3, 1) := by decide +kernel
theorem dX5_replaceWish_15 : decode cX5_replaceWish 15 = .ok (.ireturn, 1) := by decide +kernel
set_option maxRecDepth 20000 in
theorem ggX5_weighGaps_X3_weigh : GoodIn wsX5_weighGaps wsX3_weigh := goodIn_r _ [10, 11, 12, 13, 14, 15, 16, 17, 18, 19, 20, 9, 21, 22, 23, 24, 25, 26, 27, 28, 29, 30, 31, 32, 33, 34, 35, 36, 37, 43, 44, 45, 46, 47, 48] (by decide +kernel) (by decide +kernel)
set_option maxRecDepth 20000 in
theorem gX5_weighGaps_X3_weigh : GoodIn wsX5_weighGaps (wsV RX5 31 RX3 yX3_weigh wsX3_weigh) := goodIn_app (goodIn_of _ (by decide +kernel)) ggX5_weighGaps_X3_weigh
theorem dX5_weighGaps_0 : decode cX5_weighGaps 0 = .ok (.iconst 0, 1) := by decide +kernel
theorem dX5_weighGaps_1 : decode cX5_weighGaps 1 = .ok (.istore_n 3, 1) := by decide +kernel
theorem dX5_weighGaps_2 : decode cX5_weighGaps 2 = .ok (.iload_n 3, 1) := by decide +kernel
theorem dX5_weighGaps_3 : decode cX5_weighGaps 3 = .ok (.iconst 1, 1) := by decide +kernel
theorem dX5_weighGaps_4 : decode cX5_weighGaps 4 = .ok (.iadd, 1) := by decide +kernel
theorem dX5_weighGaps_5 : decode cX5_weighGaps 5 = .ok (.aload_n 0, 1) := by decide +kernel
theorem dX5_weighGaps_6 : decode cX5_weighGaps 6 = .ok (.getfield 27, 3) := by decide +kernel
theorem dX5_weighGaps_9 : decode cX5_weighGaps 9 = .ok (.if_icmp .ge 50, 3) := by decide +kernel
theorem dX5_weighGaps_12 : decode cX5_weighGaps 12 = .ok (.aload_n 0, 1) := by decide +kernel
theorem dX5_weighGaps_13 : decode cX5_weighGaps 13 = .ok (.getfield 9, 3) := by decide +kernel
theorem dX5_weighGaps_16 : decode cX5_weighGaps 16 = .ok (.iload_n 3, 1) := by decide +kernel
theorem dX5_weighGaps_17 : decode cX5_weighGaps 17 = .ok (.iconst 1, 1) := by decide +kernel
theorem dX5_weighGaps_18 : decode cX5_weighGaps 18 = .ok (.iadd, 1) := by decide +kernel
theorem dX5_weighGaps_19 : decode cX5_weighGaps 19 = .ok (.iaload, 1) := by decide +kernel
theorem dX5_weighGaps_20 : decode cX5_weighGaps 20 = .ok (.istore 4, 2) := by decide +kernel
theorem dX5_weighGaps_22 : decode cX5_weighGaps 22 = .ok (.aload_n 2, 1) := by decide +kernel
theorem dX5_weighGaps_23 : decode cX5_weighGaps 23 = .ok (.aload_n 1, 1) := by decide +kernel
theorem dX5_weighGaps_24 : decode cX5_weighGaps 24 = .ok (.aload_n 0, 1) := by decide +kernel
theorem dX5_weighGaps_25 : decode cX5_weighGaps 25 = .ok (.getfield 9, 3) := by decide +kernel
theorem dX5_weighGaps_28 : decode cX5_weighGaps 28 = .ok (.iload_n 3, 1) := by decide +kernel
theorem dX5_weighGaps_29 : decode cX5_weighGaps 29 = .ok (.iaload, 1) := by decide +kernel
theorem dX5_weighGaps_30 : decode cX5_weighGaps 30 = .ok (.aload_n 0, 1) := by decide +kernel
theorem dX5_weighGaps_31 : decode cX5_weighGaps 31 = .ok (.getfield 15, 3) := by decide +kernel
theorem dX5_weighGaps_34 : decode cX5_weighGaps 34 = .ok (.iload_n 3, 1) := by decide +kernel
theorem dX5_weighGaps_35 : decode cX5_weighGaps 35 = .ok (.iaload, 1) := by decide +kernel
theorem dX5_weighGaps_36 : decode cX5_weighGaps 36 = .ok (.iload 4, 2) := by decide +kernel
theorem dX5_weighGaps_38 : decode cX5_weighGaps 38 = .ok (.aload_n 0, 1) := by decide +kernel
theorem dX5_weighGaps_39 : decode cX5_weighGaps 39 = .ok (.getfield 18, 3) := by decide +kernel
theorem dX5_weighGaps_42 : decode cX5_weighGaps 42 = .ok (.iload_n 3, 1) := by decide +kernel
theorem dX5_weighGaps_43 : decode cX5_weighGaps 43 = .ok (.baload, 1) := by decide +kernel
theorem dX5_weighGaps_44 : decode cX5_weighGaps 44 = .ok (.aload_n 0, 1) := by decide +kernel
theorem dX5_weighGaps_45 : decode cX5_weighGaps 45 = .ok (.getfield 24, 3) := by decide +kernel
theorem dX5_weighGaps_48 : decode cX5_weighGaps 48 = .ok (.iload_n 3, 1) := by decide +kernel
theorem dX5_weighGaps_49 : decode cX5_weighGaps 49 = .ok (.aaload, 1) := by decide +kernel
theorem dX5_weighGaps_50 : decode cX5_weighGaps 50 = .ok (.invokevirtual 31, 3) := by decide +kernel
theorem dX5_weighGaps_53 : decode cX5_weighGaps 53 = .ok (.iinc 3 1, 3) := by decide +kernel
theorem dX5_weighGaps_56 : decode cX5_weighGaps 56 = .ok (.goto (-54), 3) := by decide +kernel
theorem dX5_weighGaps_59 : decode cX5_weighGaps 59 = .ok (.return_, 1) := by decide +kernel
theorem dX5_costsAt_0 : decode cX5_costsAt 0 = .ok (.aload_n 0, 1) := by decide +kernel
theorem dX5_costsAt_1 : decode cX5_costsAt 1 = .ok (.getfield 24, 3) := by decide +kernel
theorem dX5_costsAt_4 : decode cX5_costsAt 4 = .ok (.iload_n 1, 1) := by decide +kernel
theorem dX5_costsAt_5 : decode cX5_costsAt 5 = .ok (.aaload, 1) := by decide +kernel
theorem dX5_costsAt_6 : decode cX5_costsAt 6 = .ok (.areturn, 1) := by decide +kernel
set_option maxRecDepth 20000 in
theorem ggX6_init_X1_init : GoodIn wsX6_init wsX1_init := goodIn_r _ [14, 15, 2, 3, 9, 16, 21] (by decide +kernel) (by decide +kernel)
set_option maxRecDepth 20000 in
theorem gX6_init_X1_init : GoodIn wsX6_init (wsX1_init) := ggX6_init_X1_init
theorem dX6_init_0 : decode cX6_init 0 = .ok (.aload_n 0, 1) := by decide +kernel
theorem dX6_init_1 : decode cX6_init 1 = .ok (.invokespecial 3, 3) := by decide +kernel
theorem dX6_init_4 : decode cX6_init 4 = .ok (.aload_n 0, 1) := by decide +kernel
theorem dX6_init_5 : decode cX6_init 5 = .ok (.bipush 10, 2) := by decide +kernel
theorem dX6_init_7 : decode cX6_init 7 = .ok (.anewarray 9, 3) := by decide +kernel
theorem dX6_init_10 : decode cX6_init 10 = .ok (.putfield 11, 3) := by decide +kernel
theorem dX6_init_13 : decode cX6_init 13 = .ok (.iconst 0, 1) := by decide +kernel
theorem dX6_init_14 : decode cX6_init 14 = .ok (.istore_n 1, 1) := by decide +kernel
theorem dX6_init_15 : decode cX6_init 15 = .ok (.iload_n 1, 1) := by decide +kernel
theorem dX6_init_16 : decode cX6_init 16 = .ok (.bipush 9, 2) := by decide +kernel
theorem dX6_init_18 : decode cX6_init 18 = .ok (.if_icmp .gt 22, 3) := by decide +kernel
theorem dX6_init_21 : decode cX6_init 21 = .ok (.aload_n 0, 1) := by decide +kernel
theorem dX6_init_22 : decode cX6_init 22 = .ok (.getfield 11, 3) := by decide +kernel
theorem dX6_init_25 : decode cX6_init 25 = .ok (.iload_n 1, 1) := by decide +kernel
theorem dX6_init_26 : decode cX6_init 26 = .ok (.new 9, 3) := by decide +kernel
theorem dX6_init_29 : decode cX6_init 29 = .ok (.dup, 1) := by decide +kernel
theorem dX6_init_30 : decode cX6_init 30 = .ok (.invokespecial 17, 3) := by decide +kernel
theorem dX6_init_33 : decode cX6_init 33 = .ok (.aastore, 1) := by decide +kernel
theorem dX6_init_34 : decode cX6_init 34 = .ok (.iinc 1 1, 3) := by decide +kernel
theorem dX6_init_37 : decode cX6_init 37 = .ok (.goto (-22), 3) := by decide +kernel
theorem dX6_init_40 : decode cX6_init 40 = .ok (.aload_n 0, 1) := by decide +kernel
theorem dX6_init_41 : decode cX6_init 41 = .ok (.new 9, 3) := by decide +kernel
theorem dX6_init_44 : decode cX6_init 44 = .ok (.dup, 1) := by decide +kernel
theorem dX6_init_45 : decode cX6_init 45 = .ok (.invokespecial 17, 3) := by decide +kernel
theorem dX6_init_48 : decode cX6_init 48 = .ok (.putfield 18, 3) := by decide +kernel
theorem dX6_init_51 : decode cX6_init 51 = .ok (.aload_n 0, 1) := by decide +kernel
theorem dX6_init_52 : decode cX6_init 52 = .ok (.bipush 9, 2) := by decide +kernel
theorem dX6_init_54 : decode cX6_init 54 = .ok (.newarray .int, 2) := by decide +kernel
theorem dX6_init_56 : decode cX6_init 56 = .ok (.putfield 22, 3) := by decide +kernel
theorem dX6_init_59 : decode cX6_init 59 = .ok (.aload_n 0, 1) := by decide +kernel
theorem dX6_init_60 : decode cX6_init 60 = .ok (.bipush 9, 2) := by decide +kernel
theorem dX6_init_62 : decode cX6_init 62 = .ok (.newarray .int, 2) := by decide +kernel
theorem dX6_init_64 : decode cX6_init 64 = .ok (.putfield 26, 3) := by decide +kernel
theorem dX6_init_67 : decode cX6_init 67 = .ok (.return_, 1) := by decide +kernel
set_option maxRecDepth 20000 in
theorem ggX6_solveFor_X5_gaps : GoodIn wsX6_solveFor wsX5_gaps := goodIn_r _ [6, 7, 44, 45, 46, 47, 48] (by decide +kernel) (by decide +kernel)
set_option maxRecDepth 20000 in
theorem gX6_solveFor_X5_gaps : GoodIn wsX6_solveFor (wsV RX6 29 RX5 yX5_gaps wsX5_gaps) := goodIn_app (goodIn_of _ (by decide +kernel)) ggX6_solveFor_X5_gaps
set_option maxRecDepth 20000 in
theorem ggX6_solveFor_X1_startRow : GoodIn wsX6_solveFor wsX1_startRow := goodIn_r _ [12, 13, 14, 15, 16, 17, 18, 49] (by decide +kernel) (by decide +kernel)
set_option maxRecDepth 20000 in
theorem gX6_solveFor_X1_startRow : GoodIn wsX6_solveFor (wsV RX6 35 RX1 yX1_startRow wsX1_startRow) := goodIn_app (goodIn_of _ (by decide +kernel)) ggX6_solveFor_X1_startRow
set_option maxRecDepth 20000 in
theorem ggX6_solveFor_X5_costsAt : GoodIn wsX6_solveFor wsX5_costsAt := goodIn_r _ [22, 23, 44, 45, 46, 47, 48] (by decide +kernel) (by decide +kernel)
set_option maxRecDepth 20000 in
theorem gX6_solveFor_X5_costsAt : GoodIn wsX6_solveFor (wsV RX6 38 RX5 yX5_costsAt wsX5_costsAt) := goodIn_app (goodIn_of _ (by decide +kernel)) ggX6_solveFor_X5_costsAt
set_option maxRecDepth 20000 in
theorem ggX6_solveFor_X1_growFrom : GoodIn wsX6_solveFor wsX1_growFrom := goodIn_r _ [27, 13, 14, 28, 29, 30, 31, 32, 33, 34, 11, 35, 49] (by decide +kernel) (by decide +kernel)
set_option maxRecDepth 20000 in
theorem gX6_solveFor_X1_growFrom : GoodIn wsX6_solveFor (wsV RX6 42 RX1 yX1_growFrom wsX1_growFrom) := goodIn_app (goodIn_of _ (by decide +kernel)) ggX6_solveFor_X1_growFrom
set_option maxRecDepth 20000 in
theorem ggX6_solveFor_X1_leastOfAll : GoodIn wsX6_solveFor wsX1_leastOfAll := goodIn_r _ [39, 13, 32, 33, 34, 11, 35, 49] (by decide +kernel) (by decide +kernel)
set_option maxRecDepth 20000 in
theorem gX6_solveFor_X1_leastOfAll : GoodIn wsX6_solveFor (wsV RX6 46 RX1 yX1_leastOfAll wsX1_leastOfAll) := goodIn_app (goodIn_of _ (by decide +kernel)) ggX6_solveFor_X1_leastOfAll
theorem dX6_solveFor_0 : decode cX6_solveFor 0 = .ok (.aload_n 0, 1) := by decide +kernel
theorem dX6_solveFor_1 : decode cX6_solveFor 1 = .ok (.getfield 11, 3) := by decide +kernel
theorem dX6_solveFor_4 : decode cX6_solveFor 4 = .ok (.aload_n 1, 1) := by decide +kernel
theorem dX6_solveFor_5 : decode cX6_solveFor 5 = .ok (.invokevirtual 29, 3) := by decide +kernel
theorem dX6_solveFor_8 : decode cX6_solveFor 8 = .ok (.aaload, 1) := by decide +kernel
theorem dX6_solveFor_9 : decode cX6_solveFor 9 = .ok (.invokevirtual 35, 3) := by decide +kernel
theorem dX6_solveFor_12 : decode cX6_solveFor 12 = .ok (.aload_n 1, 1) := by decide +kernel
theorem dX6_solveFor_13 : decode cX6_solveFor 13 = .ok (.invokevirtual 29, 3) := by decide +kernel
theorem dX6_solveFor_16 : decode cX6_solveFor 16 = .ok (.iconst 1, 1) := by decide +kernel
theorem dX6_solveFor_17 : decode cX6_solveFor 17 = .ok (.isub, 1) := by decide +kernel
theorem dX6_solveFor_18 : decode cX6_solveFor 18 = .ok (.istore_n 2, 1) := by decide +kernel
theorem dX6_solveFor_19 : decode cX6_solveFor 19 = .ok (.iload_n 2, 1) := by decide +kernel
theorem dX6_solveFor_20 : decode cX6_solveFor 20 = .ok (.ifCond .lt 31, 3) := by decide +kernel
theorem dX6_solveFor_23 : decode cX6_solveFor 23 = .ok (.aload_n 0, 1) := by decide +kernel
theorem dX6_solveFor_24 : decode cX6_solveFor 24 = .ok (.getfield 11, 3) := by decide +kernel
theorem dX6_solveFor_27 : decode cX6_solveFor 27 = .ok (.iload_n 2, 1) := by decide +kernel
theorem dX6_solveFor_28 : decode cX6_solveFor 28 = .ok (.aaload, 1) := by decide +kernel
theorem dX6_solveFor_29 : decode cX6_solveFor 29 = .ok (.aload_n 0, 1) := by decide +kernel
theorem dX6_solveFor_30 : decode cX6_solveFor 30 = .ok (.getfield 11, 3) := by decide +kernel
theorem dX6_solveFor_33 : decode cX6_solveFor 33 = .ok (.iload_n 2, 1) := by decide +kernel
theorem dX6_solveFor_34 : decode cX6_solveFor 34 = .ok (.iconst 1, 1) := by decide +kernel
theorem dX6_solveFor_35 : decode cX6_solveFor 35 = .ok (.iadd, 1) := by decide +kernel
theorem dX6_solveFor_36 : decode cX6_solveFor 36 = .ok (.aaload, 1) := by decide +kernel
theorem dX6_solveFor_37 : decode cX6_solveFor 37 = .ok (.aload_n 1, 1) := by decide +kernel
theorem dX6_solveFor_38 : decode cX6_solveFor 38 = .ok (.iload_n 2, 1) := by decide +kernel
theorem dX6_solveFor_39 : decode cX6_solveFor 39 = .ok (.invokevirtual 38, 3) := by decide +kernel
theorem dX6_solveFor_42 : decode cX6_solveFor 42 = .ok (.invokevirtual 42, 3) := by decide +kernel
theorem dX6_solveFor_45 : decode cX6_solveFor 45 = .ok (.iinc 2 (-1), 3) := by decide +kernel
theorem dX6_solveFor_48 : decode cX6_solveFor 48 = .ok (.goto (-29), 3) := by decide +kernel
theorem dX6_solveFor_51 : decode cX6_solveFor 51 = .ok (.aload_n 0, 1) := by decide +kernel
theorem dX6_solveFor_52 : decode cX6_solveFor 52 = .ok (.getfield 11, 3) := by decide +kernel
theorem dX6_solveFor_55 : decode cX6_solveFor 55 = .ok (.iconst 0, 1) := by decide +kernel
theorem dX6_solveFor_56 : decode cX6_solveFor 56 = .ok (.aaload, 1) := by decide +kernel
theorem dX6_solveFor_57 : decode cX6_solveFor 57 = .ok (.invokevirtual 46, 3) := by decide +kernel
theorem dX6_solveFor_60 : decode cX6_solveFor 60 = .ok (.ireturn, 1) := by decide +kernel
set_option maxRecDepth 20000 in
theorem ggX6_firstAt_X1_firstLeastBeside : GoodIn wsX6_firstAt wsX1_firstLeastBeside := goodIn_r _ [6, 7, 12] (by decide +kernel) (by decide +kernel)
set_option maxRecDepth 20000 in
theorem gX6_firstAt_X1_firstLeastBeside : GoodIn wsX6_firstAt (wsV RX6 49 RX1 yX1_firstLeastBeside wsX1_firstLeastBeside) := goodIn_app (goodIn_of _ (by decide +kernel)) ggX6_firstAt_X1_firstLeastBeside
theorem dX6_firstAt_0 : decode cX6_firstAt 0 = .ok (.iconst 0, 1) := by decide +kernel
theorem dX6_firstAt_1 : decode cX6_firstAt 1 = .ok (.istore_n 2, 1) := by decide +kernel
theorem dX6_firstAt_2 : decode cX6_firstAt 2 = .ok (.iconst 0, 1) := by decide +kernel
theorem dX6_firstAt_3 : decode cX6_firstAt 3 = .ok (.istore_n 3, 1) := by decide +kernel
theorem dX6_firstAt_4 : decode cX6_firstAt 4 = .ok (.iload_n 3, 1) := by decide +kernel
theorem dX6_firstAt_5 : decode cX6_firstAt 5 = .ok (.iload_n 1, 1) := by decide +kernel
theorem dX6_firstAt_6 : decode cX6_firstAt 6 = .ok (.if_icmp .gt 20, 3) := by decide +kernel
theorem dX6_firstAt_9 : decode cX6_firstAt 9 = .ok (.aload_n 0, 1) := by decide +kernel
theorem dX6_firstAt_10 : decode cX6_firstAt 10 = .ok (.getfield 11, 3) := by decide +kernel
theorem dX6_firstAt_13 : decode cX6_firstAt 13 = .ok (.iload_n 3, 1) := by decide +kernel
theorem dX6_firstAt_14 : decode cX6_firstAt 14 = .ok (.aaload, 1) := by decide +kernel
theorem dX6_firstAt_15 : decode cX6_firstAt 15 = .ok (.iload_n 2, 1) := by decide +kernel
theorem dX6_firstAt_16 : decode cX6_firstAt 16 = .ok (.invokevirtual 49, 3) := by decide +kernel
theorem dX6_firstAt_19 : decode cX6_firstAt 19 = .ok (.istore_n 2, 1) := by decide +kernel
theorem dX6_firstAt_20 : decode cX6_firstAt 20 = .ok (.iinc 3 1, 3) := by decide +kernel
theorem dX6_firstAt_23 : decode cX6_firstAt 23 = .ok (.goto (-19), 3) := by decide +kernel
theorem dX6_firstAt_26 : decode cX6_firstAt 26 = .ok (.iload_n 2, 1) := by decide +kernel
theorem dX6_firstAt_27 : decode cX6_firstAt 27 = .ok (.ireturn, 1) := by decide +kernel
set_option maxRecDepth 20000 in
theorem ggX6_fewestEmptyGaps_X1_startRow : GoodIn wsX6_fewestEmptyGaps wsX1_startRow := goodIn_r _ [8, 9, 10, 11, 12, 13, 14, 46] (by decide +kernel) (by decide +kernel)
set_option maxRecDepth 20000 in
theorem gX6_fewestEmptyGaps_X1_startRow : GoodIn wsX6_fewestEmptyGaps (wsV RX6 35 RX1 yX1_startRow wsX1_startRow) := goodIn_app (goodIn_of _ (by decide +kernel)) ggX6_fewestEmptyGaps_X1_startRow
set_option maxRecDepth 20000 in
theorem ggX6_fewestEmptyGaps_X5_gaps : GoodIn wsX6_fewestEmptyGaps wsX5_gaps := goodIn_r _ [19, 20, 47, 48, 49, 50, 51] (by decide +kernel) (by decide +kernel)
set_option maxRecDepth 20000 in
theorem gX6_fewestEmptyGaps_X5_gaps : GoodIn wsX6_fewestEmptyGaps (wsV RX6 29 RX5 yX5_gaps wsX5_gaps) := goodIn_app (goodIn_of _ (by decide +kernel)) ggX6_fewestEmptyGaps_X5_gaps
set_option maxRecDepth 20000 in
theorem ggX6_fewestEmptyGaps_X5_costsAt : GoodIn wsX6_fewestEmptyGaps wsX5_costsAt := goodIn_r _ [24, 25, 47, 48, 49, 50, 51] (by decide +kernel) (by decide +kernel)
set_option maxRecDepth 20000 in
theorem gX6_fewestEmptyGaps_X5_costsAt : GoodIn wsX6_fewestEmptyGaps (wsV RX6 38 RX5 yX5_costsAt wsX5_costsAt) := goodIn_app (goodIn_of _ (by decide +kernel)) ggX6_fewestEmptyGaps_X5_costsAt
set_option maxRecDepth 20000 in
theorem ggX6_fewestEmptyGaps_X1_growFrom : GoodIn wsX6_fewestEmptyGaps wsX1_growFrom := goodIn_r _ [29, 9, 10, 30, 31, 32, 33, 34, 35, 36, 7, 37, 46] (by decide +kernel) (by decide +kernel)
set_option maxRecDepth 20000 in
theorem gX6_fewestEmptyGaps_X1_growFrom : GoodIn wsX6_fewestEmptyGaps (wsV RX6 42 RX1 yX1_growFrom wsX1_growFrom) := goodIn_app (goodIn_of _ (by decide +kernel)) ggX6_fewestEmptyGaps_X1_growFrom
set_option maxRecDepth 20000 in
theorem ggX6_fewestEmptyGaps_X1_leastOfAll : GoodIn wsX6_fewestEmptyGaps wsX1_leastOfAll := goodIn_r _ [41, 9, 34, 35, 36, 7, 37, 46] (by decide +kernel) (by decide +kernel)
set_option maxRecDepth 20000 in
theorem gX6_fewestEmptyGaps_X1_leastOfAll : GoodIn wsX6_fewestEmptyGaps (wsV RX6 46 RX1 yX1_leastOfAll wsX1_leastOfAll) := goodIn_app (goodIn_of _ (by decide +kernel)) ggX6_fewestEmptyGaps_X1_leastOfAll
theorem dX6_fewestEmptyGaps_0 : decode cX6_fewestEmptyGaps 0 = .ok (.aload_n 0, 1) := by decide +kernel
theorem dX6_fewestEmptyGaps_1 : decode cX6_fewestEmptyGaps 1 = .ok (.getfield 18, 3) := by decide +kernel
theorem dX6_fewestEmptyGaps_4 : decode cX6_fewestEmptyGaps 4 = .ok (.invokevirtual 35, 3) := by decide +kernel
theorem dX6_fewestEmptyGaps_7 : decode cX6_fewestEmptyGaps 7 = .ok (.iconst 0, 1) := by decide +kernel
theorem dX6_fewestEmptyGaps_8 : decode cX6_fewestEmptyGaps 8 = .ok (.istore_n 2, 1) := by decide +kernel
theorem dX6_fewestEmptyGaps_9 : decode cX6_fewestEmptyGaps 9 = .ok (.iload_n 2, 1) := by decide +kernel
theorem dX6_fewestEmptyGaps_10 : decode cX6_fewestEmptyGaps 10 = .ok (.aload_n 1, 1) := by decide +kernel
theorem dX6_fewestEmptyGaps_11 : decode cX6_fewestEmptyGaps 11 = .ok (.invokevirtual 29, 3) := by decide +kernel
theorem dX6_fewestEmptyGaps_14 : decode cX6_fewestEmptyGaps 14 = .ok (.if_icmp .ge 81, 3) := by decide +kernel
theorem dX6_fewestEmptyGaps_17 : decode cX6_fewestEmptyGaps 17 = .ok (.aload_n 1, 1) := by decide +kernel
theorem dX6_fewestEmptyGaps_18 : decode cX6_fewestEmptyGaps 18 = .ok (.iload_n 2, 1) := by decide +kernel
theorem dX6_fewestEmptyGaps_19 : decode cX6_fewestEmptyGaps 19 = .ok (.invokevirtual 38, 3) := by decide +kernel
theorem dX6_fewestEmptyGaps_22 : decode cX6_fewestEmptyGaps 22 = .ok (.astore_n 3, 1) := by decide +kernel
theorem dX6_fewestEmptyGaps_23 : decode cX6_fewestEmptyGaps 23 = .ok (.iconst 0, 1) := by decide +kernel
theorem dX6_fewestEmptyGaps_24 : decode cX6_fewestEmptyGaps 24 = .ok (.istore 4, 2) := by decide +kernel
theorem dX6_fewestEmptyGaps_26 : decode cX6_fewestEmptyGaps 26 = .ok (.iload 4, 2) := by decide +kernel
theorem dX6_fewestEmptyGaps_28 : decode cX6_fewestEmptyGaps 28 = .ok (.bipush 9, 2) := by decide +kernel
theorem dX6_fewestEmptyGaps_30 : decode cX6_fewestEmptyGaps 30 = .ok (.if_icmp .ge 44, 3) := by decide +kernel
theorem dX6_fewestEmptyGaps_33 : decode cX6_fewestEmptyGaps 33 = .ok (.iload 4, 2) := by decide +kernel
theorem dX6_fewestEmptyGaps_35 : decode cX6_fewestEmptyGaps 35 = .ok (.ifCond .ne 7, 3) := by decide +kernel
theorem dX6_fewestEmptyGaps_38 : decode cX6_fewestEmptyGaps 38 = .ok (.iconst 1, 1) := by decide +kernel
theorem dX6_fewestEmptyGaps_39 : decode cX6_fewestEmptyGaps 39 = .ok (.goto 4, 3) := by decide +kernel
theorem dX6_fewestEmptyGaps_42 : decode cX6_fewestEmptyGaps 42 = .ok (.iconst 0, 1) := by decide +kernel
theorem dX6_fewestEmptyGaps_43 : decode cX6_fewestEmptyGaps 43 = .ok (.istore 5, 2) := by decide +kernel
theorem dX6_fewestEmptyGaps_45 : decode cX6_fewestEmptyGaps 45 = .ok (.aload_n 0, 1) := by decide +kernel
theorem dX6_fewestEmptyGaps_46 : decode cX6_fewestEmptyGaps 46 = .ok (.getfield 22, 3) := by decide +kernel
theorem dX6_fewestEmptyGaps_49 : decode cX6_fewestEmptyGaps 49 = .ok (.iload 4, 2) := by decide +kernel
theorem dX6_fewestEmptyGaps_51 : decode cX6_fewestEmptyGaps 51 = .ok (.aload_n 3, 1) := by decide +kernel
theorem dX6_fewestEmptyGaps_52 : decode cX6_fewestEmptyGaps 52 = .ok (.iload 4, 2) := by decide +kernel
theorem dX6_fewestEmptyGaps_54 : decode cX6_fewestEmptyGaps 54 = .ok (.iaload, 1) := by decide +kernel
theorem dX6_fewestEmptyGaps_55 : decode cX6_fewestEmptyGaps 55 = .ok (.ldc 53, 2) := by decide +kernel
theorem dX6_fewestEmptyGaps_57 : decode cX6_fewestEmptyGaps 57 = .ok (.if_icmp .ge 8, 3) := by decide +kernel
theorem dX6_fewestEmptyGaps_60 : decode cX6_fewestEmptyGaps 60 = .ok (.iload 5, 2) := by decide +kernel
theorem dX6_fewestEmptyGaps_62 : decode cX6_fewestEmptyGaps 62 = .ok (.goto 5, 3) := by decide +kernel
theorem dX6_fewestEmptyGaps_65 : decode cX6_fewestEmptyGaps 65 = .ok (.ldc 53, 2) := by decide +kernel
theorem dX6_fewestEmptyGaps_67 : decode cX6_fewestEmptyGaps 67 = .ok (.iastore, 1) := by decide +kernel
theorem dX6_fewestEmptyGaps_68 : decode cX6_fewestEmptyGaps 68 = .ok (.iinc 4 1, 3) := by decide +kernel
theorem dX6_fewestEmptyGaps_71 : decode cX6_fewestEmptyGaps 71 = .ok (.goto (-45), 3) := by decide +kernel
theorem dX6_fewestEmptyGaps_74 : decode cX6_fewestEmptyGaps 74 = .ok (.aload_n 0, 1) := by decide +kernel
theorem dX6_fewestEmptyGaps_75 : decode cX6_fewestEmptyGaps 75 = .ok (.getfield 18, 3) := by decide +kernel
theorem dX6_fewestEmptyGaps_78 : decode cX6_fewestEmptyGaps 78 = .ok (.aload_n 0, 1) := by decide +kernel
theorem dX6_fewestEmptyGaps_79 : decode cX6_fewestEmptyGaps 79 = .ok (.getfield 18, 3) := by decide +kernel
theorem dX6_fewestEmptyGaps_82 : decode cX6_fewestEmptyGaps 82 = .ok (.aload_n 0, 1) := by decide +kernel
theorem dX6_fewestEmptyGaps_83 : decode cX6_fewestEmptyGaps 83 = .ok (.getfield 22, 3) := by decide +kernel
theorem dX6_fewestEmptyGaps_86 : decode cX6_fewestEmptyGaps 86 = .ok (.invokevirtual 42, 3) := by decide +kernel
theorem dX6_fewestEmptyGaps_89 : decode cX6_fewestEmptyGaps 89 = .ok (.iinc 2 1, 3) := by decide +kernel
theorem dX6_fewestEmptyGaps_92 : decode cX6_fewestEmptyGaps 92 = .ok (.goto (-83), 3) := by decide +kernel
theorem dX6_fewestEmptyGaps_95 : decode cX6_fewestEmptyGaps 95 = .ok (.aload_n 0, 1) := by decide +kernel
theorem dX6_fewestEmptyGaps_96 : decode cX6_fewestEmptyGaps 96 = .ok (.getfield 18, 3) := by decide +kernel
theorem dX6_fewestEmptyGaps_99 : decode cX6_fewestEmptyGaps 99 = .ok (.invokevirtual 46, 3) := by decide +kernel
theorem dX6_fewestEmptyGaps_102 : decode cX6_fewestEmptyGaps 102 = .ok (.ireturn, 1) := by decide +kernel
set_option maxRecDepth 20000 in
theorem ggX6_countFor_J7_fill_53178 : GoodIn wsX6_countFor wsJ7_fill_53178 := goodIn_r _ [5] (by decide +kernel) (by decide +kernel)
set_option maxRecDepth 20000 in
theorem gX6_countFor_J7_fill_53178 : GoodIn wsX6_countFor (va_wsS RX6 54 yJ7_fill_53178 wsJ7_fill_53178) := goodIn_app (goodIn_of _ (by decide +kernel)) ggX6_countFor_J7_fill_53178
set_option maxRecDepth 20000 in
theorem ggX6_countFor_X5_gaps : GoodIn wsX6_countFor wsX5_gaps := goodIn_r _ [10, 11, 27, 28, 29, 30, 31] (by decide +kernel) (by decide +kernel)
set_option maxRecDepth 20000 in
theorem gX6_countFor_X5_gaps : GoodIn wsX6_countFor (wsV RX6 29 RX5 yX5_gaps wsX5_gaps) := goodIn_app (goodIn_of _ (by decide +kernel)) ggX6_countFor_X5_gaps
set_option maxRecDepth 20000 in
theorem ggX6_countFor_X5_costsAt : GoodIn wsX6_countFor wsX5_costsAt := goodIn_r _ [15, 16, 27, 28, 29, 30, 31] (by decide +kernel) (by decide +kernel)
set_option maxRecDepth 20000 in
theorem gX6_countFor_X5_costsAt : GoodIn wsX6_countFor (wsV RX6 38 RX5 yX5_costsAt wsX5_costsAt) := goodIn_app (goodIn_of _ (by decide +kernel)) ggX6_countFor_X5_costsAt
set_option maxRecDepth 20000 in
theorem ggX6_countFor_X6_countWithGap : GoodIn wsX6_countFor wsX6_countWithGap := goodIn_r _ [21, 1, 22, 23, 24, 25, 26] (by decide +kernel) (by decide +kernel)
set_option maxRecDepth 20000 in
theorem gX6_countFor_X6_countWithGap : GoodIn wsX6_countFor (wsV RX6 60 RX6 yX6_countWithGap wsX6_countWithGap) := goodIn_app (goodIn_of _ (by decide +kernel)) ggX6_countFor_X6_countWithGap
theorem dX6_countFor_0 : decode cX6_countFor 0 = .ok (.aload_n 0, 1) := by decide +kernel
theorem dX6_countFor_1 : decode cX6_countFor 1 = .ok (.getfield 26, 3) := by decide +kernel
theorem dX6_countFor_4 : decode cX6_countFor 4 = .ok (.iconst 0, 1) := by decide +kernel
theorem dX6_countFor_5 : decode cX6_countFor 5 = .ok (.invokestatic 54, 3) := by decide +kernel
theorem dX6_countFor_8 : decode cX6_countFor 8 = .ok (.aload_n 0, 1) := by decide +kernel
theorem dX6_countFor_9 : decode cX6_countFor 9 = .ok (.getfield 26, 3) := by decide +kernel
theorem dX6_countFor_12 : decode cX6_countFor 12 = .ok (.iconst 0, 1) := by decide +kernel
theorem dX6_countFor_13 : decode cX6_countFor 13 = .ok (.iconst 1, 1) := by decide +kernel
theorem dX6_countFor_14 : decode cX6_countFor 14 = .ok (.iastore, 1) := by decide +kernel
theorem dX6_countFor_15 : decode cX6_countFor 15 = .ok (.iconst 1, 1) := by decide +kernel
theorem dX6_countFor_16 : decode cX6_countFor 16 = .ok (.istore_n 2, 1) := by decide +kernel
theorem dX6_countFor_17 : decode cX6_countFor 17 = .ok (.iconst 0, 1) := by decide +kernel
theorem dX6_countFor_18 : decode cX6_countFor 18 = .ok (.istore_n 3, 1) := by decide +kernel
theorem dX6_countFor_19 : decode cX6_countFor 19 = .ok (.iload_n 3, 1) := by decide +kernel
theorem dX6_countFor_20 : decode cX6_countFor 20 = .ok (.aload_n 1, 1) := by decide +kernel
theorem dX6_countFor_21 : decode cX6_countFor 21 = .ok (.invokevirtual 29, 3) := by decide +kernel
theorem dX6_countFor_24 : decode cX6_countFor 24 = .ok (.if_icmp .ge 20, 3) := by decide +kernel
theorem dX6_countFor_27 : decode cX6_countFor 27 = .ok (.aload_n 0, 1) := by decide +kernel
theorem dX6_countFor_28 : decode cX6_countFor 28 = .ok (.aload_n 1, 1) := by decide +kernel
theorem dX6_countFor_29 : decode cX6_countFor 29 = .ok (.iload_n 3, 1) := by decide +kernel
theorem dX6_countFor_30 : decode cX6_countFor 30 = .ok (.invokevirtual 38, 3) := by decide +kernel
theorem dX6_countFor_33 : decode cX6_countFor 33 = .ok (.iload_n 2, 1) := by decide +kernel
theorem dX6_countFor_34 : decode cX6_countFor 34 = .ok (.invokevirtual 60, 3) := by decide +kernel
theorem dX6_countFor_37 : decode cX6_countFor 37 = .ok (.istore_n 2, 1) := by decide +kernel
theorem dX6_countFor_38 : decode cX6_countFor 38 = .ok (.iinc 3 1, 3) := by decide +kernel
theorem dX6_countFor_41 : decode cX6_countFor 41 = .ok (.goto (-22), 3) := by decide +kernel
theorem dX6_countFor_44 : decode cX6_countFor 44 = .ok (.iload_n 2, 1) := by decide +kernel
theorem dX6_countFor_45 : decode cX6_countFor 45 = .ok (.ireturn, 1) := by decide +kernel
theorem dX6_countWithGap_0 : decode cX6_countWithGap 0 = .ok (.iconst 0, 1) := by decide +kernel
theorem dX6_countWithGap_1 : decode cX6_countWithGap 1 = .ok (.istore_n 3, 1) := by decide +kernel
theorem dX6_countWithGap_2 : decode cX6_countWithGap 2 = .ok (.iconst 0, 1) := by decide +kernel
theorem dX6_countWithGap_3 : decode cX6_countWithGap 3 = .ok (.istore 4, 2) := by decide +kernel
theorem dX6_countWithGap_5 : decode cX6_countWithGap 5 = .ok (.iload 4, 2) := by decide +kernel
theorem dX6_countWithGap_7 : decode cX6_countWithGap 7 = .ok (.bipush 9, 2) := by decide +kernel
theorem dX6_countWithGap_9 : decode cX6_countWithGap 9 = .ok (.if_icmp .ge 61, 3) := by decide +kernel
theorem dX6_countWithGap_12 : decode cX6_countWithGap 12 = .ok (.iload 4, 2) := by decide +kernel
theorem dX6_countWithGap_14 : decode cX6_countWithGap 14 = .ok (.ifCond .ne 7, 3) := by decide +kernel
theorem dX6_countWithGap_17 : decode cX6_countWithGap 17 = .ok (.iconst 0, 1) := by decide +kernel
theorem dX6_countWithGap_18 : decode cX6_countWithGap 18 = .ok (.goto 10, 3) := by decide +kernel
theorem dX6_countWithGap_21 : decode cX6_countWithGap 21 = .ok (.aload_n 0, 1) := by decide +kernel
theorem dX6_countWithGap_22 : decode cX6_countWithGap 22 = .ok (.getfield 26, 3) := by decide +kernel
theorem dX6_countWithGap_25 : decode cX6_countWithGap 25 = .ok (.iload 4, 2) := by decide +kernel
theorem dX6_countWithGap_27 : decode cX6_countWithGap 27 = .ok (.iaload, 1) := by decide +kernel
theorem dX6_countWithGap_28 : decode cX6_countWithGap 28 = .ok (.istore 5, 2) := by decide +kernel
theorem dX6_countWithGap_30 : decode cX6_countWithGap 30 = .ok (.aload_n 0, 1) := by decide +kernel
theorem dX6_countWithGap_31 : decode cX6_countWithGap 31 = .ok (.getfield 26, 3) := by decide +kernel
theorem dX6_countWithGap_34 : decode cX6_countWithGap 34 = .ok (.iload 4, 2) := by decide +kernel
theorem dX6_countWithGap_36 : decode cX6_countWithGap 36 = .ok (.aload_n 1, 1) := by decide +kernel
theorem dX6_countWithGap_37 : decode cX6_countWithGap 37 = .ok (.iload 4, 2) := by decide +kernel
theorem dX6_countWithGap_39 : decode cX6_countWithGap 39 = .ok (.iaload, 1) := by decide +kernel
theorem dX6_countWithGap_40 : decode cX6_countWithGap 40 = .ok (.ldc 53, 2) := by decide +kernel
theorem dX6_countWithGap_42 : decode cX6_countWithGap 42 = .ok (.if_icmp .ge 10, 3) := by decide +kernel
theorem dX6_countWithGap_45 : decode cX6_countWithGap 45 = .ok (.iload_n 2, 1) := by decide +kernel
theorem dX6_countWithGap_46 : decode cX6_countWithGap 46 = .ok (.iload 5, 2) := by decide +kernel
theorem dX6_countWithGap_48 : decode cX6_countWithGap 48 = .ok (.isub, 1) := by decide +kernel
theorem dX6_countWithGap_49 : decode cX6_countWithGap 49 = .ok (.goto 4, 3) := by decide +kernel
theorem dX6_countWithGap_52 : decode cX6_countWithGap 52 = .ok (.iconst 0, 1) := by decide +kernel
theorem dX6_countWithGap_53 : decode cX6_countWithGap 53 = .ok (.iastore, 1) := by decide +kernel
theorem dX6_countWithGap_54 : decode cX6_countWithGap 54 = .ok (.iload_n 3, 1) := by decide +kernel
theorem dX6_countWithGap_55 : decode cX6_countWithGap 55 = .ok (.aload_n 0, 1) := by decide +kernel
theorem dX6_countWithGap_56 : decode cX6_countWithGap 56 = .ok (.getfield 26, 3) := by decide +kernel
theorem dX6_countWithGap_59 : decode cX6_countWithGap 59 = .ok (.iload 4, 2) := by decide +kernel
theorem dX6_countWithGap_61 : decode cX6_countWithGap 61 = .ok (.iaload, 1) := by decide +kernel
theorem dX6_countWithGap_62 : decode cX6_countWithGap 62 = .ok (.iadd, 1) := by decide +kernel
theorem dX6_countWithGap_63 : decode cX6_countWithGap 63 = .ok (.istore_n 3, 1) := by decide +kernel
theorem dX6_countWithGap_64 : decode cX6_countWithGap 64 = .ok (.iinc 4 1, 3) := by decide +kernel
theorem dX6_countWithGap_67 : decode cX6_countWithGap 67 = .ok (.goto (-62), 3) := by decide +kernel
theorem dX6_countWithGap_70 : decode cX6_countWithGap 70 = .ok (.iload_n 3, 1) := by decide +kernel
theorem dX6_countWithGap_71 : decode cX6_countWithGap 71 = .ok (.ireturn, 1) := by decide +kernel
set_option maxRecDepth 20000 in
theorem ggX7_init_X0_init : GoodIn wsX7_init wsX0_init := goodIn_r _ [26, 27, 2, 3, 28, 29, 30, 31, 32, 33, 6, 34, 35, 36, 37, 38, 39, 40, 41, 42, 43, 44, 45, 46, 47, 48, 93] (by decide +kernel) (by decide +kernel)
set_option maxRecDepth 20000 in
theorem gX7_init_X0_init : GoodIn wsX7_init (wsX0_init) := ggX7_init_X0_init
set_option maxRecDepth 20000 in
theorem ggX7_init_X3_init : GoodIn wsX7_init wsX3_init := goodIn_r _ [51, 52, 2, 3, 53, 54, 29, 55, 99, 100, 101, 102] (by decide +kernel) (by decide +kernel)
set_option maxRecDepth 20000 in
theorem gX7_init_X3_init : GoodIn wsX7_init (wsX3_init) := ggX7_init_X3_init
set_option maxRecDepth 20000 in
theorem ggX7_init_X5_init : GoodIn wsX7_init wsX5_init := goodIn_r _ [58, 59, 2, 3, 29, 60, 61, 62, 63, 64, 65, 103, 104, 105, 106, 107] (by decide +kernel) (by decide +kernel)
set_option maxRecDepth 20000 in
theorem gX7_init_X5_init : GoodIn wsX7_init (wsX5_init) := ggX7_init_X5_init
set_option maxRecDepth 20000 in
theorem ggX7_init_X6_init : GoodIn wsX7_init wsX6_init := goodIn_r _ [68, 69, 2, 3, 70, 71, 72, 73, 74, 29, 75, 76, 77, 78, 79, 80, 81, 108, 109, 110, 111, 118] (by decide +kernel) (by decide +kernel)
set_option maxRecDepth 20000 in
theorem gX7_init_X6_init : GoodIn wsX7_init (wsX6_init) := ggX7_init_X6_init
set_option maxRecDepth 20000 in
theorem ggX7_init_X4_init : GoodIn wsX7_init wsX4_init := goodIn_r _ [84, 85, 2, 3, 86, 29, 87, 88, 72, 73, 89, 90, 91, 92, 78, 79, 80, 81, 112, 113, 114, 115, 116, 117, 118] (by decide +kernel) (by decide +kernel)
set_option maxRecDepth 20000 in
theorem gX7_init_X4_init : GoodIn wsX7_init (wsX4_init) := ggX7_init_X4_init
theorem dX7_init_0 : decode cX7_init 0 = .ok (.aload_n 0, 1) := by decide +kernel
theorem dX7_init_1 : decode cX7_init 1 = .ok (.invokespecial 3, 3) := by decide +kernel
theorem dX7_init_4 : decode cX7_init 4 = .ok (.aload_n 0, 1) := by decide +kernel
theorem dX7_init_5 : decode cX7_init 5 = .ok (.new 9, 3) := by decide +kernel
theorem dX7_init_8 : decode cX7_init 8 = .ok (.dup, 1) := by decide +kernel
theorem dX7_init_9 : decode cX7_init 9 = .ok (.invokespecial 11, 3) := by decide +kernel
theorem dX7_init_12 : decode cX7_init 12 = .ok (.putfield 12, 3) := by decide +kernel
theorem dX7_init_15 : decode cX7_init 15 = .ok (.aload_n 0, 1) := by decide +kernel
theorem dX7_init_16 : decode cX7_init 16 = .ok (.new 16, 3) := by decide +kernel
theorem dX7_init_19 : decode cX7_init 19 = .ok (.dup, 1) := by decide +kernel
theorem dX7_init_20 : decode cX7_init 20 = .ok (.invokespecial 18, 3) := by decide +kernel
theorem dX7_init_23 : decode cX7_init 23 = .ok (.putfield 19, 3) := by decide +kernel
theorem dX7_init_26 : decode cX7_init 26 = .ok (.aload_n 0, 1) := by decide +kernel
theorem dX7_init_27 : decode cX7_init 27 = .ok (.iconst 4, 1) := by decide +kernel
theorem dX7_init_28 : decode cX7_init 28 = .ok (.anewarray 23, 3) := by decide +kernel
theorem dX7_init_31 : decode cX7_init 31 = .ok (.putfield 25, 3) := by decide +kernel
theorem dX7_init_34 : decode cX7_init 34 = .ok (.iconst 0, 1) := by decide +kernel
theorem dX7_init_35 : decode cX7_init 35 = .ok (.istore_n 1, 1) := by decide +kernel
theorem dX7_init_36 : decode cX7_init 36 = .ok (.iload_n 1, 1) := by decide +kernel
theorem dX7_init_37 : decode cX7_init 37 = .ok (.iconst 4, 1) := by decide +kernel
theorem dX7_init_38 : decode cX7_init 38 = .ok (.if_icmp .ge 22, 3) := by decide +kernel
theorem dX7_init_41 : decode cX7_init 41 = .ok (.aload_n 0, 1) := by decide +kernel
theorem dX7_init_42 : decode cX7_init 42 = .ok (.getfield 25, 3) := by decide +kernel
theorem dX7_init_45 : decode cX7_init 45 = .ok (.iload_n 1, 1) := by decide +kernel
theorem dX7_init_46 : decode cX7_init 46 = .ok (.new 23, 3) := by decide +kernel
theorem dX7_init_49 : decode cX7_init 49 = .ok (.dup, 1) := by decide +kernel
theorem dX7_init_50 : decode cX7_init 50 = .ok (.invokespecial 29, 3) := by decide +kernel
theorem dX7_init_53 : decode cX7_init 53 = .ok (.aastore, 1) := by decide +kernel
theorem dX7_init_54 : decode cX7_init 54 = .ok (.iinc 1 1, 3) := by decide +kernel
theorem dX7_init_57 : decode cX7_init 57 = .ok (.goto (-21), 3) := by decide +kernel
theorem dX7_init_60 : decode cX7_init 60 = .ok (.aload_n 0, 1) := by decide +kernel
theorem dX7_init_61 : decode cX7_init 61 = .ok (.new 30, 3) := by decide +kernel
theorem dX7_init_64 : decode cX7_init 64 = .ok (.dup, 1) := by decide +kernel
theorem dX7_init_65 : decode cX7_init 65 = .ok (.invokespecial 32, 3) := by decide +kernel
theorem dX7_init_68 : decode cX7_init 68 = .ok (.putfield 33, 3) := by decide +kernel
theorem dX7_init_71 : decode cX7_init 71 = .ok (.aload_n 0, 1) := by decide +kernel
theorem dX7_init_72 : decode cX7_init 72 = .ok (.new 37, 3) := by decide +kernel
theorem dX7_init_75 : decode cX7_init 75 = .ok (.dup, 1) := by decide +kernel
theorem dX7_init_76 : decode cX7_init 76 = .ok (.invokespecial 39, 3) := by decide +kernel
theorem dX7_init_79 : decode cX7_init 79 = .ok (.putfield 40, 3) := by decide +kernel
theorem dX7_init_82 : decode cX7_init 82 = .ok (.return_, 1) := by decide +kernel
set_option maxRecDepth 20000 in
theorem ggX7_cost_X7_checkPitch : GoodIn wsX7_cost wsX7_checkPitch := goodIn_ca (goodIn_r _ [4, 5, 6] (by decide +kernel) (by decide +kernel)) (goodIn_sub (fun _ h => List.mem_cons_of_mem _ (List.mem_append_right _ h)) (by decide +kernel))
set_option maxRecDepth 20000 in
theorem gX7_cost_X7_checkPitch : GoodIn wsX7_cost (va_wsS RX7 44 yX7_checkPitch wsX7_checkPitch) := goodIn_app (goodIn_of _ (by decide +kernel)) ggX7_cost_X7_checkPitch
set_option maxRecDepth 20000 in
theorem ggX7_cost_X0_holesMoved : GoodIn wsX7_cost wsX0_holesMoved := goodIn_r _ [10, 11, 12, 13, 14, 15, 16, 17] (by decide +kernel) (by decide +kernel)
set_option maxRecDepth 20000 in
theorem gX7_cost_X0_holesMoved : GoodIn wsX7_cost (va_wsS RX7 48 yX0_holesMoved wsX0_holesMoved) := goodIn_app (goodIn_of _ (by decide +kernel)) ggX7_cost_X0_holesMoved
theorem dX7_cost_0 : decode cX7_cost 0 = .ok (.iload_n 1, 1) := by decide +kernel
theorem dX7_cost_1 : decode cX7_cost 1 = .ok (.invokestatic 44, 3) := by decide +kernel
theorem dX7_cost_4 : decode cX7_cost 4 = .ok (.iload_n 2, 1) := by decide +kernel
theorem dX7_cost_5 : decode cX7_cost 5 = .ok (.invokestatic 44, 3) := by decide +kernel
theorem dX7_cost_8 : decode cX7_cost 8 = .ok (.iload_n 1, 1) := by decide +kernel
theorem dX7_cost_9 : decode cX7_cost 9 = .ok (.iload_n 2, 1) := by decide +kernel
theorem dX7_cost_10 : decode cX7_cost 10 = .ok (.invokestatic 48, 3) := by decide +kernel
theorem dX7_cost_13 : decode cX7_cost 13 = .ok (.ireturn, 1) := by decide +kernel
set_option maxRecDepth 20000 in
theorem ggX7_isBarred_X7_checkPitch : GoodIn wsX7_isBarred wsX7_checkPitch := goodIn_ca (goodIn_r _ [5, 6, 7] (by decide +kernel) (by decide +kernel)) (goodIn_sub (fun _ h => List.mem_cons_of_mem _ (List.mem_append_right _ h)) (by decide +kernel))
set_option maxRecDepth 20000 in
theorem gX7_isBarred_X7_checkPitch : GoodIn wsX7_isBarred (va_wsS RX7 44 yX7_checkPitch wsX7_checkPitch) := goodIn_app (goodIn_of _ (by decide +kernel)) ggX7_isBarred_X7_checkPitch
set_option maxRecDepth 20000 in
theorem ggX7_isBarred_X0_bars : GoodIn wsX7_isBarred wsX0_bars := goodIn_r _ [12, 13, 14, 20] (by decide +kernel) (by decide +kernel)
set_option maxRecDepth 20000 in
theorem gX7_isBarred_X0_bars : GoodIn wsX7_isBarred (wsV RX7 52 RX0 yX0_bars wsX0_bars) := goodIn_app (goodIn_of _ (by decide +kernel)) ggX7_isBarred_X0_bars
theorem dX7_isBarred_0 : decode cX7_isBarred 0 = .ok (.iload_n 1, 1) := by decide +kernel
theorem dX7_isBarred_1 : decode cX7_isBarred 1 = .ok (.invokestatic 44, 3) := by decide +kernel
theorem dX7_isBarred_4 : decode cX7_isBarred 4 = .ok (.iload_n 2, 1) := by decide +kernel
theorem dX7_isBarred_5 : decode cX7_isBarred 5 = .ok (.invokestatic 44, 3) := by decide +kernel
theorem dX7_isBarred_8 : decode cX7_isBarred 8 = .ok (.aload_n 0, 1) := by decide +kernel
theorem dX7_isBarred_9 : decode cX7_isBarred 9 = .ok (.getfield 12, 3) := by decide +kernel
theorem dX7_isBarred_12 : decode cX7_isBarred 12 = .ok (.iload_n 1, 1) := by decide +kernel
theorem dX7_isBarred_13 : decode cX7_isBarred 13 = .ok (.iload_n 2, 1) := by decide +kernel
theorem dX7_isBarred_14 : decode cX7_isBarred 14 = .ok (.invokevirtual 52, 3) := by decide +kernel
theorem dX7_isBarred_17 : decode cX7_isBarred 17 = .ok (.ireturn, 1) := by decide +kernel
set_option maxRecDepth 20000 in
theorem ggX7_setLimit_X0_limitTo : GoodIn wsX7_setLimit wsX0_limitTo := goodIn_r _ [8, 9, 10, 11, 12, 7, 13, 14, 15, 16, 17, 18, 19, 20, 21, 22, 23, 29] (by decide +kernel) (by decide +kernel)
set_option maxRecDepth 20000 in
theorem gX7_setLimit_X0_limitTo : GoodIn wsX7_setLimit (wsV RX7 63 RX0 yX0_limitTo wsX0_limitTo) := goodIn_app (goodIn_of _ (by decide +kernel)) ggX7_setLimit_X0_limitTo
theorem dX7_setLimit_0 : decode cX7_setLimit 0 = .ok (.iload_n 1, 1) := by decide +kernel
theorem dX7_setLimit_1 : decode cX7_setLimit 1 = .ok (.ifCond .lt 9, 3) := by decide +kernel
theorem dX7_setLimit_4 : decode cX7_setLimit 4 = .ok (.iload_n 1, 1) := by decide +kernel
theorem dX7_setLimit_5 : decode cX7_setLimit 5 = .ok (.bipush 8, 2) := by decide +kernel
theorem dX7_setLimit_7 : decode cX7_setLimit 7 = .ok (.if_icmp .le 13, 3) := by decide +kernel
theorem dX7_setLimit_10 : decode cX7_setLimit 10 = .ok (.new 56, 3) := by decide +kernel
theorem dX7_setLimit_13 : decode cX7_setLimit 13 = .ok (.dup, 1) := by decide +kernel
theorem dX7_setLimit_14 : decode cX7_setLimit 14 = .ok (.ldc 58, 2) := by decide +kernel
theorem dX7_setLimit_16 : decode cX7_setLimit 16 = .ok (.invokespecial 60, 3) := by decide +kernel
theorem dX7_setLimit_19 : decode cX7_setLimit 19 = .ok (.athrow, 1) := by decide +kernel
theorem dX7_setLimit_20 : decode cX7_setLimit 20 = .ok (.aload_n 0, 1) := by decide +kernel
theorem dX7_setLimit_21 : decode cX7_setLimit 21 = .ok (.getfield 12, 3) := by decide +kernel
theorem dX7_setLimit_24 : decode cX7_setLimit 24 = .ok (.iload_n 1, 1) := by decide +kernel
theorem dX7_setLimit_25 : decode cX7_setLimit 25 = .ok (.invokevirtual 63, 3) := by decide +kernel
theorem dX7_setLimit_28 : decode cX7_setLimit 28 = .ok (.ireturn, 1) := by decide +kernel
set_option maxRecDepth 20000 in
theorem ggX7_grace_X3_isDraftFull : GoodIn wsX7_grace wsX3_isDraftFull := goodIn_r _ [10, 11, 22, 23, 24, 25] (by decide +kernel) (by decide +kernel)
set_option maxRecDepth 20000 in
theorem gX7_grace_X3_isDraftFull : GoodIn wsX7_grace (wsV RX7 69 RX3 yX3_isDraftFull wsX3_isDraftFull) := goodIn_app (goodIn_of _ (by decide +kernel)) ggX7_grace_X3_isDraftFull
set_option maxRecDepth 20000 in
theorem ggX7_grace_X3_addToDraft : GoodIn wsX7_grace wsX3_addToDraft := goodIn_r _ [15, 16, 11, 22, 23, 24, 25] (by decide +kernel) (by decide +kernel)
set_option maxRecDepth 20000 in
theorem gX7_grace_X3_addToDraft : GoodIn wsX7_grace (wsV RX7 78 RX3 yX3_addToDraft wsX3_addToDraft) := goodIn_app (goodIn_of _ (by decide +kernel)) ggX7_grace_X3_addToDraft
theorem dX7_grace_0 : decode cX7_grace 0 = .ok (.iload_n 1, 1) := by decide +kernel
theorem dX7_grace_1 : decode cX7_grace 1 = .ok (.ifCond .lt 9, 3) := by decide +kernel
theorem dX7_grace_4 : decode cX7_grace 4 = .ok (.iload_n 1, 1) := by decide +kernel
theorem dX7_grace_5 : decode cX7_grace 5 = .ok (.bipush 10, 2) := by decide +kernel
theorem dX7_grace_7 : decode cX7_grace 7 = .ok (.if_icmp .le 13, 3) := by decide +kernel
theorem dX7_grace_10 : decode cX7_grace 10 = .ok (.new 56, 3) := by decide +kernel
theorem dX7_grace_13 : decode cX7_grace 13 = .ok (.dup, 1) := by decide +kernel
theorem dX7_grace_14 : decode cX7_grace 14 = .ok (.ldc 67, 2) := by decide +kernel
theorem dX7_grace_16 : decode cX7_grace 16 = .ok (.invokespecial 60, 3) := by decide +kernel
theorem dX7_grace_19 : decode cX7_grace 19 = .ok (.athrow, 1) := by decide +kernel
theorem dX7_grace_20 : decode cX7_grace 20 = .ok (.aload_n 0, 1) := by decide +kernel
theorem dX7_grace_21 : decode cX7_grace 21 = .ok (.getfield 19, 3) := by decide +kernel
theorem dX7_grace_24 : decode cX7_grace 24 = .ok (.invokevirtual 69, 3) := by decide +kernel
theorem dX7_grace_27 : decode cX7_grace 27 = .ok (.ifCond .eq 13, 3) := by decide +kernel
theorem dX7_grace_30 : decode cX7_grace 30 = .ok (.new 73, 3) := by decide +kernel
theorem dX7_grace_33 : decode cX7_grace 33 = .ok (.dup, 1) := by decide +kernel
theorem dX7_grace_34 : decode cX7_grace 34 = .ok (.ldc 75, 2) := by decide +kernel
theorem dX7_grace_36 : decode cX7_grace 36 = .ok (.invokespecial 77, 3) := by decide +kernel
theorem dX7_grace_39 : decode cX7_grace 39 = .ok (.athrow, 1) := by decide +kernel
theorem dX7_grace_40 : decode cX7_grace 40 = .ok (.aload_n 0, 1) := by decide +kernel
theorem dX7_grace_41 : decode cX7_grace 41 = .ok (.getfield 19, 3) := by decide +kernel
theorem dX7_grace_44 : decode cX7_grace 44 = .ok (.iload_n 1, 1) := by decide +kernel
theorem dX7_grace_45 : decode cX7_grace 45 = .ok (.invokevirtual 78, 3) := by decide +kernel
theorem dX7_grace_48 : decode cX7_grace 48 = .ok (.ireturn, 1) := by decide +kernel
set_option maxRecDepth 20000 in
theorem ggX7_enter_X3_isDraftEmpty : GoodIn wsX7_enter wsX3_isDraftEmpty := goodIn_r _ [8, 9, 55, 56, 57, 58] (by decide +kernel) (by decide +kernel)
set_option maxRecDepth 20000 in
theorem gX7_enter_X3_isDraftEmpty : GoodIn wsX7_enter (wsV RX7 81 RX3 yX3_isDraftEmpty wsX3_isDraftEmpty) := goodIn_app (goodIn_of _ (by decide +kernel)) ggX7_enter_X3_isDraftEmpty
set_option maxRecDepth 20000 in
theorem ggX7_enter_X3_isFull : GoodIn wsX7_enter wsX3_isFull := goodIn_r _ [13, 14, 55, 56, 57, 58] (by decide +kernel) (by decide +kernel)
set_option maxRecDepth 20000 in
theorem gX7_enter_X3_isFull : GoodIn wsX7_enter (wsV RX7 84 RX3 yX3_isFull wsX3_isFull) := goodIn_app (goodIn_of _ (by decide +kernel)) ggX7_enter_X3_isFull
set_option maxRecDepth 20000 in
theorem ggX7_enter_X3_enterDraft : GoodIn wsX7_enter wsX3_enterDraft := goodIn_r _ [18, 19, 14, 20, 21, 22, 23, 9, 24, 25, 26, 27, 28, 29, 30, 31, 32, 33, 34, 35, 36, 37, 38, 39, 40, 41, 42, 43, 44, 45, 46, 47, 48, 49, 55, 56, 57, 58, 59] (by decide +kernel) (by decide +kernel)
set_option maxRecDepth 20000 in
theorem gX7_enter_X3_enterDraft : GoodIn wsX7_enter (wsV RX7 89 RX3 yX3_enterDraft wsX3_enterDraft) := goodIn_app (goodIn_of _ (by decide +kernel)) ggX7_enter_X3_enterDraft
theorem dX7_enter_0 : decode cX7_enter 0 = .ok (.aload_n 0, 1) := by decide +kernel
theorem dX7_enter_1 : decode cX7_enter 1 = .ok (.getfield 19, 3) := by decide +kernel
theorem dX7_enter_4 : decode cX7_enter 4 = .ok (.invokevirtual 81, 3) := by decide +kernel
theorem dX7_enter_7 : decode cX7_enter 7 = .ok (.ifCond .ne 13, 3) := by decide +kernel
theorem dX7_enter_10 : decode cX7_enter 10 = .ok (.aload_n 0, 1) := by decide +kernel
theorem dX7_enter_11 : decode cX7_enter 11 = .ok (.getfield 19, 3) := by decide +kernel
theorem dX7_enter_14 : decode cX7_enter 14 = .ok (.invokevirtual 84, 3) := by decide +kernel
theorem dX7_enter_17 : decode cX7_enter 17 = .ok (.ifCond .eq 13, 3) := by decide +kernel
theorem dX7_enter_20 : decode cX7_enter 20 = .ok (.new 73, 3) := by decide +kernel
theorem dX7_enter_23 : decode cX7_enter 23 = .ok (.dup, 1) := by decide +kernel
theorem dX7_enter_24 : decode cX7_enter 24 = .ok (.ldc 87, 2) := by decide +kernel
theorem dX7_enter_26 : decode cX7_enter 26 = .ok (.invokespecial 77, 3) := by decide +kernel
theorem dX7_enter_29 : decode cX7_enter 29 = .ok (.athrow, 1) := by decide +kernel
theorem dX7_enter_30 : decode cX7_enter 30 = .ok (.aload_n 0, 1) := by decide +kernel
theorem dX7_enter_31 : decode cX7_enter 31 = .ok (.getfield 19, 3) := by decide +kernel
theorem dX7_enter_34 : decode cX7_enter 34 = .ok (.invokevirtual 89, 3) := by decide +kernel
theorem dX7_enter_37 : decode cX7_enter 37 = .ok (.ireturn, 1) := by decide +kernel
set_option maxRecDepth 20000 in
theorem ggX7_ornaments_X3_size : GoodIn wsX7_ornaments wsX3_size := goodIn_r _ [6, 7, 13, 14, 15, 16] (by decide +kernel) (by decide +kernel)
set_option maxRecDepth 20000 in
theorem gX7_ornaments_X3_size : GoodIn wsX7_ornaments (wsV RX7 93 RX3 yX3_size wsX3_size) := goodIn_app (goodIn_of _ (by decide +kernel)) ggX7_ornaments_X3_size
theorem dX7_ornaments_0 : decode cX7_ornaments 0 = .ok (.aload_n 0, 1) := by decide +kernel
theorem dX7_ornaments_1 : decode cX7_ornaments 1 = .ok (.getfield 19, 3) := by decide +kernel
theorem dX7_ornaments_4 : decode cX7_ornaments 4 = .ok (.invokevirtual 93, 3) := by decide +kernel
theorem dX7_ornaments_7 : decode cX7_ornaments 7 = .ok (.ireturn, 1) := by decide +kernel
set_option maxRecDepth 20000 in
theorem ggX7_fits_X3_size : GoodIn wsX7_fits wsX3_size := goodIn_r _ [10, 11, 52, 53, 54, 55] (by decide +kernel) (by decide +kernel)
set_option maxRecDepth 20000 in
theorem gX7_fits_X3_size : GoodIn wsX7_fits (wsV RX7 93 RX3 yX3_size wsX3_size) := goodIn_app (goodIn_of _ (by decide +kernel)) ggX7_fits_X3_size
set_option maxRecDepth 20000 in
theorem ggX7_fits_X7_checkPitch : GoodIn wsX7_fits wsX7_checkPitch := goodIn_ca (goodIn_r _ [15, 16, 17] (by decide +kernel) (by decide +kernel)) (goodIn_sub (fun _ h => List.mem_cons_of_mem _ (List.mem_append_right _ h)) (by decide +kernel))
set_option maxRecDepth 20000 in
theorem gX7_fits_X7_checkPitch : GoodIn wsX7_fits (va_wsS RX7 44 yX7_checkPitch wsX7_checkPitch) := goodIn_app (goodIn_of _ (by decide +kernel)) ggX7_fits_X7_checkPitch
set_option maxRecDepth 20000 in
theorem ggX7_fits_X7_checkLength : GoodIn wsX7_fits wsX7_checkLength := goodIn_ca (goodIn_r _ [20, 16, 17] (by decide +kernel) (by decide +kernel)) (goodIn_sub (fun _ h => List.mem_cons_of_mem _ (List.mem_append_right _ h)) (by decide +kernel))
set_option maxRecDepth 20000 in
theorem gX7_fits_X7_checkLength : GoodIn wsX7_fits (va_wsS RX7 101 yX7_checkLength wsX7_checkLength) := goodIn_app (goodIn_of _ (by decide +kernel)) ggX7_fits_X7_checkLength
set_option maxRecDepth 20000 in
theorem ggX7_fits_X3_costOf : GoodIn wsX7_fits wsX3_costOf := goodIn_r _ [24, 25, 26, 27, 28, 29, 30, 31, 32, 33, 34, 35, 36, 37, 38, 39, 40, 41, 42, 43, 44, 45, 46, 52, 53, 54, 55, 56, 57] (by decide +kernel) (by decide +kernel)
set_option maxRecDepth 20000 in
theorem gX7_fits_X3_costOf : GoodIn wsX7_fits (wsV RX7 104 RX3 yX3_costOf wsX3_costOf) := goodIn_app (goodIn_of _ (by decide +kernel)) ggX7_fits_X3_costOf
theorem dX7_fits_0 : decode cX7_fits 0 = .ok (.iload_n 1, 1) := by decide +kernel
theorem dX7_fits_1 : decode cX7_fits 1 = .ok (.ifCond .lt 14, 3) := by decide +kernel
theorem dX7_fits_4 : decode cX7_fits 4 = .ok (.iload_n 1, 1) := by decide +kernel
theorem dX7_fits_5 : decode cX7_fits 5 = .ok (.aload_n 0, 1) := by decide +kernel
theorem dX7_fits_6 : decode cX7_fits 6 = .ok (.getfield 19, 3) := by decide +kernel
theorem dX7_fits_9 : decode cX7_fits 9 = .ok (.invokevirtual 93, 3) := by decide +kernel
theorem dX7_fits_12 : decode cX7_fits 12 = .ok (.if_icmp .lt 13, 3) := by decide +kernel
theorem dX7_fits_15 : decode cX7_fits 15 = .ok (.new 96, 3) := by decide +kernel
theorem dX7_fits_18 : decode cX7_fits 18 = .ok (.dup, 1) := by decide +kernel
theorem dX7_fits_19 : decode cX7_fits 19 = .ok (.ldc 98, 2) := by decide +kernel
theorem dX7_fits_21 : decode cX7_fits 21 = .ok (.invokespecial 100, 3) := by decide +kernel
theorem dX7_fits_24 : decode cX7_fits 24 = .ok (.athrow, 1) := by decide +kernel
theorem dX7_fits_25 : decode cX7_fits 25 = .ok (.iload_n 2, 1) := by decide +kernel
theorem dX7_fits_26 : decode cX7_fits 26 = .ok (.invokestatic 44, 3) := by decide +kernel
theorem dX7_fits_29 : decode cX7_fits 29 = .ok (.iload_n 3, 1) := by decide +kernel
theorem dX7_fits_30 : decode cX7_fits 30 = .ok (.invokestatic 101, 3) := by decide +kernel
theorem dX7_fits_33 : decode cX7_fits 33 = .ok (.iload 4, 2) := by decide +kernel
theorem dX7_fits_35 : decode cX7_fits 35 = .ok (.invokestatic 44, 3) := by decide +kernel
theorem dX7_fits_38 : decode cX7_fits 38 = .ok (.aload_n 0, 1) := by decide +kernel
theorem dX7_fits_39 : decode cX7_fits 39 = .ok (.getfield 19, 3) := by decide +kernel
theorem dX7_fits_42 : decode cX7_fits 42 = .ok (.iload_n 1, 1) := by decide +kernel
theorem dX7_fits_43 : decode cX7_fits 43 = .ok (.aload_n 0, 1) := by decide +kernel
theorem dX7_fits_44 : decode cX7_fits 44 = .ok (.getfield 12, 3) := by decide +kernel
theorem dX7_fits_47 : decode cX7_fits 47 = .ok (.iload_n 2, 1) := by decide +kernel
theorem dX7_fits_48 : decode cX7_fits 48 = .ok (.iload_n 3, 1) := by decide +kernel
theorem dX7_fits_49 : decode cX7_fits 49 = .ok (.iload 4, 2) := by decide +kernel
theorem dX7_fits_51 : decode cX7_fits 51 = .ok (.invokevirtual 104, 3) := by decide +kernel
theorem dX7_fits_54 : decode cX7_fits 54 = .ok (.ldc 108, 2) := by decide +kernel
theorem dX7_fits_56 : decode cX7_fits 56 = .ok (.if_icmp .ge 7, 3) := by decide +kernel
theorem dX7_fits_59 : decode cX7_fits 59 = .ok (.iconst 1, 1) := by decide +kernel
theorem dX7_fits_60 : decode cX7_fits 60 = .ok (.goto 4, 3) := by decide +kernel
theorem dX7_fits_63 : decode cX7_fits 63 = .ok (.iconst 0, 1) := by decide +kernel
theorem dX7_fits_64 : decode cX7_fits 64 = .ok (.ireturn, 1) := by decide +kernel
set_option maxRecDepth 20000 in
theorem ggX7_addNote_X7_checkTune : GoodIn wsX7_addNote wsX7_checkTune := goodIn_ca (goodIn_r _ [7, 8, 9] (by decide +kernel) (by decide +kernel)) (goodIn_sub (fun _ h => List.mem_cons_of_mem _ (List.mem_append_right _ h)) (by decide +kernel))
set_option maxRecDepth 20000 in
theorem gX7_addNote_X7_checkTune : GoodIn wsX7_addNote (va_wsS RX7 109 yX7_checkTune wsX7_checkTune) := goodIn_app (goodIn_of _ (by decide +kernel)) ggX7_addNote_X7_checkTune
set_option maxRecDepth 20000 in
theorem ggX7_addNote_X7_checkPitch : GoodIn wsX7_addNote wsX7_checkPitch := goodIn_ca (goodIn_r _ [12, 8, 9] (by decide +kernel) (by decide +kernel)) (goodIn_sub (fun _ h => List.mem_cons_of_mem _ (List.mem_append_right _ h)) (by decide +kernel))
set_option maxRecDepth 20000 in
theorem gX7_addNote_X7_checkPitch : GoodIn wsX7_addNote (va_wsS RX7 44 yX7_checkPitch wsX7_checkPitch) := goodIn_app (goodIn_of _ (by decide +kernel)) ggX7_addNote_X7_checkPitch
set_option maxRecDepth 20000 in
theorem ggX7_addNote_X7_checkLength : GoodIn wsX7_addNote wsX7_checkLength := goodIn_ca (goodIn_r _ [15, 8, 9] (by decide +kernel) (by decide +kernel)) (goodIn_sub (fun _ h => List.mem_cons_of_mem _ (List.mem_append_right _ h)) (by decide +kernel))
set_option maxRecDepth 20000 in
theorem gX7_addNote_X7_checkLength : GoodIn wsX7_addNote (va_wsS RX7 101 yX7_checkLength wsX7_checkLength) := goodIn_app (goodIn_of _ (by decide +kernel)) ggX7_addNote_X7_checkLength
set_option maxRecDepth 20000 in
theorem ggX7_addNote_X5_size : GoodIn wsX7_addNote wsX5_size := goodIn_r _ [20, 21, 34, 35, 36, 37, 38] (by decide +kernel) (by decide +kernel)
set_option maxRecDepth 20000 in
theorem gX7_addNote_X5_size : GoodIn wsX7_addNote (wsV RX7 112 RX5 yX5_size wsX5_size) := goodIn_app (goodIn_of _ (by decide +kernel)) ggX7_addNote_X5_size
set_option maxRecDepth 20000 in
theorem ggX7_addNote_X5_append : GoodIn wsX7_addNote wsX5_append := goodIn_r _ [25, 21, 26, 27, 28, 34, 35, 36, 37, 38] (by decide +kernel) (by decide +kernel)
set_option maxRecDepth 20000 in
theorem gX7_addNote_X5_append : GoodIn wsX7_addNote (wsV RX7 115 RX5 yX5_append wsX5_append) := goodIn_app (goodIn_of _ (by decide +kernel)) ggX7_addNote_X5_append
theorem dX7_addNote_0 : decode cX7_addNote 0 = .ok (.iload_n 1, 1) := by decide +kernel
theorem dX7_addNote_1 : decode cX7_addNote 1 = .ok (.invokestatic 109, 3) := by decide +kernel
theorem dX7_addNote_4 : decode cX7_addNote 4 = .ok (.iload_n 2, 1) := by decide +kernel
theorem dX7_addNote_5 : decode cX7_addNote 5 = .ok (.invokestatic 44, 3) := by decide +kernel
theorem dX7_addNote_8 : decode cX7_addNote 8 = .ok (.iload_n 3, 1) := by decide +kernel
theorem dX7_addNote_9 : decode cX7_addNote 9 = .ok (.invokestatic 101, 3) := by decide +kernel
theorem dX7_addNote_12 : decode cX7_addNote 12 = .ok (.aload_n 0, 1) := by decide +kernel
theorem dX7_addNote_13 : decode cX7_addNote 13 = .ok (.getfield 25, 3) := by decide +kernel
theorem dX7_addNote_16 : decode cX7_addNote 16 = .ok (.iload_n 1, 1) := by decide +kernel
theorem dX7_addNote_17 : decode cX7_addNote 17 = .ok (.aaload, 1) := by decide +kernel
theorem dX7_addNote_18 : decode cX7_addNote 18 = .ok (.invokevirtual 112, 3) := by decide +kernel
theorem dX7_addNote_21 : decode cX7_addNote 21 = .ok (.bipush 10, 2) := by decide +kernel
theorem dX7_addNote_23 : decode cX7_addNote 23 = .ok (.if_icmp .lt 13, 3) := by decide +kernel
theorem dX7_addNote_26 : decode cX7_addNote 26 = .ok (.new 73, 3) := by decide +kernel
theorem dX7_addNote_29 : decode cX7_addNote 29 = .ok (.dup, 1) := by decide +kernel
theorem dX7_addNote_30 : decode cX7_addNote 30 = .ok (.ldc 113, 2) := by decide +kernel
theorem dX7_addNote_32 : decode cX7_addNote 32 = .ok (.invokespecial 77, 3) := by decide +kernel
theorem dX7_addNote_35 : decode cX7_addNote 35 = .ok (.athrow, 1) := by decide +kernel
theorem dX7_addNote_36 : decode cX7_addNote 36 = .ok (.aload_n 0, 1) := by decide +kernel
theorem dX7_addNote_37 : decode cX7_addNote 37 = .ok (.getfield 25, 3) := by decide +kernel
theorem dX7_addNote_40 : decode cX7_addNote 40 = .ok (.iload_n 1, 1) := by decide +kernel
theorem dX7_addNote_41 : decode cX7_addNote 41 = .ok (.aaload, 1) := by decide +kernel
theorem dX7_addNote_42 : decode cX7_addNote 42 = .ok (.iload_n 2, 1) := by decide +kernel
theorem dX7_addNote_43 : decode cX7_addNote 43 = .ok (.iload_n 3, 1) := by decide +kernel
theorem dX7_addNote_44 : decode cX7_addNote 44 = .ok (.invokevirtual 115, 3) := by decide +kernel
theorem dX7_addNote_47 : decode cX7_addNote 47 = .ok (.ireturn, 1) := by decide +kernel
set_option maxRecDepth 20000 in
theorem ggX7_removeNote_X7_checkTune : GoodIn wsX7_removeNote wsX7_checkTune := goodIn_ca (goodIn_r _ [7, 8, 9] (by decide +kernel) (by decide +kernel)) (goodIn_sub (fun _ h => List.mem_cons_of_mem _ (List.mem_append_right _ h)) (by decide +kernel))
set_option maxRecDepth 20000 in
theorem gX7_removeNote_X7_checkTune : GoodIn wsX7_removeNote (va_wsS RX7 109 yX7_checkTune wsX7_checkTune) := goodIn_app (goodIn_of _ (by decide +kernel)) ggX7_removeNote_X7_checkTune
set_option maxRecDepth 20000 in
theorem ggX7_removeNote_X5_size : GoodIn wsX7_removeNote wsX5_size := goodIn_r _ [14, 15, 26, 27, 28, 29, 30] (by decide +kernel) (by decide +kernel)
set_option maxRecDepth 20000 in
theorem gX7_removeNote_X5_size : GoodIn wsX7_removeNote (wsV RX7 112 RX5 yX5_size wsX5_size) := goodIn_app (goodIn_of _ (by decide +kernel)) ggX7_removeNote_X5_size
set_option maxRecDepth 20000 in
theorem ggX7_removeNote_X5_dropLast : GoodIn wsX7_removeNote wsX5_dropLast := goodIn_r _ [19, 15, 20, 26, 27, 28, 29, 30] (by decide +kernel) (by decide +kernel)
set_option maxRecDepth 20000 in
theorem gX7_removeNote_X5_dropLast : GoodIn wsX7_removeNote (wsV RX7 123 RX5 yX5_dropLast wsX5_dropLast) := goodIn_app (goodIn_of _ (by decide +kernel)) ggX7_removeNote_X5_dropLast
theorem dX7_removeNote_0 : decode cX7_removeNote 0 = .ok (.iload_n 1, 1) := by decide +kernel
theorem dX7_removeNote_1 : decode cX7_removeNote 1 = .ok (.invokestatic 109, 3) := by decide +kernel
theorem dX7_removeNote_4 : decode cX7_removeNote 4 = .ok (.aload_n 0, 1) := by decide +kernel
theorem dX7_removeNote_5 : decode cX7_removeNote 5 = .ok (.getfield 25, 3) := by decide +kernel
theorem dX7_removeNote_8 : decode cX7_removeNote 8 = .ok (.iload_n 1, 1) := by decide +kernel
theorem dX7_removeNote_9 : decode cX7_removeNote 9 = .ok (.aaload, 1) := by decide +kernel
theorem dX7_removeNote_10 : decode cX7_removeNote 10 = .ok (.invokevirtual 112, 3) := by decide +kernel
theorem dX7_removeNote_13 : decode cX7_removeNote 13 = .ok (.ifCond .ne 13, 3) := by decide +kernel
theorem dX7_removeNote_16 : decode cX7_removeNote 16 = .ok (.new 118, 3) := by decide +kernel
theorem dX7_removeNote_19 : decode cX7_removeNote 19 = .ok (.dup, 1) := by decide +kernel
theorem dX7_removeNote_20 : decode cX7_removeNote 20 = .ok (.ldc 120, 2) := by decide +kernel
theorem dX7_removeNote_22 : decode cX7_removeNote 22 = .ok (.invokespecial 122, 3) := by decide +kernel
theorem dX7_removeNote_25 : decode cX7_removeNote 25 = .ok (.athrow, 1) := by decide +kernel
theorem dX7_removeNote_26 : decode cX7_removeNote 26 = .ok (.aload_n 0, 1) := by decide +kernel
theorem dX7_removeNote_27 : decode cX7_removeNote 27 = .ok (.getfield 25, 3) := by decide +kernel
theorem dX7_removeNote_30 : decode cX7_removeNote 30 = .ok (.iload_n 1, 1) := by decide +kernel
theorem dX7_removeNote_31 : decode cX7_removeNote 31 = .ok (.aaload, 1) := by decide +kernel
theorem dX7_removeNote_32 : decode cX7_removeNote 32 = .ok (.invokevirtual 123, 3) := by decide +kernel
theorem dX7_removeNote_35 : decode cX7_removeNote 35 = .ok (.ireturn, 1) := by decide +kernel
set_option maxRecDepth 20000 in
theorem ggX7_setWish_X7_checkTune : GoodIn wsX7_setWish wsX7_checkTune := goodIn_ca (goodIn_r _ [5, 6, 7] (by decide +kernel) (by decide +kernel)) (goodIn_sub (fun _ h => List.mem_cons_of_mem _ (List.mem_append_left _ (List.mem_append_right _ h))) (by decide +kernel))
set_option maxRecDepth 20000 in
theorem gX7_setWish_X7_checkTune : GoodIn wsX7_setWish (va_wsS RX7 109 yX7_checkTune wsX7_checkTune) := goodIn_app (goodIn_of _ (by decide +kernel)) ggX7_setWish_X7_checkTune
set_option maxRecDepth 20000 in
theorem ggX7_setWish_X7_checkGap : GoodIn wsX7_setWish wsX7_checkGap := goodIn_ca (goodIn_r _ [11, 12, 13, 1, 14, 15, 16, 17, 18, 19, 25, 26, 27, 28, 29, 30, 31, 32, 33, 34] (by decide +kernel) (by decide +kernel)) (goodIn_sub (fun _ h => List.mem_cons_of_mem _ (List.mem_append_right _ h)) (by decide +kernel))
set_option maxRecDepth 20000 in
theorem gX7_setWish_X7_checkGap : GoodIn wsX7_setWish (wsV RX7 126 RX7 yX7_checkGap wsX7_checkGap) := goodIn_app (goodIn_of _ (by decide +kernel)) ggX7_setWish_X7_checkGap
set_option maxRecDepth 20000 in
theorem ggX7_setWish_X5_replaceWish : GoodIn wsX7_setWish wsX5_replaceWish := goodIn_r _ [23, 24, 30, 31, 32, 33, 34] (by decide +kernel) (by decide +kernel)
set_option maxRecDepth 20000 in
theorem gX7_setWish_X5_replaceWish : GoodIn wsX7_setWish (wsV RX7 130 RX5 yX5_replaceWish wsX5_replaceWish) := goodIn_app (goodIn_of _ (by decide +kernel)) ggX7_setWish_X5_replaceWish
theorem dX7_setWish_0 : decode cX7_setWish 0 = .ok (.iload_n 1, 1) := by decide +kernel
theorem dX7_setWish_1 : decode cX7_setWish 1 = .ok (.invokestatic 109, 3) := by decide +kernel
theorem dX7_setWish_4 : decode cX7_setWish 4 = .ok (.aload_n 0, 1) := by decide +kernel
theorem dX7_setWish_5 : decode cX7_setWish 5 = .ok (.iload_n 1, 1) := by decide +kernel
theorem dX7_setWish_6 : decode cX7_setWish 6 = .ok (.iload_n 2, 1) := by decide +kernel
theorem dX7_setWish_7 : decode cX7_setWish 7 = .ok (.invokevirtual 126, 3) := by decide +kernel
theorem dX7_setWish_10 : decode cX7_setWish 10 = .ok (.aload_n 0, 1) := by decide +kernel
theorem dX7_setWish_11 : decode cX7_setWish 11 = .ok (.getfield 25, 3) := by decide +kernel
theorem dX7_setWish_14 : decode cX7_setWish 14 = .ok (.iload_n 1, 1) := by decide +kernel
theorem dX7_setWish_15 : decode cX7_setWish 15 = .ok (.aaload, 1) := by decide +kernel
theorem dX7_setWish_16 : decode cX7_setWish 16 = .ok (.iload_n 2, 1) := by decide +kernel
theorem dX7_setWish_17 : decode cX7_setWish 17 = .ok (.iload_n 3, 1) := by decide +kernel
theorem dX7_setWish_18 : decode cX7_setWish 18 = .ok (.invokevirtual 130, 3) := by decide +kernel
theorem dX7_setWish_21 : decode cX7_setWish 21 = .ok (.ireturn, 1) := by decide +kernel
set_option maxRecDepth 20000 in
theorem ggX7_notes_X7_checkTune : GoodIn wsX7_notes wsX7_checkTune := goodIn_ca (goodIn_r _ [5, 6, 7] (by decide +kernel) (by decide +kernel)) (goodIn_sub (fun _ h => List.mem_cons_of_mem _ (List.mem_append_right _ h)) (by decide +kernel))
set_option maxRecDepth 20000 in
theorem gX7_notes_X7_checkTune : GoodIn wsX7_notes (va_wsS RX7 109 yX7_checkTune wsX7_checkTune) := goodIn_app (goodIn_of _ (by decide +kernel)) ggX7_notes_X7_checkTune
set_option maxRecDepth 20000 in
theorem ggX7_notes_X5_size : GoodIn wsX7_notes wsX5_size := goodIn_r _ [12, 13, 19, 20, 21, 22, 23] (by decide +kernel) (by decide +kernel)
set_option maxRecDepth 20000 in
theorem gX7_notes_X5_size : GoodIn wsX7_notes (wsV RX7 112 RX5 yX5_size wsX5_size) := goodIn_app (goodIn_of _ (by decide +kernel)) ggX7_notes_X5_size
theorem dX7_notes_0 : decode cX7_notes 0 = .ok (.iload_n 1, 1) := by decide +kernel
theorem dX7_notes_1 : decode cX7_notes 1 = .ok (.invokestatic 109, 3) := by decide +kernel
theorem dX7_notes_4 : decode cX7_notes 4 = .ok (.aload_n 0, 1) := by decide +kernel
theorem dX7_notes_5 : decode cX7_notes 5 = .ok (.getfield 25, 3) := by decide +kernel
theorem dX7_notes_8 : decode cX7_notes 8 = .ok (.iload_n 1, 1) := by decide +kernel
theorem dX7_notes_9 : decode cX7_notes 9 = .ok (.aaload, 1) := by decide +kernel
theorem dX7_notes_10 : decode cX7_notes 10 = .ok (.invokevirtual 112, 3) := by decide +kernel
theorem dX7_notes_13 : decode cX7_notes 13 = .ok (.ireturn, 1) := by decide +kernel
set_option maxRecDepth 20000 in
theorem ggX7_time_X7_checkTune : GoodIn wsX7_time wsX7_checkTune := goodIn_ca (goodIn_r _ [9, 10, 11] (by decide +kernel) (by decide +kernel)) (goodIn_sub (fun _ h => List.mem_cons_of_mem _ (List.mem_append_left _ (List.mem_append_right _ h))) (by decide +kernel))
set_option maxRecDepth 20000 in
theorem gX7_time_X7_checkTune : GoodIn wsX7_time (va_wsS RX7 109 yX7_checkTune wsX7_checkTune) := goodIn_app (goodIn_of _ (by decide +kernel)) ggX7_time_X7_checkTune
set_option maxRecDepth 20000 in
theorem ggX7_time_X5_size : GoodIn wsX7_time wsX5_size := goodIn_r _ [16, 17, 127, 128, 129, 130, 131] (by decide +kernel) (by decide +kernel)
set_option maxRecDepth 20000 in
theorem gX7_time_X5_size : GoodIn wsX7_time (wsV RX7 112 RX5 yX5_size wsX5_size) := goodIn_app (goodIn_of _ (by decide +kernel)) ggX7_time_X5_size
set_option maxRecDepth 20000 in
theorem ggX7_time_X7_solve : GoodIn wsX7_time wsX7_solve := goodIn_ca (goodIn_r _ [21, 22, 23, 3, 24, 4, 5, 25, 26, 27, 28, 15, 29, 17, 30, 31, 32, 33, 34, 35, 36, 37, 38, 39, 40, 41, 42, 43, 44, 45, 46, 47, 48, 49, 50, 51, 52, 53, 54, 55, 56, 57, 58, 59, 60, 61, 62, 63, 64, 65, 66, 67, 68, 69, 70, 71, 72, 73, 74, 75, 76, 77, 78, 79, 80, 81, 82, 83, 84, 85, 86, 87, 88, 89, 90, 91, 92, 93, 94, 95, 96, 97, 98, 99, 100, 101, 102, 103, 122, 123, 124, 125, 126, 127, 128, 129, 130, 131, 132, 133, 134, 135, 136, 137, 138, 139, 140, 141, 142] (by decide +kernel) (by decide +kernel)) (goodIn_sub (fun _ h => List.mem_cons_of_mem _ (List.mem_append_right _ h)) (by decide +kernel))
set_option maxRecDepth 20000 in
theorem gX7_time_X7_solve : GoodIn wsX7_time (wsV RX7 136 RX7 yX7_solve wsX7_solve) := goodIn_app (goodIn_of _ (by decide +kernel)) ggX7_time_X7_solve
set_option maxRecDepth 20000 in
theorem ggX7_time_X5_lengthOf : GoodIn wsX7_time wsX5_lengthOf := goodIn_r _ [107, 31, 127, 128, 129, 130, 131] (by decide +kernel) (by decide +kernel)
set_option maxRecDepth 20000 in
theorem gX7_time_X5_lengthOf : GoodIn wsX7_time (wsV RX7 139 RX5 yX5_lengthOf wsX5_lengthOf) := goodIn_app (goodIn_of _ (by decide +kernel)) ggX7_time_X5_lengthOf
set_option maxRecDepth 20000 in
theorem ggX7_time_X5_gaps : GoodIn wsX7_time wsX5_gaps := goodIn_r _ [75, 17, 127, 128, 129, 130, 131] (by decide +kernel) (by decide +kernel)
set_option maxRecDepth 20000 in
theorem gX7_time_X5_gaps : GoodIn wsX7_time (wsV RX7 142 RX5 yX5_gaps wsX5_gaps) := goodIn_app (goodIn_of _ (by decide +kernel)) ggX7_time_X5_gaps
set_option maxRecDepth 20000 in
theorem ggX7_time_X6_firstAt : GoodIn wsX7_time wsX6_firstAt := goodIn_r _ [112, 71, 113, 97, 98, 79, 99, 81, 138, 139, 140, 141, 142] (by decide +kernel) (by decide +kernel)
set_option maxRecDepth 20000 in
theorem gX7_time_X6_firstAt : GoodIn wsX7_time (wsV RX7 145 RX6 yX6_firstAt wsX6_firstAt) := goodIn_app (goodIn_of _ (by decide +kernel)) ggX7_time_X6_firstAt
set_option maxRecDepth 20000 in
theorem ggX7_time_X3_gracesOf : GoodIn wsX7_time wsX3_gracesOf := goodIn_r _ [117, 50, 118, 119, 120, 54, 121, 56, 133, 134, 135, 136, 137] (by decide +kernel) (by decide +kernel)
set_option maxRecDepth 20000 in
theorem gX7_time_X3_gracesOf : GoodIn wsX7_time (wsV RX7 148 RX3 yX3_gracesOf wsX3_gracesOf) := goodIn_app (goodIn_of _ (by decide +kernel)) ggX7_time_X3_gracesOf
theorem dX7_time_0 : decode cX7_time 0 = .ok (.iload_n 1, 1) := by decide +kernel
theorem dX7_time_1 : decode cX7_time 1 = .ok (.invokestatic 109, 3) := by decide +kernel
theorem dX7_time_4 : decode cX7_time 4 = .ok (.iload_n 2, 1) := by decide +kernel
theorem dX7_time_5 : decode cX7_time 5 = .ok (.ifCond .lt 16, 3) := by decide +kernel
theorem dX7_time_8 : decode cX7_time 8 = .ok (.iload_n 2, 1) := by decide +kernel
theorem dX7_time_9 : decode cX7_time 9 = .ok (.aload_n 0, 1) := by decide +kernel
theorem dX7_time_10 : decode cX7_time 10 = .ok (.getfield 25, 3) := by decide +kernel
theorem dX7_time_13 : decode cX7_time 13 = .ok (.iload_n 1, 1) := by decide +kernel
theorem dX7_time_14 : decode cX7_time 14 = .ok (.aaload, 1) := by decide +kernel
theorem dX7_time_15 : decode cX7_time 15 = .ok (.invokevirtual 112, 3) := by decide +kernel
theorem dX7_time_18 : decode cX7_time 18 = .ok (.if_icmp .lt 13, 3) := by decide +kernel
theorem dX7_time_21 : decode cX7_time 21 = .ok (.new 96, 3) := by decide +kernel
theorem dX7_time_24 : decode cX7_time 24 = .ok (.dup, 1) := by decide +kernel
theorem dX7_time_25 : decode cX7_time 25 = .ok (.ldc 134, 2) := by decide +kernel
theorem dX7_time_27 : decode cX7_time 27 = .ok (.invokespecial 100, 3) := by decide +kernel
theorem dX7_time_30 : decode cX7_time 30 = .ok (.athrow, 1) := by decide +kernel
theorem dX7_time_31 : decode cX7_time 31 = .ok (.aload_n 0, 1) := by decide +kernel
theorem dX7_time_32 : decode cX7_time 32 = .ok (.iload_n 1, 1) := by decide +kernel
theorem dX7_time_33 : decode cX7_time 33 = .ok (.invokevirtual 136, 3) := by decide +kernel
theorem dX7_time_36 : decode cX7_time 36 = .ok (.pop, 1) := by decide +kernel
theorem dX7_time_37 : decode cX7_time 37 = .ok (.aload_n 0, 1) := by decide +kernel
theorem dX7_time_38 : decode cX7_time 38 = .ok (.getfield 25, 3) := by decide +kernel
theorem dX7_time_41 : decode cX7_time 41 = .ok (.iload_n 1, 1) := by decide +kernel
theorem dX7_time_42 : decode cX7_time 42 = .ok (.aaload, 1) := by decide +kernel
theorem dX7_time_43 : decode cX7_time 43 = .ok (.iload_n 2, 1) := by decide +kernel
theorem dX7_time_44 : decode cX7_time 44 = .ok (.invokevirtual 139, 3) := by decide +kernel
theorem dX7_time_47 : decode cX7_time 47 = .ok (.istore_n 3, 1) := by decide +kernel
theorem dX7_time_48 : decode cX7_time 48 = .ok (.iload_n 2, 1) := by decide +kernel
theorem dX7_time_49 : decode cX7_time 49 = .ok (.aload_n 0, 1) := by decide +kernel
theorem dX7_time_50 : decode cX7_time 50 = .ok (.getfield 25, 3) := by decide +kernel
theorem dX7_time_53 : decode cX7_time 53 = .ok (.iload_n 1, 1) := by decide +kernel
theorem dX7_time_54 : decode cX7_time 54 = .ok (.aaload, 1) := by decide +kernel
theorem dX7_time_55 : decode cX7_time 55 = .ok (.invokevirtual 142, 3) := by decide +kernel
theorem dX7_time_58 : decode cX7_time 58 = .ok (.if_icmp .ge 23, 3) := by decide +kernel
theorem dX7_time_61 : decode cX7_time 61 = .ok (.iload_n 3, 1) := by decide +kernel
theorem dX7_time_62 : decode cX7_time 62 = .ok (.aload_n 0, 1) := by decide +kernel
theorem dX7_time_63 : decode cX7_time 63 = .ok (.getfield 19, 3) := by decide +kernel
theorem dX7_time_66 : decode cX7_time 66 = .ok (.aload_n 0, 1) := by decide +kernel
theorem dX7_time_67 : decode cX7_time 67 = .ok (.getfield 33, 3) := by decide +kernel
theorem dX7_time_70 : decode cX7_time 70 = .ok (.iload_n 2, 1) := by decide +kernel
theorem dX7_time_71 : decode cX7_time 71 = .ok (.invokevirtual 145, 3) := by decide +kernel
theorem dX7_time_74 : decode cX7_time 74 = .ok (.invokevirtual 148, 3) := by decide +kernel
theorem dX7_time_77 : decode cX7_time 77 = .ok (.isub, 1) := by decide +kernel
theorem dX7_time_78 : decode cX7_time 78 = .ok (.goto 4, 3) := by decide +kernel
theorem dX7_time_81 : decode cX7_time 81 = .ok (.iload_n 3, 1) := by decide +kernel
theorem dX7_time_82 : decode cX7_time 82 = .ok (.ireturn, 1) := by decide +kernel
set_option maxRecDepth 20000 in
theorem ggX7_fitting_X7_checkTune : GoodIn wsX7_fitting wsX7_checkTune := goodIn_ca (goodIn_r _ [8, 9, 10] (by decide +kernel) (by decide +kernel)) (goodIn_sub (fun _ h => List.mem_cons_of_mem _ (List.mem_append_left _ (List.mem_append_right _ h))) (by decide +kernel))
set_option maxRecDepth 20000 in
theorem gX7_fitting_X7_checkTune : GoodIn wsX7_fitting (va_wsS RX7 109 yX7_checkTune wsX7_checkTune) := goodIn_app (goodIn_of _ (by decide +kernel)) ggX7_fitting_X7_checkTune
set_option maxRecDepth 20000 in
theorem ggX7_fitting_X7_checkGap : GoodIn wsX7_fitting wsX7_checkGap := goodIn_ca (goodIn_r _ [14, 15, 16, 1, 17, 18, 19, 20, 21, 22, 67, 68, 69, 70, 71, 72, 73, 74, 75, 76] (by decide +kernel) (by decide +kernel)) (goodIn_sub (fun _ h => List.mem_cons_of_mem _ (List.mem_append_right _ h)) (by decide +kernel))
set_option maxRecDepth 20000 in
theorem gX7_fitting_X7_checkGap : GoodIn wsX7_fitting (wsV RX7 126 RX7 yX7_checkGap wsX7_checkGap) := goodIn_app (goodIn_of _ (by decide +kernel)) ggX7_fitting_X7_checkGap
set_option maxRecDepth 20000 in
theorem ggX7_fitting_X5_weighGaps : GoodIn wsX7_fitting wsX5_weighGaps := goodIn_r _ [26, 22, 27, 28, 29, 30, 31, 32, 33, 34, 35, 36, 37, 38, 39, 40, 41, 42, 43, 44, 45, 46, 47, 48, 49, 50, 51, 52, 53, 54, 55, 56, 57, 58, 59, 60, 61, 62, 72, 73, 74, 75, 76, 77, 78, 79, 80, 81, 82] (by decide +kernel) (by decide +kernel)
set_option maxRecDepth 20000 in
theorem gX7_fitting_X5_weighGaps : GoodIn wsX7_fitting (wsV RX7 151 RX5 yX5_weighGaps wsX5_weighGaps) := goodIn_app (goodIn_of _ (by decide +kernel)) ggX7_fitting_X5_weighGaps
set_option maxRecDepth 20000 in
theorem ggX7_fitting_X5_costsAt : GoodIn wsX7_fitting wsX5_costsAt := goodIn_r _ [66, 30, 72, 73, 74, 75, 76] (by decide +kernel) (by decide +kernel)
set_option maxRecDepth 20000 in
theorem gX7_fitting_X5_costsAt : GoodIn wsX7_fitting (wsV RX7 155 RX5 yX5_costsAt wsX5_costsAt) := goodIn_app (goodIn_of _ (by decide +kernel)) ggX7_fitting_X5_costsAt
theorem dX7_fitting_0 : decode cX7_fitting 0 = .ok (.iload_n 1, 1) := by decide +kernel
theorem dX7_fitting_1 : decode cX7_fitting 1 = .ok (.invokestatic 109, 3) := by decide +kernel
theorem dX7_fitting_4 : decode cX7_fitting 4 = .ok (.aload_n 0, 1) := by decide +kernel
theorem dX7_fitting_5 : decode cX7_fitting 5 = .ok (.iload_n 1, 1) := by decide +kernel
theorem dX7_fitting_6 : decode cX7_fitting 6 = .ok (.iload_n 2, 1) := by decide +kernel
theorem dX7_fitting_7 : decode cX7_fitting 7 = .ok (.invokevirtual 126, 3) := by decide +kernel
theorem dX7_fitting_10 : decode cX7_fitting 10 = .ok (.aload_n 0, 1) := by decide +kernel
theorem dX7_fitting_11 : decode cX7_fitting 11 = .ok (.getfield 25, 3) := by decide +kernel
theorem dX7_fitting_14 : decode cX7_fitting 14 = .ok (.iload_n 1, 1) := by decide +kernel
theorem dX7_fitting_15 : decode cX7_fitting 15 = .ok (.aaload, 1) := by decide +kernel
theorem dX7_fitting_16 : decode cX7_fitting 16 = .ok (.aload_n 0, 1) := by decide +kernel
theorem dX7_fitting_17 : decode cX7_fitting 17 = .ok (.getfield 12, 3) := by decide +kernel
theorem dX7_fitting_20 : decode cX7_fitting 20 = .ok (.aload_n 0, 1) := by decide +kernel
theorem dX7_fitting_21 : decode cX7_fitting 21 = .ok (.getfield 19, 3) := by decide +kernel
theorem dX7_fitting_24 : decode cX7_fitting 24 = .ok (.invokevirtual 151, 3) := by decide +kernel
theorem dX7_fitting_27 : decode cX7_fitting 27 = .ok (.aload_n 0, 1) := by decide +kernel
theorem dX7_fitting_28 : decode cX7_fitting 28 = .ok (.getfield 25, 3) := by decide +kernel
theorem dX7_fitting_31 : decode cX7_fitting 31 = .ok (.iload_n 1, 1) := by decide +kernel
theorem dX7_fitting_32 : decode cX7_fitting 32 = .ok (.aaload, 1) := by decide +kernel
theorem dX7_fitting_33 : decode cX7_fitting 33 = .ok (.iload_n 2, 1) := by decide +kernel
theorem dX7_fitting_34 : decode cX7_fitting 34 = .ok (.invokevirtual 155, 3) := by decide +kernel
theorem dX7_fitting_37 : decode cX7_fitting 37 = .ok (.astore_n 3, 1) := by decide +kernel
theorem dX7_fitting_38 : decode cX7_fitting 38 = .ok (.iconst 0, 1) := by decide +kernel
theorem dX7_fitting_39 : decode cX7_fitting 39 = .ok (.istore 4, 2) := by decide +kernel
theorem dX7_fitting_41 : decode cX7_fitting 41 = .ok (.iconst 1, 1) := by decide +kernel
theorem dX7_fitting_42 : decode cX7_fitting 42 = .ok (.istore 5, 2) := by decide +kernel
theorem dX7_fitting_44 : decode cX7_fitting 44 = .ok (.iload 5, 2) := by decide +kernel
theorem dX7_fitting_46 : decode cX7_fitting 46 = .ok (.bipush 9, 2) := by decide +kernel
theorem dX7_fitting_48 : decode cX7_fitting 48 = .ok (.if_icmp .ge 21, 3) := by decide +kernel
theorem dX7_fitting_51 : decode cX7_fitting 51 = .ok (.aload_n 3, 1) := by decide +kernel
theorem dX7_fitting_52 : decode cX7_fitting 52 = .ok (.iload 5, 2) := by decide +kernel
theorem dX7_fitting_54 : decode cX7_fitting 54 = .ok (.iaload, 1) := by decide +kernel
theorem dX7_fitting_55 : decode cX7_fitting 55 = .ok (.ldc 108, 2) := by decide +kernel
theorem dX7_fitting_57 : decode cX7_fitting 57 = .ok (.if_icmp .ge 6, 3) := by decide +kernel
theorem dX7_fitting_60 : decode cX7_fitting 60 = .ok (.iinc 4 1, 3) := by decide +kernel
theorem dX7_fitting_63 : decode cX7_fitting 63 = .ok (.iinc 5 1, 3) := by decide +kernel
theorem dX7_fitting_66 : decode cX7_fitting 66 = .ok (.goto (-22), 3) := by decide +kernel
theorem dX7_fitting_69 : decode cX7_fitting 69 = .ok (.iload 4, 2) := by decide +kernel
theorem dX7_fitting_71 : decode cX7_fitting 71 = .ok (.ireturn, 1) := by decide +kernel
set_option maxRecDepth 20000 in
theorem ggX7_choices_X7_checkTune : GoodIn wsX7_choices wsX7_checkTune := goodIn_ca (goodIn_r _ [8, 9, 10] (by decide +kernel) (by decide +kernel)) (goodIn_sub (fun _ h => List.mem_cons_of_mem _ (List.mem_append_right _ h)) (by decide +kernel))
set_option maxRecDepth 20000 in
theorem gX7_choices_X7_checkTune : GoodIn wsX7_choices (va_wsS RX7 109 yX7_checkTune wsX7_checkTune) := goodIn_app (goodIn_of _ (by decide +kernel)) ggX7_choices_X7_checkTune
set_option maxRecDepth 20000 in
theorem ggX7_choices_X5_weighGaps : GoodIn wsX7_choices wsX5_weighGaps := goodIn_r _ [15, 16, 17, 18, 19, 20, 21, 22, 23, 24, 25, 26, 27, 28, 29, 30, 31, 32, 33, 34, 35, 36, 37, 38, 39, 40, 41, 42, 43, 44, 45, 46, 47, 48, 49, 50, 51, 52, 81, 82, 83, 84, 85, 86, 87, 88, 89, 90, 91] (by decide +kernel) (by decide +kernel)
set_option maxRecDepth 20000 in
theorem gX7_choices_X5_weighGaps : GoodIn wsX7_choices (wsV RX7 151 RX5 yX5_weighGaps wsX5_weighGaps) := goodIn_app (goodIn_of _ (by decide +kernel)) ggX7_choices_X5_weighGaps
set_option maxRecDepth 20000 in
theorem ggX7_choices_X6_countFor : GoodIn wsX7_choices wsX6_countFor := goodIn_r _ [57, 58, 59, 60, 61, 62, 63, 64, 65, 14, 66, 16, 67, 68, 69, 70, 20, 71, 72, 73, 56, 74, 75, 92, 93, 94, 95, 81, 82, 83, 84, 85] (by decide +kernel) (by decide +kernel)
set_option maxRecDepth 20000 in
theorem gX7_choices_X6_countFor : GoodIn wsX7_choices (wsV RX7 159 RX6 yX6_countFor wsX6_countFor) := goodIn_app (goodIn_of _ (by decide +kernel)) ggX7_choices_X6_countFor
theorem dX7_choices_0 : decode cX7_choices 0 = .ok (.iload_n 1, 1) := by decide +kernel
theorem dX7_choices_1 : decode cX7_choices 1 = .ok (.invokestatic 109, 3) := by decide +kernel
theorem dX7_choices_4 : decode cX7_choices 4 = .ok (.aload_n 0, 1) := by decide +kernel
theorem dX7_choices_5 : decode cX7_choices 5 = .ok (.getfield 25, 3) := by decide +kernel
theorem dX7_choices_8 : decode cX7_choices 8 = .ok (.iload_n 1, 1) := by decide +kernel
theorem dX7_choices_9 : decode cX7_choices 9 = .ok (.aaload, 1) := by decide +kernel
theorem dX7_choices_10 : decode cX7_choices 10 = .ok (.aload_n 0, 1) := by decide +kernel
theorem dX7_choices_11 : decode cX7_choices 11 = .ok (.getfield 12, 3) := by decide +kernel
theorem dX7_choices_14 : decode cX7_choices 14 = .ok (.aload_n 0, 1) := by decide +kernel
theorem dX7_choices_15 : decode cX7_choices 15 = .ok (.getfield 19, 3) := by decide +kernel
theorem dX7_choices_18 : decode cX7_choices 18 = .ok (.invokevirtual 151, 3) := by decide +kernel
theorem dX7_choices_21 : decode cX7_choices 21 = .ok (.aload_n 0, 1) := by decide +kernel
theorem dX7_choices_22 : decode cX7_choices 22 = .ok (.getfield 33, 3) := by decide +kernel
theorem dX7_choices_25 : decode cX7_choices 25 = .ok (.aload_n 0, 1) := by decide +kernel
theorem dX7_choices_26 : decode cX7_choices 26 = .ok (.getfield 25, 3) := by decide +kernel
theorem dX7_choices_29 : decode cX7_choices 29 = .ok (.iload_n 1, 1) := by decide +kernel
theorem dX7_choices_30 : decode cX7_choices 30 = .ok (.aaload, 1) := by decide +kernel
theorem dX7_choices_31 : decode cX7_choices 31 = .ok (.invokevirtual 159, 3) := by decide +kernel
theorem dX7_choices_34 : decode cX7_choices 34 = .ok (.ireturn, 1) := by decide +kernel
set_option maxRecDepth 20000 in
theorem ggX7_least_X7_checkTune : GoodIn wsX7_least wsX7_checkTune := goodIn_ca (goodIn_r _ [4, 5, 6] (by decide +kernel) (by decide +kernel)) (goodIn_sub (fun _ h => List.mem_cons_of_mem _ (List.mem_append_left _ (List.mem_append_right _ h))) (by decide +kernel))
set_option maxRecDepth 20000 in
theorem gX7_least_X7_checkTune : GoodIn wsX7_least (va_wsS RX7 109 yX7_checkTune wsX7_checkTune) := goodIn_app (goodIn_of _ (by decide +kernel)) ggX7_least_X7_checkTune
set_option maxRecDepth 20000 in
theorem ggX7_least_X7_solve : GoodIn wsX7_least wsX7_solve := goodIn_ca (goodIn_r _ [10, 11, 12, 13, 14, 15, 16, 17, 18, 19, 20, 21, 22, 23, 24, 25, 26, 27, 28, 29, 30, 31, 32, 33, 34, 35, 36, 37, 38, 39, 40, 41, 42, 43, 44, 45, 46, 47, 48, 49, 50, 51, 52, 53, 54, 55, 56, 57, 58, 59, 60, 61, 62, 63, 64, 65, 66, 67, 68, 69, 70, 71, 72, 73, 74, 75, 76, 77, 78, 79, 80, 81, 82, 83, 84, 85, 86, 87, 88, 89, 90, 91, 92, 93, 94, 95, 96, 97, 98, 99, 100, 101, 102, 103, 104, 105, 106, 107, 108, 109, 110, 111, 112, 113, 114, 115, 116, 117, 118] (by decide +kernel) (by decide +kernel)) (goodIn_sub (fun _ h => List.mem_cons_of_mem _ (List.mem_append_right _ h)) (by decide +kernel))
set_option maxRecDepth 20000 in
theorem gX7_least_X7_solve : GoodIn wsX7_least (wsV RX7 136 RX7 yX7_solve wsX7_solve) := goodIn_app (goodIn_of _ (by decide +kernel)) ggX7_least_X7_solve
theorem dX7_least_0 : decode cX7_least 0 = .ok (.iload_n 1, 1) := by decide +kernel
theorem dX7_least_1 : decode cX7_least 1 = .ok (.invokestatic 109, 3) := by decide +kernel
theorem dX7_least_4 : decode cX7_least 4 = .ok (.aload_n 0, 1) := by decide +kernel
theorem dX7_least_5 : decode cX7_least 5 = .ok (.iload_n 1, 1) := by decide +kernel
theorem dX7_least_6 : decode cX7_least 6 = .ok (.invokevirtual 136, 3) := by decide +kernel
theorem dX7_least_9 : decode cX7_least 9 = .ok (.ireturn, 1) := by decide +kernel
set_option maxRecDepth 20000 in
theorem ggX7_chosen_X7_checkTune : GoodIn wsX7_chosen wsX7_checkTune := goodIn_ca (goodIn_r _ [5, 6, 7] (by decide +kernel) (by decide +kernel)) (goodIn_sub (fun _ h => List.mem_cons_of_mem _ (List.mem_append_left _ (List.mem_append_left _ (List.mem_append_right _ h)))) (by decide +kernel))
set_option maxRecDepth 20000 in
theorem gX7_chosen_X7_checkTune : GoodIn wsX7_chosen (va_wsS RX7 109 yX7_checkTune wsX7_checkTune) := goodIn_app (goodIn_of _ (by decide +kernel)) ggX7_chosen_X7_checkTune
set_option maxRecDepth 20000 in
theorem ggX7_chosen_X7_checkGap : GoodIn wsX7_chosen wsX7_checkGap := goodIn_ca (goodIn_r _ [11, 12, 13, 14, 15, 16, 17, 18, 19, 20, 110, 111, 112, 113, 114, 115, 116, 117, 118, 119] (by decide +kernel) (by decide +kernel)) (goodIn_sub (fun _ h => List.mem_cons_of_mem _ (List.mem_append_left _ (List.mem_append_right _ h))) (by decide +kernel))
set_option maxRecDepth 20000 in
theorem gX7_chosen_X7_checkGap : GoodIn wsX7_chosen (wsV RX7 126 RX7 yX7_checkGap wsX7_checkGap) := goodIn_app (goodIn_of _ (by decide +kernel)) ggX7_chosen_X7_checkGap
set_option maxRecDepth 20000 in
theorem ggX7_chosen_X7_solve : GoodIn wsX7_chosen wsX7_solve := goodIn_ca (goodIn_r _ [24, 25, 26, 14, 27, 28, 1, 29, 30, 31, 32, 18, 33, 20, 34, 35, 36, 37, 38, 39, 40, 41, 42, 43, 44, 45, 46, 47, 48, 49, 50, 51, 52, 53, 54, 55, 56, 57, 58, 59, 60, 61, 62, 63, 64, 65, 66, 67, 68, 69, 70, 71, 72, 73, 74, 75, 76, 16, 17, 19, 77, 78, 79, 80, 81, 82, 83, 84, 85, 86, 87, 88, 89, 90, 91, 92, 93, 94, 95, 96, 97, 98, 99, 100, 101, 102, 103, 104, 110, 111, 112, 113, 114, 115, 116, 117, 118, 119, 120, 121, 122, 123, 124, 125, 126, 127, 128, 129, 130] (by decide +kernel) (by decide +kernel)) (goodIn_sub (fun _ h => List.mem_cons_of_mem _ (List.mem_append_right _ h)) (by decide +kernel))
set_option maxRecDepth 20000 in
theorem gX7_chosen_X7_solve : GoodIn wsX7_chosen (wsV RX7 136 RX7 yX7_solve wsX7_solve) := goodIn_app (goodIn_of _ (by decide +kernel)) ggX7_chosen_X7_solve
set_option maxRecDepth 20000 in
theorem ggX7_chosen_X6_firstAt : GoodIn wsX7_chosen wsX6_firstAt := goodIn_r _ [108, 75, 109, 98, 99, 80, 100, 82, 126, 127, 128, 129, 130] (by decide +kernel) (by decide +kernel)
set_option maxRecDepth 20000 in
theorem gX7_chosen_X6_firstAt : GoodIn wsX7_chosen (wsV RX7 145 RX6 yX6_firstAt wsX6_firstAt) := goodIn_app (goodIn_of _ (by decide +kernel)) ggX7_chosen_X6_firstAt
theorem dX7_chosen_0 : decode cX7_chosen 0 = .ok (.iload_n 1, 1) := by decide +kernel
theorem dX7_chosen_1 : decode cX7_chosen 1 = .ok (.invokestatic 109, 3) := by decide +kernel
theorem dX7_chosen_4 : decode cX7_chosen 4 = .ok (.aload_n 0, 1) := by decide +kernel
theorem dX7_chosen_5 : decode cX7_chosen 5 = .ok (.iload_n 1, 1) := by decide +kernel
theorem dX7_chosen_6 : decode cX7_chosen 6 = .ok (.iload_n 2, 1) := by decide +kernel
theorem dX7_chosen_7 : decode cX7_chosen 7 = .ok (.invokevirtual 126, 3) := by decide +kernel
theorem dX7_chosen_10 : decode cX7_chosen 10 = .ok (.aload_n 0, 1) := by decide +kernel
theorem dX7_chosen_11 : decode cX7_chosen 11 = .ok (.iload_n 1, 1) := by decide +kernel
theorem dX7_chosen_12 : decode cX7_chosen 12 = .ok (.invokevirtual 136, 3) := by decide +kernel
theorem dX7_chosen_15 : decode cX7_chosen 15 = .ok (.pop, 1) := by decide +kernel
theorem dX7_chosen_16 : decode cX7_chosen 16 = .ok (.aload_n 0, 1) := by decide +kernel
theorem dX7_chosen_17 : decode cX7_chosen 17 = .ok (.getfield 33, 3) := by decide +kernel
theorem dX7_chosen_20 : decode cX7_chosen 20 = .ok (.iload_n 2, 1) := by decide +kernel
theorem dX7_chosen_21 : decode cX7_chosen 21 = .ok (.invokevirtual 145, 3) := by decide +kernel
theorem dX7_chosen_24 : decode cX7_chosen 24 = .ok (.iconst 1, 1) := by decide +kernel
theorem dX7_chosen_25 : decode cX7_chosen 25 = .ok (.isub, 1) := by decide +kernel
theorem dX7_chosen_26 : decode cX7_chosen 26 = .ok (.ireturn, 1) := by decide +kernel
set_option maxRecDepth 20000 in
theorem ggX7_mostOrnaments_X7_checkTune : GoodIn wsX7_mostOrnaments wsX7_checkTune := goodIn_ca (goodIn_r _ [6, 7, 8] (by decide +kernel) (by decide +kernel)) (goodIn_sub (fun _ h => List.mem_cons_of_mem _ (List.mem_append_left _ (List.mem_append_right _ h))) (by decide +kernel))
set_option maxRecDepth 20000 in
theorem gX7_mostOrnaments_X7_checkTune : GoodIn wsX7_mostOrnaments (va_wsS RX7 109 yX7_checkTune wsX7_checkTune) := goodIn_app (goodIn_of _ (by decide +kernel)) ggX7_mostOrnaments_X7_checkTune
set_option maxRecDepth 20000 in
theorem ggX7_mostOrnaments_X7_solve : GoodIn wsX7_mostOrnaments wsX7_solve := goodIn_ca (goodIn_r _ [12, 13, 14, 1, 15, 16, 2, 17, 18, 19, 20, 21, 22, 23, 24, 25, 26, 27, 28, 29, 30, 31, 32, 33, 34, 35, 36, 37, 38, 39, 40, 41, 42, 43, 44, 45, 46, 47, 48, 49, 50, 51, 52, 53, 54, 55, 56, 57, 58, 59, 60, 61, 62, 63, 64, 65, 66, 67, 68, 69, 70, 71, 72, 73, 74, 75, 76, 77, 78, 79, 80, 81, 82, 83, 84, 85, 86, 87, 88, 89, 90, 91, 92, 93, 94, 95, 96, 97, 106, 107, 108, 109, 110, 111, 112, 113, 114, 115, 116, 117, 118, 119, 120, 121, 122, 123, 124, 125, 126] (by decide +kernel) (by decide +kernel)) (goodIn_sub (fun _ h => List.mem_cons_of_mem _ (List.mem_append_right _ h)) (by decide +kernel))
set_option maxRecDepth 20000 in
theorem gX7_mostOrnaments_X7_solve : GoodIn wsX7_mostOrnaments (wsV RX7 136 RX7 yX7_solve wsX7_solve) := goodIn_app (goodIn_of _ (by decide +kernel)) ggX7_mostOrnaments_X7_solve
set_option maxRecDepth 20000 in
theorem ggX7_mostOrnaments_X5_gaps : GoodIn wsX7_mostOrnaments wsX5_gaps := goodIn_r _ [69, 23, 111, 112, 113, 114, 115] (by decide +kernel) (by decide +kernel)
set_option maxRecDepth 20000 in
theorem gX7_mostOrnaments_X5_gaps : GoodIn wsX7_mostOrnaments (wsV RX7 142 RX5 yX5_gaps wsX5_gaps) := goodIn_app (goodIn_of _ (by decide +kernel)) ggX7_mostOrnaments_X5_gaps
set_option maxRecDepth 20000 in
theorem ggX7_mostOrnaments_X6_fewestEmptyGaps : GoodIn wsX7_mostOrnaments wsX6_fewestEmptyGaps := goodIn_r _ [102, 103, 104, 105, 70, 71, 72, 73, 74, 75, 76, 77, 78, 79, 80, 66, 67, 68, 21, 69, 23, 81, 82, 83, 84, 27, 85, 86, 87, 88, 89, 53, 54, 55, 90, 91, 92, 93, 94, 95, 96, 97, 122, 123, 124, 125, 126, 111, 112, 113, 114, 115] (by decide +kernel) (by decide +kernel)
set_option maxRecDepth 20000 in
theorem gX7_mostOrnaments_X6_fewestEmptyGaps : GoodIn wsX7_mostOrnaments (wsV RX7 163 RX6 yX6_fewestEmptyGaps wsX6_fewestEmptyGaps) := goodIn_app (goodIn_of _ (by decide +kernel)) ggX7_mostOrnaments_X6_fewestEmptyGaps
theorem dX7_mostOrnaments_0 : decode cX7_mostOrnaments 0 = .ok (.iload_n 1, 1) := by decide +kernel
theorem dX7_mostOrnaments_1 : decode cX7_mostOrnaments 1 = .ok (.invokestatic 109, 3) := by decide +kernel
theorem dX7_mostOrnaments_4 : decode cX7_mostOrnaments 4 = .ok (.aload_n 0, 1) := by decide +kernel
theorem dX7_mostOrnaments_5 : decode cX7_mostOrnaments 5 = .ok (.iload_n 1, 1) := by decide +kernel
theorem dX7_mostOrnaments_6 : decode cX7_mostOrnaments 6 = .ok (.invokevirtual 136, 3) := by decide +kernel
theorem dX7_mostOrnaments_9 : decode cX7_mostOrnaments 9 = .ok (.pop, 1) := by decide +kernel
theorem dX7_mostOrnaments_10 : decode cX7_mostOrnaments 10 = .ok (.aload_n 0, 1) := by decide +kernel
theorem dX7_mostOrnaments_11 : decode cX7_mostOrnaments 11 = .ok (.getfield 25, 3) := by decide +kernel
theorem dX7_mostOrnaments_14 : decode cX7_mostOrnaments 14 = .ok (.iload_n 1, 1) := by decide +kernel
theorem dX7_mostOrnaments_15 : decode cX7_mostOrnaments 15 = .ok (.aaload, 1) := by decide +kernel
theorem dX7_mostOrnaments_16 : decode cX7_mostOrnaments 16 = .ok (.invokevirtual 142, 3) := by decide +kernel
theorem dX7_mostOrnaments_19 : decode cX7_mostOrnaments 19 = .ok (.aload_n 0, 1) := by decide +kernel
theorem dX7_mostOrnaments_20 : decode cX7_mostOrnaments 20 = .ok (.getfield 33, 3) := by decide +kernel
theorem dX7_mostOrnaments_23 : decode cX7_mostOrnaments 23 = .ok (.aload_n 0, 1) := by decide +kernel
theorem dX7_mostOrnaments_24 : decode cX7_mostOrnaments 24 = .ok (.getfield 25, 3) := by decide +kernel
theorem dX7_mostOrnaments_27 : decode cX7_mostOrnaments 27 = .ok (.iload_n 1, 1) := by decide +kernel
theorem dX7_mostOrnaments_28 : decode cX7_mostOrnaments 28 = .ok (.aaload, 1) := by decide +kernel
theorem dX7_mostOrnaments_29 : decode cX7_mostOrnaments 29 = .ok (.invokevirtual 163, 3) := by decide +kernel
theorem dX7_mostOrnaments_32 : decode cX7_mostOrnaments 32 = .ok (.isub, 1) := by decide +kernel
theorem dX7_mostOrnaments_33 : decode cX7_mostOrnaments 33 = .ok (.ireturn, 1) := by decide +kernel
set_option maxRecDepth 20000 in
theorem ggX7_average_X7_checkTune : GoodIn wsX7_average wsX7_checkTune := goodIn_ca (goodIn_r _ [5, 6, 7] (by decide +kernel) (by decide +kernel)) (goodIn_sub (fun _ h => List.mem_cons_of_mem _ (List.mem_append_left _ (List.mem_append_right _ h))) (by decide +kernel))
set_option maxRecDepth 20000 in
theorem gX7_average_X7_checkTune : GoodIn wsX7_average (va_wsS RX7 109 yX7_checkTune wsX7_checkTune) := goodIn_app (goodIn_of _ (by decide +kernel)) ggX7_average_X7_checkTune
set_option maxRecDepth 20000 in
theorem ggX7_average_X7_solve : GoodIn wsX7_average wsX7_solve := goodIn_ca (goodIn_r _ [11, 12, 13, 1, 14, 15, 16, 17, 18, 19, 20, 21, 22, 23, 24, 25, 26, 27, 28, 29, 30, 31, 32, 33, 34, 35, 36, 37, 38, 39, 40, 41, 42, 43, 44, 45, 46, 47, 48, 49, 50, 51, 52, 53, 54, 55, 56, 57, 58, 59, 60, 61, 62, 63, 64, 65, 66, 67, 68, 69, 70, 71, 72, 73, 74, 75, 76, 77, 78, 79, 80, 81, 82, 83, 84, 85, 86, 87, 88, 89, 90, 91, 92, 93, 94, 95, 96, 97, 99, 100, 101, 102, 103, 104, 105, 106, 107, 108, 109, 110, 111, 112, 113, 114, 115, 116, 117, 118, 119] (by decide +kernel) (by decide +kernel)) (goodIn_sub (fun _ h => List.mem_cons_of_mem _ (List.mem_append_right _ h)) (by decide +kernel))
set_option maxRecDepth 20000 in
theorem gX7_average_X7_solve : GoodIn wsX7_average (wsV RX7 136 RX7 yX7_solve wsX7_solve) := goodIn_app (goodIn_of _ (by decide +kernel)) ggX7_average_X7_solve
set_option maxRecDepth 20000 in
theorem ggX7_average_X5_gaps : GoodIn wsX7_average wsX5_gaps := goodIn_r _ [69, 23, 104, 105, 106, 107, 108] (by decide +kernel) (by decide +kernel)
set_option maxRecDepth 20000 in
theorem gX7_average_X5_gaps : GoodIn wsX7_average (wsV RX7 142 RX5 yX5_gaps wsX5_gaps) := goodIn_app (goodIn_of _ (by decide +kernel)) ggX7_average_X5_gaps
theorem dX7_average_0 : decode cX7_average 0 = .ok (.iload_n 1, 1) := by decide +kernel
theorem dX7_average_1 : decode cX7_average 1 = .ok (.invokestatic 109, 3) := by decide +kernel
theorem dX7_average_4 : decode cX7_average 4 = .ok (.aload_n 0, 1) := by decide +kernel
theorem dX7_average_5 : decode cX7_average 5 = .ok (.iload_n 1, 1) := by decide +kernel
theorem dX7_average_6 : decode cX7_average 6 = .ok (.invokevirtual 136, 3) := by decide +kernel
theorem dX7_average_9 : decode cX7_average 9 = .ok (.istore_n 2, 1) := by decide +kernel
theorem dX7_average_10 : decode cX7_average 10 = .ok (.aload_n 0, 1) := by decide +kernel
theorem dX7_average_11 : decode cX7_average 11 = .ok (.getfield 25, 3) := by decide +kernel
theorem dX7_average_14 : decode cX7_average 14 = .ok (.iload_n 1, 1) := by decide +kernel
theorem dX7_average_15 : decode cX7_average 15 = .ok (.aaload, 1) := by decide +kernel
theorem dX7_average_16 : decode cX7_average 16 = .ok (.invokevirtual 142, 3) := by decide +kernel
theorem dX7_average_19 : decode cX7_average 19 = .ok (.istore_n 3, 1) := by decide +kernel
theorem dX7_average_20 : decode cX7_average 20 = .ok (.iload_n 3, 1) := by decide +kernel
theorem dX7_average_21 : decode cX7_average 21 = .ok (.ifCond .ne 7, 3) := by decide +kernel
theorem dX7_average_24 : decode cX7_average 24 = .ok (.fconst 0, 1) := by decide +kernel
theorem dX7_average_25 : decode cX7_average 25 = .ok (.goto 8, 3) := by decide +kernel
theorem dX7_average_28 : decode cX7_average 28 = .ok (.iload_n 2, 1) := by decide +kernel
theorem dX7_average_29 : decode cX7_average 29 = .ok (.i2f, 1) := by decide +kernel
theorem dX7_average_30 : decode cX7_average 30 = .ok (.iload_n 3, 1) := by decide +kernel
theorem dX7_average_31 : decode cX7_average 31 = .ok (.i2f, 1) := by decide +kernel
theorem dX7_average_32 : decode cX7_average 32 = .ok (.fdiv, 1) := by decide +kernel
theorem dX7_average_33 : decode cX7_average 33 = .ok (.freturn, 1) := by decide +kernel
set_option maxRecDepth 20000 in
theorem ggX7_leastSet_X7_trySets : GoodIn wsX7_leastSet wsX7_trySets := goodIn_r _ [8, 9, 10, 11, 3, 12, 13, 14, 15, 16, 17, 18, 19, 20, 21, 22, 23, 24, 25, 26, 27, 28, 29, 30, 31, 32, 33, 34, 35, 36, 37, 38, 39, 40, 41, 42, 43, 44, 45, 46, 47, 48, 49, 50, 51, 52, 53, 54, 55, 56, 57, 58, 59, 60, 61, 62, 63, 64, 65, 66, 67, 68, 69, 70, 71, 72, 73, 74, 75, 76, 77, 78, 79, 80, 81, 82, 83, 84, 85, 86, 87, 88, 89, 90, 91, 92, 93, 94, 95, 96, 97, 98, 99, 100, 101, 102, 103, 104, 105, 106, 107, 108, 109, 110, 111, 112, 113, 114, 115, 116, 117, 118, 119, 120, 121, 122, 123, 124, 125, 126, 127, 128, 129, 130, 131, 132, 133, 134, 135, 136, 137, 138, 143, 144, 145, 146, 147, 148, 149, 150, 151, 152, 153, 154, 155, 156, 157, 158, 159, 160, 161, 162, 163, 164, 165] (by decide +kernel) (by decide +kernel)
set_option maxRecDepth 20000 in
theorem gX7_leastSet_X7_trySets : GoodIn wsX7_leastSet (wsV RX7 166 RX7 yX7_trySets wsX7_trySets) := goodIn_app (goodIn_of _ (by decide +kernel)) ggX7_leastSet_X7_trySets
set_option maxRecDepth 20000 in
theorem ggX7_leastSet_X4_leastCost : GoodIn wsX7_leastSet wsX4_leastCost := goodIn_r _ [142, 78, 159, 160, 161, 162, 163, 164] (by decide +kernel) (by decide +kernel)
set_option maxRecDepth 20000 in
theorem gX7_leastSet_X4_leastCost : GoodIn wsX7_leastSet (wsV RX7 171 RX4 yX4_leastCost wsX4_leastCost) := goodIn_app (goodIn_of _ (by decide +kernel)) ggX7_leastSet_X4_leastCost
theorem dX7_leastSet_0 : decode cX7_leastSet 0 = .ok (.aload_n 0, 1) := by decide +kernel
theorem dX7_leastSet_1 : decode cX7_leastSet 1 = .ok (.invokevirtual 166, 3) := by decide +kernel
theorem dX7_leastSet_4 : decode cX7_leastSet 4 = .ok (.ifCond .ne 13, 3) := by decide +kernel
theorem dX7_leastSet_7 : decode cX7_leastSet 7 = .ok (.new 73, 3) := by decide +kernel
theorem dX7_leastSet_10 : decode cX7_leastSet 10 = .ok (.dup, 1) := by decide +kernel
theorem dX7_leastSet_11 : decode cX7_leastSet 11 = .ok (.ldc 169, 2) := by decide +kernel
theorem dX7_leastSet_13 : decode cX7_leastSet 13 = .ok (.invokespecial 77, 3) := by decide +kernel
theorem dX7_leastSet_16 : decode cX7_leastSet 16 = .ok (.athrow, 1) := by decide +kernel
theorem dX7_leastSet_17 : decode cX7_leastSet 17 = .ok (.aload_n 0, 1) := by decide +kernel
theorem dX7_leastSet_18 : decode cX7_leastSet 18 = .ok (.getfield 40, 3) := by decide +kernel
theorem dX7_leastSet_21 : decode cX7_leastSet 21 = .ok (.invokevirtual 171, 3) := by decide +kernel
theorem dX7_leastSet_24 : decode cX7_leastSet 24 = .ok (.ireturn, 1) := by decide +kernel
set_option maxRecDepth 20000 in
theorem ggX7_tuneAt_X7_trySets : GoodIn wsX7_tuneAt wsX7_trySets := goodIn_r _ [10, 11, 12, 13, 5, 14, 15, 16, 17, 18, 19, 20, 21, 22, 23, 24, 25, 26, 27, 28, 29, 30, 31, 32, 33, 34, 35, 36, 37, 38, 39, 40, 41, 42, 43, 44, 45, 46, 47, 48, 49, 50, 51, 52, 53, 54, 55, 56, 57, 58, 59, 60, 61, 62, 63, 64, 65, 66, 67, 68, 69, 70, 71, 72, 73, 74, 75, 76, 77, 78, 79, 80, 81, 82, 83, 84, 85, 86, 87, 88, 89, 90, 91, 92, 93, 94, 95, 96, 97, 98, 99, 100, 101, 102, 103, 104, 105, 106, 107, 108, 109, 110, 111, 112, 113, 114, 115, 116, 117, 118, 119, 120, 121, 122, 123, 124, 125, 126, 127, 128, 129, 130, 131, 132, 133, 134, 135, 136, 137, 138, 139, 140, 149, 150, 151, 152, 153, 154, 155, 156, 157, 158, 159, 160, 161, 162, 163, 164, 165, 166, 167, 168, 169, 170, 171] (by decide +kernel) (by decide +kernel)
set_option maxRecDepth 20000 in
theorem gX7_tuneAt_X7_trySets : GoodIn wsX7_tuneAt (wsV RX7 166 RX7 yX7_trySets wsX7_trySets) := goodIn_app (goodIn_of _ (by decide +kernel)) ggX7_tuneAt_X7_trySets
set_option maxRecDepth 20000 in
theorem ggX7_tuneAt_X4_size : GoodIn wsX7_tuneAt wsX4_size := goodIn_r _ [144, 85, 165, 166, 167, 168, 169, 170] (by decide +kernel) (by decide +kernel)
set_option maxRecDepth 20000 in
theorem gX7_tuneAt_X4_size : GoodIn wsX7_tuneAt (wsV RX7 174 RX4 yX4_size wsX4_size) := goodIn_app (goodIn_of _ (by decide +kernel)) ggX7_tuneAt_X4_size
set_option maxRecDepth 20000 in
theorem ggX7_tuneAt_X4_bestAt : GoodIn wsX7_tuneAt wsX4_bestAt := goodIn_r _ [148, 128, 165, 166, 167, 168, 169, 170] (by decide +kernel) (by decide +kernel)
set_option maxRecDepth 20000 in
theorem gX7_tuneAt_X4_bestAt : GoodIn wsX7_tuneAt (wsV RX7 177 RX4 yX4_bestAt wsX4_bestAt) := goodIn_app (goodIn_of _ (by decide +kernel)) ggX7_tuneAt_X4_bestAt
theorem dX7_tuneAt_0 : decode cX7_tuneAt 0 = .ok (.aload_n 0, 1) := by decide +kernel
theorem dX7_tuneAt_1 : decode cX7_tuneAt 1 = .ok (.invokevirtual 166, 3) := by decide +kernel
theorem dX7_tuneAt_4 : decode cX7_tuneAt 4 = .ok (.ifCond .ne 13, 3) := by decide +kernel
theorem dX7_tuneAt_7 : decode cX7_tuneAt 7 = .ok (.new 73, 3) := by decide +kernel
theorem dX7_tuneAt_10 : decode cX7_tuneAt 10 = .ok (.dup, 1) := by decide +kernel
theorem dX7_tuneAt_11 : decode cX7_tuneAt 11 = .ok (.ldc 169, 2) := by decide +kernel
theorem dX7_tuneAt_13 : decode cX7_tuneAt 13 = .ok (.invokespecial 77, 3) := by decide +kernel
theorem dX7_tuneAt_16 : decode cX7_tuneAt 16 = .ok (.athrow, 1) := by decide +kernel
theorem dX7_tuneAt_17 : decode cX7_tuneAt 17 = .ok (.iload_n 1, 1) := by decide +kernel
theorem dX7_tuneAt_18 : decode cX7_tuneAt 18 = .ok (.ifCond .lt 14, 3) := by decide +kernel
theorem dX7_tuneAt_21 : decode cX7_tuneAt 21 = .ok (.iload_n 1, 1) := by decide +kernel
theorem dX7_tuneAt_22 : decode cX7_tuneAt 22 = .ok (.aload_n 0, 1) := by decide +kernel
theorem dX7_tuneAt_23 : decode cX7_tuneAt 23 = .ok (.getfield 40, 3) := by decide +kernel
theorem dX7_tuneAt_26 : decode cX7_tuneAt 26 = .ok (.invokevirtual 174, 3) := by decide +kernel
theorem dX7_tuneAt_29 : decode cX7_tuneAt 29 = .ok (.if_icmp .lt 13, 3) := by decide +kernel
theorem dX7_tuneAt_32 : decode cX7_tuneAt 32 = .ok (.new 96, 3) := by decide +kernel
theorem dX7_tuneAt_35 : decode cX7_tuneAt 35 = .ok (.dup, 1) := by decide +kernel
theorem dX7_tuneAt_36 : decode cX7_tuneAt 36 = .ok (.ldc 175, 2) := by decide +kernel
theorem dX7_tuneAt_38 : decode cX7_tuneAt 38 = .ok (.invokespecial 100, 3) := by decide +kernel
theorem dX7_tuneAt_41 : decode cX7_tuneAt 41 = .ok (.athrow, 1) := by decide +kernel
theorem dX7_tuneAt_42 : decode cX7_tuneAt 42 = .ok (.aload_n 0, 1) := by decide +kernel
theorem dX7_tuneAt_43 : decode cX7_tuneAt 43 = .ok (.getfield 40, 3) := by decide +kernel
theorem dX7_tuneAt_46 : decode cX7_tuneAt 46 = .ok (.iload_n 1, 1) := by decide +kernel
theorem dX7_tuneAt_47 : decode cX7_tuneAt 47 = .ok (.invokevirtual 177, 3) := by decide +kernel
theorem dX7_tuneAt_50 : decode cX7_tuneAt 50 = .ok (.ireturn, 1) := by decide +kernel
set_option maxRecDepth 20000 in
theorem ggX7_sets_X7_trySets : GoodIn wsX7_sets wsX7_trySets := goodIn_r _ [5, 6, 7, 8, 9, 10, 11, 12, 13, 14, 15, 16, 17, 18, 19, 20, 21, 22, 23, 24, 25, 26, 27, 28, 29, 30, 31, 32, 33, 34, 35, 36, 37, 38, 39, 40, 41, 42, 43, 44, 45, 46, 47, 48, 49, 50, 51, 52, 53, 54, 55, 56, 57, 58, 59, 60, 61, 62, 63, 64, 65, 66, 67, 68, 69, 70, 71, 72, 73, 74, 75, 76, 77, 78, 79, 80, 81, 82, 83, 84, 85, 86, 87, 88, 89, 90, 91, 92, 93, 94, 95, 96, 97, 98, 99, 100, 101, 102, 103, 104, 105, 106, 107, 108, 109, 110, 111, 112, 113, 114, 115, 116, 117, 118, 119, 120, 121, 122, 123, 124, 125, 126, 127, 128, 129, 130, 131, 132, 133, 134, 135, 136, 137, 138, 139, 140, 141, 142, 143, 144, 145, 146, 147, 148, 149, 150, 151, 152, 153, 154, 155, 156, 157, 158, 159] (by decide +kernel) (by decide +kernel)
set_option maxRecDepth 20000 in
theorem gX7_sets_X7_trySets : GoodIn wsX7_sets (wsV RX7 166 RX7 yX7_trySets wsX7_trySets) := goodIn_app (goodIn_of _ (by decide +kernel)) ggX7_sets_X7_trySets
theorem dX7_sets_0 : decode cX7_sets 0 = .ok (.aload_n 0, 1) := by decide +kernel
theorem dX7_sets_1 : decode cX7_sets 1 = .ok (.invokevirtual 166, 3) := by decide +kernel
theorem dX7_sets_4 : decode cX7_sets 4 = .ok (.ireturn, 1) := by decide +kernel
theorem dX7_checkPitch_0 : decode cX7_checkPitch 0 = .ok (.iload_n 0, 1) := by decide +kernel
theorem dX7_checkPitch_1 : decode cX7_checkPitch 1 = .ok (.ifCond .lt 9, 3) := by decide +kernel
theorem dX7_checkPitch_4 : decode cX7_checkPitch 4 = .ok (.iload_n 0, 1) := by decide +kernel
theorem dX7_checkPitch_5 : decode cX7_checkPitch 5 = .ok (.bipush 9, 2) := by decide +kernel
theorem dX7_checkPitch_7 : decode cX7_checkPitch 7 = .ok (.if_icmp .lt 13, 3) := by decide +kernel
theorem dX7_checkPitch_10 : decode cX7_checkPitch 10 = .ok (.new 56, 3) := by decide +kernel
theorem dX7_checkPitch_13 : decode cX7_checkPitch 13 = .ok (.dup, 1) := by decide +kernel
theorem dX7_checkPitch_14 : decode cX7_checkPitch 14 = .ok (.ldc 180, 2) := by decide +kernel
theorem dX7_checkPitch_16 : decode cX7_checkPitch 16 = .ok (.invokespecial 60, 3) := by decide +kernel
theorem dX7_checkPitch_19 : decode cX7_checkPitch 19 = .ok (.athrow, 1) := by decide +kernel
theorem dX7_checkPitch_20 : decode cX7_checkPitch 20 = .ok (.return_, 1) := by decide +kernel
theorem dX7_checkLength_0 : decode cX7_checkLength 0 = .ok (.iload_n 0, 1) := by decide +kernel
theorem dX7_checkLength_1 : decode cX7_checkLength 1 = .ok (.iconst 1, 1) := by decide +kernel
theorem dX7_checkLength_2 : decode cX7_checkLength 2 = .ok (.if_icmp .lt 9, 3) := by decide +kernel
theorem dX7_checkLength_5 : decode cX7_checkLength 5 = .ok (.iload_n 0, 1) := by decide +kernel
theorem dX7_checkLength_6 : decode cX7_checkLength 6 = .ok (.bipush 32, 2) := by decide +kernel
theorem dX7_checkLength_8 : decode cX7_checkLength 8 = .ok (.if_icmp .le 13, 3) := by decide +kernel
theorem dX7_checkLength_11 : decode cX7_checkLength 11 = .ok (.new 56, 3) := by decide +kernel
theorem dX7_checkLength_14 : decode cX7_checkLength 14 = .ok (.dup, 1) := by decide +kernel
theorem dX7_checkLength_15 : decode cX7_checkLength 15 = .ok (.ldc 182, 2) := by decide +kernel
theorem dX7_checkLength_17 : decode cX7_checkLength 17 = .ok (.invokespecial 60, 3) := by decide +kernel
theorem dX7_checkLength_20 : decode cX7_checkLength 20 = .ok (.athrow, 1) := by decide +kernel
theorem dX7_checkLength_21 : decode cX7_checkLength 21 = .ok (.return_, 1) := by decide +kernel
theorem dX7_checkTune_0 : decode cX7_checkTune 0 = .ok (.iload_n 0, 1) := by decide +kernel
theorem dX7_checkTune_1 : decode cX7_checkTune 1 = .ok (.ifCond .lt 8, 3) := by decide +kernel
theorem dX7_checkTune_4 : decode cX7_checkTune 4 = .ok (.iload_n 0, 1) := by decide +kernel
theorem dX7_checkTune_5 : decode cX7_checkTune 5 = .ok (.iconst 4, 1) := by decide +kernel
theorem dX7_checkTune_6 : decode cX7_checkTune 6 = .ok (.if_icmp .lt 13, 3) := by decide +kernel
theorem dX7_checkTune_9 : decode cX7_checkTune 9 = .ok (.new 56, 3) := by decide +kernel
theorem dX7_checkTune_12 : decode cX7_checkTune 12 = .ok (.dup, 1) := by decide +kernel
theorem dX7_checkTune_13 : decode cX7_checkTune 13 = .ok (.ldc 184, 2) := by decide +kernel
theorem dX7_checkTune_15 : decode cX7_checkTune 15 = .ok (.invokespecial 60, 3) := by decide +kernel
theorem dX7_checkTune_18 : decode cX7_checkTune 18 = .ok (.athrow, 1) := by decide +kernel
theorem dX7_checkTune_19 : decode cX7_checkTune 19 = .ok (.return_, 1) := by decide +kernel
set_option maxRecDepth 20000 in
theorem ggX7_checkGap_X5_gaps : GoodIn wsX7_checkGap wsX5_gaps := goodIn_r _ [8, 9, 15, 16, 17, 18, 19] (by decide +kernel) (by decide +kernel)
set_option maxRecDepth 20000 in
theorem gX7_checkGap_X5_gaps : GoodIn wsX7_checkGap (wsV RX7 142 RX5 yX5_gaps wsX5_gaps) := goodIn_app (goodIn_of _ (by decide +kernel)) ggX7_checkGap_X5_gaps
theorem dX7_checkGap_0 : decode cX7_checkGap 0 = .ok (.iload_n 2, 1) := by decide +kernel
theorem dX7_checkGap_1 : decode cX7_checkGap 1 = .ok (.ifCond .lt 16, 3) := by decide +kernel
theorem dX7_checkGap_4 : decode cX7_checkGap 4 = .ok (.iload_n 2, 1) := by decide +kernel
theorem dX7_checkGap_5 : decode cX7_checkGap 5 = .ok (.aload_n 0, 1) := by decide +kernel
theorem dX7_checkGap_6 : decode cX7_checkGap 6 = .ok (.getfield 25, 3) := by decide +kernel
theorem dX7_checkGap_9 : decode cX7_checkGap 9 = .ok (.iload_n 1, 1) := by decide +kernel
theorem dX7_checkGap_10 : decode cX7_checkGap 10 = .ok (.aaload, 1) := by decide +kernel
theorem dX7_checkGap_11 : decode cX7_checkGap 11 = .ok (.invokevirtual 142, 3) := by decide +kernel
theorem dX7_checkGap_14 : decode cX7_checkGap 14 = .ok (.if_icmp .lt 13, 3) := by decide +kernel
theorem dX7_checkGap_17 : decode cX7_checkGap 17 = .ok (.new 96, 3) := by decide +kernel
theorem dX7_checkGap_20 : decode cX7_checkGap 20 = .ok (.dup, 1) := by decide +kernel
theorem dX7_checkGap_21 : decode cX7_checkGap 21 = .ok (.ldc 186, 2) := by decide +kernel
theorem dX7_checkGap_23 : decode cX7_checkGap 23 = .ok (.invokespecial 100, 3) := by decide +kernel
theorem dX7_checkGap_26 : decode cX7_checkGap 26 = .ok (.athrow, 1) := by decide +kernel
theorem dX7_checkGap_27 : decode cX7_checkGap 27 = .ok (.return_, 1) := by decide +kernel
set_option maxRecDepth 20000 in
theorem ggX7_solve_X5_weighGaps : GoodIn wsX7_solve wsX5_weighGaps := goodIn_r _ [12, 13, 14, 15, 16, 17, 18, 19, 20, 21, 22, 23, 24, 25, 26, 27, 28, 29, 30, 31, 32, 33, 34, 35, 36, 37, 38, 39, 40, 41, 42, 43, 44, 45, 46, 47, 48, 49, 93, 94, 95, 96, 97, 98, 99, 100, 101, 102, 103] (by decide +kernel) (by decide +kernel)
set_option maxRecDepth 20000 in
theorem gX7_solve_X5_weighGaps : GoodIn wsX7_solve (wsV RX7 151 RX5 yX5_weighGaps wsX5_weighGaps) := goodIn_app (goodIn_of _ (by decide +kernel)) ggX7_solve_X5_weighGaps
set_option maxRecDepth 20000 in
theorem ggX7_solve_X6_solveFor : GoodIn wsX7_solve wsX6_solveFor := goodIn_r _ [54, 55, 56, 57, 58, 11, 59, 13, 60, 61, 62, 63, 64, 65, 66, 67, 68, 69, 70, 71, 72, 73, 74, 17, 75, 76, 77, 78, 79, 43, 44, 45, 80, 81, 82, 83, 84, 85, 86, 87, 104, 105, 106, 107, 93, 94, 95, 96, 97, 108] (by decide +kernel) (by decide +kernel)
set_option maxRecDepth 20000 in
theorem gX7_solve_X6_solveFor : GoodIn wsX7_solve (wsV RX7 188 RX6 yX6_solveFor wsX6_solveFor) := goodIn_app (goodIn_of _ (by decide +kernel)) ggX7_solve_X6_solveFor
theorem dX7_solve_0 : decode cX7_solve 0 = .ok (.aload_n 0, 1) := by decide +kernel
theorem dX7_solve_1 : decode cX7_solve 1 = .ok (.getfield 25, 3) := by decide +kernel
theorem dX7_solve_4 : decode cX7_solve 4 = .ok (.iload_n 1, 1) := by decide +kernel
theorem dX7_solve_5 : decode cX7_solve 5 = .ok (.aaload, 1) := by decide +kernel
theorem dX7_solve_6 : decode cX7_solve 6 = .ok (.aload_n 0, 1) := by decide +kernel
theorem dX7_solve_7 : decode cX7_solve 7 = .ok (.getfield 12, 3) := by decide +kernel
theorem dX7_solve_10 : decode cX7_solve 10 = .ok (.aload_n 0, 1) := by decide +kernel
theorem dX7_solve_11 : decode cX7_solve 11 = .ok (.getfield 19, 3) := by decide +kernel
theorem dX7_solve_14 : decode cX7_solve 14 = .ok (.invokevirtual 151, 3) := by decide +kernel
theorem dX7_solve_17 : decode cX7_solve 17 = .ok (.aload_n 0, 1) := by decide +kernel
theorem dX7_solve_18 : decode cX7_solve 18 = .ok (.getfield 33, 3) := by decide +kernel
theorem dX7_solve_21 : decode cX7_solve 21 = .ok (.aload_n 0, 1) := by decide +kernel
theorem dX7_solve_22 : decode cX7_solve 22 = .ok (.getfield 25, 3) := by decide +kernel
theorem dX7_solve_25 : decode cX7_solve 25 = .ok (.iload_n 1, 1) := by decide +kernel
theorem dX7_solve_26 : decode cX7_solve 26 = .ok (.aaload, 1) := by decide +kernel
theorem dX7_solve_27 : decode cX7_solve 27 = .ok (.invokevirtual 188, 3) := by decide +kernel
theorem dX7_solve_30 : decode cX7_solve 30 = .ok (.istore_n 2, 1) := by decide +kernel
theorem dX7_solve_31 : decode cX7_solve 31 = .ok (.iload_n 2, 1) := by decide +kernel
theorem dX7_solve_32 : decode cX7_solve 32 = .ok (.ldc 108, 2) := by decide +kernel
theorem dX7_solve_34 : decode cX7_solve 34 = .ok (.if_icmp .lt 13, 3) := by decide +kernel
theorem dX7_solve_37 : decode cX7_solve 37 = .ok (.new 73, 3) := by decide +kernel
theorem dX7_solve_40 : decode cX7_solve 40 = .ok (.dup, 1) := by decide +kernel
theorem dX7_solve_41 : decode cX7_solve 41 = .ok (.ldc 191, 2) := by decide +kernel
theorem dX7_solve_43 : decode cX7_solve 43 = .ok (.invokespecial 77, 3) := by decide +kernel
theorem dX7_solve_46 : decode cX7_solve 46 = .ok (.athrow, 1) := by decide +kernel
theorem dX7_solve_47 : decode cX7_solve 47 = .ok (.iload_n 2, 1) := by decide +kernel
theorem dX7_solve_48 : decode cX7_solve 48 = .ok (.ireturn, 1) := by decide +kernel
set_option maxRecDepth 20000 in
theorem ggX7_trySets_X5_weighGaps : GoodIn wsX7_trySets wsX5_weighGaps := goodIn_r _ [9, 10, 11, 12, 13, 14, 15, 16, 17, 18, 19, 20, 21, 22, 23, 24, 25, 26, 27, 28, 29, 30, 31, 32, 33, 34, 35, 36, 37, 38, 39, 40, 41, 42, 43, 44, 45, 46, 137, 138, 139, 140, 141, 142, 143, 144, 145, 146, 147] (by decide +kernel) (by decide +kernel)
set_option maxRecDepth 20000 in
theorem gX7_trySets_X5_weighGaps : GoodIn wsX7_trySets (wsV RX7 151 RX5 yX5_weighGaps wsX5_weighGaps) := goodIn_app (goodIn_of _ (by decide +kernel)) ggX7_trySets_X5_weighGaps
set_option maxRecDepth 20000 in
theorem ggX7_trySets_X4_weighJoins : GoodIn wsX7_trySets wsX4_weighJoins := goodIn_r _ [51, 52, 53, 54, 55, 8, 56, 10, 57, 58, 59, 60, 11, 61, 62, 63, 64, 12, 65, 16, 17, 18, 19, 20, 21, 22, 23, 24, 25, 26, 27, 28, 29, 30, 31, 32, 33, 34, 35, 36, 37, 38, 39, 40, 41, 42, 43, 44, 45, 46, 148, 149, 150, 151, 152, 153, 137, 138, 139, 140, 141, 142, 143, 144, 145, 146, 147] (by decide +kernel) (by decide +kernel)
set_option maxRecDepth 20000 in
theorem gX7_trySets_X4_weighJoins : GoodIn wsX7_trySets (wsV RX7 193 RX4 yX4_weighJoins wsX4_weighJoins) := goodIn_app (goodIn_of _ (by decide +kernel)) ggX7_trySets_X4_weighJoins
set_option maxRecDepth 20000 in
theorem ggX7_trySets_X4_tryAllOrders : GoodIn wsX7_trySets wsX4_tryAllOrders := goodIn_r _ [69, 70, 71, 72, 73, 74, 50, 75, 76, 77, 53, 54, 55, 8, 56, 10, 78, 79, 80, 81, 82, 52, 83, 84, 85, 86, 87, 88, 89, 90, 91, 92, 93, 94, 95, 96, 97, 98, 40, 41, 42, 99, 100, 101, 102, 103, 104, 105, 106, 107, 108, 109, 110, 14, 111, 112, 113, 114, 115, 116, 117, 118, 119, 120, 121, 122, 123, 124, 125, 126, 127, 128, 129, 130, 131, 148, 149, 150, 151, 152, 153, 137, 138, 139, 140, 141, 154] (by decide +kernel) (by decide +kernel)
set_option maxRecDepth 20000 in
theorem gX7_trySets_X4_tryAllOrders : GoodIn wsX7_trySets (wsV RX7 197 RX4 yX4_tryAllOrders wsX4_tryAllOrders) := goodIn_app (goodIn_of _ (by decide +kernel)) ggX7_trySets_X4_tryAllOrders
theorem dX7_trySets_0 : decode cX7_trySets 0 = .ok (.iconst 0, 1) := by decide +kernel
theorem dX7_trySets_1 : decode cX7_trySets 1 = .ok (.istore_n 1, 1) := by decide +kernel
theorem dX7_trySets_2 : decode cX7_trySets 2 = .ok (.iload_n 1, 1) := by decide +kernel
theorem dX7_trySets_3 : decode cX7_trySets 3 = .ok (.iconst 4, 1) := by decide +kernel
theorem dX7_trySets_4 : decode cX7_trySets 4 = .ok (.if_icmp .ge 26, 3) := by decide +kernel
theorem dX7_trySets_7 : decode cX7_trySets 7 = .ok (.aload_n 0, 1) := by decide +kernel
theorem dX7_trySets_8 : decode cX7_trySets 8 = .ok (.getfield 25, 3) := by decide +kernel
theorem dX7_trySets_11 : decode cX7_trySets 11 = .ok (.iload_n 1, 1) := by decide +kernel
theorem dX7_trySets_12 : decode cX7_trySets 12 = .ok (.aaload, 1) := by decide +kernel
theorem dX7_trySets_13 : decode cX7_trySets 13 = .ok (.aload_n 0, 1) := by decide +kernel
theorem dX7_trySets_14 : decode cX7_trySets 14 = .ok (.getfield 12, 3) := by decide +kernel
theorem dX7_trySets_17 : decode cX7_trySets 17 = .ok (.aload_n 0, 1) := by decide +kernel
theorem dX7_trySets_18 : decode cX7_trySets 18 = .ok (.getfield 19, 3) := by decide +kernel
theorem dX7_trySets_21 : decode cX7_trySets 21 = .ok (.invokevirtual 151, 3) := by decide +kernel
theorem dX7_trySets_24 : decode cX7_trySets 24 = .ok (.iinc 1 1, 3) := by decide +kernel
theorem dX7_trySets_27 : decode cX7_trySets 27 = .ok (.goto (-25), 3) := by decide +kernel
theorem dX7_trySets_30 : decode cX7_trySets 30 = .ok (.aload_n 0, 1) := by decide +kernel
theorem dX7_trySets_31 : decode cX7_trySets 31 = .ok (.getfield 40, 3) := by decide +kernel
theorem dX7_trySets_34 : decode cX7_trySets 34 = .ok (.aload_n 0, 1) := by decide +kernel
theorem dX7_trySets_35 : decode cX7_trySets 35 = .ok (.getfield 25, 3) := by decide +kernel
theorem dX7_trySets_38 : decode cX7_trySets 38 = .ok (.aload_n 0, 1) := by decide +kernel
theorem dX7_trySets_39 : decode cX7_trySets 39 = .ok (.getfield 12, 3) := by decide +kernel
theorem dX7_trySets_42 : decode cX7_trySets 42 = .ok (.aload_n 0, 1) := by decide +kernel
theorem dX7_trySets_43 : decode cX7_trySets 43 = .ok (.getfield 19, 3) := by decide +kernel
theorem dX7_trySets_46 : decode cX7_trySets 46 = .ok (.invokevirtual 193, 3) := by decide +kernel
theorem dX7_trySets_49 : decode cX7_trySets 49 = .ok (.aload_n 0, 1) := by decide +kernel
theorem dX7_trySets_50 : decode cX7_trySets 50 = .ok (.getfield 40, 3) := by decide +kernel
theorem dX7_trySets_53 : decode cX7_trySets 53 = .ok (.aload_n 0, 1) := by decide +kernel
theorem dX7_trySets_54 : decode cX7_trySets 54 = .ok (.getfield 25, 3) := by decide +kernel
theorem dX7_trySets_57 : decode cX7_trySets 57 = .ok (.invokevirtual 197, 3) := by decide +kernel
theorem dX7_trySets_60 : decode cX7_trySets 60 = .ok (.ireturn, 1) := by decide +kernel
theorem dX8_init_0 : decode cX8_init 0 = .ok (.aload_n 0, 1) := by decide +kernel
theorem dX8_init_1 : decode cX8_init 1 = .ok (.invokespecial 1, 3) := by decide +kernel
theorem dX8_init_4 : decode cX8_init 4 = .ok (.aload_n 0, 1) := by decide +kernel
theorem dX8_init_5 : decode cX8_init 5 = .ok (.bipush 9, 2) := by decide +kernel
theorem dX8_init_7 : decode cX8_init 7 = .ok (.newarray .int, 2) := by decide +kernel
theorem dX8_init_9 : decode cX8_init 9 = .ok (.dup, 1) := by decide +kernel
theorem dX8_init_10 : decode cX8_init 10 = .ok (.iconst 0, 1) := by decide +kernel
theorem dX8_init_11 : decode cX8_init 11 = .ok (.sipush 255, 3) := by decide +kernel
theorem dX8_init_14 : decode cX8_init 14 = .ok (.iastore, 1) := by decide +kernel
theorem dX8_init_15 : decode cX8_init 15 = .ok (.dup, 1) := by decide +kernel
theorem dX8_init_16 : decode cX8_init 16 = .ok (.iconst 1, 1) := by decide +kernel
theorem dX8_init_17 : decode cX8_init 17 = .ok (.bipush 127, 2) := by decide +kernel
theorem dX8_init_19 : decode cX8_init 19 = .ok (.iastore, 1) := by decide +kernel
theorem dX8_init_20 : decode cX8_init 20 = .ok (.dup, 1) := by decide +kernel
theorem dX8_init_21 : decode cX8_init 21 = .ok (.iconst 2, 1) := by decide +kernel
theorem dX8_init_22 : decode cX8_init 22 = .ok (.bipush 63, 2) := by decide +kernel
theorem dX8_init_24 : decode cX8_init 24 = .ok (.iastore, 1) := by decide +kernel
theorem dX8_init_25 : decode cX8_init 25 = .ok (.dup, 1) := by decide +kernel
theorem dX8_init_26 : decode cX8_init 26 = .ok (.iconst 3, 1) := by decide +kernel
theorem dX8_init_27 : decode cX8_init 27 = .ok (.sipush 159, 3) := by decide +kernel
theorem dX8_init_30 : decode cX8_init 30 = .ok (.iastore, 1) := by decide +kernel
theorem dX8_init_31 : decode cX8_init 31 = .ok (.dup, 1) := by decide +kernel
theorem dX8_init_32 : decode cX8_init 32 = .ok (.iconst 4, 1) := by decide +kernel
theorem dX8_init_33 : decode cX8_init 33 = .ok (.sipush 143, 3) := by decide +kernel
theorem dX8_init_36 : decode cX8_init 36 = .ok (.iastore, 1) := by decide +kernel
theorem dX8_init_37 : decode cX8_init 37 = .ok (.dup, 1) := by decide +kernel
theorem dX8_init_38 : decode cX8_init 38 = .ok (.iconst 5, 1) := by decide +kernel
theorem dX8_init_39 : decode cX8_init 39 = .ok (.bipush 119, 2) := by decide +kernel
theorem dX8_init_41 : decode cX8_init 41 = .ok (.iastore, 1) := by decide +kernel
theorem dX8_init_42 : decode cX8_init 42 = .ok (.dup, 1) := by decide +kernel
theorem dX8_init_43 : decode cX8_init 43 = .ok (.bipush 6, 2) := by decide +kernel
theorem dX8_init_45 : decode cX8_init 45 = .ok (.bipush 115, 2) := by decide +kernel
theorem dX8_init_47 : decode cX8_init 47 = .ok (.iastore, 1) := by decide +kernel
theorem dX8_init_48 : decode cX8_init 48 = .ok (.dup, 1) := by decide +kernel
theorem dX8_init_49 : decode cX8_init 49 = .ok (.bipush 7, 2) := by decide +kernel
theorem dX8_init_51 : decode cX8_init 51 = .ok (.bipush 113, 2) := by decide +kernel
theorem dX8_init_53 : decode cX8_init 53 = .ok (.iastore, 1) := by decide +kernel
theorem dX8_init_54 : decode cX8_init 54 = .ok (.dup, 1) := by decide +kernel
theorem dX8_init_55 : decode cX8_init 55 = .ok (.bipush 8, 2) := by decide +kernel
theorem dX8_init_57 : decode cX8_init 57 = .ok (.bipush 114, 2) := by decide +kernel
theorem dX8_init_59 : decode cX8_init 59 = .ok (.iastore, 1) := by decide +kernel
theorem dX8_init_60 : decode cX8_init 60 = .ok (.putfield 7, 3) := by decide +kernel
theorem dX8_init_63 : decode cX8_init 63 = .ok (.aload_n 0, 1) := by decide +kernel
theorem dX8_init_64 : decode cX8_init 64 = .ok (.iconst 3, 1) := by decide +kernel
theorem dX8_init_65 : decode cX8_init 65 = .ok (.putfield 13, 3) := by decide +kernel
theorem dX8_init_68 : decode cX8_init 68 = .ok (.aload_n 0, 1) := by decide +kernel
theorem dX8_init_69 : decode cX8_init 69 = .ok (.bipush 32, 2) := by decide +kernel
theorem dX8_init_71 : decode cX8_init 71 = .ok (.newarray .int, 2) := by decide +kernel
theorem dX8_init_73 : decode cX8_init 73 = .ok (.putfield 17, 3) := by decide +kernel
theorem dX8_init_76 : decode cX8_init 76 = .ok (.aload_n 0, 1) := by decide +kernel
theorem dX8_init_77 : decode cX8_init 77 = .ok (.bipush 8, 2) := by decide +kernel
theorem dX8_init_79 : decode cX8_init 79 = .ok (.newarray .int, 2) := by decide +kernel
theorem dX8_init_81 : decode cX8_init 81 = .ok (.putfield 20, 3) := by decide +kernel
theorem dX8_init_84 : decode cX8_init 84 = .ok (.aload_n 0, 1) := by decide +kernel
theorem dX8_init_85 : decode cX8_init 85 = .ok (.iconst 4, 1) := by decide +kernel
theorem dX8_init_86 : decode cX8_init 86 = .ok (.newarray .int, 2) := by decide +kernel
theorem dX8_init_88 : decode cX8_init 88 = .ok (.putfield 23, 3) := by decide +kernel
theorem dX8_init_91 : decode cX8_init 91 = .ok (.aload_n 0, 1) := by decide +kernel
theorem dX8_init_92 : decode cX8_init 92 = .ok (.bipush 40, 2) := by decide +kernel
theorem dX8_init_94 : decode cX8_init 94 = .ok (.newarray .int, 2) := by decide +kernel
theorem dX8_init_96 : decode cX8_init 96 = .ok (.putfield 26, 3) := by decide +kernel
theorem dX8_init_99 : decode cX8_init 99 = .ok (.aload_n 0, 1) := by decide +kernel
theorem dX8_init_100 : decode cX8_init 100 = .ok (.bipush 40, 2) := by decide +kernel
theorem dX8_init_102 : decode cX8_init 102 = .ok (.newarray .int, 2) := by decide +kernel
theorem dX8_init_104 : decode cX8_init 104 = .ok (.putfield 29, 3) := by decide +kernel
theorem dX8_init_107 : decode cX8_init 107 = .ok (.aload_n 0, 1) := by decide +kernel
theorem dX8_init_108 : decode cX8_init 108 = .ok (.bipush 40, 2) := by decide +kernel
theorem dX8_init_110 : decode cX8_init 110 = .ok (.newarray .boolean, 2) := by decide +kernel
theorem dX8_init_112 : decode cX8_init 112 = .ok (.putfield 32, 3) := by decide +kernel
theorem dX8_init_115 : decode cX8_init 115 = .ok (.aload_n 0, 1) := by decide +kernel
theorem dX8_init_116 : decode cX8_init 116 = .ok (.iconst 4, 1) := by decide +kernel
theorem dX8_init_117 : decode cX8_init 117 = .ok (.newarray .int, 2) := by decide +kernel
theorem dX8_init_119 : decode cX8_init 119 = .ok (.putfield 36, 3) := by decide +kernel
theorem dX8_init_122 : decode cX8_init 122 = .ok (.aload_n 0, 1) := by decide +kernel
theorem dX8_init_123 : decode cX8_init 123 = .ok (.bipush 40, 2) := by decide +kernel
theorem dX8_init_125 : decode cX8_init 125 = .ok (.newarray .int, 2) := by decide +kernel
theorem dX8_init_127 : decode cX8_init 127 = .ok (.putfield 39, 3) := by decide +kernel
theorem dX8_init_130 : decode cX8_init 130 = .ok (.aload_n 0, 1) := by decide +kernel
theorem dX8_init_131 : decode cX8_init 131 = .ok (.bipush 40, 2) := by decide +kernel
theorem dX8_init_133 : decode cX8_init 133 = .ok (.newarray .int, 2) := by decide +kernel
theorem dX8_init_135 : decode cX8_init 135 = .ok (.putfield 42, 3) := by decide +kernel
theorem dX8_init_138 : decode cX8_init 138 = .ok (.aload_n 0, 1) := by decide +kernel
theorem dX8_init_139 : decode cX8_init 139 = .ok (.bipush 40, 2) := by decide +kernel
theorem dX8_init_141 : decode cX8_init 141 = .ok (.newarray .boolean, 2) := by decide +kernel
theorem dX8_init_143 : decode cX8_init 143 = .ok (.putfield 45, 3) := by decide +kernel
theorem dX8_init_146 : decode cX8_init 146 = .ok (.aload_n 0, 1) := by decide +kernel
theorem dX8_init_147 : decode cX8_init 147 = .ok (.sipush 369, 3) := by decide +kernel
theorem dX8_init_150 : decode cX8_init 150 = .ok (.newarray .int, 2) := by decide +kernel
theorem dX8_init_152 : decode cX8_init 152 = .ok (.putfield 48, 3) := by decide +kernel
theorem dX8_init_155 : decode cX8_init 155 = .ok (.aload_n 0, 1) := by decide +kernel
theorem dX8_init_156 : decode cX8_init 156 = .ok (.sipush 369, 3) := by decide +kernel
theorem dX8_init_159 : decode cX8_init 159 = .ok (.newarray .int, 2) := by decide +kernel
theorem dX8_init_161 : decode cX8_init 161 = .ok (.putfield 51, 3) := by decide +kernel
theorem dX8_init_164 : decode cX8_init 164 = .ok (.aload_n 0, 1) := by decide +kernel
theorem dX8_init_165 : decode cX8_init 165 = .ok (.sipush 369, 3) := by decide +kernel
theorem dX8_init_168 : decode cX8_init 168 = .ok (.newarray .int, 2) := by decide +kernel
theorem dX8_init_170 : decode cX8_init 170 = .ok (.putfield 54, 3) := by decide +kernel
theorem dX8_init_173 : decode cX8_init 173 = .ok (.aload_n 0, 1) := by decide +kernel
theorem dX8_init_174 : decode cX8_init 174 = .ok (.iconst 4, 1) := by decide +kernel
theorem dX8_init_175 : decode cX8_init 175 = .ok (.newarray .int, 2) := by decide +kernel
theorem dX8_init_177 : decode cX8_init 177 = .ok (.putfield 57, 3) := by decide +kernel
theorem dX8_init_180 : decode cX8_init 180 = .ok (.aload_n 0, 1) := by decide +kernel
theorem dX8_init_181 : decode cX8_init 181 = .ok (.iconst 4, 1) := by decide +kernel
theorem dX8_init_182 : decode cX8_init 182 = .ok (.newarray .int, 2) := by decide +kernel
theorem dX8_init_184 : decode cX8_init 184 = .ok (.putfield 60, 3) := by decide +kernel
theorem dX8_init_187 : decode cX8_init 187 = .ok (.return_, 1) := by decide +kernel
theorem dX8_thrown_0 : decode cX8_thrown 0 = .ok (.aload_n 0, 1) := by decide +kernel
theorem dX8_thrown_1 : decode cX8_thrown 1 = .ok (.getfield 63, 3) := by decide +kernel
theorem dX8_thrown_4 : decode cX8_thrown 4 = .ok (.ireturn, 1) := by decide +kernel
theorem dX8_goesWell_0 : decode cX8_goesWell 0 = .ok (.aload_n 0, 1) := by decide +kernel
theorem dX8_goesWell_1 : decode cX8_goesWell 1 = .ok (.iload_n 1, 1) := by decide +kernel
theorem dX8_goesWell_2 : decode cX8_goesWell 2 = .ok (.putfield 63, 3) := by decide +kernel
theorem dX8_goesWell_5 : decode cX8_goesWell 5 = .ok (.iload_n 1, 1) := by decide +kernel
theorem dX8_goesWell_6 : decode cX8_goesWell 6 = .ok (.ifCond .ne 7, 3) := by decide +kernel
theorem dX8_goesWell_9 : decode cX8_goesWell 9 = .ok (.iconst 1, 1) := by decide +kernel
theorem dX8_goesWell_10 : decode cX8_goesWell 10 = .ok (.goto 4, 3) := by decide +kernel
theorem dX8_goesWell_13 : decode cX8_goesWell 13 = .ok (.iconst 0, 1) := by decide +kernel
theorem dX8_goesWell_14 : decode cX8_goesWell 14 = .ok (.ireturn, 1) := by decide +kernel
theorem dX8_in_0 : decode cX8_in 0 = .ok (.iload_n 0, 1) := by decide +kernel
theorem dX8_in_1 : decode cX8_in 1 = .ok (.iload_n 1, 1) := by decide +kernel
theorem dX8_in_2 : decode cX8_in 2 = .ok (.if_icmp .lt 12, 3) := by decide +kernel
theorem dX8_in_5 : decode cX8_in 5 = .ok (.iload_n 0, 1) := by decide +kernel
theorem dX8_in_6 : decode cX8_in 6 = .ok (.iload_n 2, 1) := by decide +kernel
theorem dX8_in_7 : decode cX8_in 7 = .ok (.if_icmp .gt 7, 3) := by decide +kernel
theorem dX8_in_10 : decode cX8_in 10 = .ok (.iconst 1, 1) := by decide +kernel
theorem dX8_in_11 : decode cX8_in 11 = .ok (.goto 4, 3) := by decide +kernel
theorem dX8_in_14 : decode cX8_in 14 = .ok (.iconst 0, 1) := by decide +kernel
theorem dX8_in_15 : decode cX8_in 15 = .ok (.ireturn, 1) := by decide +kernel
set_option maxRecDepth 20000 in
theorem ggX8_isPitch_X8_in : GoodIn wsX8_isPitch wsX8_in := goodIn_r _ [4] (by decide +kernel) (by decide +kernel)
set_option maxRecDepth 20000 in
theorem gX8_isPitch_X8_in : GoodIn wsX8_isPitch (va_wsS RX8 66 yX8_in wsX8_in) := goodIn_app (goodIn_of _ (by decide +kernel)) ggX8_isPitch_X8_in
theorem dX8_isPitch_0 : decode cX8_isPitch 0 = .ok (.iload_n 0, 1) := by decide +kernel
theorem dX8_isPitch_1 : decode cX8_isPitch 1 = .ok (.iconst 0, 1) := by decide +kernel
theorem dX8_isPitch_2 : decode cX8_isPitch 2 = .ok (.bipush 8, 2) := by decide +kernel
theorem dX8_isPitch_4 : decode cX8_isPitch 4 = .ok (.invokestatic 66, 3) := by decide +kernel
theorem dX8_isPitch_7 : decode cX8_isPitch 7 = .ok (.ireturn, 1) := by decide +kernel
theorem dX8_costOf_0 : decode cX8_costOf 0 = .ok (.iconst 0, 1) := by decide +kernel
theorem dX8_costOf_1 : decode cX8_costOf 1 = .ok (.istore_n 3, 1) := by decide +kernel
theorem dX8_costOf_2 : decode cX8_costOf 2 = .ok (.iconst 0, 1) := by decide +kernel
theorem dX8_costOf_3 : decode cX8_costOf 3 = .ok (.istore 4, 2) := by decide +kernel
theorem dX8_costOf_5 : decode cX8_costOf 5 = .ok (.iload 4, 2) := by decide +kernel
theorem dX8_costOf_7 : decode cX8_costOf 7 = .ok (.bipush 8, 2) := by decide +kernel
theorem dX8_costOf_9 : decode cX8_costOf 9 = .ok (.if_icmp .ge 30, 3) := by decide +kernel
theorem dX8_costOf_12 : decode cX8_costOf 12 = .ok (.iload_n 3, 1) := by decide +kernel
theorem dX8_costOf_13 : decode cX8_costOf 13 = .ok (.aload_n 0, 1) := by decide +kernel
theorem dX8_costOf_14 : decode cX8_costOf 14 = .ok (.getfield 7, 3) := by decide +kernel
theorem dX8_costOf_17 : decode cX8_costOf 17 = .ok (.iload_n 1, 1) := by decide +kernel
theorem dX8_costOf_18 : decode cX8_costOf 18 = .ok (.iaload, 1) := by decide +kernel
theorem dX8_costOf_19 : decode cX8_costOf 19 = .ok (.aload_n 0, 1) := by decide +kernel
theorem dX8_costOf_20 : decode cX8_costOf 20 = .ok (.getfield 7, 3) := by decide +kernel
theorem dX8_costOf_23 : decode cX8_costOf 23 = .ok (.iload_n 2, 1) := by decide +kernel
theorem dX8_costOf_24 : decode cX8_costOf 24 = .ok (.iaload, 1) := by decide +kernel
theorem dX8_costOf_25 : decode cX8_costOf 25 = .ok (.ixor, 1) := by decide +kernel
theorem dX8_costOf_26 : decode cX8_costOf 26 = .ok (.iload 4, 2) := by decide +kernel
theorem dX8_costOf_28 : decode cX8_costOf 28 = .ok (.ishr, 1) := by decide +kernel
theorem dX8_costOf_29 : decode cX8_costOf 29 = .ok (.iconst 1, 1) := by decide +kernel
theorem dX8_costOf_30 : decode cX8_costOf 30 = .ok (.iand, 1) := by decide +kernel
theorem dX8_costOf_31 : decode cX8_costOf 31 = .ok (.iadd, 1) := by decide +kernel
theorem dX8_costOf_32 : decode cX8_costOf 32 = .ok (.istore_n 3, 1) := by decide +kernel
theorem dX8_costOf_33 : decode cX8_costOf 33 = .ok (.iinc 4 1, 3) := by decide +kernel
theorem dX8_costOf_36 : decode cX8_costOf 36 = .ok (.goto (-31), 3) := by decide +kernel
theorem dX8_costOf_39 : decode cX8_costOf 39 = .ok (.iload_n 3, 1) := by decide +kernel
theorem dX8_costOf_40 : decode cX8_costOf 40 = .ok (.ireturn, 1) := by decide +kernel
set_option maxRecDepth 20000 in
theorem ggX8_bars_X8_costOf : GoodIn wsX8_bars wsX8_costOf := goodIn_r _ [7, 1, 8, 9, 10, 11, 12, 13, 14, 15, 16, 17, 18, 19, 20, 21, 22, 23, 24, 25, 26, 27, 28] (by decide +kernel) (by decide +kernel)
set_option maxRecDepth 20000 in
theorem gX8_bars_X8_costOf : GoodIn wsX8_bars (wsV RX8 70 RX8 yX8_costOf wsX8_costOf) := goodIn_app (goodIn_of _ (by decide +kernel)) ggX8_bars_X8_costOf
theorem dX8_bars_0 : decode cX8_bars 0 = .ok (.aload_n 0, 1) := by decide +kernel
theorem dX8_bars_1 : decode cX8_bars 1 = .ok (.getfield 7, 3) := by decide +kernel
theorem dX8_bars_4 : decode cX8_bars 4 = .ok (.iload_n 1, 1) := by decide +kernel
theorem dX8_bars_5 : decode cX8_bars 5 = .ok (.iaload, 1) := by decide +kernel
theorem dX8_bars_6 : decode cX8_bars 6 = .ok (.aload_n 0, 1) := by decide +kernel
theorem dX8_bars_7 : decode cX8_bars 7 = .ok (.getfield 7, 3) := by decide +kernel
theorem dX8_bars_10 : decode cX8_bars 10 = .ok (.iload_n 2, 1) := by decide +kernel
theorem dX8_bars_11 : decode cX8_bars 11 = .ok (.iaload, 1) := by decide +kernel
theorem dX8_bars_12 : decode cX8_bars 12 = .ok (.iconst (-1), 1) := by decide +kernel
theorem dX8_bars_13 : decode cX8_bars 13 = .ok (.ixor, 1) := by decide +kernel
theorem dX8_bars_14 : decode cX8_bars 14 = .ok (.iand, 1) := by decide +kernel
theorem dX8_bars_15 : decode cX8_bars 15 = .ok (.ifCond .eq 7, 3) := by decide +kernel
theorem dX8_bars_18 : decode cX8_bars 18 = .ok (.iconst 1, 1) := by decide +kernel
theorem dX8_bars_19 : decode cX8_bars 19 = .ok (.goto 4, 3) := by decide +kernel
theorem dX8_bars_22 : decode cX8_bars 22 = .ok (.iconst 0, 1) := by decide +kernel
theorem dX8_bars_23 : decode cX8_bars 23 = .ok (.istore_n 3, 1) := by decide +kernel
theorem dX8_bars_24 : decode cX8_bars 24 = .ok (.aload_n 0, 1) := by decide +kernel
theorem dX8_bars_25 : decode cX8_bars 25 = .ok (.getfield 7, 3) := by decide +kernel
theorem dX8_bars_28 : decode cX8_bars 28 = .ok (.iload_n 2, 1) := by decide +kernel
theorem dX8_bars_29 : decode cX8_bars 29 = .ok (.iaload, 1) := by decide +kernel
theorem dX8_bars_30 : decode cX8_bars 30 = .ok (.aload_n 0, 1) := by decide +kernel
theorem dX8_bars_31 : decode cX8_bars 31 = .ok (.getfield 7, 3) := by decide +kernel
theorem dX8_bars_34 : decode cX8_bars 34 = .ok (.iload_n 1, 1) := by decide +kernel
theorem dX8_bars_35 : decode cX8_bars 35 = .ok (.iaload, 1) := by decide +kernel
theorem dX8_bars_36 : decode cX8_bars 36 = .ok (.iconst (-1), 1) := by decide +kernel
theorem dX8_bars_37 : decode cX8_bars 37 = .ok (.ixor, 1) := by decide +kernel
theorem dX8_bars_38 : decode cX8_bars 38 = .ok (.iand, 1) := by decide +kernel
theorem dX8_bars_39 : decode cX8_bars 39 = .ok (.ifCond .eq 7, 3) := by decide +kernel
theorem dX8_bars_42 : decode cX8_bars 42 = .ok (.iconst 1, 1) := by decide +kernel
theorem dX8_bars_43 : decode cX8_bars 43 = .ok (.goto 4, 3) := by decide +kernel
theorem dX8_bars_46 : decode cX8_bars 46 = .ok (.iconst 0, 1) := by decide +kernel
theorem dX8_bars_47 : decode cX8_bars 47 = .ok (.istore 4, 2) := by decide +kernel
theorem dX8_bars_49 : decode cX8_bars 49 = .ok (.iload_n 3, 1) := by decide +kernel
theorem dX8_bars_50 : decode cX8_bars 50 = .ok (.ifCond .eq 25, 3) := by decide +kernel
theorem dX8_bars_53 : decode cX8_bars 53 = .ok (.iload 4, 2) := by decide +kernel
theorem dX8_bars_55 : decode cX8_bars 55 = .ok (.ifCond .eq 20, 3) := by decide +kernel
theorem dX8_bars_58 : decode cX8_bars 58 = .ok (.aload_n 0, 1) := by decide +kernel
theorem dX8_bars_59 : decode cX8_bars 59 = .ok (.iload_n 1, 1) := by decide +kernel
theorem dX8_bars_60 : decode cX8_bars 60 = .ok (.iload_n 2, 1) := by decide +kernel
theorem dX8_bars_61 : decode cX8_bars 61 = .ok (.invokevirtual 70, 3) := by decide +kernel
theorem dX8_bars_64 : decode cX8_bars 64 = .ok (.aload_n 0, 1) := by decide +kernel
theorem dX8_bars_65 : decode cX8_bars 65 = .ok (.getfield 13, 3) := by decide +kernel
theorem dX8_bars_68 : decode cX8_bars 68 = .ok (.if_icmp .le 7, 3) := by decide +kernel
theorem dX8_bars_71 : decode cX8_bars 71 = .ok (.iconst 1, 1) := by decide +kernel
theorem dX8_bars_72 : decode cX8_bars 72 = .ok (.goto 4, 3) := by decide +kernel
theorem dX8_bars_75 : decode cX8_bars 75 = .ok (.iconst 0, 1) := by decide +kernel
theorem dX8_bars_76 : decode cX8_bars 76 = .ok (.ireturn, 1) := by decide +kernel
set_option maxRecDepth 20000 in
theorem ggX8_cost_X8_isPitch : GoodIn wsX8_cost wsX8_isPitch := goodIn_r _ [4, 5, 6, 3, 7] (by decide +kernel) (by decide +kernel)
set_option maxRecDepth 20000 in
theorem gX8_cost_X8_isPitch : GoodIn wsX8_cost (va_wsS RX8 74 yX8_isPitch wsX8_isPitch) := goodIn_app (goodIn_of _ (by decide +kernel)) ggX8_cost_X8_isPitch
set_option maxRecDepth 20000 in
theorem ggX8_cost_X8_goesWell : GoodIn wsX8_cost wsX8_goesWell := goodIn_r _ [11, 12, 18, 19, 20, 21, 22, 23, 24, 25, 26, 27, 28, 29, 30, 31, 32, 33, 34, 35, 36, 37, 38] (by decide +kernel) (by decide +kernel)
set_option maxRecDepth 20000 in
theorem gX8_cost_X8_goesWell : GoodIn wsX8_cost (wsV RX8 78 RX8 yX8_goesWell wsX8_goesWell) := goodIn_app (goodIn_of _ (by decide +kernel)) ggX8_cost_X8_goesWell
set_option maxRecDepth 20000 in
theorem ggX8_cost_X8_costOf : GoodIn wsX8_cost wsX8_costOf := goodIn_r _ [16, 17, 18, 19, 20, 21, 22, 23, 24, 25, 26, 27, 28, 29, 30, 31, 32, 33, 34, 35, 36, 37, 38] (by decide +kernel) (by decide +kernel)
set_option maxRecDepth 20000 in
theorem gX8_cost_X8_costOf : GoodIn wsX8_cost (wsV RX8 70 RX8 yX8_costOf wsX8_costOf) := goodIn_app (goodIn_of _ (by decide +kernel)) ggX8_cost_X8_costOf
theorem dX8_cost_0 : decode cX8_cost 0 = .ok (.aload_n 0, 1) := by decide +kernel
theorem dX8_cost_1 : decode cX8_cost 1 = .ok (.iload_n 1, 1) := by decide +kernel
theorem dX8_cost_2 : decode cX8_cost 2 = .ok (.invokestatic 74, 3) := by decide +kernel
theorem dX8_cost_5 : decode cX8_cost 5 = .ok (.ifCond .eq 14, 3) := by decide +kernel
theorem dX8_cost_8 : decode cX8_cost 8 = .ok (.iload_n 2, 1) := by decide +kernel
theorem dX8_cost_9 : decode cX8_cost 9 = .ok (.invokestatic 74, 3) := by decide +kernel
theorem dX8_cost_12 : decode cX8_cost 12 = .ok (.ifCond .eq 7, 3) := by decide +kernel
theorem dX8_cost_15 : decode cX8_cost 15 = .ok (.iconst 0, 1) := by decide +kernel
theorem dX8_cost_16 : decode cX8_cost 16 = .ok (.goto 4, 3) := by decide +kernel
theorem dX8_cost_19 : decode cX8_cost 19 = .ok (.iconst 1, 1) := by decide +kernel
theorem dX8_cost_20 : decode cX8_cost 20 = .ok (.invokevirtual 78, 3) := by decide +kernel
theorem dX8_cost_23 : decode cX8_cost 23 = .ok (.ifCond .eq 12, 3) := by decide +kernel
theorem dX8_cost_26 : decode cX8_cost 26 = .ok (.aload_n 0, 1) := by decide +kernel
theorem dX8_cost_27 : decode cX8_cost 27 = .ok (.iload_n 1, 1) := by decide +kernel
theorem dX8_cost_28 : decode cX8_cost 28 = .ok (.iload_n 2, 1) := by decide +kernel
theorem dX8_cost_29 : decode cX8_cost 29 = .ok (.invokevirtual 70, 3) := by decide +kernel
theorem dX8_cost_32 : decode cX8_cost 32 = .ok (.goto 4, 3) := by decide +kernel
theorem dX8_cost_35 : decode cX8_cost 35 = .ok (.iconst 0, 1) := by decide +kernel
theorem dX8_cost_36 : decode cX8_cost 36 = .ok (.ireturn, 1) := by decide +kernel
set_option maxRecDepth 20000 in
theorem ggX8_isBarred_X8_isPitch : GoodIn wsX8_isBarred wsX8_isPitch := goodIn_r _ [4, 5, 6, 3, 7] (by decide +kernel) (by decide +kernel)
set_option maxRecDepth 20000 in
theorem gX8_isBarred_X8_isPitch : GoodIn wsX8_isBarred (va_wsS RX8 74 yX8_isPitch wsX8_isPitch) := goodIn_app (goodIn_of _ (by decide +kernel)) ggX8_isBarred_X8_isPitch
set_option maxRecDepth 20000 in
theorem ggX8_isBarred_X8_goesWell : GoodIn wsX8_isBarred wsX8_goesWell := goodIn_r _ [11, 12, 23, 24, 25, 26, 27, 28, 29, 30, 31, 32, 33, 34, 35, 36, 37, 38, 39, 40, 41, 42, 43] (by decide +kernel) (by decide +kernel)
set_option maxRecDepth 20000 in
theorem gX8_isBarred_X8_goesWell : GoodIn wsX8_isBarred (wsV RX8 78 RX8 yX8_goesWell wsX8_goesWell) := goodIn_app (goodIn_of _ (by decide +kernel)) ggX8_isBarred_X8_goesWell
set_option maxRecDepth 20000 in
theorem ggX8_isBarred_X8_bars : GoodIn wsX8_isBarred wsX8_bars := goodIn_r _ [16, 17, 18, 19, 20, 21, 3, 22, 23, 24, 25, 26, 27, 28, 29, 30, 31, 32, 33, 34, 35, 36, 37, 38, 39, 40, 41, 42, 43] (by decide +kernel) (by decide +kernel)
set_option maxRecDepth 20000 in
theorem gX8_isBarred_X8_bars : GoodIn wsX8_isBarred (wsV RX8 81 RX8 yX8_bars wsX8_bars) := goodIn_app (goodIn_of _ (by decide +kernel)) ggX8_isBarred_X8_bars
theorem dX8_isBarred_0 : decode cX8_isBarred 0 = .ok (.aload_n 0, 1) := by decide +kernel
theorem dX8_isBarred_1 : decode cX8_isBarred 1 = .ok (.iload_n 1, 1) := by decide +kernel
theorem dX8_isBarred_2 : decode cX8_isBarred 2 = .ok (.invokestatic 74, 3) := by decide +kernel
theorem dX8_isBarred_5 : decode cX8_isBarred 5 = .ok (.ifCond .eq 14, 3) := by decide +kernel
theorem dX8_isBarred_8 : decode cX8_isBarred 8 = .ok (.iload_n 2, 1) := by decide +kernel
theorem dX8_isBarred_9 : decode cX8_isBarred 9 = .ok (.invokestatic 74, 3) := by decide +kernel
theorem dX8_isBarred_12 : decode cX8_isBarred 12 = .ok (.ifCond .eq 7, 3) := by decide +kernel
theorem dX8_isBarred_15 : decode cX8_isBarred 15 = .ok (.iconst 0, 1) := by decide +kernel
theorem dX8_isBarred_16 : decode cX8_isBarred 16 = .ok (.goto 4, 3) := by decide +kernel
theorem dX8_isBarred_19 : decode cX8_isBarred 19 = .ok (.iconst 1, 1) := by decide +kernel
theorem dX8_isBarred_20 : decode cX8_isBarred 20 = .ok (.invokevirtual 78, 3) := by decide +kernel
theorem dX8_isBarred_23 : decode cX8_isBarred 23 = .ok (.ifCond .eq 16, 3) := by decide +kernel
theorem dX8_isBarred_26 : decode cX8_isBarred 26 = .ok (.aload_n 0, 1) := by decide +kernel
theorem dX8_isBarred_27 : decode cX8_isBarred 27 = .ok (.iload_n 1, 1) := by decide +kernel
theorem dX8_isBarred_28 : decode cX8_isBarred 28 = .ok (.iload_n 2, 1) := by decide +kernel
theorem dX8_isBarred_29 : decode cX8_isBarred 29 = .ok (.invokevirtual 81, 3) := by decide +kernel
theorem dX8_isBarred_32 : decode cX8_isBarred 32 = .ok (.ifCond .eq 7, 3) := by decide +kernel
theorem dX8_isBarred_35 : decode cX8_isBarred 35 = .ok (.iconst 1, 1) := by decide +kernel
theorem dX8_isBarred_36 : decode cX8_isBarred 36 = .ok (.goto 4, 3) := by decide +kernel
theorem dX8_isBarred_39 : decode cX8_isBarred 39 = .ok (.iconst 0, 1) := by decide +kernel
theorem dX8_isBarred_40 : decode cX8_isBarred 40 = .ok (.ireturn, 1) := by decide +kernel
set_option maxRecDepth 20000 in
theorem ggX8_setLimit_X8_in : GoodIn wsX8_setLimit wsX8_in := goodIn_r _ [5] (by decide +kernel) (by decide +kernel)
set_option maxRecDepth 20000 in
theorem gX8_setLimit_X8_in : GoodIn wsX8_setLimit (va_wsS RX8 66 yX8_in wsX8_in) := goodIn_app (goodIn_of _ (by decide +kernel)) ggX8_setLimit_X8_in
set_option maxRecDepth 20000 in
theorem ggX8_setLimit_X8_goesWell : GoodIn wsX8_setLimit wsX8_goesWell := goodIn_r _ [9, 10, 20, 21, 22, 23, 24, 25, 26, 27, 28, 29, 30, 31, 32, 33, 34, 35, 36, 37, 38, 39, 40] (by decide +kernel) (by decide +kernel)
set_option maxRecDepth 20000 in
theorem gX8_setLimit_X8_goesWell : GoodIn wsX8_setLimit (wsV RX8 78 RX8 yX8_goesWell wsX8_goesWell) := goodIn_app (goodIn_of _ (by decide +kernel)) ggX8_setLimit_X8_goesWell
set_option maxRecDepth 20000 in
theorem ggX8_setLimit_X8_bars : GoodIn wsX8_setLimit wsX8_bars := goodIn_r _ [14, 15, 1, 16, 17, 18, 4, 19, 20, 21, 22, 23, 24, 25, 26, 27, 28, 29, 30, 31, 32, 33, 34, 35, 36, 37, 38, 39, 40] (by decide +kernel) (by decide +kernel)
set_option maxRecDepth 20000 in
theorem gX8_setLimit_X8_bars : GoodIn wsX8_setLimit (wsV RX8 81 RX8 yX8_bars wsX8_bars) := goodIn_app (goodIn_of _ (by decide +kernel)) ggX8_setLimit_X8_bars
theorem dX8_setLimit_0 : decode cX8_setLimit 0 = .ok (.aload_n 0, 1) := by decide +kernel
theorem dX8_setLimit_1 : decode cX8_setLimit 1 = .ok (.iload_n 1, 1) := by decide +kernel
theorem dX8_setLimit_2 : decode cX8_setLimit 2 = .ok (.iconst 0, 1) := by decide +kernel
theorem dX8_setLimit_3 : decode cX8_setLimit 3 = .ok (.bipush 8, 2) := by decide +kernel
theorem dX8_setLimit_5 : decode cX8_setLimit 5 = .ok (.invokestatic 66, 3) := by decide +kernel
theorem dX8_setLimit_8 : decode cX8_setLimit 8 = .ok (.ifCond .eq 7, 3) := by decide +kernel
theorem dX8_setLimit_11 : decode cX8_setLimit 11 = .ok (.iconst 0, 1) := by decide +kernel
theorem dX8_setLimit_12 : decode cX8_setLimit 12 = .ok (.goto 4, 3) := by decide +kernel
theorem dX8_setLimit_15 : decode cX8_setLimit 15 = .ok (.iconst 1, 1) := by decide +kernel
theorem dX8_setLimit_16 : decode cX8_setLimit 16 = .ok (.invokevirtual 78, 3) := by decide +kernel
theorem dX8_setLimit_19 : decode cX8_setLimit 19 = .ok (.ifCond .ne 5, 3) := by decide +kernel
theorem dX8_setLimit_22 : decode cX8_setLimit 22 = .ok (.iconst 0, 1) := by decide +kernel
theorem dX8_setLimit_23 : decode cX8_setLimit 23 = .ok (.ireturn, 1) := by decide +kernel
theorem dX8_setLimit_24 : decode cX8_setLimit 24 = .ok (.aload_n 0, 1) := by decide +kernel
theorem dX8_setLimit_25 : decode cX8_setLimit 25 = .ok (.iload_n 1, 1) := by decide +kernel
theorem dX8_setLimit_26 : decode cX8_setLimit 26 = .ok (.putfield 13, 3) := by decide +kernel
theorem dX8_setLimit_29 : decode cX8_setLimit 29 = .ok (.iconst 0, 1) := by decide +kernel
theorem dX8_setLimit_30 : decode cX8_setLimit 30 = .ok (.istore_n 2, 1) := by decide +kernel
theorem dX8_setLimit_31 : decode cX8_setLimit 31 = .ok (.iconst 0, 1) := by decide +kernel
theorem dX8_setLimit_32 : decode cX8_setLimit 32 = .ok (.istore_n 3, 1) := by decide +kernel
theorem dX8_setLimit_33 : decode cX8_setLimit 33 = .ok (.iload_n 3, 1) := by decide +kernel
theorem dX8_setLimit_34 : decode cX8_setLimit 34 = .ok (.bipush 9, 2) := by decide +kernel
theorem dX8_setLimit_36 : decode cX8_setLimit 36 = .ok (.if_icmp .ge 43, 3) := by decide +kernel
theorem dX8_setLimit_39 : decode cX8_setLimit 39 = .ok (.iconst 0, 1) := by decide +kernel
theorem dX8_setLimit_40 : decode cX8_setLimit 40 = .ok (.istore 4, 2) := by decide +kernel
theorem dX8_setLimit_42 : decode cX8_setLimit 42 = .ok (.iload 4, 2) := by decide +kernel
theorem dX8_setLimit_44 : decode cX8_setLimit 44 = .ok (.bipush 9, 2) := by decide +kernel
theorem dX8_setLimit_46 : decode cX8_setLimit 46 = .ok (.if_icmp .ge 27, 3) := by decide +kernel
theorem dX8_setLimit_49 : decode cX8_setLimit 49 = .ok (.iload_n 2, 1) := by decide +kernel
theorem dX8_setLimit_50 : decode cX8_setLimit 50 = .ok (.aload_n 0, 1) := by decide +kernel
theorem dX8_setLimit_51 : decode cX8_setLimit 51 = .ok (.iload_n 3, 1) := by decide +kernel
theorem dX8_setLimit_52 : decode cX8_setLimit 52 = .ok (.iload 4, 2) := by decide +kernel
theorem dX8_setLimit_54 : decode cX8_setLimit 54 = .ok (.invokevirtual 81, 3) := by decide +kernel
theorem dX8_setLimit_57 : decode cX8_setLimit 57 = .ok (.ifCond .eq 7, 3) := by decide +kernel
theorem dX8_setLimit_60 : decode cX8_setLimit 60 = .ok (.iconst 1, 1) := by decide +kernel
theorem dX8_setLimit_61 : decode cX8_setLimit 61 = .ok (.goto 4, 3) := by decide +kernel
theorem dX8_setLimit_64 : decode cX8_setLimit 64 = .ok (.iconst 0, 1) := by decide +kernel
theorem dX8_setLimit_65 : decode cX8_setLimit 65 = .ok (.iadd, 1) := by decide +kernel
theorem dX8_setLimit_66 : decode cX8_setLimit 66 = .ok (.istore_n 2, 1) := by decide +kernel
theorem dX8_setLimit_67 : decode cX8_setLimit 67 = .ok (.iinc 4 1, 3) := by decide +kernel
theorem dX8_setLimit_70 : decode cX8_setLimit 70 = .ok (.goto (-28), 3) := by decide +kernel
theorem dX8_setLimit_73 : decode cX8_setLimit 73 = .ok (.iinc 3 1, 3) := by decide +kernel
theorem dX8_setLimit_76 : decode cX8_setLimit 76 = .ok (.goto (-43), 3) := by decide +kernel
theorem dX8_setLimit_79 : decode cX8_setLimit 79 = .ok (.iload_n 2, 1) := by decide +kernel
theorem dX8_setLimit_80 : decode cX8_setLimit 80 = .ok (.ireturn, 1) := by decide +kernel
set_option maxRecDepth 20000 in
theorem ggX8_grace_X8_in : GoodIn wsX8_grace wsX8_in := goodIn_r _ [6] (by decide +kernel) (by decide +kernel)
set_option maxRecDepth 20000 in
theorem gX8_grace_X8_in : GoodIn wsX8_grace (va_wsS RX8 66 yX8_in wsX8_in) := goodIn_app (goodIn_of _ (by decide +kernel)) ggX8_grace_X8_in
set_option maxRecDepth 20000 in
theorem ggX8_grace_X8_goesWell : GoodIn wsX8_grace wsX8_goesWell := goodIn_r _ [10, 11, 12, 13, 14, 15, 16, 17, 18, 19, 20, 21, 22, 23, 24, 25, 26, 27, 28, 29, 30, 31, 32] (by decide +kernel) (by decide +kernel)
set_option maxRecDepth 20000 in
theorem gX8_grace_X8_goesWell : GoodIn wsX8_grace (wsV RX8 78 RX8 yX8_goesWell wsX8_goesWell) := goodIn_app (goodIn_of _ (by decide +kernel)) ggX8_grace_X8_goesWell
theorem dX8_grace_0 : decode cX8_grace 0 = .ok (.aload_n 0, 1) := by decide +kernel
theorem dX8_grace_1 : decode cX8_grace 1 = .ok (.iload_n 1, 1) := by decide +kernel
theorem dX8_grace_2 : decode cX8_grace 2 = .ok (.iconst 0, 1) := by decide +kernel
theorem dX8_grace_3 : decode cX8_grace 3 = .ok (.bipush 10, 2) := by decide +kernel
theorem dX8_grace_5 : decode cX8_grace 5 = .ok (.invokestatic 66, 3) := by decide +kernel
theorem dX8_grace_8 : decode cX8_grace 8 = .ok (.ifCond .ne 7, 3) := by decide +kernel
theorem dX8_grace_11 : decode cX8_grace 11 = .ok (.iconst 1, 1) := by decide +kernel
theorem dX8_grace_12 : decode cX8_grace 12 = .ok (.goto 16, 3) := by decide +kernel
theorem dX8_grace_15 : decode cX8_grace 15 = .ok (.aload_n 0, 1) := by decide +kernel
theorem dX8_grace_16 : decode cX8_grace 16 = .ok (.getfield 85, 3) := by decide +kernel
theorem dX8_grace_19 : decode cX8_grace 19 = .ok (.iconst 4, 1) := by decide +kernel
theorem dX8_grace_20 : decode cX8_grace 20 = .ok (.if_icmp .ne 7, 3) := by decide +kernel
theorem dX8_grace_23 : decode cX8_grace 23 = .ok (.iconst 2, 1) := by decide +kernel
theorem dX8_grace_24 : decode cX8_grace 24 = .ok (.goto 4, 3) := by decide +kernel
theorem dX8_grace_27 : decode cX8_grace 27 = .ok (.iconst 0, 1) := by decide +kernel
theorem dX8_grace_28 : decode cX8_grace 28 = .ok (.invokevirtual 78, 3) := by decide +kernel
theorem dX8_grace_31 : decode cX8_grace 31 = .ok (.ifCond .ne 5, 3) := by decide +kernel
theorem dX8_grace_34 : decode cX8_grace 34 = .ok (.iconst 0, 1) := by decide +kernel
theorem dX8_grace_35 : decode cX8_grace 35 = .ok (.ireturn, 1) := by decide +kernel
theorem dX8_grace_36 : decode cX8_grace 36 = .ok (.aload_n 0, 1) := by decide +kernel
theorem dX8_grace_37 : decode cX8_grace 37 = .ok (.getfield 23, 3) := by decide +kernel
theorem dX8_grace_40 : decode cX8_grace 40 = .ok (.aload_n 0, 1) := by decide +kernel
theorem dX8_grace_41 : decode cX8_grace 41 = .ok (.getfield 85, 3) := by decide +kernel
theorem dX8_grace_44 : decode cX8_grace 44 = .ok (.iload_n 1, 1) := by decide +kernel
theorem dX8_grace_45 : decode cX8_grace 45 = .ok (.iastore, 1) := by decide +kernel
theorem dX8_grace_46 : decode cX8_grace 46 = .ok (.aload_n 0, 1) := by decide +kernel
theorem dX8_grace_47 : decode cX8_grace 47 = .ok (.dup, 1) := by decide +kernel
theorem dX8_grace_48 : decode cX8_grace 48 = .ok (.getfield 85, 3) := by decide +kernel
theorem dX8_grace_51 : decode cX8_grace 51 = .ok (.iconst 1, 1) := by decide +kernel
theorem dX8_grace_52 : decode cX8_grace 52 = .ok (.iadd, 1) := by decide +kernel
theorem dX8_grace_53 : decode cX8_grace 53 = .ok (.putfield 85, 3) := by decide +kernel
theorem dX8_grace_56 : decode cX8_grace 56 = .ok (.aload_n 0, 1) := by decide +kernel
theorem dX8_grace_57 : decode cX8_grace 57 = .ok (.getfield 85, 3) := by decide +kernel
theorem dX8_grace_60 : decode cX8_grace 60 = .ok (.ireturn, 1) := by decide +kernel
set_option maxRecDepth 20000 in
theorem ggX8_enter_X8_goesWell : GoodIn wsX8_enter wsX8_goesWell := goodIn_r _ [10, 11, 12, 13, 14, 15, 16, 17, 18, 19, 20, 21, 22, 23, 24, 25, 26, 27, 28, 29, 30, 31, 32] (by decide +kernel) (by decide +kernel)
set_option maxRecDepth 20000 in
theorem gX8_enter_X8_goesWell : GoodIn wsX8_enter (wsV RX8 78 RX8 yX8_goesWell wsX8_goesWell) := goodIn_app (goodIn_of _ (by decide +kernel)) ggX8_enter_X8_goesWell
theorem dX8_enter_0 : decode cX8_enter 0 = .ok (.aload_n 0, 1) := by decide +kernel
theorem dX8_enter_1 : decode cX8_enter 1 = .ok (.aload_n 0, 1) := by decide +kernel
theorem dX8_enter_2 : decode cX8_enter 2 = .ok (.getfield 85, 3) := by decide +kernel
theorem dX8_enter_5 : decode cX8_enter 5 = .ok (.ifCond .eq 12, 3) := by decide +kernel
theorem dX8_enter_8 : decode cX8_enter 8 = .ok (.aload_n 0, 1) := by decide +kernel
theorem dX8_enter_9 : decode cX8_enter 9 = .ok (.getfield 88, 3) := by decide +kernel
theorem dX8_enter_12 : decode cX8_enter 12 = .ok (.bipush 8, 2) := by decide +kernel
theorem dX8_enter_14 : decode cX8_enter 14 = .ok (.if_icmp .ne 7, 3) := by decide +kernel
theorem dX8_enter_17 : decode cX8_enter 17 = .ok (.iconst 1, 1) := by decide +kernel
theorem dX8_enter_18 : decode cX8_enter 18 = .ok (.goto 4, 3) := by decide +kernel
theorem dX8_enter_21 : decode cX8_enter 21 = .ok (.iconst 0, 1) := by decide +kernel
theorem dX8_enter_22 : decode cX8_enter 22 = .ok (.invokevirtual 78, 3) := by decide +kernel
theorem dX8_enter_25 : decode cX8_enter 25 = .ok (.ifCond .ne 5, 3) := by decide +kernel
theorem dX8_enter_28 : decode cX8_enter 28 = .ok (.iconst 0, 1) := by decide +kernel
theorem dX8_enter_29 : decode cX8_enter 29 = .ok (.ireturn, 1) := by decide +kernel
theorem dX8_enter_30 : decode cX8_enter 30 = .ok (.iconst 0, 1) := by decide +kernel
theorem dX8_enter_31 : decode cX8_enter 31 = .ok (.istore_n 1, 1) := by decide +kernel
theorem dX8_enter_32 : decode cX8_enter 32 = .ok (.iload_n 1, 1) := by decide +kernel
theorem dX8_enter_33 : decode cX8_enter 33 = .ok (.aload_n 0, 1) := by decide +kernel
theorem dX8_enter_34 : decode cX8_enter 34 = .ok (.getfield 85, 3) := by decide +kernel
theorem dX8_enter_37 : decode cX8_enter 37 = .ok (.if_icmp .ge 28, 3) := by decide +kernel
theorem dX8_enter_40 : decode cX8_enter 40 = .ok (.aload_n 0, 1) := by decide +kernel
theorem dX8_enter_41 : decode cX8_enter 41 = .ok (.getfield 17, 3) := by decide +kernel
theorem dX8_enter_44 : decode cX8_enter 44 = .ok (.iconst 4, 1) := by decide +kernel
theorem dX8_enter_45 : decode cX8_enter 45 = .ok (.aload_n 0, 1) := by decide +kernel
theorem dX8_enter_46 : decode cX8_enter 46 = .ok (.getfield 88, 3) := by decide +kernel
theorem dX8_enter_49 : decode cX8_enter 49 = .ok (.imul, 1) := by decide +kernel
theorem dX8_enter_50 : decode cX8_enter 50 = .ok (.iload_n 1, 1) := by decide +kernel
theorem dX8_enter_51 : decode cX8_enter 51 = .ok (.iadd, 1) := by decide +kernel
theorem dX8_enter_52 : decode cX8_enter 52 = .ok (.aload_n 0, 1) := by decide +kernel
theorem dX8_enter_53 : decode cX8_enter 53 = .ok (.getfield 23, 3) := by decide +kernel
theorem dX8_enter_56 : decode cX8_enter 56 = .ok (.iload_n 1, 1) := by decide +kernel
theorem dX8_enter_57 : decode cX8_enter 57 = .ok (.iaload, 1) := by decide +kernel
theorem dX8_enter_58 : decode cX8_enter 58 = .ok (.iastore, 1) := by decide +kernel
theorem dX8_enter_59 : decode cX8_enter 59 = .ok (.iinc 1 1, 3) := by decide +kernel
theorem dX8_enter_62 : decode cX8_enter 62 = .ok (.goto (-30), 3) := by decide +kernel
theorem dX8_enter_65 : decode cX8_enter 65 = .ok (.aload_n 0, 1) := by decide +kernel
theorem dX8_enter_66 : decode cX8_enter 66 = .ok (.getfield 20, 3) := by decide +kernel
theorem dX8_enter_69 : decode cX8_enter 69 = .ok (.aload_n 0, 1) := by decide +kernel
theorem dX8_enter_70 : decode cX8_enter 70 = .ok (.getfield 88, 3) := by decide +kernel
theorem dX8_enter_73 : decode cX8_enter 73 = .ok (.aload_n 0, 1) := by decide +kernel
theorem dX8_enter_74 : decode cX8_enter 74 = .ok (.getfield 85, 3) := by decide +kernel
theorem dX8_enter_77 : decode cX8_enter 77 = .ok (.iastore, 1) := by decide +kernel
theorem dX8_enter_78 : decode cX8_enter 78 = .ok (.aload_n 0, 1) := by decide +kernel
theorem dX8_enter_79 : decode cX8_enter 79 = .ok (.iconst 0, 1) := by decide +kernel
theorem dX8_enter_80 : decode cX8_enter 80 = .ok (.putfield 85, 3) := by decide +kernel
theorem dX8_enter_83 : decode cX8_enter 83 = .ok (.aload_n 0, 1) := by decide +kernel
theorem dX8_enter_84 : decode cX8_enter 84 = .ok (.dup, 1) := by decide +kernel
theorem dX8_enter_85 : decode cX8_enter 85 = .ok (.getfield 88, 3) := by decide +kernel
theorem dX8_enter_88 : decode cX8_enter 88 = .ok (.iconst 1, 1) := by decide +kernel
theorem dX8_enter_89 : decode cX8_enter 89 = .ok (.iadd, 1) := by decide +kernel
theorem dX8_enter_90 : decode cX8_enter 90 = .ok (.putfield 88, 3) := by decide +kernel
theorem dX8_enter_93 : decode cX8_enter 93 = .ok (.aload_n 0, 1) := by decide +kernel
theorem dX8_enter_94 : decode cX8_enter 94 = .ok (.getfield 88, 3) := by decide +kernel
theorem dX8_enter_97 : decode cX8_enter 97 = .ok (.iconst 1, 1) := by decide +kernel
theorem dX8_enter_98 : decode cX8_enter 98 = .ok (.isub, 1) := by decide +kernel
theorem dX8_enter_99 : decode cX8_enter 99 = .ok (.ireturn, 1) := by decide +kernel
theorem dX8_ornaments_0 : decode cX8_ornaments 0 = .ok (.aload_n 0, 1) := by decide +kernel
theorem dX8_ornaments_1 : decode cX8_ornaments 1 = .ok (.iconst 0, 1) := by decide +kernel
theorem dX8_ornaments_2 : decode cX8_ornaments 2 = .ok (.putfield 63, 3) := by decide +kernel
theorem dX8_ornaments_5 : decode cX8_ornaments 5 = .ok (.aload_n 0, 1) := by decide +kernel
theorem dX8_ornaments_6 : decode cX8_ornaments 6 = .ok (.getfield 88, 3) := by decide +kernel
theorem dX8_ornaments_9 : decode cX8_ornaments 9 = .ok (.ireturn, 1) := by decide +kernel
set_option maxRecDepth 20000 in
theorem ggX8_moves_X8_bars : GoodIn wsX8_moves wsX8_bars := goodIn_r _ [6, 7, 8, 9, 10, 11, 5, 12, 13, 14, 15, 16, 17, 18, 19, 20, 21, 22, 23, 24, 25, 26, 27, 28, 29, 30, 31, 32, 33] (by decide +kernel) (by decide +kernel)
set_option maxRecDepth 20000 in
theorem gX8_moves_X8_bars : GoodIn wsX8_moves (wsV RX8 81 RX8 yX8_bars wsX8_bars) := goodIn_app (goodIn_of _ (by decide +kernel)) ggX8_moves_X8_bars
set_option maxRecDepth 20000 in
theorem ggX8_moves_X8_costOf : GoodIn wsX8_moves wsX8_costOf := goodIn_r _ [12, 7, 13, 14, 15, 16, 17, 18, 19, 20, 21, 22, 23, 24, 25, 26, 27, 28, 29, 30, 31, 32, 33] (by decide +kernel) (by decide +kernel)
set_option maxRecDepth 20000 in
theorem gX8_moves_X8_costOf : GoodIn wsX8_moves (wsV RX8 70 RX8 yX8_costOf wsX8_costOf) := goodIn_app (goodIn_of _ (by decide +kernel)) ggX8_moves_X8_costOf
theorem dX8_moves_0 : decode cX8_moves 0 = .ok (.iload_n 1, 1) := by decide +kernel
theorem dX8_moves_1 : decode cX8_moves 1 = .ok (.iload_n 2, 1) := by decide +kernel
theorem dX8_moves_2 : decode cX8_moves 2 = .ok (.if_icmp .eq 12, 3) := by decide +kernel
theorem dX8_moves_5 : decode cX8_moves 5 = .ok (.aload_n 0, 1) := by decide +kernel
theorem dX8_moves_6 : decode cX8_moves 6 = .ok (.iload_n 1, 1) := by decide +kernel
theorem dX8_moves_7 : decode cX8_moves 7 = .ok (.iload_n 2, 1) := by decide +kernel
theorem dX8_moves_8 : decode cX8_moves 8 = .ok (.invokevirtual 81, 3) := by decide +kernel
theorem dX8_moves_11 : decode cX8_moves 11 = .ok (.ifCond .eq 8, 3) := by decide +kernel
theorem dX8_moves_14 : decode cX8_moves 14 = .ok (.ldc 91, 2) := by decide +kernel
theorem dX8_moves_16 : decode cX8_moves 16 = .ok (.goto 9, 3) := by decide +kernel
theorem dX8_moves_19 : decode cX8_moves 19 = .ok (.aload_n 0, 1) := by decide +kernel
theorem dX8_moves_20 : decode cX8_moves 20 = .ok (.iload_n 1, 1) := by decide +kernel
theorem dX8_moves_21 : decode cX8_moves 21 = .ok (.iload_n 2, 1) := by decide +kernel
theorem dX8_moves_22 : decode cX8_moves 22 = .ok (.invokevirtual 70, 3) := by decide +kernel
theorem dX8_moves_25 : decode cX8_moves 25 = .ok (.ireturn, 1) := by decide +kernel
set_option maxRecDepth 20000 in
theorem ggX8_between_X8_moves : GoodIn wsX8_between wsX8_moves := goodIn_r _ [8, 2, 9, 10, 11, 7, 12, 13, 14, 15, 16, 17, 18, 19, 20, 21, 22, 23, 24, 25, 26, 27, 28, 29, 30, 31, 32, 33, 34, 35, 36, 37, 38, 39] (by decide +kernel) (by decide +kernel)
set_option maxRecDepth 20000 in
theorem gX8_between_X8_moves : GoodIn wsX8_between (wsV RX8 92 RX8 yX8_moves wsX8_moves) := goodIn_app (goodIn_of _ (by decide +kernel)) ggX8_between_X8_moves
theorem dX8_between_0 : decode cX8_between 0 = .ok (.iload_n 1, 1) := by decide +kernel
theorem dX8_between_1 : decode cX8_between 1 = .ok (.iconst (-1), 1) := by decide +kernel
theorem dX8_between_2 : decode cX8_between 2 = .ok (.if_icmp .ne 11, 3) := by decide +kernel
theorem dX8_between_5 : decode cX8_between 5 = .ok (.aload_n 0, 1) := by decide +kernel
theorem dX8_between_6 : decode cX8_between 6 = .ok (.iload_n 2, 1) := by decide +kernel
theorem dX8_between_7 : decode cX8_between 7 = .ok (.iload 4, 2) := by decide +kernel
theorem dX8_between_9 : decode cX8_between 9 = .ok (.invokevirtual 92, 3) := by decide +kernel
theorem dX8_between_12 : decode cX8_between 12 = .ok (.ireturn, 1) := by decide +kernel
theorem dX8_between_13 : decode cX8_between 13 = .ok (.aload_n 0, 1) := by decide +kernel
theorem dX8_between_14 : decode cX8_between 14 = .ok (.getfield 20, 3) := by decide +kernel
theorem dX8_between_17 : decode cX8_between 17 = .ok (.iload_n 1, 1) := by decide +kernel
theorem dX8_between_18 : decode cX8_between 18 = .ok (.iaload, 1) := by decide +kernel
theorem dX8_between_19 : decode cX8_between 19 = .ok (.iload_n 3, 1) := by decide +kernel
theorem dX8_between_20 : decode cX8_between 20 = .ok (.if_icmp .ge 7, 3) := by decide +kernel
theorem dX8_between_23 : decode cX8_between 23 = .ok (.iconst 0, 1) := by decide +kernel
theorem dX8_between_24 : decode cX8_between 24 = .ok (.goto 5, 3) := by decide +kernel
theorem dX8_between_27 : decode cX8_between 27 = .ok (.ldc 91, 2) := by decide +kernel
theorem dX8_between_29 : decode cX8_between 29 = .ok (.istore 5, 2) := by decide +kernel
theorem dX8_between_31 : decode cX8_between 31 = .ok (.iload_n 2, 1) := by decide +kernel
theorem dX8_between_32 : decode cX8_between 32 = .ok (.istore 6, 2) := by decide +kernel
theorem dX8_between_34 : decode cX8_between 34 = .ok (.iconst 0, 1) := by decide +kernel
theorem dX8_between_35 : decode cX8_between 35 = .ok (.istore 7, 2) := by decide +kernel
theorem dX8_between_37 : decode cX8_between 37 = .ok (.iload 7, 2) := by decide +kernel
theorem dX8_between_39 : decode cX8_between 39 = .ok (.aload_n 0, 1) := by decide +kernel
theorem dX8_between_40 : decode cX8_between 40 = .ok (.getfield 20, 3) := by decide +kernel
theorem dX8_between_43 : decode cX8_between 43 = .ok (.iload_n 1, 1) := by decide +kernel
theorem dX8_between_44 : decode cX8_between 44 = .ok (.iaload, 1) := by decide +kernel
theorem dX8_between_45 : decode cX8_between 45 = .ok (.if_icmp .ge 66, 3) := by decide +kernel
theorem dX8_between_48 : decode cX8_between 48 = .ok (.aload_n 0, 1) := by decide +kernel
theorem dX8_between_49 : decode cX8_between 49 = .ok (.getfield 17, 3) := by decide +kernel
theorem dX8_between_52 : decode cX8_between 52 = .ok (.iconst 4, 1) := by decide +kernel
theorem dX8_between_53 : decode cX8_between 53 = .ok (.iload_n 1, 1) := by decide +kernel
theorem dX8_between_54 : decode cX8_between 54 = .ok (.imul, 1) := by decide +kernel
theorem dX8_between_55 : decode cX8_between 55 = .ok (.iload 7, 2) := by decide +kernel
theorem dX8_between_57 : decode cX8_between 57 = .ok (.iadd, 1) := by decide +kernel
theorem dX8_between_58 : decode cX8_between 58 = .ok (.iaload, 1) := by decide +kernel
theorem dX8_between_59 : decode cX8_between 59 = .ok (.istore 8, 2) := by decide +kernel
theorem dX8_between_61 : decode cX8_between 61 = .ok (.iload 8, 2) := by decide +kernel
theorem dX8_between_63 : decode cX8_between 63 = .ok (.bipush 9, 2) := by decide +kernel
theorem dX8_between_65 : decode cX8_between 65 = .ok (.if_icmp .ne 8, 3) := by decide +kernel
theorem dX8_between_68 : decode cX8_between 68 = .ok (.iload 4, 2) := by decide +kernel
theorem dX8_between_70 : decode cX8_between 70 = .ok (.goto 16, 3) := by decide +kernel
theorem dX8_between_73 : decode cX8_between 73 = .ok (.iload 8, 2) := by decide +kernel
theorem dX8_between_75 : decode cX8_between 75 = .ok (.bipush 10, 2) := by decide +kernel
theorem dX8_between_77 : decode cX8_between 77 = .ok (.if_icmp .ne 7, 3) := by decide +kernel
theorem dX8_between_80 : decode cX8_between 80 = .ok (.iload_n 2, 1) := by decide +kernel
theorem dX8_between_81 : decode cX8_between 81 = .ok (.goto 5, 3) := by decide +kernel
theorem dX8_between_84 : decode cX8_between 84 = .ok (.iload 8, 2) := by decide +kernel
theorem dX8_between_86 : decode cX8_between 86 = .ok (.istore 9, 2) := by decide +kernel
theorem dX8_between_88 : decode cX8_between 88 = .ok (.iload 5, 2) := by decide +kernel
theorem dX8_between_90 : decode cX8_between 90 = .ok (.aload_n 0, 1) := by decide +kernel
theorem dX8_between_91 : decode cX8_between 91 = .ok (.iload 6, 2) := by decide +kernel
theorem dX8_between_93 : decode cX8_between 93 = .ok (.iload 9, 2) := by decide +kernel
theorem dX8_between_95 : decode cX8_between 95 = .ok (.invokevirtual 92, 3) := by decide +kernel
theorem dX8_between_98 : decode cX8_between 98 = .ok (.iadd, 1) := by decide +kernel
theorem dX8_between_99 : decode cX8_between 99 = .ok (.istore 5, 2) := by decide +kernel
theorem dX8_between_101 : decode cX8_between 101 = .ok (.iload 9, 2) := by decide +kernel
theorem dX8_between_103 : decode cX8_between 103 = .ok (.istore 6, 2) := by decide +kernel
theorem dX8_between_105 : decode cX8_between 105 = .ok (.iinc 7 1, 3) := by decide +kernel
theorem dX8_between_108 : decode cX8_between 108 = .ok (.goto (-71), 3) := by decide +kernel
theorem dX8_between_111 : decode cX8_between 111 = .ok (.iload 5, 2) := by decide +kernel
theorem dX8_between_113 : decode cX8_between 113 = .ok (.aload_n 0, 1) := by decide +kernel
theorem dX8_between_114 : decode cX8_between 114 = .ok (.iload 6, 2) := by decide +kernel
theorem dX8_between_116 : decode cX8_between 116 = .ok (.iload 4, 2) := by decide +kernel
theorem dX8_between_118 : decode cX8_between 118 = .ok (.invokevirtual 92, 3) := by decide +kernel
theorem dX8_between_121 : decode cX8_between 121 = .ok (.iadd, 1) := by decide +kernel
theorem dX8_between_122 : decode cX8_between 122 = .ok (.ireturn, 1) := by decide +kernel
set_option maxRecDepth 20000 in
theorem ggX8_fits_X8_isPitch : GoodIn wsX8_fits wsX8_isPitch := goodIn_r _ [6, 7, 8, 5, 9] (by decide +kernel) (by decide +kernel)
set_option maxRecDepth 20000 in
theorem gX8_fits_X8_isPitch : GoodIn wsX8_fits (va_wsS RX8 74 yX8_isPitch wsX8_isPitch) := goodIn_app (goodIn_of _ (by decide +kernel)) ggX8_fits_X8_isPitch
set_option maxRecDepth 20000 in
theorem ggX8_fits_X8_in : GoodIn wsX8_fits wsX8_in := goodIn_r _ [9] (by decide +kernel) (by decide +kernel)
set_option maxRecDepth 20000 in
theorem gX8_fits_X8_in : GoodIn wsX8_fits (va_wsS RX8 66 yX8_in wsX8_in) := goodIn_app (goodIn_of _ (by decide +kernel)) ggX8_fits_X8_in
set_option maxRecDepth 20000 in
theorem ggX8_fits_X8_goesWell : GoodIn wsX8_fits wsX8_goesWell := goodIn_r _ [13, 14, 35, 36, 37, 38, 39, 40, 41, 42, 43, 44, 45, 46, 47, 48, 49, 50, 51, 52, 53, 54, 55] (by decide +kernel) (by decide +kernel)
set_option maxRecDepth 20000 in
theorem gX8_fits_X8_goesWell : GoodIn wsX8_fits (wsV RX8 78 RX8 yX8_goesWell wsX8_goesWell) := goodIn_app (goodIn_of _ (by decide +kernel)) ggX8_fits_X8_goesWell
set_option maxRecDepth 20000 in
theorem ggX8_fits_X8_between : GoodIn wsX8_fits wsX8_between := goodIn_r _ [18, 19, 2, 20, 21, 22, 23, 5, 24, 25, 26, 27, 28, 29, 30, 31, 32, 33, 34, 35, 36, 37, 38, 39, 40, 41, 42, 43, 44, 45, 46, 47, 48, 49, 50, 51, 52, 53, 54, 55] (by decide +kernel) (by decide +kernel)
set_option maxRecDepth 20000 in
theorem gX8_fits_X8_between : GoodIn wsX8_fits (wsV RX8 95 RX8 yX8_between wsX8_between) := goodIn_app (goodIn_of _ (by decide +kernel)) ggX8_fits_X8_between
theorem dX8_fits_0 : decode cX8_fits 0 = .ok (.iload_n 2, 1) := by decide +kernel
theorem dX8_fits_1 : decode cX8_fits 1 = .ok (.invokestatic 74, 3) := by decide +kernel
theorem dX8_fits_4 : decode cX8_fits 4 = .ok (.ifCond .eq 25, 3) := by decide +kernel
theorem dX8_fits_7 : decode cX8_fits 7 = .ok (.iload_n 3, 1) := by decide +kernel
theorem dX8_fits_8 : decode cX8_fits 8 = .ok (.iconst 1, 1) := by decide +kernel
theorem dX8_fits_9 : decode cX8_fits 9 = .ok (.bipush 32, 2) := by decide +kernel
theorem dX8_fits_11 : decode cX8_fits 11 = .ok (.invokestatic 66, 3) := by decide +kernel
theorem dX8_fits_14 : decode cX8_fits 14 = .ok (.ifCond .eq 15, 3) := by decide +kernel
theorem dX8_fits_17 : decode cX8_fits 17 = .ok (.iload 4, 2) := by decide +kernel
theorem dX8_fits_19 : decode cX8_fits 19 = .ok (.invokestatic 74, 3) := by decide +kernel
theorem dX8_fits_22 : decode cX8_fits 22 = .ok (.ifCond .eq 7, 3) := by decide +kernel
theorem dX8_fits_25 : decode cX8_fits 25 = .ok (.iconst 1, 1) := by decide +kernel
theorem dX8_fits_26 : decode cX8_fits 26 = .ok (.goto 4, 3) := by decide +kernel
theorem dX8_fits_29 : decode cX8_fits 29 = .ok (.iconst 0, 1) := by decide +kernel
theorem dX8_fits_30 : decode cX8_fits 30 = .ok (.istore 5, 2) := by decide +kernel
theorem dX8_fits_32 : decode cX8_fits 32 = .ok (.aload_n 0, 1) := by decide +kernel
theorem dX8_fits_33 : decode cX8_fits 33 = .ok (.iload_n 1, 1) := by decide +kernel
theorem dX8_fits_34 : decode cX8_fits 34 = .ok (.iconst 0, 1) := by decide +kernel
theorem dX8_fits_35 : decode cX8_fits 35 = .ok (.aload_n 0, 1) := by decide +kernel
theorem dX8_fits_36 : decode cX8_fits 36 = .ok (.getfield 88, 3) := by decide +kernel
theorem dX8_fits_39 : decode cX8_fits 39 = .ok (.iconst 1, 1) := by decide +kernel
theorem dX8_fits_40 : decode cX8_fits 40 = .ok (.isub, 1) := by decide +kernel
theorem dX8_fits_41 : decode cX8_fits 41 = .ok (.invokestatic 66, 3) := by decide +kernel
theorem dX8_fits_44 : decode cX8_fits 44 = .ok (.ifCond .ne 7, 3) := by decide +kernel
theorem dX8_fits_47 : decode cX8_fits 47 = .ok (.iconst 1, 1) := by decide +kernel
theorem dX8_fits_48 : decode cX8_fits 48 = .ok (.goto 13, 3) := by decide +kernel
theorem dX8_fits_51 : decode cX8_fits 51 = .ok (.iload 5, 2) := by decide +kernel
theorem dX8_fits_53 : decode cX8_fits 53 = .ok (.ifCond .eq 7, 3) := by decide +kernel
theorem dX8_fits_56 : decode cX8_fits 56 = .ok (.iconst 0, 1) := by decide +kernel
theorem dX8_fits_57 : decode cX8_fits 57 = .ok (.goto 4, 3) := by decide +kernel
theorem dX8_fits_60 : decode cX8_fits 60 = .ok (.iconst 2, 1) := by decide +kernel
theorem dX8_fits_61 : decode cX8_fits 61 = .ok (.invokevirtual 78, 3) := by decide +kernel
theorem dX8_fits_64 : decode cX8_fits 64 = .ok (.ifCond .eq 21, 3) := by decide +kernel
theorem dX8_fits_67 : decode cX8_fits 67 = .ok (.aload_n 0, 1) := by decide +kernel
theorem dX8_fits_68 : decode cX8_fits 68 = .ok (.iload_n 1, 1) := by decide +kernel
theorem dX8_fits_69 : decode cX8_fits 69 = .ok (.iload_n 2, 1) := by decide +kernel
theorem dX8_fits_70 : decode cX8_fits 70 = .ok (.iload_n 3, 1) := by decide +kernel
theorem dX8_fits_71 : decode cX8_fits 71 = .ok (.iload 4, 2) := by decide +kernel
theorem dX8_fits_73 : decode cX8_fits 73 = .ok (.invokevirtual 95, 3) := by decide +kernel
theorem dX8_fits_76 : decode cX8_fits 76 = .ok (.ldc 91, 2) := by decide +kernel
theorem dX8_fits_78 : decode cX8_fits 78 = .ok (.if_icmp .ge 7, 3) := by decide +kernel
theorem dX8_fits_81 : decode cX8_fits 81 = .ok (.iconst 1, 1) := by decide +kernel
theorem dX8_fits_82 : decode cX8_fits 82 = .ok (.goto 4, 3) := by decide +kernel
theorem dX8_fits_85 : decode cX8_fits 85 = .ok (.iconst 0, 1) := by decide +kernel
theorem dX8_fits_86 : decode cX8_fits 86 = .ok (.ireturn, 1) := by decide +kernel
set_option maxRecDepth 20000 in
theorem ggX8_isTune_X8_in : GoodIn wsX8_isTune wsX8_in := goodIn_r _ [4] (by decide +kernel) (by decide +kernel)
set_option maxRecDepth 20000 in
theorem gX8_isTune_X8_in : GoodIn wsX8_isTune (va_wsS RX8 66 yX8_in wsX8_in) := goodIn_app (goodIn_of _ (by decide +kernel)) ggX8_isTune_X8_in
theorem dX8_isTune_0 : decode cX8_isTune 0 = .ok (.iload_n 0, 1) := by decide +kernel
theorem dX8_isTune_1 : decode cX8_isTune 1 = .ok (.iconst 0, 1) := by decide +kernel
theorem dX8_isTune_2 : decode cX8_isTune 2 = .ok (.iconst 3, 1) := by decide +kernel
theorem dX8_isTune_3 : decode cX8_isTune 3 = .ok (.invokestatic 66, 3) := by decide +kernel
theorem dX8_isTune_6 : decode cX8_isTune 6 = .ok (.ireturn, 1) := by decide +kernel
set_option maxRecDepth 20000 in
theorem ggX8_addNote_X8_isTune : GoodIn wsX8_addNote wsX8_isTune := goodIn_r _ [8, 9, 10, 7, 11] (by decide +kernel) (by decide +kernel)
set_option maxRecDepth 20000 in
theorem gX8_addNote_X8_isTune : GoodIn wsX8_addNote (va_wsS RX8 99 yX8_isTune wsX8_isTune) := goodIn_app (goodIn_of _ (by decide +kernel)) ggX8_addNote_X8_isTune
set_option maxRecDepth 20000 in
theorem ggX8_addNote_X8_isPitch : GoodIn wsX8_addNote wsX8_isPitch := goodIn_r _ [14, 9, 10, 7, 11] (by decide +kernel) (by decide +kernel)
set_option maxRecDepth 20000 in
theorem gX8_addNote_X8_isPitch : GoodIn wsX8_addNote (va_wsS RX8 74 yX8_isPitch wsX8_isPitch) := goodIn_app (goodIn_of _ (by decide +kernel)) ggX8_addNote_X8_isPitch
set_option maxRecDepth 20000 in
theorem ggX8_addNote_X8_in : GoodIn wsX8_addNote wsX8_in := goodIn_r _ [11] (by decide +kernel) (by decide +kernel)
set_option maxRecDepth 20000 in
theorem gX8_addNote_X8_in : GoodIn wsX8_addNote (va_wsS RX8 66 yX8_in wsX8_in) := goodIn_app (goodIn_of _ (by decide +kernel)) ggX8_addNote_X8_in
set_option maxRecDepth 20000 in
theorem ggX8_addNote_X8_goesWell : GoodIn wsX8_addNote wsX8_goesWell := goodIn_r _ [18, 19, 20, 21, 22, 23, 24, 25, 26, 27, 28, 29, 30, 31, 32, 33, 34, 35, 36, 37, 38, 39, 40] (by decide +kernel) (by decide +kernel)
set_option maxRecDepth 20000 in
theorem gX8_addNote_X8_goesWell : GoodIn wsX8_addNote (wsV RX8 78 RX8 yX8_goesWell wsX8_goesWell) := goodIn_app (goodIn_of _ (by decide +kernel)) ggX8_addNote_X8_goesWell
theorem dX8_addNote_0 : decode cX8_addNote 0 = .ok (.iload_n 1, 1) := by decide +kernel
theorem dX8_addNote_1 : decode cX8_addNote 1 = .ok (.invokestatic 99, 3) := by decide +kernel
theorem dX8_addNote_4 : decode cX8_addNote 4 = .ok (.ifCond .eq 24, 3) := by decide +kernel
theorem dX8_addNote_7 : decode cX8_addNote 7 = .ok (.iload_n 2, 1) := by decide +kernel
theorem dX8_addNote_8 : decode cX8_addNote 8 = .ok (.invokestatic 74, 3) := by decide +kernel
theorem dX8_addNote_11 : decode cX8_addNote 11 = .ok (.ifCond .eq 17, 3) := by decide +kernel
theorem dX8_addNote_14 : decode cX8_addNote 14 = .ok (.iload_n 3, 1) := by decide +kernel
theorem dX8_addNote_15 : decode cX8_addNote 15 = .ok (.iconst 1, 1) := by decide +kernel
theorem dX8_addNote_16 : decode cX8_addNote 16 = .ok (.bipush 32, 2) := by decide +kernel
theorem dX8_addNote_18 : decode cX8_addNote 18 = .ok (.invokestatic 66, 3) := by decide +kernel
theorem dX8_addNote_21 : decode cX8_addNote 21 = .ok (.ifCond .eq 7, 3) := by decide +kernel
theorem dX8_addNote_24 : decode cX8_addNote 24 = .ok (.iconst 1, 1) := by decide +kernel
theorem dX8_addNote_25 : decode cX8_addNote 25 = .ok (.goto 4, 3) := by decide +kernel
theorem dX8_addNote_28 : decode cX8_addNote 28 = .ok (.iconst 0, 1) := by decide +kernel
theorem dX8_addNote_29 : decode cX8_addNote 29 = .ok (.istore 4, 2) := by decide +kernel
theorem dX8_addNote_31 : decode cX8_addNote 31 = .ok (.aload_n 0, 1) := by decide +kernel
theorem dX8_addNote_32 : decode cX8_addNote 32 = .ok (.iload 4, 2) := by decide +kernel
theorem dX8_addNote_34 : decode cX8_addNote 34 = .ok (.ifCond .ne 7, 3) := by decide +kernel
theorem dX8_addNote_37 : decode cX8_addNote 37 = .ok (.iconst 1, 1) := by decide +kernel
theorem dX8_addNote_38 : decode cX8_addNote 38 = .ok (.goto 19, 3) := by decide +kernel
theorem dX8_addNote_41 : decode cX8_addNote 41 = .ok (.aload_n 0, 1) := by decide +kernel
theorem dX8_addNote_42 : decode cX8_addNote 42 = .ok (.getfield 36, 3) := by decide +kernel
theorem dX8_addNote_45 : decode cX8_addNote 45 = .ok (.iload_n 1, 1) := by decide +kernel
theorem dX8_addNote_46 : decode cX8_addNote 46 = .ok (.iaload, 1) := by decide +kernel
theorem dX8_addNote_47 : decode cX8_addNote 47 = .ok (.bipush 10, 2) := by decide +kernel
theorem dX8_addNote_49 : decode cX8_addNote 49 = .ok (.if_icmp .ne 7, 3) := by decide +kernel
theorem dX8_addNote_52 : decode cX8_addNote 52 = .ok (.iconst 2, 1) := by decide +kernel
theorem dX8_addNote_53 : decode cX8_addNote 53 = .ok (.goto 4, 3) := by decide +kernel
theorem dX8_addNote_56 : decode cX8_addNote 56 = .ok (.iconst 0, 1) := by decide +kernel
theorem dX8_addNote_57 : decode cX8_addNote 57 = .ok (.invokevirtual 78, 3) := by decide +kernel
theorem dX8_addNote_60 : decode cX8_addNote 60 = .ok (.ifCond .ne 5, 3) := by decide +kernel
theorem dX8_addNote_63 : decode cX8_addNote 63 = .ok (.iconst 0, 1) := by decide +kernel
theorem dX8_addNote_64 : decode cX8_addNote 64 = .ok (.ireturn, 1) := by decide +kernel
theorem dX8_addNote_65 : decode cX8_addNote 65 = .ok (.bipush 10, 2) := by decide +kernel
theorem dX8_addNote_67 : decode cX8_addNote 67 = .ok (.iload_n 1, 1) := by decide +kernel
theorem dX8_addNote_68 : decode cX8_addNote 68 = .ok (.imul, 1) := by decide +kernel
theorem dX8_addNote_69 : decode cX8_addNote 69 = .ok (.aload_n 0, 1) := by decide +kernel
theorem dX8_addNote_70 : decode cX8_addNote 70 = .ok (.getfield 36, 3) := by decide +kernel
theorem dX8_addNote_73 : decode cX8_addNote 73 = .ok (.iload_n 1, 1) := by decide +kernel
theorem dX8_addNote_74 : decode cX8_addNote 74 = .ok (.iaload, 1) := by decide +kernel
theorem dX8_addNote_75 : decode cX8_addNote 75 = .ok (.iadd, 1) := by decide +kernel
theorem dX8_addNote_76 : decode cX8_addNote 76 = .ok (.istore 5, 2) := by decide +kernel
theorem dX8_addNote_78 : decode cX8_addNote 78 = .ok (.aload_n 0, 1) := by decide +kernel
theorem dX8_addNote_79 : decode cX8_addNote 79 = .ok (.getfield 26, 3) := by decide +kernel
theorem dX8_addNote_82 : decode cX8_addNote 82 = .ok (.iload 5, 2) := by decide +kernel
theorem dX8_addNote_84 : decode cX8_addNote 84 = .ok (.iload_n 2, 1) := by decide +kernel
theorem dX8_addNote_85 : decode cX8_addNote 85 = .ok (.iastore, 1) := by decide +kernel
theorem dX8_addNote_86 : decode cX8_addNote 86 = .ok (.aload_n 0, 1) := by decide +kernel
theorem dX8_addNote_87 : decode cX8_addNote 87 = .ok (.getfield 29, 3) := by decide +kernel
theorem dX8_addNote_90 : decode cX8_addNote 90 = .ok (.iload 5, 2) := by decide +kernel
theorem dX8_addNote_92 : decode cX8_addNote 92 = .ok (.iload_n 3, 1) := by decide +kernel
theorem dX8_addNote_93 : decode cX8_addNote 93 = .ok (.iastore, 1) := by decide +kernel
theorem dX8_addNote_94 : decode cX8_addNote 94 = .ok (.aload_n 0, 1) := by decide +kernel
theorem dX8_addNote_95 : decode cX8_addNote 95 = .ok (.getfield 32, 3) := by decide +kernel
theorem dX8_addNote_98 : decode cX8_addNote 98 = .ok (.iload 5, 2) := by decide +kernel
theorem dX8_addNote_100 : decode cX8_addNote 100 = .ok (.iconst 0, 1) := by decide +kernel
theorem dX8_addNote_101 : decode cX8_addNote 101 = .ok (.bastore, 1) := by decide +kernel
theorem dX8_addNote_102 : decode cX8_addNote 102 = .ok (.aload_n 0, 1) := by decide +kernel
theorem dX8_addNote_103 : decode cX8_addNote 103 = .ok (.getfield 36, 3) := by decide +kernel
theorem dX8_addNote_106 : decode cX8_addNote 106 = .ok (.iload_n 1, 1) := by decide +kernel
theorem dX8_addNote_107 : decode cX8_addNote 107 = .ok (.iaload, 1) := by decide +kernel
theorem dX8_addNote_108 : decode cX8_addNote 108 = .ok (.ifCond .le 13, 3) := by decide +kernel
theorem dX8_addNote_111 : decode cX8_addNote 111 = .ok (.aload_n 0, 1) := by decide +kernel
theorem dX8_addNote_112 : decode cX8_addNote 112 = .ok (.getfield 32, 3) := by decide +kernel
theorem dX8_addNote_115 : decode cX8_addNote 115 = .ok (.iload 5, 2) := by decide +kernel
theorem dX8_addNote_117 : decode cX8_addNote 117 = .ok (.iconst 1, 1) := by decide +kernel
theorem dX8_addNote_118 : decode cX8_addNote 118 = .ok (.isub, 1) := by decide +kernel
theorem dX8_addNote_119 : decode cX8_addNote 119 = .ok (.iconst 0, 1) := by decide +kernel
theorem dX8_addNote_120 : decode cX8_addNote 120 = .ok (.bastore, 1) := by decide +kernel
theorem dX8_addNote_121 : decode cX8_addNote 121 = .ok (.aload_n 0, 1) := by decide +kernel
theorem dX8_addNote_122 : decode cX8_addNote 122 = .ok (.getfield 36, 3) := by decide +kernel
theorem dX8_addNote_125 : decode cX8_addNote 125 = .ok (.iload_n 1, 1) := by decide +kernel
theorem dX8_addNote_126 : decode cX8_addNote 126 = .ok (.dup2, 1) := by decide +kernel
theorem dX8_addNote_127 : decode cX8_addNote 127 = .ok (.iaload, 1) := by decide +kernel
theorem dX8_addNote_128 : decode cX8_addNote 128 = .ok (.iconst 1, 1) := by decide +kernel
theorem dX8_addNote_129 : decode cX8_addNote 129 = .ok (.iadd, 1) := by decide +kernel
theorem dX8_addNote_130 : decode cX8_addNote 130 = .ok (.iastore, 1) := by decide +kernel
theorem dX8_addNote_131 : decode cX8_addNote 131 = .ok (.aload_n 0, 1) := by decide +kernel
theorem dX8_addNote_132 : decode cX8_addNote 132 = .ok (.getfield 36, 3) := by decide +kernel
theorem dX8_addNote_135 : decode cX8_addNote 135 = .ok (.iload_n 1, 1) := by decide +kernel
theorem dX8_addNote_136 : decode cX8_addNote 136 = .ok (.iaload, 1) := by decide +kernel
theorem dX8_addNote_137 : decode cX8_addNote 137 = .ok (.ireturn, 1) := by decide +kernel
set_option maxRecDepth 20000 in
theorem ggX8_removeNote_X8_isTune : GoodIn wsX8_removeNote wsX8_isTune := goodIn_r _ [6, 7, 8, 5, 9] (by decide +kernel) (by decide +kernel)
set_option maxRecDepth 20000 in
theorem gX8_removeNote_X8_isTune : GoodIn wsX8_removeNote (va_wsS RX8 99 yX8_isTune wsX8_isTune) := goodIn_app (goodIn_of _ (by decide +kernel)) ggX8_removeNote_X8_isTune
set_option maxRecDepth 20000 in
theorem ggX8_removeNote_X8_goesWell : GoodIn wsX8_removeNote wsX8_goesWell := goodIn_r _ [13, 14, 15, 16, 17, 18, 19, 20, 21, 22, 23, 24, 25, 26, 27, 28, 29, 30, 31, 32, 33, 34, 35] (by decide +kernel) (by decide +kernel)
set_option maxRecDepth 20000 in
theorem gX8_removeNote_X8_goesWell : GoodIn wsX8_removeNote (wsV RX8 78 RX8 yX8_goesWell wsX8_goesWell) := goodIn_app (goodIn_of _ (by decide +kernel)) ggX8_removeNote_X8_goesWell
theorem dX8_removeNote_0 : decode cX8_removeNote 0 = .ok (.aload_n 0, 1) := by decide +kernel
theorem dX8_removeNote_1 : decode cX8_removeNote 1 = .ok (.iload_n 1, 1) := by decide +kernel
theorem dX8_removeNote_2 : decode cX8_removeNote 2 = .ok (.invokestatic 99, 3) := by decide +kernel
theorem dX8_removeNote_5 : decode cX8_removeNote 5 = .ok (.ifCond .ne 7, 3) := by decide +kernel
theorem dX8_removeNote_8 : decode cX8_removeNote 8 = .ok (.iconst 1, 1) := by decide +kernel
theorem dX8_removeNote_9 : decode cX8_removeNote 9 = .ok (.goto 17, 3) := by decide +kernel
theorem dX8_removeNote_12 : decode cX8_removeNote 12 = .ok (.aload_n 0, 1) := by decide +kernel
theorem dX8_removeNote_13 : decode cX8_removeNote 13 = .ok (.getfield 36, 3) := by decide +kernel
theorem dX8_removeNote_16 : decode cX8_removeNote 16 = .ok (.iload_n 1, 1) := by decide +kernel
theorem dX8_removeNote_17 : decode cX8_removeNote 17 = .ok (.iaload, 1) := by decide +kernel
theorem dX8_removeNote_18 : decode cX8_removeNote 18 = .ok (.ifCond .ne 7, 3) := by decide +kernel
theorem dX8_removeNote_21 : decode cX8_removeNote 21 = .ok (.iconst 2, 1) := by decide +kernel
theorem dX8_removeNote_22 : decode cX8_removeNote 22 = .ok (.goto 4, 3) := by decide +kernel
theorem dX8_removeNote_25 : decode cX8_removeNote 25 = .ok (.iconst 0, 1) := by decide +kernel
theorem dX8_removeNote_26 : decode cX8_removeNote 26 = .ok (.invokevirtual 78, 3) := by decide +kernel
theorem dX8_removeNote_29 : decode cX8_removeNote 29 = .ok (.ifCond .ne 5, 3) := by decide +kernel
theorem dX8_removeNote_32 : decode cX8_removeNote 32 = .ok (.iconst 0, 1) := by decide +kernel
theorem dX8_removeNote_33 : decode cX8_removeNote 33 = .ok (.ireturn, 1) := by decide +kernel
theorem dX8_removeNote_34 : decode cX8_removeNote 34 = .ok (.aload_n 0, 1) := by decide +kernel
theorem dX8_removeNote_35 : decode cX8_removeNote 35 = .ok (.getfield 36, 3) := by decide +kernel
theorem dX8_removeNote_38 : decode cX8_removeNote 38 = .ok (.iload_n 1, 1) := by decide +kernel
theorem dX8_removeNote_39 : decode cX8_removeNote 39 = .ok (.dup2, 1) := by decide +kernel
theorem dX8_removeNote_40 : decode cX8_removeNote 40 = .ok (.iaload, 1) := by decide +kernel
theorem dX8_removeNote_41 : decode cX8_removeNote 41 = .ok (.iconst 1, 1) := by decide +kernel
theorem dX8_removeNote_42 : decode cX8_removeNote 42 = .ok (.isub, 1) := by decide +kernel
theorem dX8_removeNote_43 : decode cX8_removeNote 43 = .ok (.iastore, 1) := by decide +kernel
theorem dX8_removeNote_44 : decode cX8_removeNote 44 = .ok (.aload_n 0, 1) := by decide +kernel
theorem dX8_removeNote_45 : decode cX8_removeNote 45 = .ok (.getfield 26, 3) := by decide +kernel
theorem dX8_removeNote_48 : decode cX8_removeNote 48 = .ok (.bipush 10, 2) := by decide +kernel
theorem dX8_removeNote_50 : decode cX8_removeNote 50 = .ok (.iload_n 1, 1) := by decide +kernel
theorem dX8_removeNote_51 : decode cX8_removeNote 51 = .ok (.imul, 1) := by decide +kernel
theorem dX8_removeNote_52 : decode cX8_removeNote 52 = .ok (.aload_n 0, 1) := by decide +kernel
theorem dX8_removeNote_53 : decode cX8_removeNote 53 = .ok (.getfield 36, 3) := by decide +kernel
theorem dX8_removeNote_56 : decode cX8_removeNote 56 = .ok (.iload_n 1, 1) := by decide +kernel
theorem dX8_removeNote_57 : decode cX8_removeNote 57 = .ok (.iaload, 1) := by decide +kernel
theorem dX8_removeNote_58 : decode cX8_removeNote 58 = .ok (.iadd, 1) := by decide +kernel
theorem dX8_removeNote_59 : decode cX8_removeNote 59 = .ok (.iaload, 1) := by decide +kernel
theorem dX8_removeNote_60 : decode cX8_removeNote 60 = .ok (.ireturn, 1) := by decide +kernel
set_option maxRecDepth 20000 in
theorem ggX8_isGap_X8_in : GoodIn wsX8_isGap wsX8_in := goodIn_r _ [5] (by decide +kernel) (by decide +kernel)
set_option maxRecDepth 20000 in
theorem gX8_isGap_X8_in : GoodIn wsX8_isGap (va_wsS RX8 66 yX8_in wsX8_in) := goodIn_app (goodIn_of _ (by decide +kernel)) ggX8_isGap_X8_in
theorem dX8_isGap_0 : decode cX8_isGap 0 = .ok (.iload_n 2, 1) := by decide +kernel
theorem dX8_isGap_1 : decode cX8_isGap 1 = .ok (.iconst 0, 1) := by decide +kernel
theorem dX8_isGap_2 : decode cX8_isGap 2 = .ok (.aload_n 0, 1) := by decide +kernel
theorem dX8_isGap_3 : decode cX8_isGap 3 = .ok (.getfield 36, 3) := by decide +kernel
theorem dX8_isGap_6 : decode cX8_isGap 6 = .ok (.iload_n 1, 1) := by decide +kernel
theorem dX8_isGap_7 : decode cX8_isGap 7 = .ok (.iaload, 1) := by decide +kernel
theorem dX8_isGap_8 : decode cX8_isGap 8 = .ok (.iconst 2, 1) := by decide +kernel
theorem dX8_isGap_9 : decode cX8_isGap 9 = .ok (.isub, 1) := by decide +kernel
theorem dX8_isGap_10 : decode cX8_isGap 10 = .ok (.invokestatic 66, 3) := by decide +kernel
theorem dX8_isGap_13 : decode cX8_isGap 13 = .ok (.ireturn, 1) := by decide +kernel
set_option maxRecDepth 20000 in
theorem ggX8_setWish_X8_isTune : GoodIn wsX8_setWish wsX8_isTune := goodIn_r _ [5, 6, 7, 4, 8] (by decide +kernel) (by decide +kernel)
set_option maxRecDepth 20000 in
theorem gX8_setWish_X8_isTune : GoodIn wsX8_setWish (va_wsS RX8 99 yX8_isTune wsX8_isTune) := goodIn_app (goodIn_of _ (by decide +kernel)) ggX8_setWish_X8_isTune
set_option maxRecDepth 20000 in
theorem ggX8_setWish_X8_isGap : GoodIn wsX8_setWish wsX8_isGap := goodIn_r _ [12, 13, 6, 7, 4, 8, 19, 20, 21, 22, 23, 24, 25, 26, 27, 28, 29, 30, 31, 32, 33, 34, 35, 36, 37, 38, 39] (by decide +kernel) (by decide +kernel)
set_option maxRecDepth 20000 in
theorem gX8_setWish_X8_isGap : GoodIn wsX8_setWish (wsV RX8 102 RX8 yX8_isGap wsX8_isGap) := goodIn_app (goodIn_of _ (by decide +kernel)) ggX8_setWish_X8_isGap
set_option maxRecDepth 20000 in
theorem ggX8_setWish_X8_goesWell : GoodIn wsX8_setWish wsX8_goesWell := goodIn_r _ [17, 18, 19, 20, 21, 22, 23, 24, 25, 26, 27, 28, 29, 30, 31, 32, 33, 34, 35, 36, 37, 38, 39] (by decide +kernel) (by decide +kernel)
set_option maxRecDepth 20000 in
theorem gX8_setWish_X8_goesWell : GoodIn wsX8_setWish (wsV RX8 78 RX8 yX8_goesWell wsX8_goesWell) := goodIn_app (goodIn_of _ (by decide +kernel)) ggX8_setWish_X8_goesWell
theorem dX8_setWish_0 : decode cX8_setWish 0 = .ok (.aload_n 0, 1) := by decide +kernel
theorem dX8_setWish_1 : decode cX8_setWish 1 = .ok (.iload_n 1, 1) := by decide +kernel
theorem dX8_setWish_2 : decode cX8_setWish 2 = .ok (.invokestatic 99, 3) := by decide +kernel
theorem dX8_setWish_5 : decode cX8_setWish 5 = .ok (.ifCond .ne 7, 3) := by decide +kernel
theorem dX8_setWish_8 : decode cX8_setWish 8 = .ok (.iconst 1, 1) := by decide +kernel
theorem dX8_setWish_9 : decode cX8_setWish 9 = .ok (.goto 17, 3) := by decide +kernel
theorem dX8_setWish_12 : decode cX8_setWish 12 = .ok (.aload_n 0, 1) := by decide +kernel
theorem dX8_setWish_13 : decode cX8_setWish 13 = .ok (.iload_n 1, 1) := by decide +kernel
theorem dX8_setWish_14 : decode cX8_setWish 14 = .ok (.iload_n 2, 1) := by decide +kernel
theorem dX8_setWish_15 : decode cX8_setWish 15 = .ok (.invokevirtual 102, 3) := by decide +kernel
theorem dX8_setWish_18 : decode cX8_setWish 18 = .ok (.ifCond .eq 7, 3) := by decide +kernel
theorem dX8_setWish_21 : decode cX8_setWish 21 = .ok (.iconst 0, 1) := by decide +kernel
theorem dX8_setWish_22 : decode cX8_setWish 22 = .ok (.goto 4, 3) := by decide +kernel
theorem dX8_setWish_25 : decode cX8_setWish 25 = .ok (.iconst 2, 1) := by decide +kernel
theorem dX8_setWish_26 : decode cX8_setWish 26 = .ok (.invokevirtual 78, 3) := by decide +kernel
theorem dX8_setWish_29 : decode cX8_setWish 29 = .ok (.ifCond .ne 5, 3) := by decide +kernel
theorem dX8_setWish_32 : decode cX8_setWish 32 = .ok (.iconst 0, 1) := by decide +kernel
theorem dX8_setWish_33 : decode cX8_setWish 33 = .ok (.ireturn, 1) := by decide +kernel
theorem dX8_setWish_34 : decode cX8_setWish 34 = .ok (.aload_n 0, 1) := by decide +kernel
theorem dX8_setWish_35 : decode cX8_setWish 35 = .ok (.getfield 32, 3) := by decide +kernel
theorem dX8_setWish_38 : decode cX8_setWish 38 = .ok (.bipush 10, 2) := by decide +kernel
theorem dX8_setWish_40 : decode cX8_setWish 40 = .ok (.iload_n 1, 1) := by decide +kernel
theorem dX8_setWish_41 : decode cX8_setWish 41 = .ok (.imul, 1) := by decide +kernel
theorem dX8_setWish_42 : decode cX8_setWish 42 = .ok (.iload_n 2, 1) := by decide +kernel
theorem dX8_setWish_43 : decode cX8_setWish 43 = .ok (.iadd, 1) := by decide +kernel
theorem dX8_setWish_44 : decode cX8_setWish 44 = .ok (.baload, 1) := by decide +kernel
theorem dX8_setWish_45 : decode cX8_setWish 45 = .ok (.istore 4, 2) := by decide +kernel
theorem dX8_setWish_47 : decode cX8_setWish 47 = .ok (.aload_n 0, 1) := by decide +kernel
theorem dX8_setWish_48 : decode cX8_setWish 48 = .ok (.getfield 32, 3) := by decide +kernel
theorem dX8_setWish_51 : decode cX8_setWish 51 = .ok (.bipush 10, 2) := by decide +kernel
theorem dX8_setWish_53 : decode cX8_setWish 53 = .ok (.iload_n 1, 1) := by decide +kernel
theorem dX8_setWish_54 : decode cX8_setWish 54 = .ok (.imul, 1) := by decide +kernel
theorem dX8_setWish_55 : decode cX8_setWish 55 = .ok (.iload_n 2, 1) := by decide +kernel
theorem dX8_setWish_56 : decode cX8_setWish 56 = .ok (.iadd, 1) := by decide +kernel
theorem dX8_setWish_57 : decode cX8_setWish 57 = .ok (.iload_n 3, 1) := by decide +kernel
theorem dX8_setWish_58 : decode cX8_setWish 58 = .ok (.bastore, 1) := by decide +kernel
theorem dX8_setWish_59 : decode cX8_setWish 59 = .ok (.iload 4, 2) := by decide +kernel
theorem dX8_setWish_61 : decode cX8_setWish 61 = .ok (.ireturn, 1) := by decide +kernel
set_option maxRecDepth 20000 in
theorem ggX8_notes_X8_isTune : GoodIn wsX8_notes wsX8_isTune := goodIn_r _ [5, 6, 7, 4, 8] (by decide +kernel) (by decide +kernel)
set_option maxRecDepth 20000 in
theorem gX8_notes_X8_isTune : GoodIn wsX8_notes (va_wsS RX8 99 yX8_isTune wsX8_isTune) := goodIn_app (goodIn_of _ (by decide +kernel)) ggX8_notes_X8_isTune
set_option maxRecDepth 20000 in
theorem ggX8_notes_X8_goesWell : GoodIn wsX8_notes wsX8_goesWell := goodIn_r _ [12, 13, 14, 15, 16, 17, 18, 19, 20, 21, 22, 23, 24, 25, 26, 27, 28, 29, 30, 31, 32, 33, 34] (by decide +kernel) (by decide +kernel)
set_option maxRecDepth 20000 in
theorem gX8_notes_X8_goesWell : GoodIn wsX8_notes (wsV RX8 78 RX8 yX8_goesWell wsX8_goesWell) := goodIn_app (goodIn_of _ (by decide +kernel)) ggX8_notes_X8_goesWell
theorem dX8_notes_0 : decode cX8_notes 0 = .ok (.aload_n 0, 1) := by decide +kernel
theorem dX8_notes_1 : decode cX8_notes 1 = .ok (.iload_n 1, 1) := by decide +kernel
theorem dX8_notes_2 : decode cX8_notes 2 = .ok (.invokestatic 99, 3) := by decide +kernel
theorem dX8_notes_5 : decode cX8_notes 5 = .ok (.ifCond .eq 7, 3) := by decide +kernel
theorem dX8_notes_8 : decode cX8_notes 8 = .ok (.iconst 0, 1) := by decide +kernel
theorem dX8_notes_9 : decode cX8_notes 9 = .ok (.goto 4, 3) := by decide +kernel
theorem dX8_notes_12 : decode cX8_notes 12 = .ok (.iconst 1, 1) := by decide +kernel
theorem dX8_notes_13 : decode cX8_notes 13 = .ok (.invokevirtual 78, 3) := by decide +kernel
theorem dX8_notes_16 : decode cX8_notes 16 = .ok (.ifCond .eq 12, 3) := by decide +kernel
theorem dX8_notes_19 : decode cX8_notes 19 = .ok (.aload_n 0, 1) := by decide +kernel
theorem dX8_notes_20 : decode cX8_notes 20 = .ok (.getfield 36, 3) := by decide +kernel
theorem dX8_notes_23 : decode cX8_notes 23 = .ok (.iload_n 1, 1) := by decide +kernel
theorem dX8_notes_24 : decode cX8_notes 24 = .ok (.iaload, 1) := by decide +kernel
theorem dX8_notes_25 : decode cX8_notes 25 = .ok (.goto 4, 3) := by decide +kernel
theorem dX8_notes_28 : decode cX8_notes 28 = .ok (.iconst 0, 1) := by decide +kernel
theorem dX8_notes_29 : decode cX8_notes 29 = .ok (.ireturn, 1) := by decide +kernel
theorem dX8_append_0 : decode cX8_append 0 = .ok (.iconst 0, 1) := by decide +kernel
theorem dX8_append_1 : decode cX8_append 1 = .ok (.istore_n 2, 1) := by decide +kernel
theorem dX8_append_2 : decode cX8_append 2 = .ok (.iload_n 2, 1) := by decide +kernel
theorem dX8_append_3 : decode cX8_append 3 = .ok (.aload_n 0, 1) := by decide +kernel
theorem dX8_append_4 : decode cX8_append 4 = .ok (.getfield 36, 3) := by decide +kernel
theorem dX8_append_7 : decode cX8_append 7 = .ok (.iload_n 1, 1) := by decide +kernel
theorem dX8_append_8 : decode cX8_append 8 = .ok (.iaload, 1) := by decide +kernel
theorem dX8_append_9 : decode cX8_append 9 = .ok (.if_icmp .ge 99, 3) := by decide +kernel
theorem dX8_append_12 : decode cX8_append 12 = .ok (.aload_n 0, 1) := by decide +kernel
theorem dX8_append_13 : decode cX8_append 13 = .ok (.getfield 39, 3) := by decide +kernel
theorem dX8_append_16 : decode cX8_append 16 = .ok (.aload_n 0, 1) := by decide +kernel
theorem dX8_append_17 : decode cX8_append 17 = .ok (.getfield 105, 3) := by decide +kernel
theorem dX8_append_20 : decode cX8_append 20 = .ok (.aload_n 0, 1) := by decide +kernel
theorem dX8_append_21 : decode cX8_append 21 = .ok (.getfield 26, 3) := by decide +kernel
theorem dX8_append_24 : decode cX8_append 24 = .ok (.bipush 10, 2) := by decide +kernel
theorem dX8_append_26 : decode cX8_append 26 = .ok (.iload_n 1, 1) := by decide +kernel
theorem dX8_append_27 : decode cX8_append 27 = .ok (.imul, 1) := by decide +kernel
theorem dX8_append_28 : decode cX8_append 28 = .ok (.iload_n 2, 1) := by decide +kernel
theorem dX8_append_29 : decode cX8_append 29 = .ok (.iadd, 1) := by decide +kernel
theorem dX8_append_30 : decode cX8_append 30 = .ok (.iaload, 1) := by decide +kernel
theorem dX8_append_31 : decode cX8_append 31 = .ok (.iastore, 1) := by decide +kernel
theorem dX8_append_32 : decode cX8_append 32 = .ok (.aload_n 0, 1) := by decide +kernel
theorem dX8_append_33 : decode cX8_append 33 = .ok (.getfield 42, 3) := by decide +kernel
theorem dX8_append_36 : decode cX8_append 36 = .ok (.aload_n 0, 1) := by decide +kernel
theorem dX8_append_37 : decode cX8_append 37 = .ok (.getfield 105, 3) := by decide +kernel
theorem dX8_append_40 : decode cX8_append 40 = .ok (.aload_n 0, 1) := by decide +kernel
theorem dX8_append_41 : decode cX8_append 41 = .ok (.getfield 29, 3) := by decide +kernel
theorem dX8_append_44 : decode cX8_append 44 = .ok (.bipush 10, 2) := by decide +kernel
theorem dX8_append_46 : decode cX8_append 46 = .ok (.iload_n 1, 1) := by decide +kernel
theorem dX8_append_47 : decode cX8_append 47 = .ok (.imul, 1) := by decide +kernel
theorem dX8_append_48 : decode cX8_append 48 = .ok (.iload_n 2, 1) := by decide +kernel
theorem dX8_append_49 : decode cX8_append 49 = .ok (.iadd, 1) := by decide +kernel
theorem dX8_append_50 : decode cX8_append 50 = .ok (.iaload, 1) := by decide +kernel
theorem dX8_append_51 : decode cX8_append 51 = .ok (.iastore, 1) := by decide +kernel
theorem dX8_append_52 : decode cX8_append 52 = .ok (.aload_n 0, 1) := by decide +kernel
theorem dX8_append_53 : decode cX8_append 53 = .ok (.getfield 45, 3) := by decide +kernel
theorem dX8_append_56 : decode cX8_append 56 = .ok (.aload_n 0, 1) := by decide +kernel
theorem dX8_append_57 : decode cX8_append 57 = .ok (.getfield 105, 3) := by decide +kernel
theorem dX8_append_60 : decode cX8_append 60 = .ok (.iload_n 2, 1) := by decide +kernel
theorem dX8_append_61 : decode cX8_append 61 = .ok (.iconst 1, 1) := by decide +kernel
theorem dX8_append_62 : decode cX8_append 62 = .ok (.iadd, 1) := by decide +kernel
theorem dX8_append_63 : decode cX8_append 63 = .ok (.aload_n 0, 1) := by decide +kernel
theorem dX8_append_64 : decode cX8_append 64 = .ok (.getfield 36, 3) := by decide +kernel
theorem dX8_append_67 : decode cX8_append 67 = .ok (.iload_n 1, 1) := by decide +kernel
theorem dX8_append_68 : decode cX8_append 68 = .ok (.iaload, 1) := by decide +kernel
theorem dX8_append_69 : decode cX8_append 69 = .ok (.if_icmp .ge 21, 3) := by decide +kernel
theorem dX8_append_72 : decode cX8_append 72 = .ok (.aload_n 0, 1) := by decide +kernel
theorem dX8_append_73 : decode cX8_append 73 = .ok (.getfield 32, 3) := by decide +kernel
theorem dX8_append_76 : decode cX8_append 76 = .ok (.bipush 10, 2) := by decide +kernel
theorem dX8_append_78 : decode cX8_append 78 = .ok (.iload_n 1, 1) := by decide +kernel
theorem dX8_append_79 : decode cX8_append 79 = .ok (.imul, 1) := by decide +kernel
theorem dX8_append_80 : decode cX8_append 80 = .ok (.iload_n 2, 1) := by decide +kernel
theorem dX8_append_81 : decode cX8_append 81 = .ok (.iadd, 1) := by decide +kernel
theorem dX8_append_82 : decode cX8_append 82 = .ok (.baload, 1) := by decide +kernel
theorem dX8_append_83 : decode cX8_append 83 = .ok (.ifCond .eq 7, 3) := by decide +kernel
theorem dX8_append_86 : decode cX8_append 86 = .ok (.iconst 1, 1) := by decide +kernel
theorem dX8_append_87 : decode cX8_append 87 = .ok (.goto 4, 3) := by decide +kernel
theorem dX8_append_90 : decode cX8_append 90 = .ok (.iconst 0, 1) := by decide +kernel
theorem dX8_append_91 : decode cX8_append 91 = .ok (.bastore, 1) := by decide +kernel
theorem dX8_append_92 : decode cX8_append 92 = .ok (.aload_n 0, 1) := by decide +kernel
theorem dX8_append_93 : decode cX8_append 93 = .ok (.dup, 1) := by decide +kernel
theorem dX8_append_94 : decode cX8_append 94 = .ok (.getfield 105, 3) := by decide +kernel
theorem dX8_append_97 : decode cX8_append 97 = .ok (.iconst 1, 1) := by decide +kernel
theorem dX8_append_98 : decode cX8_append 98 = .ok (.iadd, 1) := by decide +kernel
theorem dX8_append_99 : decode cX8_append 99 = .ok (.putfield 105, 3) := by decide +kernel
theorem dX8_append_102 : decode cX8_append 102 = .ok (.iinc 2 1, 3) := by decide +kernel
theorem dX8_append_105 : decode cX8_append 105 = .ok (.goto (-103), 3) := by decide +kernel
theorem dX8_append_108 : decode cX8_append 108 = .ok (.return_, 1) := by decide +kernel
set_option maxRecDepth 20000 in
theorem ggX8_at_X8_between : GoodIn wsX8_at wsX8_between := goodIn_r _ [9, 10, 4, 11, 12, 13, 14, 8, 15, 16, 17, 18, 19, 20, 21, 22, 23, 24, 25, 26, 27, 28, 29, 30, 31, 32, 33, 34, 35, 36, 37, 38, 39, 40, 41, 42, 43, 44, 45, 46] (by decide +kernel) (by decide +kernel)
set_option maxRecDepth 20000 in
theorem gX8_at_X8_between : GoodIn wsX8_at (wsV RX8 95 RX8 yX8_between wsX8_between) := goodIn_app (goodIn_of _ (by decide +kernel)) ggX8_at_X8_between
theorem dX8_at_0 : decode cX8_at 0 = .ok (.aload_n 0, 1) := by decide +kernel
theorem dX8_at_1 : decode cX8_at 1 = .ok (.iload_n 2, 1) := by decide +kernel
theorem dX8_at_2 : decode cX8_at 2 = .ok (.aload_n 0, 1) := by decide +kernel
theorem dX8_at_3 : decode cX8_at 3 = .ok (.getfield 39, 3) := by decide +kernel
theorem dX8_at_6 : decode cX8_at 6 = .ok (.iload_n 1, 1) := by decide +kernel
theorem dX8_at_7 : decode cX8_at 7 = .ok (.iaload, 1) := by decide +kernel
theorem dX8_at_8 : decode cX8_at 8 = .ok (.aload_n 0, 1) := by decide +kernel
theorem dX8_at_9 : decode cX8_at 9 = .ok (.getfield 42, 3) := by decide +kernel
theorem dX8_at_12 : decode cX8_at 12 = .ok (.iload_n 1, 1) := by decide +kernel
theorem dX8_at_13 : decode cX8_at 13 = .ok (.iaload, 1) := by decide +kernel
theorem dX8_at_14 : decode cX8_at 14 = .ok (.aload_n 0, 1) := by decide +kernel
theorem dX8_at_15 : decode cX8_at 15 = .ok (.getfield 39, 3) := by decide +kernel
theorem dX8_at_18 : decode cX8_at 18 = .ok (.iload_n 1, 1) := by decide +kernel
theorem dX8_at_19 : decode cX8_at 19 = .ok (.iconst 1, 1) := by decide +kernel
theorem dX8_at_20 : decode cX8_at 20 = .ok (.iadd, 1) := by decide +kernel
theorem dX8_at_21 : decode cX8_at 21 = .ok (.iaload, 1) := by decide +kernel
theorem dX8_at_22 : decode cX8_at 22 = .ok (.invokevirtual 95, 3) := by decide +kernel
theorem dX8_at_25 : decode cX8_at 25 = .ok (.istore_n 3, 1) := by decide +kernel
theorem dX8_at_26 : decode cX8_at 26 = .ok (.iload_n 2, 1) := by decide +kernel
theorem dX8_at_27 : decode cX8_at 27 = .ok (.iconst (-1), 1) := by decide +kernel
theorem dX8_at_28 : decode cX8_at 28 = .ok (.if_icmp .ne 17, 3) := by decide +kernel
theorem dX8_at_31 : decode cX8_at 31 = .ok (.aload_n 0, 1) := by decide +kernel
theorem dX8_at_32 : decode cX8_at 32 = .ok (.getfield 45, 3) := by decide +kernel
theorem dX8_at_35 : decode cX8_at 35 = .ok (.iload_n 1, 1) := by decide +kernel
theorem dX8_at_36 : decode cX8_at 36 = .ok (.baload, 1) := by decide +kernel
theorem dX8_at_37 : decode cX8_at 37 = .ok (.ifCond .eq 8, 3) := by decide +kernel
theorem dX8_at_40 : decode cX8_at 40 = .ok (.ldc 91, 2) := by decide +kernel
theorem dX8_at_42 : decode cX8_at 42 = .ok (.goto 4, 3) := by decide +kernel
theorem dX8_at_45 : decode cX8_at 45 = .ok (.iload_n 3, 1) := by decide +kernel
theorem dX8_at_46 : decode cX8_at 46 = .ok (.ireturn, 1) := by decide +kernel
set_option maxRecDepth 20000 in
theorem ggX8_count_X8_countAt : GoodIn wsX8_count wsX8_countAt := goodIn_r _ [9, 10, 11, 12, 3, 2, 13, 4, 14, 15, 16, 8, 17, 18, 19, 20, 21, 22, 23, 24, 25, 26, 27, 28, 29, 30, 31, 32, 33, 34, 35, 36, 37, 38, 39, 40, 41, 42, 43, 44, 45, 46, 47, 48, 49, 50, 51, 52, 53, 54, 55, 56, 57, 58, 59, 60, 61] (by decide +kernel) (by decide +kernel)
set_option maxRecDepth 20000 in
theorem gX8_count_X8_countAt : GoodIn wsX8_count (wsV RX8 108 RX8 yX8_countAt wsX8_countAt) := goodIn_app (goodIn_of _ (by decide +kernel)) ggX8_count_X8_countAt
theorem dX8_count_0 : decode cX8_count 0 = .ok (.aload_n 0, 1) := by decide +kernel
theorem dX8_count_1 : decode cX8_count 1 = .ok (.getfield 105, 3) := by decide +kernel
theorem dX8_count_4 : decode cX8_count 4 = .ok (.ifCond .le 12, 3) := by decide +kernel
theorem dX8_count_7 : decode cX8_count 7 = .ok (.aload_n 0, 1) := by decide +kernel
theorem dX8_count_8 : decode cX8_count 8 = .ok (.getfield 105, 3) := by decide +kernel
theorem dX8_count_11 : decode cX8_count 11 = .ok (.iconst 1, 1) := by decide +kernel
theorem dX8_count_12 : decode cX8_count 12 = .ok (.isub, 1) := by decide +kernel
theorem dX8_count_13 : decode cX8_count 13 = .ok (.goto 4, 3) := by decide +kernel
theorem dX8_count_16 : decode cX8_count 16 = .ok (.iconst 0, 1) := by decide +kernel
theorem dX8_count_17 : decode cX8_count 17 = .ok (.istore_n 1, 1) := by decide +kernel
theorem dX8_count_18 : decode cX8_count 18 = .ok (.iconst 0, 1) := by decide +kernel
theorem dX8_count_19 : decode cX8_count 19 = .ok (.istore_n 2, 1) := by decide +kernel
theorem dX8_count_20 : decode cX8_count 20 = .ok (.iload_n 2, 1) := by decide +kernel
theorem dX8_count_21 : decode cX8_count 21 = .ok (.bipush 8, 2) := by decide +kernel
theorem dX8_count_23 : decode cX8_count 23 = .ok (.if_icmp .gt 45, 3) := by decide +kernel
theorem dX8_count_26 : decode cX8_count 26 = .ok (.aload_n 0, 1) := by decide +kernel
theorem dX8_count_27 : decode cX8_count 27 = .ok (.getfield 48, 3) := by decide +kernel
theorem dX8_count_30 : decode cX8_count 30 = .ok (.bipush 9, 2) := by decide +kernel
theorem dX8_count_32 : decode cX8_count 32 = .ok (.iload_n 1, 1) := by decide +kernel
theorem dX8_count_33 : decode cX8_count 33 = .ok (.imul, 1) := by decide +kernel
theorem dX8_count_34 : decode cX8_count 34 = .ok (.iload_n 2, 1) := by decide +kernel
theorem dX8_count_35 : decode cX8_count 35 = .ok (.iadd, 1) := by decide +kernel
theorem dX8_count_36 : decode cX8_count 36 = .ok (.iconst 0, 1) := by decide +kernel
theorem dX8_count_37 : decode cX8_count 37 = .ok (.iastore, 1) := by decide +kernel
theorem dX8_count_38 : decode cX8_count 38 = .ok (.aload_n 0, 1) := by decide +kernel
theorem dX8_count_39 : decode cX8_count 39 = .ok (.getfield 51, 3) := by decide +kernel
theorem dX8_count_42 : decode cX8_count 42 = .ok (.bipush 9, 2) := by decide +kernel
theorem dX8_count_44 : decode cX8_count 44 = .ok (.iload_n 1, 1) := by decide +kernel
theorem dX8_count_45 : decode cX8_count 45 = .ok (.imul, 1) := by decide +kernel
theorem dX8_count_46 : decode cX8_count 46 = .ok (.iload_n 2, 1) := by decide +kernel
theorem dX8_count_47 : decode cX8_count 47 = .ok (.iadd, 1) := by decide +kernel
theorem dX8_count_48 : decode cX8_count 48 = .ok (.iconst 1, 1) := by decide +kernel
theorem dX8_count_49 : decode cX8_count 49 = .ok (.iastore, 1) := by decide +kernel
theorem dX8_count_50 : decode cX8_count 50 = .ok (.aload_n 0, 1) := by decide +kernel
theorem dX8_count_51 : decode cX8_count 51 = .ok (.getfield 54, 3) := by decide +kernel
theorem dX8_count_54 : decode cX8_count 54 = .ok (.bipush 9, 2) := by decide +kernel
theorem dX8_count_56 : decode cX8_count 56 = .ok (.iload_n 1, 1) := by decide +kernel
theorem dX8_count_57 : decode cX8_count 57 = .ok (.imul, 1) := by decide +kernel
theorem dX8_count_58 : decode cX8_count 58 = .ok (.iload_n 2, 1) := by decide +kernel
theorem dX8_count_59 : decode cX8_count 59 = .ok (.iadd, 1) := by decide +kernel
theorem dX8_count_60 : decode cX8_count 60 = .ok (.iconst 0, 1) := by decide +kernel
theorem dX8_count_61 : decode cX8_count 61 = .ok (.iastore, 1) := by decide +kernel
theorem dX8_count_62 : decode cX8_count 62 = .ok (.iinc 2 1, 3) := by decide +kernel
theorem dX8_count_65 : decode cX8_count 65 = .ok (.goto (-45), 3) := by decide +kernel
theorem dX8_count_68 : decode cX8_count 68 = .ok (.iload_n 1, 1) := by decide +kernel
theorem dX8_count_69 : decode cX8_count 69 = .ok (.iconst 1, 1) := by decide +kernel
theorem dX8_count_70 : decode cX8_count 70 = .ok (.isub, 1) := by decide +kernel
theorem dX8_count_71 : decode cX8_count 71 = .ok (.istore_n 2, 1) := by decide +kernel
theorem dX8_count_72 : decode cX8_count 72 = .ok (.iload_n 2, 1) := by decide +kernel
theorem dX8_count_73 : decode cX8_count 73 = .ok (.ifCond .lt 29, 3) := by decide +kernel
theorem dX8_count_76 : decode cX8_count 76 = .ok (.iconst 0, 1) := by decide +kernel
theorem dX8_count_77 : decode cX8_count 77 = .ok (.istore_n 3, 1) := by decide +kernel
theorem dX8_count_78 : decode cX8_count 78 = .ok (.iload_n 3, 1) := by decide +kernel
theorem dX8_count_79 : decode cX8_count 79 = .ok (.bipush 8, 2) := by decide +kernel
theorem dX8_count_81 : decode cX8_count 81 = .ok (.if_icmp .gt 15, 3) := by decide +kernel
theorem dX8_count_84 : decode cX8_count 84 = .ok (.aload_n 0, 1) := by decide +kernel
theorem dX8_count_85 : decode cX8_count 85 = .ok (.iload_n 2, 1) := by decide +kernel
theorem dX8_count_86 : decode cX8_count 86 = .ok (.iload_n 3, 1) := by decide +kernel
theorem dX8_count_87 : decode cX8_count 87 = .ok (.invokevirtual 108, 3) := by decide +kernel
theorem dX8_count_90 : decode cX8_count 90 = .ok (.iinc 3 1, 3) := by decide +kernel
theorem dX8_count_93 : decode cX8_count 93 = .ok (.goto (-15), 3) := by decide +kernel
theorem dX8_count_96 : decode cX8_count 96 = .ok (.iinc 2 (-1), 3) := by decide +kernel
theorem dX8_count_99 : decode cX8_count 99 = .ok (.goto (-27), 3) := by decide +kernel
theorem dX8_count_102 : decode cX8_count 102 = .ok (.return_, 1) := by decide +kernel
set_option maxRecDepth 20000 in
theorem ggX8_countAt_X8_at : GoodIn wsX8_countAt wsX8_at := goodIn_r _ [12, 13, 14, 15, 1, 16, 17, 18, 11, 19, 20, 21, 22, 23, 24, 25, 26, 27, 28, 29, 30, 31, 32, 33, 34, 35, 36, 37, 38, 39, 40, 41, 42, 43, 44, 45, 46, 47, 48, 49, 50, 51, 52, 53, 54, 55, 56] (by decide +kernel) (by decide +kernel)
set_option maxRecDepth 20000 in
theorem gX8_countAt_X8_at : GoodIn wsX8_countAt (wsV RX8 113 RX8 yX8_at wsX8_at) := goodIn_app (goodIn_of _ (by decide +kernel)) ggX8_countAt_X8_at
theorem dX8_countAt_0 : decode cX8_countAt 0 = .ok (.ldc 91, 2) := by decide +kernel
theorem dX8_countAt_2 : decode cX8_countAt 2 = .ok (.istore_n 3, 1) := by decide +kernel
theorem dX8_countAt_3 : decode cX8_countAt 3 = .ok (.iconst 0, 1) := by decide +kernel
theorem dX8_countAt_4 : decode cX8_countAt 4 = .ok (.istore 4, 2) := by decide +kernel
theorem dX8_countAt_6 : decode cX8_countAt 6 = .ok (.ldc 112, 2) := by decide +kernel
theorem dX8_countAt_8 : decode cX8_countAt 8 = .ok (.istore 5, 2) := by decide +kernel
theorem dX8_countAt_10 : decode cX8_countAt 10 = .ok (.iconst (-1), 1) := by decide +kernel
theorem dX8_countAt_11 : decode cX8_countAt 11 = .ok (.istore 6, 2) := by decide +kernel
theorem dX8_countAt_13 : decode cX8_countAt 13 = .ok (.iload 6, 2) := by decide +kernel
theorem dX8_countAt_15 : decode cX8_countAt 15 = .ok (.aload_n 0, 1) := by decide +kernel
theorem dX8_countAt_16 : decode cX8_countAt 16 = .ok (.getfield 88, 3) := by decide +kernel
theorem dX8_countAt_19 : decode cX8_countAt 19 = .ok (.if_icmp .ge 172, 3) := by decide +kernel
theorem dX8_countAt_22 : decode cX8_countAt 22 = .ok (.bipush 9, 2) := by decide +kernel
theorem dX8_countAt_24 : decode cX8_countAt 24 = .ok (.iload_n 1, 1) := by decide +kernel
theorem dX8_countAt_25 : decode cX8_countAt 25 = .ok (.iconst 1, 1) := by decide +kernel
theorem dX8_countAt_26 : decode cX8_countAt 26 = .ok (.iadd, 1) := by decide +kernel
theorem dX8_countAt_27 : decode cX8_countAt 27 = .ok (.imul, 1) := by decide +kernel
theorem dX8_countAt_28 : decode cX8_countAt 28 = .ok (.iload 6, 2) := by decide +kernel
theorem dX8_countAt_30 : decode cX8_countAt 30 = .ok (.iadd, 1) := by decide +kernel
theorem dX8_countAt_31 : decode cX8_countAt 31 = .ok (.iconst 1, 1) := by decide +kernel
theorem dX8_countAt_32 : decode cX8_countAt 32 = .ok (.iadd, 1) := by decide +kernel
theorem dX8_countAt_33 : decode cX8_countAt 33 = .ok (.istore 7, 2) := by decide +kernel
theorem dX8_countAt_35 : decode cX8_countAt 35 = .ok (.aload_n 0, 1) := by decide +kernel
theorem dX8_countAt_36 : decode cX8_countAt 36 = .ok (.iload_n 1, 1) := by decide +kernel
theorem dX8_countAt_37 : decode cX8_countAt 37 = .ok (.iload 6, 2) := by decide +kernel
theorem dX8_countAt_39 : decode cX8_countAt 39 = .ok (.invokevirtual 113, 3) := by decide +kernel
theorem dX8_countAt_42 : decode cX8_countAt 42 = .ok (.istore 8, 2) := by decide +kernel
theorem dX8_countAt_44 : decode cX8_countAt 44 = .ok (.iload 8, 2) := by decide +kernel
theorem dX8_countAt_46 : decode cX8_countAt 46 = .ok (.ldc 91, 2) := by decide +kernel
theorem dX8_countAt_48 : decode cX8_countAt 48 = .ok (.if_icmp .ge 31, 3) := by decide +kernel
theorem dX8_countAt_51 : decode cX8_countAt 51 = .ok (.iload 6, 2) := by decide +kernel
theorem dX8_countAt_53 : decode cX8_countAt 53 = .ok (.iconst (-1), 1) := by decide +kernel
theorem dX8_countAt_54 : decode cX8_countAt 54 = .ok (.if_icmp .eq 11, 3) := by decide +kernel
theorem dX8_countAt_57 : decode cX8_countAt 57 = .ok (.iload 6, 2) := by decide +kernel
theorem dX8_countAt_59 : decode cX8_countAt 59 = .ok (.iconst 1, 1) := by decide +kernel
theorem dX8_countAt_60 : decode cX8_countAt 60 = .ok (.iadd, 1) := by decide +kernel
theorem dX8_countAt_61 : decode cX8_countAt 61 = .ok (.iload_n 2, 1) := by decide +kernel
theorem dX8_countAt_62 : decode cX8_countAt 62 = .ok (.if_icmp .eq 17, 3) := by decide +kernel
theorem dX8_countAt_65 : decode cX8_countAt 65 = .ok (.aload_n 0, 1) := by decide +kernel
theorem dX8_countAt_66 : decode cX8_countAt 66 = .ok (.getfield 51, 3) := by decide +kernel
theorem dX8_countAt_69 : decode cX8_countAt 69 = .ok (.iload 7, 2) := by decide +kernel
theorem dX8_countAt_71 : decode cX8_countAt 71 = .ok (.iaload, 1) := by decide +kernel
theorem dX8_countAt_72 : decode cX8_countAt 72 = .ok (.ifCond .le 7, 3) := by decide +kernel
theorem dX8_countAt_75 : decode cX8_countAt 75 = .ok (.iconst 1, 1) := by decide +kernel
theorem dX8_countAt_76 : decode cX8_countAt 76 = .ok (.goto 4, 3) := by decide +kernel
theorem dX8_countAt_79 : decode cX8_countAt 79 = .ok (.iconst 0, 1) := by decide +kernel
theorem dX8_countAt_80 : decode cX8_countAt 80 = .ok (.istore 9, 2) := by decide +kernel
theorem dX8_countAt_82 : decode cX8_countAt 82 = .ok (.iload 9, 2) := by decide +kernel
theorem dX8_countAt_84 : decode cX8_countAt 84 = .ok (.ifCond .eq 101, 3) := by decide +kernel
theorem dX8_countAt_87 : decode cX8_countAt 87 = .ok (.iload 8, 2) := by decide +kernel
theorem dX8_countAt_89 : decode cX8_countAt 89 = .ok (.aload_n 0, 1) := by decide +kernel
theorem dX8_countAt_90 : decode cX8_countAt 90 = .ok (.getfield 48, 3) := by decide +kernel
theorem dX8_countAt_93 : decode cX8_countAt 93 = .ok (.iload 7, 2) := by decide +kernel
theorem dX8_countAt_95 : decode cX8_countAt 95 = .ok (.iaload, 1) := by decide +kernel
theorem dX8_countAt_96 : decode cX8_countAt 96 = .ok (.iadd, 1) := by decide +kernel
theorem dX8_countAt_97 : decode cX8_countAt 97 = .ok (.iload_n 3, 1) := by decide +kernel
theorem dX8_countAt_98 : decode cX8_countAt 98 = .ok (.if_icmp .ge 16, 3) := by decide +kernel
theorem dX8_countAt_101 : decode cX8_countAt 101 = .ok (.iload 8, 2) := by decide +kernel
theorem dX8_countAt_103 : decode cX8_countAt 103 = .ok (.aload_n 0, 1) := by decide +kernel
theorem dX8_countAt_104 : decode cX8_countAt 104 = .ok (.getfield 48, 3) := by decide +kernel
theorem dX8_countAt_107 : decode cX8_countAt 107 = .ok (.iload 7, 2) := by decide +kernel
theorem dX8_countAt_109 : decode cX8_countAt 109 = .ok (.iaload, 1) := by decide +kernel
theorem dX8_countAt_110 : decode cX8_countAt 110 = .ok (.iadd, 1) := by decide +kernel
theorem dX8_countAt_111 : decode cX8_countAt 111 = .ok (.goto 4, 3) := by decide +kernel
theorem dX8_countAt_114 : decode cX8_countAt 114 = .ok (.iload_n 3, 1) := by decide +kernel
theorem dX8_countAt_115 : decode cX8_countAt 115 = .ok (.istore_n 3, 1) := by decide +kernel
theorem dX8_countAt_116 : decode cX8_countAt 116 = .ok (.iload 4, 2) := by decide +kernel
theorem dX8_countAt_118 : decode cX8_countAt 118 = .ok (.aload_n 0, 1) := by decide +kernel
theorem dX8_countAt_119 : decode cX8_countAt 119 = .ok (.getfield 51, 3) := by decide +kernel
theorem dX8_countAt_122 : decode cX8_countAt 122 = .ok (.iload 7, 2) := by decide +kernel
theorem dX8_countAt_124 : decode cX8_countAt 124 = .ok (.iaload, 1) := by decide +kernel
theorem dX8_countAt_125 : decode cX8_countAt 125 = .ok (.iadd, 1) := by decide +kernel
theorem dX8_countAt_126 : decode cX8_countAt 126 = .ok (.ldc 116, 2) := by decide +kernel
theorem dX8_countAt_128 : decode cX8_countAt 128 = .ok (.if_icmp .le 8, 3) := by decide +kernel
theorem dX8_countAt_131 : decode cX8_countAt 131 = .ok (.ldc 116, 2) := by decide +kernel
theorem dX8_countAt_133 : decode cX8_countAt 133 = .ok (.goto 13, 3) := by decide +kernel
theorem dX8_countAt_136 : decode cX8_countAt 136 = .ok (.iload 4, 2) := by decide +kernel
theorem dX8_countAt_138 : decode cX8_countAt 138 = .ok (.aload_n 0, 1) := by decide +kernel
theorem dX8_countAt_139 : decode cX8_countAt 139 = .ok (.getfield 51, 3) := by decide +kernel
theorem dX8_countAt_142 : decode cX8_countAt 142 = .ok (.iload 7, 2) := by decide +kernel
theorem dX8_countAt_144 : decode cX8_countAt 144 = .ok (.iaload, 1) := by decide +kernel
theorem dX8_countAt_145 : decode cX8_countAt 145 = .ok (.iadd, 1) := by decide +kernel
theorem dX8_countAt_146 : decode cX8_countAt 146 = .ok (.istore 4, 2) := by decide +kernel
theorem dX8_countAt_148 : decode cX8_countAt 148 = .ok (.aload_n 0, 1) := by decide +kernel
theorem dX8_countAt_149 : decode cX8_countAt 149 = .ok (.getfield 54, 3) := by decide +kernel
theorem dX8_countAt_152 : decode cX8_countAt 152 = .ok (.iload 7, 2) := by decide +kernel
theorem dX8_countAt_154 : decode cX8_countAt 154 = .ok (.iaload, 1) := by decide +kernel
theorem dX8_countAt_155 : decode cX8_countAt 155 = .ok (.iload 6, 2) := by decide +kernel
theorem dX8_countAt_157 : decode cX8_countAt 157 = .ok (.iconst (-1), 1) := by decide +kernel
theorem dX8_countAt_158 : decode cX8_countAt 158 = .ok (.if_icmp .ne 7, 3) := by decide +kernel
theorem dX8_countAt_161 : decode cX8_countAt 161 = .ok (.iconst 0, 1) := by decide +kernel
theorem dX8_countAt_162 : decode cX8_countAt 162 = .ok (.goto 4, 3) := by decide +kernel
theorem dX8_countAt_165 : decode cX8_countAt 165 = .ok (.iconst 1, 1) := by decide +kernel
theorem dX8_countAt_166 : decode cX8_countAt 166 = .ok (.iadd, 1) := by decide +kernel
theorem dX8_countAt_167 : decode cX8_countAt 167 = .ok (.istore 10, 2) := by decide +kernel
theorem dX8_countAt_169 : decode cX8_countAt 169 = .ok (.iload 10, 2) := by decide +kernel
theorem dX8_countAt_171 : decode cX8_countAt 171 = .ok (.iload 5, 2) := by decide +kernel
theorem dX8_countAt_173 : decode cX8_countAt 173 = .ok (.if_icmp .le 8, 3) := by decide +kernel
theorem dX8_countAt_176 : decode cX8_countAt 176 = .ok (.iload 10, 2) := by decide +kernel
theorem dX8_countAt_178 : decode cX8_countAt 178 = .ok (.goto 5, 3) := by decide +kernel
theorem dX8_countAt_181 : decode cX8_countAt 181 = .ok (.iload 5, 2) := by decide +kernel
theorem dX8_countAt_183 : decode cX8_countAt 183 = .ok (.istore 5, 2) := by decide +kernel
theorem dX8_countAt_185 : decode cX8_countAt 185 = .ok (.iinc 6 1, 3) := by decide +kernel
theorem dX8_countAt_188 : decode cX8_countAt 188 = .ok (.goto (-175), 3) := by decide +kernel
theorem dX8_countAt_191 : decode cX8_countAt 191 = .ok (.aload_n 0, 1) := by decide +kernel
theorem dX8_countAt_192 : decode cX8_countAt 192 = .ok (.getfield 48, 3) := by decide +kernel
theorem dX8_countAt_195 : decode cX8_countAt 195 = .ok (.bipush 9, 2) := by decide +kernel
theorem dX8_countAt_197 : decode cX8_countAt 197 = .ok (.iload_n 1, 1) := by decide +kernel
theorem dX8_countAt_198 : decode cX8_countAt 198 = .ok (.imul, 1) := by decide +kernel
theorem dX8_countAt_199 : decode cX8_countAt 199 = .ok (.iload_n 2, 1) := by decide +kernel
theorem dX8_countAt_200 : decode cX8_countAt 200 = .ok (.iadd, 1) := by decide +kernel
theorem dX8_countAt_201 : decode cX8_countAt 201 = .ok (.iload_n 3, 1) := by decide +kernel
theorem dX8_countAt_202 : decode cX8_countAt 202 = .ok (.iastore, 1) := by decide +kernel
theorem dX8_countAt_203 : decode cX8_countAt 203 = .ok (.aload_n 0, 1) := by decide +kernel
theorem dX8_countAt_204 : decode cX8_countAt 204 = .ok (.getfield 51, 3) := by decide +kernel
theorem dX8_countAt_207 : decode cX8_countAt 207 = .ok (.bipush 9, 2) := by decide +kernel
theorem dX8_countAt_209 : decode cX8_countAt 209 = .ok (.iload_n 1, 1) := by decide +kernel
theorem dX8_countAt_210 : decode cX8_countAt 210 = .ok (.imul, 1) := by decide +kernel
theorem dX8_countAt_211 : decode cX8_countAt 211 = .ok (.iload_n 2, 1) := by decide +kernel
theorem dX8_countAt_212 : decode cX8_countAt 212 = .ok (.iadd, 1) := by decide +kernel
theorem dX8_countAt_213 : decode cX8_countAt 213 = .ok (.iload 4, 2) := by decide +kernel
theorem dX8_countAt_215 : decode cX8_countAt 215 = .ok (.iastore, 1) := by decide +kernel
theorem dX8_countAt_216 : decode cX8_countAt 216 = .ok (.aload_n 0, 1) := by decide +kernel
theorem dX8_countAt_217 : decode cX8_countAt 217 = .ok (.getfield 54, 3) := by decide +kernel
theorem dX8_countAt_220 : decode cX8_countAt 220 = .ok (.bipush 9, 2) := by decide +kernel
theorem dX8_countAt_222 : decode cX8_countAt 222 = .ok (.iload_n 1, 1) := by decide +kernel
theorem dX8_countAt_223 : decode cX8_countAt 223 = .ok (.imul, 1) := by decide +kernel
theorem dX8_countAt_224 : decode cX8_countAt 224 = .ok (.iload_n 2, 1) := by decide +kernel
theorem dX8_countAt_225 : decode cX8_countAt 225 = .ok (.iadd, 1) := by decide +kernel
theorem dX8_countAt_226 : decode cX8_countAt 226 = .ok (.iload 5, 2) := by decide +kernel
theorem dX8_countAt_228 : decode cX8_countAt 228 = .ok (.iastore, 1) := by decide +kernel
theorem dX8_countAt_229 : decode cX8_countAt 229 = .ok (.return_, 1) := by decide +kernel
set_option maxRecDepth 20000 in
theorem ggX8_layTune_X8_append : GoodIn wsX8_layTune wsX8_append := goodIn_r _ [6, 7, 8, 1, 9, 10, 11, 12, 13, 53, 54, 55, 56, 57, 58, 59, 60, 61, 62, 63, 64, 65, 66, 67, 68, 69, 70, 71, 72, 73] (by decide +kernel) (by decide +kernel)
set_option maxRecDepth 20000 in
theorem gX8_layTune_X8_append : GoodIn wsX8_layTune (wsV RX8 117 RX8 yX8_append wsX8_append) := goodIn_app (goodIn_of _ (by decide +kernel)) ggX8_layTune_X8_append
set_option maxRecDepth 20000 in
theorem ggX8_layTune_X8_count : GoodIn wsX8_layTune wsX8_count := goodIn_r _ [17, 1, 18, 19, 20, 21, 22, 23, 5, 24, 25, 26, 27, 28, 29, 30, 31, 32, 8, 10, 12, 33, 34, 35, 36, 37, 38, 39, 40, 41, 42, 43, 44, 45, 46, 47, 48, 49, 50, 51, 52, 53, 54, 55, 56, 57, 58, 59, 60, 61, 62, 63, 64, 65, 66, 67, 68, 69, 70, 71, 72, 73] (by decide +kernel) (by decide +kernel)
set_option maxRecDepth 20000 in
theorem gX8_layTune_X8_count : GoodIn wsX8_layTune (wsV RX8 121 RX8 yX8_count wsX8_count) := goodIn_app (goodIn_of _ (by decide +kernel)) ggX8_layTune_X8_count
theorem dX8_layTune_0 : decode cX8_layTune 0 = .ok (.aload_n 0, 1) := by decide +kernel
theorem dX8_layTune_1 : decode cX8_layTune 1 = .ok (.iconst 0, 1) := by decide +kernel
theorem dX8_layTune_2 : decode cX8_layTune 2 = .ok (.putfield 105, 3) := by decide +kernel
theorem dX8_layTune_5 : decode cX8_layTune 5 = .ok (.aload_n 0, 1) := by decide +kernel
theorem dX8_layTune_6 : decode cX8_layTune 6 = .ok (.iload_n 1, 1) := by decide +kernel
theorem dX8_layTune_7 : decode cX8_layTune 7 = .ok (.invokevirtual 117, 3) := by decide +kernel
theorem dX8_layTune_10 : decode cX8_layTune 10 = .ok (.aload_n 0, 1) := by decide +kernel
theorem dX8_layTune_11 : decode cX8_layTune 11 = .ok (.invokevirtual 121, 3) := by decide +kernel
theorem dX8_layTune_14 : decode cX8_layTune 14 = .ok (.return_, 1) := by decide +kernel
set_option maxRecDepth 20000 in
theorem ggX8_chosenAt_X8_isFirst : GoodIn wsX8_chosenAt wsX8_isFirst := goodIn_r _ [5, 6, 7, 8, 9, 10, 4, 11, 12, 13, 14, 15, 16, 17, 18, 19, 20, 21, 22, 23, 24, 25, 26, 27, 28, 29, 30, 31, 32, 33, 34, 35, 36, 37, 38, 39, 40, 41, 42, 43, 44, 45, 46, 47, 48, 49, 50, 51, 52, 53, 54, 55, 56] (by decide +kernel) (by decide +kernel)
set_option maxRecDepth 20000 in
theorem gX8_chosenAt_X8_isFirst : GoodIn wsX8_chosenAt (wsV RX8 124 RX8 yX8_isFirst wsX8_isFirst) := goodIn_app (goodIn_of _ (by decide +kernel)) ggX8_chosenAt_X8_isFirst
theorem dX8_chosenAt_0 : decode cX8_chosenAt 0 = .ok (.iconst 0, 1) := by decide +kernel
theorem dX8_chosenAt_1 : decode cX8_chosenAt 1 = .ok (.istore_n 2, 1) := by decide +kernel
theorem dX8_chosenAt_2 : decode cX8_chosenAt 2 = .ok (.iconst (-1), 1) := by decide +kernel
theorem dX8_chosenAt_3 : decode cX8_chosenAt 3 = .ok (.istore_n 3, 1) := by decide +kernel
theorem dX8_chosenAt_4 : decode cX8_chosenAt 4 = .ok (.iconst 0, 1) := by decide +kernel
theorem dX8_chosenAt_5 : decode cX8_chosenAt 5 = .ok (.istore 4, 2) := by decide +kernel
theorem dX8_chosenAt_7 : decode cX8_chosenAt 7 = .ok (.iload 4, 2) := by decide +kernel
theorem dX8_chosenAt_9 : decode cX8_chosenAt 9 = .ok (.iload_n 1, 1) := by decide +kernel
theorem dX8_chosenAt_10 : decode cX8_chosenAt 10 = .ok (.if_icmp .gt 32, 3) := by decide +kernel
theorem dX8_chosenAt_13 : decode cX8_chosenAt 13 = .ok (.iconst (-1), 1) := by decide +kernel
theorem dX8_chosenAt_14 : decode cX8_chosenAt 14 = .ok (.istore_n 3, 1) := by decide +kernel
theorem dX8_chosenAt_15 : decode cX8_chosenAt 15 = .ok (.aload_n 0, 1) := by decide +kernel
theorem dX8_chosenAt_16 : decode cX8_chosenAt 16 = .ok (.iload 4, 2) := by decide +kernel
theorem dX8_chosenAt_18 : decode cX8_chosenAt 18 = .ok (.iload_n 2, 1) := by decide +kernel
theorem dX8_chosenAt_19 : decode cX8_chosenAt 19 = .ok (.iload_n 3, 1) := by decide +kernel
theorem dX8_chosenAt_20 : decode cX8_chosenAt 20 = .ok (.invokevirtual 124, 3) := by decide +kernel
theorem dX8_chosenAt_23 : decode cX8_chosenAt 23 = .ok (.ifCond .ne 9, 3) := by decide +kernel
theorem dX8_chosenAt_26 : decode cX8_chosenAt 26 = .ok (.iinc 3 1, 3) := by decide +kernel
theorem dX8_chosenAt_29 : decode cX8_chosenAt 29 = .ok (.goto (-14), 3) := by decide +kernel
theorem dX8_chosenAt_32 : decode cX8_chosenAt 32 = .ok (.iload_n 3, 1) := by decide +kernel
theorem dX8_chosenAt_33 : decode cX8_chosenAt 33 = .ok (.iconst 1, 1) := by decide +kernel
theorem dX8_chosenAt_34 : decode cX8_chosenAt 34 = .ok (.iadd, 1) := by decide +kernel
theorem dX8_chosenAt_35 : decode cX8_chosenAt 35 = .ok (.istore_n 2, 1) := by decide +kernel
theorem dX8_chosenAt_36 : decode cX8_chosenAt 36 = .ok (.iinc 4 1, 3) := by decide +kernel
theorem dX8_chosenAt_39 : decode cX8_chosenAt 39 = .ok (.goto (-32), 3) := by decide +kernel
theorem dX8_chosenAt_42 : decode cX8_chosenAt 42 = .ok (.iload_n 3, 1) := by decide +kernel
theorem dX8_chosenAt_43 : decode cX8_chosenAt 43 = .ok (.ireturn, 1) := by decide +kernel
set_option maxRecDepth 20000 in
theorem ggX8_isFirst_X8_at : GoodIn wsX8_isFirst wsX8_at := goodIn_r _ [7, 8, 9, 10, 11, 12, 13, 14, 6, 15, 16, 17, 18, 19, 20, 21, 22, 23, 24, 25, 26, 27, 28, 29, 30, 31, 32, 33, 34, 35, 36, 37, 38, 39, 40, 41, 42, 43, 44, 45, 46, 47, 48, 49, 50, 51, 52] (by decide +kernel) (by decide +kernel)
set_option maxRecDepth 20000 in
theorem gX8_isFirst_X8_at : GoodIn wsX8_isFirst (wsV RX8 113 RX8 yX8_at wsX8_at) := goodIn_app (goodIn_of _ (by decide +kernel)) ggX8_isFirst_X8_at
theorem dX8_isFirst_0 : decode cX8_isFirst 0 = .ok (.bipush 9, 2) := by decide +kernel
theorem dX8_isFirst_2 : decode cX8_isFirst 2 = .ok (.iload_n 1, 1) := by decide +kernel
theorem dX8_isFirst_3 : decode cX8_isFirst 3 = .ok (.iconst 1, 1) := by decide +kernel
theorem dX8_isFirst_4 : decode cX8_isFirst 4 = .ok (.iadd, 1) := by decide +kernel
theorem dX8_isFirst_5 : decode cX8_isFirst 5 = .ok (.imul, 1) := by decide +kernel
theorem dX8_isFirst_6 : decode cX8_isFirst 6 = .ok (.iload_n 3, 1) := by decide +kernel
theorem dX8_isFirst_7 : decode cX8_isFirst 7 = .ok (.iadd, 1) := by decide +kernel
theorem dX8_isFirst_8 : decode cX8_isFirst 8 = .ok (.iconst 1, 1) := by decide +kernel
theorem dX8_isFirst_9 : decode cX8_isFirst 9 = .ok (.iadd, 1) := by decide +kernel
theorem dX8_isFirst_10 : decode cX8_isFirst 10 = .ok (.istore 4, 2) := by decide +kernel
theorem dX8_isFirst_12 : decode cX8_isFirst 12 = .ok (.iload_n 3, 1) := by decide +kernel
theorem dX8_isFirst_13 : decode cX8_isFirst 13 = .ok (.iconst (-1), 1) := by decide +kernel
theorem dX8_isFirst_14 : decode cX8_isFirst 14 = .ok (.if_icmp .eq 10, 3) := by decide +kernel
theorem dX8_isFirst_17 : decode cX8_isFirst 17 = .ok (.iload_n 3, 1) := by decide +kernel
theorem dX8_isFirst_18 : decode cX8_isFirst 18 = .ok (.iconst 1, 1) := by decide +kernel
theorem dX8_isFirst_19 : decode cX8_isFirst 19 = .ok (.iadd, 1) := by decide +kernel
theorem dX8_isFirst_20 : decode cX8_isFirst 20 = .ok (.iload_n 2, 1) := by decide +kernel
theorem dX8_isFirst_21 : decode cX8_isFirst 21 = .ok (.if_icmp .eq 17, 3) := by decide +kernel
theorem dX8_isFirst_24 : decode cX8_isFirst 24 = .ok (.aload_n 0, 1) := by decide +kernel
theorem dX8_isFirst_25 : decode cX8_isFirst 25 = .ok (.getfield 51, 3) := by decide +kernel
theorem dX8_isFirst_28 : decode cX8_isFirst 28 = .ok (.iload 4, 2) := by decide +kernel
theorem dX8_isFirst_30 : decode cX8_isFirst 30 = .ok (.iaload, 1) := by decide +kernel
theorem dX8_isFirst_31 : decode cX8_isFirst 31 = .ok (.ifCond .le 7, 3) := by decide +kernel
theorem dX8_isFirst_34 : decode cX8_isFirst 34 = .ok (.iconst 1, 1) := by decide +kernel
theorem dX8_isFirst_35 : decode cX8_isFirst 35 = .ok (.goto 4, 3) := by decide +kernel
theorem dX8_isFirst_38 : decode cX8_isFirst 38 = .ok (.iconst 0, 1) := by decide +kernel
theorem dX8_isFirst_39 : decode cX8_isFirst 39 = .ok (.istore 5, 2) := by decide +kernel
theorem dX8_isFirst_41 : decode cX8_isFirst 41 = .ok (.iload 5, 2) := by decide +kernel
theorem dX8_isFirst_43 : decode cX8_isFirst 43 = .ok (.ifCond .eq 35, 3) := by decide +kernel
theorem dX8_isFirst_46 : decode cX8_isFirst 46 = .ok (.aload_n 0, 1) := by decide +kernel
theorem dX8_isFirst_47 : decode cX8_isFirst 47 = .ok (.iload_n 1, 1) := by decide +kernel
theorem dX8_isFirst_48 : decode cX8_isFirst 48 = .ok (.iload_n 3, 1) := by decide +kernel
theorem dX8_isFirst_49 : decode cX8_isFirst 49 = .ok (.invokevirtual 113, 3) := by decide +kernel
theorem dX8_isFirst_52 : decode cX8_isFirst 52 = .ok (.aload_n 0, 1) := by decide +kernel
theorem dX8_isFirst_53 : decode cX8_isFirst 53 = .ok (.getfield 48, 3) := by decide +kernel
theorem dX8_isFirst_56 : decode cX8_isFirst 56 = .ok (.iload 4, 2) := by decide +kernel
theorem dX8_isFirst_58 : decode cX8_isFirst 58 = .ok (.iaload, 1) := by decide +kernel
theorem dX8_isFirst_59 : decode cX8_isFirst 59 = .ok (.iadd, 1) := by decide +kernel
theorem dX8_isFirst_60 : decode cX8_isFirst 60 = .ok (.aload_n 0, 1) := by decide +kernel
theorem dX8_isFirst_61 : decode cX8_isFirst 61 = .ok (.getfield 48, 3) := by decide +kernel
theorem dX8_isFirst_64 : decode cX8_isFirst 64 = .ok (.bipush 9, 2) := by decide +kernel
theorem dX8_isFirst_66 : decode cX8_isFirst 66 = .ok (.iload_n 1, 1) := by decide +kernel
theorem dX8_isFirst_67 : decode cX8_isFirst 67 = .ok (.imul, 1) := by decide +kernel
theorem dX8_isFirst_68 : decode cX8_isFirst 68 = .ok (.iload_n 2, 1) := by decide +kernel
theorem dX8_isFirst_69 : decode cX8_isFirst 69 = .ok (.iadd, 1) := by decide +kernel
theorem dX8_isFirst_70 : decode cX8_isFirst 70 = .ok (.iaload, 1) := by decide +kernel
theorem dX8_isFirst_71 : decode cX8_isFirst 71 = .ok (.if_icmp .ne 7, 3) := by decide +kernel
theorem dX8_isFirst_74 : decode cX8_isFirst 74 = .ok (.iconst 1, 1) := by decide +kernel
theorem dX8_isFirst_75 : decode cX8_isFirst 75 = .ok (.goto 4, 3) := by decide +kernel
theorem dX8_isFirst_78 : decode cX8_isFirst 78 = .ok (.iconst 0, 1) := by decide +kernel
theorem dX8_isFirst_79 : decode cX8_isFirst 79 = .ok (.ireturn, 1) := by decide +kernel
set_option maxRecDepth 20000 in
theorem ggX8_faultOf_X8_isTune : GoodIn wsX8_faultOf wsX8_isTune := goodIn_r _ [5, 6, 7, 4, 8] (by decide +kernel) (by decide +kernel)
set_option maxRecDepth 20000 in
theorem gX8_faultOf_X8_isTune : GoodIn wsX8_faultOf (va_wsS RX8 99 yX8_isTune wsX8_isTune) := goodIn_app (goodIn_of _ (by decide +kernel)) ggX8_faultOf_X8_isTune
set_option maxRecDepth 20000 in
theorem ggX8_faultOf_X8_layTune : GoodIn wsX8_faultOf wsX8_layTune := goodIn_r _ [12, 13, 14, 15, 16, 4, 17, 18, 19, 20, 21, 22, 23, 24, 25, 26, 27, 28, 29, 1, 30, 31, 32, 33, 34, 35, 36, 37, 38, 39, 40, 41, 42, 43, 44, 45, 46, 47, 48, 49, 50, 51, 52, 53, 54, 55, 56, 57, 58, 59, 60, 61, 62, 63, 64, 65, 66, 67, 68, 69, 70, 71, 72, 73, 74, 75, 76, 77, 78, 79, 80, 81, 82, 83] (by decide +kernel) (by decide +kernel)
set_option maxRecDepth 20000 in
theorem gX8_faultOf_X8_layTune : GoodIn wsX8_faultOf (wsV RX8 127 RX8 yX8_layTune wsX8_layTune) := goodIn_app (goodIn_of _ (by decide +kernel)) ggX8_faultOf_X8_layTune
theorem dX8_faultOf_0 : decode cX8_faultOf 0 = .ok (.iload_n 1, 1) := by decide +kernel
theorem dX8_faultOf_1 : decode cX8_faultOf 1 = .ok (.invokestatic 99, 3) := by decide +kernel
theorem dX8_faultOf_4 : decode cX8_faultOf 4 = .ok (.ifCond .ne 5, 3) := by decide +kernel
theorem dX8_faultOf_7 : decode cX8_faultOf 7 = .ok (.iconst 1, 1) := by decide +kernel
theorem dX8_faultOf_8 : decode cX8_faultOf 8 = .ok (.ireturn, 1) := by decide +kernel
theorem dX8_faultOf_9 : decode cX8_faultOf 9 = .ok (.aload_n 0, 1) := by decide +kernel
theorem dX8_faultOf_10 : decode cX8_faultOf 10 = .ok (.iload_n 1, 1) := by decide +kernel
theorem dX8_faultOf_11 : decode cX8_faultOf 11 = .ok (.invokevirtual 127, 3) := by decide +kernel
theorem dX8_faultOf_14 : decode cX8_faultOf 14 = .ok (.iload_n 2, 1) := by decide +kernel
theorem dX8_faultOf_15 : decode cX8_faultOf 15 = .ok (.ifCond .ne 7, 3) := by decide +kernel
theorem dX8_faultOf_18 : decode cX8_faultOf 18 = .ok (.iconst 2, 1) := by decide +kernel
theorem dX8_faultOf_19 : decode cX8_faultOf 19 = .ok (.goto 17, 3) := by decide +kernel
theorem dX8_faultOf_22 : decode cX8_faultOf 22 = .ok (.aload_n 0, 1) := by decide +kernel
theorem dX8_faultOf_23 : decode cX8_faultOf 23 = .ok (.getfield 51, 3) := by decide +kernel
theorem dX8_faultOf_26 : decode cX8_faultOf 26 = .ok (.iconst 0, 1) := by decide +kernel
theorem dX8_faultOf_27 : decode cX8_faultOf 27 = .ok (.iaload, 1) := by decide +kernel
theorem dX8_faultOf_28 : decode cX8_faultOf 28 = .ok (.ifCond .ne 7, 3) := by decide +kernel
theorem dX8_faultOf_31 : decode cX8_faultOf 31 = .ok (.iconst 3, 1) := by decide +kernel
theorem dX8_faultOf_32 : decode cX8_faultOf 32 = .ok (.goto 4, 3) := by decide +kernel
theorem dX8_faultOf_35 : decode cX8_faultOf 35 = .ok (.iconst 0, 1) := by decide +kernel
theorem dX8_faultOf_36 : decode cX8_faultOf 36 = .ok (.ireturn, 1) := by decide +kernel
set_option maxRecDepth 20000 in
theorem ggX8_time_X8_isTune : GoodIn wsX8_time wsX8_isTune := goodIn_r _ [8, 9, 10, 7, 11] (by decide +kernel) (by decide +kernel)
set_option maxRecDepth 20000 in
theorem gX8_time_X8_isTune : GoodIn wsX8_time (va_wsS RX8 99 yX8_isTune wsX8_isTune) := goodIn_app (goodIn_of _ (by decide +kernel)) ggX8_time_X8_isTune
set_option maxRecDepth 20000 in
theorem ggX8_time_X8_in : GoodIn wsX8_time wsX8_in := goodIn_r _ [11] (by decide +kernel) (by decide +kernel)
set_option maxRecDepth 20000 in
theorem gX8_time_X8_in : GoodIn wsX8_time (va_wsS RX8 66 yX8_in wsX8_in) := goodIn_app (goodIn_of _ (by decide +kernel)) ggX8_time_X8_in
set_option maxRecDepth 20000 in
theorem ggX8_time_X8_faultOf : GoodIn wsX8_time wsX8_faultOf := goodIn_r _ [15, 16, 5, 6, 7, 8, 9, 10, 11, 17, 18, 19, 20, 2, 21, 22, 23, 24, 1, 25, 26, 3, 27, 28, 29, 30, 31, 32, 33, 34, 35, 36, 37, 38, 39, 40, 41, 42, 43, 44, 45, 46, 47, 48, 49, 50, 51, 4, 52, 53, 54, 55, 56, 57, 58, 59, 60, 61, 62, 63, 64, 65, 66, 80, 81, 82, 83, 84, 85, 86, 87, 88, 89, 90, 91, 92, 93, 94, 95, 96, 97, 98, 99, 100] (by decide +kernel) (by decide +kernel)
set_option maxRecDepth 20000 in
theorem gX8_time_X8_faultOf : GoodIn wsX8_time (wsV RX8 130 RX8 yX8_faultOf wsX8_faultOf) := goodIn_app (goodIn_of _ (by decide +kernel)) ggX8_time_X8_faultOf
set_option maxRecDepth 20000 in
theorem ggX8_time_X8_goesWell : GoodIn wsX8_time wsX8_goesWell := goodIn_r _ [70, 71, 80, 81, 82, 83, 84, 85, 86, 87, 88, 89, 90, 91, 92, 93, 94, 95, 96, 97, 98, 99, 100] (by decide +kernel) (by decide +kernel)
set_option maxRecDepth 20000 in
theorem gX8_time_X8_goesWell : GoodIn wsX8_time (wsV RX8 78 RX8 yX8_goesWell wsX8_goesWell) := goodIn_app (goodIn_of _ (by decide +kernel)) ggX8_time_X8_goesWell
set_option maxRecDepth 20000 in
theorem ggX8_time_X8_chosenAt : GoodIn wsX8_time wsX8_chosenAt := goodIn_r _ [75, 76, 77, 78, 7, 79, 16, 34, 44, 45, 46, 47, 25, 3, 28, 40, 48, 49, 50, 51, 4, 52, 53, 54, 55, 56, 57, 58, 59, 60, 61, 62, 63, 64, 65, 66, 80, 81, 82, 83, 84, 85, 86, 87, 88, 89, 90, 91, 92, 93, 94, 95, 96, 97, 98, 99, 100] (by decide +kernel) (by decide +kernel)
set_option maxRecDepth 20000 in
theorem gX8_time_X8_chosenAt : GoodIn wsX8_time (wsV RX8 134 RX8 yX8_chosenAt wsX8_chosenAt) := goodIn_app (goodIn_of _ (by decide +kernel)) ggX8_time_X8_chosenAt
theorem dX8_time_0 : decode cX8_time 0 = .ok (.aload_n 0, 1) := by decide +kernel
theorem dX8_time_1 : decode cX8_time 1 = .ok (.aload_n 0, 1) := by decide +kernel
theorem dX8_time_2 : decode cX8_time 2 = .ok (.iload_n 1, 1) := by decide +kernel
theorem dX8_time_3 : decode cX8_time 3 = .ok (.iload_n 1, 1) := by decide +kernel
theorem dX8_time_4 : decode cX8_time 4 = .ok (.invokestatic 99, 3) := by decide +kernel
theorem dX8_time_7 : decode cX8_time 7 = .ok (.ifCond .eq 23, 3) := by decide +kernel
theorem dX8_time_10 : decode cX8_time 10 = .ok (.iload_n 2, 1) := by decide +kernel
theorem dX8_time_11 : decode cX8_time 11 = .ok (.iconst 0, 1) := by decide +kernel
theorem dX8_time_12 : decode cX8_time 12 = .ok (.aload_n 0, 1) := by decide +kernel
theorem dX8_time_13 : decode cX8_time 13 = .ok (.getfield 36, 3) := by decide +kernel
theorem dX8_time_16 : decode cX8_time 16 = .ok (.iload_n 1, 1) := by decide +kernel
theorem dX8_time_17 : decode cX8_time 17 = .ok (.iaload, 1) := by decide +kernel
theorem dX8_time_18 : decode cX8_time 18 = .ok (.iconst 1, 1) := by decide +kernel
theorem dX8_time_19 : decode cX8_time 19 = .ok (.isub, 1) := by decide +kernel
theorem dX8_time_20 : decode cX8_time 20 = .ok (.invokestatic 66, 3) := by decide +kernel
theorem dX8_time_23 : decode cX8_time 23 = .ok (.ifCond .eq 7, 3) := by decide +kernel
theorem dX8_time_26 : decode cX8_time 26 = .ok (.iconst 1, 1) := by decide +kernel
theorem dX8_time_27 : decode cX8_time 27 = .ok (.goto 4, 3) := by decide +kernel
theorem dX8_time_30 : decode cX8_time 30 = .ok (.iconst 0, 1) := by decide +kernel
theorem dX8_time_31 : decode cX8_time 31 = .ok (.invokevirtual 130, 3) := by decide +kernel
theorem dX8_time_34 : decode cX8_time 34 = .ok (.invokevirtual 78, 3) := by decide +kernel
theorem dX8_time_37 : decode cX8_time 37 = .ok (.ifCond .ne 5, 3) := by decide +kernel
theorem dX8_time_40 : decode cX8_time 40 = .ok (.iconst 0, 1) := by decide +kernel
theorem dX8_time_41 : decode cX8_time 41 = .ok (.ireturn, 1) := by decide +kernel
theorem dX8_time_42 : decode cX8_time 42 = .ok (.iload_n 2, 1) := by decide +kernel
theorem dX8_time_43 : decode cX8_time 43 = .ok (.iconst 1, 1) := by decide +kernel
theorem dX8_time_44 : decode cX8_time 44 = .ok (.iadd, 1) := by decide +kernel
theorem dX8_time_45 : decode cX8_time 45 = .ok (.aload_n 0, 1) := by decide +kernel
theorem dX8_time_46 : decode cX8_time 46 = .ok (.getfield 105, 3) := by decide +kernel
theorem dX8_time_49 : decode cX8_time 49 = .ok (.if_icmp .ge 11, 3) := by decide +kernel
theorem dX8_time_52 : decode cX8_time 52 = .ok (.aload_n 0, 1) := by decide +kernel
theorem dX8_time_53 : decode cX8_time 53 = .ok (.iload_n 2, 1) := by decide +kernel
theorem dX8_time_54 : decode cX8_time 54 = .ok (.invokevirtual 134, 3) := by decide +kernel
theorem dX8_time_57 : decode cX8_time 57 = .ok (.goto 4, 3) := by decide +kernel
theorem dX8_time_60 : decode cX8_time 60 = .ok (.iconst (-1), 1) := by decide +kernel
theorem dX8_time_61 : decode cX8_time 61 = .ok (.istore_n 3, 1) := by decide +kernel
theorem dX8_time_62 : decode cX8_time 62 = .ok (.aload_n 0, 1) := by decide +kernel
theorem dX8_time_63 : decode cX8_time 63 = .ok (.getfield 42, 3) := by decide +kernel
theorem dX8_time_66 : decode cX8_time 66 = .ok (.iload_n 2, 1) := by decide +kernel
theorem dX8_time_67 : decode cX8_time 67 = .ok (.iaload, 1) := by decide +kernel
theorem dX8_time_68 : decode cX8_time 68 = .ok (.iload_n 3, 1) := by decide +kernel
theorem dX8_time_69 : decode cX8_time 69 = .ok (.iconst (-1), 1) := by decide +kernel
theorem dX8_time_70 : decode cX8_time 70 = .ok (.if_icmp .ne 7, 3) := by decide +kernel
theorem dX8_time_73 : decode cX8_time 73 = .ok (.iconst 0, 1) := by decide +kernel
theorem dX8_time_74 : decode cX8_time 74 = .ok (.goto 9, 3) := by decide +kernel
theorem dX8_time_77 : decode cX8_time 77 = .ok (.aload_n 0, 1) := by decide +kernel
theorem dX8_time_78 : decode cX8_time 78 = .ok (.getfield 20, 3) := by decide +kernel
theorem dX8_time_81 : decode cX8_time 81 = .ok (.iload_n 3, 1) := by decide +kernel
theorem dX8_time_82 : decode cX8_time 82 = .ok (.iaload, 1) := by decide +kernel
theorem dX8_time_83 : decode cX8_time 83 = .ok (.isub, 1) := by decide +kernel
theorem dX8_time_84 : decode cX8_time 84 = .ok (.ireturn, 1) := by decide +kernel
set_option maxRecDepth 20000 in
theorem ggX8_fitting_X8_isTune : GoodIn wsX8_fitting wsX8_isTune := goodIn_r _ [6, 7, 8, 5, 9] (by decide +kernel) (by decide +kernel)
set_option maxRecDepth 20000 in
theorem gX8_fitting_X8_isTune : GoodIn wsX8_fitting (va_wsS RX8 99 yX8_isTune wsX8_isTune) := goodIn_app (goodIn_of _ (by decide +kernel)) ggX8_fitting_X8_isTune
set_option maxRecDepth 20000 in
theorem ggX8_fitting_X8_isGap : GoodIn wsX8_fitting wsX8_isGap := goodIn_r _ [13, 14, 7, 8, 5, 9, 72, 73, 74, 75, 76, 77, 78, 79, 80, 81, 82, 83, 84, 85, 86, 87, 88, 89, 90, 91, 92] (by decide +kernel) (by decide +kernel)
set_option maxRecDepth 20000 in
theorem gX8_fitting_X8_isGap : GoodIn wsX8_fitting (wsV RX8 102 RX8 yX8_isGap wsX8_isGap) := goodIn_app (goodIn_of _ (by decide +kernel)) ggX8_fitting_X8_isGap
set_option maxRecDepth 20000 in
theorem ggX8_fitting_X8_goesWell : GoodIn wsX8_fitting wsX8_goesWell := goodIn_r _ [18, 19, 72, 73, 74, 75, 76, 77, 78, 79, 80, 81, 82, 83, 84, 85, 86, 87, 88, 89, 90, 91, 92] (by decide +kernel) (by decide +kernel)
set_option maxRecDepth 20000 in
theorem gX8_fitting_X8_goesWell : GoodIn wsX8_fitting (wsV RX8 78 RX8 yX8_goesWell wsX8_goesWell) := goodIn_app (goodIn_of _ (by decide +kernel)) ggX8_fitting_X8_goesWell
set_option maxRecDepth 20000 in
theorem ggX8_fitting_X8_layTune : GoodIn wsX8_fitting wsX8_layTune := goodIn_r _ [23, 24, 25, 26, 27, 5, 28, 14, 29, 30, 31, 32, 33, 34, 35, 36, 37, 38, 39, 40, 41, 42, 43, 44, 45, 2, 46, 1, 47, 48, 49, 50, 51, 52, 53, 54, 55, 56, 57, 58, 59, 60, 61, 62, 63, 64, 65, 66, 67, 68, 69, 70, 71, 72, 73, 74, 75, 76, 77, 78, 79, 80, 81, 82, 83, 84, 85, 86, 87, 88, 89, 90, 91, 92] (by decide +kernel) (by decide +kernel)
set_option maxRecDepth 20000 in
theorem gX8_fitting_X8_layTune : GoodIn wsX8_fitting (wsV RX8 127 RX8 yX8_layTune wsX8_layTune) := goodIn_app (goodIn_of _ (by decide +kernel)) ggX8_fitting_X8_layTune
set_option maxRecDepth 20000 in
theorem ggX8_fitting_X8_at : GoodIn wsX8_fitting wsX8_at := goodIn_r _ [51, 29, 31, 33, 2, 52, 53, 54, 5, 55, 56, 57, 58, 59, 60, 61, 62, 63, 64, 65, 66, 67, 68, 69, 70, 71, 72, 73, 74, 75, 76, 77, 78, 79, 80, 81, 82, 83, 84, 85, 86, 87, 88, 89, 90, 91, 92] (by decide +kernel) (by decide +kernel)
set_option maxRecDepth 20000 in
theorem gX8_fitting_X8_at : GoodIn wsX8_fitting (wsV RX8 113 RX8 yX8_at wsX8_at) := goodIn_app (goodIn_of _ (by decide +kernel)) ggX8_fitting_X8_at
theorem dX8_fitting_0 : decode cX8_fitting 0 = .ok (.aload_n 0, 1) := by decide +kernel
theorem dX8_fitting_1 : decode cX8_fitting 1 = .ok (.iload_n 1, 1) := by decide +kernel
theorem dX8_fitting_2 : decode cX8_fitting 2 = .ok (.invokestatic 99, 3) := by decide +kernel
theorem dX8_fitting_5 : decode cX8_fitting 5 = .ok (.ifCond .ne 7, 3) := by decide +kernel
theorem dX8_fitting_8 : decode cX8_fitting 8 = .ok (.iconst 1, 1) := by decide +kernel
theorem dX8_fitting_9 : decode cX8_fitting 9 = .ok (.goto 17, 3) := by decide +kernel
theorem dX8_fitting_12 : decode cX8_fitting 12 = .ok (.aload_n 0, 1) := by decide +kernel
theorem dX8_fitting_13 : decode cX8_fitting 13 = .ok (.iload_n 1, 1) := by decide +kernel
theorem dX8_fitting_14 : decode cX8_fitting 14 = .ok (.iload_n 2, 1) := by decide +kernel
theorem dX8_fitting_15 : decode cX8_fitting 15 = .ok (.invokevirtual 102, 3) := by decide +kernel
theorem dX8_fitting_18 : decode cX8_fitting 18 = .ok (.ifCond .eq 7, 3) := by decide +kernel
theorem dX8_fitting_21 : decode cX8_fitting 21 = .ok (.iconst 0, 1) := by decide +kernel
theorem dX8_fitting_22 : decode cX8_fitting 22 = .ok (.goto 4, 3) := by decide +kernel
theorem dX8_fitting_25 : decode cX8_fitting 25 = .ok (.iconst 2, 1) := by decide +kernel
theorem dX8_fitting_26 : decode cX8_fitting 26 = .ok (.invokevirtual 78, 3) := by decide +kernel
theorem dX8_fitting_29 : decode cX8_fitting 29 = .ok (.ifCond .ne 5, 3) := by decide +kernel
theorem dX8_fitting_32 : decode cX8_fitting 32 = .ok (.iconst 0, 1) := by decide +kernel
theorem dX8_fitting_33 : decode cX8_fitting 33 = .ok (.ireturn, 1) := by decide +kernel
theorem dX8_fitting_34 : decode cX8_fitting 34 = .ok (.aload_n 0, 1) := by decide +kernel
theorem dX8_fitting_35 : decode cX8_fitting 35 = .ok (.iload_n 1, 1) := by decide +kernel
theorem dX8_fitting_36 : decode cX8_fitting 36 = .ok (.invokevirtual 127, 3) := by decide +kernel
theorem dX8_fitting_39 : decode cX8_fitting 39 = .ok (.iconst 0, 1) := by decide +kernel
theorem dX8_fitting_40 : decode cX8_fitting 40 = .ok (.istore_n 3, 1) := by decide +kernel
theorem dX8_fitting_41 : decode cX8_fitting 41 = .ok (.iconst 0, 1) := by decide +kernel
theorem dX8_fitting_42 : decode cX8_fitting 42 = .ok (.istore 4, 2) := by decide +kernel
theorem dX8_fitting_44 : decode cX8_fitting 44 = .ok (.iload 4, 2) := by decide +kernel
theorem dX8_fitting_46 : decode cX8_fitting 46 = .ok (.aload_n 0, 1) := by decide +kernel
theorem dX8_fitting_47 : decode cX8_fitting 47 = .ok (.getfield 88, 3) := by decide +kernel
theorem dX8_fitting_50 : decode cX8_fitting 50 = .ok (.if_icmp .ge 29, 3) := by decide +kernel
theorem dX8_fitting_53 : decode cX8_fitting 53 = .ok (.iload_n 3, 1) := by decide +kernel
theorem dX8_fitting_54 : decode cX8_fitting 54 = .ok (.aload_n 0, 1) := by decide +kernel
theorem dX8_fitting_55 : decode cX8_fitting 55 = .ok (.iload_n 2, 1) := by decide +kernel
theorem dX8_fitting_56 : decode cX8_fitting 56 = .ok (.iload 4, 2) := by decide +kernel
theorem dX8_fitting_58 : decode cX8_fitting 58 = .ok (.invokevirtual 113, 3) := by decide +kernel
theorem dX8_fitting_61 : decode cX8_fitting 61 = .ok (.ldc 91, 2) := by decide +kernel
theorem dX8_fitting_63 : decode cX8_fitting 63 = .ok (.if_icmp .ge 7, 3) := by decide +kernel
theorem dX8_fitting_66 : decode cX8_fitting 66 = .ok (.iconst 1, 1) := by decide +kernel
theorem dX8_fitting_67 : decode cX8_fitting 67 = .ok (.goto 4, 3) := by decide +kernel
theorem dX8_fitting_70 : decode cX8_fitting 70 = .ok (.iconst 0, 1) := by decide +kernel
theorem dX8_fitting_71 : decode cX8_fitting 71 = .ok (.iadd, 1) := by decide +kernel
theorem dX8_fitting_72 : decode cX8_fitting 72 = .ok (.istore_n 3, 1) := by decide +kernel
theorem dX8_fitting_73 : decode cX8_fitting 73 = .ok (.iinc 4 1, 3) := by decide +kernel
theorem dX8_fitting_76 : decode cX8_fitting 76 = .ok (.goto (-32), 3) := by decide +kernel
theorem dX8_fitting_79 : decode cX8_fitting 79 = .ok (.iload_n 3, 1) := by decide +kernel
theorem dX8_fitting_80 : decode cX8_fitting 80 = .ok (.ireturn, 1) := by decide +kernel
set_option maxRecDepth 20000 in
theorem ggX8_choices_X8_isTune : GoodIn wsX8_choices wsX8_isTune := goodIn_r _ [5, 6, 7, 4, 8] (by decide +kernel) (by decide +kernel)
set_option maxRecDepth 20000 in
theorem gX8_choices_X8_isTune : GoodIn wsX8_choices (va_wsS RX8 99 yX8_isTune wsX8_isTune) := goodIn_app (goodIn_of _ (by decide +kernel)) ggX8_choices_X8_isTune
set_option maxRecDepth 20000 in
theorem ggX8_choices_X8_goesWell : GoodIn wsX8_choices wsX8_goesWell := goodIn_r _ [12, 13, 68, 69, 70, 71, 72, 73, 74, 75, 76, 77, 78, 79, 80, 81, 82, 83, 84, 85, 86, 87, 88] (by decide +kernel) (by decide +kernel)
set_option maxRecDepth 20000 in
theorem gX8_choices_X8_goesWell : GoodIn wsX8_choices (wsV RX8 78 RX8 yX8_goesWell wsX8_goesWell) := goodIn_app (goodIn_of _ (by decide +kernel)) ggX8_choices_X8_goesWell
set_option maxRecDepth 20000 in
theorem ggX8_choices_X8_layTune : GoodIn wsX8_choices wsX8_layTune := goodIn_r _ [17, 18, 19, 20, 21, 4, 22, 23, 24, 25, 26, 27, 28, 29, 30, 31, 32, 33, 34, 1, 35, 36, 37, 38, 39, 40, 41, 42, 43, 44, 45, 46, 47, 48, 49, 50, 51, 52, 53, 54, 55, 56, 57, 58, 59, 60, 61, 62, 63, 64, 65, 66, 67, 68, 69, 70, 71, 72, 73, 74, 75, 76, 77, 78, 79, 80, 81, 82, 83, 84, 85, 86, 87, 88] (by decide +kernel) (by decide +kernel)
set_option maxRecDepth 20000 in
theorem gX8_choices_X8_layTune : GoodIn wsX8_choices (wsV RX8 127 RX8 yX8_layTune wsX8_layTune) := goodIn_app (goodIn_of _ (by decide +kernel)) ggX8_choices_X8_layTune
theorem dX8_choices_0 : decode cX8_choices 0 = .ok (.aload_n 0, 1) := by decide +kernel
theorem dX8_choices_1 : decode cX8_choices 1 = .ok (.iload_n 1, 1) := by decide +kernel
theorem dX8_choices_2 : decode cX8_choices 2 = .ok (.invokestatic 99, 3) := by decide +kernel
theorem dX8_choices_5 : decode cX8_choices 5 = .ok (.ifCond .eq 7, 3) := by decide +kernel
theorem dX8_choices_8 : decode cX8_choices 8 = .ok (.iconst 0, 1) := by decide +kernel
theorem dX8_choices_9 : decode cX8_choices 9 = .ok (.goto 4, 3) := by decide +kernel
theorem dX8_choices_12 : decode cX8_choices 12 = .ok (.iconst 1, 1) := by decide +kernel
theorem dX8_choices_13 : decode cX8_choices 13 = .ok (.invokevirtual 78, 3) := by decide +kernel
theorem dX8_choices_16 : decode cX8_choices 16 = .ok (.ifCond .ne 5, 3) := by decide +kernel
theorem dX8_choices_19 : decode cX8_choices 19 = .ok (.iconst 0, 1) := by decide +kernel
theorem dX8_choices_20 : decode cX8_choices 20 = .ok (.ireturn, 1) := by decide +kernel
theorem dX8_choices_21 : decode cX8_choices 21 = .ok (.aload_n 0, 1) := by decide +kernel
theorem dX8_choices_22 : decode cX8_choices 22 = .ok (.iload_n 1, 1) := by decide +kernel
theorem dX8_choices_23 : decode cX8_choices 23 = .ok (.invokevirtual 127, 3) := by decide +kernel
theorem dX8_choices_26 : decode cX8_choices 26 = .ok (.aload_n 0, 1) := by decide +kernel
theorem dX8_choices_27 : decode cX8_choices 27 = .ok (.getfield 51, 3) := by decide +kernel
theorem dX8_choices_30 : decode cX8_choices 30 = .ok (.iconst 0, 1) := by decide +kernel
theorem dX8_choices_31 : decode cX8_choices 31 = .ok (.iaload, 1) := by decide +kernel
theorem dX8_choices_32 : decode cX8_choices 32 = .ok (.ireturn, 1) := by decide +kernel
set_option maxRecDepth 20000 in
theorem ggX8_faultOfTune_X8_faultOf : GoodIn wsX8_faultOfTune wsX8_faultOf := goodIn_r _ [5, 6, 7, 8, 4, 9, 10, 11, 12, 13, 14, 15, 16, 17, 18, 19, 20, 21, 22, 23, 24, 25, 26, 27, 28, 29, 30, 31, 32, 33, 34, 35, 36, 37, 38, 39, 40, 41, 42, 43, 44, 45, 46, 47, 48, 49, 50, 51, 52, 53, 54, 55, 56, 57, 58, 59, 60, 61, 62, 63, 64, 65, 66, 67, 68, 69, 70, 71, 72, 73, 74, 75, 76, 77, 78, 79, 80, 81, 82, 83, 84, 85, 86, 87] (by decide +kernel) (by decide +kernel)
set_option maxRecDepth 20000 in
theorem gX8_faultOfTune_X8_faultOf : GoodIn wsX8_faultOfTune (wsV RX8 130 RX8 yX8_faultOf wsX8_faultOf) := goodIn_app (goodIn_of _ (by decide +kernel)) ggX8_faultOfTune_X8_faultOf
theorem dX8_faultOfTune_0 : decode cX8_faultOfTune 0 = .ok (.aload_n 0, 1) := by decide +kernel
theorem dX8_faultOfTune_1 : decode cX8_faultOfTune 1 = .ok (.iload_n 1, 1) := by decide +kernel
theorem dX8_faultOfTune_2 : decode cX8_faultOfTune 2 = .ok (.iconst 1, 1) := by decide +kernel
theorem dX8_faultOfTune_3 : decode cX8_faultOfTune 3 = .ok (.invokevirtual 130, 3) := by decide +kernel
theorem dX8_faultOfTune_6 : decode cX8_faultOfTune 6 = .ok (.istore_n 2, 1) := by decide +kernel
theorem dX8_faultOfTune_7 : decode cX8_faultOfTune 7 = .ok (.iload_n 2, 1) := by decide +kernel
theorem dX8_faultOfTune_8 : decode cX8_faultOfTune 8 = .ok (.iconst 3, 1) := by decide +kernel
theorem dX8_faultOfTune_9 : decode cX8_faultOfTune 9 = .ok (.if_icmp .ne 7, 3) := by decide +kernel
theorem dX8_faultOfTune_12 : decode cX8_faultOfTune 12 = .ok (.iconst 2, 1) := by decide +kernel
theorem dX8_faultOfTune_13 : decode cX8_faultOfTune 13 = .ok (.goto 4, 3) := by decide +kernel
theorem dX8_faultOfTune_16 : decode cX8_faultOfTune 16 = .ok (.iload_n 2, 1) := by decide +kernel
theorem dX8_faultOfTune_17 : decode cX8_faultOfTune 17 = .ok (.ireturn, 1) := by decide +kernel
set_option maxRecDepth 20000 in
theorem ggX8_least_X8_faultOfTune : GoodIn wsX8_least wsX8_faultOfTune := goodIn_r _ [6, 7, 8, 9, 5, 10, 11, 12, 13, 14, 15, 16, 17, 18, 19, 20, 21, 22, 23, 24, 25, 26, 27, 28, 29, 30, 31, 32, 33, 34, 35, 36, 37, 1, 38, 39, 40, 41, 42, 43, 44, 45, 46, 47, 48, 49, 50, 51, 52, 53, 54, 55, 56, 57, 58, 59, 60, 61, 62, 63, 64, 65, 66, 67, 68, 69, 70, 76, 77, 78, 79, 80, 81, 82, 83, 84, 85, 86, 87, 88, 89, 90, 91, 92, 93, 94, 95, 96] (by decide +kernel) (by decide +kernel)
set_option maxRecDepth 20000 in
theorem gX8_least_X8_faultOfTune : GoodIn wsX8_least (wsV RX8 138 RX8 yX8_faultOfTune wsX8_faultOfTune) := goodIn_app (goodIn_of _ (by decide +kernel)) ggX8_least_X8_faultOfTune
set_option maxRecDepth 20000 in
theorem ggX8_least_X8_goesWell : GoodIn wsX8_least wsX8_goesWell := goodIn_r _ [74, 75, 76, 77, 78, 79, 80, 81, 82, 83, 84, 85, 86, 87, 88, 89, 90, 91, 92, 93, 94, 95, 96] (by decide +kernel) (by decide +kernel)
set_option maxRecDepth 20000 in
theorem gX8_least_X8_goesWell : GoodIn wsX8_least (wsV RX8 78 RX8 yX8_goesWell wsX8_goesWell) := goodIn_app (goodIn_of _ (by decide +kernel)) ggX8_least_X8_goesWell
theorem dX8_least_0 : decode cX8_least 0 = .ok (.aload_n 0, 1) := by decide +kernel
theorem dX8_least_1 : decode cX8_least 1 = .ok (.aload_n 0, 1) := by decide +kernel
theorem dX8_least_2 : decode cX8_least 2 = .ok (.iload_n 1, 1) := by decide +kernel
theorem dX8_least_3 : decode cX8_least 3 = .ok (.invokevirtual 138, 3) := by decide +kernel
theorem dX8_least_6 : decode cX8_least 6 = .ok (.invokevirtual 78, 3) := by decide +kernel
theorem dX8_least_9 : decode cX8_least 9 = .ok (.ifCond .eq 12, 3) := by decide +kernel
theorem dX8_least_12 : decode cX8_least 12 = .ok (.aload_n 0, 1) := by decide +kernel
theorem dX8_least_13 : decode cX8_least 13 = .ok (.getfield 48, 3) := by decide +kernel
theorem dX8_least_16 : decode cX8_least 16 = .ok (.iconst 0, 1) := by decide +kernel
theorem dX8_least_17 : decode cX8_least 17 = .ok (.iaload, 1) := by decide +kernel
theorem dX8_least_18 : decode cX8_least 18 = .ok (.goto 4, 3) := by decide +kernel
theorem dX8_least_21 : decode cX8_least 21 = .ok (.iconst 0, 1) := by decide +kernel
theorem dX8_least_22 : decode cX8_least 22 = .ok (.ireturn, 1) := by decide +kernel
set_option maxRecDepth 20000 in
theorem ggX8_chosen_X8_isTune : GoodIn wsX8_chosen wsX8_isTune := goodIn_r _ [4, 5, 6, 3, 7] (by decide +kernel) (by decide +kernel)
set_option maxRecDepth 20000 in
theorem gX8_chosen_X8_isTune : GoodIn wsX8_chosen (va_wsS RX8 99 yX8_isTune wsX8_isTune) := goodIn_app (goodIn_of _ (by decide +kernel)) ggX8_chosen_X8_isTune
set_option maxRecDepth 20000 in
theorem ggX8_chosen_X8_isGap : GoodIn wsX8_chosen wsX8_isGap := goodIn_r _ [11, 12, 5, 6, 3, 7, 84, 85, 86, 87, 88, 89, 90, 91, 92, 93, 94, 95, 96, 97, 98, 99, 100, 101, 102, 103, 104] (by decide +kernel) (by decide +kernel)
set_option maxRecDepth 20000 in
theorem gX8_chosen_X8_isGap : GoodIn wsX8_chosen (wsV RX8 102 RX8 yX8_isGap wsX8_isGap) := goodIn_app (goodIn_of _ (by decide +kernel)) ggX8_chosen_X8_isGap
set_option maxRecDepth 20000 in
theorem ggX8_chosen_X8_faultOf : GoodIn wsX8_chosen wsX8_faultOf := goodIn_r _ [16, 17, 1, 2, 3, 4, 5, 6, 7, 18, 19, 20, 21, 22, 23, 24, 25, 26, 12, 27, 28, 29, 30, 31, 32, 33, 34, 35, 36, 37, 38, 39, 40, 41, 42, 43, 44, 45, 46, 47, 48, 49, 50, 51, 52, 53, 54, 55, 56, 57, 58, 59, 60, 61, 62, 63, 64, 65, 66, 67, 68, 69, 70, 84, 85, 86, 87, 88, 89, 90, 91, 92, 93, 94, 95, 96, 97, 98, 99, 100, 101, 102, 103, 104] (by decide +kernel) (by decide +kernel)
set_option maxRecDepth 20000 in
theorem gX8_chosen_X8_faultOf : GoodIn wsX8_chosen (wsV RX8 130 RX8 yX8_faultOf wsX8_faultOf) := goodIn_app (goodIn_of _ (by decide +kernel)) ggX8_chosen_X8_faultOf
set_option maxRecDepth 20000 in
theorem ggX8_chosen_X8_goesWell : GoodIn wsX8_chosen wsX8_goesWell := goodIn_r _ [74, 75, 84, 85, 86, 87, 88, 89, 90, 91, 92, 93, 94, 95, 96, 97, 98, 99, 100, 101, 102, 103, 104] (by decide +kernel) (by decide +kernel)
set_option maxRecDepth 20000 in
theorem gX8_chosen_X8_goesWell : GoodIn wsX8_chosen (wsV RX8 78 RX8 yX8_goesWell wsX8_goesWell) := goodIn_app (goodIn_of _ (by decide +kernel)) ggX8_chosen_X8_goesWell
set_option maxRecDepth 20000 in
theorem ggX8_chosen_X8_chosenAt : GoodIn wsX8_chosen wsX8_chosenAt := goodIn_r _ [79, 80, 81, 82, 3, 83, 17, 37, 47, 48, 49, 50, 27, 29, 31, 43, 51, 52, 53, 54, 55, 56, 57, 58, 59, 60, 61, 62, 63, 64, 65, 66, 67, 68, 69, 70, 84, 85, 86, 87, 88, 89, 90, 91, 92, 93, 94, 95, 96, 97, 98, 99, 100, 101, 102, 103, 104] (by decide +kernel) (by decide +kernel)
set_option maxRecDepth 20000 in
theorem gX8_chosen_X8_chosenAt : GoodIn wsX8_chosen (wsV RX8 134 RX8 yX8_chosenAt wsX8_chosenAt) := goodIn_app (goodIn_of _ (by decide +kernel)) ggX8_chosen_X8_chosenAt
theorem dX8_chosen_0 : decode cX8_chosen 0 = .ok (.aload_n 0, 1) := by decide +kernel
theorem dX8_chosen_1 : decode cX8_chosen 1 = .ok (.aload_n 0, 1) := by decide +kernel
theorem dX8_chosen_2 : decode cX8_chosen 2 = .ok (.iload_n 1, 1) := by decide +kernel
theorem dX8_chosen_3 : decode cX8_chosen 3 = .ok (.iload_n 1, 1) := by decide +kernel
theorem dX8_chosen_4 : decode cX8_chosen 4 = .ok (.invokestatic 99, 3) := by decide +kernel
theorem dX8_chosen_7 : decode cX8_chosen 7 = .ok (.ifCond .eq 16, 3) := by decide +kernel
theorem dX8_chosen_10 : decode cX8_chosen 10 = .ok (.aload_n 0, 1) := by decide +kernel
theorem dX8_chosen_11 : decode cX8_chosen 11 = .ok (.iload_n 1, 1) := by decide +kernel
theorem dX8_chosen_12 : decode cX8_chosen 12 = .ok (.iload_n 2, 1) := by decide +kernel
theorem dX8_chosen_13 : decode cX8_chosen 13 = .ok (.invokevirtual 102, 3) := by decide +kernel
theorem dX8_chosen_16 : decode cX8_chosen 16 = .ok (.ifCond .eq 7, 3) := by decide +kernel
theorem dX8_chosen_19 : decode cX8_chosen 19 = .ok (.iconst 1, 1) := by decide +kernel
theorem dX8_chosen_20 : decode cX8_chosen 20 = .ok (.goto 4, 3) := by decide +kernel
theorem dX8_chosen_23 : decode cX8_chosen 23 = .ok (.iconst 0, 1) := by decide +kernel
theorem dX8_chosen_24 : decode cX8_chosen 24 = .ok (.invokevirtual 130, 3) := by decide +kernel
theorem dX8_chosen_27 : decode cX8_chosen 27 = .ok (.invokevirtual 78, 3) := by decide +kernel
theorem dX8_chosen_30 : decode cX8_chosen 30 = .ok (.ifCond .eq 11, 3) := by decide +kernel
theorem dX8_chosen_33 : decode cX8_chosen 33 = .ok (.aload_n 0, 1) := by decide +kernel
theorem dX8_chosen_34 : decode cX8_chosen 34 = .ok (.iload_n 2, 1) := by decide +kernel
theorem dX8_chosen_35 : decode cX8_chosen 35 = .ok (.invokevirtual 134, 3) := by decide +kernel
theorem dX8_chosen_38 : decode cX8_chosen 38 = .ok (.goto 4, 3) := by decide +kernel
theorem dX8_chosen_41 : decode cX8_chosen 41 = .ok (.iconst 0, 1) := by decide +kernel
theorem dX8_chosen_42 : decode cX8_chosen 42 = .ok (.ireturn, 1) := by decide +kernel
set_option maxRecDepth 20000 in
theorem ggX8_mostOrnaments_X8_faultOfTune : GoodIn wsX8_mostOrnaments wsX8_faultOfTune := goodIn_r _ [6, 7, 8, 9, 5, 10, 11, 12, 13, 14, 15, 16, 17, 18, 19, 20, 21, 22, 23, 24, 25, 26, 27, 28, 29, 30, 31, 32, 33, 34, 35, 36, 37, 38, 1, 39, 40, 41, 42, 43, 44, 45, 46, 47, 48, 49, 50, 51, 52, 53, 54, 55, 56, 57, 58, 59, 60, 61, 62, 63, 64, 65, 66, 67, 68, 69, 70, 76, 77, 78, 79, 80, 81, 82, 83, 84, 85, 86, 87, 88, 89, 90, 91, 92, 93, 94, 95, 96] (by decide +kernel) (by decide +kernel)
set_option maxRecDepth 20000 in
theorem gX8_mostOrnaments_X8_faultOfTune : GoodIn wsX8_mostOrnaments (wsV RX8 138 RX8 yX8_faultOfTune wsX8_faultOfTune) := goodIn_app (goodIn_of _ (by decide +kernel)) ggX8_mostOrnaments_X8_faultOfTune
set_option maxRecDepth 20000 in
theorem ggX8_mostOrnaments_X8_goesWell : GoodIn wsX8_mostOrnaments wsX8_goesWell := goodIn_r _ [74, 75, 76, 77, 78, 79, 80, 81, 82, 83, 84, 85, 86, 87, 88, 89, 90, 91, 92, 93, 94, 95, 96] (by decide +kernel) (by decide +kernel)
set_option maxRecDepth 20000 in
theorem gX8_mostOrnaments_X8_goesWell : GoodIn wsX8_mostOrnaments (wsV RX8 78 RX8 yX8_goesWell wsX8_goesWell) := goodIn_app (goodIn_of _ (by decide +kernel)) ggX8_mostOrnaments_X8_goesWell
theorem dX8_mostOrnaments_0 : decode cX8_mostOrnaments 0 = .ok (.aload_n 0, 1) := by decide +kernel
theorem dX8_mostOrnaments_1 : decode cX8_mostOrnaments 1 = .ok (.aload_n 0, 1) := by decide +kernel
theorem dX8_mostOrnaments_2 : decode cX8_mostOrnaments 2 = .ok (.iload_n 1, 1) := by decide +kernel
theorem dX8_mostOrnaments_3 : decode cX8_mostOrnaments 3 = .ok (.invokevirtual 138, 3) := by decide +kernel
theorem dX8_mostOrnaments_6 : decode cX8_mostOrnaments 6 = .ok (.invokevirtual 78, 3) := by decide +kernel
theorem dX8_mostOrnaments_9 : decode cX8_mostOrnaments 9 = .ok (.ifCond .eq 12, 3) := by decide +kernel
theorem dX8_mostOrnaments_12 : decode cX8_mostOrnaments 12 = .ok (.aload_n 0, 1) := by decide +kernel
theorem dX8_mostOrnaments_13 : decode cX8_mostOrnaments 13 = .ok (.getfield 54, 3) := by decide +kernel
theorem dX8_mostOrnaments_16 : decode cX8_mostOrnaments 16 = .ok (.iconst 0, 1) := by decide +kernel
theorem dX8_mostOrnaments_17 : decode cX8_mostOrnaments 17 = .ok (.iaload, 1) := by decide +kernel
theorem dX8_mostOrnaments_18 : decode cX8_mostOrnaments 18 = .ok (.goto 4, 3) := by decide +kernel
theorem dX8_mostOrnaments_21 : decode cX8_mostOrnaments 21 = .ok (.iconst 0, 1) := by decide +kernel
theorem dX8_mostOrnaments_22 : decode cX8_mostOrnaments 22 = .ok (.ireturn, 1) := by decide +kernel
set_option maxRecDepth 20000 in
theorem ggX8_average_X8_faultOfTune : GoodIn wsX8_average wsX8_faultOfTune := goodIn_r _ [7, 8, 9, 10, 6, 11, 12, 13, 14, 15, 16, 17, 18, 19, 20, 21, 22, 1, 23, 24, 25, 26, 27, 28, 29, 30, 31, 32, 33, 34, 35, 36, 37, 2, 38, 39, 40, 41, 42, 43, 44, 45, 46, 47, 48, 49, 50, 51, 52, 53, 54, 55, 56, 57, 58, 59, 60, 61, 62, 63, 64, 65, 66, 67, 68, 69, 70, 76, 77, 78, 79, 80, 81, 82, 83, 84, 85, 86, 87, 88, 89, 90, 91, 92, 93, 94, 95, 96] (by decide +kernel) (by decide +kernel)
set_option maxRecDepth 20000 in
theorem gX8_average_X8_faultOfTune : GoodIn wsX8_average (wsV RX8 138 RX8 yX8_faultOfTune wsX8_faultOfTune) := goodIn_app (goodIn_of _ (by decide +kernel)) ggX8_average_X8_faultOfTune
set_option maxRecDepth 20000 in
theorem ggX8_average_X8_goesWell : GoodIn wsX8_average wsX8_goesWell := goodIn_r _ [74, 75, 76, 77, 78, 79, 80, 81, 82, 83, 84, 85, 86, 87, 88, 89, 90, 91, 92, 93, 94, 95, 96] (by decide +kernel) (by decide +kernel)
set_option maxRecDepth 20000 in
theorem gX8_average_X8_goesWell : GoodIn wsX8_average (wsV RX8 78 RX8 yX8_goesWell wsX8_goesWell) := goodIn_app (goodIn_of _ (by decide +kernel)) ggX8_average_X8_goesWell
theorem dX8_average_0 : decode cX8_average 0 = .ok (.aload_n 0, 1) := by decide +kernel
theorem dX8_average_1 : decode cX8_average 1 = .ok (.aload_n 0, 1) := by decide +kernel
theorem dX8_average_2 : decode cX8_average 2 = .ok (.iload_n 1, 1) := by decide +kernel
theorem dX8_average_3 : decode cX8_average 3 = .ok (.invokevirtual 138, 3) := by decide +kernel
theorem dX8_average_6 : decode cX8_average 6 = .ok (.invokevirtual 78, 3) := by decide +kernel
theorem dX8_average_9 : decode cX8_average 9 = .ok (.ifCond .ne 5, 3) := by decide +kernel
theorem dX8_average_12 : decode cX8_average 12 = .ok (.fconst 0, 1) := by decide +kernel
theorem dX8_average_13 : decode cX8_average 13 = .ok (.freturn, 1) := by decide +kernel
theorem dX8_average_14 : decode cX8_average 14 = .ok (.aload_n 0, 1) := by decide +kernel
theorem dX8_average_15 : decode cX8_average 15 = .ok (.getfield 105, 3) := by decide +kernel
theorem dX8_average_18 : decode cX8_average 18 = .ok (.iconst 2, 1) := by decide +kernel
theorem dX8_average_19 : decode cX8_average 19 = .ok (.if_icmp .ge 7, 3) := by decide +kernel
theorem dX8_average_22 : decode cX8_average 22 = .ok (.fconst 0, 1) := by decide +kernel
theorem dX8_average_23 : decode cX8_average 23 = .ok (.goto 18, 3) := by decide +kernel
theorem dX8_average_26 : decode cX8_average 26 = .ok (.aload_n 0, 1) := by decide +kernel
theorem dX8_average_27 : decode cX8_average 27 = .ok (.getfield 48, 3) := by decide +kernel
theorem dX8_average_30 : decode cX8_average 30 = .ok (.iconst 0, 1) := by decide +kernel
theorem dX8_average_31 : decode cX8_average 31 = .ok (.iaload, 1) := by decide +kernel
theorem dX8_average_32 : decode cX8_average 32 = .ok (.i2f, 1) := by decide +kernel
theorem dX8_average_33 : decode cX8_average 33 = .ok (.aload_n 0, 1) := by decide +kernel
theorem dX8_average_34 : decode cX8_average 34 = .ok (.getfield 105, 3) := by decide +kernel
theorem dX8_average_37 : decode cX8_average 37 = .ok (.iconst 1, 1) := by decide +kernel
theorem dX8_average_38 : decode cX8_average 38 = .ok (.isub, 1) := by decide +kernel
theorem dX8_average_39 : decode cX8_average 39 = .ok (.i2f, 1) := by decide +kernel
theorem dX8_average_40 : decode cX8_average 40 = .ok (.fdiv, 1) := by decide +kernel
theorem dX8_average_41 : decode cX8_average 41 = .ok (.freturn, 1) := by decide +kernel
theorem dX8_layOrder_0 : decode cX8_layOrder 0 = .ok (.iload_n 1, 1) := by decide +kernel
theorem dX8_layOrder_1 : decode cX8_layOrder 1 = .ok (.istore_n 2, 1) := by decide +kernel
theorem dX8_layOrder_2 : decode cX8_layOrder 2 = .ok (.iconst 0, 1) := by decide +kernel
theorem dX8_layOrder_3 : decode cX8_layOrder 3 = .ok (.istore_n 3, 1) := by decide +kernel
theorem dX8_layOrder_4 : decode cX8_layOrder 4 = .ok (.iconst 0, 1) := by decide +kernel
theorem dX8_layOrder_5 : decode cX8_layOrder 5 = .ok (.istore 4, 2) := by decide +kernel
theorem dX8_layOrder_7 : decode cX8_layOrder 7 = .ok (.iconst 1, 1) := by decide +kernel
theorem dX8_layOrder_8 : decode cX8_layOrder 8 = .ok (.istore 5, 2) := by decide +kernel
theorem dX8_layOrder_10 : decode cX8_layOrder 10 = .ok (.iconst 3, 1) := by decide +kernel
theorem dX8_layOrder_11 : decode cX8_layOrder 11 = .ok (.istore 6, 2) := by decide +kernel
theorem dX8_layOrder_13 : decode cX8_layOrder 13 = .ok (.iload 6, 2) := by decide +kernel
theorem dX8_layOrder_15 : decode cX8_layOrder 15 = .ok (.ifCond .lt 23, 3) := by decide +kernel
theorem dX8_layOrder_18 : decode cX8_layOrder 18 = .ok (.aload_n 0, 1) := by decide +kernel
theorem dX8_layOrder_19 : decode cX8_layOrder 19 = .ok (.getfield 57, 3) := by decide +kernel
theorem dX8_layOrder_22 : decode cX8_layOrder 22 = .ok (.iload 6, 2) := by decide +kernel
theorem dX8_layOrder_24 : decode cX8_layOrder 24 = .ok (.iload_n 2, 1) := by decide +kernel
theorem dX8_layOrder_25 : decode cX8_layOrder 25 = .ok (.iconst 4, 1) := by decide +kernel
theorem dX8_layOrder_26 : decode cX8_layOrder 26 = .ok (.irem, 1) := by decide +kernel
theorem dX8_layOrder_27 : decode cX8_layOrder 27 = .ok (.iastore, 1) := by decide +kernel
theorem dX8_layOrder_28 : decode cX8_layOrder 28 = .ok (.iload_n 2, 1) := by decide +kernel
theorem dX8_layOrder_29 : decode cX8_layOrder 29 = .ok (.iconst 4, 1) := by decide +kernel
theorem dX8_layOrder_30 : decode cX8_layOrder 30 = .ok (.idiv, 1) := by decide +kernel
theorem dX8_layOrder_31 : decode cX8_layOrder 31 = .ok (.istore_n 2, 1) := by decide +kernel
theorem dX8_layOrder_32 : decode cX8_layOrder 32 = .ok (.iinc 6 (-1), 3) := by decide +kernel
theorem dX8_layOrder_35 : decode cX8_layOrder 35 = .ok (.goto (-22), 3) := by decide +kernel
theorem dX8_layOrder_38 : decode cX8_layOrder 38 = .ok (.iconst 0, 1) := by decide +kernel
theorem dX8_layOrder_39 : decode cX8_layOrder 39 = .ok (.istore 6, 2) := by decide +kernel
theorem dX8_layOrder_41 : decode cX8_layOrder 41 = .ok (.iload 6, 2) := by decide +kernel
theorem dX8_layOrder_43 : decode cX8_layOrder 43 = .ok (.iconst 4, 1) := by decide +kernel
theorem dX8_layOrder_44 : decode cX8_layOrder 44 = .ok (.if_icmp .ge 129, 3) := by decide +kernel
theorem dX8_layOrder_47 : decode cX8_layOrder 47 = .ok (.aload_n 0, 1) := by decide +kernel
theorem dX8_layOrder_48 : decode cX8_layOrder 48 = .ok (.getfield 57, 3) := by decide +kernel
theorem dX8_layOrder_51 : decode cX8_layOrder 51 = .ok (.iload 6, 2) := by decide +kernel
theorem dX8_layOrder_53 : decode cX8_layOrder 53 = .ok (.iaload, 1) := by decide +kernel
theorem dX8_layOrder_54 : decode cX8_layOrder 54 = .ok (.istore 7, 2) := by decide +kernel
theorem dX8_layOrder_56 : decode cX8_layOrder 56 = .ok (.iload 6, 2) := by decide +kernel
theorem dX8_layOrder_58 : decode cX8_layOrder 58 = .ok (.ifCond .le 36, 3) := by decide +kernel
theorem dX8_layOrder_61 : decode cX8_layOrder 61 = .ok (.aload_n 0, 1) := by decide +kernel
theorem dX8_layOrder_62 : decode cX8_layOrder 62 = .ok (.getfield 36, 3) := by decide +kernel
theorem dX8_layOrder_65 : decode cX8_layOrder 65 = .ok (.iload 7, 2) := by decide +kernel
theorem dX8_layOrder_67 : decode cX8_layOrder 67 = .ok (.iaload, 1) := by decide +kernel
theorem dX8_layOrder_68 : decode cX8_layOrder 68 = .ok (.ifCond .ne 26, 3) := by decide +kernel
theorem dX8_layOrder_71 : decode cX8_layOrder 71 = .ok (.iload 4, 2) := by decide +kernel
theorem dX8_layOrder_73 : decode cX8_layOrder 73 = .ok (.ifCond .eq 21, 3) := by decide +kernel
theorem dX8_layOrder_76 : decode cX8_layOrder 76 = .ok (.aload_n 0, 1) := by decide +kernel
theorem dX8_layOrder_77 : decode cX8_layOrder 77 = .ok (.getfield 57, 3) := by decide +kernel
theorem dX8_layOrder_80 : decode cX8_layOrder 80 = .ok (.iload 6, 2) := by decide +kernel
theorem dX8_layOrder_82 : decode cX8_layOrder 82 = .ok (.iconst 1, 1) := by decide +kernel
theorem dX8_layOrder_83 : decode cX8_layOrder 83 = .ok (.isub, 1) := by decide +kernel
theorem dX8_layOrder_84 : decode cX8_layOrder 84 = .ok (.iaload, 1) := by decide +kernel
theorem dX8_layOrder_85 : decode cX8_layOrder 85 = .ok (.iload 7, 2) := by decide +kernel
theorem dX8_layOrder_87 : decode cX8_layOrder 87 = .ok (.if_icmp .le 7, 3) := by decide +kernel
theorem dX8_layOrder_90 : decode cX8_layOrder 90 = .ok (.iconst 1, 1) := by decide +kernel
theorem dX8_layOrder_91 : decode cX8_layOrder 91 = .ok (.goto 4, 3) := by decide +kernel
theorem dX8_layOrder_94 : decode cX8_layOrder 94 = .ok (.iconst 0, 1) := by decide +kernel
theorem dX8_layOrder_95 : decode cX8_layOrder 95 = .ok (.istore 8, 2) := by decide +kernel
theorem dX8_layOrder_97 : decode cX8_layOrder 97 = .ok (.iload 5, 2) := by decide +kernel
theorem dX8_layOrder_99 : decode cX8_layOrder 99 = .ok (.ifCond .eq 36, 3) := by decide +kernel
theorem dX8_layOrder_102 : decode cX8_layOrder 102 = .ok (.iload_n 3, 1) := by decide +kernel
theorem dX8_layOrder_103 : decode cX8_layOrder 103 = .ok (.iload 7, 2) := by decide +kernel
theorem dX8_layOrder_105 : decode cX8_layOrder 105 = .ok (.ishr, 1) := by decide +kernel
theorem dX8_layOrder_106 : decode cX8_layOrder 106 = .ok (.iconst 1, 1) := by decide +kernel
theorem dX8_layOrder_107 : decode cX8_layOrder 107 = .ok (.iand, 1) := by decide +kernel
theorem dX8_layOrder_108 : decode cX8_layOrder 108 = .ok (.ifCond .ne 27, 3) := by decide +kernel
theorem dX8_layOrder_111 : decode cX8_layOrder 111 = .ok (.iload 8, 2) := by decide +kernel
theorem dX8_layOrder_113 : decode cX8_layOrder 113 = .ok (.ifCond .ne 22, 3) := by decide +kernel
theorem dX8_layOrder_116 : decode cX8_layOrder 116 = .ok (.aload_n 0, 1) := by decide +kernel
theorem dX8_layOrder_117 : decode cX8_layOrder 117 = .ok (.getfield 36, 3) := by decide +kernel
theorem dX8_layOrder_120 : decode cX8_layOrder 120 = .ok (.iload 7, 2) := by decide +kernel
theorem dX8_layOrder_122 : decode cX8_layOrder 122 = .ok (.iaload, 1) := by decide +kernel
theorem dX8_layOrder_123 : decode cX8_layOrder 123 = .ok (.ifCond .eq 8, 3) := by decide +kernel
theorem dX8_layOrder_126 : decode cX8_layOrder 126 = .ok (.iload 4, 2) := by decide +kernel
theorem dX8_layOrder_128 : decode cX8_layOrder 128 = .ok (.ifCond .ne 7, 3) := by decide +kernel
theorem dX8_layOrder_131 : decode cX8_layOrder 131 = .ok (.iconst 1, 1) := by decide +kernel
theorem dX8_layOrder_132 : decode cX8_layOrder 132 = .ok (.goto 4, 3) := by decide +kernel
theorem dX8_layOrder_135 : decode cX8_layOrder 135 = .ok (.iconst 0, 1) := by decide +kernel
theorem dX8_layOrder_136 : decode cX8_layOrder 136 = .ok (.istore 5, 2) := by decide +kernel
theorem dX8_layOrder_138 : decode cX8_layOrder 138 = .ok (.iload 4, 2) := by decide +kernel
theorem dX8_layOrder_140 : decode cX8_layOrder 140 = .ok (.ifCond .ne 13, 3) := by decide +kernel
theorem dX8_layOrder_143 : decode cX8_layOrder 143 = .ok (.aload_n 0, 1) := by decide +kernel
theorem dX8_layOrder_144 : decode cX8_layOrder 144 = .ok (.getfield 36, 3) := by decide +kernel
theorem dX8_layOrder_147 : decode cX8_layOrder 147 = .ok (.iload 7, 2) := by decide +kernel
theorem dX8_layOrder_149 : decode cX8_layOrder 149 = .ok (.iaload, 1) := by decide +kernel
theorem dX8_layOrder_150 : decode cX8_layOrder 150 = .ok (.ifCond .ne 7, 3) := by decide +kernel
theorem dX8_layOrder_153 : decode cX8_layOrder 153 = .ok (.iconst 1, 1) := by decide +kernel
theorem dX8_layOrder_154 : decode cX8_layOrder 154 = .ok (.goto 4, 3) := by decide +kernel
theorem dX8_layOrder_157 : decode cX8_layOrder 157 = .ok (.iconst 0, 1) := by decide +kernel
theorem dX8_layOrder_158 : decode cX8_layOrder 158 = .ok (.istore 4, 2) := by decide +kernel
theorem dX8_layOrder_160 : decode cX8_layOrder 160 = .ok (.iload_n 3, 1) := by decide +kernel
theorem dX8_layOrder_161 : decode cX8_layOrder 161 = .ok (.iconst 1, 1) := by decide +kernel
theorem dX8_layOrder_162 : decode cX8_layOrder 162 = .ok (.iload 7, 2) := by decide +kernel
theorem dX8_layOrder_164 : decode cX8_layOrder 164 = .ok (.ishl, 1) := by decide +kernel
theorem dX8_layOrder_165 : decode cX8_layOrder 165 = .ok (.ior, 1) := by decide +kernel
theorem dX8_layOrder_166 : decode cX8_layOrder 166 = .ok (.istore_n 3, 1) := by decide +kernel
theorem dX8_layOrder_167 : decode cX8_layOrder 167 = .ok (.iinc 6 1, 3) := by decide +kernel
theorem dX8_layOrder_170 : decode cX8_layOrder 170 = .ok (.goto (-129), 3) := by decide +kernel
theorem dX8_layOrder_173 : decode cX8_layOrder 173 = .ok (.iload 5, 2) := by decide +kernel
theorem dX8_layOrder_175 : decode cX8_layOrder 175 = .ok (.ireturn, 1) := by decide +kernel
set_option maxRecDepth 20000 in
theorem ggX8_goThrough_X8_layOrder : GoodIn wsX8_goThrough wsX8_layOrder := goodIn_r _ [11, 3, 12, 59, 60, 61, 62, 63, 64, 65, 66, 67, 68, 69, 70, 71, 72, 73, 74, 75, 76, 77, 78, 79] (by decide +kernel) (by decide +kernel)
set_option maxRecDepth 20000 in
theorem gX8_goThrough_X8_layOrder : GoodIn wsX8_goThrough (wsV RX8 141 RX8 yX8_layOrder wsX8_layOrder) := goodIn_app (goodIn_of _ (by decide +kernel)) ggX8_goThrough_X8_layOrder
set_option maxRecDepth 20000 in
theorem ggX8_goThrough_X8_append : GoodIn wsX8_goThrough wsX8_append := goodIn_r _ [16, 12, 17, 2, 18, 19, 20, 21, 22, 59, 60, 61, 62, 63, 64, 65, 66, 67, 68, 69, 70, 71, 72, 73, 74, 75, 76, 77, 78, 79] (by decide +kernel) (by decide +kernel)
set_option maxRecDepth 20000 in
theorem gX8_goThrough_X8_append : GoodIn wsX8_goThrough (wsV RX8 117 RX8 yX8_append wsX8_append) := goodIn_app (goodIn_of _ (by decide +kernel)) ggX8_goThrough_X8_append
set_option maxRecDepth 20000 in
theorem ggX8_goThrough_X8_count : GoodIn wsX8_goThrough wsX8_count := goodIn_r _ [26, 2, 5, 4, 27, 28, 29, 30, 10, 31, 1, 32, 33, 34, 35, 36, 37, 38, 17, 19, 21, 39, 40, 41, 42, 43, 44, 45, 46, 47, 48, 49, 50, 51, 52, 53, 54, 55, 56, 57, 58, 59, 60, 61, 62, 63, 64, 65, 66, 67, 68, 69, 70, 71, 72, 73, 74, 75, 76, 77, 78, 79] (by decide +kernel) (by decide +kernel)
set_option maxRecDepth 20000 in
theorem gX8_goThrough_X8_count : GoodIn wsX8_goThrough (wsV RX8 121 RX8 yX8_count wsX8_count) := goodIn_app (goodIn_of _ (by decide +kernel)) ggX8_goThrough_X8_count
theorem dX8_goThrough_0 : decode cX8_goThrough 0 = .ok (.iconst 0, 1) := by decide +kernel
theorem dX8_goThrough_1 : decode cX8_goThrough 1 = .ok (.istore_n 2, 1) := by decide +kernel
theorem dX8_goThrough_2 : decode cX8_goThrough 2 = .ok (.ldc 91, 2) := by decide +kernel
theorem dX8_goThrough_4 : decode cX8_goThrough 4 = .ok (.istore_n 3, 1) := by decide +kernel
theorem dX8_goThrough_5 : decode cX8_goThrough 5 = .ok (.iconst 0, 1) := by decide +kernel
theorem dX8_goThrough_6 : decode cX8_goThrough 6 = .ok (.istore 4, 2) := by decide +kernel
theorem dX8_goThrough_8 : decode cX8_goThrough 8 = .ok (.iload 4, 2) := by decide +kernel
theorem dX8_goThrough_10 : decode cX8_goThrough 10 = .ok (.sipush 256, 3) := by decide +kernel
theorem dX8_goThrough_13 : decode cX8_goThrough 13 = .ok (.if_icmp .ge 125, 3) := by decide +kernel
theorem dX8_goThrough_16 : decode cX8_goThrough 16 = .ok (.aload_n 0, 1) := by decide +kernel
theorem dX8_goThrough_17 : decode cX8_goThrough 17 = .ok (.iload 4, 2) := by decide +kernel
theorem dX8_goThrough_19 : decode cX8_goThrough 19 = .ok (.invokevirtual 141, 3) := by decide +kernel
theorem dX8_goThrough_22 : decode cX8_goThrough 22 = .ok (.ifCond .eq 110, 3) := by decide +kernel
theorem dX8_goThrough_25 : decode cX8_goThrough 25 = .ok (.aload_n 0, 1) := by decide +kernel
theorem dX8_goThrough_26 : decode cX8_goThrough 26 = .ok (.iconst 0, 1) := by decide +kernel
theorem dX8_goThrough_27 : decode cX8_goThrough 27 = .ok (.putfield 105, 3) := by decide +kernel
theorem dX8_goThrough_30 : decode cX8_goThrough 30 = .ok (.iconst 0, 1) := by decide +kernel
theorem dX8_goThrough_31 : decode cX8_goThrough 31 = .ok (.istore 5, 2) := by decide +kernel
theorem dX8_goThrough_33 : decode cX8_goThrough 33 = .ok (.iload 5, 2) := by decide +kernel
theorem dX8_goThrough_35 : decode cX8_goThrough 35 = .ok (.iconst 4, 1) := by decide +kernel
theorem dX8_goThrough_36 : decode cX8_goThrough 36 = .ok (.if_icmp .ge 20, 3) := by decide +kernel
theorem dX8_goThrough_39 : decode cX8_goThrough 39 = .ok (.aload_n 0, 1) := by decide +kernel
theorem dX8_goThrough_40 : decode cX8_goThrough 40 = .ok (.aload_n 0, 1) := by decide +kernel
theorem dX8_goThrough_41 : decode cX8_goThrough 41 = .ok (.getfield 57, 3) := by decide +kernel
theorem dX8_goThrough_44 : decode cX8_goThrough 44 = .ok (.iload 5, 2) := by decide +kernel
theorem dX8_goThrough_46 : decode cX8_goThrough 46 = .ok (.iaload, 1) := by decide +kernel
theorem dX8_goThrough_47 : decode cX8_goThrough 47 = .ok (.invokevirtual 117, 3) := by decide +kernel
theorem dX8_goThrough_50 : decode cX8_goThrough 50 = .ok (.iinc 5 1, 3) := by decide +kernel
theorem dX8_goThrough_53 : decode cX8_goThrough 53 = .ok (.goto (-20), 3) := by decide +kernel
theorem dX8_goThrough_56 : decode cX8_goThrough 56 = .ok (.aload_n 0, 1) := by decide +kernel
theorem dX8_goThrough_57 : decode cX8_goThrough 57 = .ok (.invokevirtual 121, 3) := by decide +kernel
theorem dX8_goThrough_60 : decode cX8_goThrough 60 = .ok (.iload_n 2, 1) := by decide +kernel
theorem dX8_goThrough_61 : decode cX8_goThrough 61 = .ok (.aload_n 0, 1) := by decide +kernel
theorem dX8_goThrough_62 : decode cX8_goThrough 62 = .ok (.getfield 51, 3) := by decide +kernel
theorem dX8_goThrough_65 : decode cX8_goThrough 65 = .ok (.iconst 0, 1) := by decide +kernel
theorem dX8_goThrough_66 : decode cX8_goThrough 66 = .ok (.iaload, 1) := by decide +kernel
theorem dX8_goThrough_67 : decode cX8_goThrough 67 = .ok (.ifCond .le 7, 3) := by decide +kernel
theorem dX8_goThrough_70 : decode cX8_goThrough 70 = .ok (.iconst 1, 1) := by decide +kernel
theorem dX8_goThrough_71 : decode cX8_goThrough 71 = .ok (.goto 4, 3) := by decide +kernel
theorem dX8_goThrough_74 : decode cX8_goThrough 74 = .ok (.iconst 0, 1) := by decide +kernel
theorem dX8_goThrough_75 : decode cX8_goThrough 75 = .ok (.iadd, 1) := by decide +kernel
theorem dX8_goThrough_76 : decode cX8_goThrough 76 = .ok (.istore_n 2, 1) := by decide +kernel
theorem dX8_goThrough_77 : decode cX8_goThrough 77 = .ok (.aload_n 0, 1) := by decide +kernel
theorem dX8_goThrough_78 : decode cX8_goThrough 78 = .ok (.getfield 51, 3) := by decide +kernel
theorem dX8_goThrough_81 : decode cX8_goThrough 81 = .ok (.iconst 0, 1) := by decide +kernel
theorem dX8_goThrough_82 : decode cX8_goThrough 82 = .ok (.iaload, 1) := by decide +kernel
theorem dX8_goThrough_83 : decode cX8_goThrough 83 = .ok (.ifCond .le 49, 3) := by decide +kernel
theorem dX8_goThrough_86 : decode cX8_goThrough 86 = .ok (.aload_n 0, 1) := by decide +kernel
theorem dX8_goThrough_87 : decode cX8_goThrough 87 = .ok (.getfield 48, 3) := by decide +kernel
theorem dX8_goThrough_90 : decode cX8_goThrough 90 = .ok (.iconst 0, 1) := by decide +kernel
theorem dX8_goThrough_91 : decode cX8_goThrough 91 = .ok (.iaload, 1) := by decide +kernel
theorem dX8_goThrough_92 : decode cX8_goThrough 92 = .ok (.iload_n 3, 1) := by decide +kernel
theorem dX8_goThrough_93 : decode cX8_goThrough 93 = .ok (.if_icmp .ge 39, 3) := by decide +kernel
theorem dX8_goThrough_96 : decode cX8_goThrough 96 = .ok (.aload_n 0, 1) := by decide +kernel
theorem dX8_goThrough_97 : decode cX8_goThrough 97 = .ok (.getfield 48, 3) := by decide +kernel
theorem dX8_goThrough_100 : decode cX8_goThrough 100 = .ok (.iconst 0, 1) := by decide +kernel
theorem dX8_goThrough_101 : decode cX8_goThrough 101 = .ok (.iaload, 1) := by decide +kernel
theorem dX8_goThrough_102 : decode cX8_goThrough 102 = .ok (.istore_n 3, 1) := by decide +kernel
theorem dX8_goThrough_103 : decode cX8_goThrough 103 = .ok (.iconst 0, 1) := by decide +kernel
theorem dX8_goThrough_104 : decode cX8_goThrough 104 = .ok (.istore 5, 2) := by decide +kernel
theorem dX8_goThrough_106 : decode cX8_goThrough 106 = .ok (.iload 5, 2) := by decide +kernel
theorem dX8_goThrough_108 : decode cX8_goThrough 108 = .ok (.iconst 4, 1) := by decide +kernel
theorem dX8_goThrough_109 : decode cX8_goThrough 109 = .ok (.if_icmp .ge 23, 3) := by decide +kernel
theorem dX8_goThrough_112 : decode cX8_goThrough 112 = .ok (.aload_n 0, 1) := by decide +kernel
theorem dX8_goThrough_113 : decode cX8_goThrough 113 = .ok (.getfield 60, 3) := by decide +kernel
theorem dX8_goThrough_116 : decode cX8_goThrough 116 = .ok (.iload 5, 2) := by decide +kernel
theorem dX8_goThrough_118 : decode cX8_goThrough 118 = .ok (.aload_n 0, 1) := by decide +kernel
theorem dX8_goThrough_119 : decode cX8_goThrough 119 = .ok (.getfield 57, 3) := by decide +kernel
theorem dX8_goThrough_122 : decode cX8_goThrough 122 = .ok (.iload 5, 2) := by decide +kernel
theorem dX8_goThrough_124 : decode cX8_goThrough 124 = .ok (.iaload, 1) := by decide +kernel
theorem dX8_goThrough_125 : decode cX8_goThrough 125 = .ok (.iastore, 1) := by decide +kernel
theorem dX8_goThrough_126 : decode cX8_goThrough 126 = .ok (.iinc 5 1, 3) := by decide +kernel
theorem dX8_goThrough_129 : decode cX8_goThrough 129 = .ok (.goto (-23), 3) := by decide +kernel
theorem dX8_goThrough_132 : decode cX8_goThrough 132 = .ok (.iinc 4 1, 3) := by decide +kernel
theorem dX8_goThrough_135 : decode cX8_goThrough 135 = .ok (.goto (-127), 3) := by decide +kernel
theorem dX8_goThrough_138 : decode cX8_goThrough 138 = .ok (.iload_n 1, 1) := by decide +kernel
theorem dX8_goThrough_139 : decode cX8_goThrough 139 = .ok (.ifCond .eq 7, 3) := by decide +kernel
theorem dX8_goThrough_142 : decode cX8_goThrough 142 = .ok (.iload_n 2, 1) := by decide +kernel
theorem dX8_goThrough_143 : decode cX8_goThrough 143 = .ok (.goto 4, 3) := by decide +kernel
theorem dX8_goThrough_146 : decode cX8_goThrough 146 = .ok (.iload_n 3, 1) := by decide +kernel
theorem dX8_goThrough_147 : decode cX8_goThrough 147 = .ok (.ireturn, 1) := by decide +kernel
set_option maxRecDepth 20000 in
theorem ggX8_leastSet_X8_goThrough : GoodIn wsX8_leastSet wsX8_goThrough := goodIn_r _ [6, 1, 7, 8, 9, 10, 11, 12, 13, 14, 5, 15, 16, 17, 18, 19, 20, 21, 22, 23, 24, 25, 26, 27, 28, 29, 30, 31, 32, 33, 34, 35, 36, 37, 38, 39, 40, 41, 42, 43, 44, 45, 46, 47, 48, 49, 50, 51, 52, 53, 54, 55, 56, 57, 58, 59, 60, 61, 62, 68, 69, 70, 71, 72, 73, 74, 75, 76, 77, 78, 79, 80, 81, 82, 83, 84, 85, 86, 87, 88] (by decide +kernel) (by decide +kernel)
set_option maxRecDepth 20000 in
theorem gX8_leastSet_X8_goThrough : GoodIn wsX8_leastSet (wsV RX8 144 RX8 yX8_goThrough wsX8_goThrough) := goodIn_app (goodIn_of _ (by decide +kernel)) ggX8_leastSet_X8_goThrough
set_option maxRecDepth 20000 in
theorem ggX8_leastSet_X8_goesWell : GoodIn wsX8_leastSet wsX8_goesWell := goodIn_r _ [66, 67, 68, 69, 70, 71, 72, 73, 74, 75, 76, 77, 78, 79, 80, 81, 82, 83, 84, 85, 86, 87, 88] (by decide +kernel) (by decide +kernel)
set_option maxRecDepth 20000 in
theorem gX8_leastSet_X8_goesWell : GoodIn wsX8_leastSet (wsV RX8 78 RX8 yX8_goesWell wsX8_goesWell) := goodIn_app (goodIn_of _ (by decide +kernel)) ggX8_leastSet_X8_goesWell
theorem dX8_leastSet_0 : decode cX8_leastSet 0 = .ok (.aload_n 0, 1) := by decide +kernel
theorem dX8_leastSet_1 : decode cX8_leastSet 1 = .ok (.iconst 0, 1) := by decide +kernel
theorem dX8_leastSet_2 : decode cX8_leastSet 2 = .ok (.invokevirtual 144, 3) := by decide +kernel
theorem dX8_leastSet_5 : decode cX8_leastSet 5 = .ok (.istore_n 1, 1) := by decide +kernel
theorem dX8_leastSet_6 : decode cX8_leastSet 6 = .ok (.aload_n 0, 1) := by decide +kernel
theorem dX8_leastSet_7 : decode cX8_leastSet 7 = .ok (.iload_n 1, 1) := by decide +kernel
theorem dX8_leastSet_8 : decode cX8_leastSet 8 = .ok (.ldc 91, 2) := by decide +kernel
theorem dX8_leastSet_10 : decode cX8_leastSet 10 = .ok (.if_icmp .ne 7, 3) := by decide +kernel
theorem dX8_leastSet_13 : decode cX8_leastSet 13 = .ok (.iconst 1, 1) := by decide +kernel
theorem dX8_leastSet_14 : decode cX8_leastSet 14 = .ok (.goto 4, 3) := by decide +kernel
theorem dX8_leastSet_17 : decode cX8_leastSet 17 = .ok (.iconst 0, 1) := by decide +kernel
theorem dX8_leastSet_18 : decode cX8_leastSet 18 = .ok (.invokevirtual 78, 3) := by decide +kernel
theorem dX8_leastSet_21 : decode cX8_leastSet 21 = .ok (.ifCond .eq 7, 3) := by decide +kernel
theorem dX8_leastSet_24 : decode cX8_leastSet 24 = .ok (.iload_n 1, 1) := by decide +kernel
theorem dX8_leastSet_25 : decode cX8_leastSet 25 = .ok (.goto 4, 3) := by decide +kernel
theorem dX8_leastSet_28 : decode cX8_leastSet 28 = .ok (.iconst 0, 1) := by decide +kernel
theorem dX8_leastSet_29 : decode cX8_leastSet 29 = .ok (.ireturn, 1) := by decide +kernel
set_option maxRecDepth 20000 in
theorem ggX8_tuneAt_X8_goThrough : GoodIn wsX8_tuneAt wsX8_goThrough := goodIn_r _ [8, 1, 9, 10, 11, 12, 3, 13, 14, 15, 7, 16, 2, 17, 18, 19, 20, 21, 22, 23, 24, 25, 26, 27, 28, 29, 30, 31, 32, 33, 34, 35, 36, 37, 38, 39, 40, 41, 42, 43, 44, 45, 46, 47, 48, 49, 50, 51, 52, 53, 54, 55, 56, 57, 58, 59, 60, 61, 62, 71, 72, 73, 74, 75, 76, 77, 78, 79, 80, 81, 82, 83, 84, 85, 86, 87, 88, 89, 90, 91] (by decide +kernel) (by decide +kernel)
set_option maxRecDepth 20000 in
theorem gX8_tuneAt_X8_goThrough : GoodIn wsX8_tuneAt (wsV RX8 144 RX8 yX8_goThrough wsX8_goThrough) := goodIn_app (goodIn_of _ (by decide +kernel)) ggX8_tuneAt_X8_goThrough
set_option maxRecDepth 20000 in
theorem ggX8_tuneAt_X8_in : GoodIn wsX8_tuneAt wsX8_in := goodIn_r _ [65] (by decide +kernel) (by decide +kernel)
set_option maxRecDepth 20000 in
theorem gX8_tuneAt_X8_in : GoodIn wsX8_tuneAt (va_wsS RX8 66 yX8_in wsX8_in) := goodIn_app (goodIn_of _ (by decide +kernel)) ggX8_tuneAt_X8_in
set_option maxRecDepth 20000 in
theorem ggX8_tuneAt_X8_goesWell : GoodIn wsX8_tuneAt wsX8_goesWell := goodIn_r _ [69, 70, 71, 72, 73, 74, 75, 76, 77, 78, 79, 80, 81, 82, 83, 84, 85, 86, 87, 88, 89, 90, 91] (by decide +kernel) (by decide +kernel)
set_option maxRecDepth 20000 in
theorem gX8_tuneAt_X8_goesWell : GoodIn wsX8_tuneAt (wsV RX8 78 RX8 yX8_goesWell wsX8_goesWell) := goodIn_app (goodIn_of _ (by decide +kernel)) ggX8_tuneAt_X8_goesWell
theorem dX8_tuneAt_0 : decode cX8_tuneAt 0 = .ok (.aload_n 0, 1) := by decide +kernel
theorem dX8_tuneAt_1 : decode cX8_tuneAt 1 = .ok (.iconst 0, 1) := by decide +kernel
theorem dX8_tuneAt_2 : decode cX8_tuneAt 2 = .ok (.invokevirtual 144, 3) := by decide +kernel
theorem dX8_tuneAt_5 : decode cX8_tuneAt 5 = .ok (.ldc 91, 2) := by decide +kernel
theorem dX8_tuneAt_7 : decode cX8_tuneAt 7 = .ok (.if_icmp .ge 7, 3) := by decide +kernel
theorem dX8_tuneAt_10 : decode cX8_tuneAt 10 = .ok (.iconst 1, 1) := by decide +kernel
theorem dX8_tuneAt_11 : decode cX8_tuneAt 11 = .ok (.goto 4, 3) := by decide +kernel
theorem dX8_tuneAt_14 : decode cX8_tuneAt 14 = .ok (.iconst 0, 1) := by decide +kernel
theorem dX8_tuneAt_15 : decode cX8_tuneAt 15 = .ok (.istore_n 2, 1) := by decide +kernel
theorem dX8_tuneAt_16 : decode cX8_tuneAt 16 = .ok (.iconst 0, 1) := by decide +kernel
theorem dX8_tuneAt_17 : decode cX8_tuneAt 17 = .ok (.istore_n 3, 1) := by decide +kernel
theorem dX8_tuneAt_18 : decode cX8_tuneAt 18 = .ok (.iconst 0, 1) := by decide +kernel
theorem dX8_tuneAt_19 : decode cX8_tuneAt 19 = .ok (.istore 4, 2) := by decide +kernel
theorem dX8_tuneAt_21 : decode cX8_tuneAt 21 = .ok (.iload 4, 2) := by decide +kernel
theorem dX8_tuneAt_23 : decode cX8_tuneAt 23 = .ok (.iconst 4, 1) := by decide +kernel
theorem dX8_tuneAt_24 : decode cX8_tuneAt 24 = .ok (.if_icmp .ge 27, 3) := by decide +kernel
theorem dX8_tuneAt_27 : decode cX8_tuneAt 27 = .ok (.iload_n 3, 1) := by decide +kernel
theorem dX8_tuneAt_28 : decode cX8_tuneAt 28 = .ok (.aload_n 0, 1) := by decide +kernel
theorem dX8_tuneAt_29 : decode cX8_tuneAt 29 = .ok (.getfield 36, 3) := by decide +kernel
theorem dX8_tuneAt_32 : decode cX8_tuneAt 32 = .ok (.iload 4, 2) := by decide +kernel
theorem dX8_tuneAt_34 : decode cX8_tuneAt 34 = .ok (.iaload, 1) := by decide +kernel
theorem dX8_tuneAt_35 : decode cX8_tuneAt 35 = .ok (.ifCond .le 7, 3) := by decide +kernel
theorem dX8_tuneAt_38 : decode cX8_tuneAt 38 = .ok (.iconst 1, 1) := by decide +kernel
theorem dX8_tuneAt_39 : decode cX8_tuneAt 39 = .ok (.goto 4, 3) := by decide +kernel
theorem dX8_tuneAt_42 : decode cX8_tuneAt 42 = .ok (.iconst 0, 1) := by decide +kernel
theorem dX8_tuneAt_43 : decode cX8_tuneAt 43 = .ok (.iadd, 1) := by decide +kernel
theorem dX8_tuneAt_44 : decode cX8_tuneAt 44 = .ok (.istore_n 3, 1) := by decide +kernel
theorem dX8_tuneAt_45 : decode cX8_tuneAt 45 = .ok (.iinc 4 1, 3) := by decide +kernel
theorem dX8_tuneAt_48 : decode cX8_tuneAt 48 = .ok (.goto (-27), 3) := by decide +kernel
theorem dX8_tuneAt_51 : decode cX8_tuneAt 51 = .ok (.aload_n 0, 1) := by decide +kernel
theorem dX8_tuneAt_52 : decode cX8_tuneAt 52 = .ok (.iload_n 2, 1) := by decide +kernel
theorem dX8_tuneAt_53 : decode cX8_tuneAt 53 = .ok (.ifCond .ne 7, 3) := by decide +kernel
theorem dX8_tuneAt_56 : decode cX8_tuneAt 56 = .ok (.iconst 1, 1) := by decide +kernel
theorem dX8_tuneAt_57 : decode cX8_tuneAt 57 = .ok (.goto 19, 3) := by decide +kernel
theorem dX8_tuneAt_60 : decode cX8_tuneAt 60 = .ok (.iload_n 1, 1) := by decide +kernel
theorem dX8_tuneAt_61 : decode cX8_tuneAt 61 = .ok (.iconst 0, 1) := by decide +kernel
theorem dX8_tuneAt_62 : decode cX8_tuneAt 62 = .ok (.iload_n 3, 1) := by decide +kernel
theorem dX8_tuneAt_63 : decode cX8_tuneAt 63 = .ok (.iconst 1, 1) := by decide +kernel
theorem dX8_tuneAt_64 : decode cX8_tuneAt 64 = .ok (.isub, 1) := by decide +kernel
theorem dX8_tuneAt_65 : decode cX8_tuneAt 65 = .ok (.invokestatic 66, 3) := by decide +kernel
theorem dX8_tuneAt_68 : decode cX8_tuneAt 68 = .ok (.ifCond .eq 7, 3) := by decide +kernel
theorem dX8_tuneAt_71 : decode cX8_tuneAt 71 = .ok (.iconst 0, 1) := by decide +kernel
theorem dX8_tuneAt_72 : decode cX8_tuneAt 72 = .ok (.goto 4, 3) := by decide +kernel
theorem dX8_tuneAt_75 : decode cX8_tuneAt 75 = .ok (.iconst 2, 1) := by decide +kernel
theorem dX8_tuneAt_76 : decode cX8_tuneAt 76 = .ok (.invokevirtual 78, 3) := by decide +kernel
theorem dX8_tuneAt_79 : decode cX8_tuneAt 79 = .ok (.ifCond .eq 12, 3) := by decide +kernel
theorem dX8_tuneAt_82 : decode cX8_tuneAt 82 = .ok (.aload_n 0, 1) := by decide +kernel
theorem dX8_tuneAt_83 : decode cX8_tuneAt 83 = .ok (.getfield 60, 3) := by decide +kernel
theorem dX8_tuneAt_86 : decode cX8_tuneAt 86 = .ok (.iload_n 1, 1) := by decide +kernel
theorem dX8_tuneAt_87 : decode cX8_tuneAt 87 = .ok (.iaload, 1) := by decide +kernel
theorem dX8_tuneAt_88 : decode cX8_tuneAt 88 = .ok (.goto 4, 3) := by decide +kernel
theorem dX8_tuneAt_91 : decode cX8_tuneAt 91 = .ok (.iconst 0, 1) := by decide +kernel
theorem dX8_tuneAt_92 : decode cX8_tuneAt 92 = .ok (.ireturn, 1) := by decide +kernel
set_option maxRecDepth 20000 in
theorem ggX8_sets_X8_goThrough : GoodIn wsX8_sets wsX8_goThrough := goodIn_r _ [6, 7, 8, 9, 10, 11, 12, 13, 14, 15, 5, 16, 17, 18, 19, 20, 21, 22, 23, 24, 25, 26, 27, 28, 29, 30, 31, 32, 33, 34, 35, 36, 37, 38, 39, 40, 41, 42, 43, 44, 45, 46, 47, 48, 49, 50, 51, 52, 53, 54, 55, 56, 57, 58, 59, 60, 61, 62, 63, 64, 65, 66, 67, 68, 69, 70, 71, 72, 73, 74, 75, 76, 77, 78, 79, 80, 81, 82, 83, 84] (by decide +kernel) (by decide +kernel)
set_option maxRecDepth 20000 in
theorem gX8_sets_X8_goThrough : GoodIn wsX8_sets (wsV RX8 144 RX8 yX8_goThrough wsX8_goThrough) := goodIn_app (goodIn_of _ (by decide +kernel)) ggX8_sets_X8_goThrough
theorem dX8_sets_0 : decode cX8_sets 0 = .ok (.aload_n 0, 1) := by decide +kernel
theorem dX8_sets_1 : decode cX8_sets 1 = .ok (.iconst 0, 1) := by decide +kernel
theorem dX8_sets_2 : decode cX8_sets 2 = .ok (.putfield 63, 3) := by decide +kernel
theorem dX8_sets_5 : decode cX8_sets 5 = .ok (.aload_n 0, 1) := by decide +kernel
theorem dX8_sets_6 : decode cX8_sets 6 = .ok (.iconst 1, 1) := by decide +kernel
theorem dX8_sets_7 : decode cX8_sets 7 = .ok (.invokevirtual 144, 3) := by decide +kernel
theorem dX8_sets_10 : decode cX8_sets 10 = .ok (.ireturn, 1) := by decide +kernel
theorem dJ6_bitCount_0f7a4_0 : decode cJ6_bitCount_0f7a4 0 = .ok (.iload_n 0, 1) := by decide +kernel
theorem dJ6_bitCount_0f7a4_1 : decode cJ6_bitCount_0f7a4 1 = .ok (.iload_n 0, 1) := by decide +kernel
theorem dJ6_bitCount_0f7a4_2 : decode cJ6_bitCount_0f7a4 2 = .ok (.iconst 1, 1) := by decide +kernel
theorem dJ6_bitCount_0f7a4_3 : decode cJ6_bitCount_0f7a4 3 = .ok (.iushr, 1) := by decide +kernel
theorem dJ6_bitCount_0f7a4_4 : decode cJ6_bitCount_0f7a4 4 = .ok (.ldc_w 265, 3) := by decide +kernel
theorem dJ6_bitCount_0f7a4_7 : decode cJ6_bitCount_0f7a4 7 = .ok (.iand, 1) := by decide +kernel
theorem dJ6_bitCount_0f7a4_8 : decode cJ6_bitCount_0f7a4 8 = .ok (.isub, 1) := by decide +kernel
theorem dJ6_bitCount_0f7a4_9 : decode cJ6_bitCount_0f7a4 9 = .ok (.istore_n 0, 1) := by decide +kernel
theorem dJ6_bitCount_0f7a4_10 : decode cJ6_bitCount_0f7a4 10 = .ok (.iload_n 0, 1) := by decide +kernel
theorem dJ6_bitCount_0f7a4_11 : decode cJ6_bitCount_0f7a4 11 = .ok (.ldc_w 266, 3) := by decide +kernel
theorem dJ6_bitCount_0f7a4_14 : decode cJ6_bitCount_0f7a4 14 = .ok (.iand, 1) := by decide +kernel
theorem dJ6_bitCount_0f7a4_15 : decode cJ6_bitCount_0f7a4 15 = .ok (.iload_n 0, 1) := by decide +kernel
theorem dJ6_bitCount_0f7a4_16 : decode cJ6_bitCount_0f7a4 16 = .ok (.iconst 2, 1) := by decide +kernel
theorem dJ6_bitCount_0f7a4_17 : decode cJ6_bitCount_0f7a4 17 = .ok (.iushr, 1) := by decide +kernel
theorem dJ6_bitCount_0f7a4_18 : decode cJ6_bitCount_0f7a4 18 = .ok (.ldc_w 266, 3) := by decide +kernel
theorem dJ6_bitCount_0f7a4_21 : decode cJ6_bitCount_0f7a4 21 = .ok (.iand, 1) := by decide +kernel
theorem dJ6_bitCount_0f7a4_22 : decode cJ6_bitCount_0f7a4 22 = .ok (.iadd, 1) := by decide +kernel
theorem dJ6_bitCount_0f7a4_23 : decode cJ6_bitCount_0f7a4 23 = .ok (.istore_n 0, 1) := by decide +kernel
theorem dJ6_bitCount_0f7a4_24 : decode cJ6_bitCount_0f7a4 24 = .ok (.iload_n 0, 1) := by decide +kernel
theorem dJ6_bitCount_0f7a4_25 : decode cJ6_bitCount_0f7a4 25 = .ok (.iload_n 0, 1) := by decide +kernel
theorem dJ6_bitCount_0f7a4_26 : decode cJ6_bitCount_0f7a4 26 = .ok (.iconst 4, 1) := by decide +kernel
theorem dJ6_bitCount_0f7a4_27 : decode cJ6_bitCount_0f7a4 27 = .ok (.iushr, 1) := by decide +kernel
theorem dJ6_bitCount_0f7a4_28 : decode cJ6_bitCount_0f7a4 28 = .ok (.iadd, 1) := by decide +kernel
theorem dJ6_bitCount_0f7a4_29 : decode cJ6_bitCount_0f7a4 29 = .ok (.ldc_w 267, 3) := by decide +kernel
theorem dJ6_bitCount_0f7a4_32 : decode cJ6_bitCount_0f7a4 32 = .ok (.iand, 1) := by decide +kernel
theorem dJ6_bitCount_0f7a4_33 : decode cJ6_bitCount_0f7a4 33 = .ok (.istore_n 0, 1) := by decide +kernel
theorem dJ6_bitCount_0f7a4_34 : decode cJ6_bitCount_0f7a4 34 = .ok (.iload_n 0, 1) := by decide +kernel
theorem dJ6_bitCount_0f7a4_35 : decode cJ6_bitCount_0f7a4 35 = .ok (.iload_n 0, 1) := by decide +kernel
theorem dJ6_bitCount_0f7a4_36 : decode cJ6_bitCount_0f7a4 36 = .ok (.bipush 8, 2) := by decide +kernel
theorem dJ6_bitCount_0f7a4_38 : decode cJ6_bitCount_0f7a4 38 = .ok (.iushr, 1) := by decide +kernel
theorem dJ6_bitCount_0f7a4_39 : decode cJ6_bitCount_0f7a4 39 = .ok (.iadd, 1) := by decide +kernel
theorem dJ6_bitCount_0f7a4_40 : decode cJ6_bitCount_0f7a4 40 = .ok (.istore_n 0, 1) := by decide +kernel
theorem dJ6_bitCount_0f7a4_41 : decode cJ6_bitCount_0f7a4 41 = .ok (.iload_n 0, 1) := by decide +kernel
theorem dJ6_bitCount_0f7a4_42 : decode cJ6_bitCount_0f7a4 42 = .ok (.iload_n 0, 1) := by decide +kernel
theorem dJ6_bitCount_0f7a4_43 : decode cJ6_bitCount_0f7a4 43 = .ok (.bipush 16, 2) := by decide +kernel
theorem dJ6_bitCount_0f7a4_45 : decode cJ6_bitCount_0f7a4 45 = .ok (.iushr, 1) := by decide +kernel
theorem dJ6_bitCount_0f7a4_46 : decode cJ6_bitCount_0f7a4 46 = .ok (.iadd, 1) := by decide +kernel
theorem dJ6_bitCount_0f7a4_47 : decode cJ6_bitCount_0f7a4 47 = .ok (.istore_n 0, 1) := by decide +kernel
theorem dJ6_bitCount_0f7a4_48 : decode cJ6_bitCount_0f7a4 48 = .ok (.iload_n 0, 1) := by decide +kernel
theorem dJ6_bitCount_0f7a4_49 : decode cJ6_bitCount_0f7a4 49 = .ok (.bipush 63, 2) := by decide +kernel
theorem dJ6_bitCount_0f7a4_51 : decode cJ6_bitCount_0f7a4 51 = .ok (.iand, 1) := by decide +kernel
theorem dJ6_bitCount_0f7a4_52 : decode cJ6_bitCount_0f7a4 52 = .ok (.ireturn, 1) := by decide +kernel
theorem dJ9_min_7cf53_0 : decode cJ9_min_7cf53 0 = .ok (.iload_n 0, 1) := by decide +kernel
theorem dJ9_min_7cf53_1 : decode cJ9_min_7cf53 1 = .ok (.iload_n 1, 1) := by decide +kernel
theorem dJ9_min_7cf53_2 : decode cJ9_min_7cf53 2 = .ok (.if_icmp .gt 7, 3) := by decide +kernel
theorem dJ9_min_7cf53_5 : decode cJ9_min_7cf53 5 = .ok (.iload_n 0, 1) := by decide +kernel
theorem dJ9_min_7cf53_6 : decode cJ9_min_7cf53 6 = .ok (.goto 4, 3) := by decide +kernel
theorem dJ9_min_7cf53_9 : decode cJ9_min_7cf53 9 = .ok (.iload_n 1, 1) := by decide +kernel
theorem dJ9_min_7cf53_10 : decode cJ9_min_7cf53 10 = .ok (.ireturn, 1) := by decide +kernel
theorem dJ7_fill_53178_0 : decode cJ7_fill_53178 0 = .ok (.iconst 0, 1) := by decide +kernel
theorem dJ7_fill_53178_1 : decode cJ7_fill_53178 1 = .ok (.istore_n 2, 1) := by decide +kernel
theorem dJ7_fill_53178_2 : decode cJ7_fill_53178 2 = .ok (.aload_n 0, 1) := by decide +kernel
theorem dJ7_fill_53178_3 : decode cJ7_fill_53178 3 = .ok (.arraylength, 1) := by decide +kernel
theorem dJ7_fill_53178_4 : decode cJ7_fill_53178 4 = .ok (.istore_n 3, 1) := by decide +kernel
theorem dJ7_fill_53178_5 : decode cJ7_fill_53178 5 = .ok (.iload_n 2, 1) := by decide +kernel
theorem dJ7_fill_53178_6 : decode cJ7_fill_53178 6 = .ok (.iload_n 3, 1) := by decide +kernel
theorem dJ7_fill_53178_7 : decode cJ7_fill_53178 7 = .ok (.if_icmp .ge 13, 3) := by decide +kernel
theorem dJ7_fill_53178_10 : decode cJ7_fill_53178 10 = .ok (.aload_n 0, 1) := by decide +kernel
theorem dJ7_fill_53178_11 : decode cJ7_fill_53178 11 = .ok (.iload_n 2, 1) := by decide +kernel
theorem dJ7_fill_53178_12 : decode cJ7_fill_53178 12 = .ok (.iload_n 1, 1) := by decide +kernel
theorem dJ7_fill_53178_13 : decode cJ7_fill_53178 13 = .ok (.iastore, 1) := by decide +kernel
theorem dJ7_fill_53178_14 : decode cJ7_fill_53178 14 = .ok (.iinc 2 1, 3) := by decide +kernel
theorem dJ7_fill_53178_17 : decode cJ7_fill_53178 17 = .ok (.goto (-12), 3) := by decide +kernel
theorem dJ7_fill_53178_20 : decode cJ7_fill_53178 20 = .ok (.return_, 1) := by decide +kernel
theorem dJ7_copyOf_59c91_0 : decode cJ7_copyOf_59c91 0 = .ok (.iload_n 1, 1) := by decide +kernel
theorem dJ7_copyOf_59c91_1 : decode cJ7_copyOf_59c91 1 = .ok (.aload_n 0, 1) := by decide +kernel
theorem dJ7_copyOf_59c91_2 : decode cJ7_copyOf_59c91 2 = .ok (.arraylength, 1) := by decide +kernel
theorem dJ7_copyOf_59c91_3 : decode cJ7_copyOf_59c91 3 = .ok (.if_icmp .ne 11, 3) := by decide +kernel
theorem dJ7_copyOf_59c91_6 : decode cJ7_copyOf_59c91 6 = .ok (.aload_n 0, 1) := by decide +kernel
theorem dJ7_copyOf_59c91_7 : decode cJ7_copyOf_59c91 7 = .ok (.invokevirtual 316, 3) := by decide +kernel
theorem dJ7_copyOf_59c91_10 : decode cJ7_copyOf_59c91 10 = .ok (.checkcast 317, 3) := by decide +kernel
theorem dJ7_copyOf_59c91_13 : decode cJ7_copyOf_59c91 13 = .ok (.areturn, 1) := by decide +kernel
theorem dJ7_copyOf_59c91_14 : decode cJ7_copyOf_59c91 14 = .ok (.iload_n 1, 1) := by decide +kernel
theorem dJ7_copyOf_59c91_15 : decode cJ7_copyOf_59c91 15 = .ok (.newarray .int, 2) := by decide +kernel
theorem dJ7_copyOf_59c91_17 : decode cJ7_copyOf_59c91 17 = .ok (.astore_n 2, 1) := by decide +kernel
theorem dJ7_copyOf_59c91_18 : decode cJ7_copyOf_59c91 18 = .ok (.aload_n 0, 1) := by decide +kernel
theorem dJ7_copyOf_59c91_19 : decode cJ7_copyOf_59c91 19 = .ok (.iconst 0, 1) := by decide +kernel
theorem dJ7_copyOf_59c91_20 : decode cJ7_copyOf_59c91 20 = .ok (.aload_n 2, 1) := by decide +kernel
theorem dJ7_copyOf_59c91_21 : decode cJ7_copyOf_59c91 21 = .ok (.iconst 0, 1) := by decide +kernel
theorem dJ7_copyOf_59c91_22 : decode cJ7_copyOf_59c91 22 = .ok (.aload_n 0, 1) := by decide +kernel
theorem dJ7_copyOf_59c91_23 : decode cJ7_copyOf_59c91 23 = .ok (.arraylength, 1) := by decide +kernel
theorem dJ7_copyOf_59c91_24 : decode cJ7_copyOf_59c91 24 = .ok (.iload_n 1, 1) := by decide +kernel
theorem dJ7_copyOf_59c91_25 : decode cJ7_copyOf_59c91 25 = .ok (.invokestatic 304, 3) := by decide +kernel
theorem dJ7_copyOf_59c91_28 : decode cJ7_copyOf_59c91 28 = .ok (.invokestatic 150, 3) := by decide +kernel
theorem dJ7_copyOf_59c91_31 : decode cJ7_copyOf_59c91 31 = .ok (.aload_n 2, 1) := by decide +kernel
theorem dJ7_copyOf_59c91_32 : decode cJ7_copyOf_59c91 32 = .ok (.areturn, 1) := by decide +kernel
set_option maxRecDepth 20000 in
theorem ggL_cost_X7_cost : GoodIn wsL_cost wsX7_cost := goodIn_ca (goodIn_r _ [6, 7, 8, 5, 9, 10, 11, 12, 13, 14, 15, 16, 17, 18, 19, 20, 21, 22] (by decide +kernel) (by decide +kernel)) (goodIn_sub (fun _ h => List.mem_cons_of_mem _ (List.mem_append_right _ h)) (by decide +kernel))
set_option maxRecDepth 20000 in
theorem gL_cost_X7_cost : GoodIn wsL_cost (wsV RL 7 RX7 yX7_cost wsX7_cost) := goodIn_app (goodIn_of _ (by decide +kernel)) ggL_cost_X7_cost
theorem dL_cost_0 : decode cL_cost 0 = .ok (.aload_n 3, 1) := by decide +kernel
theorem dL_cost_1 : decode cL_cost 1 = .ok (.iconst 0, 1) := by decide +kernel
theorem dL_cost_2 : decode cL_cost 2 = .ok (.aload_n 0, 1) := by decide +kernel
theorem dL_cost_3 : decode cL_cost 3 = .ok (.iload_n 1, 1) := by decide +kernel
theorem dL_cost_4 : decode cL_cost 4 = .ok (.iload_n 2, 1) := by decide +kernel
theorem dL_cost_5 : decode cL_cost 5 = .ok (.invokevirtual 7, 3) := by decide +kernel
theorem dL_cost_8 : decode cL_cost 8 = .ok (.i2l, 1) := by decide +kernel
theorem dL_cost_9 : decode cL_cost 9 = .ok (.lastore, 1) := by decide +kernel
theorem dL_cost_10 : decode cL_cost 10 = .ok (.goto 7, 3) := by decide +kernel
theorem dL_cost_13 : decode cL_cost 13 = .ok (.astore 4, 2) := by decide +kernel
theorem dL_cost_15 : decode cL_cost 15 = .ok (.iconst 1, 1) := by decide +kernel
theorem dL_cost_16 : decode cL_cost 16 = .ok (.ireturn, 1) := by decide +kernel
theorem dL_cost_17 : decode cL_cost 17 = .ok (.iconst 0, 1) := by decide +kernel
theorem dL_cost_18 : decode cL_cost 18 = .ok (.ireturn, 1) := by decide +kernel
set_option maxRecDepth 20000 in
theorem ggL_isBarred_X7_isBarred : GoodIn wsL_isBarred wsX7_isBarred := goodIn_ca (goodIn_r _ [6, 7, 8, 9, 5, 10, 11, 12, 13, 14, 15, 16, 17, 18, 19, 20, 21, 22, 23, 24, 25] (by decide +kernel) (by decide +kernel)) (goodIn_sub (fun _ h => List.mem_cons_of_mem _ (List.mem_append_right _ h)) (by decide +kernel))
set_option maxRecDepth 20000 in
theorem gL_isBarred_X7_isBarred : GoodIn wsL_isBarred (wsV RL 15 RX7 yX7_isBarred wsX7_isBarred) := goodIn_app (goodIn_of _ (by decide +kernel)) ggL_isBarred_X7_isBarred
theorem dL_isBarred_0 : decode cL_isBarred 0 = .ok (.aload_n 3, 1) := by decide +kernel
theorem dL_isBarred_1 : decode cL_isBarred 1 = .ok (.iconst 0, 1) := by decide +kernel
theorem dL_isBarred_2 : decode cL_isBarred 2 = .ok (.aload_n 0, 1) := by decide +kernel
theorem dL_isBarred_3 : decode cL_isBarred 3 = .ok (.iload_n 1, 1) := by decide +kernel
theorem dL_isBarred_4 : decode cL_isBarred 4 = .ok (.iload_n 2, 1) := by decide +kernel
theorem dL_isBarred_5 : decode cL_isBarred 5 = .ok (.invokevirtual 15, 3) := by decide +kernel
theorem dL_isBarred_8 : decode cL_isBarred 8 = .ok (.ifCond .eq 7, 3) := by decide +kernel
theorem dL_isBarred_11 : decode cL_isBarred 11 = .ok (.lconst 1, 1) := by decide +kernel
theorem dL_isBarred_12 : decode cL_isBarred 12 = .ok (.goto 4, 3) := by decide +kernel
theorem dL_isBarred_15 : decode cL_isBarred 15 = .ok (.lconst 0, 1) := by decide +kernel
theorem dL_isBarred_16 : decode cL_isBarred 16 = .ok (.lastore, 1) := by decide +kernel
theorem dL_isBarred_17 : decode cL_isBarred 17 = .ok (.goto 7, 3) := by decide +kernel
theorem dL_isBarred_20 : decode cL_isBarred 20 = .ok (.astore 4, 2) := by decide +kernel
theorem dL_isBarred_22 : decode cL_isBarred 22 = .ok (.iconst 1, 1) := by decide +kernel
theorem dL_isBarred_23 : decode cL_isBarred 23 = .ok (.ireturn, 1) := by decide +kernel
theorem dL_isBarred_24 : decode cL_isBarred 24 = .ok (.iconst 0, 1) := by decide +kernel
theorem dL_isBarred_25 : decode cL_isBarred 25 = .ok (.ireturn, 1) := by decide +kernel
set_option maxRecDepth 20000 in
theorem ggL_setLimit_X7_setLimit : GoodIn wsL_setLimit wsX7_setLimit := goodIn_ca (goodIn_r _ [6, 7, 8, 9, 10, 11, 12, 13, 14, 15, 16, 17, 18, 19, 20, 21, 22, 23, 24, 25, 26, 27, 28, 29, 30, 31, 32, 33, 34, 35] (by decide +kernel) (by decide +kernel)) (goodIn_sub (fun _ h => List.mem_cons_of_mem _ (List.mem_append_right _ h)) (by decide +kernel))
set_option maxRecDepth 20000 in
theorem gL_setLimit_X7_setLimit : GoodIn wsL_setLimit (wsV RL 19 RX7 yX7_setLimit wsX7_setLimit) := goodIn_app (goodIn_of _ (by decide +kernel)) ggL_setLimit_X7_setLimit
theorem dL_setLimit_0 : decode cL_setLimit 0 = .ok (.aload_n 2, 1) := by decide +kernel
theorem dL_setLimit_1 : decode cL_setLimit 1 = .ok (.iconst 0, 1) := by decide +kernel
theorem dL_setLimit_2 : decode cL_setLimit 2 = .ok (.aload_n 0, 1) := by decide +kernel
theorem dL_setLimit_3 : decode cL_setLimit 3 = .ok (.iload_n 1, 1) := by decide +kernel
theorem dL_setLimit_4 : decode cL_setLimit 4 = .ok (.invokevirtual 19, 3) := by decide +kernel
theorem dL_setLimit_7 : decode cL_setLimit 7 = .ok (.i2l, 1) := by decide +kernel
theorem dL_setLimit_8 : decode cL_setLimit 8 = .ok (.lastore, 1) := by decide +kernel
theorem dL_setLimit_9 : decode cL_setLimit 9 = .ok (.goto 6, 3) := by decide +kernel
theorem dL_setLimit_12 : decode cL_setLimit 12 = .ok (.astore_n 3, 1) := by decide +kernel
theorem dL_setLimit_13 : decode cL_setLimit 13 = .ok (.iconst 1, 1) := by decide +kernel
theorem dL_setLimit_14 : decode cL_setLimit 14 = .ok (.ireturn, 1) := by decide +kernel
theorem dL_setLimit_15 : decode cL_setLimit 15 = .ok (.iconst 0, 1) := by decide +kernel
theorem dL_setLimit_16 : decode cL_setLimit 16 = .ok (.ireturn, 1) := by decide +kernel
set_option maxRecDepth 20000 in
theorem ggL_grace_X7_grace : GoodIn wsL_grace wsX7_grace := goodIn_ca (goodIn_ca (goodIn_r _ [7, 8, 9, 10, 11, 12, 13, 14, 15, 16, 17, 18, 19, 20, 21, 22, 23, 24, 25, 26, 27, 28, 29, 30, 31, 32] (by decide +kernel) (by decide +kernel)) (goodIn_sub (fun _ h => List.mem_cons_of_mem _ (List.mem_append_left _ (List.mem_append_right _ h))) (by decide +kernel))) (goodIn_sub (fun _ h => List.mem_cons_of_mem _ (List.mem_append_right _ h)) (by decide +kernel))
set_option maxRecDepth 20000 in
theorem gL_grace_X7_grace : GoodIn wsL_grace (wsV RL 23 RX7 yX7_grace wsX7_grace) := goodIn_app (goodIn_of _ (by decide +kernel)) ggL_grace_X7_grace
theorem dL_grace_0 : decode cL_grace 0 = .ok (.aload_n 2, 1) := by decide +kernel
theorem dL_grace_1 : decode cL_grace 1 = .ok (.iconst 0, 1) := by decide +kernel
theorem dL_grace_2 : decode cL_grace 2 = .ok (.aload_n 0, 1) := by decide +kernel
theorem dL_grace_3 : decode cL_grace 3 = .ok (.iload_n 1, 1) := by decide +kernel
theorem dL_grace_4 : decode cL_grace 4 = .ok (.invokevirtual 23, 3) := by decide +kernel
theorem dL_grace_7 : decode cL_grace 7 = .ok (.i2l, 1) := by decide +kernel
theorem dL_grace_8 : decode cL_grace 8 = .ok (.lastore, 1) := by decide +kernel
theorem dL_grace_9 : decode cL_grace 9 = .ok (.goto 9, 3) := by decide +kernel
theorem dL_grace_12 : decode cL_grace 12 = .ok (.astore_n 3, 1) := by decide +kernel
theorem dL_grace_13 : decode cL_grace 13 = .ok (.iconst 1, 1) := by decide +kernel
theorem dL_grace_14 : decode cL_grace 14 = .ok (.ireturn, 1) := by decide +kernel
theorem dL_grace_15 : decode cL_grace 15 = .ok (.astore_n 3, 1) := by decide +kernel
theorem dL_grace_16 : decode cL_grace 16 = .ok (.iconst 2, 1) := by decide +kernel
theorem dL_grace_17 : decode cL_grace 17 = .ok (.ireturn, 1) := by decide +kernel
theorem dL_grace_18 : decode cL_grace 18 = .ok (.iconst 0, 1) := by decide +kernel
theorem dL_grace_19 : decode cL_grace 19 = .ok (.ireturn, 1) := by decide +kernel
set_option maxRecDepth 20000 in
theorem ggL_enter_X7_enter : GoodIn wsL_enter wsX7_enter := goodIn_ca (goodIn_r _ [6, 7, 8, 9, 10, 11, 12, 13, 14, 15, 16, 17, 18, 19, 20, 21, 22, 23, 24, 25, 26, 27, 28, 29, 30, 31, 32, 33, 34, 35, 36, 37, 38, 39, 40, 41, 42, 43, 44, 45, 46, 47, 48, 49, 50, 51, 52, 53, 54, 55, 56, 57, 58, 59, 60, 61, 62, 63, 64, 65] (by decide +kernel) (by decide +kernel)) (goodIn_sub (fun _ h => List.mem_cons_of_mem _ (List.mem_append_right _ h)) (by decide +kernel))
set_option maxRecDepth 20000 in
theorem gL_enter_X7_enter : GoodIn wsL_enter (wsV RL 28 RX7 yX7_enter wsX7_enter) := goodIn_app (goodIn_of _ (by decide +kernel)) ggL_enter_X7_enter
theorem dL_enter_0 : decode cL_enter 0 = .ok (.aload_n 1, 1) := by decide +kernel
theorem dL_enter_1 : decode cL_enter 1 = .ok (.iconst 0, 1) := by decide +kernel
theorem dL_enter_2 : decode cL_enter 2 = .ok (.aload_n 0, 1) := by decide +kernel
theorem dL_enter_3 : decode cL_enter 3 = .ok (.invokevirtual 28, 3) := by decide +kernel
theorem dL_enter_6 : decode cL_enter 6 = .ok (.i2l, 1) := by decide +kernel
theorem dL_enter_7 : decode cL_enter 7 = .ok (.lastore, 1) := by decide +kernel
theorem dL_enter_8 : decode cL_enter 8 = .ok (.goto 6, 3) := by decide +kernel
theorem dL_enter_11 : decode cL_enter 11 = .ok (.astore_n 2, 1) := by decide +kernel
theorem dL_enter_12 : decode cL_enter 12 = .ok (.iconst 1, 1) := by decide +kernel
theorem dL_enter_13 : decode cL_enter 13 = .ok (.ireturn, 1) := by decide +kernel
theorem dL_enter_14 : decode cL_enter 14 = .ok (.iconst 0, 1) := by decide +kernel
theorem dL_enter_15 : decode cL_enter 15 = .ok (.ireturn, 1) := by decide +kernel
set_option maxRecDepth 20000 in
theorem ggL_fits_X7_fits : GoodIn wsL_fits wsX7_fits := goodIn_ca (goodIn_ca (goodIn_r _ [7, 8, 9, 10, 11, 12, 13, 14, 15, 16, 17, 18, 19, 20, 6, 21, 22, 23, 24, 25, 26, 27, 28, 29, 30, 31, 32, 33, 34, 35, 36, 37, 38, 39, 40, 41, 42, 43, 44, 45, 46, 47, 48, 49, 50, 51, 52, 53, 54, 55, 56, 57, 58, 59, 60, 61, 62, 63] (by decide +kernel) (by decide +kernel)) (goodIn_sub (fun _ h => List.mem_cons_of_mem _ (List.mem_append_left _ (List.mem_append_right _ h))) (by decide +kernel))) (goodIn_sub (fun _ h => List.mem_cons_of_mem _ (List.mem_append_right _ h)) (by decide +kernel))
set_option maxRecDepth 20000 in
theorem gL_fits_X7_fits : GoodIn wsL_fits (wsV RL 32 RX7 yX7_fits wsX7_fits) := goodIn_app (goodIn_of _ (by decide +kernel)) ggL_fits_X7_fits
theorem dL_fits_0 : decode cL_fits 0 = .ok (.aload 5, 2) := by decide +kernel
theorem dL_fits_2 : decode cL_fits 2 = .ok (.iconst 0, 1) := by decide +kernel
theorem dL_fits_3 : decode cL_fits 3 = .ok (.aload_n 0, 1) := by decide +kernel
theorem dL_fits_4 : decode cL_fits 4 = .ok (.iload_n 1, 1) := by decide +kernel
theorem dL_fits_5 : decode cL_fits 5 = .ok (.iload_n 2, 1) := by decide +kernel
theorem dL_fits_6 : decode cL_fits 6 = .ok (.iload_n 3, 1) := by decide +kernel
theorem dL_fits_7 : decode cL_fits 7 = .ok (.iload 4, 2) := by decide +kernel
theorem dL_fits_9 : decode cL_fits 9 = .ok (.invokevirtual 32, 3) := by decide +kernel
theorem dL_fits_12 : decode cL_fits 12 = .ok (.ifCond .eq 7, 3) := by decide +kernel
theorem dL_fits_15 : decode cL_fits 15 = .ok (.lconst 1, 1) := by decide +kernel
theorem dL_fits_16 : decode cL_fits 16 = .ok (.goto 4, 3) := by decide +kernel
theorem dL_fits_19 : decode cL_fits 19 = .ok (.lconst 0, 1) := by decide +kernel
theorem dL_fits_20 : decode cL_fits 20 = .ok (.lastore, 1) := by decide +kernel
theorem dL_fits_21 : decode cL_fits 21 = .ok (.goto 11, 3) := by decide +kernel
theorem dL_fits_24 : decode cL_fits 24 = .ok (.astore 6, 2) := by decide +kernel
theorem dL_fits_26 : decode cL_fits 26 = .ok (.iconst 1, 1) := by decide +kernel
theorem dL_fits_27 : decode cL_fits 27 = .ok (.ireturn, 1) := by decide +kernel
theorem dL_fits_28 : decode cL_fits 28 = .ok (.astore 6, 2) := by decide +kernel
theorem dL_fits_30 : decode cL_fits 30 = .ok (.iconst 2, 1) := by decide +kernel
theorem dL_fits_31 : decode cL_fits 31 = .ok (.ireturn, 1) := by decide +kernel
theorem dL_fits_32 : decode cL_fits 32 = .ok (.iconst 0, 1) := by decide +kernel
theorem dL_fits_33 : decode cL_fits 33 = .ok (.ireturn, 1) := by decide +kernel
set_option maxRecDepth 20000 in
theorem ggL_addNote_X7_addNote : GoodIn wsL_addNote wsX7_addNote := goodIn_ca (goodIn_ca (goodIn_r _ [7, 8, 9, 10, 11, 12, 6, 13, 14, 15, 16, 17, 18, 19, 20, 21, 22, 23, 24, 25, 26, 27, 28, 29, 30, 31, 32, 33, 34, 35, 36, 37, 38, 39, 40, 41, 42, 43, 44] (by decide +kernel) (by decide +kernel)) (goodIn_sub (fun _ h => List.mem_cons_of_mem _ (List.mem_append_left _ (List.mem_append_right _ h))) (by decide +kernel))) (goodIn_sub (fun _ h => List.mem_cons_of_mem _ (List.mem_append_right _ h)) (by decide +kernel))
set_option maxRecDepth 20000 in
theorem gL_addNote_X7_addNote : GoodIn wsL_addNote (wsV RL 38 RX7 yX7_addNote wsX7_addNote) := goodIn_app (goodIn_of _ (by decide +kernel)) ggL_addNote_X7_addNote
theorem dL_addNote_0 : decode cL_addNote 0 = .ok (.aload 4, 2) := by decide +kernel
theorem dL_addNote_2 : decode cL_addNote 2 = .ok (.iconst 0, 1) := by decide +kernel
theorem dL_addNote_3 : decode cL_addNote 3 = .ok (.aload_n 0, 1) := by decide +kernel
theorem dL_addNote_4 : decode cL_addNote 4 = .ok (.iload_n 1, 1) := by decide +kernel
theorem dL_addNote_5 : decode cL_addNote 5 = .ok (.iload_n 2, 1) := by decide +kernel
theorem dL_addNote_6 : decode cL_addNote 6 = .ok (.iload_n 3, 1) := by decide +kernel
theorem dL_addNote_7 : decode cL_addNote 7 = .ok (.invokevirtual 38, 3) := by decide +kernel
theorem dL_addNote_10 : decode cL_addNote 10 = .ok (.i2l, 1) := by decide +kernel
theorem dL_addNote_11 : decode cL_addNote 11 = .ok (.lastore, 1) := by decide +kernel
theorem dL_addNote_12 : decode cL_addNote 12 = .ok (.goto 11, 3) := by decide +kernel
theorem dL_addNote_15 : decode cL_addNote 15 = .ok (.astore 5, 2) := by decide +kernel
theorem dL_addNote_17 : decode cL_addNote 17 = .ok (.iconst 1, 1) := by decide +kernel
theorem dL_addNote_18 : decode cL_addNote 18 = .ok (.ireturn, 1) := by decide +kernel
theorem dL_addNote_19 : decode cL_addNote 19 = .ok (.astore 5, 2) := by decide +kernel
theorem dL_addNote_21 : decode cL_addNote 21 = .ok (.iconst 2, 1) := by decide +kernel
theorem dL_addNote_22 : decode cL_addNote 22 = .ok (.ireturn, 1) := by decide +kernel
theorem dL_addNote_23 : decode cL_addNote 23 = .ok (.iconst 0, 1) := by decide +kernel
theorem dL_addNote_24 : decode cL_addNote 24 = .ok (.ireturn, 1) := by decide +kernel
set_option maxRecDepth 20000 in
theorem ggL_removeNote_X7_removeNote : GoodIn wsL_removeNote wsX7_removeNote := goodIn_ca (goodIn_ca (goodIn_r _ [7, 8, 9, 10, 11, 12, 6, 13, 14, 15, 16, 17, 18, 19, 20, 21, 22, 23, 24, 25, 26, 27, 28, 29, 30, 31, 32, 33, 34, 35, 36] (by decide +kernel) (by decide +kernel)) (goodIn_sub (fun _ h => List.mem_cons_of_mem _ (List.mem_append_left _ (List.mem_append_right _ h))) (by decide +kernel))) (goodIn_sub (fun _ h => List.mem_cons_of_mem _ (List.mem_append_right _ h)) (by decide +kernel))
set_option maxRecDepth 20000 in
theorem gL_removeNote_X7_removeNote : GoodIn wsL_removeNote (wsV RL 42 RX7 yX7_removeNote wsX7_removeNote) := goodIn_app (goodIn_of _ (by decide +kernel)) ggL_removeNote_X7_removeNote
theorem dL_removeNote_0 : decode cL_removeNote 0 = .ok (.aload_n 2, 1) := by decide +kernel
theorem dL_removeNote_1 : decode cL_removeNote 1 = .ok (.iconst 0, 1) := by decide +kernel
theorem dL_removeNote_2 : decode cL_removeNote 2 = .ok (.aload_n 0, 1) := by decide +kernel
theorem dL_removeNote_3 : decode cL_removeNote 3 = .ok (.iload_n 1, 1) := by decide +kernel
theorem dL_removeNote_4 : decode cL_removeNote 4 = .ok (.invokevirtual 42, 3) := by decide +kernel
theorem dL_removeNote_7 : decode cL_removeNote 7 = .ok (.i2l, 1) := by decide +kernel
theorem dL_removeNote_8 : decode cL_removeNote 8 = .ok (.lastore, 1) := by decide +kernel
theorem dL_removeNote_9 : decode cL_removeNote 9 = .ok (.goto 9, 3) := by decide +kernel
theorem dL_removeNote_12 : decode cL_removeNote 12 = .ok (.astore_n 3, 1) := by decide +kernel
theorem dL_removeNote_13 : decode cL_removeNote 13 = .ok (.iconst 1, 1) := by decide +kernel
theorem dL_removeNote_14 : decode cL_removeNote 14 = .ok (.ireturn, 1) := by decide +kernel
theorem dL_removeNote_15 : decode cL_removeNote 15 = .ok (.astore_n 3, 1) := by decide +kernel
theorem dL_removeNote_16 : decode cL_removeNote 16 = .ok (.iconst 2, 1) := by decide +kernel
theorem dL_removeNote_17 : decode cL_removeNote 17 = .ok (.ireturn, 1) := by decide +kernel
theorem dL_removeNote_18 : decode cL_removeNote 18 = .ok (.iconst 0, 1) := by decide +kernel
theorem dL_removeNote_19 : decode cL_removeNote 19 = .ok (.ireturn, 1) := by decide +kernel
set_option maxRecDepth 20000 in
theorem ggL_setWish_X7_setWish : GoodIn wsL_setWish wsX7_setWish := goodIn_ca (goodIn_ca (goodIn_r _ [7, 8, 9, 10, 6, 11, 12, 13, 14, 15, 16, 17, 18, 19, 20, 21, 22, 23, 24, 25, 26, 27, 28, 29, 30, 31, 32, 33, 34, 35, 36, 37, 38, 39, 40] (by decide +kernel) (by decide +kernel)) (goodIn_sub (fun _ h => List.mem_cons_of_mem _ (List.mem_append_left _ (List.mem_append_right _ h))) (by decide +kernel))) (goodIn_sub (fun _ h => List.mem_cons_of_mem _ (List.mem_append_right _ h)) (by decide +kernel))
set_option maxRecDepth 20000 in
theorem gL_setWish_X7_setWish : GoodIn wsL_setWish (wsV RL 47 RX7 yX7_setWish wsX7_setWish) := goodIn_app (goodIn_of _ (by decide +kernel)) ggL_setWish_X7_setWish
theorem dL_setWish_0 : decode cL_setWish 0 = .ok (.aload 4, 2) := by decide +kernel
theorem dL_setWish_2 : decode cL_setWish 2 = .ok (.iconst 0, 1) := by decide +kernel
theorem dL_setWish_3 : decode cL_setWish 3 = .ok (.aload_n 0, 1) := by decide +kernel
theorem dL_setWish_4 : decode cL_setWish 4 = .ok (.iload_n 1, 1) := by decide +kernel
theorem dL_setWish_5 : decode cL_setWish 5 = .ok (.iload_n 2, 1) := by decide +kernel
theorem dL_setWish_6 : decode cL_setWish 6 = .ok (.iload_n 3, 1) := by decide +kernel
theorem dL_setWish_7 : decode cL_setWish 7 = .ok (.invokevirtual 47, 3) := by decide +kernel
theorem dL_setWish_10 : decode cL_setWish 10 = .ok (.ifCond .eq 7, 3) := by decide +kernel
theorem dL_setWish_13 : decode cL_setWish 13 = .ok (.lconst 1, 1) := by decide +kernel
theorem dL_setWish_14 : decode cL_setWish 14 = .ok (.goto 4, 3) := by decide +kernel
theorem dL_setWish_17 : decode cL_setWish 17 = .ok (.lconst 0, 1) := by decide +kernel
theorem dL_setWish_18 : decode cL_setWish 18 = .ok (.lastore, 1) := by decide +kernel
theorem dL_setWish_19 : decode cL_setWish 19 = .ok (.goto 11, 3) := by decide +kernel
theorem dL_setWish_22 : decode cL_setWish 22 = .ok (.astore 5, 2) := by decide +kernel
theorem dL_setWish_24 : decode cL_setWish 24 = .ok (.iconst 1, 1) := by decide +kernel
theorem dL_setWish_25 : decode cL_setWish 25 = .ok (.ireturn, 1) := by decide +kernel
theorem dL_setWish_26 : decode cL_setWish 26 = .ok (.astore 5, 2) := by decide +kernel
theorem dL_setWish_28 : decode cL_setWish 28 = .ok (.iconst 2, 1) := by decide +kernel
theorem dL_setWish_29 : decode cL_setWish 29 = .ok (.ireturn, 1) := by decide +kernel
theorem dL_setWish_30 : decode cL_setWish 30 = .ok (.iconst 0, 1) := by decide +kernel
theorem dL_setWish_31 : decode cL_setWish 31 = .ok (.ireturn, 1) := by decide +kernel
set_option maxRecDepth 20000 in
theorem ggL_notes_X7_notes : GoodIn wsL_notes wsX7_notes := goodIn_ca (goodIn_r _ [6, 7, 8, 9, 5, 10, 11, 12, 13, 14, 15, 16, 17, 18, 19, 20, 21, 22, 23, 24, 25, 26, 27, 28] (by decide +kernel) (by decide +kernel)) (goodIn_sub (fun _ h => List.mem_cons_of_mem _ (List.mem_append_right _ h)) (by decide +kernel))
set_option maxRecDepth 20000 in
theorem gL_notes_X7_notes : GoodIn wsL_notes (wsV RL 51 RX7 yX7_notes wsX7_notes) := goodIn_app (goodIn_of _ (by decide +kernel)) ggL_notes_X7_notes
theorem dL_notes_0 : decode cL_notes 0 = .ok (.aload_n 2, 1) := by decide +kernel
theorem dL_notes_1 : decode cL_notes 1 = .ok (.iconst 0, 1) := by decide +kernel
theorem dL_notes_2 : decode cL_notes 2 = .ok (.aload_n 0, 1) := by decide +kernel
theorem dL_notes_3 : decode cL_notes 3 = .ok (.iload_n 1, 1) := by decide +kernel
theorem dL_notes_4 : decode cL_notes 4 = .ok (.invokevirtual 51, 3) := by decide +kernel
theorem dL_notes_7 : decode cL_notes 7 = .ok (.i2l, 1) := by decide +kernel
theorem dL_notes_8 : decode cL_notes 8 = .ok (.lastore, 1) := by decide +kernel
theorem dL_notes_9 : decode cL_notes 9 = .ok (.goto 6, 3) := by decide +kernel
theorem dL_notes_12 : decode cL_notes 12 = .ok (.astore_n 3, 1) := by decide +kernel
theorem dL_notes_13 : decode cL_notes 13 = .ok (.iconst 1, 1) := by decide +kernel
theorem dL_notes_14 : decode cL_notes 14 = .ok (.ireturn, 1) := by decide +kernel
theorem dL_notes_15 : decode cL_notes 15 = .ok (.iconst 0, 1) := by decide +kernel
theorem dL_notes_16 : decode cL_notes 16 = .ok (.ireturn, 1) := by decide +kernel
set_option maxRecDepth 20000 in
theorem ggL_time_X7_time : GoodIn wsL_time wsX7_time := goodIn_ca (goodIn_ca (goodIn_ca (goodIn_r _ [8, 9, 10, 11, 12, 13, 14, 15, 7, 16, 17, 18, 19, 20, 21, 22, 23, 24, 25, 26, 27, 28, 29, 30, 31, 32, 33, 34, 35, 36, 37, 38, 39, 40, 41, 42, 43, 44, 45, 46, 47, 48, 49, 50, 51, 52, 53, 54, 55, 56, 57, 58, 59, 60, 61, 62, 63, 64, 65, 66, 67, 68, 69, 70, 71, 72, 73, 74, 75, 76, 77, 78, 79, 80, 81, 82, 83, 84, 85, 86, 87, 88, 89, 90, 91, 92, 93, 94, 95, 96, 97, 98, 99, 100, 101, 102, 103, 104, 105, 106, 107, 108, 109, 110, 111, 112, 113, 114, 115, 116, 117, 118, 119, 120, 121, 122, 123, 124, 125, 126, 127, 128, 129, 130, 131, 132, 133, 134, 135, 136, 137, 138, 139, 140, 141, 142, 143, 144, 145, 146, 147, 148, 149] (by decide +kernel) (by decide +kernel)) (goodIn_sub (fun _ h => List.mem_cons_of_mem _ (List.mem_append_left _ (List.mem_append_left _ (List.mem_append_right _ h)))) (by decide +kernel))) (goodIn_sub (fun _ h => List.mem_cons_of_mem _ (List.mem_append_left _ (List.mem_append_right _ h))) (by decide +kernel))) (goodIn_sub (fun _ h => List.mem_cons_of_mem _ (List.mem_append_right _ h)) (by decide +kernel))
set_option maxRecDepth 20000 in
theorem gL_time_X7_time : GoodIn wsL_time (wsV RL 54 RX7 yX7_time wsX7_time) := goodIn_app (goodIn_of _ (by decide +kernel)) ggL_time_X7_time
theorem dL_time_0 : decode cL_time 0 = .ok (.aload_n 3, 1) := by decide +kernel
theorem dL_time_1 : decode cL_time 1 = .ok (.iconst 0, 1) := by decide +kernel
theorem dL_time_2 : decode cL_time 2 = .ok (.aload_n 0, 1) := by decide +kernel
theorem dL_time_3 : decode cL_time 3 = .ok (.iload_n 1, 1) := by decide +kernel
theorem dL_time_4 : decode cL_time 4 = .ok (.iload_n 2, 1) := by decide +kernel
theorem dL_time_5 : decode cL_time 5 = .ok (.invokevirtual 54, 3) := by decide +kernel
theorem dL_time_8 : decode cL_time 8 = .ok (.i2l, 1) := by decide +kernel
theorem dL_time_9 : decode cL_time 9 = .ok (.lastore, 1) := by decide +kernel
theorem dL_time_10 : decode cL_time 10 = .ok (.goto 15, 3) := by decide +kernel
theorem dL_time_13 : decode cL_time 13 = .ok (.astore 4, 2) := by decide +kernel
theorem dL_time_15 : decode cL_time 15 = .ok (.iconst 1, 1) := by decide +kernel
theorem dL_time_16 : decode cL_time 16 = .ok (.ireturn, 1) := by decide +kernel
theorem dL_time_17 : decode cL_time 17 = .ok (.astore 4, 2) := by decide +kernel
theorem dL_time_19 : decode cL_time 19 = .ok (.iconst 2, 1) := by decide +kernel
theorem dL_time_20 : decode cL_time 20 = .ok (.ireturn, 1) := by decide +kernel
theorem dL_time_21 : decode cL_time 21 = .ok (.astore 4, 2) := by decide +kernel
theorem dL_time_23 : decode cL_time 23 = .ok (.iconst 3, 1) := by decide +kernel
theorem dL_time_24 : decode cL_time 24 = .ok (.ireturn, 1) := by decide +kernel
theorem dL_time_25 : decode cL_time 25 = .ok (.iconst 0, 1) := by decide +kernel
theorem dL_time_26 : decode cL_time 26 = .ok (.ireturn, 1) := by decide +kernel
set_option maxRecDepth 20000 in
theorem ggL_fitting_X7_fitting : GoodIn wsL_fitting wsX7_fitting := goodIn_ca (goodIn_ca (goodIn_r _ [7, 8, 9, 10, 11, 12, 13, 6, 14, 15, 16, 17, 18, 19, 20, 21, 22, 23, 24, 25, 26, 27, 28, 29, 30, 31, 32, 33, 34, 35, 36, 37, 38, 39, 40, 41, 42, 43, 44, 45, 46, 47, 48, 49, 50, 51, 52, 53, 54, 55, 56, 57, 58, 59, 60, 61, 62, 63, 64, 65, 66, 67, 68, 69, 70, 71, 72, 73, 74, 75, 76, 77, 78, 79, 80, 81, 82, 83, 84, 85, 86, 87, 88] (by decide +kernel) (by decide +kernel)) (goodIn_sub (fun _ h => List.mem_cons_of_mem _ (List.mem_append_left _ (List.mem_append_right _ h))) (by decide +kernel))) (goodIn_sub (fun _ h => List.mem_cons_of_mem _ (List.mem_append_right _ h)) (by decide +kernel))
set_option maxRecDepth 20000 in
theorem gL_fitting_X7_fitting : GoodIn wsL_fitting (wsV RL 57 RX7 yX7_fitting wsX7_fitting) := goodIn_app (goodIn_of _ (by decide +kernel)) ggL_fitting_X7_fitting
theorem dL_fitting_0 : decode cL_fitting 0 = .ok (.aload_n 3, 1) := by decide +kernel
theorem dL_fitting_1 : decode cL_fitting 1 = .ok (.iconst 0, 1) := by decide +kernel
theorem dL_fitting_2 : decode cL_fitting 2 = .ok (.aload_n 0, 1) := by decide +kernel
theorem dL_fitting_3 : decode cL_fitting 3 = .ok (.iload_n 1, 1) := by decide +kernel
theorem dL_fitting_4 : decode cL_fitting 4 = .ok (.iload_n 2, 1) := by decide +kernel
theorem dL_fitting_5 : decode cL_fitting 5 = .ok (.invokevirtual 57, 3) := by decide +kernel
theorem dL_fitting_8 : decode cL_fitting 8 = .ok (.i2l, 1) := by decide +kernel
theorem dL_fitting_9 : decode cL_fitting 9 = .ok (.lastore, 1) := by decide +kernel
theorem dL_fitting_10 : decode cL_fitting 10 = .ok (.goto 11, 3) := by decide +kernel
theorem dL_fitting_13 : decode cL_fitting 13 = .ok (.astore 4, 2) := by decide +kernel
theorem dL_fitting_15 : decode cL_fitting 15 = .ok (.iconst 1, 1) := by decide +kernel
theorem dL_fitting_16 : decode cL_fitting 16 = .ok (.ireturn, 1) := by decide +kernel
theorem dL_fitting_17 : decode cL_fitting 17 = .ok (.astore 4, 2) := by decide +kernel
theorem dL_fitting_19 : decode cL_fitting 19 = .ok (.iconst 2, 1) := by decide +kernel
theorem dL_fitting_20 : decode cL_fitting 20 = .ok (.ireturn, 1) := by decide +kernel
theorem dL_fitting_21 : decode cL_fitting 21 = .ok (.iconst 0, 1) := by decide +kernel
theorem dL_fitting_22 : decode cL_fitting 22 = .ok (.ireturn, 1) := by decide +kernel
set_option maxRecDepth 20000 in
theorem ggL_choices_X7_choices : GoodIn wsL_choices wsX7_choices := goodIn_ca (goodIn_r _ [6, 7, 8, 9, 10, 11, 12, 5, 13, 14, 15, 16, 17, 18, 19, 20, 21, 22, 23, 24, 25, 26, 27, 28, 29, 30, 31, 32, 33, 34, 35, 36, 37, 38, 39, 40, 41, 42, 43, 44, 45, 46, 47, 48, 49, 50, 51, 52, 53, 54, 55, 56, 57, 58, 59, 60, 61, 62, 63, 64, 65, 66, 67, 68, 69, 70, 71, 72, 73, 74, 75, 76, 77, 78, 79, 80, 81, 82, 83, 84, 85, 86, 87, 88, 89, 90, 91, 92, 93, 94, 95, 96, 97, 98, 99, 100] (by decide +kernel) (by decide +kernel)) (goodIn_sub (fun _ h => List.mem_cons_of_mem _ (List.mem_append_right _ h)) (by decide +kernel))
set_option maxRecDepth 20000 in
theorem gL_choices_X7_choices : GoodIn wsL_choices (wsV RL 60 RX7 yX7_choices wsX7_choices) := goodIn_app (goodIn_of _ (by decide +kernel)) ggL_choices_X7_choices
theorem dL_choices_0 : decode cL_choices 0 = .ok (.aload_n 2, 1) := by decide +kernel
theorem dL_choices_1 : decode cL_choices 1 = .ok (.iconst 0, 1) := by decide +kernel
theorem dL_choices_2 : decode cL_choices 2 = .ok (.aload_n 0, 1) := by decide +kernel
theorem dL_choices_3 : decode cL_choices 3 = .ok (.iload_n 1, 1) := by decide +kernel
theorem dL_choices_4 : decode cL_choices 4 = .ok (.invokevirtual 60, 3) := by decide +kernel
theorem dL_choices_7 : decode cL_choices 7 = .ok (.i2l, 1) := by decide +kernel
theorem dL_choices_8 : decode cL_choices 8 = .ok (.lastore, 1) := by decide +kernel
theorem dL_choices_9 : decode cL_choices 9 = .ok (.goto 6, 3) := by decide +kernel
theorem dL_choices_12 : decode cL_choices 12 = .ok (.astore_n 3, 1) := by decide +kernel
theorem dL_choices_13 : decode cL_choices 13 = .ok (.iconst 1, 1) := by decide +kernel
theorem dL_choices_14 : decode cL_choices 14 = .ok (.ireturn, 1) := by decide +kernel
theorem dL_choices_15 : decode cL_choices 15 = .ok (.iconst 0, 1) := by decide +kernel
theorem dL_choices_16 : decode cL_choices 16 = .ok (.ireturn, 1) := by decide +kernel
set_option maxRecDepth 20000 in
theorem ggL_least_X7_least : GoodIn wsL_least wsX7_least := goodIn_ca (goodIn_ca (goodIn_r _ [7, 8, 9, 6, 10, 11, 12, 13, 14, 15, 16, 17, 18, 19, 20, 21, 22, 23, 24, 25, 26, 27, 28, 29, 30, 31, 32, 33, 34, 35, 36, 37, 38, 39, 40, 41, 42, 43, 44, 45, 46, 47, 48, 49, 50, 51, 52, 53, 54, 55, 56, 57, 58, 59, 60, 61, 62, 63, 64, 65, 66, 67, 68, 69, 70, 71, 72, 73, 74, 75, 76, 77, 78, 79, 80, 81, 82, 83, 84, 85, 86, 87, 88, 89, 90, 91, 92, 93, 94, 95, 96, 97, 98, 99, 100, 101, 102, 103, 104, 105, 106, 107, 108, 109, 110, 111, 112, 113, 114, 115, 116, 117, 118, 119, 120, 121, 122, 123, 124] (by decide +kernel) (by decide +kernel)) (goodIn_sub (fun _ h => List.mem_cons_of_mem _ (List.mem_append_left _ (List.mem_append_right _ h))) (by decide +kernel))) (goodIn_sub (fun _ h => List.mem_cons_of_mem _ (List.mem_append_right _ h)) (by decide +kernel))
set_option maxRecDepth 20000 in
theorem gL_least_X7_least : GoodIn wsL_least (wsV RL 63 RX7 yX7_least wsX7_least) := goodIn_app (goodIn_of _ (by decide +kernel)) ggL_least_X7_least
theorem dL_least_0 : decode cL_least 0 = .ok (.aload_n 2, 1) := by decide +kernel
theorem dL_least_1 : decode cL_least 1 = .ok (.iconst 0, 1) := by decide +kernel
theorem dL_least_2 : decode cL_least 2 = .ok (.aload_n 0, 1) := by decide +kernel
theorem dL_least_3 : decode cL_least 3 = .ok (.iload_n 1, 1) := by decide +kernel
theorem dL_least_4 : decode cL_least 4 = .ok (.invokevirtual 63, 3) := by decide +kernel
theorem dL_least_7 : decode cL_least 7 = .ok (.i2l, 1) := by decide +kernel
theorem dL_least_8 : decode cL_least 8 = .ok (.lastore, 1) := by decide +kernel
theorem dL_least_9 : decode cL_least 9 = .ok (.goto 9, 3) := by decide +kernel
theorem dL_least_12 : decode cL_least 12 = .ok (.astore_n 3, 1) := by decide +kernel
theorem dL_least_13 : decode cL_least 13 = .ok (.iconst 1, 1) := by decide +kernel
theorem dL_least_14 : decode cL_least 14 = .ok (.ireturn, 1) := by decide +kernel
theorem dL_least_15 : decode cL_least 15 = .ok (.astore_n 3, 1) := by decide +kernel
theorem dL_least_16 : decode cL_least 16 = .ok (.iconst 2, 1) := by decide +kernel
theorem dL_least_17 : decode cL_least 17 = .ok (.ireturn, 1) := by decide +kernel
theorem dL_least_18 : decode cL_least 18 = .ok (.iconst 0, 1) := by decide +kernel
theorem dL_least_19 : decode cL_least 19 = .ok (.ireturn, 1) := by decide +kernel
set_option maxRecDepth 20000 in
theorem ggL_chosen_X7_chosen : GoodIn wsL_chosen wsX7_chosen := goodIn_ca (goodIn_ca (goodIn_ca (goodIn_r _ [8, 9, 10, 11, 7, 12, 13, 14, 15, 16, 17, 18, 19, 20, 21, 22, 23, 24, 25, 26, 27, 28, 29, 30, 31, 32, 33, 34, 35, 36, 37, 38, 39, 40, 41, 42, 43, 44, 45, 46, 47, 48, 49, 50, 51, 52, 53, 54, 55, 56, 57, 58, 59, 60, 61, 62, 63, 64, 65, 66, 67, 68, 69, 70, 71, 72, 73, 74, 75, 76, 77, 78, 79, 80, 81, 82, 83, 84, 85, 86, 87, 88, 89, 90, 91, 92, 93, 94, 95, 96, 97, 98, 99, 100, 101, 102, 103, 104, 105, 106, 107, 108, 109, 110, 111, 112, 113, 114, 115, 116, 117, 118, 119, 120, 121, 122, 123, 124, 125, 126, 127, 128, 129, 130, 131, 132, 133, 134, 135, 136, 137] (by decide +kernel) (by decide +kernel)) (goodIn_sub (fun _ h => List.mem_cons_of_mem _ (List.mem_append_left _ (List.mem_append_left _ (List.mem_append_right _ h)))) (by decide +kernel))) (goodIn_sub (fun _ h => List.mem_cons_of_mem _ (List.mem_append_left _ (List.mem_append_right _ h))) (by decide +kernel))) (goodIn_sub (fun _ h => List.mem_cons_of_mem _ (List.mem_append_right _ h)) (by decide +kernel))
set_option maxRecDepth 20000 in
theorem gL_chosen_X7_chosen : GoodIn wsL_chosen (wsV RL 66 RX7 yX7_chosen wsX7_chosen) := goodIn_app (goodIn_of _ (by decide +kernel)) ggL_chosen_X7_chosen
theorem dL_chosen_0 : decode cL_chosen 0 = .ok (.aload_n 3, 1) := by decide +kernel
theorem dL_chosen_1 : decode cL_chosen 1 = .ok (.iconst 0, 1) := by decide +kernel
theorem dL_chosen_2 : decode cL_chosen 2 = .ok (.aload_n 0, 1) := by decide +kernel
theorem dL_chosen_3 : decode cL_chosen 3 = .ok (.iload_n 1, 1) := by decide +kernel
theorem dL_chosen_4 : decode cL_chosen 4 = .ok (.iload_n 2, 1) := by decide +kernel
theorem dL_chosen_5 : decode cL_chosen 5 = .ok (.invokevirtual 66, 3) := by decide +kernel
theorem dL_chosen_8 : decode cL_chosen 8 = .ok (.i2l, 1) := by decide +kernel
theorem dL_chosen_9 : decode cL_chosen 9 = .ok (.lastore, 1) := by decide +kernel
theorem dL_chosen_10 : decode cL_chosen 10 = .ok (.goto 15, 3) := by decide +kernel
theorem dL_chosen_13 : decode cL_chosen 13 = .ok (.astore 4, 2) := by decide +kernel
theorem dL_chosen_15 : decode cL_chosen 15 = .ok (.iconst 1, 1) := by decide +kernel
theorem dL_chosen_16 : decode cL_chosen 16 = .ok (.ireturn, 1) := by decide +kernel
theorem dL_chosen_17 : decode cL_chosen 17 = .ok (.astore 4, 2) := by decide +kernel
theorem dL_chosen_19 : decode cL_chosen 19 = .ok (.iconst 2, 1) := by decide +kernel
theorem dL_chosen_20 : decode cL_chosen 20 = .ok (.ireturn, 1) := by decide +kernel
theorem dL_chosen_21 : decode cL_chosen 21 = .ok (.astore 4, 2) := by decide +kernel
theorem dL_chosen_23 : decode cL_chosen 23 = .ok (.iconst 3, 1) := by decide +kernel
theorem dL_chosen_24 : decode cL_chosen 24 = .ok (.ireturn, 1) := by decide +kernel
theorem dL_chosen_25 : decode cL_chosen 25 = .ok (.iconst 0, 1) := by decide +kernel
theorem dL_chosen_26 : decode cL_chosen 26 = .ok (.ireturn, 1) := by decide +kernel
set_option maxRecDepth 20000 in
theorem ggL_mostOrnaments_X7_mostOrnaments : GoodIn wsL_mostOrnaments wsX7_mostOrnaments := goodIn_ca (goodIn_ca (goodIn_r _ [7, 8, 9, 10, 11, 6, 12, 13, 14, 15, 16, 17, 18, 19, 20, 21, 22, 23, 24, 25, 26, 27, 28, 29, 30, 31, 32, 33, 34, 35, 36, 37, 38, 39, 40, 41, 42, 43, 44, 45, 46, 47, 48, 49, 50, 51, 52, 53, 54, 55, 56, 57, 58, 59, 60, 61, 62, 63, 64, 65, 66, 67, 68, 69, 70, 71, 72, 73, 74, 75, 76, 77, 78, 79, 80, 81, 82, 83, 84, 85, 86, 87, 88, 89, 90, 91, 92, 93, 94, 95, 96, 97, 98, 99, 100, 101, 102, 103, 104, 105, 106, 107, 108, 109, 110, 111, 112, 113, 114, 115, 116, 117, 118, 119, 120, 121, 122, 123, 124, 125, 126, 127, 128, 129, 130, 131, 132] (by decide +kernel) (by decide +kernel)) (goodIn_sub (fun _ h => List.mem_cons_of_mem _ (List.mem_append_left _ (List.mem_append_right _ h))) (by decide +kernel))) (goodIn_sub (fun _ h => List.mem_cons_of_mem _ (List.mem_append_right _ h)) (by decide +kernel))
set_option maxRecDepth 20000 in
theorem gL_mostOrnaments_X7_mostOrnaments : GoodIn wsL_mostOrnaments (wsV RL 69 RX7 yX7_mostOrnaments wsX7_mostOrnaments) := goodIn_app (goodIn_of _ (by decide +kernel)) ggL_mostOrnaments_X7_mostOrnaments
theorem dL_mostOrnaments_0 : decode cL_mostOrnaments 0 = .ok (.aload_n 2, 1) := by decide +kernel
theorem dL_mostOrnaments_1 : decode cL_mostOrnaments 1 = .ok (.iconst 0, 1) := by decide +kernel
theorem dL_mostOrnaments_2 : decode cL_mostOrnaments 2 = .ok (.aload_n 0, 1) := by decide +kernel
theorem dL_mostOrnaments_3 : decode cL_mostOrnaments 3 = .ok (.iload_n 1, 1) := by decide +kernel
theorem dL_mostOrnaments_4 : decode cL_mostOrnaments 4 = .ok (.invokevirtual 69, 3) := by decide +kernel
theorem dL_mostOrnaments_7 : decode cL_mostOrnaments 7 = .ok (.i2l, 1) := by decide +kernel
theorem dL_mostOrnaments_8 : decode cL_mostOrnaments 8 = .ok (.lastore, 1) := by decide +kernel
theorem dL_mostOrnaments_9 : decode cL_mostOrnaments 9 = .ok (.goto 9, 3) := by decide +kernel
theorem dL_mostOrnaments_12 : decode cL_mostOrnaments 12 = .ok (.astore_n 3, 1) := by decide +kernel
theorem dL_mostOrnaments_13 : decode cL_mostOrnaments 13 = .ok (.iconst 1, 1) := by decide +kernel
theorem dL_mostOrnaments_14 : decode cL_mostOrnaments 14 = .ok (.ireturn, 1) := by decide +kernel
theorem dL_mostOrnaments_15 : decode cL_mostOrnaments 15 = .ok (.astore_n 3, 1) := by decide +kernel
theorem dL_mostOrnaments_16 : decode cL_mostOrnaments 16 = .ok (.iconst 2, 1) := by decide +kernel
theorem dL_mostOrnaments_17 : decode cL_mostOrnaments 17 = .ok (.ireturn, 1) := by decide +kernel
theorem dL_mostOrnaments_18 : decode cL_mostOrnaments 18 = .ok (.iconst 0, 1) := by decide +kernel
theorem dL_mostOrnaments_19 : decode cL_mostOrnaments 19 = .ok (.ireturn, 1) := by decide +kernel
set_option maxRecDepth 20000 in
theorem ggL_average_X7_average : GoodIn wsL_average wsX7_average := goodIn_ca (goodIn_ca (goodIn_r _ [7, 8, 9, 10, 6, 11, 12, 13, 14, 15, 16, 17, 18, 19, 20, 21, 22, 23, 24, 25, 26, 27, 28, 29, 30, 31, 32, 33, 34, 35, 36, 37, 38, 39, 40, 41, 42, 43, 44, 45, 46, 47, 48, 49, 50, 51, 52, 53, 54, 55, 56, 57, 58, 59, 60, 61, 62, 63, 64, 65, 66, 67, 68, 69, 70, 71, 72, 73, 74, 75, 76, 77, 78, 79, 80, 81, 82, 83, 84, 85, 86, 87, 88, 89, 90, 91, 92, 93, 94, 95, 96, 97, 98, 99, 100, 101, 102, 103, 104, 105, 106, 107, 108, 109, 110, 111, 112, 113, 114, 115, 116, 117, 118, 119, 120, 121, 122, 123, 124, 125] (by decide +kernel) (by decide +kernel)) (goodIn_sub (fun _ h => List.mem_cons_of_mem _ (List.mem_append_left _ (List.mem_append_right _ h))) (by decide +kernel))) (goodIn_sub (fun _ h => List.mem_cons_of_mem _ (List.mem_append_right _ h)) (by decide +kernel))
set_option maxRecDepth 20000 in
theorem gL_average_X7_average : GoodIn wsL_average (wsV RL 72 RX7 yX7_average wsX7_average) := goodIn_app (goodIn_of _ (by decide +kernel)) ggL_average_X7_average
theorem dL_average_0 : decode cL_average 0 = .ok (.aload_n 2, 1) := by decide +kernel
theorem dL_average_1 : decode cL_average 1 = .ok (.iconst 0, 1) := by decide +kernel
theorem dL_average_2 : decode cL_average 2 = .ok (.aload_n 0, 1) := by decide +kernel
theorem dL_average_3 : decode cL_average 3 = .ok (.iload_n 1, 1) := by decide +kernel
theorem dL_average_4 : decode cL_average 4 = .ok (.invokevirtual 72, 3) := by decide +kernel
theorem dL_average_7 : decode cL_average 7 = .ok (.f2d, 1) := by decide +kernel
theorem dL_average_8 : decode cL_average 8 = .ok (.dastore, 1) := by decide +kernel
theorem dL_average_9 : decode cL_average 9 = .ok (.goto 9, 3) := by decide +kernel
theorem dL_average_12 : decode cL_average 12 = .ok (.astore_n 3, 1) := by decide +kernel
theorem dL_average_13 : decode cL_average 13 = .ok (.iconst 1, 1) := by decide +kernel
theorem dL_average_14 : decode cL_average 14 = .ok (.ireturn, 1) := by decide +kernel
theorem dL_average_15 : decode cL_average 15 = .ok (.astore_n 3, 1) := by decide +kernel
theorem dL_average_16 : decode cL_average 16 = .ok (.iconst 2, 1) := by decide +kernel
theorem dL_average_17 : decode cL_average 17 = .ok (.ireturn, 1) := by decide +kernel
theorem dL_average_18 : decode cL_average 18 = .ok (.iconst 0, 1) := by decide +kernel
theorem dL_average_19 : decode cL_average 19 = .ok (.ireturn, 1) := by decide +kernel
set_option maxRecDepth 20000 in
theorem ggL_leastSet_X7_leastSet : GoodIn wsL_leastSet wsX7_leastSet := goodIn_ca (goodIn_r _ [6, 7, 8, 9, 10, 11, 12, 5, 13, 14, 15, 16, 17, 18, 19, 20, 21, 22, 23, 24, 25, 26, 27, 28, 29, 30, 31, 32, 33, 34, 35, 36, 37, 38, 39, 40, 41, 42, 43, 44, 45, 46, 47, 48, 49, 50, 51, 52, 53, 54, 55, 56, 57, 58, 59, 60, 61, 62, 63, 64, 65, 66, 67, 68, 69, 70, 71, 72, 73, 74, 75, 76, 77, 78, 79, 80, 81, 82, 83, 84, 85, 86, 87, 88, 89, 90, 91, 92, 93, 94, 95, 96, 97, 98, 99, 100, 101, 102, 103, 104, 105, 106, 107, 108, 109, 110, 111, 112, 113, 114, 115, 116, 117, 118, 119, 120, 121, 122, 123, 124, 125, 126, 127, 128, 129, 130, 131, 132, 133, 134, 135, 136, 137, 138, 139, 140, 141, 142, 143, 144, 145, 146, 147, 148, 149, 150, 151, 152, 153, 154, 155, 156, 157, 158, 159, 160, 161, 162, 163, 164, 165, 166, 167, 168, 169, 170] (by decide +kernel) (by decide +kernel)) (goodIn_sub (fun _ h => List.mem_cons_of_mem _ (List.mem_append_right _ h)) (by decide +kernel))
set_option maxRecDepth 20000 in
theorem gL_leastSet_X7_leastSet : GoodIn wsL_leastSet (wsV RL 76 RX7 yX7_leastSet wsX7_leastSet) := goodIn_app (goodIn_of _ (by decide +kernel)) ggL_leastSet_X7_leastSet
theorem dL_leastSet_0 : decode cL_leastSet 0 = .ok (.aload_n 1, 1) := by decide +kernel
theorem dL_leastSet_1 : decode cL_leastSet 1 = .ok (.iconst 0, 1) := by decide +kernel
theorem dL_leastSet_2 : decode cL_leastSet 2 = .ok (.aload_n 0, 1) := by decide +kernel
theorem dL_leastSet_3 : decode cL_leastSet 3 = .ok (.invokevirtual 76, 3) := by decide +kernel
theorem dL_leastSet_6 : decode cL_leastSet 6 = .ok (.i2l, 1) := by decide +kernel
theorem dL_leastSet_7 : decode cL_leastSet 7 = .ok (.lastore, 1) := by decide +kernel
theorem dL_leastSet_8 : decode cL_leastSet 8 = .ok (.goto 6, 3) := by decide +kernel
theorem dL_leastSet_11 : decode cL_leastSet 11 = .ok (.astore_n 2, 1) := by decide +kernel
theorem dL_leastSet_12 : decode cL_leastSet 12 = .ok (.iconst 1, 1) := by decide +kernel
theorem dL_leastSet_13 : decode cL_leastSet 13 = .ok (.ireturn, 1) := by decide +kernel
theorem dL_leastSet_14 : decode cL_leastSet 14 = .ok (.iconst 0, 1) := by decide +kernel
theorem dL_leastSet_15 : decode cL_leastSet 15 = .ok (.ireturn, 1) := by decide +kernel
set_option maxRecDepth 20000 in
theorem ggL_tuneAt_X7_tuneAt : GoodIn wsL_tuneAt wsX7_tuneAt := goodIn_ca (goodIn_ca (goodIn_r _ [7, 8, 9, 10, 11, 12, 13, 14, 15, 6, 16, 17, 18, 19, 20, 21, 22, 23, 24, 25, 26, 27, 28, 29, 30, 31, 32, 33, 34, 35, 36, 37, 38, 39, 40, 41, 42, 43, 44, 45, 46, 47, 48, 49, 50, 51, 52, 53, 54, 55, 56, 57, 58, 59, 60, 61, 62, 63, 64, 65, 66, 67, 68, 69, 70, 71, 72, 73, 74, 75, 76, 77, 78, 79, 80, 81, 82, 83, 84, 85, 86, 87, 88, 89, 90, 91, 92, 93, 94, 95, 96, 97, 98, 99, 100, 101, 102, 103, 104, 105, 106, 107, 108, 109, 110, 111, 112, 113, 114, 115, 116, 117, 118, 119, 120, 121, 122, 123, 124, 125, 126, 127, 128, 129, 130, 131, 132, 133, 134, 135, 136, 137, 138, 139, 140, 141, 142, 143, 144, 145, 146, 147, 148, 149, 150, 151, 152, 153, 154, 155, 156, 157, 158, 159, 160, 161, 162, 163, 164, 165, 166, 167, 168, 169, 170, 171, 172, 173, 174, 175, 176, 177] (by decide +kernel) (by decide +kernel)) (goodIn_sub (fun _ h => List.mem_cons_of_mem _ (List.mem_append_left _ (List.mem_append_right _ h))) (by decide +kernel))) (goodIn_sub (fun _ h => List.mem_cons_of_mem _ (List.mem_append_right _ h)) (by decide +kernel))
set_option maxRecDepth 20000 in
theorem gL_tuneAt_X7_tuneAt : GoodIn wsL_tuneAt (wsV RL 79 RX7 yX7_tuneAt wsX7_tuneAt) := goodIn_app (goodIn_of _ (by decide +kernel)) ggL_tuneAt_X7_tuneAt
theorem dL_tuneAt_0 : decode cL_tuneAt 0 = .ok (.aload_n 2, 1) := by decide +kernel
theorem dL_tuneAt_1 : decode cL_tuneAt 1 = .ok (.iconst 0, 1) := by decide +kernel
theorem dL_tuneAt_2 : decode cL_tuneAt 2 = .ok (.aload_n 0, 1) := by decide +kernel
theorem dL_tuneAt_3 : decode cL_tuneAt 3 = .ok (.iload_n 1, 1) := by decide +kernel
theorem dL_tuneAt_4 : decode cL_tuneAt 4 = .ok (.invokevirtual 79, 3) := by decide +kernel
theorem dL_tuneAt_7 : decode cL_tuneAt 7 = .ok (.i2l, 1) := by decide +kernel
theorem dL_tuneAt_8 : decode cL_tuneAt 8 = .ok (.lastore, 1) := by decide +kernel
theorem dL_tuneAt_9 : decode cL_tuneAt 9 = .ok (.goto 9, 3) := by decide +kernel
theorem dL_tuneAt_12 : decode cL_tuneAt 12 = .ok (.astore_n 3, 1) := by decide +kernel
theorem dL_tuneAt_13 : decode cL_tuneAt 13 = .ok (.iconst 1, 1) := by decide +kernel
theorem dL_tuneAt_14 : decode cL_tuneAt 14 = .ok (.ireturn, 1) := by decide +kernel
theorem dL_tuneAt_15 : decode cL_tuneAt 15 = .ok (.astore_n 3, 1) := by decide +kernel
theorem dL_tuneAt_16 : decode cL_tuneAt 16 = .ok (.iconst 2, 1) := by decide +kernel
theorem dL_tuneAt_17 : decode cL_tuneAt 17 = .ok (.ireturn, 1) := by decide +kernel
theorem dL_tuneAt_18 : decode cL_tuneAt 18 = .ok (.iconst 0, 1) := by decide +kernel
theorem dL_tuneAt_19 : decode cL_tuneAt 19 = .ok (.ireturn, 1) := by decide +kernel
set_option maxRecDepth 20000 in
theorem ggL_law_X7_init : GoodIn wsL_law wsX7_init := goodIn_r _ [10, 11, 12, 13, 14, 15, 16, 17, 18, 19, 20, 21, 22, 23, 24, 25, 26, 27, 28, 29, 30, 31, 32, 33, 34, 35, 36, 37, 38, 39, 40, 41, 42, 43, 44, 45, 46, 47, 48, 49, 50, 51, 52, 53, 54, 55, 56, 57, 58, 59, 60, 61, 62, 63, 64, 65, 66, 67, 68, 69, 70, 71, 72, 73, 74, 75, 76, 77, 78, 79, 80, 81, 82, 83, 84, 85, 86, 87, 88, 89, 90, 91, 92, 93, 94, 95, 96, 97, 98, 99, 100, 101, 102, 722, 696, 697, 698, 699, 700, 723, 724, 725, 726, 727, 728, 729, 730, 731, 732, 733, 734, 735, 736, 737, 738, 739, 740, 741, 742] (by decide +kernel) (by decide +kernel)
set_option maxRecDepth 20000 in
theorem gL_law_X7_init : GoodIn wsL_law (wsX7_init) := ggL_law_X7_init
set_option maxRecDepth 20000 in
theorem ggL_law_X8_init : GoodIn wsL_law wsX8_init := goodIn_r _ [105, 106, 12, 13, 39, 107, 108, 109, 110, 111, 112, 113, 72, 114, 115, 116, 117, 118, 119, 120, 121, 122, 123, 701, 702, 703, 704, 705, 706, 707, 708, 709, 710, 711, 712, 713, 714, 715, 716, 717, 718, 719, 720, 721] (by decide +kernel) (by decide +kernel)
set_option maxRecDepth 20000 in
theorem gL_law_X8_init : GoodIn wsL_law (wsX8_init) := ggL_law_X8_init
set_option maxRecDepth 20000 in
theorem ggL_law_L_cost : GoodIn wsL_law wsL_cost := goodIn_ca (goodIn_r _ [127, 128, 129, 130, 131, 2, 132, 133, 134, 135, 136, 137, 138, 47, 16, 48, 49, 50, 51, 52, 53, 54, 55] (by decide +kernel) (by decide +kernel)) (goodIn_sub (fun _ h => List.mem_append_left _ (List.mem_append_left _ (List.mem_append_left _ (List.mem_append_right _ h)))) (by decide +kernel))
set_option maxRecDepth 20000 in
theorem gL_law_L_cost : GoodIn wsL_law (va_wsS RL 86 yL_cost wsL_cost) := goodIn_app (goodIn_of _ (by decide +kernel)) ggL_law_L_cost
set_option maxRecDepth 20000 in
theorem ggL_law_X8_cost : GoodIn wsL_law wsX8_cost := goodIn_r _ [142, 143, 144, 5, 145, 146, 147, 148, 149, 150, 151, 152, 153, 154, 155, 156, 157, 107, 701, 702, 703, 704, 705, 706, 707, 708, 709, 710, 711, 712, 713, 714, 715, 716, 717, 718, 719, 720, 721] (by decide +kernel) (by decide +kernel)
set_option maxRecDepth 20000 in
theorem gL_law_X8_cost : GoodIn wsL_law (wsV RL 91 RX8 yX8_cost wsX8_cost) := goodIn_app (goodIn_of _ (by decide +kernel)) ggL_law_X8_cost
set_option maxRecDepth 20000 in
theorem ggL_law_X8_thrown : GoodIn wsL_law wsX8_thrown := goodIn_r _ [161, 153, 701, 702, 703, 704, 705, 706, 707, 708, 709, 710, 711, 712, 713, 714, 715, 716, 717, 718, 719, 720, 721] (by decide +kernel) (by decide +kernel)
set_option maxRecDepth 20000 in
theorem gL_law_X8_thrown : GoodIn wsL_law (wsV RL 92 RX8 yX8_thrown wsX8_thrown) := goodIn_app (goodIn_of _ (by decide +kernel)) ggL_law_X8_thrown
set_option maxRecDepth 20000 in
theorem ggL_law_L_isBarred : GoodIn wsL_law wsL_isBarred := goodIn_ca (goodIn_r _ [164, 128, 165, 166, 167, 2, 168, 17, 133, 134, 135, 136, 137, 169, 170, 171, 16, 172, 40, 45, 696, 697, 698, 699, 700, 722] (by decide +kernel) (by decide +kernel)) (goodIn_sub (fun _ h => List.mem_append_left _ (List.mem_append_left _ (List.mem_append_left _ (List.mem_append_right _ h)))) (by decide +kernel))
set_option maxRecDepth 20000 in
theorem gL_law_L_isBarred : GoodIn wsL_law (va_wsS RL 95 yL_isBarred wsL_isBarred) := goodIn_app (goodIn_of _ (by decide +kernel)) ggL_law_L_isBarred
set_option maxRecDepth 20000 in
theorem ggL_law_X8_isBarred : GoodIn wsL_law wsX8_isBarred := goodIn_r _ [176, 143, 144, 5, 145, 146, 147, 148, 149, 150, 151, 152, 153, 177, 178, 179, 180, 107, 108, 154, 155, 156, 157, 701, 702, 703, 704, 705, 706, 707, 708, 709, 710, 711, 712, 713, 714, 715, 716, 717, 718, 719, 720, 721] (by decide +kernel) (by decide +kernel)
set_option maxRecDepth 20000 in
theorem gL_law_X8_isBarred : GoodIn wsL_law (wsV RL 97 RX8 yX8_isBarred wsX8_isBarred) := goodIn_app (goodIn_of _ (by decide +kernel)) ggL_law_X8_isBarred
set_option maxRecDepth 20000 in
theorem ggL_law_L_setLimit : GoodIn wsL_law wsL_setLimit := goodIn_ca (goodIn_r _ [183, 128, 184, 185, 186, 2, 187, 136, 137, 17, 188, 42, 43, 16, 44, 40, 45, 46, 47, 48, 49, 50, 51, 52, 53, 54, 55, 56, 57, 58, 696, 697, 698, 699, 700, 722] (by decide +kernel) (by decide +kernel)) (goodIn_sub (fun _ h => List.mem_append_left _ (List.mem_append_left _ (List.mem_append_left _ (List.mem_append_right _ h)))) (by decide +kernel))
set_option maxRecDepth 20000 in
theorem gL_law_L_setLimit : GoodIn wsL_law (va_wsS RL 98 yL_setLimit wsL_setLimit) := goodIn_app (goodIn_of _ (by decide +kernel)) ggL_law_L_setLimit
set_option maxRecDepth 20000 in
theorem ggL_law_X8_setLimit : GoodIn wsL_law wsX8_setLimit := goodIn_r _ [192, 108, 146, 147, 5, 148, 149, 150, 151, 152, 153, 177, 178, 179, 180, 107, 154, 155, 156, 157, 701, 702, 703, 704, 705, 706, 707, 708, 709, 710, 711, 712, 713, 714, 715, 716, 717, 718, 719, 720, 721] (by decide +kernel) (by decide +kernel)
set_option maxRecDepth 20000 in
theorem gL_law_X8_setLimit : GoodIn wsL_law (wsV RL 101 RX8 yX8_setLimit wsX8_setLimit) := goodIn_app (goodIn_of _ (by decide +kernel)) ggL_law_X8_setLimit
set_option maxRecDepth 20000 in
theorem ggL_law_L_grace : GoodIn wsL_law wsL_grace := goodIn_ca (goodIn_ca (goodIn_r _ [195, 128, 196, 197, 198, 199, 2, 200, 136, 137, 201, 202, 21, 203, 204, 205, 20, 206, 207, 208, 209, 210, 211, 65, 696, 697, 698, 699, 700, 723, 724, 725, 726] (by decide +kernel) (by decide +kernel)) (goodIn_sub (fun _ h => List.mem_append_left _ (List.mem_append_left _ (List.mem_append_left _ (List.mem_append_right _ h)))) (by decide +kernel))) (goodIn_sub (fun _ h => List.mem_append_left _ (List.mem_append_left _ (List.mem_append_right _ h))) (by decide +kernel))
set_option maxRecDepth 20000 in
theorem gL_law_L_grace : GoodIn wsL_law (va_wsS RL 102 yL_grace wsL_grace) := goodIn_app (goodIn_of _ (by decide +kernel)) ggL_law_L_grace
set_option maxRecDepth 20000 in
theorem ggL_law_X8_grace : GoodIn wsL_law wsX8_grace := goodIn_r _ [215, 216, 111, 146, 147, 5, 148, 149, 150, 151, 152, 153, 701, 702, 703, 704, 705, 706, 707, 708, 709, 710, 711, 712, 713, 714, 715, 716, 717, 718, 719, 720, 721] (by decide +kernel) (by decide +kernel)
set_option maxRecDepth 20000 in
theorem gL_law_X8_grace : GoodIn wsL_law (wsV RL 104 RX8 yX8_grace wsX8_grace) := goodIn_app (goodIn_of _ (by decide +kernel)) ggL_law_X8_grace
set_option maxRecDepth 20000 in
theorem ggL_law_L_enter : GoodIn wsL_law wsL_enter := goodIn_ca (goodIn_r _ [219, 196, 220, 221, 222, 2, 223, 201, 202, 21, 224, 225, 226, 20, 227, 207, 228, 229, 230, 231, 232, 233, 234, 235, 236, 64, 63, 237, 238, 65, 239, 240, 241, 242, 243, 244, 245, 246, 247, 248, 39, 249, 250, 251, 252, 253, 254, 255, 256, 257, 258, 259, 260, 12, 13, 261, 696, 697, 698, 699, 700, 723, 724, 725, 726, 743] (by decide +kernel) (by decide +kernel)) (goodIn_sub (fun _ h => List.mem_append_left _ (List.mem_append_left _ (List.mem_append_right _ h))) (by decide +kernel))
set_option maxRecDepth 20000 in
theorem gL_law_L_enter : GoodIn wsL_law (va_wsS RL 105 yL_enter wsL_enter) := goodIn_app (goodIn_of _ (by decide +kernel)) ggL_law_L_enter
set_option maxRecDepth 20000 in
theorem ggL_law_X8_enter : GoodIn wsL_law wsX8_enter := goodIn_r _ [265, 216, 266, 109, 111, 110, 149, 150, 151, 5, 152, 153, 701, 702, 703, 704, 705, 706, 707, 708, 709, 710, 711, 712, 713, 714, 715, 716, 717, 718, 719, 720, 721] (by decide +kernel) (by decide +kernel)
set_option maxRecDepth 20000 in
theorem gL_law_X8_enter : GoodIn wsL_law (wsV RL 108 RX8 yX8_enter wsX8_enter) := goodIn_app (goodIn_of _ (by decide +kernel)) ggL_law_X8_enter
set_option maxRecDepth 20000 in
theorem ggL_law_X7_ornaments : GoodIn wsL_law wsX7_ornaments := goodIn_r _ [270, 21, 271, 272, 273, 20, 274, 232, 696, 697, 698, 699, 700, 723, 724, 725, 726] (by decide +kernel) (by decide +kernel)
set_option maxRecDepth 20000 in
theorem gL_law_X7_ornaments : GoodIn wsL_law (wsV RL 109 RX7 yX7_ornaments wsX7_ornaments) := goodIn_app (goodIn_of _ (by decide +kernel)) ggL_law_X7_ornaments
set_option maxRecDepth 20000 in
theorem ggL_law_X8_ornaments : GoodIn wsL_law wsX8_ornaments := goodIn_r _ [278, 153, 266, 701, 702, 703, 704, 705, 706, 707, 708, 709, 710, 711, 712, 713, 714, 715, 716, 717, 718, 719, 720, 721] (by decide +kernel) (by decide +kernel)
set_option maxRecDepth 20000 in
theorem gL_law_X8_ornaments : GoodIn wsL_law (wsV RL 112 RX8 yX8_ornaments wsX8_ornaments) := goodIn_app (goodIn_of _ (by decide +kernel)) ggL_law_X8_ornaments
set_option maxRecDepth 20000 in
theorem ggL_law_L_fits : GoodIn wsL_law wsL_fits := goodIn_ca (goodIn_ca (goodIn_r _ [281, 282, 128, 283, 284, 285, 2, 286, 287, 288, 21, 17, 289, 271, 272, 273, 20, 274, 232, 133, 134, 135, 136, 137, 290, 291, 292, 293, 294, 295, 296, 64, 297, 298, 299, 300, 238, 301, 261, 302, 303, 250, 251, 252, 304, 305, 306, 307, 308, 309, 16, 310, 40, 696, 697, 698, 699, 700, 723, 724, 725, 726, 743, 722] (by decide +kernel) (by decide +kernel)) (goodIn_sub (fun _ h => List.mem_append_left _ (List.mem_append_right _ h)) (by decide +kernel))) (goodIn_sub (fun _ h => List.mem_append_left _ (List.mem_append_left _ (List.mem_append_left _ (List.mem_append_right _ h)))) (by decide +kernel))
set_option maxRecDepth 20000 in
theorem gL_law_L_fits : GoodIn wsL_law (va_wsS RL 113 yL_fits wsL_fits) := goodIn_app (goodIn_of _ (by decide +kernel)) ggL_law_L_fits
set_option maxRecDepth 20000 in
theorem ggL_law_X8_fits : GoodIn wsL_law wsX8_fits := goodIn_r _ [314, 266, 315, 143, 144, 5, 145, 146, 147, 148, 149, 150, 151, 152, 153, 316, 317, 318, 319, 110, 109, 320, 321, 322, 323, 177, 178, 179, 180, 107, 108, 154, 155, 156, 157, 701, 702, 703, 704, 705, 706, 707, 708, 709, 710, 711, 712, 713, 714, 715, 716, 717, 718, 719, 720, 721] (by decide +kernel) (by decide +kernel)
set_option maxRecDepth 20000 in
theorem gL_law_X8_fits : GoodIn wsL_law (wsV RL 116 RX8 yX8_fits wsX8_fits) := goodIn_app (goodIn_of _ (by decide +kernel)) ggL_law_X8_fits
set_option maxRecDepth 20000 in
theorem ggL_law_L_addNote : GoodIn wsL_law wsL_addNote := goodIn_ca (goodIn_ca (goodIn_r _ [326, 128, 196, 327, 328, 329, 2, 330, 201, 202, 23, 331, 332, 333, 136, 137, 133, 134, 135, 290, 291, 292, 334, 335, 336, 25, 337, 338, 339, 340, 341, 342, 73, 70, 71, 696, 697, 698, 699, 700, 727, 728, 729, 730, 731] (by decide +kernel) (by decide +kernel)) (goodIn_sub (fun _ h => List.mem_append_left _ (List.mem_append_left _ (List.mem_append_right _ h))) (by decide +kernel))) (goodIn_sub (fun _ h => List.mem_append_left _ (List.mem_append_left _ (List.mem_append_left _ (List.mem_append_right _ h)))) (by decide +kernel))
set_option maxRecDepth 20000 in
theorem gL_law_L_addNote : GoodIn wsL_law (va_wsS RL 117 yL_addNote wsL_addNote) := goodIn_app (goodIn_of _ (by decide +kernel)) ggL_law_L_addNote
set_option maxRecDepth 20000 in
theorem ggL_law_X8_addNote : GoodIn wsL_law wsX8_addNote := goodIn_r _ [346, 115, 112, 113, 114, 347, 348, 5, 349, 146, 147, 148, 143, 144, 145, 149, 150, 151, 152, 153, 701, 702, 703, 704, 705, 706, 707, 708, 709, 710, 711, 712, 713, 714, 715, 716, 717, 718, 719, 720, 721] (by decide +kernel) (by decide +kernel)
set_option maxRecDepth 20000 in
theorem gL_law_X8_addNote : GoodIn wsL_law (wsV RL 120 RX8 yX8_addNote wsX8_addNote) := goodIn_app (goodIn_of _ (by decide +kernel)) ggL_law_X8_addNote
set_option maxRecDepth 20000 in
theorem ggL_law_L_removeNote : GoodIn wsL_law wsL_removeNote := goodIn_ca (goodIn_ca (goodIn_r _ [352, 128, 353, 354, 355, 356, 2, 357, 358, 359, 23, 331, 332, 333, 136, 137, 334, 335, 336, 25, 337, 338, 360, 361, 362, 363, 70, 696, 697, 698, 699, 700, 727, 728, 729, 730, 731] (by decide +kernel) (by decide +kernel)) (goodIn_sub (fun _ h => List.mem_append_right _ h) (by decide +kernel))) (goodIn_sub (fun _ h => List.mem_append_left _ (List.mem_append_left _ (List.mem_append_left _ (List.mem_append_right _ h)))) (by decide +kernel))
set_option maxRecDepth 20000 in
theorem gL_law_L_removeNote : GoodIn wsL_law (va_wsS RL 121 yL_removeNote wsL_removeNote) := goodIn_app (goodIn_of _ (by decide +kernel)) ggL_law_L_removeNote
set_option maxRecDepth 20000 in
theorem ggL_law_X8_removeNote : GoodIn wsL_law wsX8_removeNote := goodIn_r _ [367, 115, 112, 347, 348, 5, 349, 146, 147, 148, 149, 150, 151, 152, 153, 701, 702, 703, 704, 705, 706, 707, 708, 709, 710, 711, 712, 713, 714, 715, 716, 717, 718, 719, 720, 721] (by decide +kernel) (by decide +kernel)
set_option maxRecDepth 20000 in
theorem gL_law_X8_removeNote : GoodIn wsL_law (wsV RL 123 RX8 yX8_removeNote wsX8_removeNote) := goodIn_app (goodIn_of _ (by decide +kernel)) ggL_law_X8_removeNote
set_option maxRecDepth 20000 in
theorem ggL_law_L_setWish : GoodIn wsL_law wsL_setWish := goodIn_ca (goodIn_ca (goodIn_r _ [370, 128, 282, 371, 372, 373, 2, 374, 23, 331, 332, 333, 136, 137, 375, 376, 377, 378, 287, 288, 379, 380, 381, 25, 382, 338, 383, 384, 385, 386, 73, 696, 697, 698, 699, 700, 727, 728, 729, 730, 731] (by decide +kernel) (by decide +kernel)) (goodIn_sub (fun _ h => List.mem_append_left _ (List.mem_append_left _ (List.mem_append_left _ (List.mem_append_right _ h)))) (by decide +kernel))) (goodIn_sub (fun _ h => List.mem_append_left _ (List.mem_append_right _ h)) (by decide +kernel))
set_option maxRecDepth 20000 in
theorem gL_law_L_setWish : GoodIn wsL_law (va_wsS RL 124 yL_setWish wsL_setWish) := goodIn_app (goodIn_of _ (by decide +kernel)) ggL_law_L_setWish
set_option maxRecDepth 20000 in
theorem ggL_law_X8_setWish : GoodIn wsL_law wsX8_setWish := goodIn_r _ [390, 114, 347, 348, 5, 349, 146, 147, 148, 391, 392, 393, 394, 115, 149, 150, 151, 152, 153, 701, 702, 703, 704, 705, 706, 707, 708, 709, 710, 711, 712, 713, 714, 715, 716, 717, 718, 719, 720, 721] (by decide +kernel) (by decide +kernel)
set_option maxRecDepth 20000 in
theorem gL_law_X8_setWish : GoodIn wsL_law (wsV RL 127 RX8 yX8_setWish wsX8_setWish) := goodIn_app (goodIn_of _ (by decide +kernel)) ggL_law_X8_setWish
set_option maxRecDepth 20000 in
theorem ggL_law_L_notes : GoodIn wsL_law wsL_notes := goodIn_ca (goodIn_r _ [397, 128, 398, 399, 400, 2, 401, 23, 331, 332, 333, 136, 137, 334, 335, 336, 25, 337, 338, 696, 697, 698, 699, 700, 727, 728, 729, 730, 731] (by decide +kernel) (by decide +kernel)) (goodIn_sub (fun _ h => List.mem_append_left _ (List.mem_append_left _ (List.mem_append_left _ (List.mem_append_right _ h)))) (by decide +kernel))
set_option maxRecDepth 20000 in
theorem gL_law_L_notes : GoodIn wsL_law (va_wsS RL 128 yL_notes wsL_notes) := goodIn_app (goodIn_of _ (by decide +kernel)) ggL_law_L_notes
set_option maxRecDepth 20000 in
theorem ggL_law_X8_notes : GoodIn wsL_law wsX8_notes := goodIn_r _ [405, 115, 347, 348, 5, 349, 146, 147, 148, 149, 150, 151, 152, 153, 701, 702, 703, 704, 705, 706, 707, 708, 709, 710, 711, 712, 713, 714, 715, 716, 717, 718, 719, 720, 721] (by decide +kernel) (by decide +kernel)
set_option maxRecDepth 20000 in
theorem gL_law_X8_notes : GoodIn wsL_law (wsV RL 130 RX8 yX8_notes wsX8_notes) := goodIn_app (goodIn_of _ (by decide +kernel)) ggL_law_X8_notes
set_option maxRecDepth 20000 in
theorem ggL_law_L_time : GoodIn wsL_law wsL_time := goodIn_ca (goodIn_ca (goodIn_ca (goodIn_r _ [408, 128, 282, 196, 409, 410, 411, 2, 412, 287, 288, 23, 21, 29, 331, 332, 333, 136, 137, 334, 335, 336, 25, 337, 338, 413, 414, 415, 416, 201, 202, 17, 289, 417, 418, 419, 420, 70, 71, 73, 75, 421, 422, 423, 20, 424, 297, 425, 308, 309, 16, 310, 40, 426, 294, 295, 296, 64, 298, 299, 300, 238, 301, 261, 302, 303, 250, 251, 252, 304, 305, 306, 307, 427, 428, 429, 28, 430, 81, 431, 380, 381, 382, 432, 433, 434, 83, 435, 91, 436, 437, 438, 241, 439, 440, 441, 442, 443, 444, 445, 446, 447, 448, 449, 450, 451, 452, 453, 454, 455, 456, 457, 458, 459, 460, 379, 461, 462, 463, 464, 465, 466, 467, 468, 469, 470, 471, 472, 473, 696, 697, 698, 699, 700, 727, 728, 729, 730, 731, 722, 723, 724, 725, 726, 743, 732, 733, 734, 735, 742] (by decide +kernel) (by decide +kernel)) (goodIn_sub (fun _ h => List.mem_append_left _ (List.mem_append_right _ h)) (by decide +kernel))) (goodIn_sub (fun _ h => List.mem_append_left _ (List.mem_append_left _ (List.mem_append_left _ (List.mem_append_right _ h)))) (by decide +kernel))) (goodIn_sub (fun _ h => List.mem_append_left _ (List.mem_append_left _ (List.mem_append_right _ h))) (by decide +kernel))
set_option maxRecDepth 20000 in
theorem gL_law_L_time : GoodIn wsL_law (va_wsS RL 131 yL_time wsL_time) := goodIn_app (goodIn_of _ (by decide +kernel)) ggL_law_L_time
set_option maxRecDepth 20000 in
theorem ggL_law_X8_time : GoodIn wsL_law wsX8_time := goodIn_r _ [477, 115, 478, 117, 110, 347, 348, 5, 349, 146, 147, 148, 479, 480, 481, 482, 120, 483, 484, 485, 486, 487, 488, 489, 490, 116, 112, 113, 118, 114, 491, 492, 493, 494, 119, 121, 495, 496, 497, 498, 315, 499, 266, 500, 501, 502, 503, 504, 316, 317, 318, 319, 109, 320, 321, 322, 323, 177, 178, 179, 180, 107, 108, 154, 155, 156, 157, 149, 150, 151, 152, 153, 505, 506, 507, 508, 509, 510, 511, 512, 701, 702, 703, 704, 705, 706, 707, 708, 709, 710, 711, 712, 713, 714, 715, 716, 717, 718, 719, 720, 721] (by decide +kernel) (by decide +kernel)
set_option maxRecDepth 20000 in
theorem gL_law_X8_time : GoodIn wsL_law (wsV RL 133 RX8 yX8_time wsX8_time) := goodIn_app (goodIn_of _ (by decide +kernel)) ggL_law_X8_time
set_option maxRecDepth 20000 in
theorem ggL_law_L_fitting : GoodIn wsL_law wsL_fitting := goodIn_ca (goodIn_ca (goodIn_r _ [515, 128, 282, 516, 517, 518, 2, 519, 23, 17, 21, 289, 331, 332, 333, 136, 137, 375, 376, 377, 378, 287, 288, 379, 380, 381, 25, 382, 338, 417, 418, 419, 420, 70, 71, 73, 75, 421, 422, 423, 20, 424, 297, 425, 308, 309, 16, 310, 40, 426, 294, 295, 296, 64, 298, 299, 300, 238, 301, 261, 302, 303, 250, 251, 252, 304, 305, 306, 307, 520, 441, 442, 443, 696, 697, 698, 699, 700, 727, 728, 729, 730, 731, 722, 723, 724, 725, 726, 743] (by decide +kernel) (by decide +kernel)) (goodIn_sub (fun _ h => List.mem_append_left _ (List.mem_append_left _ (List.mem_append_left _ (List.mem_append_right _ h)))) (by decide +kernel))) (goodIn_sub (fun _ h => List.mem_append_left _ (List.mem_append_right _ h)) (by decide +kernel))
set_option maxRecDepth 20000 in
theorem gL_law_L_fitting : GoodIn wsL_law (va_wsS RL 134 yL_fitting wsL_fitting) := goodIn_app (goodIn_of _ (by decide +kernel)) ggL_law_L_fitting
set_option maxRecDepth 20000 in
theorem ggL_law_X8_fitting : GoodIn wsL_law wsX8_fitting := goodIn_r _ [524, 266, 315, 347, 348, 5, 349, 146, 147, 148, 391, 392, 393, 394, 115, 149, 150, 151, 152, 153, 483, 484, 485, 486, 478, 487, 488, 489, 490, 116, 112, 117, 113, 118, 114, 491, 492, 493, 494, 119, 120, 121, 495, 496, 497, 498, 499, 500, 501, 502, 503, 504, 316, 317, 318, 319, 110, 109, 320, 321, 322, 323, 177, 178, 179, 180, 107, 108, 154, 155, 156, 157, 701, 702, 703, 704, 705, 706, 707, 708, 709, 710, 711, 712, 713, 714, 715, 716, 717, 718, 719, 720, 721] (by decide +kernel) (by decide +kernel)
set_option maxRecDepth 20000 in
theorem gL_law_X8_fitting : GoodIn wsL_law (wsV RL 136 RX8 yX8_fitting wsX8_fitting) := goodIn_app (goodIn_of _ (by decide +kernel)) ggL_law_X8_fitting
set_option maxRecDepth 20000 in
theorem ggL_law_L_choices : GoodIn wsL_law wsL_choices := goodIn_ca (goodIn_r _ [527, 128, 528, 529, 530, 2, 531, 23, 17, 21, 29, 331, 332, 333, 136, 137, 417, 418, 419, 25, 420, 338, 70, 71, 73, 75, 421, 422, 423, 20, 424, 297, 425, 308, 309, 16, 310, 40, 426, 294, 295, 296, 64, 298, 299, 300, 238, 301, 261, 302, 303, 250, 251, 252, 304, 305, 306, 307, 532, 533, 534, 28, 535, 86, 536, 438, 241, 439, 431, 380, 381, 382, 440, 441, 442, 443, 537, 538, 539, 540, 541, 696, 697, 698, 699, 700, 727, 728, 729, 730, 731, 722, 723, 724, 725, 726, 743, 732, 733, 734, 735] (by decide +kernel) (by decide +kernel)) (goodIn_sub (fun _ h => List.mem_append_left _ (List.mem_append_left _ (List.mem_append_left _ (List.mem_append_right _ h)))) (by decide +kernel))
set_option maxRecDepth 20000 in
theorem gL_law_L_choices : GoodIn wsL_law (va_wsS RL 137 yL_choices wsL_choices) := goodIn_app (goodIn_of _ (by decide +kernel)) ggL_law_L_choices
set_option maxRecDepth 20000 in
theorem ggL_law_X8_choices : GoodIn wsL_law wsX8_choices := goodIn_r _ [545, 120, 347, 348, 5, 349, 146, 147, 148, 149, 150, 151, 152, 153, 483, 484, 485, 486, 478, 487, 488, 489, 490, 115, 116, 112, 117, 113, 118, 114, 491, 492, 493, 494, 119, 121, 495, 496, 497, 498, 315, 499, 266, 500, 501, 502, 503, 504, 316, 317, 318, 319, 110, 109, 320, 321, 322, 323, 177, 178, 179, 180, 107, 108, 154, 155, 156, 157, 701, 702, 703, 704, 705, 706, 707, 708, 709, 710, 711, 712, 713, 714, 715, 716, 717, 718, 719, 720, 721] (by decide +kernel) (by decide +kernel)
set_option maxRecDepth 20000 in
theorem gL_law_X8_choices : GoodIn wsL_law (wsV RL 139 RX8 yX8_choices wsX8_choices) := goodIn_app (goodIn_of _ (by decide +kernel)) ggL_law_X8_choices
set_option maxRecDepth 20000 in
theorem ggL_law_L_least : GoodIn wsL_law wsL_least := goodIn_ca (goodIn_ca (goodIn_r _ [548, 128, 196, 549, 550, 551, 2, 552, 331, 332, 333, 136, 137, 413, 414, 415, 416, 201, 202, 23, 17, 21, 29, 289, 417, 418, 419, 25, 420, 338, 70, 71, 73, 75, 421, 422, 423, 20, 424, 297, 425, 308, 309, 16, 310, 40, 426, 294, 295, 296, 64, 298, 299, 300, 238, 301, 261, 302, 303, 250, 251, 252, 304, 305, 306, 307, 427, 428, 429, 28, 430, 81, 431, 380, 381, 382, 432, 433, 434, 83, 435, 91, 436, 437, 438, 241, 439, 440, 441, 442, 443, 444, 445, 446, 447, 448, 449, 450, 451, 452, 453, 454, 455, 456, 696, 697, 698, 699, 700, 727, 728, 729, 730, 731, 722, 723, 724, 725, 726, 743, 732, 733, 734, 735, 742] (by decide +kernel) (by decide +kernel)) (goodIn_sub (fun _ h => List.mem_append_left _ (List.mem_append_left _ (List.mem_append_left _ (List.mem_append_right _ h)))) (by decide +kernel))) (goodIn_sub (fun _ h => List.mem_append_left _ (List.mem_append_left _ (List.mem_append_right _ h))) (by decide +kernel))
set_option maxRecDepth 20000 in
theorem gL_law_L_least : GoodIn wsL_law (va_wsS RL 140 yL_least wsL_least) := goodIn_app (goodIn_of _ (by decide +kernel)) ggL_law_L_least
set_option maxRecDepth 20000 in
theorem ggL_law_X8_least : GoodIn wsL_law wsX8_least := goodIn_r _ [556, 119, 557, 558, 559, 5, 560, 479, 480, 481, 482, 120, 347, 348, 349, 146, 147, 148, 483, 484, 485, 486, 478, 487, 488, 489, 490, 115, 116, 112, 117, 113, 118, 114, 491, 492, 493, 494, 121, 495, 496, 497, 498, 315, 499, 266, 500, 501, 502, 503, 504, 316, 317, 318, 319, 110, 109, 320, 321, 322, 323, 177, 178, 179, 180, 107, 108, 154, 155, 156, 157, 149, 150, 151, 152, 153, 701, 702, 703, 704, 705, 706, 707, 708, 709, 710, 711, 712, 713, 714, 715, 716, 717, 718, 719, 720, 721] (by decide +kernel) (by decide +kernel)
set_option maxRecDepth 20000 in
theorem gL_law_X8_least : GoodIn wsL_law (wsV RL 142 RX8 yX8_least wsX8_least) := goodIn_app (goodIn_of _ (by decide +kernel)) ggL_law_X8_least
set_option maxRecDepth 20000 in
theorem ggL_law_L_chosen : GoodIn wsL_law wsL_chosen := goodIn_ca (goodIn_ca (goodIn_ca (goodIn_r _ [563, 128, 282, 196, 564, 565, 566, 2, 567, 29, 331, 332, 333, 136, 137, 375, 376, 377, 378, 287, 288, 23, 379, 380, 381, 25, 382, 338, 413, 414, 415, 416, 201, 202, 17, 21, 289, 417, 418, 419, 420, 70, 71, 73, 75, 421, 422, 423, 20, 424, 297, 425, 308, 309, 16, 310, 40, 426, 294, 295, 296, 64, 298, 299, 300, 238, 301, 261, 302, 303, 250, 251, 252, 304, 305, 306, 307, 427, 428, 429, 28, 430, 81, 431, 432, 433, 434, 83, 435, 91, 436, 437, 438, 241, 439, 440, 441, 442, 443, 444, 445, 446, 447, 448, 449, 450, 451, 452, 453, 454, 455, 456, 461, 462, 463, 464, 465, 696, 697, 698, 699, 700, 727, 728, 729, 730, 731, 722, 723, 724, 725, 726, 743, 732, 733, 734, 735, 742] (by decide +kernel) (by decide +kernel)) (goodIn_sub (fun _ h => List.mem_append_left _ (List.mem_append_left _ (List.mem_append_left _ (List.mem_append_right _ h)))) (by decide +kernel))) (goodIn_sub (fun _ h => List.mem_append_left _ (List.mem_append_right _ h)) (by decide +kernel))) (goodIn_sub (fun _ h => List.mem_append_left _ (List.mem_append_left _ (List.mem_append_right _ h))) (by decide +kernel))
set_option maxRecDepth 20000 in
theorem gL_law_L_chosen : GoodIn wsL_law (va_wsS RL 143 yL_chosen wsL_chosen) := goodIn_app (goodIn_of _ (by decide +kernel)) ggL_law_L_chosen
set_option maxRecDepth 20000 in
theorem ggL_law_X8_chosen : GoodIn wsL_law wsX8_chosen := goodIn_r _ [571, 347, 348, 5, 349, 146, 147, 148, 391, 392, 393, 394, 115, 479, 480, 481, 482, 120, 483, 484, 485, 486, 478, 487, 488, 489, 490, 116, 112, 117, 113, 118, 114, 491, 492, 493, 494, 119, 121, 495, 496, 497, 498, 315, 499, 266, 500, 501, 502, 503, 504, 316, 317, 318, 319, 110, 109, 320, 321, 322, 323, 177, 178, 179, 180, 107, 108, 154, 155, 156, 157, 149, 150, 151, 152, 153, 505, 506, 507, 508, 509, 510, 511, 512, 701, 702, 703, 704, 705, 706, 707, 708, 709, 710, 711, 712, 713, 714, 715, 716, 717, 718, 719, 720, 721] (by decide +kernel) (by decide +kernel)
set_option maxRecDepth 20000 in
theorem gL_law_X8_chosen : GoodIn wsL_law (wsV RL 145 RX8 yX8_chosen wsX8_chosen) := goodIn_app (goodIn_of _ (by decide +kernel)) ggL_law_X8_chosen
set_option maxRecDepth 20000 in
theorem ggL_law_L_mostOrnaments : GoodIn wsL_law wsL_mostOrnaments := goodIn_ca (goodIn_ca (goodIn_r _ [574, 128, 196, 575, 576, 577, 2, 578, 23, 29, 331, 332, 333, 136, 137, 413, 414, 415, 416, 201, 202, 17, 21, 289, 417, 418, 419, 25, 420, 338, 70, 71, 73, 75, 421, 422, 423, 20, 424, 297, 425, 308, 309, 16, 310, 40, 426, 294, 295, 296, 64, 298, 299, 300, 238, 301, 261, 302, 303, 250, 251, 252, 304, 305, 306, 307, 427, 428, 429, 28, 430, 81, 431, 380, 381, 382, 432, 433, 434, 83, 435, 91, 436, 437, 438, 241, 439, 440, 441, 442, 443, 444, 445, 446, 447, 448, 449, 450, 451, 452, 453, 454, 455, 456, 379, 579, 580, 581, 582, 84, 85, 541, 696, 697, 698, 699, 700, 727, 728, 729, 730, 731, 722, 723, 724, 725, 726, 743, 732, 733, 734, 735, 742] (by decide +kernel) (by decide +kernel)) (goodIn_sub (fun _ h => List.mem_append_left _ (List.mem_append_left _ (List.mem_append_left _ (List.mem_append_right _ h)))) (by decide +kernel))) (goodIn_sub (fun _ h => List.mem_append_left _ (List.mem_append_left _ (List.mem_append_right _ h))) (by decide +kernel))
set_option maxRecDepth 20000 in
theorem gL_law_L_mostOrnaments : GoodIn wsL_law (va_wsS RL 146 yL_mostOrnaments wsL_mostOrnaments) := goodIn_app (goodIn_of _ (by decide +kernel)) ggL_law_L_mostOrnaments
set_option maxRecDepth 20000 in
theorem ggL_law_X8_mostOrnaments : GoodIn wsL_law wsX8_mostOrnaments := goodIn_r _ [586, 121, 557, 558, 559, 5, 560, 479, 480, 481, 482, 120, 347, 348, 349, 146, 147, 148, 483, 484, 485, 486, 478, 487, 488, 489, 490, 115, 116, 112, 117, 113, 118, 114, 491, 492, 493, 494, 119, 495, 496, 497, 498, 315, 499, 266, 500, 501, 502, 503, 504, 316, 317, 318, 319, 110, 109, 320, 321, 322, 323, 177, 178, 179, 180, 107, 108, 154, 155, 156, 157, 149, 150, 151, 152, 153, 701, 702, 703, 704, 705, 706, 707, 708, 709, 710, 711, 712, 713, 714, 715, 716, 717, 718, 719, 720, 721] (by decide +kernel) (by decide +kernel)
set_option maxRecDepth 20000 in
theorem gL_law_X8_mostOrnaments : GoodIn wsL_law (wsV RL 148 RX8 yX8_mostOrnaments wsX8_mostOrnaments) := goodIn_app (goodIn_of _ (by decide +kernel)) ggL_law_X8_mostOrnaments
set_option maxRecDepth 20000 in
theorem ggL_law_L_average : GoodIn wsL_law wsL_average := goodIn_ca (goodIn_ca (goodIn_r _ [589, 128, 196, 590, 591, 592, 2, 593, 23, 331, 332, 333, 136, 137, 413, 414, 415, 416, 201, 202, 17, 21, 29, 289, 417, 418, 419, 25, 420, 338, 70, 71, 73, 75, 421, 422, 423, 20, 424, 297, 425, 308, 309, 16, 310, 40, 426, 294, 295, 296, 64, 298, 299, 300, 238, 301, 261, 302, 303, 250, 251, 252, 304, 305, 306, 307, 427, 428, 429, 28, 430, 81, 431, 380, 381, 382, 432, 433, 434, 83, 435, 91, 436, 437, 438, 241, 439, 440, 441, 442, 443, 444, 445, 446, 447, 448, 449, 450, 451, 452, 453, 454, 455, 456, 379, 696, 697, 698, 699, 700, 727, 728, 729, 730, 731, 722, 723, 724, 725, 726, 743, 732, 733, 734, 735, 742] (by decide +kernel) (by decide +kernel)) (goodIn_sub (fun _ h => List.mem_append_left _ (List.mem_append_left _ (List.mem_append_left _ (List.mem_append_right _ h)))) (by decide +kernel))) (goodIn_sub (fun _ h => List.mem_append_left _ (List.mem_append_left _ (List.mem_append_right _ h))) (by decide +kernel))
set_option maxRecDepth 20000 in
theorem gL_law_L_average : GoodIn wsL_law (va_wsS RL 149 yL_average wsL_average) := goodIn_app (goodIn_of _ (by decide +kernel)) ggL_law_L_average
set_option maxRecDepth 20000 in
theorem ggL_law_X8_average : GoodIn wsL_law wsX8_average := goodIn_r _ [597, 478, 119, 557, 558, 559, 5, 560, 479, 480, 481, 482, 120, 347, 348, 349, 146, 147, 148, 483, 484, 485, 486, 487, 488, 489, 490, 115, 116, 112, 117, 113, 118, 114, 491, 492, 493, 494, 121, 495, 496, 497, 498, 315, 499, 266, 500, 501, 502, 503, 504, 316, 317, 318, 319, 110, 109, 320, 321, 322, 323, 177, 178, 179, 180, 107, 108, 154, 155, 156, 157, 149, 150, 151, 152, 153, 701, 702, 703, 704, 705, 706, 707, 708, 709, 710, 711, 712, 713, 714, 715, 716, 717, 718, 719, 720, 721] (by decide +kernel) (by decide +kernel)
set_option maxRecDepth 20000 in
theorem gL_law_X8_average : GoodIn wsL_law (wsV RL 152 RX8 yX8_average wsX8_average) := goodIn_app (goodIn_of _ (by decide +kernel)) ggL_law_X8_average
set_option maxRecDepth 20000 in
theorem ggL_law_L_leastSet : GoodIn wsL_law wsL_leastSet := goodIn_ca (goodIn_r _ [600, 196, 601, 602, 603, 2, 604, 201, 202, 33, 605, 606, 607, 608, 23, 17, 21, 417, 418, 419, 25, 420, 338, 70, 71, 73, 75, 421, 422, 423, 20, 424, 297, 425, 308, 309, 16, 310, 40, 426, 294, 295, 296, 64, 298, 299, 300, 238, 301, 261, 302, 303, 250, 251, 252, 304, 305, 306, 307, 609, 610, 611, 32, 612, 97, 613, 335, 336, 337, 614, 615, 616, 617, 618, 458, 459, 460, 619, 620, 621, 622, 623, 624, 625, 626, 627, 628, 629, 630, 100, 631, 632, 633, 634, 99, 635, 433, 434, 83, 435, 91, 436, 437, 438, 241, 439, 636, 445, 446, 447, 448, 449, 450, 451, 452, 637, 380, 381, 382, 638, 441, 442, 443, 639, 454, 455, 456, 640, 641, 642, 643, 101, 644, 254, 255, 256, 645, 646, 647, 648, 649, 650, 651, 652, 653, 654, 655, 656, 696, 697, 698, 699, 700, 727, 728, 729, 730, 731, 722, 723, 724, 725, 726, 743, 736, 737, 738, 739, 740, 741, 742] (by decide +kernel) (by decide +kernel)) (goodIn_sub (fun _ h => List.mem_append_left _ (List.mem_append_left _ (List.mem_append_right _ h))) (by decide +kernel))
set_option maxRecDepth 20000 in
theorem gL_law_L_leastSet : GoodIn wsL_law (va_wsS RL 153 yL_leastSet wsL_leastSet) := goodIn_app (goodIn_of _ (by decide +kernel)) ggL_law_L_leastSet
set_option maxRecDepth 20000 in
theorem ggL_law_X8_leastSet : GoodIn wsL_law wsX8_leastSet := goodIn_r _ [660, 315, 661, 662, 663, 5, 664, 478, 122, 120, 119, 123, 665, 666, 667, 668, 115, 487, 488, 489, 490, 116, 112, 117, 113, 118, 114, 491, 492, 493, 494, 121, 495, 496, 497, 498, 499, 266, 500, 501, 502, 503, 504, 316, 317, 318, 319, 110, 109, 320, 321, 322, 323, 177, 178, 179, 180, 107, 108, 154, 155, 156, 157, 149, 150, 151, 152, 153, 701, 702, 703, 704, 705, 706, 707, 708, 709, 710, 711, 712, 713, 714, 715, 716, 717, 718, 719, 720, 721] (by decide +kernel) (by decide +kernel)
set_option maxRecDepth 20000 in
theorem gL_law_X8_leastSet : GoodIn wsL_law (wsV RL 155 RX8 yX8_leastSet wsX8_leastSet) := goodIn_app (goodIn_of _ (by decide +kernel)) ggL_law_X8_leastSet
set_option maxRecDepth 20000 in
theorem ggL_law_L_tuneAt : GoodIn wsL_law wsL_tuneAt := goodIn_ca (goodIn_ca (goodIn_r _ [671, 196, 282, 672, 673, 674, 2, 675, 201, 202, 287, 288, 33, 605, 606, 607, 608, 23, 17, 21, 417, 418, 419, 25, 420, 338, 70, 71, 73, 75, 421, 422, 423, 20, 424, 297, 425, 308, 309, 16, 310, 40, 426, 294, 295, 296, 64, 298, 299, 300, 238, 301, 261, 302, 303, 250, 251, 252, 304, 305, 306, 307, 609, 610, 611, 32, 612, 97, 613, 335, 336, 337, 614, 615, 616, 617, 618, 458, 459, 460, 619, 620, 621, 622, 623, 624, 625, 626, 627, 628, 629, 630, 100, 631, 632, 633, 634, 99, 635, 433, 434, 83, 435, 91, 436, 437, 438, 241, 439, 636, 445, 446, 447, 448, 449, 450, 451, 452, 637, 380, 381, 382, 638, 441, 442, 443, 639, 454, 455, 456, 640, 641, 642, 643, 101, 644, 254, 255, 256, 645, 646, 647, 648, 649, 650, 651, 652, 676, 677, 678, 679, 680, 681, 682, 683, 696, 697, 698, 699, 700, 727, 728, 729, 730, 731, 722, 723, 724, 725, 726, 743, 736, 737, 738, 739, 740, 741, 742] (by decide +kernel) (by decide +kernel)) (goodIn_sub (fun _ h => List.mem_append_left _ (List.mem_append_left _ (List.mem_append_right _ h))) (by decide +kernel))) (goodIn_sub (fun _ h => List.mem_append_left _ (List.mem_append_right _ h)) (by decide +kernel))
set_option maxRecDepth 20000 in
theorem gL_law_L_tuneAt : GoodIn wsL_law (va_wsS RL 156 yL_tuneAt wsL_tuneAt) := goodIn_app (goodIn_of _ (by decide +kernel)) ggL_law_L_tuneAt
set_option maxRecDepth 20000 in
theorem ggL_law_X8_tuneAt : GoodIn wsL_law wsX8_tuneAt := goodIn_r _ [687, 315, 115, 123, 661, 662, 663, 5, 664, 478, 122, 120, 119, 665, 666, 667, 668, 487, 488, 489, 490, 116, 112, 117, 113, 118, 114, 491, 492, 493, 494, 121, 495, 496, 497, 498, 499, 266, 500, 501, 502, 503, 504, 316, 317, 318, 319, 110, 109, 320, 321, 322, 323, 177, 178, 179, 180, 107, 108, 154, 155, 156, 157, 146, 147, 148, 149, 150, 151, 152, 153, 701, 702, 703, 704, 705, 706, 707, 708, 709, 710, 711, 712, 713, 714, 715, 716, 717, 718, 719, 720, 721] (by decide +kernel) (by decide +kernel)
set_option maxRecDepth 20000 in
theorem gL_law_X8_tuneAt : GoodIn wsL_law (wsV RL 158 RX8 yX8_tuneAt wsX8_tuneAt) := goodIn_app (goodIn_of _ (by decide +kernel)) ggL_law_X8_tuneAt
set_option maxRecDepth 20000 in
theorem ggL_law_X7_sets : GoodIn wsL_law wsX7_sets := goodIn_r _ [691, 605, 606, 607, 2, 608, 23, 17, 21, 33, 417, 418, 419, 25, 420, 338, 70, 71, 73, 75, 421, 422, 423, 20, 424, 297, 425, 308, 309, 16, 310, 40, 426, 294, 295, 296, 64, 298, 299, 300, 238, 301, 261, 302, 303, 250, 251, 252, 304, 305, 306, 307, 609, 610, 611, 32, 612, 97, 613, 335, 336, 337, 614, 615, 616, 617, 618, 458, 459, 460, 619, 620, 621, 622, 623, 624, 625, 626, 627, 628, 629, 630, 100, 631, 632, 633, 634, 99, 635, 433, 434, 83, 435, 91, 436, 437, 438, 241, 439, 636, 445, 446, 447, 448, 449, 450, 451, 452, 637, 380, 381, 382, 638, 441, 442, 443, 639, 454, 455, 456, 640, 641, 642, 643, 101, 644, 254, 255, 256, 645, 646, 647, 648, 649, 650, 651, 652, 696, 697, 698, 699, 700, 727, 728, 729, 730, 731, 722, 723, 724, 725, 726, 743, 736, 737, 738, 739, 740, 741, 742] (by decide +kernel) (by decide +kernel)
set_option maxRecDepth 20000 in
theorem gL_law_X7_sets : GoodIn wsL_law (wsV RL 159 RX7 yX7_sets wsX7_sets) := goodIn_app (goodIn_of _ (by decide +kernel)) ggL_law_X7_sets
set_option maxRecDepth 20000 in
theorem ggL_law_X8_sets : GoodIn wsL_law wsX8_sets := goodIn_r _ [695, 153, 661, 662, 663, 5, 664, 315, 478, 122, 120, 119, 123, 665, 666, 667, 668, 115, 487, 488, 489, 490, 116, 112, 117, 113, 118, 114, 491, 492, 493, 494, 121, 495, 496, 497, 498, 499, 266, 500, 501, 502, 503, 504, 316, 317, 318, 319, 110, 109, 320, 321, 322, 323, 177, 178, 179, 180, 107, 108, 154, 155, 156, 157, 701, 702, 703, 704, 705, 706, 707, 708, 709, 710, 711, 712, 713, 714, 715, 716, 717, 718, 719, 720, 721] (by decide +kernel) (by decide +kernel)
set_option maxRecDepth 20000 in
theorem gL_law_X8_sets : GoodIn wsL_law (wsV RL 162 RX8 yX8_sets wsX8_sets) := goodIn_app (goodIn_of _ (by decide +kernel)) ggL_law_X8_sets
