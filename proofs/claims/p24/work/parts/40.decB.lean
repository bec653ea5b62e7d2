set_option maxRecDepth 20000 in
theorem ggX7_init_X0_init : GoodIn wsX7_init wsX0_init := goodIn_r _ [26, 27, 2, 3, 28, 29, 30, 31, 32, 33, 6, 34, 35, 36, 37, 38, 39, 40, 41, 42, 43, 44, 45, 46, 47, 48, 93] (by decide +kernel) (by decide +kernel)
set_option maxRecDepth 20000 in
theorem gX7_init_X0_init : GoodIn wsX7_init (wsX0_init) := ggX7_init_X0_init
set_option maxRecDepth 20000 in
theorem ggX7_init_X3_init : GoodIn wsX7_init wsX3_init := goodIn_r _ [51, 52, 2, 3, 53, 54, 29, 55, 99, 100, 101, 102] (by decide +kernel) (by decide +kernel)
set_option maxRecDepth 20000 in
theorem gX7_init_X3_init : GoodIn wsX7_init (wsX3_init) := ggX7_init_X3_init
set_option maxRecDepth 20000 in
theorem ggX7_init_X5_init : GoodIn wsX7_init wsX5_init := goodIn_r _ [58, 59, 2, 3, 29, 60, 61, 62, 63, 64, 65, 103, 104, 105, 106, 107] (by decide +kernel) (by decide +kernel)
set_option maxRecDepth 20000 in
theorem gX7_init_X5_init : GoodIn wsX7_init (wsX5_init) := ggX7_init_X5_init
set_option maxRecDepth 20000 in
theorem ggX7_init_X6_init : GoodIn wsX7_init wsX6_init := goodIn_r _ [68, 69, 2, 3, 70, 71, 72, 73, 74, 29, 75, 76, 77, 78, 79, 80, 81, 108, 109, 110, 111, 118] (by decide +kernel) (by decide +kernel)
set_option maxRecDepth 20000 in
theorem gX7_init_X6_init : GoodIn wsX7_init (wsX6_init) := ggX7_init_X6_init
set_option maxRecDepth 20000 in
theorem ggX7_init_X4_init : GoodIn wsX7_init wsX4_init := goodIn_r _ [84, 85, 2, 3, 86, 29, 87, 88, 72, 73, 89, 90, 91, 92, 78, 79, 80, 81, 112, 113, 114, 115, 116, 117, 118] (by decide +kernel) (by decide +kernel)
set_option maxRecDepth 20000 in
theorem gX7_init_X4_init : GoodIn wsX7_init (wsX4_init) := ggX7_init_X4_init
theorem dX7_init_0 : decode cX7_init 0 = .ok (.aload_n 0, 1) := by decide +kernel
theorem dX7_init_1 : decode cX7_init 1 = .ok (.invokespecial 3, 3) := by decide +kernel
theorem dX7_init_4 : decode cX7_init 4 = .ok (.aload_n 0, 1) := by decide +kernel
theorem dX7_init_5 : decode cX7_init 5 = .ok (.new 9, 3) := by decide +kernel
theorem dX7_init_8 : decode cX7_init 8 = .ok (.dup, 1) := by decide +kernel
theorem dX7_init_9 : decode cX7_init 9 = .ok (.invokespecial 11, 3) := by decide +kernel
theorem dX7_init_12 : decode cX7_init 12 = .ok (.putfield 12, 3) := by decide +kernel
theorem dX7_init_15 : decode cX7_init 15 = .ok (.aload_n 0, 1) := by decide +kernel
theorem dX7_init_16 : decode cX7_init 16 = .ok (.new 16, 3) := by decide +kernel
theorem dX7_init_19 : decode cX7_init 19 = .ok (.dup, 1) := by decide +kernel
theorem dX7_init_20 : decode cX7_init 20 = .ok (.invokespecial 18, 3) := by decide +kernel
theorem dX7_init_23 : decode cX7_init 23 = .ok (.putfield 19, 3) := by decide +kernel
theorem dX7_init_26 : decode cX7_init 26 = .ok (.aload_n 0, 1) := by decide +kernel
theorem dX7_init_27 : decode cX7_init 27 = .ok (.iconst 4, 1) := by decide +kernel
theorem dX7_init_28 : decode cX7_init 28 = .ok (.anewarray 23, 3) := by decide +kernel
theorem dX7_init_31 : decode cX7_init 31 = .ok (.putfield 25, 3) := by decide +kernel
theorem dX7_init_34 : decode cX7_init 34 = .ok (.iconst 0, 1) := by decide +kernel
theorem dX7_init_35 : decode cX7_init 35 = .ok (.istore_n 1, 1) := by decide +kernel
theorem dX7_init_36 : decode cX7_init 36 = .ok (.iload_n 1, 1) := by decide +kernel
theorem dX7_init_37 : decode cX7_init 37 = .ok (.iconst 4, 1) := by decide +kernel
theorem dX7_init_38 : decode cX7_init 38 = .ok (.if_icmp .ge 22, 3) := by decide +kernel
theorem dX7_init_41 : decode cX7_init 41 = .ok (.aload_n 0, 1) := by decide +kernel
theorem dX7_init_42 : decode cX7_init 42 = .ok (.getfield 25, 3) := by decide +kernel
theorem dX7_init_45 : decode cX7_init 45 = .ok (.iload_n 1, 1) := by decide +kernel
theorem dX7_init_46 : decode cX7_init 46 = .ok (.new 23, 3) := by decide +kernel
theorem dX7_init_49 : decode cX7_init 49 = .ok (.dup, 1) := by decide +kernel
theorem dX7_init_50 : decode cX7_init 50 = .ok (.invokespecial 29, 3) := by decide +kernel
theorem dX7_init_53 : decode cX7_init 53 = .ok (.aastore, 1) := by decide +kernel
theorem dX7_init_54 : decode cX7_init 54 = .ok (.iinc 1 1, 3) := by decide +kernel
theorem dX7_init_57 : decode cX7_init 57 = .ok (.goto (-21), 3) := by decide +kernel
theorem dX7_init_60 : decode cX7_init 60 = .ok (.aload_n 0, 1) := by decide +kernel
theorem dX7_init_61 : decode cX7_init 61 = .ok (.new 30, 3) := by decide +kernel
theorem dX7_init_64 : decode cX7_init 64 = .ok (.dup, 1) := by decide +kernel
theorem dX7_init_65 : decode cX7_init 65 = .ok (.invokespecial 32, 3) := by decide +kernel
theorem dX7_init_68 : decode cX7_init 68 = .ok (.putfield 33, 3) := by decide +kernel
theorem dX7_init_71 : decode cX7_init 71 = .ok (.aload_n 0, 1) := by decide +kernel
theorem dX7_init_72 : decode cX7_init 72 = .ok (.new 37, 3) := by decide +kernel
theorem dX7_init_75 : decode cX7_init 75 = .ok (.dup, 1) := by decide +kernel
theorem dX7_init_76 : decode cX7_init 76 = .ok (.invokespecial 39, 3) := by decide +kernel
theorem dX7_init_79 : decode cX7_init 79 = .ok (.putfield 40, 3) := by decide +kernel
theorem dX7_init_82 : decode cX7_init 82 = .ok (.return_, 1) := by decide +kernel
set_option maxRecDepth 20000 in
theorem ggX7_cost_X7_checkPitch : GoodIn wsX7_cost wsX7_checkPitch := goodIn_ca (goodIn_r _ [4, 5, 6] (by decide +kernel) (by decide +kernel)) (goodIn_sub (fun _ h => List.mem_cons_of_mem _ (List.mem_append_right _ h)) (by decide +kernel))
set_option maxRecDepth 20000 in
theorem gX7_cost_X7_checkPitch : GoodIn wsX7_cost (va_wsS RX7 44 yX7_checkPitch wsX7_checkPitch) := goodIn_app (goodIn_of _ (by decide +kernel)) ggX7_cost_X7_checkPitch
set_option maxRecDepth 20000 in
theorem ggX7_cost_X0_holesMoved : GoodIn wsX7_cost wsX0_holesMoved := goodIn_r _ [10, 11, 12, 13, 14, 15, 16, 17] (by decide +kernel) (by decide +kernel)
set_option maxRecDepth 20000 in
theorem gX7_cost_X0_holesMoved : GoodIn wsX7_cost (va_wsS RX7 48 yX0_holesMoved wsX0_holesMoved) := goodIn_app (goodIn_of _ (by decide +kernel)) ggX7_cost_X0_holesMoved
theorem dX7_cost_0 : decode cX7_cost 0 = .ok (.iload_n 1, 1) := by decide +kernel
theorem dX7_cost_1 : decode cX7_cost 1 = .ok (.invokestatic 44, 3) := by decide +kernel
theorem dX7_cost_4 : decode cX7_cost 4 = .ok (.iload_n 2, 1) := by decide +kernel
theorem dX7_cost_5 : decode cX7_cost 5 = .ok (.invokestatic 44, 3) := by decide +kernel
theorem dX7_cost_8 : decode cX7_cost 8 = .ok (.iload_n 1, 1) := by decide +kernel
theorem dX7_cost_9 : decode cX7_cost 9 = .ok (.iload_n 2, 1) := by decide +kernel
theorem dX7_cost_10 : decode cX7_cost 10 = .ok (.invokestatic 48, 3) := by decide +kernel
theorem dX7_cost_13 : decode cX7_cost 13 = .ok (.ireturn, 1) := by decide +kernel
set_option maxRecDepth 20000 in
theorem ggX7_isBarred_X7_checkPitch : GoodIn wsX7_isBarred wsX7_checkPitch := goodIn_ca (goodIn_r _ [5, 6, 7] (by decide +kernel) (by decide +kernel)) (goodIn_sub (fun _ h => List.mem_cons_of_mem _ (List.mem_append_right _ h)) (by decide +kernel))
set_option maxRecDepth 20000 in
theorem gX7_isBarred_X7_checkPitch : GoodIn wsX7_isBarred (va_wsS RX7 44 yX7_checkPitch wsX7_checkPitch) := goodIn_app (goodIn_of _ (by decide +kernel)) ggX7_isBarred_X7_checkPitch
set_option maxRecDepth 20000 in
theorem ggX7_isBarred_X0_bars : GoodIn wsX7_isBarred wsX0_bars := goodIn_r _ [12, 13, 14, 20] (by decide +kernel) (by decide +kernel)
set_option maxRecDepth 20000 in
theorem gX7_isBarred_X0_bars : GoodIn wsX7_isBarred (wsV RX7 52 RX0 yX0_bars wsX0_bars) := goodIn_app (goodIn_of _ (by decide +kernel)) ggX7_isBarred_X0_bars
theorem dX7_isBarred_0 : decode cX7_isBarred 0 = .ok (.iload_n 1, 1) := by decide +kernel
theorem dX7_isBarred_1 : decode cX7_isBarred 1 = .ok (.invokestatic 44, 3) := by decide +kernel
theorem dX7_isBarred_4 : decode cX7_isBarred 4 = .ok (.iload_n 2, 1) := by decide +kernel
theorem dX7_isBarred_5 : decode cX7_isBarred 5 = .ok (.invokestatic 44, 3) := by decide +kernel
theorem dX7_isBarred_8 : decode cX7_isBarred 8 = .ok (.aload_n 0, 1) := by decide +kernel
theorem dX7_isBarred_9 : decode cX7_isBarred 9 = .ok (.getfield 12, 3) := by decide +kernel
theorem dX7_isBarred_12 : decode cX7_isBarred 12 = .ok (.iload_n 1, 1) := by decide +kernel
theorem dX7_isBarred_13 : decode cX7_isBarred 13 = .ok (.iload_n 2, 1) := by decide +kernel
theorem dX7_isBarred_14 : decode cX7_isBarred 14 = .ok (.invokevirtual 52, 3) := by decide +kernel
theorem dX7_isBarred_17 : decode cX7_isBarred 17 = .ok (.ireturn, 1) := by decide +kernel
set_option maxRecDepth 20000 in
theorem ggX7_setLimit_X0_limitTo : GoodIn wsX7_setLimit wsX0_limitTo := goodIn_r _ [8, 9, 10, 11, 12, 7, 13, 14, 15, 16, 17, 18, 19, 20, 21, 22, 23, 29] (by decide +kernel) (by decide +kernel)
set_option maxRecDepth 20000 in
theorem gX7_setLimit_X0_limitTo : GoodIn wsX7_setLimit (wsV RX7 63 RX0 yX0_limitTo wsX0_limitTo) := goodIn_app (goodIn_of _ (by decide +kernel)) ggX7_setLimit_X0_limitTo
theorem dX7_setLimit_0 : decode cX7_setLimit 0 = .ok (.iload_n 1, 1) := by decide +kernel
theorem dX7_setLimit_1 : decode cX7_setLimit 1 = .ok (.ifCond .lt 9, 3) := by decide +kernel
theorem dX7_setLimit_4 : decode cX7_setLimit 4 = .ok (.iload_n 1, 1) := by decide +kernel
theorem dX7_setLimit_5 : decode cX7_setLimit 5 = .ok (.bipush 8, 2) := by decide +kernel
theorem dX7_setLimit_7 : decode cX7_setLimit 7 = .ok (.if_icmp .le 13, 3) := by decide +kernel
theorem dX7_setLimit_10 : decode cX7_setLimit 10 = .ok (.new 56, 3) := by decide +kernel
theorem dX7_setLimit_13 : decode cX7_setLimit 13 = .ok (.dup, 1) := by decide +kernel
theorem dX7_setLimit_14 : decode cX7_setLimit 14 = .ok (.ldc 58, 2) := by decide +kernel
theorem dX7_setLimit_16 : decode cX7_setLimit 16 = .ok (.invokespecial 60, 3) := by decide +kernel
theorem dX7_setLimit_19 : decode cX7_setLimit 19 = .ok (.athrow, 1) := by decide +kernel
theorem dX7_setLimit_20 : decode cX7_setLimit 20 = .ok (.aload_n 0, 1) := by decide +kernel
theorem dX7_setLimit_21 : decode cX7_setLimit 21 = .ok (.getfield 12, 3) := by decide +kernel
theorem dX7_setLimit_24 : decode cX7_setLimit 24 = .ok (.iload_n 1, 1) := by decide +kernel
theorem dX7_setLimit_25 : decode cX7_setLimit 25 = .ok (.invokevirtual 63, 3) := by decide +kernel
theorem dX7_setLimit_28 : decode cX7_setLimit 28 = .ok (.ireturn, 1) := by decide +kernel
set_option maxRecDepth 20000 in
theorem ggX7_grace_X3_isDraftFull : GoodIn wsX7_grace wsX3_isDraftFull := goodIn_r _ [10, 11, 22, 23, 24, 25] (by decide +kernel) (by decide +kernel)
set_option maxRecDepth 20000 in
theorem gX7_grace_X3_isDraftFull : GoodIn wsX7_grace (wsV RX7 69 RX3 yX3_isDraftFull wsX3_isDraftFull) := goodIn_app (goodIn_of _ (by decide +kernel)) ggX7_grace_X3_isDraftFull
set_option maxRecDepth 20000 in
theorem ggX7_grace_X3_addToDraft : GoodIn wsX7_grace wsX3_addToDraft := goodIn_r _ [15, 16, 11, 22, 23, 24, 25] (by decide +kernel) (by decide +kernel)
set_option maxRecDepth 20000 in
theorem gX7_grace_X3_addToDraft : GoodIn wsX7_grace (wsV RX7 78 RX3 yX3_addToDraft wsX3_addToDraft) := goodIn_app (goodIn_of _ (by decide +kernel)) ggX7_grace_X3_addToDraft
theorem dX7_grace_0 : decode cX7_grace 0 = .ok (.iload_n 1, 1) := by decide +kernel
theorem dX7_grace_1 : decode cX7_grace 1 = .ok (.ifCond .lt 9, 3) := by decide +kernel
theorem dX7_grace_4 : decode cX7_grace 4 = .ok (.iload_n 1, 1) := by decide +kernel
theorem dX7_grace_5 : decode cX7_grace 5 = .ok (.bipush 10, 2) := by decide +kernel
theorem dX7_grace_7 : decode cX7_grace 7 = .ok (.if_icmp .le 13, 3) := by decide +kernel
theorem dX7_grace_10 : decode cX7_grace 10 = .ok (.new 56, 3) := by decide +kernel
theorem dX7_grace_13 : decode cX7_grace 13 = .ok (.dup, 1) := by decide +kernel
theorem dX7_grace_14 : decode cX7_grace 14 = .ok (.ldc 67, 2) := by decide +kernel
theorem dX7_grace_16 : decode cX7_grace 16 = .ok (.invokespecial 60, 3) := by decide +kernel
theorem dX7_grace_19 : decode cX7_grace 19 = .ok (.athrow, 1) := by decide +kernel
theorem dX7_grace_20 : decode cX7_grace 20 = .ok (.aload_n 0, 1) := by decide +kernel
theorem dX7_grace_21 : decode cX7_grace 21 = .ok (.getfield 19, 3) := by decide +kernel
theorem dX7_grace_24 : decode cX7_grace 24 = .ok (.invokevirtual 69, 3) := by decide +kernel
theorem dX7_grace_27 : decode cX7_grace 27 = .ok (.ifCond .eq 13, 3) := by decide +kernel
theorem dX7_grace_30 : decode cX7_grace 30 = .ok (.new 73, 3) := by decide +kernel
theorem dX7_grace_33 : decode cX7_grace 33 = .ok (.dup, 1) := by decide +kernel
theorem dX7_grace_34 : decode cX7_grace 34 = .ok (.ldc 75, 2) := by decide +kernel
theorem dX7_grace_36 : decode cX7_grace 36 = .ok (.invokespecial 77, 3) := by decide +kernel
theorem dX7_grace_39 : decode cX7_grace 39 = .ok (.athrow, 1) := by decide +kernel
theorem dX7_grace_40 : decode cX7_grace 40 = .ok (.aload_n 0, 1) := by decide +kernel
theorem dX7_grace_41 : decode cX7_grace 41 = .ok (.getfield 19, 3) := by decide +kernel
theorem dX7_grace_44 : decode cX7_grace 44 = .ok (.iload_n 1, 1) := by decide +kernel
theorem dX7_grace_45 : decode cX7_grace 45 = .ok (.invokevirtual 78, 3) := by decide +kernel
theorem dX7_grace_48 : decode cX7_grace 48 = .ok (.ireturn, 1) := by decide +kernel
set_option maxRecDepth 20000 in
theorem ggX7_enter_X3_isDraftEmpty : GoodIn wsX7_enter wsX3_isDraftEmpty := goodIn_r _ [8, 9, 55, 56, 57, 58] (by decide +kernel) (by decide +kernel)
set_option maxRecDepth 20000 in
theorem gX7_enter_X3_isDraftEmpty : GoodIn wsX7_enter (wsV RX7 81 RX3 yX3_isDraftEmpty wsX3_isDraftEmpty) := goodIn_app (goodIn_of _ (by decide +kernel)) ggX7_enter_X3_isDraftEmpty
set_option maxRecDepth 20000 in
theorem ggX7_enter_X3_isFull : GoodIn wsX7_enter wsX3_isFull := goodIn_r _ [13, 14, 55, 56, 57, 58] (by decide +kernel) (by decide +kernel)
set_option maxRecDepth 20000 in
theorem gX7_enter_X3_isFull : GoodIn wsX7_enter (wsV RX7 84 RX3 yX3_isFull wsX3_isFull) := goodIn_app (goodIn_of _ (by decide +kernel)) ggX7_enter_X3_isFull
set_option maxRecDepth 20000 in
theorem ggX7_enter_X3_enterDraft : GoodIn wsX7_enter wsX3_enterDraft := goodIn_r _ [18, 19, 14, 20, 21, 22, 23, 9, 24, 25, 26, 27, 28, 29, 30, 31, 32, 33, 34, 35, 36, 37, 38, 39, 40, 41, 42, 43, 44, 45, 46, 47, 48, 49, 55, 56, 57, 58, 59] (by decide +kernel) (by decide +kernel)
set_option maxRecDepth 20000 in
theorem gX7_enter_X3_enterDraft : GoodIn wsX7_enter (wsV RX7 89 RX3 yX3_enterDraft wsX3_enterDraft) := goodIn_app (goodIn_of _ (by decide +kernel)) ggX7_enter_X3_enterDraft
theorem dX7_enter_0 : decode cX7_enter 0 = .ok (.aload_n 0, 1) := by decide +kernel
theorem dX7_enter_1 : decode cX7_enter 1 = .ok (.getfield 19, 3) := by decide +kernel
theorem dX7_enter_4 : decode cX7_enter 4 = .ok (.invokevirtual 81, 3) := by decide +kernel
theorem dX7_enter_7 : decode cX7_enter 7 = .ok (.ifCond .ne 13, 3) := by decide +kernel
theorem dX7_enter_10 : decode cX7_enter 10 = .ok (.aload_n 0, 1) := by decide +kernel
theorem dX7_enter_11 : decode cX7_enter 11 = .ok (.getfield 19, 3) := by decide +kernel
theorem dX7_enter_14 : decode cX7_enter 14 = .ok (.invokevirtual 84, 3) := by decide +kernel
theorem dX7_enter_17 : decode cX7_enter 17 = .ok (.ifCond .eq 13, 3) := by decide +kernel
theorem dX7_enter_20 : decode cX7_enter 20 = .ok (.new 73, 3) := by decide +kernel
theorem dX7_enter_23 : decode cX7_enter 23 = .ok (.dup, 1) := by decide +kernel
theorem dX7_enter_24 : decode cX7_enter 24 = .ok (.ldc 87, 2) := by decide +kernel
theorem dX7_enter_26 : decode cX7_enter 26 = .ok (.invokespecial 77, 3) := by decide +kernel
theorem dX7_enter_29 : decode cX7_enter 29 = .ok (.athrow, 1) := by decide +kernel
theorem dX7_enter_30 : decode cX7_enter 30 = .ok (.aload_n 0, 1) := by decide +kernel
theorem dX7_enter_31 : decode cX7_enter 31 = .ok (.getfield 19, 3) := by decide +kernel
theorem dX7_enter_34 : decode cX7_enter 34 = .ok (.invokevirtual 89, 3) := by decide +kernel
theorem dX7_enter_37 : decode cX7_enter 37 = .ok (.ireturn, 1) := by decide +kernel
set_option maxRecDepth 20000 in
theorem ggX7_ornaments_X3_size : GoodIn wsX7_ornaments wsX3_size := goodIn_r _ [6, 7, 13, 14, 15, 16] (by decide +kernel) (by decide +kernel)
set_option maxRecDepth 20000 in
theorem gX7_ornaments_X3_size : GoodIn wsX7_ornaments (wsV RX7 93 RX3 yX3_size wsX3_size) := goodIn_app (goodIn_of _ (by decide +kernel)) ggX7_ornaments_X3_size
theorem dX7_ornaments_0 : decode cX7_ornaments 0 = .ok (.aload_n 0, 1) := by decide +kernel
theorem dX7_ornaments_1 : decode cX7_ornaments 1 = .ok (.getfield 19, 3) := by decide +kernel
theorem dX7_ornaments_4 : decode cX7_ornaments 4 = .ok (.invokevirtual 93, 3) := by decide +kernel
theorem dX7_ornaments_7 : decode cX7_ornaments 7 = .ok (.ireturn, 1) := by decide +kernel
set_option maxRecDepth 20000 in
theorem ggX7_addNote_X7_checkTune : GoodIn wsX7_addNote wsX7_checkTune := goodIn_ca (goodIn_r _ [7, 8, 9] (by decide +kernel) (by decide +kernel)) (goodIn_sub (fun _ h => List.mem_cons_of_mem _ (List.mem_append_right _ h)) (by decide +kernel))
set_option maxRecDepth 20000 in
theorem gX7_addNote_X7_checkTune : GoodIn wsX7_addNote (va_wsS RX7 109 yX7_checkTune wsX7_checkTune) := goodIn_app (goodIn_of _ (by decide +kernel)) ggX7_addNote_X7_checkTune
set_option maxRecDepth 20000 in
theorem ggX7_addNote_X7_checkPitch : GoodIn wsX7_addNote wsX7_checkPitch := goodIn_ca (goodIn_r _ [12, 8, 9] (by decide +kernel) (by decide +kernel)) (goodIn_sub (fun _ h => List.mem_cons_of_mem _ (List.mem_append_right _ h)) (by decide +kernel))
set_option maxRecDepth 20000 in
theorem gX7_addNote_X7_checkPitch : GoodIn wsX7_addNote (va_wsS RX7 44 yX7_checkPitch wsX7_checkPitch) := goodIn_app (goodIn_of _ (by decide +kernel)) ggX7_addNote_X7_checkPitch
set_option maxRecDepth 20000 in
theorem ggX7_addNote_X7_checkLength : GoodIn wsX7_addNote wsX7_checkLength := goodIn_ca (goodIn_r _ [15, 8, 9] (by decide +kernel) (by decide +kernel)) (goodIn_sub (fun _ h => List.mem_cons_of_mem _ (List.mem_append_right _ h)) (by decide +kernel))
set_option maxRecDepth 20000 in
theorem gX7_addNote_X7_checkLength : GoodIn wsX7_addNote (va_wsS RX7 101 yX7_checkLength wsX7_checkLength) := goodIn_app (goodIn_of _ (by decide +kernel)) ggX7_addNote_X7_checkLength
set_option maxRecDepth 20000 in
theorem ggX7_addNote_X5_size : GoodIn wsX7_addNote wsX5_size := goodIn_r _ [20, 21, 34, 35, 36, 37, 38] (by decide +kernel) (by decide +kernel)
set_option maxRecDepth 20000 in
theorem gX7_addNote_X5_size : GoodIn wsX7_addNote (wsV RX7 112 RX5 yX5_size wsX5_size) := goodIn_app (goodIn_of _ (by decide +kernel)) ggX7_addNote_X5_size
set_option maxRecDepth 20000 in
theorem ggX7_addNote_X5_append : GoodIn wsX7_addNote wsX5_append := goodIn_r _ [25, 21, 26, 27, 28, 34, 35, 36, 37, 38] (by decide +kernel) (by decide +kernel)
set_option maxRecDepth 20000 in
theorem gX7_addNote_X5_append : GoodIn wsX7_addNote (wsV RX7 115 RX5 yX5_append wsX5_append) := goodIn_app (goodIn_of _ (by decide +kernel)) ggX7_addNote_X5_append
theorem dX7_addNote_0 : decode cX7_addNote 0 = .ok (.iload_n 1, 1) := by decide +kernel
theorem dX7_addNote_1 : decode cX7_addNote 1 = .ok (.invokestatic 109, 3) := by decide +kernel
theorem dX7_addNote_4 : decode cX7_addNote 4 = .ok (.iload_n 2, 1) := by decide +kernel
theorem dX7_addNote_5 : decode cX7_addNote 5 = .ok (.invokestatic 44, 3) := by decide +kernel
theorem dX7_addNote_8 : decode cX7_addNote 8 = .ok (.iload_n 3, 1) := by decide +kernel
theorem dX7_addNote_9 : decode cX7_addNote 9 = .ok (.invokestatic 101, 3) := by decide +kernel
theorem dX7_addNote_12 : decode cX7_addNote 12 = .ok (.aload_n 0, 1) := by decide +kernel
theorem dX7_addNote_13 : decode cX7_addNote 13 = .ok (.getfield 25, 3) := by decide +kernel
theorem dX7_addNote_16 : decode cX7_addNote 16 = .ok (.iload_n 1, 1) := by decide +kernel
theorem dX7_addNote_17 : decode cX7_addNote 17 = .ok (.aaload, 1) := by decide +kernel
theorem dX7_addNote_18 : decode cX7_addNote 18 = .ok (.invokevirtual 112, 3) := by decide +kernel
theorem dX7_addNote_21 : decode cX7_addNote 21 = .ok (.bipush 10, 2) := by decide +kernel
theorem dX7_addNote_23 : decode cX7_addNote 23 = .ok (.if_icmp .lt 13, 3) := by decide +kernel
theorem dX7_addNote_26 : decode cX7_addNote 26 = .ok (.new 73, 3) := by decide +kernel
theorem dX7_addNote_29 : decode cX7_addNote 29 = .ok (.dup, 1) := by decide +kernel
theorem dX7_addNote_30 : decode cX7_addNote 30 = .ok (.ldc 113, 2) := by decide +kernel
theorem dX7_addNote_32 : decode cX7_addNote 32 = .ok (.invokespecial 77, 3) := by decide +kernel
theorem dX7_addNote_35 : decode cX7_addNote 35 = .ok (.athrow, 1) := by decide +kernel
theorem dX7_addNote_36 : decode cX7_addNote 36 = .ok (.aload_n 0, 1) := by decide +kernel
theorem dX7_addNote_37 : decode cX7_addNote 37 = .ok (.getfield 25, 3) := by decide +kernel
theorem dX7_addNote_40 : decode cX7_addNote 40 = .ok (.iload_n 1, 1) := by decide +kernel
theorem dX7_addNote_41 : decode cX7_addNote 41 = .ok (.aaload, 1) := by decide +kernel
theorem dX7_addNote_42 : decode cX7_addNote 42 = .ok (.iload_n 2, 1) := by decide +kernel
theorem dX7_addNote_43 : decode cX7_addNote 43 = .ok (.iload_n 3, 1) := by decide +kernel
theorem dX7_addNote_44 : decode cX7_addNote 44 = .ok (.invokevirtual 115, 3) := by decide +kernel
theorem dX7_addNote_47 : decode cX7_addNote 47 = .ok (.ireturn, 1) := by decide +kernel
set_option maxRecDepth 20000 in
theorem ggX7_removeNote_X7_checkTune : GoodIn wsX7_removeNote wsX7_checkTune := goodIn_ca (goodIn_r _ [7, 8, 9] (by decide +kernel) (by decide +kernel)) (goodIn_sub (fun _ h => List.mem_cons_of_mem _ (List.mem_append_right _ h)) (by decide +kernel))
set_option maxRecDepth 20000 in
theorem gX7_removeNote_X7_checkTune : GoodIn wsX7_removeNote (va_wsS RX7 109 yX7_checkTune wsX7_checkTune) := goodIn_app (goodIn_of _ (by decide +kernel)) ggX7_removeNote_X7_checkTune
set_option maxRecDepth 20000 in
theorem ggX7_removeNote_X5_size : GoodIn wsX7_removeNote wsX5_size := goodIn_r _ [14, 15, 26, 27, 28, 29, 30] (by decide +kernel) (by decide +kernel)
set_option maxRecDepth 20000 in
theorem gX7_removeNote_X5_size : GoodIn wsX7_removeNote (wsV RX7 112 RX5 yX5_size wsX5_size) := goodIn_app (goodIn_of _ (by decide +kernel)) ggX7_removeNote_X5_size
set_option maxRecDepth 20000 in
theorem ggX7_removeNote_X5_dropLast : GoodIn wsX7_removeNote wsX5_dropLast := goodIn_r _ [19, 15, 20, 26, 27, 28, 29, 30] (by decide +kernel) (by decide +kernel)
set_option maxRecDepth 20000 in
theorem gX7_removeNote_X5_dropLast : GoodIn wsX7_removeNote (wsV RX7 123 RX5 yX5_dropLast wsX5_dropLast) := goodIn_app (goodIn_of _ (by decide +kernel)) ggX7_removeNote_X5_dropLast
theorem dX7_removeNote_0 : decode cX7_removeNote 0 = .ok (.iload_n 1, 1) := by decide +kernel
theorem dX7_removeNote_1 : decode cX7_removeNote 1 = .ok (.invokestatic 109, 3) := by decide +kernel
theorem dX7_removeNote_4 : decode cX7_removeNote 4 = .ok (.aload_n 0, 1) := by decide +kernel
theorem dX7_removeNote_5 : decode cX7_removeNote 5 = .ok (.getfield 25, 3) := by decide +kernel
theorem dX7_removeNote_8 : decode cX7_removeNote 8 = .ok (.iload_n 1, 1) := by decide +kernel
theorem dX7_removeNote_9 : decode cX7_removeNote 9 = .ok (.aaload, 1) := by decide +kernel
theorem dX7_removeNote_10 : decode cX7_removeNote 10 = .ok (.invokevirtual 112, 3) := by decide +kernel
theorem dX7_removeNote_13 : decode cX7_removeNote 13 = .ok (.ifCond .ne 13, 3) := by decide +kernel
theorem dX7_removeNote_16 : decode cX7_removeNote 16 = .ok (.new 118, 3) := by decide +kernel
theorem dX7_removeNote_19 : decode cX7_removeNote 19 = .ok (.dup, 1) := by decide +kernel
theorem dX7_removeNote_20 : decode cX7_removeNote 20 = .ok (.ldc 120, 2) := by decide +kernel
theorem dX7_removeNote_22 : decode cX7_removeNote 22 = .ok (.invokespecial 122, 3) := by decide +kernel
theorem dX7_removeNote_25 : decode cX7_removeNote 25 = .ok (.athrow, 1) := by decide +kernel
theorem dX7_removeNote_26 : decode cX7_removeNote 26 = .ok (.aload_n 0, 1) := by decide +kernel
theorem dX7_removeNote_27 : decode cX7_removeNote 27 = .ok (.getfield 25, 3) := by decide +kernel
theorem dX7_removeNote_30 : decode cX7_removeNote 30 = .ok (.iload_n 1, 1) := by decide +kernel
theorem dX7_removeNote_31 : decode cX7_removeNote 31 = .ok (.aaload, 1) := by decide +kernel
theorem dX7_removeNote_32 : decode cX7_removeNote 32 = .ok (.invokevirtual 123, 3) := by decide +kernel
theorem dX7_removeNote_35 : decode cX7_removeNote 35 = .ok (.ireturn, 1) := by decide +kernel
set_option maxRecDepth 20000 in
theorem ggX7_setWish_X7_checkTune : GoodIn wsX7_setWish wsX7_checkTune := goodIn_ca (goodIn_r _ [5, 6, 7] (by decide +kernel) (by decide +kernel)) (goodIn_sub (fun _ h => List.mem_cons_of_mem _ (List.mem_append_left _ (List.mem_append_right _ h))) (by decide +kernel))
set_option maxRecDepth 20000 in
theorem gX7_setWish_X7_checkTune : GoodIn wsX7_setWish (va_wsS RX7 109 yX7_checkTune wsX7_checkTune) := goodIn_app (goodIn_of _ (by decide +kernel)) ggX7_setWish_X7_checkTune
set_option maxRecDepth 20000 in
theorem ggX7_setWish_X7_checkGap : GoodIn wsX7_setWish wsX7_checkGap := goodIn_ca (goodIn_r _ [11, 12, 13, 1, 14, 15, 16, 17, 18, 19, 25, 26, 27, 28, 29, 30, 31, 32, 33, 34] (by decide +kernel) (by decide +kernel)) (goodIn_sub (fun _ h => List.mem_cons_of_mem _ (List.mem_append_right _ h)) (by decide +kernel))
set_option maxRecDepth 20000 in
theorem gX7_setWish_X7_checkGap : GoodIn wsX7_setWish (wsV RX7 126 RX7 yX7_checkGap wsX7_checkGap) := goodIn_app (goodIn_of _ (by decide +kernel)) ggX7_setWish_X7_checkGap
set_option maxRecDepth 20000 in
theorem ggX7_setWish_X5_replaceWish : GoodIn wsX7_setWish wsX5_replaceWish := goodIn_r _ [23, 24, 30, 31, 32, 33, 34] (by decide +kernel) (by decide +kernel)
set_option maxRecDepth 20000 in
theorem gX7_setWish_X5_replaceWish : GoodIn wsX7_setWish (wsV RX7 130 RX5 yX5_replaceWish wsX5_replaceWish) := goodIn_app (goodIn_of _ (by decide +kernel)) ggX7_setWish_X5_replaceWish
theorem dX7_setWish_0 : decode cX7_setWish 0 = .ok (.iload_n 1, 1) := by decide +kernel
theorem dX7_setWish_1 : decode cX7_setWish 1 = .ok (.invokestatic 109, 3) := by decide +kernel
theorem dX7_setWish_4 : decode cX7_setWish 4 = .ok (.aload_n 0, 1) := by decide +kernel
theorem dX7_setWish_5 : decode cX7_setWish 5 = .ok (.iload_n 1, 1) := by decide +kernel
theorem dX7_setWish_6 : decode cX7_setWish 6 = .ok (.iload_n 2, 1) := by decide +kernel
theorem dX7_setWish_7 : decode cX7_setWish 7 = .ok (.invokevirtual 126, 3) := by decide +kernel
theorem dX7_setWish_10 : decode cX7_setWish 10 = .ok (.aload_n 0, 1) := by decide +kernel
theorem dX7_setWish_11 : decode cX7_setWish 11 = .ok (.getfield 25, 3) := by decide +kernel
theorem dX7_setWish_14 : decode cX7_setWish 14 = .ok (.iload_n 1, 1) := by decide +kernel
theorem dX7_setWish_15 : decode cX7_setWish 15 = .ok (.aaload, 1) := by decide +kernel
theorem dX7_setWish_16 : decode cX7_setWish 16 = .ok (.iload_n 2, 1) := by decide +kernel
theorem dX7_setWish_17 : decode cX7_setWish 17 = .ok (.iload_n 3, 1) := by decide +kernel
theorem dX7_setWish_18 : decode cX7_setWish 18 = .ok (.invokevirtual 130, 3) := by decide +kernel
theorem dX7_setWish_21 : decode cX7_setWish 21 = .ok (.ireturn, 1) := by decide +kernel
set_option maxRecDepth 20000 in
theorem ggX7_notes_X7_checkTune : GoodIn wsX7_notes wsX7_checkTune := goodIn_ca (goodIn_r _ [5, 6, 7] (by decide +kernel) (by decide +kernel)) (goodIn_sub (fun _ h => List.mem_cons_of_mem _ (List.mem_append_right _ h)) (by decide +kernel))
set_option maxRecDepth 20000 in
theorem gX7_notes_X7_checkTune : GoodIn wsX7_notes (va_wsS RX7 109 yX7_checkTune wsX7_checkTune) := goodIn_app (goodIn_of _ (by decide +kernel)) ggX7_notes_X7_checkTune
set_option maxRecDepth 20000 in
theorem ggX7_notes_X5_size : GoodIn wsX7_notes wsX5_size := goodIn_r _ [12, 13, 19, 20, 21, 22, 23] (by decide +kernel) (by decide +kernel)
set_option maxRecDepth 20000 in
theorem gX7_notes_X5_size : GoodIn wsX7_notes (wsV RX7 112 RX5 yX5_size wsX5_size) := goodIn_app (goodIn_of _ (by decide +kernel)) ggX7_notes_X5_size
theorem dX7_notes_0 : decode cX7_notes 0 = .ok (.iload_n 1, 1) := by decide +kernel
theorem dX7_notes_1 : decode cX7_notes 1 = .ok (.invokestatic 109, 3) := by decide +kernel
theorem dX7_notes_4 : decode cX7_notes 4 = .ok (.aload_n 0, 1) := by decide +kernel
theorem dX7_notes_5 : decode cX7_notes 5 = .ok (.getfield 25, 3) := by decide +kernel
theorem dX7_notes_8 : decode cX7_notes 8 = .ok (.iload_n 1, 1) := by decide +kernel
theorem dX7_notes_9 : decode cX7_notes 9 = .ok (.aaload, 1) := by decide +kernel
theorem dX7_notes_10 : decode cX7_notes 10 = .ok (.invokevirtual 112, 3) := by decide +kernel
theorem dX7_notes_13 : decode cX7_notes 13 = .ok (.ireturn, 1) := by decide +kernel
set_option maxRecDepth 20000 in
theorem ggX7_time_X7_checkTune : GoodIn wsX7_time wsX7_checkTune := goodIn_ca (goodIn_r _ [9, 10, 11] (by decide +kernel) (by decide +kernel)) (goodIn_sub (fun _ h => List.mem_cons_of_mem _ (List.mem_append_left _ (List.mem_append_right _ h))) (by decide +kernel))
set_option maxRecDepth 20000 in
theorem gX7_time_X7_checkTune : GoodIn wsX7_time (va_wsS RX7 109 yX7_checkTune wsX7_checkTune) := goodIn_app (goodIn_of _ (by decide +kernel)) ggX7_time_X7_checkTune
set_option maxRecDepth 20000 in
theorem ggX7_time_X5_size : GoodIn wsX7_time wsX5_size := goodIn_r _ [16, 17, 127, 128, 129, 130, 131] (by decide +kernel) (by decide +kernel)
set_option maxRecDepth 20000 in
theorem gX7_time_X5_size : GoodIn wsX7_time (wsV RX7 112 RX5 yX5_size wsX5_size) := goodIn_app (goodIn_of _ (by decide +kernel)) ggX7_time_X5_size
set_option maxRecDepth 20000 in
theorem ggX7_time_X7_solve : GoodIn wsX7_time wsX7_solve := goodIn_ca (goodIn_r _ [21, 22, 23, 3, 24, 4, 5, 25, 26, 27, 28, 15, 29, 17, 30, 31, 32, 33, 34, 35, 36, 37, 38, 39, 40, 41, 42, 43, 44, 45, 46, 47, 48, 49, 50, 51, 52, 53, 54, 55, 56, 57, 58, 59, 60, 61, 62, 63, 64, 65, 66, 67, 68, 69, 70, 71, 72, 73, 74, 75, 76, 77, 78, 79, 80, 81, 82, 83, 84, 85, 86, 87, 88, 89, 90, 91, 92, 93, 94, 95, 96, 97, 98, 99, 100, 101, 102, 103, 122, 123, 124, 125, 126, 127, 128, 129, 130, 131, 132, 133, 134, 135, 136, 137, 138, 139, 140, 141, 142] (by decide +kernel) (by decide +kernel)) (goodIn_sub (fun _ h => List.mem_cons_of_mem _ (List.mem_append_right _ h)) (by decide +kernel))
set_option maxRecDepth 20000 in
theorem gX7_time_X7_solve : GoodIn wsX7_time (wsV RX7 136 RX7 yX7_solve wsX7_solve) := goodIn_app (goodIn_of _ (by decide +kernel)) ggX7_time_X7_solve
set_option maxRecDepth 20000 in
theorem ggX7_time_X5_lengthOf : GoodIn wsX7_time wsX5_lengthOf := goodIn_r _ [107, 31, 127, 128, 129, 130, 131] (by decide +kernel) (by decide +kernel)
set_option maxRecDepth 20000 in
theorem gX7_time_X5_lengthOf : GoodIn wsX7_time (wsV RX7 139 RX5 yX5_lengthOf wsX5_lengthOf) := goodIn_app (goodIn_of _ (by decide +kernel)) ggX7_time_X5_lengthOf
set_option maxRecDepth 20000 in
theorem ggX7_time_X5_gaps : GoodIn wsX7_time wsX5_gaps := goodIn_r _ [75, 17, 127, 128, 129, 130, 131] (by decide +kernel) (by decide +kernel)
set_option maxRecDepth 20000 in
theorem gX7_time_X5_gaps : GoodIn wsX7_time (wsV RX7 142 RX5 yX5_gaps wsX5_gaps) := goodIn_app (goodIn_of _ (by decide +kernel)) ggX7_time_X5_gaps
set_option maxRecDepth 20000 in
theorem ggX7_time_X6_firstAt : GoodIn wsX7_time wsX6_firstAt := goodIn_r _ [112, 71, 113, 97, 98, 79, 99, 81, 138, 139, 140, 141, 142] (by decide +kernel) (by decide +kernel)
set_option maxRecDepth 20000 in
theorem gX7_time_X6_firstAt : GoodIn wsX7_time (wsV RX7 145 RX6 yX6_firstAt wsX6_firstAt) := goodIn_app (goodIn_of _ (by decide +kernel)) ggX7_time_X6_firstAt
set_option maxRecDepth 20000 in
theorem ggX7_time_X3_gracesOf : GoodIn wsX7_time wsX3_gracesOf := goodIn_r _ [117, 50, 118, 119, 120, 54, 121, 56, 133, 134, 135, 136, 137] (by decide +kernel) (by decide +kernel)
set_option maxRecDepth 20000 in
theorem gX7_time_X3_gracesOf : GoodIn wsX7_time (wsV RX7 148 RX3 yX3_gracesOf wsX3_gracesOf) := goodIn_app (goodIn_of _ (by decide +kernel)) ggX7_time_X3_gracesOf
theorem dX7_time_0 : decode cX7_time 0 = .ok (.iload_n 1, 1) := by decide +kernel
theorem dX7_time_1 : decode cX7_time 1 = .ok (.invokestatic 109, 3) := by decide +kernel
theorem dX7_time_4 : decode cX7_time 4 = .ok (.iload_n 2, 1) := by decide +kernel
theorem dX7_time_5 : decode cX7_time 5 = .ok (.ifCond .lt 16, 3) := by decide +kernel
theorem dX7_time_8 : decode cX7_time 8 = .ok (.iload_n 2, 1) := by decide +kernel
theorem dX7_time_9 : decode cX7_time 9 = .ok (.aload_n 0, 1) := by decide +kernel
theorem dX7_time_10 : decode cX7_time 10 = .ok (.getfield 25, 3) := by decide +kernel
theorem dX7_time_13 : decode cX7_time 13 = .ok (.iload_n 1, 1) := by decide +kernel
theorem dX7_time_14 : decode cX7_time 14 = .ok (.aaload, 1) := by decide +kernel
theorem dX7_time_15 : decode cX7_time 15 = .ok (.invokevirtual 112, 3) := by decide +kernel
theorem dX7_time_18 : decode cX7_time 18 = .ok (.if_icmp .lt 13, 3) := by decide +kernel
theorem dX7_time_21 : decode cX7_time 21 = .ok (.new 96, 3) := by decide +kernel
theorem dX7_time_24 : decode cX7_time 24 = .ok (.dup, 1) := by decide +kernel
theorem dX7_time_25 : decode cX7_time 25 = .ok (.ldc 134, 2) := by decide +kernel
theorem dX7_time_27 : decode cX7_time 27 = .ok (.invokespecial 100, 3) := by decide +kernel
theorem dX7_time_30 : decode cX7_time 30 = .ok (.athrow, 1) := by decide +kernel
theorem dX7_time_31 : decode cX7_time 31 = .ok (.aload_n 0, 1) := by decide +kernel
theorem dX7_time_32 : decode cX7_time 32 = .ok (.iload_n 1, 1) := by decide +kernel
theorem dX7_time_33 : decode cX7_time 33 = .ok (.invokevirtual 136, 3) := by decide +kernel
theorem dX7_time_36 : decode cX7_time 36 = .ok (.pop, 1) := by decide +kernel
theorem dX7_time_37 : decode cX7_time 37 = .ok (.aload_n 0, 1) := by decide +kernel
theorem dX7_time_38 : decode cX7_time 38 = .ok (.getfield 25, 3) := by decide +kernel
theorem dX7_time_41 : decode cX7_time 41 = .ok (.iload_n 1, 1) := by decide +kernel
theorem dX7_time_42 : decode cX7_time 42 = .ok (.aaload, 1) := by decide +kernel
theorem dX7_time_43 : decode cX7_time 43 = .ok (.iload_n 2, 1) := by decide +kernel
theorem dX7_time_44 : decode cX7_time 44 = .ok (.invokevirtual 139, 3) := by decide +kernel
theorem dX7_time_47 : decode cX7_time 47 = .ok (.istore_n 3, 1) := by decide +kernel
theorem dX7_time_48 : decode cX7_time 48 = .ok (.iload_n 2, 1) := by decide +kernel
theorem dX7_time_49 : decode cX7_time 49 = .ok (.aload_n 0, 1) := by decide +kernel
theorem dX7_time_50 : decode cX7_time 50 = .ok (.getfield 25, 3) := by decide +kernel
theorem dX7_time_53 : decode cX7_time 53 = .ok (.iload_n 1, 1) := by decide +kernel
theorem dX7_time_54 : decode cX7_time 54 = .ok (.aaload, 1) := by decide +kernel
theorem dX7_time_55 : decode cX7_time 55 = .ok (.invokevirtual 142, 3) := by decide +kernel
theorem dX7_time_58 : decode cX7_time 58 = .ok (.if_icmp .ge 23, 3) := by decide +kernel
theorem dX7_time_61 : decode cX7_time 61 = .ok (.iload_n 3, 1) := by decide +kernel
theorem dX7_time_62 : decode cX7_time 62 = .ok (.aload_n 0, 1) := by decide +kernel
theorem dX7_time_63 : decode cX7_time 63 = .ok (.getfield 19, 3) := by decide +kernel
theorem dX7_time_66 : decode cX7_time 66 = .ok (.aload_n 0, 1) := by decide +kernel
theorem dX7_time_67 : decode cX7_time 67 = .ok (.getfield 33, 3) := by decide +kernel
theorem dX7_time_70 : decode cX7_time 70 = .ok (.iload_n 2, 1) := by decide +kernel
theorem dX7_time_71 : decode cX7_time 71 = .ok (.invokevirtual 145, 3) := by decide +kernel
theorem dX7_time_74 : decode cX7_time 74 = .ok (.invokevirtual 148, 3) := by decide +kernel
theorem dX7_time_77 : decode cX7_time 77 = .ok (.isub, 1) := by decide +kernel
theorem dX7_time_78 : decode cX7_time 78 = .ok (.goto 4, 3) := by decide +kernel
theorem dX7_time_81 : decode cX7_time 81 = .ok (.iload_n 3, 1) := by decide +kernel
theorem dX7_time_82 : decode cX7_time 82 = .ok (.ireturn, 1) := by decide +kernel
set_option maxRecDepth 20000 in
theorem ggX7_fitting_X7_checkTune : GoodIn wsX7_fitting wsX7_checkTune := goodIn_ca (goodIn_r _ [8, 9, 10] (by decide +kernel) (by decide +kernel)) (goodIn_sub (fun _ h => List.mem_cons_of_mem _ (List.mem_append_left _ (List.mem_append_right _ h))) (by decide +kernel))
set_option maxRecDepth 20000 in
theorem gX7_fitting_X7_checkTune : GoodIn wsX7_fitting (va_wsS RX7 109 yX7_checkTune wsX7_checkTune) := goodIn_app (goodIn_of _ (by decide +kernel)) ggX7_fitting_X7_checkTune
set_option maxRecDepth 20000 in
theorem ggX7_fitting_X7_checkGap : GoodIn wsX7_fitting wsX7_checkGap := goodIn_ca (goodIn_r _ [14, 15, 16, 1, 17, 18, 19, 20, 21, 22, 67, 68, 69, 70, 71, 72, 73, 74, 75, 76] (by decide +kernel) (by decide +kernel)) (goodIn_sub (fun _ h => List.mem_cons_of_mem _ (List.mem_append_right _ h)) (by decide +kernel))
set_option maxRecDepth 20000 in
theorem gX7_fitting_X7_checkGap : GoodIn wsX7_fitting (wsV RX7 126 RX7 yX7_checkGap wsX7_checkGap) := goodIn_app (goodIn_of _ (by decide +kernel)) ggX7_fitting_X7_checkGap
set_option maxRecDepth 20000 in
theorem ggX7_fitting_X5_weighGaps : GoodIn wsX7_fitting wsX5_weighGaps := goodIn_r _ [26, 22, 27, 28, 29, 30, 31, 32, 33, 34, 35, 36, 37, 38, 39, 40, 41, 42, 43, 44, 45, 46, 47, 48, 49, 50, 51, 52, 53, 54, 55, 56, 57, 58, 59, 60, 61, 62, 72, 73, 74, 75, 76, 77, 78, 79, 80, 81, 82] (by decide +kernel) (by decide +kernel)
set_option maxRecDepth 20000 in
theorem gX7_fitting_X5_weighGaps : GoodIn wsX7_fitting (wsV RX7 151 RX5 yX5_weighGaps wsX5_weighGaps) := goodIn_app (goodIn_of _ (by decide +kernel)) ggX7_fitting_X5_weighGaps
set_option maxRecDepth 20000 in
theorem ggX7_fitting_X5_costsAt : GoodIn wsX7_fitting wsX5_costsAt := goodIn_r _ [66, 30, 72, 73, 74, 75, 76] (by decide +kernel) (by decide +kernel)
set_option maxRecDepth 20000 in
theorem gX7_fitting_X5_costsAt : GoodIn wsX7_fitting (wsV RX7 155 RX5 yX5_costsAt wsX5_costsAt) := goodIn_app (goodIn_of _ (by decide +kernel)) ggX7_fitting_X5_costsAt
theorem dX7_fitting_0 : decode cX7_fitting 0 = .ok (.iload_n 1, 1) := by decide +kernel
theorem dX7_fitting_1 : decode cX7_fitting 1 = .ok (.invokestatic 109, 3) := by decide +kernel
theorem dX7_fitting_4 : decode cX7_fitting 4 = .ok (.aload_n 0, 1) := by decide +kernel
theorem dX7_fitting_5 : decode cX7_fitting 5 = .ok (.iload_n 1, 1) := by decide +kernel
theorem dX7_fitting_6 : decode cX7_fitting 6 = .ok (.iload_n 2, 1) := by decide +kernel
theorem dX7_fitting_7 : decode cX7_fitting 7 = .ok (.invokevirtual 126, 3) := by decide +kernel
theorem dX7_fitting_10 : decode cX7_fitting 10 = .ok (.aload_n 0, 1) := by decide +kernel
theorem dX7_fitting_11 : decode cX7_fitting 11 = .ok (.getfield 25, 3) := by decide +kernel
theorem dX7_fitting_14 : decode cX7_fitting 14 = .ok (.iload_n 1, 1) := by decide +kernel
theorem dX7_fitting_15 : decode cX7_fitting 15 = .ok (.aaload, 1) := by decide +kernel
theorem dX7_fitting_16 : decode cX7_fitting 16 = .ok (.aload_n 0, 1) := by decide +kernel
theorem dX7_fitting_17 : decode cX7_fitting 17 = .ok (.getfield 12, 3) := by decide +kernel
theorem dX7_fitting_20 : decode cX7_fitting 20 = .ok (.aload_n 0, 1) := by decide +kernel
theorem dX7_fitting_21 : decode cX7_fitting 21 = .ok (.getfield 19, 3) := by decide +kernel
theorem dX7_fitting_24 : decode cX7_fitting 24 = .ok (.invokevirtual 151, 3) := by decide +kernel
theorem dX7_fitting_27 : decode cX7_fitting 27 = .ok (.aload_n 0, 1) := by decide +kernel
theorem dX7_fitting_28 : decode cX7_fitting 28 = .ok (.getfield 25, 3) := by decide +kernel
theorem dX7_fitting_31 : decode cX7_fitting 31 = .ok (.iload_n 1, 1) := by decide +kernel
theorem dX7_fitting_32 : decode cX7_fitting 32 = .ok (.aaload, 1) := by decide +kernel
theorem dX7_fitting_33 : decode cX7_fitting 33 = .ok (.iload_n 2, 1) := by decide +kernel
theorem dX7_fitting_34 : decode cX7_fitting 34 = .ok (.invokevirtual 155, 3) := by decide +kernel
theorem dX7_fitting_37 : decode cX7_fitting 37 = .ok (.astore_n 3, 1) := by decide +kernel
theorem dX7_fitting_38 : decode cX7_fitting 38 = .ok (.iconst 0, 1) := by decide +kernel
theorem dX7_fitting_39 : decode cX7_fitting 39 = .ok (.istore 4, 2) := by decide +kernel
theorem dX7_fitting_41 : decode cX7_fitting 41 = .ok (.iconst 1, 1) := by decide +kernel
theorem dX7_fitting_42 : decode cX7_fitting 42 = .ok (.istore 5, 2) := by decide +kernel
theorem dX7_fitting_44 : decode cX7_fitting 44 = .ok (.iload 5, 2) := by decide +kernel
theorem dX7_fitting_46 : decode cX7_fitting 46 = .ok (.bipush 9, 2) := by decide +kernel
theorem dX7_fitting_48 : decode cX7_fitting 48 = .ok (.if_icmp .ge 21, 3) := by decide +kernel
theorem dX7_fitting_51 : decode cX7_fitting 51 = .ok (.aload_n 3, 1) := by decide +kernel
theorem dX7_fitting_52 : decode cX7_fitting 52 = .ok (.iload 5, 2) := by decide +kernel
theorem dX7_fitting_54 : decode cX7_fitting 54 = .ok (.iaload, 1) := by decide +kernel
theorem dX7_fitting_55 : decode cX7_fitting 55 = .ok (.ldc 108, 2) := by decide +kernel
theorem dX7_fitting_57 : decode cX7_fitting 57 = .ok (.if_icmp .ge 6, 3) := by decide +kernel
theorem dX7_fitting_60 : decode cX7_fitting 60 = .ok (.iinc 4 1, 3) := by decide +kernel
theorem dX7_fitting_63 : decode cX7_fitting 63 = .ok (.iinc 5 1, 3) := by decide +kernel
theorem dX7_fitting_66 : decode cX7_fitting 66 = .ok (.goto (-22), 3) := by decide +kernel
theorem dX7_fitting_69 : decode cX7_fitting 69 = .ok (.iload 4, 2) := by decide +kernel
theorem dX7_fitting_71 : decode cX7_fitting 71 = .ok (.ireturn, 1) := by decide +kernel
set_option maxRecDepth 20000 in
theorem ggX7_choices_X7_checkTune : GoodIn wsX7_choices wsX7_checkTune := goodIn_ca (goodIn_r _ [8, 9, 10] (by decide +kernel) (by decide +kernel)) (goodIn_sub (fun _ h => List.mem_cons_of_mem _ (List.mem_append_right _ h)) (by decide +kernel))
set_option maxRecDepth 20000 in
theorem gX7_choices_X7_checkTune : GoodIn wsX7_choices (va_wsS RX7 109 yX7_checkTune wsX7_checkTune) := goodIn_app (goodIn_of _ (by decide +kernel)) ggX7_choices_X7_checkTune
set_option maxRecDepth 20000 in
theorem ggX7_choices_X5_weighGaps : GoodIn wsX7_choices wsX5_weighGaps := goodIn_r _ [15, 16, 17, 18, 19, 20, 21, 22, 23, 24, 25, 26, 27, 28, 29, 30, 31, 32, 33, 34, 35, 36, 37, 38, 39, 40, 41, 42, 43, 44, 45, 46, 47, 48, 49, 50, 51, 52, 81, 82, 83, 84, 85, 86, 87, 88, 89, 90, 91] (by decide +kernel) (by decide +kernel)
set_option maxRecDepth 20000 in
theorem gX7_choices_X5_weighGaps : GoodIn wsX7_choices (wsV RX7 151 RX5 yX5_weighGaps wsX5_weighGaps) := goodIn_app (goodIn_of _ (by decide +kernel)) ggX7_choices_X5_weighGaps
set_option maxRecDepth 20000 in
theorem ggX7_choices_X6_countFor : GoodIn wsX7_choices wsX6_countFor := goodIn_r _ [57, 58, 59, 60, 61, 62, 63, 64, 65, 14, 66, 16, 67, 68, 69, 70, 20, 71, 72, 73, 56, 74, 75, 92, 93, 94, 95, 81, 82, 83, 84, 85] (by decide +kernel) (by decide +kernel)
set_option maxRecDepth 20000 in
theorem gX7_choices_X6_countFor : GoodIn wsX7_choices (wsV RX7 159 RX6 yX6_countFor wsX6_countFor) := goodIn_app (goodIn_of _ (by decide +kernel)) ggX7_choices_X6_countFor
theorem dX7_choices_0 : decode cX7_choices 0 = .ok (.iload_n 1, 1) := by decide +kernel
theorem dX7_choices_1 : decode cX7_choices 1 = .ok (.invokestatic 109, 3) := by decide +kernel
theorem dX7_choices_4 : decode cX7_choices 4 = .ok (.aload_n 0, 1) := by decide +kernel
theorem dX7_choices_5 : decode cX7_choices 5 = .ok (.getfield 25, 3) := by decide +kernel
theorem dX7_choices_8 : decode cX7_choices 8 = .ok (.iload_n 1, 1) := by decide +kernel
theorem dX7_choices_9 : decode cX7_choices 9 = .ok (.aaload, 1) := by decide +kernel
theorem dX7_choices_10 : decode cX7_choices 10 = .ok (.aload_n 0, 1) := by decide +kernel
theorem dX7_choices_11 : decode cX7_choices 11 = .ok (.getfield 12, 3) := by decide +kernel
theorem dX7_choices_14 : decode cX7_choices 14 = .ok (.aload_n 0, 1) := by decide +kernel
theorem dX7_choices_15 : decode cX7_choices 15 = .ok (.getfield 19, 3) := by decide +kernel
theorem dX7_choices_18 : decode cX7_choices 18 = .ok (.invokevirtual 151, 3) := by decide +kernel
theorem dX7_choices_21 : decode cX7_choices 21 = .ok (.aload_n 0, 1) := by decide +kernel
theorem dX7_choices_22 : decode cX7_choices 22 = .ok (.getfield 33, 3) := by decide +kernel
theorem dX7_choices_25 : decode cX7_choices 25 = .ok (.aload_n 0, 1) := by decide +kernel
theorem dX7_choices_26 : decode cX7_choices 26 = .ok (.getfield 25, 3) := by decide +kernel
theorem dX7_choices_29 : decode cX7_choices 29 = .ok (.iload_n 1, 1) := by decide +kernel
theorem dX7_choices_30 : decode cX7_choices 30 = .ok (.aaload, 1) := by decide +kernel
theorem dX7_choices_31 : decode cX7_choices 31 = .ok (.invokevirtual 159, 3) := by decide +kernel
theorem dX7_choices_34 : decode cX7_choices 34 = .ok (.ireturn, 1) := by decide +kernel
set_option maxRecDepth 20000 in
theorem ggX7_least_X7_checkTune : GoodIn wsX7_least wsX7_checkTune := goodIn_ca (goodIn_r _ [4, 5, 6] (by decide +kernel) (by decide +kernel)) (goodIn_sub (fun _ h => List.mem_cons_of_mem _ (List.mem_append_left _ (List.mem_append_right _ h))) (by decide +kernel))
set_option maxRecDepth 20000 in
theorem gX7_least_X7_checkTune : GoodIn wsX7_least (va_wsS RX7 109 yX7_checkTune wsX7_checkTune) := goodIn_app (goodIn_of _ (by decide +kernel)) ggX7_least_X7_checkTune
set_option maxRecDepth 20000 in
theorem ggX7_least_X7_solve : GoodIn wsX7_least wsX7_solve := goodIn_ca (goodIn_r _ [10, 11, 12, 13, 14, 15, 16, 17, 18, 19, 20, 21, 22, 23, 24, 25, 26, 27, 28, 29, 30, 31, 32, 33, 34, 35, 36, 37, 38, 39, 40, 41, 42, 43, 44, 45, 46, 47, 48, 49, 50, 51, 52, 53, 54, 55, 56, 57, 58, 59, 60, 61, 62, 63, 64, 65, 66, 67, 68, 69, 70, 71, 72, 73, 74, 75, 76, 77, 78, 79, 80, 81, 82, 83, 84, 85, 86, 87, 88, 89, 90, 91, 92, 93, 94, 95, 96, 97, 98, 99, 100, 101, 102, 103, 104, 105, 106, 107, 108, 109, 110, 111, 112, 113, 114, 115, 116, 117, 118] (by decide +kernel) (by decide +kernel)) (goodIn_sub (fun _ h => List.mem_cons_of_mem _ (List.mem_append_right _ h)) (by decide +kernel))
set_option maxRecDepth 20000 in
theorem gX7_least_X7_solve : GoodIn wsX7_least (wsV RX7 136 RX7 yX7_solve wsX7_solve) := goodIn_app (goodIn_of _ (by decide +kernel)) ggX7_least_X7_solve
theorem dX7_least_0 : decode cX7_least 0 = .ok (.iload_n 1, 1) := by decide +kernel
theorem dX7_least_1 : decode cX7_least 1 = .ok (.invokestatic 109, 3) := by decide +kernel
theorem dX7_least_4 : decode cX7_least 4 = .ok (.aload_n 0, 1) := by decide +kernel
theorem dX7_least_5 : decode cX7_least 5 = .ok (.iload_n 1, 1) := by decide +kernel
theorem dX7_least_6 : decode cX7_least 6 = .ok (.invokevirtual 136, 3) := by decide +kernel
theorem dX7_least_9 : decode cX7_least 9 = .ok (.ireturn, 1) := by decide +kernel
set_option maxRecDepth 20000 in
theorem ggX7_chosen_X7_checkTune : GoodIn wsX7_chosen wsX7_checkTune := goodIn_ca (goodIn_r _ [5, 6, 7] (by decide +kernel) (by decide +kernel)) (goodIn_sub (fun _ h => List.mem_cons_of_mem _ (List.mem_append_left _ (List.mem_append_left _ (List.mem_append_right _ h)))) (by decide +kernel))
set_option maxRecDepth 20000 in
theorem gX7_chosen_X7_checkTune : GoodIn wsX7_chosen (va_wsS RX7 109 yX7_checkTune wsX7_checkTune) := goodIn_app (goodIn_of _ (by decide +kernel)) ggX7_chosen_X7_checkTune
set_option maxRecDepth 20000 in
theorem ggX7_chosen_X7_checkGap : GoodIn wsX7_chosen wsX7_checkGap := goodIn_ca (goodIn_r _ [11, 12, 13, 14, 15, 16, 17, 18, 19, 20, 110, 111, 112, 113, 114, 115, 116, 117, 118, 119] (by decide +kernel) (by decide +kernel)) (goodIn_sub (fun _ h => List.mem_cons_of_mem _ (List.mem_append_left _ (List.mem_append_right _ h))) (by decide +kernel))
set_option maxRecDepth 20000 in
theorem gX7_chosen_X7_checkGap : GoodIn wsX7_chosen (wsV RX7 126 RX7 yX7_checkGap wsX7_checkGap) := goodIn_app (goodIn_of _ (by decide +kernel)) ggX7_chosen_X7_checkGap
set_option maxRecDepth 20000 in
theorem ggX7_chosen_X7_solve : GoodIn wsX7_chosen wsX7_solve := goodIn_ca (goodIn_r _ [24, 25, 26, 14, 27, 28, 1, 29, 30, 31, 32, 18, 33, 20, 34, 35, 36, 37, 38, 39, 40, 41, 42, 43, 44, 45, 46, 47, 48, 49, 50, 51, 52, 53, 54, 55, 56, 57, 58, 59, 60, 61, 62, 63, 64, 65, 66, 67, 68, 69, 70, 71, 72, 73, 74, 75, 76, 16, 17, 19, 77, 78, 79, 80, 81, 82, 83, 84, 85, 86, 87, 88, 89, 90, 91, 92, 93, 94, 95, 96, 97, 98, 99, 100, 101, 102, 103, 104, 110, 111, 112, 113, 114, 115, 116, 117, 118, 119, 120, 121, 122, 123, 124, 125, 126, 127, 128, 129, 130] (by decide +kernel) (by decide +kernel)) (goodIn_sub (fun _ h => List.mem_cons_of_mem _ (List.mem_append_right _ h)) (by decide +kernel))
set_option maxRecDepth 20000 in
theorem gX7_chosen_X7_solve : GoodIn wsX7_chosen (wsV RX7 136 RX7 yX7_solve wsX7_solve) := goodIn_app (goodIn_of _ (by decide +kernel)) ggX7_chosen_X7_solve
set_option maxRecDepth 20000 in
theorem ggX7_chosen_X6_firstAt : GoodIn wsX7_chosen wsX6_firstAt := goodIn_r _ [108, 75, 109, 98, 99, 80, 100, 82, 126, 127, 128, 129, 130] (by decide +kernel) (by decide +kernel)
set_option maxRecDepth 20000 in
theorem gX7_chosen_X6_firstAt : GoodIn wsX7_chosen (wsV RX7 145 RX6 yX6_firstAt wsX6_firstAt) := goodIn_app (goodIn_of _ (by decide +kernel)) ggX7_chosen_X6_firstAt
theorem dX7_chosen_0 : decode cX7_chosen 0 = .ok (.iload_n 1, 1) := by decide +kernel
theorem dX7_chosen_1 : decode cX7_chosen 1 = .ok (.invokestatic 109, 3) := by decide +kernel
theorem dX7_chosen_4 : decode cX7_chosen 4 = .ok (.aload_n 0, 1) := by decide +kernel
theorem dX7_chosen_5 : decode cX7_chosen 5 = .ok (.iload_n 1, 1) := by decide +kernel
theorem dX7_chosen_6 : decode cX7_chosen 6 = .ok (.iload_n 2, 1) := by decide +kernel
theorem dX7_chosen_7 : decode cX7_chosen 7 = .ok (.invokevirtual 126, 3) := by decide +kernel
theorem dX7_chosen_10 : decode cX7_chosen 10 = .ok (.aload_n 0, 1) := by decide +kernel
theorem dX7_chosen_11 : decode cX7_chosen 11 = .ok (.iload_n 1, 1) := by decide +kernel
theorem dX7_chosen_12 : decode cX7_chosen 12 = .ok (.invokevirtual 136, 3) := by decide +kernel
theorem dX7_chosen_15 : decode cX7_chosen 15 = .ok (.pop, 1) := by decide +kernel
theorem dX7_chosen_16 : decode cX7_chosen 16 = .ok (.aload_n 0, 1) := by decide +kernel
theorem dX7_chosen_17 : decode cX7_chosen 17 = .ok (.getfield 33, 3) := by decide +kernel
theorem dX7_chosen_20 : decode cX7_chosen 20 = .ok (.iload_n 2, 1) := by decide +kernel
theorem dX7_chosen_21 : decode cX7_chosen 21 = .ok (.invokevirtual 145, 3) := by decide +kernel
theorem dX7_chosen_24 : decode cX7_chosen 24 = .ok (.iconst 1, 1) := by decide +kernel
theorem dX7_chosen_25 : decode cX7_chosen 25 = .ok (.isub, 1) := by decide +kernel
theorem dX7_chosen_26 : decode cX7_chosen 26 = .ok (.ireturn, 1) := by decide +kernel
set_option maxRecDepth 20000 in
theorem ggX7_mostOrnaments_X7_checkTune : GoodIn wsX7_mostOrnaments wsX7_checkTune := goodIn_ca (goodIn_r _ [6, 7, 8] (by decide +kernel) (by decide +kernel)) (goodIn_sub (fun _ h => List.mem_cons_of_mem _ (List.mem_append_left _ (List.mem_append_right _ h))) (by decide +kernel))
set_option maxRecDepth 20000 in
theorem gX7_mostOrnaments_X7_checkTune : GoodIn wsX7_mostOrnaments (va_wsS RX7 109 yX7_checkTune wsX7_checkTune) := goodIn_app (goodIn_of _ (by decide +kernel)) ggX7_mostOrnaments_X7_checkTune
set_option maxRecDepth 20000 in
theorem ggX7_mostOrnaments_X7_solve : GoodIn wsX7_mostOrnaments wsX7_solve := goodIn_ca (goodIn_r _ [12, 13, 14, 1, 15, 16, 2, 17, 18, 19, 20, 21, 22, 23, 24, 25, 26, 27, 28, 29, 30, 31, 32, 33, 34, 35, 36, 37, 38, 39, 40, 41, 42, 43, 44, 45, 46, 47, 48, 49, 50, 51, 52, 53, 54, 55, 56, 57, 58, 59, 60, 61, 62, 63, 64, 65, 66, 67, 68, 69, 70, 71, 72, 73, 74, 75, 76, 77, 78, 79, 80, 81, 82, 83, 84, 85, 86, 87, 88, 89, 90, 91, 92, 93, 94, 95, 96, 97, 106, 107, 108, 109, 110, 111, 112, 113, 114, 115, 116, 117, 118, 119, 120, 121, 122, 123, 124, 125, 126] (by decide +kernel) (by decide +kernel)) (goodIn_sub (fun _ h => List.mem_cons_of_mem _ (List.mem_append_right _ h)) (by decide +kernel))
set_option maxRecDepth 20000 in
theorem gX7_mostOrnaments_X7_solve : GoodIn wsX7_mostOrnaments (wsV RX7 136 RX7 yX7_solve wsX7_solve) := goodIn_app (goodIn_of _ (by decide +kernel)) ggX7_mostOrnaments_X7_solve
set_option maxRecDepth 20000 in
theorem ggX7_mostOrnaments_X5_gaps : GoodIn wsX7_mostOrnaments wsX5_gaps := goodIn_r _ [69, 23, 111, 112, 113, 114, 115] (by decide +kernel) (by decide +kernel)
set_option maxRecDepth 20000 in
theorem gX7_mostOrnaments_X5_gaps : GoodIn wsX7_mostOrnaments (wsV RX7 142 RX5 yX5_gaps wsX5_gaps) := goodIn_app (goodIn_of _ (by decide +kernel)) ggX7_mostOrnaments_X5_gaps
set_option maxRecDepth 20000 in
theorem ggX7_mostOrnaments_X6_fewestEmptyGaps : GoodIn wsX7_mostOrnaments wsX6_fewestEmptyGaps := goodIn_r _ [102, 103, 104, 105, 70, 71, 72, 73, 74, 75, 76, 77, 78, 79, 80, 66, 67, 68, 21, 69, 23, 81, 82, 83, 84, 27, 85, 86, 87, 88, 89, 53, 54, 55, 90, 91, 92, 93, 94, 95, 96, 97, 122, 123, 124, 125, 126, 111, 112, 113, 114, 115] (by decide +kernel) (by decide +kernel)
set_option maxRecDepth 20000 in
theorem gX7_mostOrnaments_X6_fewestEmptyGaps : GoodIn wsX7_mostOrnaments (wsV RX7 163 RX6 yX6_fewestEmptyGaps wsX6_fewestEmptyGaps) := goodIn_app (goodIn_of _ (by decide +kernel)) ggX7_mostOrnaments_X6_fewestEmptyGaps
theorem dX7_mostOrnaments_0 : decode cX7_mostOrnaments 0 = .ok (.iload_n 1, 1) := by decide +kernel
theorem dX7_mostOrnaments_1 : decode cX7_mostOrnaments 1 = .ok (.invokestatic 109, 3) := by decide +kernel
theorem dX7_mostOrnaments_4 : decode cX7_mostOrnaments 4 = .ok (.aload_n 0, 1) := by decide +kernel
theorem dX7_mostOrnaments_5 : decode cX7_mostOrnaments 5 = .ok (.iload_n 1, 1) := by decide +kernel
theorem dX7_mostOrnaments_6 : decode cX7_mostOrnaments 6 = .ok (.invokevirtual 136, 3) := by decide +kernel
theorem dX7_mostOrnaments_9 : decode cX7_mostOrnaments 9 = .ok (.pop, 1) := by decide +kernel
theorem dX7_mostOrnaments_10 : decode cX7_mostOrnaments 10 = .ok (.aload_n 0, 1) := by decide +kernel
theorem dX7_mostOrnaments_11 : decode cX7_mostOrnaments 11 = .ok (.getfield 25, 3) := by decide +kernel
theorem dX7_mostOrnaments_14 : decode cX7_mostOrnaments 14 = .ok (.iload_n 1, 1) := by decide +kernel
theorem dX7_mostOrnaments_15 : decode cX7_mostOrnaments 15 = .ok (.aaload, 1) := by decide +kernel
theorem dX7_mostOrnaments_16 : decode cX7_mostOrnaments 16 = .ok (.invokevirtual 142, 3) := by decide +kernel
theorem dX7_mostOrnaments_19 : decode cX7_mostOrnaments 19 = .ok (.aload_n 0, 1) := by decide +kernel
theorem dX7_mostOrnaments_20 : decode cX7_mostOrnaments 20 = .ok (.getfield 33, 3) := by decide +kernel
theorem dX7_mostOrnaments_23 : decode cX7_mostOrnaments 23 = .ok (.aload_n 0, 1) := by decide +kernel
theorem dX7_mostOrnaments_24 : decode cX7_mostOrnaments 24 = .ok (.getfield 25, 3) := by decide +kernel
theorem dX7_mostOrnaments_27 : decode cX7_mostOrnaments 27 = .ok (.iload_n 1, 1) := by decide +kernel
theorem dX7_mostOrnaments_28 : decode cX7_mostOrnaments 28 = .ok (.aaload, 1) := by decide +kernel
theorem dX7_mostOrnaments_29 : decode cX7_mostOrnaments 29 = .ok (.invokevirtual 163, 3) := by decide +kernel
theorem dX7_mostOrnaments_32 : decode cX7_mostOrnaments 32 = .ok (.isub, 1) := by decide +kernel
theorem dX7_mostOrnaments_33 : decode cX7_mostOrnaments 33 = .ok (.ireturn, 1) := by decide +kernel
set_option maxRecDepth 20000 in
theorem ggX7_average_X7_checkTune : GoodIn wsX7_average wsX7_checkTune := goodIn_ca (goodIn_r _ [5, 6, 7] (by decide +kernel) (by decide +kernel)) (goodIn_sub (fun _ h => List.mem_cons_of_mem _ (List.mem_append_left _ (List.mem_append_right _ h))) (by decide +kernel))
set_option maxRecDepth 20000 in
theorem gX7_average_X7_checkTune : GoodIn wsX7_average (va_wsS RX7 109 yX7_checkTune wsX7_checkTune) := goodIn_app (goodIn_of _ (by decide +kernel)) ggX7_average_X7_checkTune
set_option maxRecDepth 20000 in
theorem ggX7_average_X7_solve : GoodIn wsX7_average wsX7_solve := goodIn_ca (goodIn_r _ [11, 12, 13, 1, 14, 15, 16, 17, 18, 19, 20, 21, 22, 23, 24, 25, 26, 27, 28, 29, 30, 31, 32, 33, 34, 35, 36, 37, 38, 39, 40, 41, 42, 43, 44, 45, 46, 47, 48, 49, 50, 51, 52, 53, 54, 55, 56, 57, 58, 59, 60, 61, 62, 63, 64, 65, 66, 67, 68, 69, 70, 71, 72, 73, 74, 75, 76, 77, 78, 79, 80, 81, 82, 83, 84, 85, 86, 87, 88, 89, 90, 91, 92, 93, 94, 95, 96, 97, 99, 100, 101, 102, 103, 104, 105, 106, 107, 108, 109, 110, 111, 112, 113, 114, 115, 116, 117, 118, 119] (by decide +kernel) (by decide +kernel)) (goodIn_sub (fun _ h => List.mem_cons_of_mem _ (List.mem_append_right _ h)) (by decide +kernel))
set_option maxRecDepth 20000 in
theorem gX7_average_X7_solve : GoodIn wsX7_average (wsV RX7 136 RX7 yX7_solve wsX7_solve) := goodIn_app (goodIn_of _ (by decide +kernel)) ggX7_average_X7_solve
set_option maxRecDepth 20000 in
theorem ggX7_average_X5_gaps : GoodIn wsX7_average wsX5_gaps := goodIn_r _ [69, 23, 104, 105, 106, 107, 108] (by decide +kernel) (by decide +kernel)
set_option maxRecDepth 20000 in
theorem gX7_average_X5_gaps : GoodIn wsX7_average (wsV RX7 142 RX5 yX5_gaps wsX5_gaps) := goodIn_app (goodIn_of _ (by decide +kernel)) ggX7_average_X5_gaps
theorem dX7_average_0 : decode cX7_average 0 = .ok (.iload_n 1, 1) := by decide +kernel
theorem dX7_average_1 : decode cX7_average 1 = .ok (.invokestatic 109, 3) := by decide +kernel
theorem dX7_average_4 : decode cX7_average 4 = .ok (.aload_n 0, 1) := by decide +kernel
theorem dX7_average_5 : decode cX7_average 5 = .ok (.iload_n 1, 1) := by decide +kernel
theorem dX7_average_6 : decode cX7_average 6 = .ok (.invokevirtual 136, 3) := by decide +kernel
theorem dX7_average_9 : decode cX7_average 9 = .ok (.istore_n 2, 1) := by decide +kernel
theorem dX7_average_10 : decode cX7_average 10 = .ok (.aload_n 0, 1) := by decide +kernel
theorem dX7_average_11 : decode cX7_average 11 = .ok (.getfield 25, 3) := by decide +kernel
theorem dX7_average_14 : decode cX7_average 14 = .ok (.iload_n 1, 1) := by decide +kernel
theorem dX7_average_15 : decode cX7_average 15 = .ok (.aaload, 1) := by decide +kernel
theorem dX7_average_16 : decode cX7_average 16 = .ok (.invokevirtual 142, 3) := by decide +kernel
theorem dX7_average_19 : decode cX7_average 19 = .ok (.istore_n 3, 1) := by decide +kernel
theorem dX7_average_20 : decode cX7_average 20 = .ok (.iload_n 3, 1) := by decide +kernel
theorem dX7_average_21 : decode cX7_average 21 = .ok (.ifCond .ne 7, 3) := by decide +kernel
theorem dX7_average_24 : decode cX7_average 24 = .ok (.fconst 0, 1) := by decide +kernel
theorem dX7_average_25 : decode cX7_average 25 = .ok (.goto 8, 3) := by decide +kernel
theorem dX7_average_28 : decode cX7_average 28 = .ok (.iload_n 2, 1) := by decide +kernel
theorem dX7_average_29 : decode cX7_average 29 = .ok (.i2f, 1) := by decide +kernel
theorem dX7_average_30 : decode cX7_average 30 = .ok (.iload_n 3, 1) := by decide +kernel
theorem dX7_average_31 : decode cX7_average 31 = .ok (.i2f, 1) := by decide +kernel
theorem dX7_average_32 : decode cX7_average 32 = .ok (.fdiv, 1) := by decide +kernel
theorem dX7_average_33 : decode cX7_average 33 = .ok (.freturn, 1) := by decide +kernel
set_option maxRecDepth 20000 in
theorem ggX7_leastSet_X7_trySets : GoodIn wsX7_leastSet wsX7_trySets := goodIn_r _ [8, 9, 10, 11, 3, 12, 13, 14, 15, 16, 17, 18, 19, 20, 21, 22, 23, 24, 25, 26, 27, 28, 29, 30, 31, 32, 33, 34, 35, 36, 37, 38, 39, 40, 41, 42, 43, 44, 45, 46, 47, 48, 49, 50, 51, 52, 53, 54, 55, 56, 57, 58, 59, 60, 61, 62, 63, 64, 65, 66, 67, 68, 69, 70, 71, 72, 73, 74, 75, 76, 77, 78, 79, 80, 81, 82, 83, 84, 85, 86, 87, 88, 89, 90, 91, 92, 93, 94, 95, 96, 97, 98, 99, 100, 101, 102, 103, 104, 105, 106, 107, 108, 109, 110, 111, 112, 113, 114, 115, 116, 117, 118, 119, 120, 121, 122, 123, 124, 125, 126, 127, 128, 129, 130, 131, 132, 133, 134, 135, 136, 137, 138, 143, 144, 145, 146, 147, 148, 149, 150, 151, 152, 153, 154, 155, 156, 157, 158, 159, 160, 161, 162, 163, 164, 165] (by decide +kernel) (by decide +kernel)
set_option maxRecDepth 20000 in
theorem gX7_leastSet_X7_trySets : GoodIn wsX7_leastSet (wsV RX7 166 RX7 yX7_trySets wsX7_trySets) := goodIn_app (goodIn_of _ (by decide +kernel)) ggX7_leastSet_X7_trySets
set_option maxRecDepth 20000 in
theorem ggX7_leastSet_X4_leastCost : GoodIn wsX7_leastSet wsX4_leastCost := goodIn_r _ [142, 78, 159, 160, 161, 162, 163, 164] (by decide +kernel) (by decide +kernel)
set_option maxRecDepth 20000 in
theorem gX7_leastSet_X4_leastCost : GoodIn wsX7_leastSet (wsV RX7 171 RX4 yX4_leastCost wsX4_leastCost) := goodIn_app (goodIn_of _ (by decide +kernel)) ggX7_leastSet_X4_leastCost
theorem dX7_leastSet_0 : decode cX7_leastSet 0 = .ok (.aload_n 0, 1) := by decide +kernel
theorem dX7_leastSet_1 : decode cX7_leastSet 1 = .ok (.invokevirtual 166, 3) := by decide +kernel
theorem dX7_leastSet_4 : decode cX7_leastSet 4 = .ok (.ifCond .ne 13, 3) := by decide +kernel
theorem dX7_leastSet_7 : decode cX7_leastSet 7 = .ok (.new 73, 3) := by decide +kernel
theorem dX7_leastSet_10 : decode cX7_leastSet 10 = .ok (.dup, 1) := by decide +kernel
theorem dX7_leastSet_11 : decode cX7_leastSet 11 = .ok (.ldc 169, 2) := by decide +kernel
theorem dX7_leastSet_13 : decode cX7_leastSet 13 = .ok (.invokespecial 77, 3) := by decide +kernel
theorem dX7_leastSet_16 : decode cX7_leastSet 16 = .ok (.athrow, 1) := by decide +kernel
theorem dX7_leastSet_17 : decode cX7_leastSet 17 = .ok (.aload_n 0, 1) := by decide +kernel
theorem dX7_leastSet_18 : decode cX7_leastSet 18 = .ok (.getfield 40, 3) := by decide +kernel
theorem dX7_leastSet_21 : decode cX7_leastSet 21 = .ok (.invokevirtual 171, 3) := by decide +kernel
theorem dX7_leastSet_24 : decode cX7_leastSet 24 = .ok (.ireturn, 1) := by decide +kernel
set_option maxRecDepth 20000 in
theorem ggX7_tuneAt_X7_trySets : GoodIn wsX7_tuneAt wsX7_trySets := goodIn_r _ [10, 11, 12, 13, 5, 14, 15, 16, 17, 18, 19, 20, 21, 22, 23, 24, 25, 26, 27, 28, 29, 30, 31, 32, 33, 34, 35, 36, 37, 38, 39, 40, 41, 42, 43, 44, 45, 46, 47, 48, 49, 50, 51, 52, 53, 54, 55, 56, 57, 58, 59, 60, 61, 62, 63, 64, 65, 66, 67, 68, 69, 70, 71, 72, 73, 74, 75, 76, 77, 78, 79, 80, 81, 82, 83, 84, 85, 86, 87, 88, 89, 90, 91, 92, 93, 94, 95, 96, 97, 98, 99, 100, 101, 102, 103, 104, 105, 106, 107, 108, 109, 110, 111, 112, 113, 114, 115, 116, 117, 118, 119, 120, 121, 122, 123, 124, 125, 126, 127, 128, 129, 130, 131, 132, 133, 134, 135, 136, 137, 138, 139, 140, 149, 150, 151, 152, 153, 154, 155, 156, 157, 158, 159, 160, 161, 162, 163, 164, 165, 166, 167, 168, 169, 170, 171] (by decide +kernel) (by decide +kernel)
set_option maxRecDepth 20000 in
theorem gX7_tuneAt_X7_trySets : GoodIn wsX7_tuneAt (wsV RX7 166 RX7 yX7_trySets wsX7_trySets) := goodIn_app (goodIn_of _ (by decide +kernel)) ggX7_tuneAt_X7_trySets
set_option maxRecDepth 20000 in
theorem ggX7_tuneAt_X4_size : GoodIn wsX7_tuneAt wsX4_size := goodIn_r _ [144, 85, 165, 166, 167, 168, 169, 170] (by decide +kernel) (by decide +kernel)
set_option maxRecDepth 20000 in
theorem gX7_tuneAt_X4_size : GoodIn wsX7_tuneAt (wsV RX7 174 RX4 yX4_size wsX4_size) := goodIn_app (goodIn_of _ (by decide +kernel)) ggX7_tuneAt_X4_size
set_option maxRecDepth 20000 in
theorem ggX7_tuneAt_X4_bestAt : GoodIn wsX7_tuneAt wsX4_bestAt := goodIn_r _ [148, 128, 165, 166, 167, 168, 169, 170] (by decide +kernel) (by decide +kernel)
set_option maxRecDepth 20000 in
theorem gX7_tuneAt_X4_bestAt : GoodIn wsX7_tuneAt (wsV RX7 177 RX4 yX4_bestAt wsX4_bestAt) := goodIn_app (goodIn_of _ (by decide +kernel)) ggX7_tuneAt_X4_bestAt
theorem dX7_tuneAt_0 : decode cX7_tuneAt 0 = .ok (.aload_n 0, 1) := by decide +kernel
theorem dX7_tuneAt_1 : decode cX7_tuneAt 1 = .ok (.invokevirtual 166, 3) := by decide +kernel
theorem dX7_tuneAt_4 : decode cX7_tuneAt 4 = .ok (.ifCond .ne 13, 3) := by decide +kernel
theorem dX7_tuneAt_7 : decode cX7_tuneAt 7 = .ok (.new 73, 3) := by decide +kernel
theorem dX7_tuneAt_10 : decode cX7_tuneAt 10 = .ok (.dup, 1) := by decide +kernel
theorem dX7_tuneAt_11 : decode cX7_tuneAt 11 = .ok (.ldc 169, 2) := by decide +kernel
theorem dX7_tuneAt_13 : decode cX7_tuneAt 13 = .ok (.invokespecial 77, 3) := by decide +kernel
theorem dX7_tuneAt_16 : decode cX7_tuneAt 16 = .ok (.athrow, 1) := by decide +kernel
theorem dX7_tuneAt_17 : decode cX7_tuneAt 17 = .ok (.iload_n 1, 1) := by decide +kernel
theorem dX7_tuneAt_18 : decode cX7_tuneAt 18 = .ok (.ifCond .lt 14, 3) := by decide +kernel
theorem dX7_tuneAt_21 : decode cX7_tuneAt 21 = .ok (.iload_n 1, 1) := by decide +kernel
theorem dX7_tuneAt_22 : decode cX7_tuneAt 22 = .ok (.aload_n 0, 1) := by decide +kernel
theorem dX7_tuneAt_23 : decode cX7_tuneAt 23 = .ok (.getfield 40, 3) := by decide +kernel
theorem dX7_tuneAt_26 : decode cX7_tuneAt 26 = .ok (.invokevirtual 174, 3) := by decide +kernel
theorem dX7_tuneAt_29 : decode cX7_tuneAt 29 = .ok (.if_icmp .lt 13, 3) := by decide +kernel
theorem dX7_tuneAt_32 : decode cX7_tuneAt 32 = .ok (.new 96, 3) := by decide +kernel
theorem dX7_tuneAt_35 : decode cX7_tuneAt 35 = .ok (.dup, 1) := by decide +kernel
theorem dX7_tuneAt_36 : decode cX7_tuneAt 36 = .ok (.ldc 175, 2) := by decide +kernel
theorem dX7_tuneAt_38 : decode cX7_tuneAt 38 = .ok (.invokespecial 100, 3) := by decide +kernel
theorem dX7_tuneAt_41 : decode cX7_tuneAt 41 = .ok (.athrow, 1) := by decide +kernel
theorem dX7_tuneAt_42 : decode cX7_tuneAt 42 = .ok (.aload_n 0, 1) := by decide +kernel
theorem dX7_tuneAt_43 : decode cX7_tuneAt 43 = .ok (.getfield 40, 3) := by decide +kernel
theorem dX7_tuneAt_46 : decode cX7_tuneAt 46 = .ok (.iload_n 1, 1) := by decide +kernel
theorem dX7_tuneAt_47 : decode cX7_tuneAt 47 = .ok (.invokevirtual 177, 3) := by decide +kernel
theorem dX7_tuneAt_50 : decode cX7_tuneAt 50 = .ok (.ireturn, 1) := by decide +kernel
set_option maxRecDepth 20000 in
theorem ggX7_sets_X7_trySets : GoodIn wsX7_sets wsX7_trySets := goodIn_r _ [5, 6, 7, 8, 9, 10, 11, 12, 13, 14, 15, 16, 17, 18, 19, 20, 21, 22, 23, 24, 25, 26, 27, 28, 29, 30, 31, 32, 33, 34, 35, 36, 37, 38, 39, 40, 41, 42, 43, 44, 45, 46, 47, 48, 49, 50, 51, 52, 53, 54, 55, 56, 57, 58, 59, 60, 61, 62, 63, 64, 65, 66, 67, 68, 69, 70, 71, 72, 73, 74, 75, 76, 77, 78, 79, 80, 81, 82, 83, 84, 85, 86, 87, 88, 89, 90, 91, 92, 93, 94, 95, 96, 97, 98, 99, 100, 101, 102, 103, 104, 105, 106, 107, 108, 109, 110, 111, 112, 113, 114, 115, 116, 117, 118, 119, 120, 121, 122, 123, 124, 125, 126, 127, 128, 129, 130, 131, 132, 133, 134, 135, 136, 137, 138, 139, 140, 141, 142, 143, 144, 145, 146, 147, 148, 149, 150, 151, 152, 153, 154, 155, 156, 157, 158, 159] (by decide +kernel) (by decide +kernel)
set_option maxRecDepth 20000 in
theorem gX7_sets_X7_trySets : GoodIn wsX7_sets (wsV RX7 166 RX7 yX7_trySets wsX7_trySets) := goodIn_app (goodIn_of _ (by decide +kernel)) ggX7_sets_X7_trySets
theorem dX7_sets_0 : decode cX7_sets 0 = .ok (.aload_n 0, 1) := by decide +kernel
theorem dX7_sets_1 : decode cX7_sets 1 = .ok (.invokevirtual 166, 3) := by decide +kernel
theorem dX7_sets_4 : decode cX7_sets 4 = .ok (.ireturn, 1) := by decide +kernel
theorem dX7_checkPitch_0 : decode cX7_checkPitch 0 = .ok (.iload_n 0, 1) := by decide +kernel
theorem dX7_checkPitch_1 : decode cX7_checkPitch 1 = .ok (.ifCond .lt 9, 3) := by decide +kernel
theorem dX7_checkPitch_4 : decode cX7_checkPitch 4 = .ok (.iload_n 0, 1) := by decide +kernel
theorem dX7_checkPitch_5 : decode cX7_checkPitch 5 = .ok (.bipush 9, 2) := by decide +kernel
theorem dX7_checkPitch_7 : decode cX7_checkPitch 7 = .ok (.if_icmp .lt 13, 3) := by decide +kernel
theorem dX7_checkPitch_10 : decode cX7_checkPitch 10 = .ok (.new 56, 3) := by decide +kernel
theorem dX7_checkPitch_13 : decode cX7_checkPitch 13 = .ok (.dup, 1) := by decide +kernel
theorem dX7_checkPitch_14 : decode cX7_checkPitch 14 = .ok (.ldc 180, 2) := by decide +kernel
theorem dX7_checkPitch_16 : decode cX7_checkPitch 16 = .ok (.invokespecial 60, 3) := by decide +kernel
theorem dX7_checkPitch_19 : decode cX7_checkPitch 19 = .ok (.athrow, 1) := by decide +kernel
theorem dX7_checkPitch_20 : decode cX7_checkPitch 20 = .ok (.return_, 1) := by decide +kernel
theorem dX7_checkLength_0 : decode cX7_checkLength 0 = .ok (.iload_n 0, 1) := by decide +kernel
theorem dX7_checkLength_1 : decode cX7_checkLength 1 = .ok (.iconst 1, 1) := by decide +kernel
theorem dX7_checkLength_2 : decode cX7_checkLength 2 = .ok (.if_icmp .lt 9, 3) := by decide +kernel
theorem dX7_checkLength_5 : decode cX7_checkLength 5 = .ok (.iload_n 0, 1) := by decide +kernel
theorem dX7_checkLength_6 : decode cX7_checkLength 6 = .ok (.bipush 32, 2) := by decide +kernel
theorem dX7_checkLength_8 : decode cX7_checkLength 8 = .ok (.if_icmp .le 13, 3) := by decide +kernel
theorem dX7_checkLength_11 : decode cX7_checkLength 11 = .ok (.new 56, 3) := by decide +kernel
theorem dX7_checkLength_14 : decode cX7_checkLength 14 = .ok (.dup, 1) := by decide +kernel
theorem dX7_checkLength_15 : decode cX7_checkLength 15 = .ok (.ldc 182, 2) := by decide +kernel
theorem dX7_checkLength_17 : decode cX7_checkLength 17 = .ok (.invokespecial 60, 3) := by decide +kernel
theorem dX7_checkLength_20 : decode cX7_checkLength 20 = .ok (.athrow, 1) := by decide +kernel
theorem dX7_checkLength_21 : decode cX7_checkLength 21 = .ok (.return_, 1) := by decide +kernel
theorem dX7_checkTune_0 : decode cX7_checkTune 0 = .ok (.iload_n 0, 1) := by decide +kernel
theorem dX7_checkTune_1 : decode cX7_checkTune 1 = .ok (.ifCond .lt 8, 3) := by decide +kernel
theorem dX7_checkTune_4 : decode cX7_checkTune 4 = .ok (.iload_n 0, 1) := by decide +kernel
theorem dX7_checkTune_5 : decode cX7_checkTune 5 = .ok (.iconst 4, 1) := by decide +kernel
theorem dX7_checkTune_6 : decode cX7_checkTune 6 = .ok (.if_icmp .lt 13, 3) := by decide +kernel
theorem dX7_checkTune_9 : decode cX7_checkTune 9 = .ok (.new 56, 3) := by decide +kernel
theorem dX7_checkTune_12 : decode cX7_checkTune 12 = .ok (.dup, 1) := by decide +kernel
theorem dX7_checkTune_13 : decode cX7_checkTune 13 = .ok (.ldc 184, 2) := by decide +kernel
theorem dX7_checkTune_15 : decode cX7_checkTune 15 = .ok (.invokespecial 60, 3) := by decide +kernel
theorem dX7_checkTune_18 : decode cX7_checkTune 18 = .ok (.athrow, 1) := by decide +kernel
theorem dX7_checkTune_19 : decode cX7_checkTune 19 = .ok (.return_, 1) := by decide +kernel
set_option maxRecDepth 20000 in
theorem ggX7_checkGap_X5_gaps : GoodIn wsX7_checkGap wsX5_gaps := goodIn_r _ [8, 9, 15, 16, 17, 18, 19] (by decide +kernel) (by decide +kernel)
set_option maxRecDepth 20000 in
theorem gX7_checkGap_X5_gaps : GoodIn wsX7_checkGap (wsV RX7 142 RX5 yX5_gaps wsX5_gaps) := goodIn_app (goodIn_of _ (by decide +kernel)) ggX7_checkGap_X5_gaps
theorem dX7_checkGap_0 : decode cX7_checkGap 0 = .ok (.iload_n 2, 1) := by decide +kernel
theorem dX7_checkGap_1 : decode cX7_checkGap 1 = .ok (.ifCond .lt 16, 3) := by decide +kernel
theorem dX7_checkGap_4 : decode cX7_checkGap 4 = .ok (.iload_n 2, 1) := by decide +kernel
theorem dX7_checkGap_5 : decode cX7_checkGap 5 = .ok (.aload_n 0, 1) := by decide +kernel
theorem dX7_checkGap_6 : decode cX7_checkGap 6 = .ok (.getfield 25, 3) := by decide +kernel
theorem dX7_checkGap_9 : decode cX7_checkGap 9 = .ok (.iload_n 1, 1) := by decide +kernel
theorem dX7_checkGap_10 : decode cX7_checkGap 10 = .ok (.aaload, 1) := by decide +kernel
theorem dX7_checkGap_11 : decode cX7_checkGap 11 = .ok (.invokevirtual 142, 3) := by decide +kernel
theorem dX7_checkGap_14 : decode cX7_checkGap 14 = .ok (.if_icmp .lt 13, 3) := by decide +kernel
theorem dX7_checkGap_17 : decode cX7_checkGap 17 = .ok (.new 96, 3) := by decide +kernel
theorem dX7_checkGap_20 : decode cX7_checkGap 20 = .ok (.dup, 1) := by decide +kernel
theorem dX7_checkGap_21 : decode cX7_checkGap 21 = .ok (.ldc 186, 2) := by decide +kernel
theorem dX7_checkGap_23 : decode cX7_checkGap 23 = .ok (.invokespecial 100, 3) := by decide +kernel
theorem dX7_checkGap_26 : decode cX7_checkGap 26 = .ok (.athrow, 1) := by decide +kernel
theorem dX7_checkGap_27 : decode cX7_checkGap 27 = .ok (.return_, 1) := by decide +kernel
set_option maxRecDepth 20000 in
theorem ggX7_solve_X5_weighGaps : GoodIn wsX7_solve wsX5_weighGaps := goodIn_r _ [12, 13, 14, 15, 16, 17, 18, 19, 20, 21, 22, 23, 24, 25, 26, 27, 28, 29, 30, 31, 32, 33, 34, 35, 36, 37, 38, 39, 40, 41, 42, 43, 44, 45, 46, 47, 48, 49, 93, 94, 95, 96, 97, 98, 99, 100, 101, 102, 103] (by decide +kernel) (by decide +kernel)
set_option maxRecDepth 20000 in
theorem gX7_solve_X5_weighGaps : GoodIn wsX7_solve (wsV RX7 151 RX5 yX5_weighGaps wsX5_weighGaps) := goodIn_app (goodIn_of _ (by decide +kernel)) ggX7_solve_X5_weighGaps
set_option maxRecDepth 20000 in
theorem ggX7_solve_X6_solveFor : GoodIn wsX7_solve wsX6_solveFor := goodIn_r _ [54, 55, 56, 57, 58, 11, 59, 13, 60, 61, 62, 63, 64, 65, 66, 67, 68, 69, 70, 71, 72, 73, 74, 17, 75, 76, 77, 78, 79, 43, 44, 45, 80, 81, 82, 83, 84, 85, 86, 87, 104, 105, 106, 107, 93, 94, 95, 96, 97, 108] (by decide +kernel) (by decide +kernel)
set_option maxRecDepth 20000 in
theorem gX7_solve_X6_solveFor : GoodIn wsX7_solve (wsV RX7 188 RX6 yX6_solveFor wsX6_solveFor) := goodIn_app (goodIn_of _ (by decide +kernel)) ggX7_solve_X6_solveFor
theorem dX7_solve_0 : decode cX7_solve 0 = .ok (.aload_n 0, 1) := by decide +kernel
theorem dX7_solve_1 : decode cX7_solve 1 = .ok (.getfield 25, 3) := by decide +kernel
theorem dX7_solve_4 : decode cX7_solve 4 = .ok (.iload_n 1, 1) := by decide +kernel
theorem dX7_solve_5 : decode cX7_solve 5 = .ok (.aaload, 1) := by decide +kernel
theorem dX7_solve_6 : decode cX7_solve 6 = .ok (.aload_n 0, 1) := by decide +kernel
theorem dX7_solve_7 : decode cX7_solve 7 = .ok (.getfield 12, 3) := by decide +kernel
theorem dX7_solve_10 : decode cX7_solve 10 = .ok (.aload_n 0, 1) := by decide +kernel
theorem dX7_solve_11 : decode cX7_solve 11 = .ok (.getfield 19, 3) := by decide +kernel
theorem dX7_solve_14 : decode cX7_solve 14 = .ok (.invokevirtual 151, 3) := by decide +kernel
theorem dX7_solve_17 : decode cX7_solve 17 = .ok (.aload_n 0, 1) := by decide +kernel
theorem dX7_solve_18 : decode cX7_solve 18 = .ok (.getfield 33, 3) := by decide +kernel
theorem dX7_solve_21 : decode cX7_solve 21 = .ok (.aload_n 0, 1) := by decide +kernel
theorem dX7_solve_22 : decode cX7_solve 22 = .ok (.getfield 25, 3) := by decide +kernel
theorem dX7_solve_25 : decode cX7_solve 25 = .ok (.iload_n 1, 1) := by decide +kernel
theorem dX7_solve_26 : decode cX7_solve 26 = .ok (.aaload, 1) := by decide +kernel
theorem dX7_solve_27 : decode cX7_solve 27 = .ok (.invokevirtual 188, 3) := by decide +kernel
theorem dX7_solve_30 : decode cX7_solve 30 = .ok (.istore_n 2, 1) := by decide +kernel
theorem dX7_solve_31 : decode cX7_solve 31 = .ok (.iload_n 2, 1) := by decide +kernel
theorem dX7_solve_32 : decode cX7_solve 32 = .ok (.ldc 108, 2) := by decide +kernel
theorem dX7_solve_34 : decode cX7_solve 34 = .ok (.if_icmp .lt 13, 3) := by decide +kernel
theorem dX7_solve_37 : decode cX7_solve 37 = .ok (.new 73, 3) := by decide +kernel
theorem dX7_solve_40 : decode cX7_solve 40 = .ok (.dup, 1) := by decide +kernel
theorem dX7_solve_41 : decode cX7_solve 41 = .ok (.ldc 191, 2) := by decide +kernel
theorem dX7_solve_43 : decode cX7_solve 43 = .ok (.invokespecial 77, 3) := by decide +kernel
theorem dX7_solve_46 : decode cX7_solve 46 = .ok (.athrow, 1) := by decide +kernel
theorem dX7_solve_47 : decode cX7_solve 47 = .ok (.iload_n 2, 1) := by decide +kernel
theorem dX7_solve_48 : decode cX7_solve 48 = .ok (.ireturn, 1) := by decide +kernel
set_option maxRecDepth 20000 in
theorem ggX7_trySets_X5_weighGaps : GoodIn wsX7_trySets wsX5_weighGaps := goodIn_r _ [9, 10, 11, 12, 13, 14, 15, 16, 17, 18, 19, 20, 21, 22, 23, 24, 25, 26, 27, 28, 29, 30, 31, 32, 33, 34, 35, 36, 37, 38, 39, 40, 41, 42, 43, 44, 45, 46, 137, 138, 139, 140, 141, 142, 143, 144, 145, 146, 147] (by decide +kernel) (by decide +kernel)
set_option maxRecDepth 20000 in
theorem gX7_trySets_X5_weighGaps : GoodIn wsX7_trySets (wsV RX7 151 RX5 yX5_weighGaps wsX5_weighGaps) := goodIn_app (goodIn_of _ (by decide +kernel)) ggX7_trySets_X5_weighGaps
set_option maxRecDepth 20000 in
theorem ggX7_trySets_X4_weighJoins : GoodIn wsX7_trySets wsX4_weighJoins := goodIn_r _ [51, 52, 53, 54, 55, 8, 56, 10, 57, 58, 59, 60, 11, 61, 62, 63, 64, 12, 65, 16, 17, 18, 19, 20, 21, 22, 23, 24, 25, 26, 27, 28, 29, 30, 31, 32, 33, 34, 35, 36, 37, 38, 39, 40, 41, 42, 43, 44, 45, 46, 148, 149, 150, 151, 152, 153, 137, 138, 139, 140, 141, 142, 143, 144, 145, 146, 147] (by decide +kernel) (by decide +kernel)
set_option maxRecDepth 20000 in
theorem gX7_trySets_X4_weighJoins : GoodIn wsX7_trySets (wsV RX7 193 RX4 yX4_weighJoins wsX4_weighJoins) := goodIn_app (goodIn_of _ (by decide +kernel)) ggX7_trySets_X4_weighJoins
set_option maxRecDepth 20000 in
theorem ggX7_trySets_X4_tryAllOrders : GoodIn wsX7_trySets wsX4_tryAllOrders := goodIn_r _ [69, 70, 71, 72, 73, 74, 50, 75, 76, 77, 53, 54, 55, 8, 56, 10, 78, 79, 80, 81, 82, 52, 83, 84, 85, 86, 87, 88, 89, 90, 91, 92, 93, 94, 95, 96, 97, 98, 40, 41, 42, 99, 100, 101, 102, 103, 104, 105, 106, 107, 108, 109, 110, 14, 111, 112, 113, 114, 115, 116, 117, 118, 119, 120, 121, 122, 123, 124, 125, 126, 127, 128, 129, 130, 131, 148, 149, 150, 151, 152, 153, 137, 138, 139, 140, 141, 154] (by decide +kernel) (by decide +kernel)
set_option maxRecDepth 20000 in
theorem gX7_trySets_X4_tryAllOrders : GoodIn wsX7_trySets (wsV RX7 197 RX4 yX4_tryAllOrders wsX4_tryAllOrders) := goodIn_app (goodIn_of _ (by decide +kernel)) ggX7_trySets_X4_tryAllOrders
theorem dX7_trySets_0 : decode cX7_trySets 0 = .ok (.iconst 0, 1) := by decide +kernel
theorem dX7_trySets_1 : decode cX7_trySets 1 = .ok (.istore_n 1, 1) := by decide +kernel
theorem dX7_trySets_2 : decode cX7_trySets 2 = .ok (.iload_n 1, 1) := by decide +kernel
theorem dX7_trySets_3 : decode cX7_trySets 3 = .ok (.iconst 4, 1) := by decide +kernel
theorem dX7_trySets_4 : decode cX7_trySets 4 = .ok (.if_icmp .ge 26, 3) := by decide +kernel
theorem dX7_trySets_7 : decode cX7_trySets 7 = .ok (.aload_n 0, 1) := by decide +kernel
theorem dX7_trySets_8 : decode cX7_trySets 8 = .ok (.getfield 25, 3) := by decide +kernel
theorem dX7_trySets_11 : decode cX7_trySets 11 = .ok (.iload_n 1, 1) := by decide +kernel
theorem dX7_trySets_12 : decode cX7_trySets 12 = .ok (.aaload, 1) := by decide +kernel
theorem dX7_trySets_13 : decode cX7_trySets 13 = .ok (.aload_n 0, 1) := by decide +kernel
theorem dX7_trySets_14 : decode cX7_trySets 14 = .ok (.getfield 12, 3) := by decide +kernel
theorem dX7_trySets_17 : decode cX7_trySets 17 = .ok (.aload_n 0, 1) := by decide +kernel
theorem dX7_trySets_18 : decode cX7_trySets 18 = .ok (.getfield 19, 3) := by decide +kernel
theorem dX7_trySets_21 : decode cX7_trySets 21 = .ok (.invokevirtual 151, 3) := by decide +kernel
theorem dX7_trySets_24 : decode cX7_trySets 24 = .ok (.iinc 1 1, 3) := by decide +kernel
theorem dX7_trySets_27 : decode cX7_trySets 27 = .ok (.goto (-25), 3) := by decide +kernel
theorem dX7_trySets_30 : decode cX7_trySets 30 = .ok (.aload_n 0, 1) := by decide +kernel
theorem dX7_trySets_31 : decode cX7_trySets 31 = .ok (.getfield 40, 3) := by decide +kernel
theorem dX7_trySets_34 : decode cX7_trySets 34 = .ok (.aload_n 0, 1) := by decide +kernel
theorem dX7_trySets_35 : decode cX7_trySets 35 = .ok (.getfield 25, 3) := by decide +kernel
theorem dX7_trySets_38 : decode cX7_trySets 38 = .ok (.aload_n 0, 1) := by decide +kernel
theorem dX7_trySets_39 : decode cX7_trySets 39 = .ok (.getfield 12, 3) := by decide +kernel
theorem dX7_trySets_42 : decode cX7_trySets 42 = .ok (.aload_n 0, 1) := by decide +kernel
theorem dX7_trySets_43 : decode cX7_trySets 43 = .ok (.getfield 19, 3) := by decide +kernel
theorem dX7_trySets_46 : decode cX7_trySets 46 = .ok (.invokevirtual 193, 3) := by decide +kernel
theorem dX7_trySets_49 : decode cX7_trySets 49 = .ok (.aload_n 0, 1) := by decide +kernel
theorem dX7_trySets_50 : decode cX7_trySets 50 = .ok (.getfield 40, 3) := by decide +kernel
theorem dX7_trySets_53 : decode cX7_trySets 53 = .ok (.aload_n 0, 1) := by decide +kernel
theorem dX7_trySets_54 : decode cX7_trySets 54 = .ok (.getfield 25, 3) := by decide +kernel
theorem dX7_trySets_57 : decode cX7_trySets 57 = .ok (.invokevirtual 197, 3) := by decide +kernel
theorem dX7_trySets_60 : decode cX7_trySets 60 = .ok (.ireturn, 1) := by decide +kernel
