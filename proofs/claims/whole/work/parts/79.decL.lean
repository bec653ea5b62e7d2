set_option maxRecDepth 20000 in
theorem ggL_cost_X7_cost : GoodIn wsL_cost wsX7_cost := goodIn_ca (goodIn_r _ [6, 7, 8, 5, 9, 10, 11, 12, 13, 14, 15, 16, 17, 18, 19, 20, 21, 22] (by decide +kernel) (by decide +kernel)) (goodIn_sub (fun _ h => List.mem_cons_of_mem _ (List.mem_append_right _ h)) (by decide +kernel))
set_option maxRecDepth 20000 in
theorem gL_cost_X7_cost : GoodIn wsL_cost (wsV RL 7 RX7 yX7_cost wsX7_cost) := goodIn_app (goodIn_of _ (by decide +kernel)) ggL_cost_X7_cost
theorem dL_cost_0 : decode cL_cost 0 = .ok (.aload_n 3, 1) := by decide +kernel
theorem dL_cost_1 : decode cL_cost 1 = .ok (.iconst 0, 1) := by decide +kernel
theorem dL_cost_2 : decode cL_cost 2 = .ok (.aload_n 0, 1) := by decide +kernel
theorem dL_cost_3 : decode cL_cost 3 = .ok (.iload_n 1, 1) := by decide +kernel
theorem dL_cost_4 : decode cL_cost 4 = .ok (.iload_n 2, 1) := by decide +kernel
theorem dL_cost_5 : decode cL_cost 5 = .ok (.invokevirtual 7, 3) := by decide +kernel
theorem dL_cost_8 : decode cL_cost 8 = .ok (.i2l, 1) := by decide +kernel
theorem dL_cost_9 : decode cL_cost 9 = .ok (.lastore, 1) := by decide +kernel
theorem dL_cost_10 : decode cL_cost 10 = .ok (.goto 7, 3) := by decide +kernel
theorem dL_cost_13 : decode cL_cost 13 = .ok (.astore 4, 2) := by decide +kernel
theorem dL_cost_15 : decode cL_cost 15 = .ok (.iconst 1, 1) := by decide +kernel
theorem dL_cost_16 : decode cL_cost 16 = .ok (.ireturn, 1) := by decide +kernel
theorem dL_cost_17 : decode cL_cost 17 = .ok (.iconst 0, 1) := by decide +kernel
theorem dL_cost_18 : decode cL_cost 18 = .ok (.ireturn, 1) := by decide +kernel
set_option maxRecDepth 20000 in
theorem ggL_isBarred_X7_isBarred : GoodIn wsL_isBarred wsX7_isBarred := goodIn_ca (goodIn_r _ [6, 7, 8, 9, 5, 10, 11, 12, 13, 14, 15, 16, 17, 18, 19, 20, 21, 22, 23, 24, 25] (by decide +kernel) (by decide +kernel)) (goodIn_sub (fun _ h => List.mem_cons_of_mem _ (List.mem_append_right _ h)) (by decide +kernel))
set_option maxRecDepth 20000 in
theorem gL_isBarred_X7_isBarred : GoodIn wsL_isBarred (wsV RL 15 RX7 yX7_isBarred wsX7_isBarred) := goodIn_app (goodIn_of _ (by decide +kernel)) ggL_isBarred_X7_isBarred
theorem dL_isBarred_0 : decode cL_isBarred 0 = .ok (.aload_n 3, 1) := by decide +kernel
theorem dL_isBarred_1 : decode cL_isBarred 1 = .ok (.iconst 0, 1) := by decide +kernel
theorem dL_isBarred_2 : decode cL_isBarred 2 = .ok (.aload_n 0, 1) := by decide +kernel
theorem dL_isBarred_3 : decode cL_isBarred 3 = .ok (.iload_n 1, 1) := by decide +kernel
theorem dL_isBarred_4 : decode cL_isBarred 4 = .ok (.iload_n 2, 1) := by decide +kernel
theorem dL_isBarred_5 : decode cL_isBarred 5 = .ok (.invokevirtual 15, 3) := by decide +kernel
theorem dL_isBarred_8 : decode cL_isBarred 8 = .ok (.ifCond .eq 7, 3) := by decide +kernel
theorem dL_isBarred_11 : decode cL_isBarred 11 = .ok (.lconst 1, 1) := by decide +kernel
theorem dL_isBarred_12 : decode cL_isBarred 12 = .ok (.goto 4, 3) := by decide +kernel
theorem dL_isBarred_15 : decode cL_isBarred 15 = .ok (.lconst 0, 1) := by decide +kernel
theorem dL_isBarred_16 : decode cL_isBarred 16 = .ok (.lastore, 1) := by decide +kernel
theorem dL_isBarred_17 : decode cL_isBarred 17 = .ok (.goto 7, 3) := by decide +kernel
theorem dL_isBarred_20 : decode cL_isBarred 20 = .ok (.astore 4, 2) := by decide +kernel
theorem dL_isBarred_22 : decode cL_isBarred 22 = .ok (.iconst 1, 1) := by decide +kernel
theorem dL_isBarred_23 : decode cL_isBarred 23 = .ok (.ireturn, 1) := by decide +kernel
theorem dL_isBarred_24 : decode cL_isBarred 24 = .ok (.iconst 0, 1) := by decide +kernel
theorem dL_isBarred_25 : decode cL_isBarred 25 = .ok (.ireturn, 1) := by decide +kernel
set_option maxRecDepth 20000 in
theorem ggL_setLimit_X7_setLimit : GoodIn wsL_setLimit wsX7_setLimit := goodIn_ca (goodIn_r _ [6, 7, 8, 9, 10, 11, 12, 13, 14, 15, 16, 17, 18, 19, 20, 21, 22, 23, 24, 25, 26, 27, 28, 29, 30, 31, 32, 33, 34, 35] (by decide +kernel) (by decide +kernel)) (goodIn_sub (fun _ h => List.mem_cons_of_mem _ (List.mem_append_right _ h)) (by decide +kernel))
set_option maxRecDepth 20000 in
theorem gL_setLimit_X7_setLimit : GoodIn wsL_setLimit (wsV RL 19 RX7 yX7_setLimit wsX7_setLimit) := goodIn_app (goodIn_of _ (by decide +kernel)) ggL_setLimit_X7_setLimit
theorem dL_setLimit_0 : decode cL_setLimit 0 = .ok (.aload_n 2, 1) := by decide +kernel
theorem dL_setLimit_1 : decode cL_setLimit 1 = .ok (.iconst 0, 1) := by decide +kernel
theorem dL_setLimit_2 : decode cL_setLimit 2 = .ok (.aload_n 0, 1) := by decide +kernel
theorem dL_setLimit_3 : decode cL_setLimit 3 = .ok (.iload_n 1, 1) := by decide +kernel
theorem dL_setLimit_4 : decode cL_setLimit 4 = .ok (.invokevirtual 19, 3) := by decide +kernel
theorem dL_setLimit_7 : decode cL_setLimit 7 = .ok (.i2l, 1) := by decide +kernel
theorem dL_setLimit_8 : decode cL_setLimit 8 = .ok (.lastore, 1) := by decide +kernel
theorem dL_setLimit_9 : decode cL_setLimit 9 = .ok (.goto 6, 3) := by decide +kernel
theorem dL_setLimit_12 : decode cL_setLimit 12 = .ok (.astore_n 3, 1) := by decide +kernel
theorem dL_setLimit_13 : decode cL_setLimit 13 = .ok (.iconst 1, 1) := by decide +kernel
theorem dL_setLimit_14 : decode cL_setLimit 14 = .ok (.ireturn, 1) := by decide +kernel
theorem dL_setLimit_15 : decode cL_setLimit 15 = .ok (.iconst 0, 1) := by decide +kernel
theorem dL_setLimit_16 : decode cL_setLimit 16 = .ok (.ireturn, 1) := by decide +kernel
set_option maxRecDepth 20000 in
theorem ggL_grace_X7_grace : GoodIn wsL_grace wsX7_grace := goodIn_ca (goodIn_ca (goodIn_r _ [7, 8, 9, 10, 11, 12, 13, 14, 15, 16, 17, 18, 19, 20, 21, 22, 23, 24, 25, 26, 27, 28, 29, 30, 31, 32] (by decide +kernel) (by decide +kernel)) (goodIn_sub (fun _ h => List.mem_cons_of_mem _ (List.mem_append_left _ (List.mem_append_right _ h))) (by decide +kernel))) (goodIn_sub (fun _ h => List.mem_cons_of_mem _ (List.mem_append_right _ h)) (by decide +kernel))
set_option maxRecDepth 20000 in
theorem gL_grace_X7_grace : GoodIn wsL_grace (wsV RL 23 RX7 yX7_grace wsX7_grace) := goodIn_app (goodIn_of _ (by decide +kernel)) ggL_grace_X7_grace
theorem dL_grace_0 : decode cL_grace 0 = .ok (.aload_n 2, 1) := by decide +kernel
theorem dL_grace_1 : decode cL_grace 1 = .ok (.iconst 0, 1) := by decide +kernel
theorem dL_grace_2 : decode cL_grace 2 = .ok (.aload_n 0, 1) := by decide +kernel
theorem dL_grace_3 : decode cL_grace 3 = .ok (.iload_n 1, 1) := by decide +kernel
theorem dL_grace_4 : decode cL_grace 4 = .ok (.invokevirtual 23, 3) := by decide +kernel
theorem dL_grace_7 : decode cL_grace 7 = .ok (.i2l, 1) := by decide +kernel
theorem dL_grace_8 : decode cL_grace 8 = .ok (.lastore, 1) := by decide +kernel
theorem dL_grace_9 : decode cL_grace 9 = .ok (.goto 9, 3) := by decide +kernel
theorem dL_grace_12 : decode cL_grace 12 = .ok (.astore_n 3, 1) := by decide +kernel
theorem dL_grace_13 : decode cL_grace 13 = .ok (.iconst 1, 1) := by decide +kernel
theorem dL_grace_14 : decode cL_grace 14 = .ok (.ireturn, 1) := by decide +kernel
theorem dL_grace_15 : decode cL_grace 15 = .ok (.astore_n 3, 1) := by decide +kernel
theorem dL_grace_16 : decode cL_grace 16 = .ok (.iconst 2, 1) := by decide +kernel
theorem dL_grace_17 : decode cL_grace 17 = .ok (.ireturn, 1) := by decide +kernel
theorem dL_grace_18 : decode cL_grace 18 = .ok (.iconst 0, 1) := by decide +kernel
theorem dL_grace_19 : decode cL_grace 19 = .ok (.ireturn, 1) := by decide +kernel
set_option maxRecDepth 20000 in
theorem ggL_enter_X7_enter : GoodIn wsL_enter wsX7_enter := goodIn_ca (goodIn_r _ [6, 7, 8, 9, 10, 11, 12, 13, 14, 15, 16, 17, 18, 19, 20, 21, 22, 23, 24, 25, 26, 27, 28, 29, 30, 31, 32, 33, 34, 35, 36, 37, 38, 39, 40, 41, 42, 43, 44, 45, 46, 47, 48, 49, 50, 51, 52, 53, 54, 55, 56, 57, 58, 59, 60, 61, 62, 63, 64, 65] (by decide +kernel) (by decide +kernel)) (goodIn_sub (fun _ h => List.mem_cons_of_mem _ (List.mem_append_right _ h)) (by decide +kernel))
set_option maxRecDepth 20000 in
theorem gL_enter_X7_enter : GoodIn wsL_enter (wsV RL 28 RX7 yX7_enter wsX7_enter) := goodIn_app (goodIn_of _ (by decide +kernel)) ggL_enter_X7_enter
theorem dL_enter_0 : decode cL_enter 0 = .ok (.aload_n 1, 1) := by decide +kernel
theorem dL_enter_1 : decode cL_enter 1 = .ok (.iconst 0, 1) := by decide +kernel
theorem dL_enter_2 : decode cL_enter 2 = .ok (.aload_n 0, 1) := by decide +kernel
theorem dL_enter_3 : decode cL_enter 3 = .ok (.invokevirtual 28, 3) := by decide +kernel
theorem dL_enter_6 : decode cL_enter 6 = .ok (.i2l, 1) := by decide +kernel
theorem dL_enter_7 : decode cL_enter 7 = .ok (.lastore, 1) := by decide +kernel
theorem dL_enter_8 : decode cL_enter 8 = .ok (.goto 6, 3) := by decide +kernel
theorem dL_enter_11 : decode cL_enter 11 = .ok (.astore_n 2, 1) := by decide +kernel
theorem dL_enter_12 : decode cL_enter 12 = .ok (.iconst 1, 1) := by decide +kernel
theorem dL_enter_13 : decode cL_enter 13 = .ok (.ireturn, 1) := by decide +kernel
theorem dL_enter_14 : decode cL_enter 14 = .ok (.iconst 0, 1) := by decide +kernel
theorem dL_enter_15 : decode cL_enter 15 = .ok (.ireturn, 1) := by decide +kernel
set_option maxRecDepth 20000 in
theorem ggL_fits_X7_fits : GoodIn wsL_fits wsX7_fits := goodIn_ca (goodIn_ca (goodIn_r _ [7, 8, 9, 10, 11, 12, 13, 14, 15, 16, 17, 18, 19, 20, 6, 21, 22, 23, 24, 25, 26, 27, 28, 29, 30, 31, 32, 33, 34, 35, 36, 37, 38, 39, 40, 41, 42, 43, 44, 45, 46, 47, 48, 49, 50, 51, 52, 53, 54, 55, 56, 57, 58, 59, 60, 61, 62, 63] (by decide +kernel) (by decide +kernel)) (goodIn_sub (fun _ h => List.mem_cons_of_mem _ (List.mem_append_left _ (List.mem_append_right _ h))) (by decide +kernel))) (goodIn_sub (fun _ h => List.mem_cons_of_mem _ (List.mem_append_right _ h)) (by decide +kernel))
set_option maxRecDepth 20000 in
theorem gL_fits_X7_fits : GoodIn wsL_fits (wsV RL 32 RX7 yX7_fits wsX7_fits) := goodIn_app (goodIn_of _ (by decide +kernel)) ggL_fits_X7_fits
theorem dL_fits_0 : decode cL_fits 0 = .ok (.aload 5, 2) := by decide +kernel
theorem dL_fits_2 : decode cL_fits 2 = .ok (.iconst 0, 1) := by decide +kernel
theorem dL_fits_3 : decode cL_fits 3 = .ok (.aload_n 0, 1) := by decide +kernel
theorem dL_fits_4 : decode cL_fits 4 = .ok (.iload_n 1, 1) := by decide +kernel
theorem dL_fits_5 : decode cL_fits 5 = .ok (.iload_n 2, 1) := by decide +kernel
theorem dL_fits_6 : decode cL_fits 6 = .ok (.iload_n 3, 1) := by decide +kernel
theorem dL_fits_7 : decode cL_fits 7 = .ok (.iload 4, 2) := by decide +kernel
theorem dL_fits_9 : decode cL_fits 9 = .ok (.invokevirtual 32, 3) := by decide +kernel
theorem dL_fits_12 : decode cL_fits 12 = .ok (.ifCond .eq 7, 3) := by decide +kernel
theorem dL_fits_15 : decode cL_fits 15 = .ok (.lconst 1, 1) := by decide +kernel
theorem dL_fits_16 : decode cL_fits 16 = .ok (.goto 4, 3) := by decide +kernel
theorem dL_fits_19 : decode cL_fits 19 = .ok (.lconst 0, 1) := by decide +kernel
theorem dL_fits_20 : decode cL_fits 20 = .ok (.lastore, 1) := by decide +kernel
theorem dL_fits_21 : decode cL_fits 21 = .ok (.goto 11, 3) := by decide +kernel
theorem dL_fits_24 : decode cL_fits 24 = .ok (.astore 6, 2) := by decide +kernel
theorem dL_fits_26 : decode cL_fits 26 = .ok (.iconst 1, 1) := by decide +kernel
theorem dL_fits_27 : decode cL_fits 27 = .ok (.ireturn, 1) := by decide +kernel
theorem dL_fits_28 : decode cL_fits 28 = .ok (.astore 6, 2) := by decide +kernel
theorem dL_fits_30 : decode cL_fits 30 = .ok (.iconst 2, 1) := by decide +kernel
theorem dL_fits_31 : decode cL_fits 31 = .ok (.ireturn, 1) := by decide +kernel
theorem dL_fits_32 : decode cL_fits 32 = .ok (.iconst 0, 1) := by decide +kernel
theorem dL_fits_33 : decode cL_fits 33 = .ok (.ireturn, 1) := by decide +kernel
set_option maxRecDepth 20000 in
theorem ggL_addNote_X7_addNote : GoodIn wsL_addNote wsX7_addNote := goodIn_ca (goodIn_ca (goodIn_r _ [7, 8, 9, 10, 11, 12, 6, 13, 14, 15, 16, 17, 18, 19, 20, 21, 22, 23, 24, 25, 26, 27, 28, 29, 30, 31, 32, 33, 34, 35, 36, 37, 38, 39, 40, 41, 42, 43, 44] (by decide +kernel) (by decide +kernel)) (goodIn_sub (fun _ h => List.mem_cons_of_mem _ (List.mem_append_left _ (List.mem_append_right _ h))) (by decide +kernel))) (goodIn_sub (fun _ h => List.mem_cons_of_mem _ (List.mem_append_right _ h)) (by decide +kernel))
set_option maxRecDepth 20000 in
theorem gL_addNote_X7_addNote : GoodIn wsL_addNote (wsV RL 38 RX7 yX7_addNote wsX7_addNote) := goodIn_app (goodIn_of _ (by decide +kernel)) ggL_addNote_X7_addNote
theorem dL_addNote_0 : decode cL_addNote 0 = .ok (.aload 4, 2) := by decide +kernel
theorem dL_addNote_2 : decode cL_addNote 2 = .ok (.iconst 0, 1) := by decide +kernel
theorem dL_addNote_3 : decode cL_addNote 3 = .ok (.aload_n 0, 1) := by decide +kernel
theorem dL_addNote_4 : decode cL_addNote 4 = .ok (.iload_n 1, 1) := by decide +kernel
theorem dL_addNote_5 : decode cL_addNote 5 = .ok (.iload_n 2, 1) := by decide +kernel
theorem dL_addNote_6 : decode cL_addNote 6 = .ok (.iload_n 3, 1) := by decide +kernel
theorem dL_addNote_7 : decode cL_addNote 7 = .ok (.invokevirtual 38, 3) := by decide +kernel
theorem dL_addNote_10 : decode cL_addNote 10 = .ok (.i2l, 1) := by decide +kernel
theorem dL_addNote_11 : decode cL_addNote 11 = .ok (.lastore, 1) := by decide +kernel
theorem dL_addNote_12 : decode cL_addNote 12 = .ok (.goto 11, 3) := by decide +kernel
theorem dL_addNote_15 : decode cL_addNote 15 = .ok (.astore 5, 2) := by decide +kernel
theorem dL_addNote_17 : decode cL_addNote 17 = .ok (.iconst 1, 1) := by decide +kernel
theorem dL_addNote_18 : decode cL_addNote 18 = .ok (.ireturn, 1) := by decide +kernel
theorem dL_addNote_19 : decode cL_addNote 19 = .ok (.astore 5, 2) := by decide +kernel
theorem dL_addNote_21 : decode cL_addNote 21 = .ok (.iconst 2, 1) := by decide +kernel
theorem dL_addNote_22 : decode cL_addNote 22 = .ok (.ireturn, 1) := by decide +kernel
theorem dL_addNote_23 : decode cL_addNote 23 = .ok (.iconst 0, 1) := by decide +kernel
theorem dL_addNote_24 : decode cL_addNote 24 = .ok (.ireturn, 1) := by decide +kernel
set_option maxRecDepth 20000 in
theorem ggL_removeNote_X7_removeNote : GoodIn wsL_removeNote wsX7_removeNote := goodIn_ca (goodIn_ca (goodIn_r _ [7, 8, 9, 10, 11, 12, 6, 13, 14, 15, 16, 17, 18, 19, 20, 21, 22, 23, 24, 25, 26, 27, 28, 29, 30, 31, 32, 33, 34, 35, 36] (by decide +kernel) (by decide +kernel)) (goodIn_sub (fun _ h => List.mem_cons_of_mem _ (List.mem_append_left _ (List.mem_append_right _ h))) (by decide +kernel))) (goodIn_sub (fun _ h => List.mem_cons_of_mem _ (List.mem_append_right _ h)) (by decide +kernel))
set_option maxRecDepth 20000 in
theorem gL_removeNote_X7_removeNote : GoodIn wsL_removeNote (wsV RL 42 RX7 yX7_removeNote wsX7_removeNote) := goodIn_app (goodIn_of _ (by decide +kernel)) ggL_removeNote_X7_removeNote
theorem dL_removeNote_0 : decode cL_removeNote 0 = .ok (.aload_n 2, 1) := by decide +kernel
theorem dL_removeNote_1 : decode cL_removeNote 1 = .ok (.iconst 0, 1) := by decide +kernel
theorem dL_removeNote_2 : decode cL_removeNote 2 = .ok (.aload_n 0, 1) := by decide +kernel
theorem dL_removeNote_3 : decode cL_removeNote 3 = .ok (.iload_n 1, 1) := by decide +kernel
theorem dL_removeNote_4 : decode cL_removeNote 4 = .ok (.invokevirtual 42, 3) := by decide +kernel
theorem dL_removeNote_7 : decode cL_removeNote 7 = .ok (.i2l, 1) := by decide +kernel
theorem dL_removeNote_8 : decode cL_removeNote 8 = .ok (.lastore, 1) := by decide +kernel
theorem dL_removeNote_9 : decode cL_removeNote 9 = .ok (.goto 9, 3) := by decide +kernel
theorem dL_removeNote_12 : decode cL_removeNote 12 = .ok (.astore_n 3, 1) := by decide +kernel
theorem dL_removeNote_13 : decode cL_removeNote 13 = .ok (.iconst 1, 1) := by decide +kernel
theorem dL_removeNote_14 : decode cL_removeNote 14 = .ok (.ireturn, 1) := by decide +kernel
theorem dL_removeNote_15 : decode cL_removeNote 15 = .ok (.astore_n 3, 1) := by decide +kernel
theorem dL_removeNote_16 : decode cL_removeNote 16 = .ok (.iconst 2, 1) := by decide +kernel
theorem dL_removeNote_17 : decode cL_removeNote 17 = .ok (.ireturn, 1) := by decide +kernel
theorem dL_removeNote_18 : decode cL_removeNote 18 = .ok (.iconst 0, 1) := by decide +kernel
theorem dL_removeNote_19 : decode cL_removeNote 19 = .ok (.ireturn, 1) := by decide +kernel
set_option maxRecDepth 20000 in
theorem ggL_setWish_X7_setWish : GoodIn wsL_setWish wsX7_setWish := goodIn_ca (goodIn_ca (goodIn_r _ [7, 8, 9, 10, 6, 11, 12, 13, 14, 15, 16, 17, 18, 19, 20, 21, 22, 23, 24, 25, 26, 27, 28, 29, 30, 31, 32, 33, 34, 35, 36, 37, 38, 39, 40] (by decide +kernel) (by decide +kernel)) (goodIn_sub (fun _ h => List.mem_cons_of_mem _ (List.mem_append_left _ (List.mem_append_right _ h))) (by decide +kernel))) (goodIn_sub (fun _ h => List.mem_cons_of_mem _ (List.mem_append_right _ h)) (by decide +kernel))
set_option maxRecDepth 20000 in
theorem gL_setWish_X7_setWish : GoodIn wsL_setWish (wsV RL 47 RX7 yX7_setWish wsX7_setWish) := goodIn_app (goodIn_of _ (by decide +kernel)) ggL_setWish_X7_setWish
theorem dL_setWish_0 : decode cL_setWish 0 = .ok (.aload 4, 2) := by decide +kernel
theorem dL_setWish_2 : decode cL_setWish 2 = .ok (.iconst 0, 1) := by decide +kernel
theorem dL_setWish_3 : decode cL_setWish 3 = .ok (.aload_n 0, 1) := by decide +kernel
theorem dL_setWish_4 : decode cL_setWish 4 = .ok (.iload_n 1, 1) := by decide +kernel
theorem dL_setWish_5 : decode cL_setWish 5 = .ok (.iload_n 2, 1) := by decide +kernel
theorem dL_setWish_6 : decode cL_setWish 6 = .ok (.iload_n 3, 1) := by decide +kernel
theorem dL_setWish_7 : decode cL_setWish 7 = .ok (.invokevirtual 47, 3) := by decide +kernel
theorem dL_setWish_10 : decode cL_setWish 10 = .ok (.ifCond .eq 7, 3) := by decide +kernel
theorem dL_setWish_13 : decode cL_setWish 13 = .ok (.lconst 1, 1) := by decide +kernel
theorem dL_setWish_14 : decode cL_setWish 14 = .ok (.goto 4, 3) := by decide +kernel
theorem dL_setWish_17 : decode cL_setWish 17 = .ok (.lconst 0, 1) := by decide +kernel
theorem dL_setWish_18 : decode cL_setWish 18 = .ok (.lastore, 1) := by decide +kernel
theorem dL_setWish_19 : decode cL_setWish 19 = .ok (.goto 11, 3) := by decide +kernel
theorem dL_setWish_22 : decode cL_setWish 22 = .ok (.astore 5, 2) := by decide +kernel
theorem dL_setWish_24 : decode cL_setWish 24 = .ok (.iconst 1, 1) := by decide +kernel
theorem dL_setWish_25 : decode cL_setWish 25 = .ok (.ireturn, 1) := by decide +kernel
theorem dL_setWish_26 : decode cL_setWish 26 = .ok (.astore 5, 2) := by decide +kernel
theorem dL_setWish_28 : decode cL_setWish 28 = .ok (.iconst 2, 1) := by decide +kernel
theorem dL_setWish_29 : decode cL_setWish 29 = .ok (.ireturn, 1) := by decide +kernel
theorem dL_setWish_30 : decode cL_setWish 30 = .ok (.iconst 0, 1) := by decide +kernel
theorem dL_setWish_31 : decode cL_setWish 31 = .ok (.ireturn, 1) := by decide +kernel
set_option maxRecDepth 20000 in
theorem ggL_notes_X7_notes : GoodIn wsL_notes wsX7_notes := goodIn_ca (goodIn_r _ [6, 7, 8, 9, 5, 10, 11, 12, 13, 14, 15, 16, 17, 18, 19, 20, 21, 22, 23, 24, 25, 26, 27, 28] (by decide +kernel) (by decide +kernel)) (goodIn_sub (fun _ h => List.mem_cons_of_mem _ (List.mem_append_right _ h)) (by decide +kernel))
set_option maxRecDepth 20000 in
theorem gL_notes_X7_notes : GoodIn wsL_notes (wsV RL 51 RX7 yX7_notes wsX7_notes) := goodIn_app (goodIn_of _ (by decide +kernel)) ggL_notes_X7_notes
theorem dL_notes_0 : decode cL_notes 0 = .ok (.aload_n 2, 1) := by decide +kernel
theorem dL_notes_1 : decode cL_notes 1 = .ok (.iconst 0, 1) := by decide +kernel
theorem dL_notes_2 : decode cL_notes 2 = .ok (.aload_n 0, 1) := by decide +kernel
theorem dL_notes_3 : decode cL_notes 3 = .ok (.iload_n 1, 1) := by decide +kernel
theorem dL_notes_4 : decode cL_notes 4 = .ok (.invokevirtual 51, 3) := by decide +kernel
theorem dL_notes_7 : decode cL_notes 7 = .ok (.i2l, 1) := by decide +kernel
theorem dL_notes_8 : decode cL_notes 8 = .ok (.lastore, 1) := by decide +kernel
theorem dL_notes_9 : decode cL_notes 9 = .ok (.goto 6, 3) := by decide +kernel
theorem dL_notes_12 : decode cL_notes 12 = .ok (.astore_n 3, 1) := by decide +kernel
theorem dL_notes_13 : decode cL_notes 13 = .ok (.iconst 1, 1) := by decide +kernel
theorem dL_notes_14 : decode cL_notes 14 = .ok (.ireturn, 1) := by decide +kernel
theorem dL_notes_15 : decode cL_notes 15 = .ok (.iconst 0, 1) := by decide +kernel
theorem dL_notes_16 : decode cL_notes 16 = .ok (.ireturn, 1) := by decide +kernel
set_option maxRecDepth 20000 in
theorem ggL_time_X7_time : GoodIn wsL_time wsX7_time := goodIn_ca (goodIn_ca (goodIn_ca (goodIn_r _ [8, 9, 10, 11, 12, 13, 14, 15, 7, 16, 17, 18, 19, 20, 21, 22, 23, 24, 25, 26, 27, 28, 29, 30, 31, 32, 33, 34, 35, 36, 37, 38, 39, 40, 41, 42, 43, 44, 45, 46, 47, 48, 49, 50, 51, 52, 53, 54, 55, 56, 57, 58, 59, 60, 61, 62, 63, 64, 65, 66, 67, 68, 69, 70, 71, 72, 73, 74, 75, 76, 77, 78, 79, 80, 81, 82, 83, 84, 85, 86, 87, 88, 89, 90, 91, 92, 93, 94, 95, 96, 97, 98, 99, 100, 101, 102, 103, 104, 105, 106, 107, 108, 109, 110, 111, 112, 113, 114, 115, 116, 117, 118, 119, 120, 121, 122, 123, 124, 125, 126, 127, 128, 129, 130, 131, 132, 133, 134, 135, 136, 137, 138, 139, 140, 141, 142, 143, 144, 145, 146, 147, 148, 149] (by decide +kernel) (by decide +kernel)) (goodIn_sub (fun _ h => List.mem_cons_of_mem _ (List.mem_append_left _ (List.mem_append_left _ (List.mem_append_right _ h)))) (by decide +kernel))) (goodIn_sub (fun _ h => List.mem_cons_of_mem _ (List.mem_append_left _ (List.mem_append_right _ h))) (by decide +kernel))) (goodIn_sub (fun _ h => List.mem_cons_of_mem _ (List.mem_append_right _ h)) (by decide +kernel))
set_option maxRecDepth 20000 in
theorem gL_time_X7_time : GoodIn wsL_time (wsV RL 54 RX7 yX7_time wsX7_time) := goodIn_app (goodIn_of _ (by decide +kernel)) ggL_time_X7_time
theorem dL_time_0 : decode cL_time 0 = .ok (.aload_n 3, 1) := by decide +kernel
theorem dL_time_1 : decode cL_time 1 = .ok (.iconst 0, 1) := by decide +kernel
theorem dL_time_2 : decode cL_time 2 = .ok (.aload_n 0, 1) := by decide +kernel
theorem dL_time_3 : decode cL_time 3 = .ok (.iload_n 1, 1) := by decide +kernel
theorem dL_time_4 : decode cL_time 4 = .ok (.iload_n 2, 1) := by decide +kernel
theorem dL_time_5 : decode cL_time 5 = .ok (.invokevirtual 54, 3) := by decide +kernel
theorem dL_time_8 : decode cL_time 8 = .ok (.i2l, 1) := by decide +kernel
theorem dL_time_9 : decode cL_time 9 = .ok (.lastore, 1) := by decide +kernel
theorem dL_time_10 : decode cL_time 10 = .ok (.goto 15, 3) := by decide +kernel
theorem dL_time_13 : decode cL_time 13 = .ok (.astore 4, 2) := by decide +kernel
theorem dL_time_15 : decode cL_time 15 = .ok (.iconst 1, 1) := by decide +kernel
theorem dL_time_16 : decode cL_time 16 = .ok (.ireturn, 1) := by decide +kernel
theorem dL_time_17 : decode cL_time 17 = .ok (.astore 4, 2) := by decide +kernel
theorem dL_time_19 : decode cL_time 19 = .ok (.iconst 2, 1) := by decide +kernel
theorem dL_time_20 : decode cL_time 20 = .ok (.ireturn, 1) := by decide +kernel
theorem dL_time_21 : decode cL_time 21 = .ok (.astore 4, 2) := by decide +kernel
theorem dL_time_23 : decode cL_time 23 = .ok (.iconst 3, 1) := by decide +kernel
theorem dL_time_24 : decode cL_time 24 = .ok (.ireturn, 1) := by decide +kernel
theorem dL_time_25 : decode cL_time 25 = .ok (.iconst 0, 1) := by decide +kernel
theorem dL_time_26 : decode cL_time 26 = .ok (.ireturn, 1) := by decide +kernel
set_option maxRecDepth 20000 in
theorem ggL_fitting_X7_fitting : GoodIn wsL_fitting wsX7_fitting := goodIn_ca (goodIn_ca (goodIn_r _ [7, 8, 9, 10, 11, 12, 13, 6, 14, 15, 16, 17, 18, 19, 20, 21, 22, 23, 24, 25, 26, 27, 28, 29, 30, 31, 32, 33, 34, 35, 36, 37, 38, 39, 40, 41, 42, 43, 44, 45, 46, 47, 48, 49, 50, 51, 52, 53, 54, 55, 56, 57, 58, 59, 60, 61, 62, 63, 64, 65, 66, 67, 68, 69, 70, 71, 72, 73, 74, 75, 76, 77, 78, 79, 80, 81, 82, 83, 84, 85, 86, 87, 88] (by decide +kernel) (by decide +kernel)) (goodIn_sub (fun _ h => List.mem_cons_of_mem _ (List.mem_append_left _ (List.mem_append_right _ h))) (by decide +kernel))) (goodIn_sub (fun _ h => List.mem_cons_of_mem _ (List.mem_append_right _ h)) (by decide +kernel))
set_option maxRecDepth 20000 in
theorem gL_fitting_X7_fitting : GoodIn wsL_fitting (wsV RL 57 RX7 yX7_fitting wsX7_fitting) := goodIn_app (goodIn_of _ (by decide +kernel)) ggL_fitting_X7_fitting
theorem dL_fitting_0 : decode cL_fitting 0 = .ok (.aload_n 3, 1) := by decide +kernel
theorem dL_fitting_1 : decode cL_fitting 1 = .ok (.iconst 0, 1) := by decide +kernel
theorem dL_fitting_2 : decode cL_fitting 2 = .ok (.aload_n 0, 1) := by decide +kernel
theorem dL_fitting_3 : decode cL_fitting 3 = .ok (.iload_n 1, 1) := by decide +kernel
theorem dL_fitting_4 : decode cL_fitting 4 = .ok (.iload_n 2, 1) := by decide +kernel
theorem dL_fitting_5 : decode cL_fitting 5 = .ok (.invokevirtual 57, 3) := by decide +kernel
theorem dL_fitting_8 : decode cL_fitting 8 = .ok (.i2l, 1) := by decide +kernel
theorem dL_fitting_9 : decode cL_fitting 9 = .ok (.lastore, 1) := by decide +kernel
theorem dL_fitting_10 : decode cL_fitting 10 = .ok (.goto 11, 3) := by decide +kernel
theorem dL_fitting_13 : decode cL_fitting 13 = .ok (.astore 4, 2) := by decide +kernel
theorem dL_fitting_15 : decode cL_fitting 15 = .ok (.iconst 1, 1) := by decide +kernel
theorem dL_fitting_16 : decode cL_fitting 16 = .ok (.ireturn, 1) := by decide +kernel
theorem dL_fitting_17 : decode cL_fitting 17 = .ok (.astore 4, 2) := by decide +kernel
theorem dL_fitting_19 : decode cL_fitting 19 = .ok (.iconst 2, 1) := by decide +kernel
theorem dL_fitting_20 : decode cL_fitting 20 = .ok (.ireturn, 1) := by decide +kernel
theorem dL_fitting_21 : decode cL_fitting 21 = .ok (.iconst 0, 1) := by decide +kernel
theorem dL_fitting_22 : decode cL_fitting 22 = .ok (.ireturn, 1) := by decide +kernel
set_option maxRecDepth 20000 in
theorem ggL_choices_X7_choices : GoodIn wsL_choices wsX7_choices := goodIn_ca (goodIn_r _ [6, 7, 8, 9, 10, 11, 12, 5, 13, 14, 15, 16, 17, 18, 19, 20, 21, 22, 23, 24, 25, 26, 27, 28, 29, 30, 31, 32, 33, 34, 35, 36, 37, 38, 39, 40, 41, 42, 43, 44, 45, 46, 47, 48, 49, 50, 51, 52, 53, 54, 55, 56, 57, 58, 59, 60, 61, 62, 63, 64, 65, 66, 67, 68, 69, 70, 71, 72, 73, 74, 75, 76, 77, 78, 79, 80, 81, 82, 83, 84, 85, 86, 87, 88, 89, 90, 91, 92, 93, 94, 95, 96, 97, 98, 99, 100] (by decide +kernel) (by decide +kernel)) (goodIn_sub (fun _ h => List.mem_cons_of_mem _ (List.mem_append_right _ h)) (by decide +kernel))
set_option maxRecDepth 20000 in
theorem gL_choices_X7_choices : GoodIn wsL_choices (wsV RL 60 RX7 yX7_choices wsX7_choices) := goodIn_app (goodIn_of _ (by decide +kernel)) ggL_choices_X7_choices
theorem dL_choices_0 : decode cL_choices 0 = .ok (.aload_n 2, 1) := by decide +kernel
theorem dL_choices_1 : decode cL_choices 1 = .ok (.iconst 0, 1) := by decide +kernel
theorem dL_choices_2 : decode cL_choices 2 = .ok (.aload_n 0, 1) := by decide +kernel
theorem dL_choices_3 : decode cL_choices 3 = .ok (.iload_n 1, 1) := by decide +kernel
theorem dL_choices_4 : decode cL_choices 4 = .ok (.invokevirtual 60, 3) := by decide +kernel
theorem dL_choices_7 : decode cL_choices 7 = .ok (.i2l, 1) := by decide +kernel
theorem dL_choices_8 : decode cL_choices 8 = .ok (.lastore, 1) := by decide +kernel
theorem dL_choices_9 : decode cL_choices 9 = .ok (.goto 6, 3) := by decide +kernel
theorem dL_choices_12 : decode cL_choices 12 = .ok (.astore_n 3, 1) := by decide +kernel
theorem dL_choices_13 : decode cL_choices 13 = .ok (.iconst 1, 1) := by decide +kernel
theorem dL_choices_14 : decode cL_choices 14 = .ok (.ireturn, 1) := by decide +kernel
theorem dL_choices_15 : decode cL_choices 15 = .ok (.iconst 0, 1) := by decide +kernel
theorem dL_choices_16 : decode cL_choices 16 = .ok (.ireturn, 1) := by decide +kernel
set_option maxRecDepth 20000 in
theorem ggL_least_X7_least : GoodIn wsL_least wsX7_least := goodIn_ca (goodIn_ca (goodIn_r _ [7, 8, 9, 6, 10, 11, 12, 13, 14, 15, 16, 17, 18, 19, 20, 21, 22, 23, 24, 25, 26, 27, 28, 29, 30, 31, 32, 33, 34, 35, 36, 37, 38, 39, 40, 41, 42, 43, 44, 45, 46, 47, 48, 49, 50, 51, 52, 53, 54, 55, 56, 57, 58, 59, 60, 61, 62, 63, 64, 65, 66, 67, 68, 69, 70, 71, 72, 73, 74, 75, 76, 77, 78, 79, 80, 81, 82, 83, 84, 85, 86, 87, 88, 89, 90, 91, 92, 93, 94, 95, 96, 97, 98, 99, 100, 101, 102, 103, 104, 105, 106, 107, 108, 109, 110, 111, 112, 113, 114, 115, 116, 117, 118, 119, 120, 121, 122, 123, 124] (by decide +kernel) (by decide +kernel)) (goodIn_sub (fun _ h => List.mem_cons_of_mem _ (List.mem_append_left _ (List.mem_append_right _ h))) (by decide +kernel))) (goodIn_sub (fun _ h => List.mem_cons_of_mem _ (List.mem_append_right _ h)) (by decide +kernel))
set_option maxRecDepth 20000 in
theorem gL_least_X7_least : GoodIn wsL_least (wsV RL 63 RX7 yX7_least wsX7_least) := goodIn_app (goodIn_of _ (by decide +kernel)) ggL_least_X7_least
theorem dL_least_0 : decode cL_least 0 = .ok (.aload_n 2, 1) := by decide +kernel
theorem dL_least_1 : decode cL_least 1 = .ok (.iconst 0, 1) := by decide +kernel
theorem dL_least_2 : decode cL_least 2 = .ok (.aload_n 0, 1) := by decide +kernel
theorem dL_least_3 : decode cL_least 3 = .ok (.iload_n 1, 1) := by decide +kernel
theorem dL_least_4 : decode cL_least 4 = .ok (.invokevirtual 63, 3) := by decide +kernel
theorem dL_least_7 : decode cL_least 7 = .ok (.i2l, 1) := by decide +kernel
theorem dL_least_8 : decode cL_least 8 = .ok (.lastore, 1) := by decide +kernel
theorem dL_least_9 : decode cL_least 9 = .ok (.goto 9, 3) := by decide +kernel
theorem dL_least_12 : decode cL_least 12 = .ok (.astore_n 3, 1) := by decide +kernel
theorem dL_least_13 : decode cL_least 13 = .ok (.iconst 1, 1) := by decide +kernel
theorem dL_least_14 : decode cL_least 14 = .ok (.ireturn, 1) := by decide +kernel
theorem dL_least_15 : decode cL_least 15 = .ok (.astore_n 3, 1) := by decide +kernel
theorem dL_least_16 : decode cL_least 16 = .ok (.iconst 2, 1) := by decide +kernel
theorem dL_least_17 : decode cL_least 17 = .ok (.ireturn, 1) := by decide +kernel
theorem dL_least_18 : decode cL_least 18 = .ok (.iconst 0, 1) := by decide +kernel
theorem dL_least_19 : decode cL_least 19 = .ok (.ireturn, 1) := by decide +kernel
set_option maxRecDepth 20000 in
theorem ggL_chosen_X7_chosen : GoodIn wsL_chosen wsX7_chosen := goodIn_ca (goodIn_ca (goodIn_ca (goodIn_r _ [8, 9, 10, 11, 7, 12, 13, 14, 15, 16, 17, 18, 19, 20, 21, 22, 23, 24, 25, 26, 27, 28, 29, 30, 31, 32, 33, 34, 35, 36, 37, 38, 39, 40, 41, 42, 43, 44, 45, 46, 47, 48, 49, 50, 51, 52, 53, 54, 55, 56, 57, 58, 59, 60, 61, 62, 63, 64, 65, 66, 67, 68, 69, 70, 71, 72, 73, 74, 75, 76, 77, 78, 79, 80, 81, 82, 83, 84, 85, 86, 87, 88, 89, 90, 91, 92, 93, 94, 95, 96, 97, 98, 99, 100, 101, 102, 103, 104, 105, 106, 107, 108, 109, 110, 111, 112, 113, 114, 115, 116, 117, 118, 119, 120, 121, 122, 123, 124, 125, 126, 127, 128, 129, 130, 131, 132, 133, 134, 135, 136, 137] (by decide +kernel) (by decide +kernel)) (goodIn_sub (fun _ h => List.mem_cons_of_mem _ (List.mem_append_left _ (List.mem_append_left _ (List.mem_append_right _ h)))) (by decide +kernel))) (goodIn_sub (fun _ h => List.mem_cons_of_mem _ (List.mem_append_left _ (List.mem_append_right _ h))) (by decide +kernel))) (goodIn_sub (fun _ h => List.mem_cons_of_mem _ (List.mem_append_right _ h)) (by decide +kernel))
set_option maxRecDepth 20000 in
theorem gL_chosen_X7_chosen : GoodIn wsL_chosen (wsV RL 66 RX7 yX7_chosen wsX7_chosen) := goodIn_app (goodIn_of _ (by decide +kernel)) ggL_chosen_X7_chosen
theorem dL_chosen_0 : decode cL_chosen 0 = .ok (.aload_n 3, 1) := by decide +kernel
theorem dL_chosen_1 : decode cL_chosen 1 = .ok (.iconst 0, 1) := by decide +kernel
theorem dL_chosen_2 : decode cL_chosen 2 = .ok (.aload_n 0, 1) := by decide +kernel
theorem dL_chosen_3 : decode cL_chosen 3 = .ok (.iload_n 1, 1) := by decide +kernel
theorem dL_chosen_4 : decode cL_chosen 4 = .ok (.iload_n 2, 1) := by decide +kernel
theorem dL_chosen_5 : decode cL_chosen 5 = .ok (.invokevirtual 66, 3) := by decide +kernel
theorem dL_chosen_8 : decode cL_chosen 8 = .ok (.i2l, 1) := by decide +kernel
theorem dL_chosen_9 : decode cL_chosen 9 = .ok (.lastore, 1) := by decide +kernel
theorem dL_chosen_10 : decode cL_chosen 10 = .ok (.goto 15, 3) := by decide +kernel
theorem dL_chosen_13 : decode cL_chosen 13 = .ok (.astore 4, 2) := by decide +kernel
theorem dL_chosen_15 : decode cL_chosen 15 = .ok (.iconst 1, 1) := by decide +kernel
theorem dL_chosen_16 : decode cL_chosen 16 = .ok (.ireturn, 1) := by decide +kernel
theorem dL_chosen_17 : decode cL_chosen 17 = .ok (.astore 4, 2) := by decide +kernel
theorem dL_chosen_19 : decode cL_chosen 19 = .ok (.iconst 2, 1) := by decide +kernel
theorem dL_chosen_20 : decode cL_chosen 20 = .ok (.ireturn, 1) := by decide +kernel
theorem dL_chosen_21 : decode cL_chosen 21 = .ok (.astore 4, 2) := by decide +kernel
theorem dL_chosen_23 : decode cL_chosen 23 = .ok (.iconst 3, 1) := by decide +kernel
theorem dL_chosen_24 : decode cL_chosen 24 = .ok (.ireturn, 1) := by decide +kernel
theorem dL_chosen_25 : decode cL_chosen 25 = .ok (.iconst 0, 1) := by decide +kernel
theorem dL_chosen_26 : decode cL_chosen 26 = .ok (.ireturn, 1) := by decide +kernel
set_option maxRecDepth 20000 in
theorem ggL_mostOrnaments_X7_mostOrnaments : GoodIn wsL_mostOrnaments wsX7_mostOrnaments := goodIn_ca (goodIn_ca (goodIn_r _ [7, 8, 9, 10, 11, 6, 12, 13, 14, 15, 16, 17, 18, 19, 20, 21, 22, 23, 24, 25, 26, 27, 28, 29, 30, 31, 32, 33, 34, 35, 36, 37, 38, 39, 40, 41, 42, 43, 44, 45, 46, 47, 48, 49, 50, 51, 52, 53, 54, 55, 56, 57, 58, 59, 60, 61, 62, 63, 64, 65, 66, 67, 68, 69, 70, 71, 72, 73, 74, 75, 76, 77, 78, 79, 80, 81, 82, 83, 84, 85, 86, 87, 88, 89, 90, 91, 92, 93, 94, 95, 96, 97, 98, 99, 100, 101, 102, 103, 104, 105, 106, 107, 108, 109, 110, 111, 112, 113, 114, 115, 116, 117, 118, 119, 120, 121, 122, 123, 124, 125, 126, 127, 128, 129, 130, 131, 132] (by decide +kernel) (by decide +kernel)) (goodIn_sub (fun _ h => List.mem_cons_of_mem _ (List.mem_append_left _ (List.mem_append_right _ h))) (by decide +kernel))) (goodIn_sub (fun _ h => List.mem_cons_of_mem _ (List.mem_append_right _ h)) (by decide +kernel))
set_option maxRecDepth 20000 in
theorem gL_mostOrnaments_X7_mostOrnaments : GoodIn wsL_mostOrnaments (wsV RL 69 RX7 yX7_mostOrnaments wsX7_mostOrnaments) := goodIn_app (goodIn_of _ (by decide +kernel)) ggL_mostOrnaments_X7_mostOrnaments
theorem dL_mostOrnaments_0 : decode cL_mostOrnaments 0 = .ok (.aload_n 2, 1) := by decide +kernel
theorem dL_mostOrnaments_1 : decode cL_mostOrnaments 1 = .ok (.iconst 0, 1) := by decide +kernel
theorem dL_mostOrnaments_2 : decode cL_mostOrnaments 2 = .ok (.aload_n 0, 1) := by decide +kernel
theorem dL_mostOrnaments_3 : decode cL_mostOrnaments 3 = .ok (.iload_n 1, 1) := by decide +kernel
theorem dL_mostOrnaments_4 : decode cL_mostOrnaments 4 = .ok (.invokevirtual 69, 3) := by decide +kernel
theorem dL_mostOrnaments_7 : decode cL_mostOrnaments 7 = .ok (.i2l, 1) := by decide +kernel
theorem dL_mostOrnaments_8 : decode cL_mostOrnaments 8 = .ok (.lastore, 1) := by decide +kernel
theorem dL_mostOrnaments_9 : decode cL_mostOrnaments 9 = .ok (.goto 9, 3) := by decide +kernel
theorem dL_mostOrnaments_12 : decode cL_mostOrnaments 12 = .ok (.astore_n 3, 1) := by decide +kernel
theorem dL_mostOrnaments_13 : decode cL_mostOrnaments 13 = .ok (.iconst 1, 1) := by decide +kernel
theorem dL_mostOrnaments_14 : decode cL_mostOrnaments 14 = .ok (.ireturn, 1) := by decide +kernel
theorem dL_mostOrnaments_15 : decode cL_mostOrnaments 15 = .ok (.astore_n 3, 1) := by decide +kernel
theorem dL_mostOrnaments_16 : decode cL_mostOrnaments 16 = .ok (.iconst 2, 1) := by decide +kernel
theorem dL_mostOrnaments_17 : decode cL_mostOrnaments 17 = .ok (.ireturn, 1) := by decide +kernel
theorem dL_mostOrnaments_18 : decode cL_mostOrnaments 18 = .ok (.iconst 0, 1) := by decide +kernel
theorem dL_mostOrnaments_19 : decode cL_mostOrnaments 19 = .ok (.ireturn, 1) := by decide +kernel
set_option maxRecDepth 20000 in
theorem ggL_average_X7_average : GoodIn wsL_average wsX7_average := goodIn_ca (goodIn_ca (goodIn_r _ [7, 8, 9, 10, 6, 11, 12, 13, 14, 15, 16, 17, 18, 19, 20, 21, 22, 23, 24, 25, 26, 27, 28, 29, 30, 31, 32, 33, 34, 35, 36, 37, 38, 39, 40, 41, 42, 43, 44, 45, 46, 47, 48, 49, 50, 51, 52, 53, 54, 55, 56, 57, 58, 59, 60, 61, 62, 63, 64, 65, 66, 67, 68, 69, 70, 71, 72, 73, 74, 75, 76, 77, 78, 79, 80, 81, 82, 83, 84, 85, 86, 87, 88, 89, 90, 91, 92, 93, 94, 95, 96, 97, 98, 99, 100, 101, 102, 103, 104, 105, 106, 107, 108, 109, 110, 111, 112, 113, 114, 115, 116, 117, 118, 119, 120, 121, 122, 123, 124, 125] (by decide +kernel) (by decide +kernel)) (goodIn_sub (fun _ h => List.mem_cons_of_mem _ (List.mem_append_left _ (List.mem_append_right _ h))) (by decide +kernel))) (goodIn_sub (fun _ h => List.mem_cons_of_mem _ (List.mem_append_right _ h)) (by decide +kernel))
set_option maxRecDepth 20000 in
theorem gL_average_X7_average : GoodIn wsL_average (wsV RL 72 RX7 yX7_average wsX7_average) := goodIn_app (goodIn_of _ (by decide +kernel)) ggL_average_X7_average
theorem dL_average_0 : decode cL_average 0 = .ok (.aload_n 2, 1) := by decide +kernel
theorem dL_average_1 : decode cL_average 1 = .ok (.iconst 0, 1) := by decide +kernel
theorem dL_average_2 : decode cL_average 2 = .ok (.aload_n 0, 1) := by decide +kernel
theorem dL_average_3 : decode cL_average 3 = .ok (.iload_n 1, 1) := by decide +kernel
theorem dL_average_4 : decode cL_average 4 = .ok (.invokevirtual 72, 3) := by decide +kernel
theorem dL_average_7 : decode cL_average 7 = .ok (.f2d, 1) := by decide +kernel
theorem dL_average_8 : decode cL_average 8 = .ok (.dastore, 1) := by decide +kernel
theorem dL_average_9 : decode cL_average 9 = .ok (.goto 9, 3) := by decide +kernel
theorem dL_average_12 : decode cL_average 12 = .ok (.astore_n 3, 1) := by decide +kernel
theorem dL_average_13 : decode cL_average 13 = .ok (.iconst 1, 1) := by decide +kernel
theorem dL_average_14 : decode cL_average 14 = .ok (.ireturn, 1) := by decide +kernel
theorem dL_average_15 : decode cL_average 15 = .ok (.astore_n 3, 1) := by decide +kernel
theorem dL_average_16 : decode cL_average 16 = .ok (.iconst 2, 1) := by decide +kernel
theorem dL_average_17 : decode cL_average 17 = .ok (.ireturn, 1) := by decide +kernel
theorem dL_average_18 : decode cL_average 18 = .ok (.iconst 0, 1) := by decide +kernel
theorem dL_average_19 : decode cL_average 19 = .ok (.ireturn, 1) := by decide +kernel
set_option maxRecDepth 20000 in
theorem ggL_leastSet_X7_leastSet : GoodIn wsL_leastSet wsX7_leastSet := goodIn_ca (goodIn_r _ [6, 7, 8, 9, 10, 11, 12, 5, 13, 14, 15, 16, 17, 18, 19, 20, 21, 22, 23, 24, 25, 26, 27, 28, 29, 30, 31, 32, 33, 34, 35, 36, 37, 38, 39, 40, 41, 42, 43, 44, 45, 46, 47, 48, 49, 50, 51, 52, 53, 54, 55, 56, 57, 58, 59, 60, 61, 62, 63, 64, 65, 66, 67, 68, 69, 70, 71, 72, 73, 74, 75, 76, 77, 78, 79, 80, 81, 82, 83, 84, 85, 86, 87, 88, 89, 90, 91, 92, 93, 94, 95, 96, 97, 98, 99, 100, 101, 102, 103, 104, 105, 106, 107, 108, 109, 110, 111, 112, 113, 114, 115, 116, 117, 118, 119, 120, 121, 122, 123, 124, 125, 126, 127, 128, 129, 130, 131, 132, 133, 134, 135, 136, 137, 138, 139, 140, 141, 142, 143, 144, 145, 146, 147, 148, 149, 150, 151, 152, 153, 154, 155, 156, 157, 158, 159, 160, 161, 162, 163, 164, 165, 166, 167, 168, 169, 170] (by decide +kernel) (by decide +kernel)) (goodIn_sub (fun _ h => List.mem_cons_of_mem _ (List.mem_append_right _ h)) (by decide +kernel))
set_option maxRecDepth 20000 in
theorem gL_leastSet_X7_leastSet : GoodIn wsL_leastSet (wsV RL 76 RX7 yX7_leastSet wsX7_leastSet) := goodIn_app (goodIn_of _ (by decide +kernel)) ggL_leastSet_X7_leastSet
theorem dL_leastSet_0 : decode cL_leastSet 0 = .ok (.aload_n 1, 1) := by decide +kernel
theorem dL_leastSet_1 : decode cL_leastSet 1 = .ok (.iconst 0, 1) := by decide +kernel
theorem dL_leastSet_2 : decode cL_leastSet 2 = .ok (.aload_n 0, 1) := by decide +kernel
theorem dL_leastSet_3 : decode cL_leastSet 3 = .ok (.invokevirtual 76, 3) := by decide +kernel
theorem dL_leastSet_6 : decode cL_leastSet 6 = .ok (.i2l, 1) := by decide +kernel
theorem dL_leastSet_7 : decode cL_leastSet 7 = .ok (.lastore, 1) := by decide +kernel
theorem dL_leastSet_8 : decode cL_leastSet 8 = .ok (.goto 6, 3) := by decide +kernel
theorem dL_leastSet_11 : decode cL_leastSet 11 = .ok (.astore_n 2, 1) := by decide +kernel
theorem dL_leastSet_12 : decode cL_leastSet 12 = .ok (.iconst 1, 1) := by decide +kernel
theorem dL_leastSet_13 : decode cL_leastSet 13 = .ok (.ireturn, 1) := by decide +kernel
theorem dL_leastSet_14 : decode cL_leastSet 14 = .ok (.iconst 0, 1) := by decide +kernel
theorem dL_leastSet_15 : decode cL_leastSet 15 = .ok (.ireturn, 1) := by decide +kernel
set_option maxRecDepth 20000 in
theorem ggL_tuneAt_X7_tuneAt : GoodIn wsL_tuneAt wsX7_tuneAt := goodIn_ca (goodIn_ca (goodIn_r _ [7, 8, 9, 10, 11, 12, 13, 14, 15, 6, 16, 17, 18, 19, 20, 21, 22, 23, 24, 25, 26, 27, 28, 29, 30, 31, 32, 33, 34, 35, 36, 37, 38, 39, 40, 41, 42, 43, 44, 45, 46, 47, 48, 49, 50, 51, 52, 53, 54, 55, 56, 57, 58, 59, 60, 61, 62, 63, 64, 65, 66, 67, 68, 69, 70, 71, 72, 73, 74, 75, 76, 77, 78, 79, 80, 81, 82, 83, 84, 85, 86, 87, 88, 89, 90, 91, 92, 93, 94, 95, 96, 97, 98, 99, 100, 101, 102, 103, 104, 105, 106, 107, 108, 109, 110, 111, 112, 113, 114, 115, 116, 117, 118, 119, 120, 121, 122, 123, 124, 125, 126, 127, 128, 129, 130, 131, 132, 133, 134, 135, 136, 137, 138, 139, 140, 141, 142, 143, 144, 145, 146, 147, 148, 149, 150, 151, 152, 153, 154, 155, 156, 157, 158, 159, 160, 161, 162, 163, 164, 165, 166, 167, 168, 169, 170, 171, 172, 173, 174, 175, 176, 177] (by decide +kernel) (by decide +kernel)) (goodIn_sub (fun _ h => List.mem_cons_of_mem _ (List.mem_append_left _ (List.mem_append_right _ h))) (by decide +kernel))) (goodIn_sub (fun _ h => List.mem_cons_of_mem _ (List.mem_append_right _ h)) (by decide +kernel))
set_option maxRecDepth 20000 in
theorem gL_tuneAt_X7_tuneAt : GoodIn wsL_tuneAt (wsV RL 79 RX7 yX7_tuneAt wsX7_tuneAt) := goodIn_app (goodIn_of _ (by decide +kernel)) ggL_tuneAt_X7_tuneAt
theorem dL_tuneAt_0 : decode cL_tuneAt 0 = .ok (.aload_n 2, 1) := by decide +kernel
theorem dL_tuneAt_1 : decode cL_tuneAt 1 = .ok (.iconst 0, 1) := by decide +kernel
theorem dL_tuneAt_2 : decode cL_tuneAt 2 = .ok (.aload_n 0, 1) := by decide +kernel
theorem dL_tuneAt_3 : decode cL_tuneAt 3 = .ok (.iload_n 1, 1) := by decide +kernel
theorem dL_tuneAt_4 : decode cL_tuneAt 4 = .ok (.invokevirtual 79, 3) := by decide +kernel
theorem dL_tuneAt_7 : decode cL_tuneAt 7 = .ok (.i2l, 1) := by decide +kernel
theorem dL_tuneAt_8 : decode cL_tuneAt 8 = .ok (.lastore, 1) := by decide +kernel
theorem dL_tuneAt_9 : decode cL_tuneAt 9 = .ok (.goto 9, 3) := by decide +kernel
theorem dL_tuneAt_12 : decode cL_tuneAt 12 = .ok (.astore_n 3, 1) := by decide +kernel
theorem dL_tuneAt_13 : decode cL_tuneAt 13 = .ok (.iconst 1, 1) := by decide +kernel
theorem dL_tuneAt_14 : decode cL_tuneAt 14 = .ok (.ireturn, 1) := by decide +kernel
theorem dL_tuneAt_15 : decode cL_tuneAt 15 = .ok (.astore_n 3, 1) := by decide +kernel
theorem dL_tuneAt_16 : decode cL_tuneAt 16 = .ok (.iconst 2, 1) := by decide +kernel
theorem dL_tuneAt_17 : decode cL_tuneAt 17 = .ok (.ireturn, 1) := by decide +kernel
theorem dL_tuneAt_18 : decode cL_tuneAt 18 = .ok (.iconst 0, 1) := by decide +kernel
theorem dL_tuneAt_19 : decode cL_tuneAt 19 = .ok (.ireturn, 1) := by decide +kernel
