theorem dL_cell_0 : decode cL_cell 0 = .ok (.iload_n 1, 1) := by decide +kernel
theorem dL_cell_1 : decode cL_cell 1 = .ok (.aload_n 0, 1) := by decide +kernel
theorem dL_cell_2 : decode cL_cell 2 = .ok (.arraylength, 1) := by decide +kernel
theorem dL_cell_3 : decode cL_cell 3 = .ok (.if_icmp .ge 9, 3) := by decide +kernel
theorem dL_cell_6 : decode cL_cell 6 = .ok (.aload_n 0, 1) := by decide +kernel
theorem dL_cell_7 : decode cL_cell 7 = .ok (.iload_n 1, 1) := by decide +kernel
theorem dL_cell_8 : decode cL_cell 8 = .ok (.iaload, 1) := by decide +kernel
theorem dL_cell_9 : decode cL_cell 9 = .ok (.goto 18, 3) := by decide +kernel
theorem dL_cell_12 : decode cL_cell 12 = .ok (.sipush 7919, 3) := by decide +kernel
theorem dL_cell_15 : decode cL_cell 15 = .ok (.iload_n 1, 1) := by decide +kernel
theorem dL_cell_16 : decode cL_cell 16 = .ok (.sipush 313, 3) := by decide +kernel
theorem dL_cell_19 : decode cL_cell 19 = .ok (.iadd, 1) := by decide +kernel
theorem dL_cell_20 : decode cL_cell 20 = .ok (.imul, 1) := by decide +kernel
theorem dL_cell_21 : decode cL_cell 21 = .ok (.iload_n 1, 1) := by decide +kernel
theorem dL_cell_22 : decode cL_cell 22 = .ok (.sipush 1579, 3) := by decide +kernel
theorem dL_cell_25 : decode cL_cell 25 = .ok (.iadd, 1) := by decide +kernel
theorem dL_cell_26 : decode cL_cell 26 = .ok (.imul, 1) := by decide +kernel
theorem dL_cell_27 : decode cL_cell 27 = .ok (.ireturn, 1) := by decide +kernel
theorem dL_low_0 : decode cL_low 0 = .ok (.iload_n 0, 1) := by decide +kernel
theorem dL_low_1 : decode cL_low 1 = .ok (.ldc 7, 2) := by decide +kernel
theorem dL_low_3 : decode cL_low 3 = .ok (.iand, 1) := by decide +kernel
theorem dL_low_4 : decode cL_low 4 = .ok (.iload_n 1, 1) := by decide +kernel
theorem dL_low_5 : decode cL_low 5 = .ok (.irem, 1) := by decide +kernel
theorem dL_low_6 : decode cL_low 6 = .ok (.ireturn, 1) := by decide +kernel
set_option maxRecDepth 20000 in
theorem ggL_setLimit_X7_setLimit : GoodIn wsL_setLimit wsX7_setLimit := goodIn_ca (goodIn_r _ [7, 8, 9, 10, 11, 12, 13, 14, 15, 16, 17, 18, 19, 20, 21, 22, 23, 24, 25, 26, 27, 28, 29, 30, 31, 32, 33, 34, 35, 36] (by decide +kernel) (by decide +kernel)) (goodIn_sub (fun _ h => List.mem_cons_of_mem _ (List.mem_append_right _ h)) (by decide +kernel))
set_option maxRecDepth 20000 in
theorem gL_setLimit_X7_setLimit : GoodIn wsL_setLimit (wsV RL 8 RX7 yX7_setLimit wsX7_setLimit) := goodIn_app (goodIn_of _ (by decide +kernel)) ggL_setLimit_X7_setLimit
theorem dL_setLimit_0 : decode cL_setLimit 0 = .ok (.aload_n 0, 1) := by decide +kernel
theorem dL_setLimit_1 : decode cL_setLimit 1 = .ok (.iload_n 1, 1) := by decide +kernel
theorem dL_setLimit_2 : decode cL_setLimit 2 = .ok (.invokevirtual 8, 3) := by decide +kernel
theorem dL_setLimit_5 : decode cL_setLimit 5 = .ok (.ireturn, 1) := by decide +kernel
theorem dL_setLimit_6 : decode cL_setLimit 6 = .ok (.astore_n 2, 1) := by decide +kernel
theorem dL_setLimit_7 : decode cL_setLimit 7 = .ok (.ldc 16, 2) := by decide +kernel
theorem dL_setLimit_9 : decode cL_setLimit 9 = .ok (.ireturn, 1) := by decide +kernel
set_option maxRecDepth 20000 in
theorem ggL_grace_X7_grace : GoodIn wsL_grace wsX7_grace := goodIn_ca (goodIn_ca (goodIn_r _ [8, 9, 10, 11, 12, 13, 14, 15, 16, 17, 18, 19, 20, 21, 22, 23, 24, 25, 26, 27, 28, 29, 30, 31, 32, 33] (by decide +kernel) (by decide +kernel)) (goodIn_sub (fun _ h => List.mem_cons_of_mem _ (List.mem_append_left _ (List.mem_append_right _ h))) (by decide +kernel))) (goodIn_sub (fun _ h => List.mem_cons_of_mem _ (List.mem_append_right _ h)) (by decide +kernel))
set_option maxRecDepth 20000 in
theorem gL_grace_X7_grace : GoodIn wsL_grace (wsV RL 17 RX7 yX7_grace wsX7_grace) := goodIn_app (goodIn_of _ (by decide +kernel)) ggL_grace_X7_grace
theorem dL_grace_0 : decode cL_grace 0 = .ok (.aload_n 0, 1) := by decide +kernel
theorem dL_grace_1 : decode cL_grace 1 = .ok (.iload_n 1, 1) := by decide +kernel
theorem dL_grace_2 : decode cL_grace 2 = .ok (.invokevirtual 17, 3) := by decide +kernel
theorem dL_grace_5 : decode cL_grace 5 = .ok (.ireturn, 1) := by decide +kernel
theorem dL_grace_6 : decode cL_grace 6 = .ok (.astore_n 2, 1) := by decide +kernel
theorem dL_grace_7 : decode cL_grace 7 = .ok (.ldc 16, 2) := by decide +kernel
theorem dL_grace_9 : decode cL_grace 9 = .ok (.ireturn, 1) := by decide +kernel
theorem dL_grace_10 : decode cL_grace 10 = .ok (.astore_n 2, 1) := by decide +kernel
theorem dL_grace_11 : decode cL_grace 11 = .ok (.ldc 16, 2) := by decide +kernel
theorem dL_grace_13 : decode cL_grace 13 = .ok (.ireturn, 1) := by decide +kernel
set_option maxRecDepth 20000 in
theorem ggL_enter_X7_enter : GoodIn wsL_enter wsX7_enter := goodIn_ca (goodIn_r _ [7, 8, 9, 10, 11, 12, 13, 14, 15, 16, 17, 18, 19, 20, 21, 22, 23, 24, 25, 26, 27, 28, 29, 30, 31, 32, 33, 34, 35, 36, 37, 38, 39, 40, 41, 42, 43, 44, 45, 46, 47, 48, 49, 50, 51, 52, 53, 54, 55, 56, 57, 58, 59, 60, 61, 62, 63, 64, 65, 66] (by decide +kernel) (by decide +kernel)) (goodIn_sub (fun _ h => List.mem_cons_of_mem _ (List.mem_append_right _ h)) (by decide +kernel))
set_option maxRecDepth 20000 in
theorem gL_enter_X7_enter : GoodIn wsL_enter (wsV RL 22 RX7 yX7_enter wsX7_enter) := goodIn_app (goodIn_of _ (by decide +kernel)) ggL_enter_X7_enter
theorem dL_enter_0 : decode cL_enter 0 = .ok (.aload_n 0, 1) := by decide +kernel
theorem dL_enter_1 : decode cL_enter 1 = .ok (.invokevirtual 22, 3) := by decide +kernel
theorem dL_enter_4 : decode cL_enter 4 = .ok (.ireturn, 1) := by decide +kernel
theorem dL_enter_5 : decode cL_enter 5 = .ok (.astore_n 1, 1) := by decide +kernel
theorem dL_enter_6 : decode cL_enter 6 = .ok (.ldc 16, 2) := by decide +kernel
theorem dL_enter_8 : decode cL_enter 8 = .ok (.ireturn, 1) := by decide +kernel
set_option maxRecDepth 20000 in
theorem ggL_addNote_X7_addNote : GoodIn wsL_addNote wsX7_addNote := goodIn_ca (goodIn_ca (goodIn_r _ [8, 9, 10, 11, 12, 13, 7, 14, 15, 16, 17, 18, 19, 20, 21, 22, 23, 24, 25, 26, 27, 28, 29, 30, 31, 32, 33, 34, 35, 36, 37, 38, 39, 40, 41, 42, 43, 44, 45] (by decide +kernel) (by decide +kernel)) (goodIn_sub (fun _ h => List.mem_cons_of_mem _ (List.mem_append_left _ (List.mem_append_right _ h))) (by decide +kernel))) (goodIn_sub (fun _ h => List.mem_cons_of_mem _ (List.mem_append_right _ h)) (by decide +kernel))
set_option maxRecDepth 20000 in
theorem gL_addNote_X7_addNote : GoodIn wsL_addNote (wsV RL 26 RX7 yX7_addNote wsX7_addNote) := goodIn_app (goodIn_of _ (by decide +kernel)) ggL_addNote_X7_addNote
theorem dL_addNote_0 : decode cL_addNote 0 = .ok (.aload_n 0, 1) := by decide +kernel
theorem dL_addNote_1 : decode cL_addNote 1 = .ok (.iload_n 1, 1) := by decide +kernel
theorem dL_addNote_2 : decode cL_addNote 2 = .ok (.iload_n 2, 1) := by decide +kernel
theorem dL_addNote_3 : decode cL_addNote 3 = .ok (.iload_n 3, 1) := by decide +kernel
theorem dL_addNote_4 : decode cL_addNote 4 = .ok (.invokevirtual 26, 3) := by decide +kernel
theorem dL_addNote_7 : decode cL_addNote 7 = .ok (.ireturn, 1) := by decide +kernel
theorem dL_addNote_8 : decode cL_addNote 8 = .ok (.astore 4, 2) := by decide +kernel
theorem dL_addNote_10 : decode cL_addNote 10 = .ok (.ldc 16, 2) := by decide +kernel
theorem dL_addNote_12 : decode cL_addNote 12 = .ok (.ireturn, 1) := by decide +kernel
theorem dL_addNote_13 : decode cL_addNote 13 = .ok (.astore 4, 2) := by decide +kernel
theorem dL_addNote_15 : decode cL_addNote 15 = .ok (.ldc 16, 2) := by decide +kernel
theorem dL_addNote_17 : decode cL_addNote 17 = .ok (.ireturn, 1) := by decide +kernel
set_option maxRecDepth 20000 in
theorem ggL_removeNote_X7_removeNote : GoodIn wsL_removeNote wsX7_removeNote := goodIn_ca (goodIn_ca (goodIn_r _ [8, 9, 10, 11, 12, 13, 7, 14, 15, 16, 17, 18, 19, 20, 21, 22, 23, 24, 25, 26, 27, 28, 29, 30, 31, 32, 33, 34, 35, 36, 37] (by decide +kernel) (by decide +kernel)) (goodIn_sub (fun _ h => List.mem_cons_of_mem _ (List.mem_append_left _ (List.mem_append_right _ h))) (by decide +kernel))) (goodIn_sub (fun _ h => List.mem_cons_of_mem _ (List.mem_append_right _ h)) (by decide +kernel))
set_option maxRecDepth 20000 in
theorem gL_removeNote_X7_removeNote : GoodIn wsL_removeNote (wsV RL 30 RX7 yX7_removeNote wsX7_removeNote) := goodIn_app (goodIn_of _ (by decide +kernel)) ggL_removeNote_X7_removeNote
theorem dL_removeNote_0 : decode cL_removeNote 0 = .ok (.aload_n 0, 1) := by decide +kernel
theorem dL_removeNote_1 : decode cL_removeNote 1 = .ok (.iload_n 1, 1) := by decide +kernel
theorem dL_removeNote_2 : decode cL_removeNote 2 = .ok (.invokevirtual 30, 3) := by decide +kernel
theorem dL_removeNote_5 : decode cL_removeNote 5 = .ok (.ireturn, 1) := by decide +kernel
theorem dL_removeNote_6 : decode cL_removeNote 6 = .ok (.astore_n 2, 1) := by decide +kernel
theorem dL_removeNote_7 : decode cL_removeNote 7 = .ok (.ldc 16, 2) := by decide +kernel
theorem dL_removeNote_9 : decode cL_removeNote 9 = .ok (.ireturn, 1) := by decide +kernel
theorem dL_removeNote_10 : decode cL_removeNote 10 = .ok (.astore_n 2, 1) := by decide +kernel
theorem dL_removeNote_11 : decode cL_removeNote 11 = .ok (.ldc 16, 2) := by decide +kernel
theorem dL_removeNote_13 : decode cL_removeNote 13 = .ok (.ireturn, 1) := by decide +kernel
set_option maxRecDepth 20000 in
theorem ggL_setWish_X7_setWish : GoodIn wsL_setWish wsX7_setWish := goodIn_ca (goodIn_ca (goodIn_r _ [8, 9, 10, 11, 7, 12, 13, 14, 15, 16, 17, 18, 19, 20, 21, 22, 23, 24, 25, 26, 27, 28, 29, 30, 31, 32, 33, 34, 35, 36, 37, 38, 39, 40, 41] (by decide +kernel) (by decide +kernel)) (goodIn_sub (fun _ h => List.mem_cons_of_mem _ (List.mem_append_left _ (List.mem_append_right _ h))) (by decide +kernel))) (goodIn_sub (fun _ h => List.mem_cons_of_mem _ (List.mem_append_right _ h)) (by decide +kernel))
set_option maxRecDepth 20000 in
theorem gL_setWish_X7_setWish : GoodIn wsL_setWish (wsV RL 35 RX7 yX7_setWish wsX7_setWish) := goodIn_app (goodIn_of _ (by decide +kernel)) ggL_setWish_X7_setWish
theorem dL_setWish_0 : decode cL_setWish 0 = .ok (.aload_n 0, 1) := by decide +kernel
theorem dL_setWish_1 : decode cL_setWish 1 = .ok (.iload_n 1, 1) := by decide +kernel
theorem dL_setWish_2 : decode cL_setWish 2 = .ok (.iload_n 2, 1) := by decide +kernel
theorem dL_setWish_3 : decode cL_setWish 3 = .ok (.iload_n 3, 1) := by decide +kernel
theorem dL_setWish_4 : decode cL_setWish 4 = .ok (.invokevirtual 35, 3) := by decide +kernel
theorem dL_setWish_7 : decode cL_setWish 7 = .ok (.ifCond .eq 7, 3) := by decide +kernel
theorem dL_setWish_10 : decode cL_setWish 10 = .ok (.iconst 1, 1) := by decide +kernel
theorem dL_setWish_11 : decode cL_setWish 11 = .ok (.goto 4, 3) := by decide +kernel
theorem dL_setWish_14 : decode cL_setWish 14 = .ok (.iconst 0, 1) := by decide +kernel
theorem dL_setWish_15 : decode cL_setWish 15 = .ok (.ireturn, 1) := by decide +kernel
theorem dL_setWish_16 : decode cL_setWish 16 = .ok (.astore 4, 2) := by decide +kernel
theorem dL_setWish_18 : decode cL_setWish 18 = .ok (.ldc 16, 2) := by decide +kernel
theorem dL_setWish_20 : decode cL_setWish 20 = .ok (.ireturn, 1) := by decide +kernel
theorem dL_setWish_21 : decode cL_setWish 21 = .ok (.astore 4, 2) := by decide +kernel
theorem dL_setWish_23 : decode cL_setWish 23 = .ok (.ldc 16, 2) := by decide +kernel
theorem dL_setWish_25 : decode cL_setWish 25 = .ok (.ireturn, 1) := by decide +kernel
set_option maxRecDepth 20000 in
theorem ggL_least_X7_least : GoodIn wsL_least wsX7_least := goodIn_ca (goodIn_ca (goodIn_r _ [8, 9, 10, 7, 11, 12, 13, 14, 15, 16, 17, 18, 19, 20, 21, 22, 23, 24, 25, 26, 27, 28, 29, 30, 31, 32, 33, 34, 35, 36, 37, 38, 39, 40, 41, 42, 43, 44, 45, 46, 47, 48, 49, 50, 51, 52, 53, 54, 55, 56, 57, 58, 59, 60, 61, 62, 63, 64, 65, 66, 67, 68, 69, 70, 71, 72, 73, 74, 75, 76, 77, 78, 79, 80, 81, 82, 83, 84, 85, 86, 87, 88, 89, 90, 91, 92, 93, 94, 95, 96, 97, 98, 99, 100, 101, 102, 103, 104, 105, 106, 107, 108, 109, 110, 111, 112, 113, 114, 115, 116, 117, 118, 119, 120, 121, 122, 123, 124, 125] (by decide +kernel) (by decide +kernel)) (goodIn_sub (fun _ h => List.mem_cons_of_mem _ (List.mem_append_left _ (List.mem_append_right _ h))) (by decide +kernel))) (goodIn_sub (fun _ h => List.mem_cons_of_mem _ (List.mem_append_right _ h)) (by decide +kernel))
set_option maxRecDepth 20000 in
theorem gL_least_X7_least : GoodIn wsL_least (wsV RL 41 RX7 yX7_least wsX7_least) := goodIn_app (goodIn_of _ (by decide +kernel)) ggL_least_X7_least
theorem dL_least_0 : decode cL_least 0 = .ok (.aload_n 0, 1) := by decide +kernel
theorem dL_least_1 : decode cL_least 1 = .ok (.iload_n 1, 1) := by decide +kernel
theorem dL_least_2 : decode cL_least 2 = .ok (.invokevirtual 41, 3) := by decide +kernel
theorem dL_least_5 : decode cL_least 5 = .ok (.ireturn, 1) := by decide +kernel
theorem dL_least_6 : decode cL_least 6 = .ok (.astore_n 2, 1) := by decide +kernel
theorem dL_least_7 : decode cL_least 7 = .ok (.ldc 16, 2) := by decide +kernel
theorem dL_least_9 : decode cL_least 9 = .ok (.ireturn, 1) := by decide +kernel
theorem dL_least_10 : decode cL_least 10 = .ok (.astore_n 2, 1) := by decide +kernel
theorem dL_least_11 : decode cL_least 11 = .ok (.iconst (-1), 1) := by decide +kernel
theorem dL_least_12 : decode cL_least 12 = .ok (.ireturn, 1) := by decide +kernel
set_option maxRecDepth 20000 in
theorem ggL_leastSet_X7_leastSet : GoodIn wsL_leastSet wsX7_leastSet := goodIn_ca (goodIn_r _ [6, 7, 8, 9, 10, 11, 12, 5, 13, 14, 15, 16, 17, 18, 19, 20, 21, 22, 23, 24, 25, 26, 27, 28, 29, 30, 31, 32, 33, 34, 35, 36, 37, 38, 39, 40, 41, 42, 43, 44, 45, 46, 47, 48, 49, 50, 51, 52, 53, 54, 55, 56, 57, 58, 59, 60, 61, 62, 63, 64, 65, 66, 67, 68, 69, 70, 71, 72, 73, 74, 75, 76, 77, 78, 79, 80, 81, 82, 83, 84, 85, 86, 87, 88, 89, 90, 91, 92, 93, 94, 95, 96, 97, 98, 99, 100, 101, 102, 103, 104, 105, 106, 107, 108, 109, 110, 111, 112, 113, 114, 115, 116, 117, 118, 119, 120, 121, 122, 123, 124, 125, 126, 127, 128, 129, 130, 131, 132, 133, 134, 135, 136, 137, 138, 139, 140, 141, 142, 143, 144, 145, 146, 147, 148, 149, 150, 151, 152, 153, 154, 155, 156, 157, 158, 159, 160, 161, 162, 163, 164, 165, 166, 167, 168, 169, 170] (by decide +kernel) (by decide +kernel)) (goodIn_sub (fun _ h => List.mem_cons_of_mem _ (List.mem_append_right _ h)) (by decide +kernel))
set_option maxRecDepth 20000 in
theorem gL_leastSet_X7_leastSet : GoodIn wsL_leastSet (wsV RL 44 RX7 yX7_leastSet wsX7_leastSet) := goodIn_app (goodIn_of _ (by decide +kernel)) ggL_leastSet_X7_leastSet
theorem dL_leastSet_0 : decode cL_leastSet 0 = .ok (.aload_n 0, 1) := by decide +kernel
theorem dL_leastSet_1 : decode cL_leastSet 1 = .ok (.invokevirtual 44, 3) := by decide +kernel
theorem dL_leastSet_4 : decode cL_leastSet 4 = .ok (.ireturn, 1) := by decide +kernel
theorem dL_leastSet_5 : decode cL_leastSet 5 = .ok (.astore_n 1, 1) := by decide +kernel
theorem dL_leastSet_6 : decode cL_leastSet 6 = .ok (.iconst (-1), 1) := by decide +kernel
theorem dL_leastSet_7 : decode cL_leastSet 7 = .ok (.ireturn, 1) := by decide +kernel
set_option maxRecDepth 20000 in
theorem ggL_tuneAt_X7_tuneAt : GoodIn wsL_tuneAt wsX7_tuneAt := goodIn_ca (goodIn_ca (goodIn_r _ [7, 8, 9, 10, 11, 12, 13, 14, 15, 6, 16, 17, 18, 19, 20, 21, 22, 23, 24, 25, 26, 27, 28, 29, 30, 31, 32, 33, 34, 35, 36, 37, 38, 39, 40, 41, 42, 43, 44, 45, 46, 47, 48, 49, 50, 51, 52, 53, 54, 55, 56, 57, 58, 59, 60, 61, 62, 63, 64, 65, 66, 67, 68, 69, 70, 71, 72, 73, 74, 75, 76, 77, 78, 79, 80, 81, 82, 83, 84, 85, 86, 87, 88, 89, 90, 91, 92, 93, 94, 95, 96, 97, 98, 99, 100, 101, 102, 103, 104, 105, 106, 107, 108, 109, 110, 111, 112, 113, 114, 115, 116, 117, 118, 119, 120, 121, 122, 123, 124, 125, 126, 127, 128, 129, 130, 131, 132, 133, 134, 135, 136, 137, 138, 139, 140, 141, 142, 143, 144, 145, 146, 147, 148, 149, 150, 151, 152, 153, 154, 155, 156, 157, 158, 159, 160, 161, 162, 163, 164, 165, 166, 167, 168, 169, 170, 171, 172, 173, 174, 175, 176, 177] (by decide +kernel) (by decide +kernel)) (goodIn_sub (fun _ h => List.mem_cons_of_mem _ (List.mem_append_left _ (List.mem_append_right _ h))) (by decide +kernel))) (goodIn_sub (fun _ h => List.mem_cons_of_mem _ (List.mem_append_right _ h)) (by decide +kernel))
set_option maxRecDepth 20000 in
theorem gL_tuneAt_X7_tuneAt : GoodIn wsL_tuneAt (wsV RL 47 RX7 yX7_tuneAt wsX7_tuneAt) := goodIn_app (goodIn_of _ (by decide +kernel)) ggL_tuneAt_X7_tuneAt
theorem dL_tuneAt_0 : decode cL_tuneAt 0 = .ok (.aload_n 0, 1) := by decide +kernel
theorem dL_tuneAt_1 : decode cL_tuneAt 1 = .ok (.iload_n 1, 1) := by decide +kernel
theorem dL_tuneAt_2 : decode cL_tuneAt 2 = .ok (.invokevirtual 47, 3) := by decide +kernel
theorem dL_tuneAt_5 : decode cL_tuneAt 5 = .ok (.ireturn, 1) := by decide +kernel
theorem dL_tuneAt_6 : decode cL_tuneAt 6 = .ok (.astore_n 2, 1) := by decide +kernel
theorem dL_tuneAt_7 : decode cL_tuneAt 7 = .ok (.bipush (-2), 2) := by decide +kernel
theorem dL_tuneAt_9 : decode cL_tuneAt 9 = .ok (.ireturn, 1) := by decide +kernel
theorem dL_tuneAt_10 : decode cL_tuneAt 10 = .ok (.astore_n 2, 1) := by decide +kernel
theorem dL_tuneAt_11 : decode cL_tuneAt 11 = .ok (.iconst (-1), 1) := by decide +kernel
theorem dL_tuneAt_12 : decode cL_tuneAt 12 = .ok (.ireturn, 1) := by decide +kernel
set_option maxRecDepth 20000 in
theorem ggL_act_L_low : GoodIn wsL_act wsL_low := goodIn_r _ [4, 5] (by decide +kernel) (by decide +kernel)
set_option maxRecDepth 20000 in
theorem gL_act_L_low : GoodIn wsL_act (va_wsS RL 50 yL_low wsL_low) := goodIn_app (goodIn_of _ (by decide +kernel)) ggL_act_L_low
set_option maxRecDepth 20000 in
theorem ggL_act_L_setLimit : GoodIn wsL_act wsL_setLimit := goodIn_ca (goodIn_r _ [8, 9, 10, 11, 12, 13, 14, 15, 16, 17, 18, 19, 20, 21, 22, 23, 24, 25, 26, 27, 28, 29, 30, 31, 32, 33, 34, 35, 36, 37, 38, 177, 178, 179, 180, 181, 182] (by decide +kernel) (by decide +kernel)) (goodIn_sub (fun _ h => List.mem_cons_of_mem _ (List.mem_append_left _ (List.mem_append_left _ (List.mem_append_left _ (List.mem_append_right _ h))))) (by decide +kernel))
set_option maxRecDepth 20000 in
theorem gL_act_L_setLimit : GoodIn wsL_act (va_wsS RL 56 yL_setLimit wsL_setLimit) := goodIn_app (goodIn_of _ (by decide +kernel)) ggL_act_L_setLimit
set_option maxRecDepth 20000 in
theorem ggL_act_L_removeNote : GoodIn wsL_act wsL_removeNote := goodIn_ca (goodIn_ca (goodIn_r _ [41, 9, 42, 10, 43, 44, 45, 14, 46, 47, 48, 49, 50, 51, 52, 16, 17, 53, 54, 55, 56, 57, 58, 59, 60, 61, 62, 63, 177, 178, 179, 180, 181, 183, 184, 185, 186, 187] (by decide +kernel) (by decide +kernel)) (goodIn_sub (fun _ h => List.mem_cons_of_mem _ (List.mem_append_left _ (List.mem_append_left _ (List.mem_append_right _ h)))) (by decide +kernel))) (goodIn_sub (fun _ h => List.mem_cons_of_mem _ (List.mem_append_left _ (List.mem_append_left _ (List.mem_append_left _ (List.mem_append_right _ h))))) (by decide +kernel))
set_option maxRecDepth 20000 in
theorem gL_act_L_removeNote : GoodIn wsL_act (va_wsS RL 59 yL_removeNote wsL_removeNote) := goodIn_app (goodIn_of _ (by decide +kernel)) ggL_act_L_removeNote
set_option maxRecDepth 20000 in
theorem ggL_act_L_grace : GoodIn wsL_act wsL_grace := goodIn_ca (goodIn_ca (goodIn_r _ [66, 9, 67, 10, 68, 69, 70, 14, 71, 16, 17, 72, 73, 74, 75, 76, 77, 78, 79, 80, 81, 82, 83, 84, 85, 177, 178, 179, 180, 181, 188, 189, 190, 191] (by decide +kernel) (by decide +kernel)) (goodIn_sub (fun _ h => List.mem_cons_of_mem _ (List.mem_append_left _ (List.mem_append_left _ (List.mem_append_left _ (List.mem_append_right _ h))))) (by decide +kernel))) (goodIn_sub (fun _ h => List.mem_cons_of_mem _ (List.mem_append_left _ (List.mem_append_right _ h))) (by decide +kernel))
set_option maxRecDepth 20000 in
theorem gL_act_L_grace : GoodIn wsL_act (va_wsS RL 61 yL_grace wsL_grace) := goodIn_app (goodIn_of _ (by decide +kernel)) ggL_act_L_grace
set_option maxRecDepth 20000 in
theorem ggL_act_L_enter : GoodIn wsL_act wsL_enter := goodIn_ca (goodIn_r _ [88, 67, 10, 89, 90, 91, 14, 92, 72, 73, 74, 93, 94, 95, 78, 96, 80, 97, 98, 99, 100, 101, 102, 103, 104, 105, 106, 107, 108, 109, 85, 110, 111, 112, 113, 114, 115, 116, 117, 118, 119, 120, 121, 122, 123, 124, 125, 126, 127, 128, 129, 130, 131, 132, 133, 134, 135, 177, 178, 179, 180, 181, 188, 189, 190, 191, 192] (by decide +kernel) (by decide +kernel)) (goodIn_sub (fun _ h => List.mem_cons_of_mem _ (List.mem_append_left _ (List.mem_append_right _ h))) (by decide +kernel))
set_option maxRecDepth 20000 in
theorem gL_act_L_enter : GoodIn wsL_act (va_wsS RL 63 yL_enter wsL_enter) := goodIn_app (goodIn_of _ (by decide +kernel)) ggL_act_L_enter
set_option maxRecDepth 20000 in
theorem ggL_act_L_setWish : GoodIn wsL_act wsL_setWish := goodIn_ca (goodIn_ca (goodIn_r _ [138, 9, 139, 10, 140, 141, 142, 14, 143, 49, 50, 51, 52, 16, 17, 144, 145, 146, 147, 148, 149, 150, 151, 152, 56, 153, 58, 154, 155, 156, 157, 158, 177, 178, 179, 180, 181, 183, 184, 185, 186, 187] (by decide +kernel) (by decide +kernel)) (goodIn_sub (fun _ h => List.mem_cons_of_mem _ (List.mem_append_left _ (List.mem_append_left _ (List.mem_append_left _ (List.mem_append_right _ h))))) (by decide +kernel))) (goodIn_sub (fun _ h => List.mem_cons_of_mem _ (List.mem_append_right _ h)) (by decide +kernel))
set_option maxRecDepth 20000 in
theorem gL_act_L_setWish : GoodIn wsL_act (va_wsS RL 66 yL_setWish wsL_setWish) := goodIn_app (goodIn_of _ (by decide +kernel)) ggL_act_L_setWish
set_option maxRecDepth 20000 in
theorem ggL_act_L_addNote : GoodIn wsL_act wsL_addNote := goodIn_ca (goodIn_ca (goodIn_r _ [161, 9, 67, 10, 162, 163, 164, 14, 165, 72, 73, 49, 50, 51, 52, 16, 17, 166, 167, 168, 169, 170, 171, 53, 54, 55, 56, 57, 58, 172, 173, 174, 175, 158, 63, 176, 177, 178, 179, 180, 181, 183, 184, 185, 186, 187] (by decide +kernel) (by decide +kernel)) (goodIn_sub (fun _ h => List.mem_cons_of_mem _ (List.mem_append_left _ (List.mem_append_right _ h))) (by decide +kernel))) (goodIn_sub (fun _ h => List.mem_cons_of_mem _ (List.mem_append_left _ (List.mem_append_left _ (List.mem_append_left _ (List.mem_append_right _ h))))) (by decide +kernel))
set_option maxRecDepth 20000 in
theorem gL_act_L_addNote : GoodIn wsL_act (va_wsS RL 69 yL_addNote wsL_addNote) := goodIn_app (goodIn_of _ (by decide +kernel)) ggL_act_L_addNote
theorem dL_act_0 : decode cL_act 0 = .ok (.iload_n 1, 1) := by decide +kernel
theorem dL_act_1 : decode cL_act 1 = .ok (.bipush 24, 2) := by decide +kernel
theorem dL_act_3 : decode cL_act 3 = .ok (.ishr, 1) := by decide +kernel
theorem dL_act_4 : decode cL_act 4 = .ok (.bipush 9, 2) := by decide +kernel
theorem dL_act_6 : decode cL_act 6 = .ok (.invokestatic 50, 3) := by decide +kernel
theorem dL_act_9 : decode cL_act 9 = .ok (.ifCond .ne 7, 3) := by decide +kernel
theorem dL_act_12 : decode cL_act 12 = .ok (.iconst 1, 1) := by decide +kernel
theorem dL_act_13 : decode cL_act 13 = .ok (.goto 4, 3) := by decide +kernel
theorem dL_act_16 : decode cL_act 16 = .ok (.iconst 0, 1) := by decide +kernel
theorem dL_act_17 : decode cL_act 17 = .ok (.istore_n 2, 1) := by decide +kernel
theorem dL_act_18 : decode cL_act 18 = .ok (.iload_n 2, 1) := by decide +kernel
theorem dL_act_19 : decode cL_act 19 = .ok (.ifCond .eq 16, 3) := by decide +kernel
theorem dL_act_22 : decode cL_act 22 = .ok (.iload_n 1, 1) := by decide +kernel
theorem dL_act_23 : decode cL_act 23 = .ok (.iconst 4, 1) := by decide +kernel
theorem dL_act_24 : decode cL_act 24 = .ok (.ishr, 1) := by decide +kernel
theorem dL_act_25 : decode cL_act 25 = .ok (.bipush 6, 2) := by decide +kernel
theorem dL_act_27 : decode cL_act 27 = .ok (.invokestatic 50, 3) := by decide +kernel
theorem dL_act_30 : decode cL_act 30 = .ok (.iconst 1, 1) := by decide +kernel
theorem dL_act_31 : decode cL_act 31 = .ok (.isub, 1) := by decide +kernel
theorem dL_act_32 : decode cL_act 32 = .ok (.goto 10, 3) := by decide +kernel
theorem dL_act_35 : decode cL_act 35 = .ok (.iload_n 1, 1) := by decide +kernel
theorem dL_act_36 : decode cL_act 36 = .ok (.iconst 4, 1) := by decide +kernel
theorem dL_act_37 : decode cL_act 37 = .ok (.ishr, 1) := by decide +kernel
theorem dL_act_38 : decode cL_act 38 = .ok (.iconst 3, 1) := by decide +kernel
theorem dL_act_39 : decode cL_act 39 = .ok (.invokestatic 50, 3) := by decide +kernel
theorem dL_act_42 : decode cL_act 42 = .ok (.istore_n 3, 1) := by decide +kernel
theorem dL_act_43 : decode cL_act 43 = .ok (.iload_n 2, 1) := by decide +kernel
theorem dL_act_44 : decode cL_act 44 = .ok (.ifCond .eq 17, 3) := by decide +kernel
theorem dL_act_47 : decode cL_act 47 = .ok (.iload_n 1, 1) := by decide +kernel
theorem dL_act_48 : decode cL_act 48 = .ok (.bipush 7, 2) := by decide +kernel
theorem dL_act_50 : decode cL_act 50 = .ok (.ishr, 1) := by decide +kernel
theorem dL_act_51 : decode cL_act 51 = .ok (.bipush 11, 2) := by decide +kernel
theorem dL_act_53 : decode cL_act 53 = .ok (.invokestatic 50, 3) := by decide +kernel
theorem dL_act_56 : decode cL_act 56 = .ok (.iconst 1, 1) := by decide +kernel
theorem dL_act_57 : decode cL_act 57 = .ok (.isub, 1) := by decide +kernel
theorem dL_act_58 : decode cL_act 58 = .ok (.goto 12, 3) := by decide +kernel
theorem dL_act_61 : decode cL_act 61 = .ok (.iload_n 1, 1) := by decide +kernel
theorem dL_act_62 : decode cL_act 62 = .ok (.bipush 7, 2) := by decide +kernel
theorem dL_act_64 : decode cL_act 64 = .ok (.ishr, 1) := by decide +kernel
theorem dL_act_65 : decode cL_act 65 = .ok (.bipush 9, 2) := by decide +kernel
theorem dL_act_67 : decode cL_act 67 = .ok (.invokestatic 50, 3) := by decide +kernel
theorem dL_act_70 : decode cL_act 70 = .ok (.istore 4, 2) := by decide +kernel
theorem dL_act_72 : decode cL_act 72 = .ok (.iload_n 1, 1) := by decide +kernel
theorem dL_act_73 : decode cL_act 73 = .ok (.bipush 16, 2) := by decide +kernel
theorem dL_act_75 : decode cL_act 75 = .ok (.invokestatic 50, 3) := by decide +kernel
theorem dL_act_78 : decode cL_act 78 = .ok (.tableswitch 183 0 7 #[46, 98, 98, 98, 98, 130, 130, 135], 46) := by decide +kernel
theorem dL_act_124 : decode cL_act 124 = .ok (.iload_n 1, 1) := by decide +kernel
theorem dL_act_125 : decode cL_act 125 = .ok (.iconst 5, 1) := by decide +kernel
theorem dL_act_126 : decode cL_act 126 = .ok (.ishr, 1) := by decide +kernel
theorem dL_act_127 : decode cL_act 127 = .ok (.iconst 3, 1) := by decide +kernel
theorem dL_act_128 : decode cL_act 128 = .ok (.invokestatic 50, 3) := by decide +kernel
theorem dL_act_131 : decode cL_act 131 = .ok (.ifCond .ne 39, 3) := by decide +kernel
theorem dL_act_134 : decode cL_act 134 = .ok (.aload_n 0, 1) := by decide +kernel
theorem dL_act_135 : decode cL_act 135 = .ok (.iload_n 2, 1) := by decide +kernel
theorem dL_act_136 : decode cL_act 136 = .ok (.ifCond .eq 17, 3) := by decide +kernel
theorem dL_act_139 : decode cL_act 139 = .ok (.iload_n 1, 1) := by decide +kernel
theorem dL_act_140 : decode cL_act 140 = .ok (.bipush 7, 2) := by decide +kernel
theorem dL_act_142 : decode cL_act 142 = .ok (.ishr, 1) := by decide +kernel
theorem dL_act_143 : decode cL_act 143 = .ok (.bipush 11, 2) := by decide +kernel
theorem dL_act_145 : decode cL_act 145 = .ok (.invokestatic 50, 3) := by decide +kernel
theorem dL_act_148 : decode cL_act 148 = .ok (.iconst 1, 1) := by decide +kernel
theorem dL_act_149 : decode cL_act 149 = .ok (.isub, 1) := by decide +kernel
theorem dL_act_150 : decode cL_act 150 = .ok (.goto 14, 3) := by decide +kernel
theorem dL_act_153 : decode cL_act 153 = .ok (.iconst 2, 1) := by decide +kernel
theorem dL_act_154 : decode cL_act 154 = .ok (.iload_n 1, 1) := by decide +kernel
theorem dL_act_155 : decode cL_act 155 = .ok (.bipush 7, 2) := by decide +kernel
theorem dL_act_157 : decode cL_act 157 = .ok (.ishr, 1) := by decide +kernel
theorem dL_act_158 : decode cL_act 158 = .ok (.bipush 7, 2) := by decide +kernel
theorem dL_act_160 : decode cL_act 160 = .ok (.invokestatic 50, 3) := by decide +kernel
theorem dL_act_163 : decode cL_act 163 = .ok (.iadd, 1) := by decide +kernel
theorem dL_act_164 : decode cL_act 164 = .ok (.invokestatic 56, 3) := by decide +kernel
theorem dL_act_167 : decode cL_act 167 = .ok (.goto 8, 3) := by decide +kernel
theorem dL_act_170 : decode cL_act 170 = .ok (.aload_n 0, 1) := by decide +kernel
theorem dL_act_171 : decode cL_act 171 = .ok (.iload_n 3, 1) := by decide +kernel
theorem dL_act_172 : decode cL_act 172 = .ok (.invokestatic 59, 3) := by decide +kernel
theorem dL_act_175 : decode cL_act 175 = .ok (.ireturn, 1) := by decide +kernel
theorem dL_act_176 : decode cL_act 176 = .ok (.aload_n 0, 1) := by decide +kernel
theorem dL_act_177 : decode cL_act 177 = .ok (.iload_n 2, 1) := by decide +kernel
theorem dL_act_178 : decode cL_act 178 = .ok (.ifCond .eq 17, 3) := by decide +kernel
theorem dL_act_181 : decode cL_act 181 = .ok (.iload_n 1, 1) := by decide +kernel
theorem dL_act_182 : decode cL_act 182 = .ok (.bipush 7, 2) := by decide +kernel
theorem dL_act_184 : decode cL_act 184 = .ok (.ishr, 1) := by decide +kernel
theorem dL_act_185 : decode cL_act 185 = .ok (.bipush 13, 2) := by decide +kernel
theorem dL_act_187 : decode cL_act 187 = .ok (.invokestatic 50, 3) := by decide +kernel
theorem dL_act_190 : decode cL_act 190 = .ok (.iconst 1, 1) := by decide +kernel
theorem dL_act_191 : decode cL_act 191 = .ok (.isub, 1) := by decide +kernel
theorem dL_act_192 : decode cL_act 192 = .ok (.goto 12, 3) := by decide +kernel
theorem dL_act_195 : decode cL_act 195 = .ok (.iload_n 1, 1) := by decide +kernel
theorem dL_act_196 : decode cL_act 196 = .ok (.bipush 7, 2) := by decide +kernel
theorem dL_act_198 : decode cL_act 198 = .ok (.ishr, 1) := by decide +kernel
theorem dL_act_199 : decode cL_act 199 = .ok (.bipush 11, 2) := by decide +kernel
theorem dL_act_201 : decode cL_act 201 = .ok (.invokestatic 50, 3) := by decide +kernel
theorem dL_act_204 : decode cL_act 204 = .ok (.invokestatic 61, 3) := by decide +kernel
theorem dL_act_207 : decode cL_act 207 = .ok (.ireturn, 1) := by decide +kernel
theorem dL_act_208 : decode cL_act 208 = .ok (.aload_n 0, 1) := by decide +kernel
theorem dL_act_209 : decode cL_act 209 = .ok (.invokestatic 63, 3) := by decide +kernel
theorem dL_act_212 : decode cL_act 212 = .ok (.ireturn, 1) := by decide +kernel
theorem dL_act_213 : decode cL_act 213 = .ok (.aload_n 0, 1) := by decide +kernel
theorem dL_act_214 : decode cL_act 214 = .ok (.iload_n 3, 1) := by decide +kernel
theorem dL_act_215 : decode cL_act 215 = .ok (.iload_n 1, 1) := by decide +kernel
theorem dL_act_216 : decode cL_act 216 = .ok (.bipush 11, 2) := by decide +kernel
theorem dL_act_218 : decode cL_act 218 = .ok (.ishr, 1) := by decide +kernel
theorem dL_act_219 : decode cL_act 219 = .ok (.iload_n 2, 1) := by decide +kernel
theorem dL_act_220 : decode cL_act 220 = .ok (.ifCond .eq 8, 3) := by decide +kernel
theorem dL_act_223 : decode cL_act 223 = .ok (.bipush 11, 2) := by decide +kernel
theorem dL_act_225 : decode cL_act 225 = .ok (.goto 4, 3) := by decide +kernel
theorem dL_act_228 : decode cL_act 228 = .ok (.iconst 5, 1) := by decide +kernel
theorem dL_act_229 : decode cL_act 229 = .ok (.invokestatic 50, 3) := by decide +kernel
theorem dL_act_232 : decode cL_act 232 = .ok (.iload_n 2, 1) := by decide +kernel
theorem dL_act_233 : decode cL_act 233 = .ok (.ifCond .eq 7, 3) := by decide +kernel
theorem dL_act_236 : decode cL_act 236 = .ok (.iconst 1, 1) := by decide +kernel
theorem dL_act_237 : decode cL_act 237 = .ok (.goto 4, 3) := by decide +kernel
theorem dL_act_240 : decode cL_act 240 = .ok (.iconst 0, 1) := by decide +kernel
theorem dL_act_241 : decode cL_act 241 = .ok (.isub, 1) := by decide +kernel
theorem dL_act_242 : decode cL_act 242 = .ok (.iload_n 1, 1) := by decide +kernel
theorem dL_act_243 : decode cL_act 243 = .ok (.bipush 15, 2) := by decide +kernel
theorem dL_act_245 : decode cL_act 245 = .ok (.ishr, 1) := by decide +kernel
theorem dL_act_246 : decode cL_act 246 = .ok (.iconst 1, 1) := by decide +kernel
theorem dL_act_247 : decode cL_act 247 = .ok (.iand, 1) := by decide +kernel
theorem dL_act_248 : decode cL_act 248 = .ok (.iconst 1, 1) := by decide +kernel
theorem dL_act_249 : decode cL_act 249 = .ok (.if_icmp .ne 7, 3) := by decide +kernel
theorem dL_act_252 : decode cL_act 252 = .ok (.iconst 1, 1) := by decide +kernel
theorem dL_act_253 : decode cL_act 253 = .ok (.goto 4, 3) := by decide +kernel
theorem dL_act_256 : decode cL_act 256 = .ok (.iconst 0, 1) := by decide +kernel
theorem dL_act_257 : decode cL_act 257 = .ok (.invokestatic 66, 3) := by decide +kernel
theorem dL_act_260 : decode cL_act 260 = .ok (.ireturn, 1) := by decide +kernel
theorem dL_act_261 : decode cL_act 261 = .ok (.aload_n 0, 1) := by decide +kernel
theorem dL_act_262 : decode cL_act 262 = .ok (.iload_n 3, 1) := by decide +kernel
theorem dL_act_263 : decode cL_act 263 = .ok (.iload 4, 2) := by decide +kernel
theorem dL_act_265 : decode cL_act 265 = .ok (.iload_n 2, 1) := by decide +kernel
theorem dL_act_266 : decode cL_act 266 = .ok (.ifCond .eq 15, 3) := by decide +kernel
theorem dL_act_269 : decode cL_act 269 = .ok (.iload_n 1, 1) := by decide +kernel
theorem dL_act_270 : decode cL_act 270 = .ok (.bipush 11, 2) := by decide +kernel
theorem dL_act_272 : decode cL_act 272 = .ok (.ishr, 1) := by decide +kernel
theorem dL_act_273 : decode cL_act 273 = .ok (.bipush 35, 2) := by decide +kernel
theorem dL_act_275 : decode cL_act 275 = .ok (.invokestatic 50, 3) := by decide +kernel
theorem dL_act_278 : decode cL_act 278 = .ok (.goto 14, 3) := by decide +kernel
theorem dL_act_281 : decode cL_act 281 = .ok (.iconst 1, 1) := by decide +kernel
theorem dL_act_282 : decode cL_act 282 = .ok (.iload_n 1, 1) := by decide +kernel
theorem dL_act_283 : decode cL_act 283 = .ok (.bipush 11, 2) := by decide +kernel
theorem dL_act_285 : decode cL_act 285 = .ok (.ishr, 1) := by decide +kernel
theorem dL_act_286 : decode cL_act 286 = .ok (.bipush 7, 2) := by decide +kernel
theorem dL_act_288 : decode cL_act 288 = .ok (.invokestatic 50, 3) := by decide +kernel
theorem dL_act_291 : decode cL_act 291 = .ok (.iadd, 1) := by decide +kernel
theorem dL_act_292 : decode cL_act 292 = .ok (.invokestatic 69, 3) := by decide +kernel
theorem dL_act_295 : decode cL_act 295 = .ok (.ireturn, 1) := by decide +kernel
set_option maxRecDepth 20000 in
theorem ggL_areAlike_X7_ornaments : GoodIn wsL_areAlike wsX7_ornaments := goodIn_r _ [5, 6, 7, 8, 9, 10, 11, 12, 212, 213, 214, 215, 216, 217, 218, 219, 220] (by decide +kernel) (by decide +kernel)
set_option maxRecDepth 20000 in
theorem gL_areAlike_X7_ornaments : GoodIn wsL_areAlike (wsV RL 72 RX7 yX7_ornaments wsX7_ornaments) := goodIn_app (goodIn_of _ (by decide +kernel)) ggL_areAlike_X7_ornaments
set_option maxRecDepth 20000 in
theorem ggL_areAlike_L_leastSet : GoodIn wsL_areAlike wsL_leastSet := goodIn_ca (goodIn_r _ [16, 17, 18, 19, 20, 4, 21, 22, 23, 24, 25, 26, 27, 28, 29, 30, 6, 31, 32, 33, 34, 35, 36, 37, 38, 39, 40, 41, 42, 43, 10, 44, 45, 46, 47, 48, 49, 50, 51, 52, 53, 54, 55, 56, 57, 58, 59, 60, 61, 62, 63, 64, 65, 66, 67, 68, 69, 70, 71, 72, 73, 74, 75, 76, 77, 78, 79, 80, 81, 82, 83, 84, 85, 86, 87, 88, 89, 90, 91, 92, 93, 94, 95, 96, 97, 98, 99, 100, 101, 102, 103, 104, 105, 106, 107, 108, 109, 110, 111, 112, 113, 114, 115, 116, 117, 118, 119, 120, 121, 122, 123, 124, 125, 126, 127, 128, 129, 130, 131, 132, 133, 134, 135, 136, 137, 138, 139, 140, 141, 142, 143, 144, 145, 146, 147, 148, 149, 150, 151, 152, 153, 154, 155, 156, 157, 158, 159, 160, 212, 213, 214, 215, 216, 221, 222, 223, 224, 225, 226, 217, 218, 219, 220, 227, 228, 229, 230, 231, 232, 233, 234] (by decide +kernel) (by decide +kernel)) (goodIn_sub (fun _ h => List.mem_cons_of_mem _ (List.mem_append_left _ (List.mem_append_right _ h))) (by decide +kernel))
set_option maxRecDepth 20000 in
theorem gL_areAlike_L_leastSet : GoodIn wsL_areAlike (va_wsS RL 75 yL_leastSet wsL_leastSet) := goodIn_app (goodIn_of _ (by decide +kernel)) ggL_areAlike_L_leastSet
set_option maxRecDepth 20000 in
theorem ggL_areAlike_X7_notes : GoodIn wsL_areAlike wsX7_notes := goodIn_ca (goodIn_r _ [164, 29, 165, 166, 4, 167, 168, 169, 170, 79, 80, 34, 81, 36, 212, 213, 214, 215, 216, 221, 222, 223, 224, 225] (by decide +kernel) (by decide +kernel)) (goodIn_sub (fun _ h => List.mem_cons_of_mem _ (List.mem_append_right _ h)) (by decide +kernel))
set_option maxRecDepth 20000 in
theorem gL_areAlike_X7_notes : GoodIn wsL_areAlike (wsV RL 77 RX7 yX7_notes wsX7_notes) := goodIn_app (goodIn_of _ (by decide +kernel)) ggL_areAlike_X7_notes
set_option maxRecDepth 20000 in
theorem ggL_areAlike_X7_choices : GoodIn wsL_areAlike wsX7_choices := goodIn_ca (goodIn_r _ [174, 29, 30, 6, 175, 165, 166, 4, 167, 168, 169, 31, 32, 33, 34, 35, 36, 37, 38, 39, 40, 41, 42, 43, 10, 44, 45, 46, 47, 48, 49, 50, 51, 52, 53, 54, 55, 56, 57, 58, 59, 60, 61, 62, 63, 64, 65, 66, 67, 68, 69, 70, 71, 176, 177, 178, 179, 180, 181, 182, 116, 117, 118, 183, 129, 130, 131, 184, 133, 134, 135, 185, 186, 187, 188, 189, 212, 213, 214, 215, 216, 221, 222, 223, 224, 225, 226, 217, 218, 219, 220, 227, 235, 236, 237, 238] (by decide +kernel) (by decide +kernel)) (goodIn_sub (fun _ h => List.mem_cons_of_mem _ (List.mem_append_right _ h)) (by decide +kernel))
set_option maxRecDepth 20000 in
theorem gL_areAlike_X7_choices : GoodIn wsL_areAlike (wsV RL 80 RX7 yX7_choices wsX7_choices) := goodIn_app (goodIn_of _ (by decide +kernel)) ggL_areAlike_X7_choices
set_option maxRecDepth 20000 in
theorem ggL_areAlike_L_least : GoodIn wsL_areAlike wsL_least := goodIn_ca (goodIn_ca (goodIn_r _ [192, 193, 17, 194, 195, 196, 197, 4, 198, 165, 166, 167, 168, 169, 199, 200, 201, 202, 22, 23, 29, 30, 6, 175, 203, 31, 32, 33, 34, 35, 36, 37, 38, 39, 40, 41, 42, 43, 10, 44, 45, 46, 47, 48, 49, 50, 51, 52, 53, 54, 55, 56, 57, 58, 59, 60, 61, 62, 63, 64, 65, 66, 67, 68, 69, 70, 71, 204, 205, 206, 179, 207, 208, 183, 129, 130, 131, 209, 109, 110, 111, 112, 113, 114, 115, 116, 117, 118, 184, 133, 134, 135, 210, 120, 121, 122, 123, 124, 125, 126, 127, 211, 137, 138, 139, 212, 213, 214, 215, 216, 221, 222, 223, 224, 225, 226, 217, 218, 219, 220, 227, 235, 236, 237, 238, 234] (by decide +kernel) (by decide +kernel)) (goodIn_sub (fun _ h => List.mem_cons_of_mem _ (List.mem_append_right _ h)) (by decide +kernel))) (goodIn_sub (fun _ h => List.mem_cons_of_mem _ (List.mem_append_left _ (List.mem_append_right _ h))) (by decide +kernel))
set_option maxRecDepth 20000 in
theorem gL_areAlike_L_least : GoodIn wsL_areAlike (va_wsS RL 83 yL_least wsL_least) := goodIn_app (goodIn_of _ (by decide +kernel)) ggL_areAlike_L_least
theorem dL_areAlike_0 : decode cL_areAlike 0 = .ok (.aload_n 0, 1) := by decide +kernel
theorem dL_areAlike_1 : decode cL_areAlike 1 = .ok (.invokevirtual 72, 3) := by decide +kernel
theorem dL_areAlike_4 : decode cL_areAlike 4 = .ok (.aload_n 1, 1) := by decide +kernel
theorem dL_areAlike_5 : decode cL_areAlike 5 = .ok (.invokevirtual 72, 3) := by decide +kernel
theorem dL_areAlike_8 : decode cL_areAlike 8 = .ok (.if_icmp .ne 18, 3) := by decide +kernel
theorem dL_areAlike_11 : decode cL_areAlike 11 = .ok (.aload_n 0, 1) := by decide +kernel
theorem dL_areAlike_12 : decode cL_areAlike 12 = .ok (.invokestatic 75, 3) := by decide +kernel
theorem dL_areAlike_15 : decode cL_areAlike 15 = .ok (.aload_n 1, 1) := by decide +kernel
theorem dL_areAlike_16 : decode cL_areAlike 16 = .ok (.invokestatic 75, 3) := by decide +kernel
theorem dL_areAlike_19 : decode cL_areAlike 19 = .ok (.if_icmp .ne 7, 3) := by decide +kernel
theorem dL_areAlike_22 : decode cL_areAlike 22 = .ok (.iconst 1, 1) := by decide +kernel
theorem dL_areAlike_23 : decode cL_areAlike 23 = .ok (.goto 4, 3) := by decide +kernel
theorem dL_areAlike_26 : decode cL_areAlike 26 = .ok (.iconst 0, 1) := by decide +kernel
theorem dL_areAlike_27 : decode cL_areAlike 27 = .ok (.istore_n 2, 1) := by decide +kernel
theorem dL_areAlike_28 : decode cL_areAlike 28 = .ok (.iconst 0, 1) := by decide +kernel
theorem dL_areAlike_29 : decode cL_areAlike 29 = .ok (.istore_n 3, 1) := by decide +kernel
theorem dL_areAlike_30 : decode cL_areAlike 30 = .ok (.iload_n 3, 1) := by decide +kernel
theorem dL_areAlike_31 : decode cL_areAlike 31 = .ok (.iconst 4, 1) := by decide +kernel
theorem dL_areAlike_32 : decode cL_areAlike 32 = .ok (.if_icmp .ge 58, 3) := by decide +kernel
theorem dL_areAlike_35 : decode cL_areAlike 35 = .ok (.iload_n 2, 1) := by decide +kernel
theorem dL_areAlike_36 : decode cL_areAlike 36 = .ok (.ifCond .eq 54, 3) := by decide +kernel
theorem dL_areAlike_39 : decode cL_areAlike 39 = .ok (.aload_n 0, 1) := by decide +kernel
theorem dL_areAlike_40 : decode cL_areAlike 40 = .ok (.iload_n 3, 1) := by decide +kernel
theorem dL_areAlike_41 : decode cL_areAlike 41 = .ok (.invokevirtual 77, 3) := by decide +kernel
theorem dL_areAlike_44 : decode cL_areAlike 44 = .ok (.aload_n 1, 1) := by decide +kernel
theorem dL_areAlike_45 : decode cL_areAlike 45 = .ok (.iload_n 3, 1) := by decide +kernel
theorem dL_areAlike_46 : decode cL_areAlike 46 = .ok (.invokevirtual 77, 3) := by decide +kernel
theorem dL_areAlike_49 : decode cL_areAlike 49 = .ok (.if_icmp .ne 33, 3) := by decide +kernel
theorem dL_areAlike_52 : decode cL_areAlike 52 = .ok (.aload_n 0, 1) := by decide +kernel
theorem dL_areAlike_53 : decode cL_areAlike 53 = .ok (.iload_n 3, 1) := by decide +kernel
theorem dL_areAlike_54 : decode cL_areAlike 54 = .ok (.invokevirtual 80, 3) := by decide +kernel
theorem dL_areAlike_57 : decode cL_areAlike 57 = .ok (.aload_n 1, 1) := by decide +kernel
theorem dL_areAlike_58 : decode cL_areAlike 58 = .ok (.iload_n 3, 1) := by decide +kernel
theorem dL_areAlike_59 : decode cL_areAlike 59 = .ok (.invokevirtual 80, 3) := by decide +kernel
theorem dL_areAlike_62 : decode cL_areAlike 62 = .ok (.if_icmp .ne 20, 3) := by decide +kernel
theorem dL_areAlike_65 : decode cL_areAlike 65 = .ok (.aload_n 0, 1) := by decide +kernel
theorem dL_areAlike_66 : decode cL_areAlike 66 = .ok (.iload_n 3, 1) := by decide +kernel
theorem dL_areAlike_67 : decode cL_areAlike 67 = .ok (.invokestatic 83, 3) := by decide +kernel
theorem dL_areAlike_70 : decode cL_areAlike 70 = .ok (.aload_n 1, 1) := by decide +kernel
theorem dL_areAlike_71 : decode cL_areAlike 71 = .ok (.iload_n 3, 1) := by decide +kernel
theorem dL_areAlike_72 : decode cL_areAlike 72 = .ok (.invokestatic 83, 3) := by decide +kernel
theorem dL_areAlike_75 : decode cL_areAlike 75 = .ok (.if_icmp .ne 7, 3) := by decide +kernel
theorem dL_areAlike_78 : decode cL_areAlike 78 = .ok (.iconst 1, 1) := by decide +kernel
theorem dL_areAlike_79 : decode cL_areAlike 79 = .ok (.goto 4, 3) := by decide +kernel
theorem dL_areAlike_82 : decode cL_areAlike 82 = .ok (.iconst 0, 1) := by decide +kernel
theorem dL_areAlike_83 : decode cL_areAlike 83 = .ok (.istore_n 2, 1) := by decide +kernel
theorem dL_areAlike_84 : decode cL_areAlike 84 = .ok (.iinc 3 1, 3) := by decide +kernel
theorem dL_areAlike_87 : decode cL_areAlike 87 = .ok (.goto (-57), 3) := by decide +kernel
theorem dL_areAlike_90 : decode cL_areAlike 90 = .ok (.iload_n 2, 1) := by decide +kernel
theorem dL_areAlike_91 : decode cL_areAlike 91 = .ok (.ireturn, 1) := by decide +kernel
set_option maxRecDepth 20000 in
theorem ggL_isMovementSo_X7_cost : GoodIn wsL_isMovementSo wsX7_cost := goodIn_ca (goodIn_r _ [5, 6, 7, 4, 8, 9, 10, 11, 12, 13, 14, 15, 16, 17, 18, 19, 20, 21] (by decide +kernel) (by decide +kernel)) (goodIn_sub (fun _ h => List.mem_cons_of_mem _ (List.mem_append_right _ h)) (by decide +kernel))
set_option maxRecDepth 20000 in
theorem gL_isMovementSo_X7_cost : GoodIn wsL_isMovementSo (wsV RL 85 RX7 yX7_cost wsX7_cost) := goodIn_app (goodIn_of _ (by decide +kernel)) ggL_isMovementSo_X7_cost
set_option maxRecDepth 20000 in
theorem ggL_isMovementSo_X7_isBarred : GoodIn wsL_isMovementSo wsX7_isBarred := goodIn_ca (goodIn_r _ [25, 26, 6, 7, 4, 8, 9, 10, 27, 28, 29, 13, 30, 31, 32, 33, 34, 35, 36, 37, 38] (by decide +kernel) (by decide +kernel)) (goodIn_sub (fun _ h => List.mem_cons_of_mem _ (List.mem_append_right _ h)) (by decide +kernel))
set_option maxRecDepth 20000 in
theorem gL_isMovementSo_X7_isBarred : GoodIn wsL_isMovementSo (wsV RL 88 RX7 yX7_isBarred wsX7_isBarred) := goodIn_app (goodIn_of _ (by decide +kernel)) ggL_isMovementSo_X7_isBarred
theorem dL_isMovementSo_0 : decode cL_isMovementSo 0 = .ok (.aload_n 0, 1) := by decide +kernel
theorem dL_isMovementSo_1 : decode cL_isMovementSo 1 = .ok (.iload_n 1, 1) := by decide +kernel
theorem dL_isMovementSo_2 : decode cL_isMovementSo 2 = .ok (.iload_n 2, 1) := by decide +kernel
theorem dL_isMovementSo_3 : decode cL_isMovementSo 3 = .ok (.invokevirtual 85, 3) := by decide +kernel
theorem dL_isMovementSo_6 : decode cL_isMovementSo 6 = .ok (.istore 4, 2) := by decide +kernel
theorem dL_isMovementSo_8 : decode cL_isMovementSo 8 = .ok (.iload 4, 2) := by decide +kernel
theorem dL_isMovementSo_10 : decode cL_isMovementSo 10 = .ok (.aload_n 0, 1) := by decide +kernel
theorem dL_isMovementSo_11 : decode cL_isMovementSo 11 = .ok (.iload_n 2, 1) := by decide +kernel
theorem dL_isMovementSo_12 : decode cL_isMovementSo 12 = .ok (.iload_n 1, 1) := by decide +kernel
theorem dL_isMovementSo_13 : decode cL_isMovementSo 13 = .ok (.invokevirtual 85, 3) := by decide +kernel
theorem dL_isMovementSo_16 : decode cL_isMovementSo 16 = .ok (.if_icmp .ne 102, 3) := by decide +kernel
theorem dL_isMovementSo_19 : decode cL_isMovementSo 19 = .ok (.iload 4, 2) := by decide +kernel
theorem dL_isMovementSo_21 : decode cL_isMovementSo 21 = .ok (.ifCond .ne 7, 3) := by decide +kernel
theorem dL_isMovementSo_24 : decode cL_isMovementSo 24 = .ok (.iconst 1, 1) := by decide +kernel
theorem dL_isMovementSo_25 : decode cL_isMovementSo 25 = .ok (.goto 4, 3) := by decide +kernel
theorem dL_isMovementSo_28 : decode cL_isMovementSo 28 = .ok (.iconst 0, 1) := by decide +kernel
theorem dL_isMovementSo_29 : decode cL_isMovementSo 29 = .ok (.iload_n 1, 1) := by decide +kernel
theorem dL_isMovementSo_30 : decode cL_isMovementSo 30 = .ok (.iload_n 2, 1) := by decide +kernel
theorem dL_isMovementSo_31 : decode cL_isMovementSo 31 = .ok (.if_icmp .ne 7, 3) := by decide +kernel
theorem dL_isMovementSo_34 : decode cL_isMovementSo 34 = .ok (.iconst 1, 1) := by decide +kernel
theorem dL_isMovementSo_35 : decode cL_isMovementSo 35 = .ok (.goto 4, 3) := by decide +kernel
theorem dL_isMovementSo_38 : decode cL_isMovementSo 38 = .ok (.iconst 0, 1) := by decide +kernel
theorem dL_isMovementSo_39 : decode cL_isMovementSo 39 = .ok (.if_icmp .ne 79, 3) := by decide +kernel
theorem dL_isMovementSo_42 : decode cL_isMovementSo 42 = .ok (.iload 4, 2) := by decide +kernel
theorem dL_isMovementSo_44 : decode cL_isMovementSo 44 = .ok (.aload_n 0, 1) := by decide +kernel
theorem dL_isMovementSo_45 : decode cL_isMovementSo 45 = .ok (.iload_n 1, 1) := by decide +kernel
theorem dL_isMovementSo_46 : decode cL_isMovementSo 46 = .ok (.iload_n 3, 1) := by decide +kernel
theorem dL_isMovementSo_47 : decode cL_isMovementSo 47 = .ok (.invokevirtual 85, 3) := by decide +kernel
theorem dL_isMovementSo_50 : decode cL_isMovementSo 50 = .ok (.aload_n 0, 1) := by decide +kernel
theorem dL_isMovementSo_51 : decode cL_isMovementSo 51 = .ok (.iload_n 3, 1) := by decide +kernel
theorem dL_isMovementSo_52 : decode cL_isMovementSo 52 = .ok (.iload_n 2, 1) := by decide +kernel
theorem dL_isMovementSo_53 : decode cL_isMovementSo 53 = .ok (.invokevirtual 85, 3) := by decide +kernel
theorem dL_isMovementSo_56 : decode cL_isMovementSo 56 = .ok (.iadd, 1) := by decide +kernel
theorem dL_isMovementSo_57 : decode cL_isMovementSo 57 = .ok (.if_icmp .gt 61, 3) := by decide +kernel
theorem dL_isMovementSo_60 : decode cL_isMovementSo 60 = .ok (.aload_n 0, 1) := by decide +kernel
theorem dL_isMovementSo_61 : decode cL_isMovementSo 61 = .ok (.iload_n 1, 1) := by decide +kernel
theorem dL_isMovementSo_62 : decode cL_isMovementSo 62 = .ok (.iload_n 2, 1) := by decide +kernel
theorem dL_isMovementSo_63 : decode cL_isMovementSo 63 = .ok (.invokevirtual 88, 3) := by decide +kernel
theorem dL_isMovementSo_66 : decode cL_isMovementSo 66 = .ok (.aload_n 0, 1) := by decide +kernel
theorem dL_isMovementSo_67 : decode cL_isMovementSo 67 = .ok (.iload_n 2, 1) := by decide +kernel
theorem dL_isMovementSo_68 : decode cL_isMovementSo 68 = .ok (.iload_n 1, 1) := by decide +kernel
theorem dL_isMovementSo_69 : decode cL_isMovementSo 69 = .ok (.invokevirtual 88, 3) := by decide +kernel
theorem dL_isMovementSo_72 : decode cL_isMovementSo 72 = .ok (.if_icmp .ne 46, 3) := by decide +kernel
theorem dL_isMovementSo_75 : decode cL_isMovementSo 75 = .ok (.iload_n 1, 1) := by decide +kernel
theorem dL_isMovementSo_76 : decode cL_isMovementSo 76 = .ok (.iload_n 2, 1) := by decide +kernel
theorem dL_isMovementSo_77 : decode cL_isMovementSo 77 = .ok (.if_icmp .ne 12, 3) := by decide +kernel
theorem dL_isMovementSo_80 : decode cL_isMovementSo 80 = .ok (.aload_n 0, 1) := by decide +kernel
theorem dL_isMovementSo_81 : decode cL_isMovementSo 81 = .ok (.iload_n 1, 1) := by decide +kernel
theorem dL_isMovementSo_82 : decode cL_isMovementSo 82 = .ok (.iload_n 2, 1) := by decide +kernel
theorem dL_isMovementSo_83 : decode cL_isMovementSo 83 = .ok (.invokevirtual 88, 3) := by decide +kernel
theorem dL_isMovementSo_86 : decode cL_isMovementSo 86 = .ok (.ifCond .ne 32, 3) := by decide +kernel
theorem dL_isMovementSo_89 : decode cL_isMovementSo 89 = .ok (.aload_n 0, 1) := by decide +kernel
theorem dL_isMovementSo_90 : decode cL_isMovementSo 90 = .ok (.iload_n 1, 1) := by decide +kernel
theorem dL_isMovementSo_91 : decode cL_isMovementSo 91 = .ok (.iload_n 2, 1) := by decide +kernel
theorem dL_isMovementSo_92 : decode cL_isMovementSo 92 = .ok (.invokevirtual 85, 3) := by decide +kernel
theorem dL_isMovementSo_95 : decode cL_isMovementSo 95 = .ok (.aload_n 0, 1) := by decide +kernel
theorem dL_isMovementSo_96 : decode cL_isMovementSo 96 = .ok (.iload_n 2, 1) := by decide +kernel
theorem dL_isMovementSo_97 : decode cL_isMovementSo 97 = .ok (.iload_n 3, 1) := by decide +kernel
theorem dL_isMovementSo_98 : decode cL_isMovementSo 98 = .ok (.invokevirtual 85, 3) := by decide +kernel
theorem dL_isMovementSo_101 : decode cL_isMovementSo 101 = .ok (.iadd, 1) := by decide +kernel
theorem dL_isMovementSo_102 : decode cL_isMovementSo 102 = .ok (.aload_n 0, 1) := by decide +kernel
theorem dL_isMovementSo_103 : decode cL_isMovementSo 103 = .ok (.iload_n 1, 1) := by decide +kernel
theorem dL_isMovementSo_104 : decode cL_isMovementSo 104 = .ok (.iload_n 3, 1) := by decide +kernel
theorem dL_isMovementSo_105 : decode cL_isMovementSo 105 = .ok (.invokevirtual 85, 3) := by decide +kernel
theorem dL_isMovementSo_108 : decode cL_isMovementSo 108 = .ok (.iadd, 1) := by decide +kernel
theorem dL_isMovementSo_109 : decode cL_isMovementSo 109 = .ok (.iconst 2, 1) := by decide +kernel
theorem dL_isMovementSo_110 : decode cL_isMovementSo 110 = .ok (.irem, 1) := by decide +kernel
theorem dL_isMovementSo_111 : decode cL_isMovementSo 111 = .ok (.ifCond .ne 7, 3) := by decide +kernel
theorem dL_isMovementSo_114 : decode cL_isMovementSo 114 = .ok (.iconst 1, 1) := by decide +kernel
theorem dL_isMovementSo_115 : decode cL_isMovementSo 115 = .ok (.goto 4, 3) := by decide +kernel
theorem dL_isMovementSo_118 : decode cL_isMovementSo 118 = .ok (.iconst 0, 1) := by decide +kernel
theorem dL_isMovementSo_119 : decode cL_isMovementSo 119 = .ok (.ireturn, 1) := by decide +kernel
set_option maxRecDepth 20000 in
theorem ggL_isTuneSo_X7_notes : GoodIn wsL_isTuneSo wsX7_notes := goodIn_ca (goodIn_r _ [5, 6, 7, 8, 4, 9, 10, 11, 12, 13, 14, 15, 16, 17, 192, 193, 194, 195, 196, 197, 198, 199, 200, 201] (by decide +kernel) (by decide +kernel)) (goodIn_sub (fun _ h => List.mem_cons_of_mem _ (List.mem_append_left _ (List.mem_append_left _ (List.mem_append_right _ h)))) (by decide +kernel))
set_option maxRecDepth 20000 in
theorem gL_isTuneSo_X7_notes : GoodIn wsL_isTuneSo (wsV RL 77 RX7 yX7_notes wsX7_notes) := goodIn_app (goodIn_of _ (by decide +kernel)) ggL_isTuneSo_X7_notes
set_option maxRecDepth 20000 in
theorem ggL_isTuneSo_X7_choices : GoodIn wsL_isTuneSo wsX7_choices := goodIn_ca (goodIn_r _ [21, 6, 22, 23, 24, 7, 8, 4, 9, 10, 11, 25, 26, 27, 15, 28, 17, 29, 30, 31, 32, 33, 34, 35, 36, 37, 38, 39, 40, 41, 42, 43, 44, 45, 46, 47, 48, 49, 50, 51, 52, 53, 54, 55, 56, 57, 58, 59, 60, 61, 62, 63, 64, 65, 66, 67, 68, 69, 70, 71, 72, 73, 74, 75, 76, 77, 78, 79, 80, 81, 82, 83, 84, 85, 86, 87, 192, 193, 194, 195, 196, 197, 198, 199, 200, 201, 202, 203, 204, 205, 206, 207, 208, 209, 210, 211] (by decide +kernel) (by decide +kernel)) (goodIn_sub (fun _ h => List.mem_cons_of_mem _ (List.mem_append_left _ (List.mem_append_left _ (List.mem_append_right _ h)))) (by decide +kernel))
set_option maxRecDepth 20000 in
theorem gL_isTuneSo_X7_choices : GoodIn wsL_isTuneSo (wsV RL 80 RX7 yX7_choices wsX7_choices) := goodIn_app (goodIn_of _ (by decide +kernel)) ggL_isTuneSo_X7_choices
set_option maxRecDepth 20000 in
theorem ggL_isTuneSo_L_least : GoodIn wsL_isTuneSo wsL_least := goodIn_ca (goodIn_ca (goodIn_r _ [91, 92, 93, 94, 95, 96, 97, 4, 98, 7, 8, 9, 10, 11, 99, 100, 101, 102, 103, 104, 6, 22, 23, 24, 105, 25, 26, 27, 15, 28, 17, 29, 30, 31, 32, 33, 34, 35, 36, 37, 38, 39, 40, 41, 42, 43, 44, 45, 46, 47, 48, 49, 50, 51, 52, 53, 54, 55, 56, 57, 58, 59, 60, 61, 62, 63, 64, 106, 107, 108, 68, 109, 110, 75, 76, 77, 78, 111, 112, 113, 114, 115, 116, 117, 118, 72, 73, 74, 79, 80, 81, 82, 119, 120, 121, 122, 123, 124, 125, 126, 127, 128, 129, 130, 131, 192, 193, 194, 195, 196, 197, 198, 199, 200, 201, 202, 203, 204, 205, 206, 207, 208, 209, 210, 211, 212] (by decide +kernel) (by decide +kernel)) (goodIn_sub (fun _ h => List.mem_cons_of_mem _ (List.mem_append_left _ (List.mem_append_left _ (List.mem_append_right _ h)))) (by decide +kernel))) (goodIn_sub (fun _ h => List.mem_cons_of_mem _ (List.mem_append_left _ (List.mem_append_right _ h))) (by decide +kernel))
set_option maxRecDepth 20000 in
theorem gL_isTuneSo_L_least : GoodIn wsL_isTuneSo (va_wsS RL 83 yL_least wsL_least) := goodIn_app (goodIn_of _ (by decide +kernel)) ggL_isTuneSo_L_least
set_option maxRecDepth 20000 in
theorem ggL_isTuneSo_X7_chosen : GoodIn wsL_isTuneSo wsX7_chosen := goodIn_ca (goodIn_ca (goodIn_ca (goodIn_r _ [135, 24, 7, 8, 4, 9, 10, 11, 136, 137, 138, 139, 140, 141, 6, 142, 76, 77, 15, 78, 17, 99, 100, 101, 102, 103, 104, 22, 23, 105, 25, 26, 27, 28, 29, 30, 31, 32, 33, 34, 35, 36, 37, 38, 39, 40, 41, 42, 43, 44, 45, 46, 47, 48, 49, 50, 51, 52, 53, 54, 55, 56, 57, 58, 59, 60, 61, 62, 63, 64, 106, 107, 108, 68, 109, 110, 75, 111, 112, 113, 114, 115, 116, 117, 118, 72, 73, 74, 79, 80, 81, 82, 119, 120, 121, 122, 123, 124, 125, 126, 127, 128, 129, 130, 131, 143, 144, 145, 146, 147, 192, 193, 194, 195, 196, 197, 198, 199, 200, 201, 202, 203, 204, 205, 206, 207, 208, 209, 210, 211, 212] (by decide +kernel) (by decide +kernel)) (goodIn_sub (fun _ h => List.mem_cons_of_mem _ (List.mem_append_left _ (List.mem_append_left _ (List.mem_append_right _ h)))) (by decide +kernel))) (goodIn_sub (fun _ h => List.mem_cons_of_mem _ (List.mem_append_right _ h)) (by decide +kernel))) (goodIn_sub (fun _ h => List.mem_cons_of_mem _ (List.mem_append_left _ (List.mem_append_right _ h))) (by decide +kernel))
set_option maxRecDepth 20000 in
theorem gL_isTuneSo_X7_chosen : GoodIn wsL_isTuneSo (wsV RL 92 RX7 yX7_chosen wsX7_chosen) := goodIn_app (goodIn_of _ (by decide +kernel)) ggL_isTuneSo_X7_chosen
set_option maxRecDepth 20000 in
theorem ggL_isTuneSo_X7_ornaments : GoodIn wsL_isTuneSo wsX7_ornaments := goodIn_r _ [151, 23, 152, 153, 154, 36, 155, 156, 192, 193, 194, 195, 196, 203, 204, 205, 206] (by decide +kernel) (by decide +kernel)
set_option maxRecDepth 20000 in
theorem gL_isTuneSo_X7_ornaments : GoodIn wsL_isTuneSo (wsV RL 72 RX7 yX7_ornaments wsX7_ornaments) := goodIn_app (goodIn_of _ (by decide +kernel)) ggL_isTuneSo_X7_ornaments
set_option maxRecDepth 20000 in
theorem ggL_isTuneSo_X7_fitting : GoodIn wsL_isTuneSo wsX7_fitting := goodIn_ca (goodIn_ca (goodIn_r _ [160, 6, 22, 23, 105, 7, 8, 4, 9, 10, 11, 136, 137, 138, 139, 140, 141, 142, 76, 77, 15, 78, 17, 25, 26, 27, 28, 29, 30, 31, 32, 33, 34, 35, 36, 37, 38, 39, 40, 41, 42, 43, 44, 45, 46, 47, 48, 49, 50, 51, 52, 53, 54, 55, 56, 57, 58, 59, 60, 61, 62, 63, 64, 161, 80, 81, 82, 192, 193, 194, 195, 196, 197, 198, 199, 200, 201, 202, 203, 204, 205, 206, 207] (by decide +kernel) (by decide +kernel)) (goodIn_sub (fun _ h => List.mem_cons_of_mem _ (List.mem_append_left _ (List.mem_append_left _ (List.mem_append_right _ h)))) (by decide +kernel))) (goodIn_sub (fun _ h => List.mem_cons_of_mem _ (List.mem_append_right _ h)) (by decide +kernel))
set_option maxRecDepth 20000 in
theorem gL_isTuneSo_X7_fitting : GoodIn wsL_isTuneSo (wsV RL 95 RX7 yX7_fitting wsX7_fitting) := goodIn_app (goodIn_of _ (by decide +kernel)) ggL_isTuneSo_X7_fitting
set_option maxRecDepth 20000 in
theorem ggL_isTuneSo_X7_time : GoodIn wsL_isTuneSo wsX7_time := goodIn_ca (goodIn_ca (goodIn_ca (goodIn_r _ [165, 140, 141, 6, 23, 24, 7, 8, 4, 9, 10, 11, 12, 13, 14, 15, 16, 17, 99, 100, 101, 102, 103, 104, 22, 105, 25, 26, 27, 28, 29, 30, 31, 32, 33, 34, 35, 36, 37, 38, 39, 40, 41, 42, 43, 44, 45, 46, 47, 48, 49, 50, 51, 52, 53, 54, 55, 56, 57, 58, 59, 60, 61, 62, 63, 64, 106, 107, 108, 68, 109, 110, 75, 76, 77, 78, 111, 112, 113, 114, 115, 116, 117, 118, 72, 73, 74, 79, 80, 81, 82, 119, 120, 121, 122, 123, 124, 125, 126, 127, 128, 129, 130, 131, 166, 167, 168, 169, 142, 143, 144, 145, 146, 147, 170, 171, 172, 173, 174, 175, 176, 177, 192, 193, 194, 195, 196, 197, 198, 199, 200, 201, 202, 203, 204, 205, 206, 207, 208, 209, 210, 211, 212] (by decide +kernel) (by decide +kernel)) (goodIn_sub (fun _ h => List.mem_cons_of_mem _ (List.mem_append_right _ h)) (by decide +kernel))) (goodIn_sub (fun _ h => List.mem_cons_of_mem _ (List.mem_append_left _ (List.mem_append_left _ (List.mem_append_right _ h)))) (by decide +kernel))) (goodIn_sub (fun _ h => List.mem_cons_of_mem _ (List.mem_append_left _ (List.mem_append_right _ h))) (by decide +kernel))
set_option maxRecDepth 20000 in
theorem gL_isTuneSo_X7_time : GoodIn wsL_isTuneSo (wsV RL 98 RX7 yX7_time wsX7_time) := goodIn_app (goodIn_of _ (by decide +kernel)) ggL_isTuneSo_X7_time
set_option maxRecDepth 20000 in
theorem ggL_isTuneSo_X7_mostOrnaments : GoodIn wsL_isTuneSo wsX7_mostOrnaments := goodIn_ca (goodIn_ca (goodIn_r _ [181, 6, 24, 7, 8, 4, 9, 10, 11, 99, 100, 101, 102, 103, 104, 22, 23, 105, 25, 26, 27, 15, 28, 17, 29, 30, 31, 32, 33, 34, 35, 36, 37, 38, 39, 40, 41, 42, 43, 44, 45, 46, 47, 48, 49, 50, 51, 52, 53, 54, 55, 56, 57, 58, 59, 60, 61, 62, 63, 64, 106, 107, 108, 68, 109, 110, 75, 76, 77, 78, 111, 112, 113, 114, 115, 116, 117, 118, 72, 73, 74, 79, 80, 81, 82, 119, 120, 121, 122, 123, 124, 125, 126, 127, 128, 129, 130, 131, 142, 182, 183, 184, 185, 186, 187, 87, 192, 193, 194, 195, 196, 197, 198, 199, 200, 201, 202, 203, 204, 205, 206, 207, 208, 209, 210, 211, 212] (by decide +kernel) (by decide +kernel)) (goodIn_sub (fun _ h => List.mem_cons_of_mem _ (List.mem_append_left _ (List.mem_append_left _ (List.mem_append_right _ h)))) (by decide +kernel))) (goodIn_sub (fun _ h => List.mem_cons_of_mem _ (List.mem_append_left _ (List.mem_append_right _ h))) (by decide +kernel))
set_option maxRecDepth 20000 in
theorem gL_isTuneSo_X7_mostOrnaments : GoodIn wsL_isTuneSo (wsV RL 101 RX7 yX7_mostOrnaments wsX7_mostOrnaments) := goodIn_app (goodIn_of _ (by decide +kernel)) ggL_isTuneSo_X7_mostOrnaments
set_option maxRecDepth 20000 in
theorem ggL_isTuneSo_X7_average : GoodIn wsL_isTuneSo wsX7_average := goodIn_ca (goodIn_ca (goodIn_r _ [191, 6, 7, 8, 4, 9, 10, 11, 99, 100, 101, 102, 103, 104, 22, 23, 24, 105, 25, 26, 27, 15, 28, 17, 29, 30, 31, 32, 33, 34, 35, 36, 37, 38, 39, 40, 41, 42, 43, 44, 45, 46, 47, 48, 49, 50, 51, 52, 53, 54, 55, 56, 57, 58, 59, 60, 61, 62, 63, 64, 106, 107, 108, 68, 109, 110, 75, 76, 77, 78, 111, 112, 113, 114, 115, 116, 117, 118, 72, 73, 74, 79, 80, 81, 82, 119, 120, 121, 122, 123, 124, 125, 126, 127, 128, 129, 130, 131, 142, 192, 193, 194, 195, 196, 197, 198, 199, 200, 201, 202, 203, 204, 205, 206, 207, 208, 209, 210, 211, 212] (by decide +kernel) (by decide +kernel)) (goodIn_sub (fun _ h => List.mem_cons_of_mem _ (List.mem_append_left _ (List.mem_append_left _ (List.mem_append_right _ h)))) (by decide +kernel))) (goodIn_sub (fun _ h => List.mem_cons_of_mem _ (List.mem_append_left _ (List.mem_append_right _ h))) (by decide +kernel))
set_option maxRecDepth 20000 in
theorem gL_isTuneSo_X7_average : GoodIn wsL_isTuneSo (wsV RL 104 RX7 yX7_average wsX7_average) := goodIn_app (goodIn_of _ (by decide +kernel)) ggL_isTuneSo_X7_average
theorem dL_isTuneSo_0 : decode cL_isTuneSo 0 = .ok (.aload_n 0, 1) := by decide +kernel
theorem dL_isTuneSo_1 : decode cL_isTuneSo 1 = .ok (.iload_n 1, 1) := by decide +kernel
theorem dL_isTuneSo_2 : decode cL_isTuneSo 2 = .ok (.invokevirtual 77, 3) := by decide +kernel
theorem dL_isTuneSo_5 : decode cL_isTuneSo 5 = .ok (.istore_n 2, 1) := by decide +kernel
theorem dL_isTuneSo_6 : decode cL_isTuneSo 6 = .ok (.aload_n 0, 1) := by decide +kernel
theorem dL_isTuneSo_7 : decode cL_isTuneSo 7 = .ok (.iload_n 1, 1) := by decide +kernel
theorem dL_isTuneSo_8 : decode cL_isTuneSo 8 = .ok (.invokevirtual 80, 3) := by decide +kernel
theorem dL_isTuneSo_11 : decode cL_isTuneSo 11 = .ok (.istore_n 3, 1) := by decide +kernel
theorem dL_isTuneSo_12 : decode cL_isTuneSo 12 = .ok (.aload_n 0, 1) := by decide +kernel
theorem dL_isTuneSo_13 : decode cL_isTuneSo 13 = .ok (.iload_n 1, 1) := by decide +kernel
theorem dL_isTuneSo_14 : decode cL_isTuneSo 14 = .ok (.invokestatic 83, 3) := by decide +kernel
theorem dL_isTuneSo_17 : decode cL_isTuneSo 17 = .ok (.istore 4, 2) := by decide +kernel
theorem dL_isTuneSo_19 : decode cL_isTuneSo 19 = .ok (.iload_n 2, 1) := by decide +kernel
theorem dL_isTuneSo_20 : decode cL_isTuneSo 20 = .ok (.ifCond .le 9, 3) := by decide +kernel
theorem dL_isTuneSo_23 : decode cL_isTuneSo 23 = .ok (.iload_n 2, 1) := by decide +kernel
theorem dL_isTuneSo_24 : decode cL_isTuneSo 24 = .ok (.iconst 1, 1) := by decide +kernel
theorem dL_isTuneSo_25 : decode cL_isTuneSo 25 = .ok (.isub, 1) := by decide +kernel
theorem dL_isTuneSo_26 : decode cL_isTuneSo 26 = .ok (.goto 4, 3) := by decide +kernel
theorem dL_isTuneSo_29 : decode cL_isTuneSo 29 = .ok (.iconst 0, 1) := by decide +kernel
theorem dL_isTuneSo_30 : decode cL_isTuneSo 30 = .ok (.istore 5, 2) := by decide +kernel
theorem dL_isTuneSo_32 : decode cL_isTuneSo 32 = .ok (.iload_n 3, 1) := by decide +kernel
theorem dL_isTuneSo_33 : decode cL_isTuneSo 33 = .ok (.ifCond .ne 20, 3) := by decide +kernel
theorem dL_isTuneSo_36 : decode cL_isTuneSo 36 = .ok (.iload 4, 2) := by decide +kernel
theorem dL_isTuneSo_38 : decode cL_isTuneSo 38 = .ok (.iconst (-1), 1) := by decide +kernel
theorem dL_isTuneSo_39 : decode cL_isTuneSo 39 = .ok (.if_icmp .ne 12, 3) := by decide +kernel
theorem dL_isTuneSo_42 : decode cL_isTuneSo 42 = .ok (.iload 5, 2) := by decide +kernel
theorem dL_isTuneSo_44 : decode cL_isTuneSo 44 = .ok (.ifCond .le 7, 3) := by decide +kernel
theorem dL_isTuneSo_47 : decode cL_isTuneSo 47 = .ok (.iconst 1, 1) := by decide +kernel
theorem dL_isTuneSo_48 : decode cL_isTuneSo 48 = .ok (.goto 4, 3) := by decide +kernel
theorem dL_isTuneSo_51 : decode cL_isTuneSo 51 = .ok (.iconst 0, 1) := by decide +kernel
theorem dL_isTuneSo_52 : decode cL_isTuneSo 52 = .ok (.ireturn, 1) := by decide +kernel
theorem dL_isTuneSo_53 : decode cL_isTuneSo 53 = .ok (.iconst (-1), 1) := by decide +kernel
theorem dL_isTuneSo_54 : decode cL_isTuneSo 54 = .ok (.istore 6, 2) := by decide +kernel
theorem dL_isTuneSo_56 : decode cL_isTuneSo 56 = .ok (.iconst 0, 1) := by decide +kernel
theorem dL_isTuneSo_57 : decode cL_isTuneSo 57 = .ok (.istore 7, 2) := by decide +kernel
theorem dL_isTuneSo_59 : decode cL_isTuneSo 59 = .ok (.iconst 0, 1) := by decide +kernel
theorem dL_isTuneSo_60 : decode cL_isTuneSo 60 = .ok (.istore 8, 2) := by decide +kernel
theorem dL_isTuneSo_62 : decode cL_isTuneSo 62 = .ok (.iload 8, 2) := by decide +kernel
theorem dL_isTuneSo_64 : decode cL_isTuneSo 64 = .ok (.iload 5, 2) := by decide +kernel
theorem dL_isTuneSo_66 : decode cL_isTuneSo 66 = .ok (.if_icmp .ge 106, 3) := by decide +kernel
theorem dL_isTuneSo_69 : decode cL_isTuneSo 69 = .ok (.aload_n 0, 1) := by decide +kernel
theorem dL_isTuneSo_70 : decode cL_isTuneSo 70 = .ok (.iload_n 1, 1) := by decide +kernel
theorem dL_isTuneSo_71 : decode cL_isTuneSo 71 = .ok (.iload 8, 2) := by decide +kernel
theorem dL_isTuneSo_73 : decode cL_isTuneSo 73 = .ok (.invokevirtual 92, 3) := by decide +kernel
theorem dL_isTuneSo_76 : decode cL_isTuneSo 76 = .ok (.istore 9, 2) := by decide +kernel
theorem dL_isTuneSo_78 : decode cL_isTuneSo 78 = .ok (.iload 9, 2) := by decide +kernel
theorem dL_isTuneSo_80 : decode cL_isTuneSo 80 = .ok (.iconst (-1), 1) := by decide +kernel
theorem dL_isTuneSo_81 : decode cL_isTuneSo 81 = .ok (.if_icmp .lt 64, 3) := by decide +kernel
theorem dL_isTuneSo_84 : decode cL_isTuneSo 84 = .ok (.iload 9, 2) := by decide +kernel
theorem dL_isTuneSo_86 : decode cL_isTuneSo 86 = .ok (.aload_n 0, 1) := by decide +kernel
theorem dL_isTuneSo_87 : decode cL_isTuneSo 87 = .ok (.invokevirtual 72, 3) := by decide +kernel
theorem dL_isTuneSo_90 : decode cL_isTuneSo 90 = .ok (.if_icmp .ge 55, 3) := by decide +kernel
theorem dL_isTuneSo_93 : decode cL_isTuneSo 93 = .ok (.iload 9, 2) := by decide +kernel
theorem dL_isTuneSo_95 : decode cL_isTuneSo 95 = .ok (.ifCond .lt 10, 3) := by decide +kernel
theorem dL_isTuneSo_98 : decode cL_isTuneSo 98 = .ok (.iload 9, 2) := by decide +kernel
theorem dL_isTuneSo_100 : decode cL_isTuneSo 100 = .ok (.iload 6, 2) := by decide +kernel
theorem dL_isTuneSo_102 : decode cL_isTuneSo 102 = .ok (.if_icmp .eq 43, 3) := by decide +kernel
theorem dL_isTuneSo_105 : decode cL_isTuneSo 105 = .ok (.aload_n 0, 1) := by decide +kernel
theorem dL_isTuneSo_106 : decode cL_isTuneSo 106 = .ok (.iload_n 1, 1) := by decide +kernel
theorem dL_isTuneSo_107 : decode cL_isTuneSo 107 = .ok (.iload 8, 2) := by decide +kernel
theorem dL_isTuneSo_109 : decode cL_isTuneSo 109 = .ok (.invokevirtual 95, 3) := by decide +kernel
theorem dL_isTuneSo_112 : decode cL_isTuneSo 112 = .ok (.aload_n 0, 1) := by decide +kernel
theorem dL_isTuneSo_113 : decode cL_isTuneSo 113 = .ok (.invokevirtual 72, 3) := by decide +kernel
theorem dL_isTuneSo_116 : decode cL_isTuneSo 116 = .ok (.if_icmp .gt 29, 3) := by decide +kernel
theorem dL_isTuneSo_119 : decode cL_isTuneSo 119 = .ok (.iload 9, 2) := by decide +kernel
theorem dL_isTuneSo_121 : decode cL_isTuneSo 121 = .ok (.ifCond .lt 13, 3) := by decide +kernel
theorem dL_isTuneSo_124 : decode cL_isTuneSo 124 = .ok (.aload_n 0, 1) := by decide +kernel
theorem dL_isTuneSo_125 : decode cL_isTuneSo 125 = .ok (.iload_n 1, 1) := by decide +kernel
theorem dL_isTuneSo_126 : decode cL_isTuneSo 126 = .ok (.iload 8, 2) := by decide +kernel
theorem dL_isTuneSo_128 : decode cL_isTuneSo 128 = .ok (.invokevirtual 95, 3) := by decide +kernel
theorem dL_isTuneSo_131 : decode cL_isTuneSo 131 = .ok (.ifCond .eq 14, 3) := by decide +kernel
theorem dL_isTuneSo_134 : decode cL_isTuneSo 134 = .ok (.aload_n 0, 1) := by decide +kernel
theorem dL_isTuneSo_135 : decode cL_isTuneSo 135 = .ok (.iload_n 1, 1) := by decide +kernel
theorem dL_isTuneSo_136 : decode cL_isTuneSo 136 = .ok (.iload 8, 2) := by decide +kernel
theorem dL_isTuneSo_138 : decode cL_isTuneSo 138 = .ok (.invokevirtual 98, 3) := by decide +kernel
theorem dL_isTuneSo_141 : decode cL_isTuneSo 141 = .ok (.iconst 1, 1) := by decide +kernel
theorem dL_isTuneSo_142 : decode cL_isTuneSo 142 = .ok (.if_icmp .ge 5, 3) := by decide +kernel
theorem dL_isTuneSo_145 : decode cL_isTuneSo 145 = .ok (.iconst 0, 1) := by decide +kernel
theorem dL_isTuneSo_146 : decode cL_isTuneSo 146 = .ok (.ireturn, 1) := by decide +kernel
theorem dL_isTuneSo_147 : decode cL_isTuneSo 147 = .ok (.iload 7, 2) := by decide +kernel
theorem dL_isTuneSo_149 : decode cL_isTuneSo 149 = .ok (.iload 9, 2) := by decide +kernel
theorem dL_isTuneSo_151 : decode cL_isTuneSo 151 = .ok (.ifCond .lt 7, 3) := by decide +kernel
theorem dL_isTuneSo_154 : decode cL_isTuneSo 154 = .ok (.iconst 1, 1) := by decide +kernel
theorem dL_isTuneSo_155 : decode cL_isTuneSo 155 = .ok (.goto 4, 3) := by decide +kernel
theorem dL_isTuneSo_158 : decode cL_isTuneSo 158 = .ok (.iconst 0, 1) := by decide +kernel
theorem dL_isTuneSo_159 : decode cL_isTuneSo 159 = .ok (.iadd, 1) := by decide +kernel
theorem dL_isTuneSo_160 : decode cL_isTuneSo 160 = .ok (.istore 7, 2) := by decide +kernel
theorem dL_isTuneSo_162 : decode cL_isTuneSo 162 = .ok (.iload 9, 2) := by decide +kernel
theorem dL_isTuneSo_164 : decode cL_isTuneSo 164 = .ok (.istore 6, 2) := by decide +kernel
theorem dL_isTuneSo_166 : decode cL_isTuneSo 166 = .ok (.iinc 8 1, 3) := by decide +kernel
theorem dL_isTuneSo_169 : decode cL_isTuneSo 169 = .ok (.goto (-107), 3) := by decide +kernel
theorem dL_isTuneSo_172 : decode cL_isTuneSo 172 = .ok (.aload_n 0, 1) := by decide +kernel
theorem dL_isTuneSo_173 : decode cL_isTuneSo 173 = .ok (.iload_n 1, 1) := by decide +kernel
theorem dL_isTuneSo_174 : decode cL_isTuneSo 174 = .ok (.invokevirtual 101, 3) := by decide +kernel
theorem dL_isTuneSo_177 : decode cL_isTuneSo 177 = .ok (.istore 8, 2) := by decide +kernel
theorem dL_isTuneSo_179 : decode cL_isTuneSo 179 = .ok (.iload 4, 2) := by decide +kernel
theorem dL_isTuneSo_181 : decode cL_isTuneSo 181 = .ok (.ifCond .lt 52, 3) := by decide +kernel
theorem dL_isTuneSo_184 : decode cL_isTuneSo 184 = .ok (.iload 7, 2) := by decide +kernel
theorem dL_isTuneSo_186 : decode cL_isTuneSo 186 = .ok (.iload 8, 2) := by decide +kernel
theorem dL_isTuneSo_188 : decode cL_isTuneSo 188 = .ok (.if_icmp .gt 45, 3) := by decide +kernel
theorem dL_isTuneSo_191 : decode cL_isTuneSo 191 = .ok (.iload 8, 2) := by decide +kernel
theorem dL_isTuneSo_193 : decode cL_isTuneSo 193 = .ok (.iload 5, 2) := by decide +kernel
theorem dL_isTuneSo_195 : decode cL_isTuneSo 195 = .ok (.if_icmp .gt 38, 3) := by decide +kernel
theorem dL_isTuneSo_198 : decode cL_isTuneSo 198 = .ok (.iload 5, 2) := by decide +kernel
theorem dL_isTuneSo_200 : decode cL_isTuneSo 200 = .ok (.ifCond .gt 13, 3) := by decide +kernel
theorem dL_isTuneSo_203 : decode cL_isTuneSo 203 = .ok (.iload 4, 2) := by decide +kernel
theorem dL_isTuneSo_205 : decode cL_isTuneSo 205 = .ok (.ifCond .ne 28, 3) := by decide +kernel
theorem dL_isTuneSo_208 : decode cL_isTuneSo 208 = .ok (.iload_n 3, 1) := by decide +kernel
theorem dL_isTuneSo_209 : decode cL_isTuneSo 209 = .ok (.iconst 1, 1) := by decide +kernel
theorem dL_isTuneSo_210 : decode cL_isTuneSo 210 = .ok (.if_icmp .ne 23, 3) := by decide +kernel
theorem dL_isTuneSo_213 : decode cL_isTuneSo 213 = .ok (.iload_n 2, 1) := by decide +kernel
theorem dL_isTuneSo_214 : decode cL_isTuneSo 214 = .ok (.ifCond .eq 15, 3) := by decide +kernel
theorem dL_isTuneSo_217 : decode cL_isTuneSo 217 = .ok (.aload_n 0, 1) := by decide +kernel
theorem dL_isTuneSo_218 : decode cL_isTuneSo 218 = .ok (.iload_n 1, 1) := by decide +kernel
theorem dL_isTuneSo_219 : decode cL_isTuneSo 219 = .ok (.iload_n 2, 1) := by decide +kernel
theorem dL_isTuneSo_220 : decode cL_isTuneSo 220 = .ok (.iconst 1, 1) := by decide +kernel
theorem dL_isTuneSo_221 : decode cL_isTuneSo 221 = .ok (.isub, 1) := by decide +kernel
theorem dL_isTuneSo_222 : decode cL_isTuneSo 222 = .ok (.invokevirtual 98, 3) := by decide +kernel
theorem dL_isTuneSo_225 : decode cL_isTuneSo 225 = .ok (.iconst 1, 1) := by decide +kernel
theorem dL_isTuneSo_226 : decode cL_isTuneSo 226 = .ok (.if_icmp .lt 7, 3) := by decide +kernel
theorem dL_isTuneSo_229 : decode cL_isTuneSo 229 = .ok (.iconst 1, 1) := by decide +kernel
theorem dL_isTuneSo_230 : decode cL_isTuneSo 230 = .ok (.goto 4, 3) := by decide +kernel
theorem dL_isTuneSo_233 : decode cL_isTuneSo 233 = .ok (.iconst 0, 1) := by decide +kernel
theorem dL_isTuneSo_234 : decode cL_isTuneSo 234 = .ok (.istore 9, 2) := by decide +kernel
theorem dL_isTuneSo_236 : decode cL_isTuneSo 236 = .ok (.iload 9, 2) := by decide +kernel
theorem dL_isTuneSo_238 : decode cL_isTuneSo 238 = .ok (.ifCond .eq 32, 3) := by decide +kernel
theorem dL_isTuneSo_241 : decode cL_isTuneSo 241 = .ok (.aload_n 0, 1) := by decide +kernel
theorem dL_isTuneSo_242 : decode cL_isTuneSo 242 = .ok (.iload_n 1, 1) := by decide +kernel
theorem dL_isTuneSo_243 : decode cL_isTuneSo 243 = .ok (.invokevirtual 104, 3) := by decide +kernel
theorem dL_isTuneSo_246 : decode cL_isTuneSo 246 = .ok (.iload 5, 2) := by decide +kernel
theorem dL_isTuneSo_248 : decode cL_isTuneSo 248 = .ok (.ifCond .ne 7, 3) := by decide +kernel
theorem dL_isTuneSo_251 : decode cL_isTuneSo 251 = .ok (.fconst 0, 1) := by decide +kernel
theorem dL_isTuneSo_252 : decode cL_isTuneSo 252 = .ok (.goto 10, 3) := by decide +kernel
theorem dL_isTuneSo_255 : decode cL_isTuneSo 255 = .ok (.iload 4, 2) := by decide +kernel
theorem dL_isTuneSo_257 : decode cL_isTuneSo 257 = .ok (.i2f, 1) := by decide +kernel
theorem dL_isTuneSo_258 : decode cL_isTuneSo 258 = .ok (.iload 5, 2) := by decide +kernel
theorem dL_isTuneSo_260 : decode cL_isTuneSo 260 = .ok (.i2f, 1) := by decide +kernel
theorem dL_isTuneSo_261 : decode cL_isTuneSo 261 = .ok (.fdiv, 1) := by decide +kernel
theorem dL_isTuneSo_262 : decode cL_isTuneSo 262 = .ok (.fcmp .l, 1) := by decide +kernel
theorem dL_isTuneSo_263 : decode cL_isTuneSo 263 = .ok (.ifCond .ne 7, 3) := by decide +kernel
theorem dL_isTuneSo_266 : decode cL_isTuneSo 266 = .ok (.iconst 1, 1) := by decide +kernel
theorem dL_isTuneSo_267 : decode cL_isTuneSo 267 = .ok (.goto 4, 3) := by decide +kernel
theorem dL_isTuneSo_270 : decode cL_isTuneSo 270 = .ok (.iconst 0, 1) := by decide +kernel
theorem dL_isTuneSo_271 : decode cL_isTuneSo 271 = .ok (.ireturn, 1) := by decide +kernel
set_option maxRecDepth 20000 in
theorem ggL_areSetsSo_X7_notes : GoodIn wsL_areSetsSo wsX7_notes := goodIn_ca (goodIn_r _ [6, 7, 8, 9, 5, 10, 11, 12, 13, 14, 15, 16, 17, 18, 211, 212, 213, 214, 215, 216, 217, 218, 219, 220] (by decide +kernel) (by decide +kernel)) (goodIn_sub (fun _ h => List.mem_cons_of_mem _ (List.mem_append_left _ (List.mem_append_left _ (List.mem_append_right _ h)))) (by decide +kernel))
set_option maxRecDepth 20000 in
theorem gL_areSetsSo_X7_notes : GoodIn wsL_areSetsSo (wsV RL 77 RX7 yX7_notes wsX7_notes) := goodIn_app (goodIn_of _ (by decide +kernel)) ggL_areSetsSo_X7_notes
set_option maxRecDepth 20000 in
theorem ggL_areSetsSo_L_leastSet : GoodIn wsL_areSetsSo wsL_leastSet := goodIn_ca (goodIn_r _ [22, 23, 24, 25, 26, 5, 27, 28, 29, 30, 31, 32, 33, 34, 7, 35, 36, 37, 38, 39, 16, 40, 18, 41, 42, 43, 44, 45, 46, 47, 48, 49, 50, 51, 52, 53, 54, 55, 56, 57, 58, 59, 60, 61, 62, 63, 64, 65, 66, 67, 68, 69, 70, 71, 72, 73, 74, 75, 76, 77, 78, 79, 80, 81, 82, 83, 14, 15, 17, 84, 85, 86, 87, 88, 89, 90, 91, 92, 93, 94, 95, 96, 97, 98, 99, 100, 101, 102, 103, 104, 105, 106, 107, 108, 109, 110, 111, 112, 113, 114, 115, 116, 117, 118, 119, 120, 121, 122, 123, 124, 125, 126, 127, 128, 129, 130, 131, 132, 133, 134, 135, 136, 137, 138, 139, 140, 141, 142, 143, 144, 145, 146, 147, 148, 149, 150, 151, 152, 153, 154, 155, 156, 157, 158, 159, 160, 161, 162, 211, 212, 213, 214, 215, 216, 217, 218, 219, 220, 221, 222, 223, 224, 225, 226, 227, 228, 229, 230, 231, 232, 233] (by decide +kernel) (by decide +kernel)) (goodIn_sub (fun _ h => List.mem_cons_of_mem _ (List.mem_append_left _ (List.mem_append_right _ h))) (by decide +kernel))
set_option maxRecDepth 20000 in
theorem gL_areSetsSo_L_leastSet : GoodIn wsL_areSetsSo (va_wsS RL 75 yL_leastSet wsL_leastSet) := goodIn_app (goodIn_of _ (by decide +kernel)) ggL_areSetsSo_L_leastSet
set_option maxRecDepth 20000 in
theorem ggL_areSetsSo_X7_sets : GoodIn wsL_areSetsSo wsX7_sets := goodIn_r _ [166, 31, 32, 33, 5, 34, 7, 35, 36, 30, 37, 38, 39, 16, 40, 18, 41, 42, 43, 44, 45, 46, 47, 48, 49, 50, 51, 52, 53, 54, 55, 56, 57, 58, 59, 60, 61, 62, 63, 64, 65, 66, 67, 68, 69, 70, 71, 72, 73, 74, 75, 76, 77, 78, 79, 80, 81, 82, 83, 14, 15, 17, 84, 85, 86, 87, 88, 89, 90, 91, 92, 93, 94, 95, 96, 97, 98, 99, 100, 101, 102, 103, 104, 105, 106, 107, 108, 109, 110, 111, 112, 113, 114, 115, 116, 117, 118, 119, 120, 121, 122, 123, 124, 125, 126, 127, 128, 129, 130, 131, 132, 133, 134, 135, 136, 137, 138, 139, 140, 141, 142, 143, 144, 145, 146, 147, 148, 149, 150, 151, 152, 153, 154, 155, 156, 157, 158, 211, 212, 213, 214, 215, 216, 217, 218, 219, 220, 221, 222, 223, 224, 225, 226, 227, 228, 229, 230, 231, 232, 233] (by decide +kernel) (by decide +kernel)
set_option maxRecDepth 20000 in
theorem gL_areSetsSo_X7_sets : GoodIn wsL_areSetsSo (wsV RL 108 RX7 yX7_sets wsX7_sets) := goodIn_app (goodIn_of _ (by decide +kernel)) ggL_areSetsSo_X7_sets
set_option maxRecDepth 20000 in
theorem ggL_areSetsSo_L_tuneAt : GoodIn wsL_areSetsSo wsL_tuneAt := goodIn_ca (goodIn_ca (goodIn_r _ [169, 23, 170, 171, 172, 173, 5, 174, 28, 29, 175, 176, 30, 31, 32, 33, 34, 7, 35, 36, 37, 38, 39, 16, 40, 18, 41, 42, 43, 44, 45, 46, 47, 48, 49, 50, 51, 52, 53, 54, 55, 56, 57, 58, 59, 60, 61, 62, 63, 64, 65, 66, 67, 68, 69, 70, 71, 72, 73, 74, 75, 76, 77, 78, 79, 80, 81, 82, 83, 14, 15, 17, 84, 85, 86, 87, 88, 89, 90, 91, 92, 93, 94, 95, 96, 97, 98, 99, 100, 101, 102, 103, 104, 105, 106, 107, 108, 109, 110, 111, 112, 113, 114, 115, 116, 117, 118, 119, 120, 121, 122, 123, 124, 125, 126, 127, 128, 129, 130, 131, 132, 133, 134, 135, 136, 137, 138, 139, 140, 141, 142, 143, 144, 145, 146, 147, 148, 149, 150, 151, 152, 153, 154, 155, 156, 157, 158, 177, 178, 179, 180, 181, 182, 183, 184, 211, 212, 213, 214, 215, 216, 217, 218, 219, 220, 221, 222, 223, 224, 225, 226, 227, 228, 229, 230, 231, 232, 233] (by decide +kernel) (by decide +kernel)) (goodIn_sub (fun _ h => List.mem_cons_of_mem _ (List.mem_append_left _ (List.mem_append_right _ h))) (by decide +kernel))) (goodIn_sub (fun _ h => List.mem_cons_of_mem _ (List.mem_append_right _ h)) (by decide +kernel))
set_option maxRecDepth 20000 in
theorem gL_areSetsSo_L_tuneAt : GoodIn wsL_areSetsSo (va_wsS RL 111 yL_tuneAt wsL_tuneAt) := goodIn_app (goodIn_of _ (by decide +kernel)) ggL_areSetsSo_L_tuneAt
set_option maxRecDepth 20000 in
theorem ggL_areSetsSo_L_least : GoodIn wsL_areSetsSo wsL_least := goodIn_ca (goodIn_ca (goodIn_r _ [187, 188, 23, 189, 190, 191, 192, 5, 193, 8, 9, 10, 11, 12, 194, 195, 196, 197, 28, 29, 7, 35, 36, 198, 199, 37, 38, 39, 16, 40, 18, 41, 42, 43, 44, 45, 46, 47, 48, 49, 50, 51, 52, 53, 54, 55, 56, 57, 58, 59, 60, 61, 62, 63, 64, 65, 66, 67, 68, 69, 70, 71, 72, 73, 74, 75, 76, 200, 201, 202, 203, 204, 205, 206, 131, 132, 133, 207, 111, 112, 113, 114, 115, 116, 117, 118, 119, 120, 208, 135, 136, 137, 209, 122, 123, 124, 125, 126, 127, 128, 129, 210, 139, 140, 141, 211, 212, 213, 214, 215, 216, 217, 218, 219, 220, 221, 222, 223, 224, 225, 226, 234, 235, 236, 237, 233] (by decide +kernel) (by decide +kernel)) (goodIn_sub (fun _ h => List.mem_cons_of_mem _ (List.mem_append_left _ (List.mem_append_left _ (List.mem_append_right _ h)))) (by decide +kernel))) (goodIn_sub (fun _ h => List.mem_cons_of_mem _ (List.mem_append_left _ (List.mem_append_right _ h))) (by decide +kernel))
set_option maxRecDepth 20000 in
theorem gL_areSetsSo_L_least : GoodIn wsL_areSetsSo (va_wsS RL 83 yL_least wsL_least) := goodIn_app (goodIn_of _ (by decide +kernel)) ggL_areSetsSo_L_least
theorem dL_areSetsSo_0 : decode cL_areSetsSo 0 = .ok (.iconst 0, 1) := by decide +kernel
theorem dL_areSetsSo_1 : decode cL_areSetsSo 1 = .ok (.istore_n 1, 1) := by decide +kernel
theorem dL_areSetsSo_2 : decode cL_areSetsSo 2 = .ok (.iconst 1, 1) := by decide +kernel
theorem dL_areSetsSo_3 : decode cL_areSetsSo 3 = .ok (.istore_n 2, 1) := by decide +kernel
theorem dL_areSetsSo_4 : decode cL_areSetsSo 4 = .ok (.iconst 0, 1) := by decide +kernel
theorem dL_areSetsSo_5 : decode cL_areSetsSo 5 = .ok (.istore_n 3, 1) := by decide +kernel
theorem dL_areSetsSo_6 : decode cL_areSetsSo 6 = .ok (.iload_n 3, 1) := by decide +kernel
theorem dL_areSetsSo_7 : decode cL_areSetsSo 7 = .ok (.iconst 4, 1) := by decide +kernel
theorem dL_areSetsSo_8 : decode cL_areSetsSo 8 = .ok (.if_icmp .ge 41, 3) := by decide +kernel
theorem dL_areSetsSo_11 : decode cL_areSetsSo 11 = .ok (.iload_n 1, 1) := by decide +kernel
theorem dL_areSetsSo_12 : decode cL_areSetsSo 12 = .ok (.aload_n 0, 1) := by decide +kernel
theorem dL_areSetsSo_13 : decode cL_areSetsSo 13 = .ok (.iload_n 3, 1) := by decide +kernel
theorem dL_areSetsSo_14 : decode cL_areSetsSo 14 = .ok (.invokevirtual 77, 3) := by decide +kernel
theorem dL_areSetsSo_17 : decode cL_areSetsSo 17 = .ok (.ifCond .le 7, 3) := by decide +kernel
theorem dL_areSetsSo_20 : decode cL_areSetsSo 20 = .ok (.iconst 1, 1) := by decide +kernel
theorem dL_areSetsSo_21 : decode cL_areSetsSo 21 = .ok (.goto 4, 3) := by decide +kernel
theorem dL_areSetsSo_24 : decode cL_areSetsSo 24 = .ok (.iconst 0, 1) := by decide +kernel
theorem dL_areSetsSo_25 : decode cL_areSetsSo 25 = .ok (.iadd, 1) := by decide +kernel
theorem dL_areSetsSo_26 : decode cL_areSetsSo 26 = .ok (.istore_n 1, 1) := by decide +kernel
theorem dL_areSetsSo_27 : decode cL_areSetsSo 27 = .ok (.iload_n 2, 1) := by decide +kernel
theorem dL_areSetsSo_28 : decode cL_areSetsSo 28 = .ok (.aload_n 0, 1) := by decide +kernel
theorem dL_areSetsSo_29 : decode cL_areSetsSo 29 = .ok (.iload_n 3, 1) := by decide +kernel
theorem dL_areSetsSo_30 : decode cL_areSetsSo 30 = .ok (.invokevirtual 77, 3) := by decide +kernel
theorem dL_areSetsSo_33 : decode cL_areSetsSo 33 = .ok (.ifCond .le 7, 3) := by decide +kernel
theorem dL_areSetsSo_36 : decode cL_areSetsSo 36 = .ok (.iload_n 1, 1) := by decide +kernel
theorem dL_areSetsSo_37 : decode cL_areSetsSo 37 = .ok (.goto 4, 3) := by decide +kernel
theorem dL_areSetsSo_40 : decode cL_areSetsSo 40 = .ok (.iconst 1, 1) := by decide +kernel
theorem dL_areSetsSo_41 : decode cL_areSetsSo 41 = .ok (.imul, 1) := by decide +kernel
theorem dL_areSetsSo_42 : decode cL_areSetsSo 42 = .ok (.istore_n 2, 1) := by decide +kernel
theorem dL_areSetsSo_43 : decode cL_areSetsSo 43 = .ok (.iinc 3 1, 3) := by decide +kernel
theorem dL_areSetsSo_46 : decode cL_areSetsSo 46 = .ok (.goto (-40), 3) := by decide +kernel
theorem dL_areSetsSo_49 : decode cL_areSetsSo 49 = .ok (.aload_n 0, 1) := by decide +kernel
theorem dL_areSetsSo_50 : decode cL_areSetsSo 50 = .ok (.invokestatic 75, 3) := by decide +kernel
theorem dL_areSetsSo_53 : decode cL_areSetsSo 53 = .ok (.istore_n 3, 1) := by decide +kernel
theorem dL_areSetsSo_54 : decode cL_areSetsSo 54 = .ok (.aload_n 0, 1) := by decide +kernel
theorem dL_areSetsSo_55 : decode cL_areSetsSo 55 = .ok (.invokevirtual 108, 3) := by decide +kernel
theorem dL_areSetsSo_58 : decode cL_areSetsSo 58 = .ok (.istore 4, 2) := by decide +kernel
theorem dL_areSetsSo_60 : decode cL_areSetsSo 60 = .ok (.iload_n 3, 1) := by decide +kernel
theorem dL_areSetsSo_61 : decode cL_areSetsSo 61 = .ok (.ifCond .ge 28, 3) := by decide +kernel
theorem dL_areSetsSo_64 : decode cL_areSetsSo 64 = .ok (.iload 4, 2) := by decide +kernel
theorem dL_areSetsSo_66 : decode cL_areSetsSo 66 = .ok (.ifCond .ne 21, 3) := by decide +kernel
theorem dL_areSetsSo_69 : decode cL_areSetsSo 69 = .ok (.aload_n 0, 1) := by decide +kernel
theorem dL_areSetsSo_70 : decode cL_areSetsSo 70 = .ok (.iconst 0, 1) := by decide +kernel
theorem dL_areSetsSo_71 : decode cL_areSetsSo 71 = .ok (.invokestatic 111, 3) := by decide +kernel
theorem dL_areSetsSo_74 : decode cL_areSetsSo 74 = .ok (.bipush (-2), 2) := by decide +kernel
theorem dL_areSetsSo_76 : decode cL_areSetsSo 76 = .ok (.if_icmp .ne 11, 3) := by decide +kernel
theorem dL_areSetsSo_79 : decode cL_areSetsSo 79 = .ok (.iload_n 1, 1) := by decide +kernel
theorem dL_areSetsSo_80 : decode cL_areSetsSo 80 = .ok (.ifCond .le 7, 3) := by decide +kernel
theorem dL_areSetsSo_83 : decode cL_areSetsSo 83 = .ok (.iconst 1, 1) := by decide +kernel
theorem dL_areSetsSo_84 : decode cL_areSetsSo 84 = .ok (.goto 4, 3) := by decide +kernel
theorem dL_areSetsSo_87 : decode cL_areSetsSo 87 = .ok (.iconst 0, 1) := by decide +kernel
theorem dL_areSetsSo_88 : decode cL_areSetsSo 88 = .ok (.ireturn, 1) := by decide +kernel
theorem dL_areSetsSo_89 : decode cL_areSetsSo 89 = .ok (.iconst 0, 1) := by decide +kernel
theorem dL_areSetsSo_90 : decode cL_areSetsSo 90 = .ok (.istore 5, 2) := by decide +kernel
theorem dL_areSetsSo_92 : decode cL_areSetsSo 92 = .ok (.iconst 0, 1) := by decide +kernel
theorem dL_areSetsSo_93 : decode cL_areSetsSo 93 = .ok (.istore 6, 2) := by decide +kernel
theorem dL_areSetsSo_95 : decode cL_areSetsSo 95 = .ok (.iconst 0, 1) := by decide +kernel
theorem dL_areSetsSo_96 : decode cL_areSetsSo 96 = .ok (.istore 7, 2) := by decide +kernel
theorem dL_areSetsSo_98 : decode cL_areSetsSo 98 = .ok (.iload 7, 2) := by decide +kernel
theorem dL_areSetsSo_100 : decode cL_areSetsSo 100 = .ok (.iload_n 1, 1) := by decide +kernel
theorem dL_areSetsSo_101 : decode cL_areSetsSo 101 = .ok (.if_icmp .ge 84, 3) := by decide +kernel
theorem dL_areSetsSo_104 : decode cL_areSetsSo 104 = .ok (.aload_n 0, 1) := by decide +kernel
theorem dL_areSetsSo_105 : decode cL_areSetsSo 105 = .ok (.iload 7, 2) := by decide +kernel
theorem dL_areSetsSo_107 : decode cL_areSetsSo 107 = .ok (.invokestatic 111, 3) := by decide +kernel
theorem dL_areSetsSo_110 : decode cL_areSetsSo 110 = .ok (.istore 8, 2) := by decide +kernel
theorem dL_areSetsSo_112 : decode cL_areSetsSo 112 = .ok (.iload 8, 2) := by decide +kernel
theorem dL_areSetsSo_114 : decode cL_areSetsSo 114 = .ok (.ifCond .lt 29, 3) := by decide +kernel
theorem dL_areSetsSo_117 : decode cL_areSetsSo 117 = .ok (.iload 8, 2) := by decide +kernel
theorem dL_areSetsSo_119 : decode cL_areSetsSo 119 = .ok (.iconst 3, 1) := by decide +kernel
theorem dL_areSetsSo_120 : decode cL_areSetsSo 120 = .ok (.if_icmp .gt 23, 3) := by decide +kernel
theorem dL_areSetsSo_123 : decode cL_areSetsSo 123 = .ok (.aload_n 0, 1) := by decide +kernel
theorem dL_areSetsSo_124 : decode cL_areSetsSo 124 = .ok (.iload 8, 2) := by decide +kernel
theorem dL_areSetsSo_126 : decode cL_areSetsSo 126 = .ok (.invokevirtual 77, 3) := by decide +kernel
theorem dL_areSetsSo_129 : decode cL_areSetsSo 129 = .ok (.ifCond .eq 14, 3) := by decide +kernel
theorem dL_areSetsSo_132 : decode cL_areSetsSo 132 = .ok (.iload 5, 2) := by decide +kernel
theorem dL_areSetsSo_134 : decode cL_areSetsSo 134 = .ok (.iload 8, 2) := by decide +kernel
theorem dL_areSetsSo_136 : decode cL_areSetsSo 136 = .ok (.ishr, 1) := by decide +kernel
theorem dL_areSetsSo_137 : decode cL_areSetsSo 137 = .ok (.iconst 1, 1) := by decide +kernel
theorem dL_areSetsSo_138 : decode cL_areSetsSo 138 = .ok (.iand, 1) := by decide +kernel
theorem dL_areSetsSo_139 : decode cL_areSetsSo 139 = .ok (.iconst 1, 1) := by decide +kernel
theorem dL_areSetsSo_140 : decode cL_areSetsSo 140 = .ok (.if_icmp .ne 5, 3) := by decide +kernel
theorem dL_areSetsSo_143 : decode cL_areSetsSo 143 = .ok (.iconst 0, 1) := by decide +kernel
theorem dL_areSetsSo_144 : decode cL_areSetsSo 144 = .ok (.ireturn, 1) := by decide +kernel
theorem dL_areSetsSo_145 : decode cL_areSetsSo 145 = .ok (.iload 5, 2) := by decide +kernel
theorem dL_areSetsSo_147 : decode cL_areSetsSo 147 = .ok (.iconst 1, 1) := by decide +kernel
theorem dL_areSetsSo_148 : decode cL_areSetsSo 148 = .ok (.iload 8, 2) := by decide +kernel
theorem dL_areSetsSo_150 : decode cL_areSetsSo 150 = .ok (.ishl, 1) := by decide +kernel
theorem dL_areSetsSo_151 : decode cL_areSetsSo 151 = .ok (.ior, 1) := by decide +kernel
theorem dL_areSetsSo_152 : decode cL_areSetsSo 152 = .ok (.istore 5, 2) := by decide +kernel
theorem dL_areSetsSo_154 : decode cL_areSetsSo 154 = .ok (.iload 6, 2) := by decide +kernel
theorem dL_areSetsSo_156 : decode cL_areSetsSo 156 = .ok (.aload_n 0, 1) := by decide +kernel
theorem dL_areSetsSo_157 : decode cL_areSetsSo 157 = .ok (.iload 8, 2) := by decide +kernel
theorem dL_areSetsSo_159 : decode cL_areSetsSo 159 = .ok (.invokestatic 83, 3) := by decide +kernel
theorem dL_areSetsSo_162 : decode cL_areSetsSo 162 = .ok (.ifCond .ge 8, 3) := by decide +kernel
theorem dL_areSetsSo_165 : decode cL_areSetsSo 165 = .ok (.ldc 113, 2) := by decide +kernel
theorem dL_areSetsSo_167 : decode cL_areSetsSo 167 = .ok (.goto 9, 3) := by decide +kernel
theorem dL_areSetsSo_170 : decode cL_areSetsSo 170 = .ok (.aload_n 0, 1) := by decide +kernel
theorem dL_areSetsSo_171 : decode cL_areSetsSo 171 = .ok (.iload 8, 2) := by decide +kernel
theorem dL_areSetsSo_173 : decode cL_areSetsSo 173 = .ok (.invokestatic 83, 3) := by decide +kernel
theorem dL_areSetsSo_176 : decode cL_areSetsSo 176 = .ok (.iadd, 1) := by decide +kernel
theorem dL_areSetsSo_177 : decode cL_areSetsSo 177 = .ok (.istore 6, 2) := by decide +kernel
theorem dL_areSetsSo_179 : decode cL_areSetsSo 179 = .ok (.iinc 7 1, 3) := by decide +kernel
theorem dL_areSetsSo_182 : decode cL_areSetsSo 182 = .ok (.goto (-84), 3) := by decide +kernel
theorem dL_areSetsSo_185 : decode cL_areSetsSo 185 = .ok (.iload 4, 2) := by decide +kernel
theorem dL_areSetsSo_187 : decode cL_areSetsSo 187 = .ok (.iconst 1, 1) := by decide +kernel
theorem dL_areSetsSo_188 : decode cL_areSetsSo 188 = .ok (.if_icmp .lt 54, 3) := by decide +kernel
theorem dL_areSetsSo_191 : decode cL_areSetsSo 191 = .ok (.iload 4, 2) := by decide +kernel
theorem dL_areSetsSo_193 : decode cL_areSetsSo 193 = .ok (.iload_n 2, 1) := by decide +kernel
theorem dL_areSetsSo_194 : decode cL_areSetsSo 194 = .ok (.if_icmp .gt 48, 3) := by decide +kernel
theorem dL_areSetsSo_197 : decode cL_areSetsSo 197 = .ok (.iload 6, 2) := by decide +kernel
theorem dL_areSetsSo_199 : decode cL_areSetsSo 199 = .ok (.iload_n 3, 1) := by decide +kernel
theorem dL_areSetsSo_200 : decode cL_areSetsSo 200 = .ok (.if_icmp .gt 42, 3) := by decide +kernel
theorem dL_areSetsSo_203 : decode cL_areSetsSo 203 = .ok (.aload_n 0, 1) := by decide +kernel
theorem dL_areSetsSo_204 : decode cL_areSetsSo 204 = .ok (.iload_n 1, 1) := by decide +kernel
theorem dL_areSetsSo_205 : decode cL_areSetsSo 205 = .ok (.invokestatic 111, 3) := by decide +kernel
theorem dL_areSetsSo_208 : decode cL_areSetsSo 208 = .ok (.iconst (-1), 1) := by decide +kernel
theorem dL_areSetsSo_209 : decode cL_areSetsSo 209 = .ok (.if_icmp .ne 33, 3) := by decide +kernel
theorem dL_areSetsSo_212 : decode cL_areSetsSo 212 = .ok (.aload_n 0, 1) := by decide +kernel
theorem dL_areSetsSo_213 : decode cL_areSetsSo 213 = .ok (.iconst (-1), 1) := by decide +kernel
theorem dL_areSetsSo_214 : decode cL_areSetsSo 214 = .ok (.invokestatic 111, 3) := by decide +kernel
theorem dL_areSetsSo_217 : decode cL_areSetsSo 217 = .ok (.iconst (-1), 1) := by decide +kernel
theorem dL_areSetsSo_218 : decode cL_areSetsSo 218 = .ok (.if_icmp .ne 24, 3) := by decide +kernel
theorem dL_areSetsSo_221 : decode cL_areSetsSo 221 = .ok (.iload_n 1, 1) := by decide +kernel
theorem dL_areSetsSo_222 : decode cL_areSetsSo 222 = .ok (.iconst 1, 1) := by decide +kernel
theorem dL_areSetsSo_223 : decode cL_areSetsSo 223 = .ok (.if_icmp .ne 15, 3) := by decide +kernel
theorem dL_areSetsSo_226 : decode cL_areSetsSo 226 = .ok (.iload_n 3, 1) := by decide +kernel
theorem dL_areSetsSo_227 : decode cL_areSetsSo 227 = .ok (.iload 6, 2) := by decide +kernel
theorem dL_areSetsSo_229 : decode cL_areSetsSo 229 = .ok (.if_icmp .ne 13, 3) := by decide +kernel
theorem dL_areSetsSo_232 : decode cL_areSetsSo 232 = .ok (.iload 4, 2) := by decide +kernel
theorem dL_areSetsSo_234 : decode cL_areSetsSo 234 = .ok (.iconst 1, 1) := by decide +kernel
theorem dL_areSetsSo_235 : decode cL_areSetsSo 235 = .ok (.if_icmp .ne 7, 3) := by decide +kernel
theorem dL_areSetsSo_238 : decode cL_areSetsSo 238 = .ok (.iconst 1, 1) := by decide +kernel
theorem dL_areSetsSo_239 : decode cL_areSetsSo 239 = .ok (.goto 4, 3) := by decide +kernel
theorem dL_areSetsSo_242 : decode cL_areSetsSo 242 = .ok (.iconst 0, 1) := by decide +kernel
theorem dL_areSetsSo_243 : decode cL_areSetsSo 243 = .ok (.ireturn, 1) := by decide +kernel
theorem dL_law_0 : decode cL_law 0 = .ok (.new 9, 3) := by decide +kernel
theorem dL_law_3 : decode cL_law 3 = .ok (.dup, 1) := by decide +kernel
theorem dL_law_4 : decode cL_law 4 = .ok (.invokespecial 114, 3) := by decide +kernel
theorem dL_law_7 : decode cL_law 7 = .ok (.astore_n 1, 1) := by decide +kernel
theorem dL_law_8 : decode cL_law 8 = .ok (.new 9, 3) := by decide +kernel
theorem dL_law_11 : decode cL_law 11 = .ok (.dup, 1) := by decide +kernel
theorem dL_law_12 : decode cL_law 12 = .ok (.invokespecial 114, 3) := by decide +kernel
theorem dL_law_15 : decode cL_law 15 = .ok (.astore_n 2, 1) := by decide +kernel
theorem dL_law_16 : decode cL_law 16 = .ok (.iconst 0, 1) := by decide +kernel
theorem dL_law_17 : decode cL_law 17 = .ok (.istore_n 3, 1) := by decide +kernel
theorem dL_law_18 : decode cL_law 18 = .ok (.iload_n 3, 1) := by decide +kernel
theorem dL_law_19 : decode cL_law 19 = .ok (.bipush 60, 2) := by decide +kernel
theorem dL_law_21 : decode cL_law 21 = .ok (.if_icmp .ge 121, 3) := by decide +kernel
theorem dL_law_24 : decode cL_law 24 = .ok (.aload_n 0, 1) := by decide +kernel
theorem dL_law_25 : decode cL_law 25 = .ok (.iload_n 3, 1) := by decide +kernel
theorem dL_law_26 : decode cL_law 26 = .ok (.invokestatic 115, 3) := by decide +kernel
theorem dL_law_29 : decode cL_law 29 = .ok (.istore 4, 2) := by decide +kernel
theorem dL_law_31 : decode cL_law 31 = .ok (.aload_n 1, 1) := by decide +kernel
theorem dL_law_32 : decode cL_law 32 = .ok (.iload 4, 2) := by decide +kernel
theorem dL_law_34 : decode cL_law 34 = .ok (.invokestatic 119, 3) := by decide +kernel
theorem dL_law_37 : decode cL_law 37 = .ok (.istore 5, 2) := by decide +kernel
theorem dL_law_39 : decode cL_law 39 = .ok (.iload 5, 2) := by decide +kernel
theorem dL_law_41 : decode cL_law 41 = .ok (.ldc 16, 2) := by decide +kernel
theorem dL_law_43 : decode cL_law 43 = .ok (.if_icmp .eq 14, 3) := by decide +kernel
theorem dL_law_46 : decode cL_law 46 = .ok (.aload_n 2, 1) := by decide +kernel
theorem dL_law_47 : decode cL_law 47 = .ok (.iload 4, 2) := by decide +kernel
theorem dL_law_49 : decode cL_law 49 = .ok (.invokestatic 119, 3) := by decide +kernel
theorem dL_law_52 : decode cL_law 52 = .ok (.iload 5, 2) := by decide +kernel
theorem dL_law_54 : decode cL_law 54 = .ok (.if_icmp .ne 47, 3) := by decide +kernel
theorem dL_law_57 : decode cL_law 57 = .ok (.aload_n 1, 1) := by decide +kernel
theorem dL_law_58 : decode cL_law 58 = .ok (.aload_n 2, 1) := by decide +kernel
theorem dL_law_59 : decode cL_law 59 = .ok (.invokestatic 122, 3) := by decide +kernel
theorem dL_law_62 : decode cL_law 62 = .ok (.ifCond .eq 39, 3) := by decide +kernel
theorem dL_law_65 : decode cL_law 65 = .ok (.aload_n 1, 1) := by decide +kernel
theorem dL_law_66 : decode cL_law 66 = .ok (.iload 4, 2) := by decide +kernel
theorem dL_law_68 : decode cL_law 68 = .ok (.iconst 3, 1) := by decide +kernel
theorem dL_law_69 : decode cL_law 69 = .ok (.ishr, 1) := by decide +kernel
theorem dL_law_70 : decode cL_law 70 = .ok (.bipush 9, 2) := by decide +kernel
theorem dL_law_72 : decode cL_law 72 = .ok (.invokestatic 50, 3) := by decide +kernel
theorem dL_law_75 : decode cL_law 75 = .ok (.iload 4, 2) := by decide +kernel
theorem dL_law_77 : decode cL_law 77 = .ok (.bipush 7, 2) := by decide +kernel
theorem dL_law_79 : decode cL_law 79 = .ok (.ishr, 1) := by decide +kernel
theorem dL_law_80 : decode cL_law 80 = .ok (.bipush 9, 2) := by decide +kernel
theorem dL_law_82 : decode cL_law 82 = .ok (.invokestatic 50, 3) := by decide +kernel
theorem dL_law_85 : decode cL_law 85 = .ok (.iload 4, 2) := by decide +kernel
theorem dL_law_87 : decode cL_law 87 = .ok (.bipush 11, 2) := by decide +kernel
theorem dL_law_89 : decode cL_law 89 = .ok (.ishr, 1) := by decide +kernel
theorem dL_law_90 : decode cL_law 90 = .ok (.bipush 9, 2) := by decide +kernel
theorem dL_law_92 : decode cL_law 92 = .ok (.invokestatic 50, 3) := by decide +kernel
theorem dL_law_95 : decode cL_law 95 = .ok (.invokestatic 126, 3) := by decide +kernel
theorem dL_law_98 : decode cL_law 98 = .ok (.ifCond .ne 5, 3) := by decide +kernel
theorem dL_law_101 : decode cL_law 101 = .ok (.iconst 0, 1) := by decide +kernel
theorem dL_law_102 : decode cL_law 102 = .ok (.ireturn, 1) := by decide +kernel
theorem dL_law_103 : decode cL_law 103 = .ok (.aload_n 1, 1) := by decide +kernel
theorem dL_law_104 : decode cL_law 104 = .ok (.iload 4, 2) := by decide +kernel
theorem dL_law_106 : decode cL_law 106 = .ok (.iconst 5, 1) := by decide +kernel
theorem dL_law_107 : decode cL_law 107 = .ok (.ishr, 1) := by decide +kernel
theorem dL_law_108 : decode cL_law 108 = .ok (.iconst 4, 1) := by decide +kernel
theorem dL_law_109 : decode cL_law 109 = .ok (.invokestatic 50, 3) := by decide +kernel
theorem dL_law_112 : decode cL_law 112 = .ok (.invokestatic 130, 3) := by decide +kernel
theorem dL_law_115 : decode cL_law 115 = .ok (.ifCond .eq 19, 3) := by decide +kernel
theorem dL_law_118 : decode cL_law 118 = .ok (.iload_n 3, 1) := by decide +kernel
theorem dL_law_119 : decode cL_law 119 = .ok (.bipush 10, 2) := by decide +kernel
theorem dL_law_121 : decode cL_law 121 = .ok (.irem, 1) := by decide +kernel
theorem dL_law_122 : decode cL_law 122 = .ok (.bipush 9, 2) := by decide +kernel
theorem dL_law_124 : decode cL_law 124 = .ok (.if_icmp .ne 12, 3) := by decide +kernel
theorem dL_law_127 : decode cL_law 127 = .ok (.aload_n 1, 1) := by decide +kernel
theorem dL_law_128 : decode cL_law 128 = .ok (.invokestatic 134, 3) := by decide +kernel
theorem dL_law_131 : decode cL_law 131 = .ok (.ifCond .ne 5, 3) := by decide +kernel
theorem dL_law_134 : decode cL_law 134 = .ok (.iconst 0, 1) := by decide +kernel
theorem dL_law_135 : decode cL_law 135 = .ok (.ireturn, 1) := by decide +kernel
theorem dL_law_136 : decode cL_law 136 = .ok (.iinc 3 1, 3) := by decide +kernel
theorem dL_law_139 : decode cL_law 139 = .ok (.goto (-121), 3) := by decide +kernel
theorem dL_law_142 : decode cL_law 142 = .ok (.iconst 1, 1) := by decide +kernel
theorem dL_law_143 : decode cL_law 143 = .ok (.ireturn, 1) := by decide +kernel
