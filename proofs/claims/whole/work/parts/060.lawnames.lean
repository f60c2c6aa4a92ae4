set_option maxRecDepth 20000 in
theorem ggL_append_X8_append : GoodIn wsL_append wsX8_append := goodIn_ca (goodIn_ca (goodIn_r _ [7, 8, 9, 10, 6, 11, 12, 13, 14, 15, 16, 17, 18, 19, 20, 21, 22, 23, 24, 25, 26, 27, 28, 29, 30, 31, 32, 33, 34, 35, 36, 37, 38, 39, 40, 41, 42, 43, 44, 45, 46] (by decide +kernel) (by decide +kernel)) (goodIn_sub (fun _ h => List.mem_cons_of_mem _ (List.mem_append_left _ (List.mem_append_right _ h))) (by decide +kernel))) (goodIn_sub (fun _ h => List.mem_cons_of_mem _ (List.mem_append_right _ h)) (by decide +kernel))
set_option maxRecDepth 20000 in
theorem gL_append_X8_append : GoodIn wsL_append (wsV RL 7 RX8 yX8_append wsX8_append) := goodIn_app (goodIn_of _ (by decide +kernel)) ggL_append_X8_append
theorem dL_append_0 : decode cL_append 0 = .ok (.aload_n 2, 1) := by decide +kernel
theorem dL_append_1 : decode cL_append 1 = .ok (.iconst 0, 1) := by decide +kernel
theorem dL_append_2 : decode cL_append 2 = .ok (.aload_n 0, 1) := by decide +kernel
theorem dL_append_3 : decode cL_append 3 = .ok (.iload_n 1, 1) := by decide +kernel
theorem dL_append_4 : decode cL_append 4 = .ok (.invokevirtual 7, 3) := by decide +kernel
theorem dL_append_7 : decode cL_append 7 = .ok (.i2l, 1) := by decide +kernel
theorem dL_append_8 : decode cL_append 8 = .ok (.lastore, 1) := by decide +kernel
theorem dL_append_9 : decode cL_append 9 = .ok (.goto 9, 3) := by decide +kernel
theorem dL_append_12 : decode cL_append 12 = .ok (.astore_n 3, 1) := by decide +kernel
theorem dL_append_13 : decode cL_append 13 = .ok (.iconst 1, 1) := by decide +kernel
theorem dL_append_14 : decode cL_append 14 = .ok (.ireturn, 1) := by decide +kernel
theorem dL_append_15 : decode cL_append 15 = .ok (.astore_n 3, 1) := by decide +kernel
theorem dL_append_16 : decode cL_append 16 = .ok (.iconst 2, 1) := by decide +kernel
theorem dL_append_17 : decode cL_append 17 = .ok (.ireturn, 1) := by decide +kernel
theorem dL_append_18 : decode cL_append 18 = .ok (.iconst 0, 1) := by decide +kernel
theorem dL_append_19 : decode cL_append 19 = .ok (.ireturn, 1) := by decide +kernel
set_option maxRecDepth 20000 in
theorem ggL_insert_X8_insert : GoodIn wsL_insert wsX8_insert := goodIn_ca (goodIn_ca (goodIn_ca (goodIn_r _ [8, 9, 10, 11, 12, 13, 14, 15, 16, 17, 7, 18, 19, 20, 21, 22, 23, 24, 25, 26, 27, 28, 29, 30, 31, 32, 33, 34, 35, 36, 37, 38, 39, 40, 41, 42, 43, 44, 45, 46, 47, 48] (by decide +kernel) (by decide +kernel)) (goodIn_sub (fun _ h => List.mem_cons_of_mem _ (List.mem_append_left _ (List.mem_append_left _ (List.mem_append_right _ h)))) (by decide +kernel))) (goodIn_sub (fun _ h => List.mem_cons_of_mem _ (List.mem_append_left _ (List.mem_append_right _ h))) (by decide +kernel))) (goodIn_sub (fun _ h => List.mem_cons_of_mem _ (List.mem_append_right _ h)) (by decide +kernel))
set_option maxRecDepth 20000 in
theorem gL_insert_X8_insert : GoodIn wsL_insert (wsV RL 17 RX8 yX8_insert wsX8_insert) := goodIn_app (goodIn_of _ (by decide +kernel)) ggL_insert_X8_insert
theorem dL_insert_0 : decode cL_insert 0 = .ok (.aload_n 3, 1) := by decide +kernel
theorem dL_insert_1 : decode cL_insert 1 = .ok (.iconst 0, 1) := by decide +kernel
theorem dL_insert_2 : decode cL_insert 2 = .ok (.aload_n 0, 1) := by decide +kernel
theorem dL_insert_3 : decode cL_insert 3 = .ok (.iload_n 1, 1) := by decide +kernel
theorem dL_insert_4 : decode cL_insert 4 = .ok (.iload_n 2, 1) := by decide +kernel
theorem dL_insert_5 : decode cL_insert 5 = .ok (.invokevirtual 17, 3) := by decide +kernel
theorem dL_insert_8 : decode cL_insert 8 = .ok (.i2l, 1) := by decide +kernel
theorem dL_insert_9 : decode cL_insert 9 = .ok (.lastore, 1) := by decide +kernel
theorem dL_insert_10 : decode cL_insert 10 = .ok (.goto 15, 3) := by decide +kernel
theorem dL_insert_13 : decode cL_insert 13 = .ok (.astore 4, 2) := by decide +kernel
theorem dL_insert_15 : decode cL_insert 15 = .ok (.iconst 1, 1) := by decide +kernel
theorem dL_insert_16 : decode cL_insert 16 = .ok (.ireturn, 1) := by decide +kernel
theorem dL_insert_17 : decode cL_insert 17 = .ok (.astore 4, 2) := by decide +kernel
theorem dL_insert_19 : decode cL_insert 19 = .ok (.iconst 2, 1) := by decide +kernel
theorem dL_insert_20 : decode cL_insert 20 = .ok (.ireturn, 1) := by decide +kernel
theorem dL_insert_21 : decode cL_insert 21 = .ok (.astore 4, 2) := by decide +kernel
theorem dL_insert_23 : decode cL_insert 23 = .ok (.iconst 3, 1) := by decide +kernel
theorem dL_insert_24 : decode cL_insert 24 = .ok (.ireturn, 1) := by decide +kernel
theorem dL_insert_25 : decode cL_insert 25 = .ok (.iconst 0, 1) := by decide +kernel
theorem dL_insert_26 : decode cL_insert 26 = .ok (.ireturn, 1) := by decide +kernel
set_option maxRecDepth 20000 in
theorem ggL_set_X8_set : GoodIn wsL_set wsX8_set := goodIn_ca (goodIn_ca (goodIn_r _ [7, 8, 9, 10, 11, 12, 13, 14, 15, 16, 6, 17, 18, 19, 20, 21, 22, 23, 24, 25, 26, 27, 28, 29, 30, 31, 32, 33, 34, 35, 36, 37, 38, 39, 40, 41, 42, 43, 44, 45] (by decide +kernel) (by decide +kernel)) (goodIn_sub (fun _ h => List.mem_cons_of_mem _ (List.mem_append_left _ (List.mem_append_right _ h))) (by decide +kernel))) (goodIn_sub (fun _ h => List.mem_cons_of_mem _ (List.mem_append_right _ h)) (by decide +kernel))
set_option maxRecDepth 20000 in
theorem gL_set_X8_set : GoodIn wsL_set (wsV RL 23 RX8 yX8_set wsX8_set) := goodIn_app (goodIn_of _ (by decide +kernel)) ggL_set_X8_set
theorem dL_set_0 : decode cL_set 0 = .ok (.aload_n 3, 1) := by decide +kernel
theorem dL_set_1 : decode cL_set 1 = .ok (.iconst 0, 1) := by decide +kernel
theorem dL_set_2 : decode cL_set 2 = .ok (.aload_n 0, 1) := by decide +kernel
theorem dL_set_3 : decode cL_set 3 = .ok (.iload_n 1, 1) := by decide +kernel
theorem dL_set_4 : decode cL_set 4 = .ok (.iload_n 2, 1) := by decide +kernel
theorem dL_set_5 : decode cL_set 5 = .ok (.invokevirtual 23, 3) := by decide +kernel
theorem dL_set_8 : decode cL_set 8 = .ok (.i2l, 1) := by decide +kernel
theorem dL_set_9 : decode cL_set 9 = .ok (.lastore, 1) := by decide +kernel
theorem dL_set_10 : decode cL_set 10 = .ok (.goto 11, 3) := by decide +kernel
theorem dL_set_13 : decode cL_set 13 = .ok (.astore 4, 2) := by decide +kernel
theorem dL_set_15 : decode cL_set 15 = .ok (.iconst 1, 1) := by decide +kernel
theorem dL_set_16 : decode cL_set 16 = .ok (.ireturn, 1) := by decide +kernel
theorem dL_set_17 : decode cL_set 17 = .ok (.astore 4, 2) := by decide +kernel
theorem dL_set_19 : decode cL_set 19 = .ok (.iconst 2, 1) := by decide +kernel
theorem dL_set_20 : decode cL_set 20 = .ok (.ireturn, 1) := by decide +kernel
theorem dL_set_21 : decode cL_set 21 = .ok (.iconst 0, 1) := by decide +kernel
theorem dL_set_22 : decode cL_set 22 = .ok (.ireturn, 1) := by decide +kernel
set_option maxRecDepth 20000 in
theorem ggL_remove_X8_remove : GoodIn wsL_remove wsX8_remove := goodIn_ca (goodIn_r _ [6, 7, 8, 9, 10, 11, 12, 13, 14, 15, 5, 16, 17, 18, 19, 20, 21, 22, 23, 24, 25, 26, 27, 28, 29, 30, 31, 32, 33, 34, 35] (by decide +kernel) (by decide +kernel)) (goodIn_sub (fun _ h => List.mem_cons_of_mem _ (List.mem_append_right _ h)) (by decide +kernel))
set_option maxRecDepth 20000 in
theorem gL_remove_X8_remove : GoodIn wsL_remove (wsV RL 26 RX8 yX8_remove wsX8_remove) := goodIn_app (goodIn_of _ (by decide +kernel)) ggL_remove_X8_remove
theorem dL_remove_0 : decode cL_remove 0 = .ok (.aload_n 2, 1) := by decide +kernel
theorem dL_remove_1 : decode cL_remove 1 = .ok (.iconst 0, 1) := by decide +kernel
theorem dL_remove_2 : decode cL_remove 2 = .ok (.aload_n 0, 1) := by decide +kernel
theorem dL_remove_3 : decode cL_remove 3 = .ok (.iload_n 1, 1) := by decide +kernel
theorem dL_remove_4 : decode cL_remove 4 = .ok (.invokevirtual 26, 3) := by decide +kernel
theorem dL_remove_7 : decode cL_remove 7 = .ok (.i2l, 1) := by decide +kernel
theorem dL_remove_8 : decode cL_remove 8 = .ok (.lastore, 1) := by decide +kernel
theorem dL_remove_9 : decode cL_remove 9 = .ok (.goto 6, 3) := by decide +kernel
theorem dL_remove_12 : decode cL_remove 12 = .ok (.astore_n 3, 1) := by decide +kernel
theorem dL_remove_13 : decode cL_remove 13 = .ok (.iconst 1, 1) := by decide +kernel
theorem dL_remove_14 : decode cL_remove 14 = .ok (.ireturn, 1) := by decide +kernel
theorem dL_remove_15 : decode cL_remove 15 = .ok (.iconst 0, 1) := by decide +kernel
theorem dL_remove_16 : decode cL_remove 16 = .ok (.ireturn, 1) := by decide +kernel
set_option maxRecDepth 20000 in
theorem ggL_rotate_X8_rotate : GoodIn wsL_rotate wsX8_rotate := goodIn_ca (goodIn_ca (goodIn_r _ [7, 8, 9, 10, 11, 12, 6, 13, 14, 15, 16, 17, 18, 19, 20, 21, 22, 23, 24, 25, 26, 27, 28, 29, 30, 31, 32, 33, 34, 35, 36, 37, 38, 39, 40, 41, 42] (by decide +kernel) (by decide +kernel)) (goodIn_sub (fun _ h => List.mem_cons_of_mem _ (List.mem_append_left _ (List.mem_append_right _ h))) (by decide +kernel))) (goodIn_sub (fun _ h => List.mem_cons_of_mem _ (List.mem_append_right _ h)) (by decide +kernel))
set_option maxRecDepth 20000 in
theorem gL_rotate_X8_rotate : GoodIn wsL_rotate (wsV RL 29 RX8 yX8_rotate wsX8_rotate) := goodIn_app (goodIn_of _ (by decide +kernel)) ggL_rotate_X8_rotate
theorem dL_rotate_0 : decode cL_rotate 0 = .ok (.aload_n 2, 1) := by decide +kernel
theorem dL_rotate_1 : decode cL_rotate 1 = .ok (.iconst 0, 1) := by decide +kernel
theorem dL_rotate_2 : decode cL_rotate 2 = .ok (.aload_n 0, 1) := by decide +kernel
theorem dL_rotate_3 : decode cL_rotate 3 = .ok (.iload_n 1, 1) := by decide +kernel
theorem dL_rotate_4 : decode cL_rotate 4 = .ok (.invokevirtual 29, 3) := by decide +kernel
theorem dL_rotate_7 : decode cL_rotate 7 = .ok (.i2l, 1) := by decide +kernel
theorem dL_rotate_8 : decode cL_rotate 8 = .ok (.lastore, 1) := by decide +kernel
theorem dL_rotate_9 : decode cL_rotate 9 = .ok (.goto 9, 3) := by decide +kernel
theorem dL_rotate_12 : decode cL_rotate 12 = .ok (.astore_n 3, 1) := by decide +kernel
theorem dL_rotate_13 : decode cL_rotate 13 = .ok (.iconst 1, 1) := by decide +kernel
theorem dL_rotate_14 : decode cL_rotate 14 = .ok (.ireturn, 1) := by decide +kernel
theorem dL_rotate_15 : decode cL_rotate 15 = .ok (.astore_n 3, 1) := by decide +kernel
theorem dL_rotate_16 : decode cL_rotate 16 = .ok (.iconst 2, 1) := by decide +kernel
theorem dL_rotate_17 : decode cL_rotate 17 = .ok (.ireturn, 1) := by decide +kernel
theorem dL_rotate_18 : decode cL_rotate 18 = .ok (.iconst 0, 1) := by decide +kernel
theorem dL_rotate_19 : decode cL_rotate 19 = .ok (.ireturn, 1) := by decide +kernel
set_option maxRecDepth 20000 in
theorem ggL_appendPart_X8_appendPart : GoodIn wsL_appendPart wsX8_appendPart := goodIn_ca (goodIn_ca (goodIn_r _ [7, 8, 9, 10, 11, 6, 12, 13, 14, 15, 16, 17, 18, 19, 20, 21, 22, 23, 24, 25, 26, 27, 28, 29, 30, 31, 32, 33, 34, 35, 36, 37, 38, 39, 40, 41, 42, 43, 44, 45, 46, 47, 48, 49, 50, 51] (by decide +kernel) (by decide +kernel)) (goodIn_sub (fun _ h => List.mem_cons_of_mem _ (List.mem_append_left _ (List.mem_append_right _ h))) (by decide +kernel))) (goodIn_sub (fun _ h => List.mem_cons_of_mem _ (List.mem_append_right _ h)) (by decide +kernel))
set_option maxRecDepth 20000 in
theorem gL_appendPart_X8_appendPart : GoodIn wsL_appendPart (wsV RL 32 RX8 yX8_appendPart wsX8_appendPart) := goodIn_app (goodIn_of _ (by decide +kernel)) ggL_appendPart_X8_appendPart
theorem dL_appendPart_0 : decode cL_appendPart 0 = .ok (.aload_n 3, 1) := by decide +kernel
theorem dL_appendPart_1 : decode cL_appendPart 1 = .ok (.iconst 0, 1) := by decide +kernel
theorem dL_appendPart_2 : decode cL_appendPart 2 = .ok (.aload_n 0, 1) := by decide +kernel
theorem dL_appendPart_3 : decode cL_appendPart 3 = .ok (.iload_n 1, 1) := by decide +kernel
theorem dL_appendPart_4 : decode cL_appendPart 4 = .ok (.iload_n 2, 1) := by decide +kernel
theorem dL_appendPart_5 : decode cL_appendPart 5 = .ok (.invokevirtual 32, 3) := by decide +kernel
theorem dL_appendPart_8 : decode cL_appendPart 8 = .ok (.i2l, 1) := by decide +kernel
theorem dL_appendPart_9 : decode cL_appendPart 9 = .ok (.lastore, 1) := by decide +kernel
theorem dL_appendPart_10 : decode cL_appendPart 10 = .ok (.goto 11, 3) := by decide +kernel
theorem dL_appendPart_13 : decode cL_appendPart 13 = .ok (.astore 4, 2) := by decide +kernel
theorem dL_appendPart_15 : decode cL_appendPart 15 = .ok (.iconst 1, 1) := by decide +kernel
theorem dL_appendPart_16 : decode cL_appendPart 16 = .ok (.ireturn, 1) := by decide +kernel
theorem dL_appendPart_17 : decode cL_appendPart 17 = .ok (.astore 4, 2) := by decide +kernel
theorem dL_appendPart_19 : decode cL_appendPart 19 = .ok (.iconst 2, 1) := by decide +kernel
theorem dL_appendPart_20 : decode cL_appendPart 20 = .ok (.ireturn, 1) := by decide +kernel
theorem dL_appendPart_21 : decode cL_appendPart 21 = .ok (.iconst 0, 1) := by decide +kernel
theorem dL_appendPart_22 : decode cL_appendPart 22 = .ok (.ireturn, 1) := by decide +kernel
set_option maxRecDepth 20000 in
theorem ggL_loadDeBruijn_X8_loadDeBruijn : GoodIn wsL_loadDeBruijn wsX8_loadDeBruijn := goodIn_ca (goodIn_r _ [6, 7, 8, 9, 10, 11, 12, 13, 5, 14, 15, 16, 17, 18, 19, 20, 21, 22, 23, 24, 25, 26, 27, 28, 29, 30, 31, 32, 33, 34, 35, 36, 37, 38, 39, 40, 41, 42, 43, 44, 45, 46, 47, 48, 49, 50, 51, 52, 53, 54, 55, 56, 57, 58, 59, 60, 61, 62, 63, 64, 65, 66, 67, 68, 69, 70, 71, 72, 73, 74, 75, 76, 77, 78, 79, 80, 81, 82, 83, 84, 85, 86] (by decide +kernel) (by decide +kernel)) (goodIn_sub (fun _ h => List.mem_cons_of_mem _ (List.mem_append_right _ h)) (by decide +kernel))
set_option maxRecDepth 20000 in
theorem gL_loadDeBruijn_X8_loadDeBruijn : GoodIn wsL_loadDeBruijn (wsV RL 35 RX8 yX8_loadDeBruijn wsX8_loadDeBruijn) := goodIn_app (goodIn_of _ (by decide +kernel)) ggL_loadDeBruijn_X8_loadDeBruijn
theorem dL_loadDeBruijn_0 : decode cL_loadDeBruijn 0 = .ok (.aload_n 3, 1) := by decide +kernel
theorem dL_loadDeBruijn_1 : decode cL_loadDeBruijn 1 = .ok (.iconst 0, 1) := by decide +kernel
theorem dL_loadDeBruijn_2 : decode cL_loadDeBruijn 2 = .ok (.aload_n 0, 1) := by decide +kernel
theorem dL_loadDeBruijn_3 : decode cL_loadDeBruijn 3 = .ok (.iload_n 1, 1) := by decide +kernel
theorem dL_loadDeBruijn_4 : decode cL_loadDeBruijn 4 = .ok (.iload_n 2, 1) := by decide +kernel
theorem dL_loadDeBruijn_5 : decode cL_loadDeBruijn 5 = .ok (.invokevirtual 35, 3) := by decide +kernel
theorem dL_loadDeBruijn_8 : decode cL_loadDeBruijn 8 = .ok (.i2l, 1) := by decide +kernel
theorem dL_loadDeBruijn_9 : decode cL_loadDeBruijn 9 = .ok (.lastore, 1) := by decide +kernel
theorem dL_loadDeBruijn_10 : decode cL_loadDeBruijn 10 = .ok (.goto 7, 3) := by decide +kernel
theorem dL_loadDeBruijn_13 : decode cL_loadDeBruijn 13 = .ok (.astore 4, 2) := by decide +kernel
theorem dL_loadDeBruijn_15 : decode cL_loadDeBruijn 15 = .ok (.iconst 1, 1) := by decide +kernel
theorem dL_loadDeBruijn_16 : decode cL_loadDeBruijn 16 = .ok (.ireturn, 1) := by decide +kernel
theorem dL_loadDeBruijn_17 : decode cL_loadDeBruijn 17 = .ok (.iconst 0, 1) := by decide +kernel
theorem dL_loadDeBruijn_18 : decode cL_loadDeBruijn 18 = .ok (.ireturn, 1) := by decide +kernel
set_option maxRecDepth 20000 in
theorem ggL_loadNecklace_X8_loadNecklace : GoodIn wsL_loadNecklace wsX8_loadNecklace := goodIn_ca (goodIn_r _ [6, 7, 8, 9, 10, 11, 12, 5, 13, 14, 15, 16, 17, 18, 19, 20, 21, 22, 23, 24, 25, 26, 27, 28, 29, 30, 31, 32, 33, 34, 35, 36, 37, 38, 39, 40, 41, 42, 43, 44, 45, 46, 47, 48, 49, 50, 51, 52, 53, 54, 55, 56, 57, 58, 59, 60, 61, 62, 63, 64, 65, 66, 67, 68, 69, 70, 71, 72, 73, 74, 75, 76, 77, 78, 79, 80, 81, 82, 83, 84, 85, 86, 87, 88, 89, 90] (by decide +kernel) (by decide +kernel)) (goodIn_sub (fun _ h => List.mem_cons_of_mem _ (List.mem_append_right _ h)) (by decide +kernel))
set_option maxRecDepth 20000 in
theorem gL_loadNecklace_X8_loadNecklace : GoodIn wsL_loadNecklace (wsV RL 38 RX8 yX8_loadNecklace wsX8_loadNecklace) := goodIn_app (goodIn_of _ (by decide +kernel)) ggL_loadNecklace_X8_loadNecklace
theorem dL_loadNecklace_0 : decode cL_loadNecklace 0 = .ok (.aload 4, 2) := by decide +kernel
theorem dL_loadNecklace_2 : decode cL_loadNecklace 2 = .ok (.iconst 0, 1) := by decide +kernel
theorem dL_loadNecklace_3 : decode cL_loadNecklace 3 = .ok (.aload_n 0, 1) := by decide +kernel
theorem dL_loadNecklace_4 : decode cL_loadNecklace 4 = .ok (.iload_n 1, 1) := by decide +kernel
theorem dL_loadNecklace_5 : decode cL_loadNecklace 5 = .ok (.iload_n 2, 1) := by decide +kernel
theorem dL_loadNecklace_6 : decode cL_loadNecklace 6 = .ok (.iload_n 3, 1) := by decide +kernel
theorem dL_loadNecklace_7 : decode cL_loadNecklace 7 = .ok (.invokevirtual 38, 3) := by decide +kernel
theorem dL_loadNecklace_10 : decode cL_loadNecklace 10 = .ok (.i2l, 1) := by decide +kernel
theorem dL_loadNecklace_11 : decode cL_loadNecklace 11 = .ok (.lastore, 1) := by decide +kernel
theorem dL_loadNecklace_12 : decode cL_loadNecklace 12 = .ok (.goto 7, 3) := by decide +kernel
theorem dL_loadNecklace_15 : decode cL_loadNecklace 15 = .ok (.astore 5, 2) := by decide +kernel
theorem dL_loadNecklace_17 : decode cL_loadNecklace 17 = .ok (.iconst 1, 1) := by decide +kernel
theorem dL_loadNecklace_18 : decode cL_loadNecklace 18 = .ok (.ireturn, 1) := by decide +kernel
theorem dL_loadNecklace_19 : decode cL_loadNecklace 19 = .ok (.iconst 0, 1) := by decide +kernel
theorem dL_loadNecklace_20 : decode cL_loadNecklace 20 = .ok (.ireturn, 1) := by decide +kernel
set_option maxRecDepth 20000 in
theorem ggL_letterAt_X8_letterAt : GoodIn wsL_letterAt wsX8_letterAt := goodIn_ca (goodIn_r _ [6, 7, 8, 9, 10, 11, 12, 13, 14, 15, 5, 16, 17, 18, 19, 20, 21, 22, 23, 24, 25, 26, 27, 28, 29, 30, 31, 32, 33] (by decide +kernel) (by decide +kernel)) (goodIn_sub (fun _ h => List.mem_cons_of_mem _ (List.mem_append_right _ h)) (by decide +kernel))
set_option maxRecDepth 20000 in
theorem gL_letterAt_X8_letterAt : GoodIn wsL_letterAt (wsV RL 42 RX8 yX8_letterAt wsX8_letterAt) := goodIn_app (goodIn_of _ (by decide +kernel)) ggL_letterAt_X8_letterAt
theorem dL_letterAt_0 : decode cL_letterAt 0 = .ok (.aload_n 2, 1) := by decide +kernel
theorem dL_letterAt_1 : decode cL_letterAt 1 = .ok (.iconst 0, 1) := by decide +kernel
theorem dL_letterAt_2 : decode cL_letterAt 2 = .ok (.aload_n 0, 1) := by decide +kernel
theorem dL_letterAt_3 : decode cL_letterAt 3 = .ok (.iload_n 1, 1) := by decide +kernel
theorem dL_letterAt_4 : decode cL_letterAt 4 = .ok (.invokevirtual 42, 3) := by decide +kernel
theorem dL_letterAt_7 : decode cL_letterAt 7 = .ok (.i2l, 1) := by decide +kernel
theorem dL_letterAt_8 : decode cL_letterAt 8 = .ok (.lastore, 1) := by decide +kernel
theorem dL_letterAt_9 : decode cL_letterAt 9 = .ok (.goto 6, 3) := by decide +kernel
theorem dL_letterAt_12 : decode cL_letterAt 12 = .ok (.astore_n 3, 1) := by decide +kernel
theorem dL_letterAt_13 : decode cL_letterAt 13 = .ok (.iconst 1, 1) := by decide +kernel
theorem dL_letterAt_14 : decode cL_letterAt 14 = .ok (.ireturn, 1) := by decide +kernel
theorem dL_letterAt_15 : decode cL_letterAt 15 = .ok (.iconst 0, 1) := by decide +kernel
theorem dL_letterAt_16 : decode cL_letterAt 16 = .ok (.ireturn, 1) := by decide +kernel
set_option maxRecDepth 20000 in
theorem ggL_compare_X8_compare : GoodIn wsL_compare wsX8_compare := goodIn_ca (goodIn_r _ [6, 7, 8, 9, 10, 11, 12, 13, 14, 5, 15, 16, 17, 18, 19, 20, 21, 22, 23, 24, 25, 26, 27, 28, 29, 30, 31, 32, 33, 34, 35, 36, 37, 38, 39, 40, 41, 42, 43, 44, 45, 46, 47, 48, 49] (by decide +kernel) (by decide +kernel)) (goodIn_sub (fun _ h => List.mem_cons_of_mem _ (List.mem_append_right _ h)) (by decide +kernel))
set_option maxRecDepth 20000 in
theorem gL_compare_X8_compare : GoodIn wsL_compare (wsV RL 45 RX8 yX8_compare wsX8_compare) := goodIn_app (goodIn_of _ (by decide +kernel)) ggL_compare_X8_compare
theorem dL_compare_0 : decode cL_compare 0 = .ok (.aload 5, 2) := by decide +kernel
theorem dL_compare_2 : decode cL_compare 2 = .ok (.iconst 0, 1) := by decide +kernel
theorem dL_compare_3 : decode cL_compare 3 = .ok (.aload_n 0, 1) := by decide +kernel
theorem dL_compare_4 : decode cL_compare 4 = .ok (.iload_n 1, 1) := by decide +kernel
theorem dL_compare_5 : decode cL_compare 5 = .ok (.iload_n 2, 1) := by decide +kernel
theorem dL_compare_6 : decode cL_compare 6 = .ok (.iload_n 3, 1) := by decide +kernel
theorem dL_compare_7 : decode cL_compare 7 = .ok (.iload 4, 2) := by decide +kernel
theorem dL_compare_9 : decode cL_compare 9 = .ok (.invokevirtual 45, 3) := by decide +kernel
theorem dL_compare_12 : decode cL_compare 12 = .ok (.i2l, 1) := by decide +kernel
theorem dL_compare_13 : decode cL_compare 13 = .ok (.lastore, 1) := by decide +kernel
theorem dL_compare_14 : decode cL_compare 14 = .ok (.goto 7, 3) := by decide +kernel
theorem dL_compare_17 : decode cL_compare 17 = .ok (.astore 6, 2) := by decide +kernel
theorem dL_compare_19 : decode cL_compare 19 = .ok (.iconst 1, 1) := by decide +kernel
theorem dL_compare_20 : decode cL_compare 20 = .ok (.ireturn, 1) := by decide +kernel
theorem dL_compare_21 : decode cL_compare 21 = .ok (.iconst 0, 1) := by decide +kernel
theorem dL_compare_22 : decode cL_compare 22 = .ok (.ireturn, 1) := by decide +kernel
set_option maxRecDepth 20000 in
theorem ggL_commonPrefix_X8_commonPrefix : GoodIn wsL_commonPrefix wsX8_commonPrefix := goodIn_ca (goodIn_r _ [6, 7, 8, 9, 10, 11, 12, 13, 14, 15, 5, 16, 17, 18, 19, 20, 21, 22, 23, 24, 25, 26, 27, 28, 29, 30, 31, 32, 33, 34, 35, 36, 37] (by decide +kernel) (by decide +kernel)) (goodIn_sub (fun _ h => List.mem_cons_of_mem _ (List.mem_append_right _ h)) (by decide +kernel))
set_option maxRecDepth 20000 in
theorem gL_commonPrefix_X8_commonPrefix : GoodIn wsL_commonPrefix (wsV RL 49 RX8 yX8_commonPrefix wsX8_commonPrefix) := goodIn_app (goodIn_of _ (by decide +kernel)) ggL_commonPrefix_X8_commonPrefix
theorem dL_commonPrefix_0 : decode cL_commonPrefix 0 = .ok (.aload_n 3, 1) := by decide +kernel
theorem dL_commonPrefix_1 : decode cL_commonPrefix 1 = .ok (.iconst 0, 1) := by decide +kernel
theorem dL_commonPrefix_2 : decode cL_commonPrefix 2 = .ok (.aload_n 0, 1) := by decide +kernel
theorem dL_commonPrefix_3 : decode cL_commonPrefix 3 = .ok (.iload_n 1, 1) := by decide +kernel
theorem dL_commonPrefix_4 : decode cL_commonPrefix 4 = .ok (.iload_n 2, 1) := by decide +kernel
theorem dL_commonPrefix_5 : decode cL_commonPrefix 5 = .ok (.invokevirtual 49, 3) := by decide +kernel
theorem dL_commonPrefix_8 : decode cL_commonPrefix 8 = .ok (.i2l, 1) := by decide +kernel
theorem dL_commonPrefix_9 : decode cL_commonPrefix 9 = .ok (.lastore, 1) := by decide +kernel
theorem dL_commonPrefix_10 : decode cL_commonPrefix 10 = .ok (.goto 7, 3) := by decide +kernel
theorem dL_commonPrefix_13 : decode cL_commonPrefix 13 = .ok (.astore 4, 2) := by decide +kernel
theorem dL_commonPrefix_15 : decode cL_commonPrefix 15 = .ok (.iconst 1, 1) := by decide +kernel
theorem dL_commonPrefix_16 : decode cL_commonPrefix 16 = .ok (.ireturn, 1) := by decide +kernel
theorem dL_commonPrefix_17 : decode cL_commonPrefix 17 = .ok (.iconst 0, 1) := by decide +kernel
theorem dL_commonPrefix_18 : decode cL_commonPrefix 18 = .ok (.ireturn, 1) := by decide +kernel
set_option maxRecDepth 20000 in
theorem ggL_isLyndon_X8_isLyndon : GoodIn wsL_isLyndon wsX8_isLyndon := goodIn_ca (goodIn_r _ [6, 7, 8, 9, 10, 5, 11, 12, 13, 14, 15, 16, 17, 18, 19, 20, 21, 22, 23, 24, 25, 26, 27, 28, 29, 30, 31, 32, 33, 34, 35, 36, 37, 38, 39, 40, 41] (by decide +kernel) (by decide +kernel)) (goodIn_sub (fun _ h => List.mem_cons_of_mem _ (List.mem_append_right _ h)) (by decide +kernel))
set_option maxRecDepth 20000 in
theorem gL_isLyndon_X8_isLyndon : GoodIn wsL_isLyndon (wsV RL 52 RX8 yX8_isLyndon wsX8_isLyndon) := goodIn_app (goodIn_of _ (by decide +kernel)) ggL_isLyndon_X8_isLyndon
theorem dL_isLyndon_0 : decode cL_isLyndon 0 = .ok (.aload_n 3, 1) := by decide +kernel
theorem dL_isLyndon_1 : decode cL_isLyndon 1 = .ok (.iconst 0, 1) := by decide +kernel
theorem dL_isLyndon_2 : decode cL_isLyndon 2 = .ok (.aload_n 0, 1) := by decide +kernel
theorem dL_isLyndon_3 : decode cL_isLyndon 3 = .ok (.iload_n 1, 1) := by decide +kernel
theorem dL_isLyndon_4 : decode cL_isLyndon 4 = .ok (.iload_n 2, 1) := by decide +kernel
theorem dL_isLyndon_5 : decode cL_isLyndon 5 = .ok (.invokevirtual 52, 3) := by decide +kernel
theorem dL_isLyndon_8 : decode cL_isLyndon 8 = .ok (.ifCond .eq 7, 3) := by decide +kernel
theorem dL_isLyndon_11 : decode cL_isLyndon 11 = .ok (.lconst 1, 1) := by decide +kernel
theorem dL_isLyndon_12 : decode cL_isLyndon 12 = .ok (.goto 4, 3) := by decide +kernel
theorem dL_isLyndon_15 : decode cL_isLyndon 15 = .ok (.lconst 0, 1) := by decide +kernel
theorem dL_isLyndon_16 : decode cL_isLyndon 16 = .ok (.lastore, 1) := by decide +kernel
theorem dL_isLyndon_17 : decode cL_isLyndon 17 = .ok (.goto 7, 3) := by decide +kernel
theorem dL_isLyndon_20 : decode cL_isLyndon 20 = .ok (.astore 4, 2) := by decide +kernel
theorem dL_isLyndon_22 : decode cL_isLyndon 22 = .ok (.iconst 1, 1) := by decide +kernel
theorem dL_isLyndon_23 : decode cL_isLyndon 23 = .ok (.ireturn, 1) := by decide +kernel
theorem dL_isLyndon_24 : decode cL_isLyndon 24 = .ok (.iconst 0, 1) := by decide +kernel
theorem dL_isLyndon_25 : decode cL_isLyndon 25 = .ok (.ireturn, 1) := by decide +kernel
set_option maxRecDepth 20000 in
theorem ggL_factorStart_X8_factorStart : GoodIn wsL_factorStart wsX8_factorStart := goodIn_ca (goodIn_r _ [6, 7, 8, 9, 10, 5, 11, 12, 13, 14, 15, 16, 17, 18, 19, 20, 21, 22, 23, 24, 25, 26, 27, 28, 29, 30, 31, 32, 33, 34, 35, 36, 37, 38, 39, 40, 41, 42, 43, 44, 45, 46, 47, 48, 49, 50, 51, 52, 53, 54, 55, 56, 57, 58, 59, 60] (by decide +kernel) (by decide +kernel)) (goodIn_sub (fun _ h => List.mem_cons_of_mem _ (List.mem_append_right _ h)) (by decide +kernel))
set_option maxRecDepth 20000 in
theorem gL_factorStart_X8_factorStart : GoodIn wsL_factorStart (wsV RL 56 RX8 yX8_factorStart wsX8_factorStart) := goodIn_app (goodIn_of _ (by decide +kernel)) ggL_factorStart_X8_factorStart
theorem dL_factorStart_0 : decode cL_factorStart 0 = .ok (.aload_n 2, 1) := by decide +kernel
theorem dL_factorStart_1 : decode cL_factorStart 1 = .ok (.iconst 0, 1) := by decide +kernel
theorem dL_factorStart_2 : decode cL_factorStart 2 = .ok (.aload_n 0, 1) := by decide +kernel
theorem dL_factorStart_3 : decode cL_factorStart 3 = .ok (.iload_n 1, 1) := by decide +kernel
theorem dL_factorStart_4 : decode cL_factorStart 4 = .ok (.invokevirtual 56, 3) := by decide +kernel
theorem dL_factorStart_7 : decode cL_factorStart 7 = .ok (.i2l, 1) := by decide +kernel
theorem dL_factorStart_8 : decode cL_factorStart 8 = .ok (.lastore, 1) := by decide +kernel
theorem dL_factorStart_9 : decode cL_factorStart 9 = .ok (.goto 6, 3) := by decide +kernel
theorem dL_factorStart_12 : decode cL_factorStart 12 = .ok (.astore_n 3, 1) := by decide +kernel
theorem dL_factorStart_13 : decode cL_factorStart 13 = .ok (.iconst 1, 1) := by decide +kernel
theorem dL_factorStart_14 : decode cL_factorStart 14 = .ok (.ireturn, 1) := by decide +kernel
theorem dL_factorStart_15 : decode cL_factorStart 15 = .ok (.iconst 0, 1) := by decide +kernel
theorem dL_factorStart_16 : decode cL_factorStart 16 = .ok (.ireturn, 1) := by decide +kernel
set_option maxRecDepth 20000 in
theorem ggL_factorLength_X8_factorLength : GoodIn wsL_factorLength wsX8_factorLength := goodIn_ca (goodIn_r _ [6, 7, 8, 9, 10, 5, 11, 12, 13, 14, 15, 16, 17, 18, 19, 20, 21, 22, 23, 24, 25, 26, 27, 28, 29, 30, 31, 32, 33, 34, 35, 36, 37, 38, 39, 40, 41, 42, 43, 44, 45, 46, 47, 48, 49, 50, 51, 52, 53, 54, 55, 56, 57, 58, 59, 60] (by decide +kernel) (by decide +kernel)) (goodIn_sub (fun _ h => List.mem_cons_of_mem _ (List.mem_append_right _ h)) (by decide +kernel))
set_option maxRecDepth 20000 in
theorem gL_factorLength_X8_factorLength : GoodIn wsL_factorLength (wsV RL 59 RX8 yX8_factorLength wsX8_factorLength) := goodIn_app (goodIn_of _ (by decide +kernel)) ggL_factorLength_X8_factorLength
theorem dL_factorLength_0 : decode cL_factorLength 0 = .ok (.aload_n 2, 1) := by decide +kernel
theorem dL_factorLength_1 : decode cL_factorLength 1 = .ok (.iconst 0, 1) := by decide +kernel
theorem dL_factorLength_2 : decode cL_factorLength 2 = .ok (.aload_n 0, 1) := by decide +kernel
theorem dL_factorLength_3 : decode cL_factorLength 3 = .ok (.iload_n 1, 1) := by decide +kernel
theorem dL_factorLength_4 : decode cL_factorLength 4 = .ok (.invokevirtual 59, 3) := by decide +kernel
theorem dL_factorLength_7 : decode cL_factorLength 7 = .ok (.i2l, 1) := by decide +kernel
theorem dL_factorLength_8 : decode cL_factorLength 8 = .ok (.lastore, 1) := by decide +kernel
theorem dL_factorLength_9 : decode cL_factorLength 9 = .ok (.goto 6, 3) := by decide +kernel
theorem dL_factorLength_12 : decode cL_factorLength 12 = .ok (.astore_n 3, 1) := by decide +kernel
theorem dL_factorLength_13 : decode cL_factorLength 13 = .ok (.iconst 1, 1) := by decide +kernel
theorem dL_factorLength_14 : decode cL_factorLength 14 = .ok (.ireturn, 1) := by decide +kernel
theorem dL_factorLength_15 : decode cL_factorLength 15 = .ok (.iconst 0, 1) := by decide +kernel
theorem dL_factorLength_16 : decode cL_factorLength 16 = .ok (.ireturn, 1) := by decide +kernel
set_option maxRecDepth 20000 in
theorem ggL_factorOver_X8_factorOver : GoodIn wsL_factorOver wsX8_factorOver := goodIn_ca (goodIn_r _ [6, 7, 8, 9, 10, 11, 12, 13, 14, 15, 16, 5, 17, 18, 19, 20, 21, 22, 23, 24, 25, 26, 27, 28, 29, 30, 31, 32, 33, 34, 35, 36, 37, 38, 39, 40, 41, 42, 43, 44, 45, 46, 47, 48, 49, 50, 51, 52, 53] (by decide +kernel) (by decide +kernel)) (goodIn_sub (fun _ h => List.mem_cons_of_mem _ (List.mem_append_right _ h)) (by decide +kernel))
set_option maxRecDepth 20000 in
theorem gL_factorOver_X8_factorOver : GoodIn wsL_factorOver (wsV RL 62 RX8 yX8_factorOver wsX8_factorOver) := goodIn_app (goodIn_of _ (by decide +kernel)) ggL_factorOver_X8_factorOver
theorem dL_factorOver_0 : decode cL_factorOver 0 = .ok (.aload_n 2, 1) := by decide +kernel
theorem dL_factorOver_1 : decode cL_factorOver 1 = .ok (.iconst 0, 1) := by decide +kernel
theorem dL_factorOver_2 : decode cL_factorOver 2 = .ok (.aload_n 0, 1) := by decide +kernel
theorem dL_factorOver_3 : decode cL_factorOver 3 = .ok (.iload_n 1, 1) := by decide +kernel
theorem dL_factorOver_4 : decode cL_factorOver 4 = .ok (.invokevirtual 62, 3) := by decide +kernel
theorem dL_factorOver_7 : decode cL_factorOver 7 = .ok (.i2l, 1) := by decide +kernel
theorem dL_factorOver_8 : decode cL_factorOver 8 = .ok (.lastore, 1) := by decide +kernel
theorem dL_factorOver_9 : decode cL_factorOver 9 = .ok (.goto 6, 3) := by decide +kernel
theorem dL_factorOver_12 : decode cL_factorOver 12 = .ok (.astore_n 3, 1) := by decide +kernel
theorem dL_factorOver_13 : decode cL_factorOver 13 = .ok (.iconst 1, 1) := by decide +kernel
theorem dL_factorOver_14 : decode cL_factorOver 14 = .ok (.ireturn, 1) := by decide +kernel
theorem dL_factorOver_15 : decode cL_factorOver 15 = .ok (.iconst 0, 1) := by decide +kernel
theorem dL_factorOver_16 : decode cL_factorOver 16 = .ok (.ireturn, 1) := by decide +kernel
set_option maxRecDepth 20000 in
theorem ggL_longestLyndon_X8_longestLyndon : GoodIn wsL_longestLyndon wsX8_longestLyndon := goodIn_ca (goodIn_r _ [6, 7, 8, 9, 10, 11, 12, 13, 14, 15, 5, 16, 17, 18, 19, 20, 21, 22, 23, 24, 25, 26, 27, 28, 29, 30, 31, 32, 33, 34, 35, 36, 37] (by decide +kernel) (by decide +kernel)) (goodIn_sub (fun _ h => List.mem_cons_of_mem _ (List.mem_append_right _ h)) (by decide +kernel))
set_option maxRecDepth 20000 in
theorem gL_longestLyndon_X8_longestLyndon : GoodIn wsL_longestLyndon (wsV RL 65 RX8 yX8_longestLyndon wsX8_longestLyndon) := goodIn_app (goodIn_of _ (by decide +kernel)) ggL_longestLyndon_X8_longestLyndon
theorem dL_longestLyndon_0 : decode cL_longestLyndon 0 = .ok (.aload_n 3, 1) := by decide +kernel
theorem dL_longestLyndon_1 : decode cL_longestLyndon 1 = .ok (.iconst 0, 1) := by decide +kernel
theorem dL_longestLyndon_2 : decode cL_longestLyndon 2 = .ok (.aload_n 0, 1) := by decide +kernel
theorem dL_longestLyndon_3 : decode cL_longestLyndon 3 = .ok (.iload_n 1, 1) := by decide +kernel
theorem dL_longestLyndon_4 : decode cL_longestLyndon 4 = .ok (.iload_n 2, 1) := by decide +kernel
theorem dL_longestLyndon_5 : decode cL_longestLyndon 5 = .ok (.invokevirtual 65, 3) := by decide +kernel
theorem dL_longestLyndon_8 : decode cL_longestLyndon 8 = .ok (.i2l, 1) := by decide +kernel
theorem dL_longestLyndon_9 : decode cL_longestLyndon 9 = .ok (.lastore, 1) := by decide +kernel
theorem dL_longestLyndon_10 : decode cL_longestLyndon 10 = .ok (.goto 7, 3) := by decide +kernel
theorem dL_longestLyndon_13 : decode cL_longestLyndon 13 = .ok (.astore 4, 2) := by decide +kernel
theorem dL_longestLyndon_15 : decode cL_longestLyndon 15 = .ok (.iconst 1, 1) := by decide +kernel
theorem dL_longestLyndon_16 : decode cL_longestLyndon 16 = .ok (.ireturn, 1) := by decide +kernel
theorem dL_longestLyndon_17 : decode cL_longestLyndon 17 = .ok (.iconst 0, 1) := by decide +kernel
theorem dL_longestLyndon_18 : decode cL_longestLyndon 18 = .ok (.ireturn, 1) := by decide +kernel
set_option maxRecDepth 20000 in
theorem ggL_standardFactor_X8_standardFactor : GoodIn wsL_standardFactor wsX8_standardFactor := goodIn_ca (goodIn_ca (goodIn_r _ [7, 8, 9, 10, 11, 12, 13, 6, 14, 15, 16, 17, 18, 19, 20, 21, 22, 23, 24, 25, 26, 27, 28, 29, 30, 31, 32, 33, 34, 35, 36, 37, 38, 39, 40, 41, 42, 43, 44] (by decide +kernel) (by decide +kernel)) (goodIn_sub (fun _ h => List.mem_cons_of_mem _ (List.mem_append_left _ (List.mem_append_right _ h))) (by decide +kernel))) (goodIn_sub (fun _ h => List.mem_cons_of_mem _ (List.mem_append_right _ h)) (by decide +kernel))
set_option maxRecDepth 20000 in
theorem gL_standardFactor_X8_standardFactor : GoodIn wsL_standardFactor (wsV RL 69 RX8 yX8_standardFactor wsX8_standardFactor) := goodIn_app (goodIn_of _ (by decide +kernel)) ggL_standardFactor_X8_standardFactor
theorem dL_standardFactor_0 : decode cL_standardFactor 0 = .ok (.aload_n 3, 1) := by decide +kernel
theorem dL_standardFactor_1 : decode cL_standardFactor 1 = .ok (.iconst 0, 1) := by decide +kernel
theorem dL_standardFactor_2 : decode cL_standardFactor 2 = .ok (.aload_n 0, 1) := by decide +kernel
theorem dL_standardFactor_3 : decode cL_standardFactor 3 = .ok (.iload_n 1, 1) := by decide +kernel
theorem dL_standardFactor_4 : decode cL_standardFactor 4 = .ok (.iload_n 2, 1) := by decide +kernel
theorem dL_standardFactor_5 : decode cL_standardFactor 5 = .ok (.invokevirtual 69, 3) := by decide +kernel
theorem dL_standardFactor_8 : decode cL_standardFactor 8 = .ok (.i2l, 1) := by decide +kernel
theorem dL_standardFactor_9 : decode cL_standardFactor 9 = .ok (.lastore, 1) := by decide +kernel
theorem dL_standardFactor_10 : decode cL_standardFactor 10 = .ok (.goto 11, 3) := by decide +kernel
theorem dL_standardFactor_13 : decode cL_standardFactor 13 = .ok (.astore 4, 2) := by decide +kernel
theorem dL_standardFactor_15 : decode cL_standardFactor 15 = .ok (.iconst 1, 1) := by decide +kernel
theorem dL_standardFactor_16 : decode cL_standardFactor 16 = .ok (.ireturn, 1) := by decide +kernel
theorem dL_standardFactor_17 : decode cL_standardFactor 17 = .ok (.astore 4, 2) := by decide +kernel
theorem dL_standardFactor_19 : decode cL_standardFactor 19 = .ok (.iconst 2, 1) := by decide +kernel
theorem dL_standardFactor_20 : decode cL_standardFactor 20 = .ok (.ireturn, 1) := by decide +kernel
theorem dL_standardFactor_21 : decode cL_standardFactor 21 = .ok (.iconst 0, 1) := by decide +kernel
theorem dL_standardFactor_22 : decode cL_standardFactor 22 = .ok (.ireturn, 1) := by decide +kernel
set_option maxRecDepth 20000 in
theorem ggL_leastRotation_X8_leastRotation : GoodIn wsL_leastRotation wsX8_leastRotation := goodIn_ca (goodIn_r _ [6, 7, 8, 9, 10, 5, 11, 12, 13, 14, 15, 16, 17, 18, 19, 20, 21, 22, 23, 24, 25, 26, 27, 28, 29, 30, 31, 32, 33, 34, 35, 36, 37, 38, 39, 40, 41, 42, 43, 44] (by decide +kernel) (by decide +kernel)) (goodIn_sub (fun _ h => List.mem_cons_of_mem _ (List.mem_append_right _ h)) (by decide +kernel))
set_option maxRecDepth 20000 in
theorem gL_leastRotation_X8_leastRotation : GoodIn wsL_leastRotation (wsV RL 72 RX8 yX8_leastRotation wsX8_leastRotation) := goodIn_app (goodIn_of _ (by decide +kernel)) ggL_leastRotation_X8_leastRotation
theorem dL_leastRotation_0 : decode cL_leastRotation 0 = .ok (.aload_n 3, 1) := by decide +kernel
theorem dL_leastRotation_1 : decode cL_leastRotation 1 = .ok (.iconst 0, 1) := by decide +kernel
theorem dL_leastRotation_2 : decode cL_leastRotation 2 = .ok (.aload_n 0, 1) := by decide +kernel
theorem dL_leastRotation_3 : decode cL_leastRotation 3 = .ok (.iload_n 1, 1) := by decide +kernel
theorem dL_leastRotation_4 : decode cL_leastRotation 4 = .ok (.iload_n 2, 1) := by decide +kernel
theorem dL_leastRotation_5 : decode cL_leastRotation 5 = .ok (.invokevirtual 72, 3) := by decide +kernel
theorem dL_leastRotation_8 : decode cL_leastRotation 8 = .ok (.i2l, 1) := by decide +kernel
theorem dL_leastRotation_9 : decode cL_leastRotation 9 = .ok (.lastore, 1) := by decide +kernel
theorem dL_leastRotation_10 : decode cL_leastRotation 10 = .ok (.goto 7, 3) := by decide +kernel
theorem dL_leastRotation_13 : decode cL_leastRotation 13 = .ok (.astore 4, 2) := by decide +kernel
theorem dL_leastRotation_15 : decode cL_leastRotation 15 = .ok (.iconst 1, 1) := by decide +kernel
theorem dL_leastRotation_16 : decode cL_leastRotation 16 = .ok (.ireturn, 1) := by decide +kernel
theorem dL_leastRotation_17 : decode cL_leastRotation 17 = .ok (.iconst 0, 1) := by decide +kernel
theorem dL_leastRotation_18 : decode cL_leastRotation 18 = .ok (.ireturn, 1) := by decide +kernel
set_option maxRecDepth 20000 in
theorem ggL_greatestRotation_X8_greatestRotation : GoodIn wsL_greatestRotation wsX8_greatestRotation := goodIn_ca (goodIn_r _ [6, 7, 8, 9, 10, 5, 11, 12, 13, 14, 15, 16, 17, 18, 19, 20, 21, 22, 23, 24, 25, 26, 27, 28, 29, 30, 31, 32, 33, 34, 35, 36, 37, 38, 39, 40, 41, 42, 43, 44] (by decide +kernel) (by decide +kernel)) (goodIn_sub (fun _ h => List.mem_cons_of_mem _ (List.mem_append_right _ h)) (by decide +kernel))
set_option maxRecDepth 20000 in
theorem gL_greatestRotation_X8_greatestRotation : GoodIn wsL_greatestRotation (wsV RL 75 RX8 yX8_greatestRotation wsX8_greatestRotation) := goodIn_app (goodIn_of _ (by decide +kernel)) ggL_greatestRotation_X8_greatestRotation
theorem dL_greatestRotation_0 : decode cL_greatestRotation 0 = .ok (.aload_n 3, 1) := by decide +kernel
theorem dL_greatestRotation_1 : decode cL_greatestRotation 1 = .ok (.iconst 0, 1) := by decide +kernel
theorem dL_greatestRotation_2 : decode cL_greatestRotation 2 = .ok (.aload_n 0, 1) := by decide +kernel
theorem dL_greatestRotation_3 : decode cL_greatestRotation 3 = .ok (.iload_n 1, 1) := by decide +kernel
theorem dL_greatestRotation_4 : decode cL_greatestRotation 4 = .ok (.iload_n 2, 1) := by decide +kernel
theorem dL_greatestRotation_5 : decode cL_greatestRotation 5 = .ok (.invokevirtual 75, 3) := by decide +kernel
theorem dL_greatestRotation_8 : decode cL_greatestRotation 8 = .ok (.i2l, 1) := by decide +kernel
theorem dL_greatestRotation_9 : decode cL_greatestRotation 9 = .ok (.lastore, 1) := by decide +kernel
theorem dL_greatestRotation_10 : decode cL_greatestRotation 10 = .ok (.goto 7, 3) := by decide +kernel
theorem dL_greatestRotation_13 : decode cL_greatestRotation 13 = .ok (.astore 4, 2) := by decide +kernel
theorem dL_greatestRotation_15 : decode cL_greatestRotation 15 = .ok (.iconst 1, 1) := by decide +kernel
theorem dL_greatestRotation_16 : decode cL_greatestRotation 16 = .ok (.ireturn, 1) := by decide +kernel
theorem dL_greatestRotation_17 : decode cL_greatestRotation 17 = .ok (.iconst 0, 1) := by decide +kernel
theorem dL_greatestRotation_18 : decode cL_greatestRotation 18 = .ok (.ireturn, 1) := by decide +kernel
set_option maxRecDepth 20000 in
theorem ggL_rotations_X8_rotations : GoodIn wsL_rotations wsX8_rotations := goodIn_ca (goodIn_r _ [6, 7, 8, 9, 10, 11, 5, 12, 13, 14, 15, 16, 17, 18, 19, 20, 21, 22, 23, 24, 25, 26, 27, 28, 29, 30, 31, 32, 33, 34, 35, 36, 37, 38, 39, 40, 41, 42, 43, 44, 45, 46, 47, 48, 49, 50, 51, 52, 53, 54, 55, 56] (by decide +kernel) (by decide +kernel)) (goodIn_sub (fun _ h => List.mem_cons_of_mem _ (List.mem_append_right _ h)) (by decide +kernel))
set_option maxRecDepth 20000 in
theorem gL_rotations_X8_rotations : GoodIn wsL_rotations (wsV RL 78 RX8 yX8_rotations wsX8_rotations) := goodIn_app (goodIn_of _ (by decide +kernel)) ggL_rotations_X8_rotations
theorem dL_rotations_0 : decode cL_rotations 0 = .ok (.aload_n 3, 1) := by decide +kernel
theorem dL_rotations_1 : decode cL_rotations 1 = .ok (.iconst 0, 1) := by decide +kernel
theorem dL_rotations_2 : decode cL_rotations 2 = .ok (.aload_n 0, 1) := by decide +kernel
theorem dL_rotations_3 : decode cL_rotations 3 = .ok (.iload_n 1, 1) := by decide +kernel
theorem dL_rotations_4 : decode cL_rotations 4 = .ok (.iload_n 2, 1) := by decide +kernel
theorem dL_rotations_5 : decode cL_rotations 5 = .ok (.invokevirtual 78, 3) := by decide +kernel
theorem dL_rotations_8 : decode cL_rotations 8 = .ok (.i2l, 1) := by decide +kernel
theorem dL_rotations_9 : decode cL_rotations 9 = .ok (.lastore, 1) := by decide +kernel
theorem dL_rotations_10 : decode cL_rotations 10 = .ok (.goto 7, 3) := by decide +kernel
theorem dL_rotations_13 : decode cL_rotations 13 = .ok (.astore 4, 2) := by decide +kernel
theorem dL_rotations_15 : decode cL_rotations 15 = .ok (.iconst 1, 1) := by decide +kernel
theorem dL_rotations_16 : decode cL_rotations 16 = .ok (.ireturn, 1) := by decide +kernel
theorem dL_rotations_17 : decode cL_rotations 17 = .ok (.iconst 0, 1) := by decide +kernel
theorem dL_rotations_18 : decode cL_rotations 18 = .ok (.ireturn, 1) := by decide +kernel
set_option maxRecDepth 20000 in
theorem ggL_isNecklace_X8_isNecklace : GoodIn wsL_isNecklace wsX8_isNecklace := goodIn_ca (goodIn_r _ [6, 7, 8, 9, 10, 5, 11, 12, 13, 14, 15, 16, 17, 18, 19, 20, 21, 22, 23, 24, 25, 26, 27, 28, 29, 30, 31, 32, 33, 34, 35, 36, 37, 38, 39, 40, 41, 42, 43, 44] (by decide +kernel) (by decide +kernel)) (goodIn_sub (fun _ h => List.mem_cons_of_mem _ (List.mem_append_right _ h)) (by decide +kernel))
set_option maxRecDepth 20000 in
theorem gL_isNecklace_X8_isNecklace : GoodIn wsL_isNecklace (wsV RL 81 RX8 yX8_isNecklace wsX8_isNecklace) := goodIn_app (goodIn_of _ (by decide +kernel)) ggL_isNecklace_X8_isNecklace
theorem dL_isNecklace_0 : decode cL_isNecklace 0 = .ok (.aload_n 3, 1) := by decide +kernel
theorem dL_isNecklace_1 : decode cL_isNecklace 1 = .ok (.iconst 0, 1) := by decide +kernel
theorem dL_isNecklace_2 : decode cL_isNecklace 2 = .ok (.aload_n 0, 1) := by decide +kernel
theorem dL_isNecklace_3 : decode cL_isNecklace 3 = .ok (.iload_n 1, 1) := by decide +kernel
theorem dL_isNecklace_4 : decode cL_isNecklace 4 = .ok (.iload_n 2, 1) := by decide +kernel
theorem dL_isNecklace_5 : decode cL_isNecklace 5 = .ok (.invokevirtual 81, 3) := by decide +kernel
theorem dL_isNecklace_8 : decode cL_isNecklace 8 = .ok (.ifCond .eq 7, 3) := by decide +kernel
theorem dL_isNecklace_11 : decode cL_isNecklace 11 = .ok (.lconst 1, 1) := by decide +kernel
theorem dL_isNecklace_12 : decode cL_isNecklace 12 = .ok (.goto 4, 3) := by decide +kernel
theorem dL_isNecklace_15 : decode cL_isNecklace 15 = .ok (.lconst 0, 1) := by decide +kernel
theorem dL_isNecklace_16 : decode cL_isNecklace 16 = .ok (.lastore, 1) := by decide +kernel
theorem dL_isNecklace_17 : decode cL_isNecklace 17 = .ok (.goto 7, 3) := by decide +kernel
theorem dL_isNecklace_20 : decode cL_isNecklace 20 = .ok (.astore 4, 2) := by decide +kernel
theorem dL_isNecklace_22 : decode cL_isNecklace 22 = .ok (.iconst 1, 1) := by decide +kernel
theorem dL_isNecklace_23 : decode cL_isNecklace 23 = .ok (.ireturn, 1) := by decide +kernel
theorem dL_isNecklace_24 : decode cL_isNecklace 24 = .ok (.iconst 0, 1) := by decide +kernel
theorem dL_isNecklace_25 : decode cL_isNecklace 25 = .ok (.ireturn, 1) := by decide +kernel
set_option maxRecDepth 20000 in
theorem ggL_period_X8_period : GoodIn wsL_period wsX8_period := goodIn_ca (goodIn_r _ [6, 7, 8, 9, 10, 11, 5, 12, 13, 14, 15, 16, 17, 18, 19, 20, 21, 22, 23, 24, 25, 26, 27, 28, 29, 30, 31, 32, 33, 34, 35, 36, 37, 38, 39, 40, 41, 42, 43, 44, 45, 46, 47, 48, 49, 50, 51, 52] (by decide +kernel) (by decide +kernel)) (goodIn_sub (fun _ h => List.mem_cons_of_mem _ (List.mem_append_right _ h)) (by decide +kernel))
set_option maxRecDepth 20000 in
theorem gL_period_X8_period : GoodIn wsL_period (wsV RL 84 RX8 yX8_period wsX8_period) := goodIn_app (goodIn_of _ (by decide +kernel)) ggL_period_X8_period
theorem dL_period_0 : decode cL_period 0 = .ok (.aload_n 3, 1) := by decide +kernel
theorem dL_period_1 : decode cL_period 1 = .ok (.iconst 0, 1) := by decide +kernel
theorem dL_period_2 : decode cL_period 2 = .ok (.aload_n 0, 1) := by decide +kernel
theorem dL_period_3 : decode cL_period 3 = .ok (.iload_n 1, 1) := by decide +kernel
theorem dL_period_4 : decode cL_period 4 = .ok (.iload_n 2, 1) := by decide +kernel
theorem dL_period_5 : decode cL_period 5 = .ok (.invokevirtual 84, 3) := by decide +kernel
theorem dL_period_8 : decode cL_period 8 = .ok (.i2l, 1) := by decide +kernel
theorem dL_period_9 : decode cL_period 9 = .ok (.lastore, 1) := by decide +kernel
theorem dL_period_10 : decode cL_period 10 = .ok (.goto 7, 3) := by decide +kernel
theorem dL_period_13 : decode cL_period 13 = .ok (.astore 4, 2) := by decide +kernel
theorem dL_period_15 : decode cL_period 15 = .ok (.iconst 1, 1) := by decide +kernel
theorem dL_period_16 : decode cL_period 16 = .ok (.ireturn, 1) := by decide +kernel
theorem dL_period_17 : decode cL_period 17 = .ok (.iconst 0, 1) := by decide +kernel
theorem dL_period_18 : decode cL_period 18 = .ok (.ireturn, 1) := by decide +kernel
set_option maxRecDepth 20000 in
theorem ggL_periodByTrying_X8_periodByTrying : GoodIn wsL_periodByTrying wsX8_periodByTrying := goodIn_ca (goodIn_r _ [6, 7, 8, 9, 10, 5, 11, 12, 13, 14, 15, 16, 17, 18, 19, 20, 21, 22, 23, 24, 25, 26, 27, 28, 29, 30, 31, 32, 33, 34, 35, 36, 37, 38] (by decide +kernel) (by decide +kernel)) (goodIn_sub (fun _ h => List.mem_cons_of_mem _ (List.mem_append_right _ h)) (by decide +kernel))
set_option maxRecDepth 20000 in
theorem gL_periodByTrying_X8_periodByTrying : GoodIn wsL_periodByTrying (wsV RL 87 RX8 yX8_periodByTrying wsX8_periodByTrying) := goodIn_app (goodIn_of _ (by decide +kernel)) ggL_periodByTrying_X8_periodByTrying
theorem dL_periodByTrying_0 : decode cL_periodByTrying 0 = .ok (.aload_n 3, 1) := by decide +kernel
theorem dL_periodByTrying_1 : decode cL_periodByTrying 1 = .ok (.iconst 0, 1) := by decide +kernel
theorem dL_periodByTrying_2 : decode cL_periodByTrying 2 = .ok (.aload_n 0, 1) := by decide +kernel
theorem dL_periodByTrying_3 : decode cL_periodByTrying 3 = .ok (.iload_n 1, 1) := by decide +kernel
theorem dL_periodByTrying_4 : decode cL_periodByTrying 4 = .ok (.iload_n 2, 1) := by decide +kernel
theorem dL_periodByTrying_5 : decode cL_periodByTrying 5 = .ok (.invokevirtual 87, 3) := by decide +kernel
theorem dL_periodByTrying_8 : decode cL_periodByTrying 8 = .ok (.i2l, 1) := by decide +kernel
theorem dL_periodByTrying_9 : decode cL_periodByTrying 9 = .ok (.lastore, 1) := by decide +kernel
theorem dL_periodByTrying_10 : decode cL_periodByTrying 10 = .ok (.goto 7, 3) := by decide +kernel
theorem dL_periodByTrying_13 : decode cL_periodByTrying 13 = .ok (.astore 4, 2) := by decide +kernel
theorem dL_periodByTrying_15 : decode cL_periodByTrying 15 = .ok (.iconst 1, 1) := by decide +kernel
theorem dL_periodByTrying_16 : decode cL_periodByTrying 16 = .ok (.ireturn, 1) := by decide +kernel
theorem dL_periodByTrying_17 : decode cL_periodByTrying 17 = .ok (.iconst 0, 1) := by decide +kernel
theorem dL_periodByTrying_18 : decode cL_periodByTrying 18 = .ok (.ireturn, 1) := by decide +kernel
set_option maxRecDepth 20000 in
theorem ggL_isPeriod_X8_isPeriod : GoodIn wsL_isPeriod wsX8_isPeriod := goodIn_ca (goodIn_ca (goodIn_r _ [7, 8, 9, 10, 11, 6, 12, 13, 14, 15, 16, 17, 18, 19, 20, 21, 22, 23, 24, 25, 26, 27, 28, 29, 30, 31, 32, 33, 34, 35, 36, 37, 38, 39, 40] (by decide +kernel) (by decide +kernel)) (goodIn_sub (fun _ h => List.mem_cons_of_mem _ (List.mem_append_left _ (List.mem_append_right _ h))) (by decide +kernel))) (goodIn_sub (fun _ h => List.mem_cons_of_mem _ (List.mem_append_right _ h)) (by decide +kernel))
set_option maxRecDepth 20000 in
theorem gL_isPeriod_X8_isPeriod : GoodIn wsL_isPeriod (wsV RL 90 RX8 yX8_isPeriod wsX8_isPeriod) := goodIn_app (goodIn_of _ (by decide +kernel)) ggL_isPeriod_X8_isPeriod
theorem dL_isPeriod_0 : decode cL_isPeriod 0 = .ok (.aload 4, 2) := by decide +kernel
theorem dL_isPeriod_2 : decode cL_isPeriod 2 = .ok (.iconst 0, 1) := by decide +kernel
theorem dL_isPeriod_3 : decode cL_isPeriod 3 = .ok (.aload_n 0, 1) := by decide +kernel
theorem dL_isPeriod_4 : decode cL_isPeriod 4 = .ok (.iload_n 1, 1) := by decide +kernel
theorem dL_isPeriod_5 : decode cL_isPeriod 5 = .ok (.iload_n 2, 1) := by decide +kernel
theorem dL_isPeriod_6 : decode cL_isPeriod 6 = .ok (.iload_n 3, 1) := by decide +kernel
theorem dL_isPeriod_7 : decode cL_isPeriod 7 = .ok (.invokevirtual 90, 3) := by decide +kernel
theorem dL_isPeriod_10 : decode cL_isPeriod 10 = .ok (.ifCond .eq 7, 3) := by decide +kernel
theorem dL_isPeriod_13 : decode cL_isPeriod 13 = .ok (.lconst 1, 1) := by decide +kernel
theorem dL_isPeriod_14 : decode cL_isPeriod 14 = .ok (.goto 4, 3) := by decide +kernel
theorem dL_isPeriod_17 : decode cL_isPeriod 17 = .ok (.lconst 0, 1) := by decide +kernel
theorem dL_isPeriod_18 : decode cL_isPeriod 18 = .ok (.lastore, 1) := by decide +kernel
theorem dL_isPeriod_19 : decode cL_isPeriod 19 = .ok (.goto 11, 3) := by decide +kernel
theorem dL_isPeriod_22 : decode cL_isPeriod 22 = .ok (.astore 5, 2) := by decide +kernel
theorem dL_isPeriod_24 : decode cL_isPeriod 24 = .ok (.iconst 1, 1) := by decide +kernel
theorem dL_isPeriod_25 : decode cL_isPeriod 25 = .ok (.ireturn, 1) := by decide +kernel
theorem dL_isPeriod_26 : decode cL_isPeriod 26 = .ok (.astore 5, 2) := by decide +kernel
theorem dL_isPeriod_28 : decode cL_isPeriod 28 = .ok (.iconst 2, 1) := by decide +kernel
theorem dL_isPeriod_29 : decode cL_isPeriod 29 = .ok (.ireturn, 1) := by decide +kernel
theorem dL_isPeriod_30 : decode cL_isPeriod 30 = .ok (.iconst 0, 1) := by decide +kernel
theorem dL_isPeriod_31 : decode cL_isPeriod 31 = .ok (.ireturn, 1) := by decide +kernel
set_option maxRecDepth 20000 in
theorem ggL_periods_X8_periods : GoodIn wsL_periods wsX8_periods := goodIn_ca (goodIn_r _ [6, 7, 8, 9, 10, 11, 5, 12, 13, 14, 15, 16, 17, 18, 19, 20, 21, 22, 23, 24, 25, 26, 27, 28, 29, 30, 31, 32, 33, 34, 35, 36, 37, 38, 39, 40, 41, 42, 43, 44, 45, 46, 47, 48, 49, 50, 51, 52] (by decide +kernel) (by decide +kernel)) (goodIn_sub (fun _ h => List.mem_cons_of_mem _ (List.mem_append_right _ h)) (by decide +kernel))
set_option maxRecDepth 20000 in
theorem gL_periods_X8_periods : GoodIn wsL_periods (wsV RL 94 RX8 yX8_periods wsX8_periods) := goodIn_app (goodIn_of _ (by decide +kernel)) ggL_periods_X8_periods
theorem dL_periods_0 : decode cL_periods 0 = .ok (.aload_n 3, 1) := by decide +kernel
theorem dL_periods_1 : decode cL_periods 1 = .ok (.iconst 0, 1) := by decide +kernel
theorem dL_periods_2 : decode cL_periods 2 = .ok (.aload_n 0, 1) := by decide +kernel
theorem dL_periods_3 : decode cL_periods 3 = .ok (.iload_n 1, 1) := by decide +kernel
theorem dL_periods_4 : decode cL_periods 4 = .ok (.iload_n 2, 1) := by decide +kernel
theorem dL_periods_5 : decode cL_periods 5 = .ok (.invokevirtual 94, 3) := by decide +kernel
theorem dL_periods_8 : decode cL_periods 8 = .ok (.i2l, 1) := by decide +kernel
theorem dL_periods_9 : decode cL_periods 9 = .ok (.lastore, 1) := by decide +kernel
theorem dL_periods_10 : decode cL_periods 10 = .ok (.goto 7, 3) := by decide +kernel
theorem dL_periods_13 : decode cL_periods 13 = .ok (.astore 4, 2) := by decide +kernel
theorem dL_periods_15 : decode cL_periods 15 = .ok (.iconst 1, 1) := by decide +kernel
theorem dL_periods_16 : decode cL_periods 16 = .ok (.ireturn, 1) := by decide +kernel
theorem dL_periods_17 : decode cL_periods 17 = .ok (.iconst 0, 1) := by decide +kernel
theorem dL_periods_18 : decode cL_periods 18 = .ok (.ireturn, 1) := by decide +kernel
set_option maxRecDepth 20000 in
theorem ggL_border_X8_border : GoodIn wsL_border wsX8_border := goodIn_ca (goodIn_r _ [6, 7, 8, 9, 10, 11, 5, 12, 13, 14, 15, 16, 17, 18, 19, 20, 21, 22, 23, 24, 25, 26, 27, 28, 29, 30, 31, 32, 33, 34, 35, 36, 37, 38, 39, 40, 41, 42, 43, 44, 45, 46, 47, 48] (by decide +kernel) (by decide +kernel)) (goodIn_sub (fun _ h => List.mem_cons_of_mem _ (List.mem_append_right _ h)) (by decide +kernel))
set_option maxRecDepth 20000 in
theorem gL_border_X8_border : GoodIn wsL_border (wsV RL 97 RX8 yX8_border wsX8_border) := goodIn_app (goodIn_of _ (by decide +kernel)) ggL_border_X8_border
theorem dL_border_0 : decode cL_border 0 = .ok (.aload_n 3, 1) := by decide +kernel
theorem dL_border_1 : decode cL_border 1 = .ok (.iconst 0, 1) := by decide +kernel
theorem dL_border_2 : decode cL_border 2 = .ok (.aload_n 0, 1) := by decide +kernel
theorem dL_border_3 : decode cL_border 3 = .ok (.iload_n 1, 1) := by decide +kernel
theorem dL_border_4 : decode cL_border 4 = .ok (.iload_n 2, 1) := by decide +kernel
theorem dL_border_5 : decode cL_border 5 = .ok (.invokevirtual 97, 3) := by decide +kernel
theorem dL_border_8 : decode cL_border 8 = .ok (.i2l, 1) := by decide +kernel
theorem dL_border_9 : decode cL_border 9 = .ok (.lastore, 1) := by decide +kernel
theorem dL_border_10 : decode cL_border 10 = .ok (.goto 7, 3) := by decide +kernel
theorem dL_border_13 : decode cL_border 13 = .ok (.astore 4, 2) := by decide +kernel
theorem dL_border_15 : decode cL_border 15 = .ok (.iconst 1, 1) := by decide +kernel
theorem dL_border_16 : decode cL_border 16 = .ok (.ireturn, 1) := by decide +kernel
theorem dL_border_17 : decode cL_border 17 = .ok (.iconst 0, 1) := by decide +kernel
theorem dL_border_18 : decode cL_border 18 = .ok (.ireturn, 1) := by decide +kernel
set_option maxRecDepth 20000 in
theorem ggL_rootLength_X8_rootLength : GoodIn wsL_rootLength wsX8_rootLength := goodIn_ca (goodIn_r _ [6, 7, 8, 9, 10, 11, 5, 12, 13, 14, 15, 16, 17, 18, 19, 20, 21, 22, 23, 24, 25, 26, 27, 28, 29, 30, 31, 32, 33, 34, 35, 36, 37, 38, 39, 40, 41, 42, 43, 44, 45, 46, 47, 48, 49, 50, 51, 52, 53, 54, 55, 56] (by decide +kernel) (by decide +kernel)) (goodIn_sub (fun _ h => List.mem_cons_of_mem _ (List.mem_append_right _ h)) (by decide +kernel))
set_option maxRecDepth 20000 in
theorem gL_rootLength_X8_rootLength : GoodIn wsL_rootLength (wsV RL 100 RX8 yX8_rootLength wsX8_rootLength) := goodIn_app (goodIn_of _ (by decide +kernel)) ggL_rootLength_X8_rootLength
theorem dL_rootLength_0 : decode cL_rootLength 0 = .ok (.aload_n 3, 1) := by decide +kernel
theorem dL_rootLength_1 : decode cL_rootLength 1 = .ok (.iconst 0, 1) := by decide +kernel
theorem dL_rootLength_2 : decode cL_rootLength 2 = .ok (.aload_n 0, 1) := by decide +kernel
theorem dL_rootLength_3 : decode cL_rootLength 3 = .ok (.iload_n 1, 1) := by decide +kernel
theorem dL_rootLength_4 : decode cL_rootLength 4 = .ok (.iload_n 2, 1) := by decide +kernel
theorem dL_rootLength_5 : decode cL_rootLength 5 = .ok (.invokevirtual 100, 3) := by decide +kernel
theorem dL_rootLength_8 : decode cL_rootLength 8 = .ok (.i2l, 1) := by decide +kernel
theorem dL_rootLength_9 : decode cL_rootLength 9 = .ok (.lastore, 1) := by decide +kernel
theorem dL_rootLength_10 : decode cL_rootLength 10 = .ok (.goto 7, 3) := by decide +kernel
theorem dL_rootLength_13 : decode cL_rootLength 13 = .ok (.astore 4, 2) := by decide +kernel
theorem dL_rootLength_15 : decode cL_rootLength 15 = .ok (.iconst 1, 1) := by decide +kernel
theorem dL_rootLength_16 : decode cL_rootLength 16 = .ok (.ireturn, 1) := by decide +kernel
theorem dL_rootLength_17 : decode cL_rootLength 17 = .ok (.iconst 0, 1) := by decide +kernel
theorem dL_rootLength_18 : decode cL_rootLength 18 = .ok (.ireturn, 1) := by decide +kernel
set_option maxRecDepth 20000 in
theorem ggL_exponent_X8_exponent : GoodIn wsL_exponent wsX8_exponent := goodIn_ca (goodIn_r _ [6, 7, 8, 9, 10, 11, 5, 12, 13, 14, 15, 16, 17, 18, 19, 20, 21, 22, 23, 24, 25, 26, 27, 28, 29, 30, 31, 32, 33, 34, 35, 36, 37, 38, 39, 40, 41, 42, 43, 44, 45, 46, 47, 48, 49, 50, 51, 52, 53, 54, 55] (by decide +kernel) (by decide +kernel)) (goodIn_sub (fun _ h => List.mem_cons_of_mem _ (List.mem_append_right _ h)) (by decide +kernel))
set_option maxRecDepth 20000 in
theorem gL_exponent_X8_exponent : GoodIn wsL_exponent (wsV RL 103 RX8 yX8_exponent wsX8_exponent) := goodIn_app (goodIn_of _ (by decide +kernel)) ggL_exponent_X8_exponent
theorem dL_exponent_0 : decode cL_exponent 0 = .ok (.aload_n 3, 1) := by decide +kernel
theorem dL_exponent_1 : decode cL_exponent 1 = .ok (.iconst 0, 1) := by decide +kernel
theorem dL_exponent_2 : decode cL_exponent 2 = .ok (.aload_n 0, 1) := by decide +kernel
theorem dL_exponent_3 : decode cL_exponent 3 = .ok (.iload_n 1, 1) := by decide +kernel
theorem dL_exponent_4 : decode cL_exponent 4 = .ok (.iload_n 2, 1) := by decide +kernel
theorem dL_exponent_5 : decode cL_exponent 5 = .ok (.invokevirtual 103, 3) := by decide +kernel
theorem dL_exponent_8 : decode cL_exponent 8 = .ok (.dastore, 1) := by decide +kernel
theorem dL_exponent_9 : decode cL_exponent 9 = .ok (.goto 7, 3) := by decide +kernel
theorem dL_exponent_12 : decode cL_exponent 12 = .ok (.astore 4, 2) := by decide +kernel
theorem dL_exponent_14 : decode cL_exponent 14 = .ok (.iconst 1, 1) := by decide +kernel
theorem dL_exponent_15 : decode cL_exponent 15 = .ok (.ireturn, 1) := by decide +kernel
theorem dL_exponent_16 : decode cL_exponent 16 = .ok (.iconst 0, 1) := by decide +kernel
theorem dL_exponent_17 : decode cL_exponent 17 = .ok (.ireturn, 1) := by decide +kernel
set_option maxRecDepth 20000 in
theorem ggL_runStart_X8_runStart : GoodIn wsL_runStart wsX8_runStart := goodIn_ca (goodIn_r _ [6, 7, 8, 9, 10, 5, 11, 12, 13, 14, 15, 16, 17, 18, 19, 20, 21, 22, 23, 24, 25, 26, 27, 28, 29, 30, 31, 32, 33, 34, 35, 36, 37, 38, 39, 40, 41, 42, 43, 44, 45, 46, 47, 48, 49, 50, 51, 52, 53, 54, 55, 56, 57, 58, 59, 60, 61, 62, 63, 64, 65, 66, 67, 68, 69, 70, 71, 72, 73, 74, 75, 76, 77, 78, 79, 80, 81] (by decide +kernel) (by decide +kernel)) (goodIn_sub (fun _ h => List.mem_cons_of_mem _ (List.mem_append_right _ h)) (by decide +kernel))
set_option maxRecDepth 20000 in
theorem gL_runStart_X8_runStart : GoodIn wsL_runStart (wsV RL 107 RX8 yX8_runStart wsX8_runStart) := goodIn_app (goodIn_of _ (by decide +kernel)) ggL_runStart_X8_runStart
theorem dL_runStart_0 : decode cL_runStart 0 = .ok (.aload_n 2, 1) := by decide +kernel
theorem dL_runStart_1 : decode cL_runStart 1 = .ok (.iconst 0, 1) := by decide +kernel
theorem dL_runStart_2 : decode cL_runStart 2 = .ok (.aload_n 0, 1) := by decide +kernel
theorem dL_runStart_3 : decode cL_runStart 3 = .ok (.iload_n 1, 1) := by decide +kernel
theorem dL_runStart_4 : decode cL_runStart 4 = .ok (.invokevirtual 107, 3) := by decide +kernel
theorem dL_runStart_7 : decode cL_runStart 7 = .ok (.i2l, 1) := by decide +kernel
theorem dL_runStart_8 : decode cL_runStart 8 = .ok (.lastore, 1) := by decide +kernel
theorem dL_runStart_9 : decode cL_runStart 9 = .ok (.goto 6, 3) := by decide +kernel
theorem dL_runStart_12 : decode cL_runStart 12 = .ok (.astore_n 3, 1) := by decide +kernel
theorem dL_runStart_13 : decode cL_runStart 13 = .ok (.iconst 1, 1) := by decide +kernel
theorem dL_runStart_14 : decode cL_runStart 14 = .ok (.ireturn, 1) := by decide +kernel
theorem dL_runStart_15 : decode cL_runStart 15 = .ok (.iconst 0, 1) := by decide +kernel
theorem dL_runStart_16 : decode cL_runStart 16 = .ok (.ireturn, 1) := by decide +kernel
set_option maxRecDepth 20000 in
theorem ggL_runEnd_X8_runEnd : GoodIn wsL_runEnd wsX8_runEnd := goodIn_ca (goodIn_r _ [6, 7, 8, 9, 10, 5, 11, 12, 13, 14, 15, 16, 17, 18, 19, 20, 21, 22, 23, 24, 25, 26, 27, 28, 29, 30, 31, 32, 33, 34, 35, 36, 37, 38, 39, 40, 41, 42, 43, 44, 45, 46, 47, 48, 49, 50, 51, 52, 53, 54, 55, 56, 57, 58, 59, 60, 61, 62, 63, 64, 65, 66, 67, 68, 69, 70, 71, 72, 73, 74, 75, 76, 77, 78, 79, 80, 81] (by decide +kernel) (by decide +kernel)) (goodIn_sub (fun _ h => List.mem_cons_of_mem _ (List.mem_append_right _ h)) (by decide +kernel))
set_option maxRecDepth 20000 in
theorem gL_runEnd_X8_runEnd : GoodIn wsL_runEnd (wsV RL 110 RX8 yX8_runEnd wsX8_runEnd) := goodIn_app (goodIn_of _ (by decide +kernel)) ggL_runEnd_X8_runEnd
theorem dL_runEnd_0 : decode cL_runEnd 0 = .ok (.aload_n 2, 1) := by decide +kernel
theorem dL_runEnd_1 : decode cL_runEnd 1 = .ok (.iconst 0, 1) := by decide +kernel
theorem dL_runEnd_2 : decode cL_runEnd 2 = .ok (.aload_n 0, 1) := by decide +kernel
theorem dL_runEnd_3 : decode cL_runEnd 3 = .ok (.iload_n 1, 1) := by decide +kernel
theorem dL_runEnd_4 : decode cL_runEnd 4 = .ok (.invokevirtual 110, 3) := by decide +kernel
theorem dL_runEnd_7 : decode cL_runEnd 7 = .ok (.i2l, 1) := by decide +kernel
theorem dL_runEnd_8 : decode cL_runEnd 8 = .ok (.lastore, 1) := by decide +kernel
theorem dL_runEnd_9 : decode cL_runEnd 9 = .ok (.goto 6, 3) := by decide +kernel
theorem dL_runEnd_12 : decode cL_runEnd 12 = .ok (.astore_n 3, 1) := by decide +kernel
theorem dL_runEnd_13 : decode cL_runEnd 13 = .ok (.iconst 1, 1) := by decide +kernel
theorem dL_runEnd_14 : decode cL_runEnd 14 = .ok (.ireturn, 1) := by decide +kernel
theorem dL_runEnd_15 : decode cL_runEnd 15 = .ok (.iconst 0, 1) := by decide +kernel
theorem dL_runEnd_16 : decode cL_runEnd 16 = .ok (.ireturn, 1) := by decide +kernel
set_option maxRecDepth 20000 in
theorem ggL_runPeriod_X8_runPeriod : GoodIn wsL_runPeriod wsX8_runPeriod := goodIn_ca (goodIn_r _ [6, 7, 8, 9, 10, 5, 11, 12, 13, 14, 15, 16, 17, 18, 19, 20, 21, 22, 23, 24, 25, 26, 27, 28, 29, 30, 31, 32, 33, 34, 35, 36, 37, 38, 39, 40, 41, 42, 43, 44, 45, 46, 47, 48, 49, 50, 51, 52, 53, 54, 55, 56, 57, 58, 59, 60, 61, 62, 63, 64, 65, 66, 67, 68, 69, 70, 71, 72, 73, 74, 75, 76, 77, 78, 79, 80, 81] (by decide +kernel) (by decide +kernel)) (goodIn_sub (fun _ h => List.mem_cons_of_mem _ (List.mem_append_right _ h)) (by decide +kernel))
set_option maxRecDepth 20000 in
theorem gL_runPeriod_X8_runPeriod : GoodIn wsL_runPeriod (wsV RL 113 RX8 yX8_runPeriod wsX8_runPeriod) := goodIn_app (goodIn_of _ (by decide +kernel)) ggL_runPeriod_X8_runPeriod
theorem dL_runPeriod_0 : decode cL_runPeriod 0 = .ok (.aload_n 2, 1) := by decide +kernel
theorem dL_runPeriod_1 : decode cL_runPeriod 1 = .ok (.iconst 0, 1) := by decide +kernel
theorem dL_runPeriod_2 : decode cL_runPeriod 2 = .ok (.aload_n 0, 1) := by decide +kernel
theorem dL_runPeriod_3 : decode cL_runPeriod 3 = .ok (.iload_n 1, 1) := by decide +kernel
theorem dL_runPeriod_4 : decode cL_runPeriod 4 = .ok (.invokevirtual 113, 3) := by decide +kernel
theorem dL_runPeriod_7 : decode cL_runPeriod 7 = .ok (.i2l, 1) := by decide +kernel
theorem dL_runPeriod_8 : decode cL_runPeriod 8 = .ok (.lastore, 1) := by decide +kernel
theorem dL_runPeriod_9 : decode cL_runPeriod 9 = .ok (.goto 6, 3) := by decide +kernel
theorem dL_runPeriod_12 : decode cL_runPeriod 12 = .ok (.astore_n 3, 1) := by decide +kernel
theorem dL_runPeriod_13 : decode cL_runPeriod 13 = .ok (.iconst 1, 1) := by decide +kernel
theorem dL_runPeriod_14 : decode cL_runPeriod 14 = .ok (.ireturn, 1) := by decide +kernel
theorem dL_runPeriod_15 : decode cL_runPeriod 15 = .ok (.iconst 0, 1) := by decide +kernel
theorem dL_runPeriod_16 : decode cL_runPeriod 16 = .ok (.ireturn, 1) := by decide +kernel
set_option maxRecDepth 20000 in
theorem ggL_runsOver_X8_runsOver : GoodIn wsL_runsOver wsX8_runsOver := goodIn_ca (goodIn_r _ [6, 7, 8, 9, 10, 11, 12, 13, 14, 15, 16, 5, 17, 18, 19, 20, 21, 22, 23, 24, 25, 26, 27, 28, 29, 30, 31, 32, 33, 34, 35, 36, 37, 38, 39, 40, 41, 42, 43, 44, 45, 46, 47, 48, 49, 50, 51, 52, 53, 54, 55, 56, 57, 58, 59, 60, 61, 62, 63, 64, 65, 66, 67, 68, 69, 70, 71, 72, 73, 74, 75, 76, 77, 78, 79, 80, 81, 82] (by decide +kernel) (by decide +kernel)) (goodIn_sub (fun _ h => List.mem_cons_of_mem _ (List.mem_append_right _ h)) (by decide +kernel))
set_option maxRecDepth 20000 in
theorem gL_runsOver_X8_runsOver : GoodIn wsL_runsOver (wsV RL 116 RX8 yX8_runsOver wsX8_runsOver) := goodIn_app (goodIn_of _ (by decide +kernel)) ggL_runsOver_X8_runsOver
theorem dL_runsOver_0 : decode cL_runsOver 0 = .ok (.aload_n 2, 1) := by decide +kernel
theorem dL_runsOver_1 : decode cL_runsOver 1 = .ok (.iconst 0, 1) := by decide +kernel
theorem dL_runsOver_2 : decode cL_runsOver 2 = .ok (.aload_n 0, 1) := by decide +kernel
theorem dL_runsOver_3 : decode cL_runsOver 3 = .ok (.iload_n 1, 1) := by decide +kernel
theorem dL_runsOver_4 : decode cL_runsOver 4 = .ok (.invokevirtual 116, 3) := by decide +kernel
theorem dL_runsOver_7 : decode cL_runsOver 7 = .ok (.i2l, 1) := by decide +kernel
theorem dL_runsOver_8 : decode cL_runsOver 8 = .ok (.lastore, 1) := by decide +kernel
theorem dL_runsOver_9 : decode cL_runsOver 9 = .ok (.goto 6, 3) := by decide +kernel
theorem dL_runsOver_12 : decode cL_runsOver 12 = .ok (.astore_n 3, 1) := by decide +kernel
theorem dL_runsOver_13 : decode cL_runsOver 13 = .ok (.iconst 1, 1) := by decide +kernel
theorem dL_runsOver_14 : decode cL_runsOver 14 = .ok (.ireturn, 1) := by decide +kernel
theorem dL_runsOver_15 : decode cL_runsOver 15 = .ok (.iconst 0, 1) := by decide +kernel
theorem dL_runsOver_16 : decode cL_runsOver 16 = .ok (.ireturn, 1) := by decide +kernel
set_option maxRecDepth 20000 in
theorem ggL_suffixAt_X8_suffixAt : GoodIn wsL_suffixAt wsX8_suffixAt := goodIn_ca (goodIn_r _ [6, 7, 8, 9, 10, 11, 12, 13, 14, 15, 16, 5, 17, 18, 19, 20, 21, 22, 23, 24, 25, 26, 27, 28, 29, 30, 31, 32, 33, 34, 35, 36, 37, 38, 39, 40, 41, 42, 43, 44, 45, 46, 47, 48, 49, 50, 51, 52, 53, 54, 55, 56] (by decide +kernel) (by decide +kernel)) (goodIn_sub (fun _ h => List.mem_cons_of_mem _ (List.mem_append_right _ h)) (by decide +kernel))
set_option maxRecDepth 20000 in
theorem gL_suffixAt_X8_suffixAt : GoodIn wsL_suffixAt (wsV RL 119 RX8 yX8_suffixAt wsX8_suffixAt) := goodIn_app (goodIn_of _ (by decide +kernel)) ggL_suffixAt_X8_suffixAt
theorem dL_suffixAt_0 : decode cL_suffixAt 0 = .ok (.aload_n 2, 1) := by decide +kernel
theorem dL_suffixAt_1 : decode cL_suffixAt 1 = .ok (.iconst 0, 1) := by decide +kernel
theorem dL_suffixAt_2 : decode cL_suffixAt 2 = .ok (.aload_n 0, 1) := by decide +kernel
theorem dL_suffixAt_3 : decode cL_suffixAt 3 = .ok (.iload_n 1, 1) := by decide +kernel
theorem dL_suffixAt_4 : decode cL_suffixAt 4 = .ok (.invokevirtual 119, 3) := by decide +kernel
theorem dL_suffixAt_7 : decode cL_suffixAt 7 = .ok (.i2l, 1) := by decide +kernel
theorem dL_suffixAt_8 : decode cL_suffixAt 8 = .ok (.lastore, 1) := by decide +kernel
theorem dL_suffixAt_9 : decode cL_suffixAt 9 = .ok (.goto 6, 3) := by decide +kernel
theorem dL_suffixAt_12 : decode cL_suffixAt 12 = .ok (.astore_n 3, 1) := by decide +kernel
theorem dL_suffixAt_13 : decode cL_suffixAt 13 = .ok (.iconst 1, 1) := by decide +kernel
theorem dL_suffixAt_14 : decode cL_suffixAt 14 = .ok (.ireturn, 1) := by decide +kernel
theorem dL_suffixAt_15 : decode cL_suffixAt 15 = .ok (.iconst 0, 1) := by decide +kernel
theorem dL_suffixAt_16 : decode cL_suffixAt 16 = .ok (.ireturn, 1) := by decide +kernel
set_option maxRecDepth 20000 in
theorem ggL_rankOf_X8_rankOf : GoodIn wsL_rankOf wsX8_rankOf := goodIn_ca (goodIn_r _ [6, 7, 8, 9, 10, 11, 12, 13, 14, 15, 16, 5, 17, 18, 19, 20, 21, 22, 23, 24, 25, 26, 27, 28, 29, 30, 31, 32, 33, 34, 35, 36, 37, 38, 39, 40, 41, 42, 43, 44, 45, 46, 47, 48, 49, 50, 51, 52, 53, 54, 55, 56] (by decide +kernel) (by decide +kernel)) (goodIn_sub (fun _ h => List.mem_cons_of_mem _ (List.mem_append_right _ h)) (by decide +kernel))
set_option maxRecDepth 20000 in
theorem gL_rankOf_X8_rankOf : GoodIn wsL_rankOf (wsV RL 122 RX8 yX8_rankOf wsX8_rankOf) := goodIn_app (goodIn_of _ (by decide +kernel)) ggL_rankOf_X8_rankOf
theorem dL_rankOf_0 : decode cL_rankOf 0 = .ok (.aload_n 2, 1) := by decide +kernel
theorem dL_rankOf_1 : decode cL_rankOf 1 = .ok (.iconst 0, 1) := by decide +kernel
theorem dL_rankOf_2 : decode cL_rankOf 2 = .ok (.aload_n 0, 1) := by decide +kernel
theorem dL_rankOf_3 : decode cL_rankOf 3 = .ok (.iload_n 1, 1) := by decide +kernel
theorem dL_rankOf_4 : decode cL_rankOf 4 = .ok (.invokevirtual 122, 3) := by decide +kernel
theorem dL_rankOf_7 : decode cL_rankOf 7 = .ok (.i2l, 1) := by decide +kernel
theorem dL_rankOf_8 : decode cL_rankOf 8 = .ok (.lastore, 1) := by decide +kernel
theorem dL_rankOf_9 : decode cL_rankOf 9 = .ok (.goto 6, 3) := by decide +kernel
theorem dL_rankOf_12 : decode cL_rankOf 12 = .ok (.astore_n 3, 1) := by decide +kernel
theorem dL_rankOf_13 : decode cL_rankOf 13 = .ok (.iconst 1, 1) := by decide +kernel
theorem dL_rankOf_14 : decode cL_rankOf 14 = .ok (.ireturn, 1) := by decide +kernel
theorem dL_rankOf_15 : decode cL_rankOf 15 = .ok (.iconst 0, 1) := by decide +kernel
theorem dL_rankOf_16 : decode cL_rankOf 16 = .ok (.ireturn, 1) := by decide +kernel
set_option maxRecDepth 20000 in
theorem ggL_necklaces_X8_necklaces : GoodIn wsL_necklaces wsX8_necklaces := goodIn_ca (goodIn_r _ [6, 7, 8, 5, 9, 10, 11, 12, 13, 14, 15, 16, 17, 18, 19, 20, 21, 22, 23, 24] (by decide +kernel) (by decide +kernel)) (goodIn_sub (fun _ h => List.mem_cons_of_mem _ (List.mem_append_right _ h)) (by decide +kernel))
set_option maxRecDepth 20000 in
theorem gL_necklaces_X8_necklaces : GoodIn wsL_necklaces (wsV RL 125 RX8 yX8_necklaces wsX8_necklaces) := goodIn_app (goodIn_of _ (by decide +kernel)) ggL_necklaces_X8_necklaces
theorem dL_necklaces_0 : decode cL_necklaces 0 = .ok (.aload_n 3, 1) := by decide +kernel
theorem dL_necklaces_1 : decode cL_necklaces 1 = .ok (.iconst 0, 1) := by decide +kernel
theorem dL_necklaces_2 : decode cL_necklaces 2 = .ok (.aload_n 0, 1) := by decide +kernel
theorem dL_necklaces_3 : decode cL_necklaces 3 = .ok (.iload_n 1, 1) := by decide +kernel
theorem dL_necklaces_4 : decode cL_necklaces 4 = .ok (.iload_n 2, 1) := by decide +kernel
theorem dL_necklaces_5 : decode cL_necklaces 5 = .ok (.invokevirtual 125, 3) := by decide +kernel
theorem dL_necklaces_8 : decode cL_necklaces 8 = .ok (.lastore, 1) := by decide +kernel
theorem dL_necklaces_9 : decode cL_necklaces 9 = .ok (.goto 7, 3) := by decide +kernel
theorem dL_necklaces_12 : decode cL_necklaces 12 = .ok (.astore 4, 2) := by decide +kernel
theorem dL_necklaces_14 : decode cL_necklaces 14 = .ok (.iconst 1, 1) := by decide +kernel
theorem dL_necklaces_15 : decode cL_necklaces 15 = .ok (.ireturn, 1) := by decide +kernel
theorem dL_necklaces_16 : decode cL_necklaces 16 = .ok (.iconst 0, 1) := by decide +kernel
theorem dL_necklaces_17 : decode cL_necklaces 17 = .ok (.ireturn, 1) := by decide +kernel
set_option maxRecDepth 20000 in
theorem ggL_lyndonWords_X8_lyndonWords : GoodIn wsL_lyndonWords wsX8_lyndonWords := goodIn_ca (goodIn_r _ [6, 7, 8, 5, 9, 10, 11, 12, 13, 14, 15, 16, 17, 18, 19, 20, 21] (by decide +kernel) (by decide +kernel)) (goodIn_sub (fun _ h => List.mem_cons_of_mem _ (List.mem_append_right _ h)) (by decide +kernel))
set_option maxRecDepth 20000 in
theorem gL_lyndonWords_X8_lyndonWords : GoodIn wsL_lyndonWords (wsV RL 129 RX8 yX8_lyndonWords wsX8_lyndonWords) := goodIn_app (goodIn_of _ (by decide +kernel)) ggL_lyndonWords_X8_lyndonWords
theorem dL_lyndonWords_0 : decode cL_lyndonWords 0 = .ok (.aload_n 3, 1) := by decide +kernel
theorem dL_lyndonWords_1 : decode cL_lyndonWords 1 = .ok (.iconst 0, 1) := by decide +kernel
theorem dL_lyndonWords_2 : decode cL_lyndonWords 2 = .ok (.aload_n 0, 1) := by decide +kernel
theorem dL_lyndonWords_3 : decode cL_lyndonWords 3 = .ok (.iload_n 1, 1) := by decide +kernel
theorem dL_lyndonWords_4 : decode cL_lyndonWords 4 = .ok (.iload_n 2, 1) := by decide +kernel
theorem dL_lyndonWords_5 : decode cL_lyndonWords 5 = .ok (.invokevirtual 129, 3) := by decide +kernel
theorem dL_lyndonWords_8 : decode cL_lyndonWords 8 = .ok (.lastore, 1) := by decide +kernel
theorem dL_lyndonWords_9 : decode cL_lyndonWords 9 = .ok (.goto 7, 3) := by decide +kernel
theorem dL_lyndonWords_12 : decode cL_lyndonWords 12 = .ok (.astore 4, 2) := by decide +kernel
theorem dL_lyndonWords_14 : decode cL_lyndonWords 14 = .ok (.iconst 1, 1) := by decide +kernel
theorem dL_lyndonWords_15 : decode cL_lyndonWords 15 = .ok (.ireturn, 1) := by decide +kernel
theorem dL_lyndonWords_16 : decode cL_lyndonWords 16 = .ok (.iconst 0, 1) := by decide +kernel
theorem dL_lyndonWords_17 : decode cL_lyndonWords 17 = .ok (.ireturn, 1) := by decide +kernel
set_option maxRecDepth 20000 in
theorem ggL_necklaceNumber_X8_necklaceNumber : GoodIn wsL_necklaceNumber wsX8_necklaceNumber := goodIn_ca (goodIn_ca (goodIn_ca (goodIn_r _ [8, 9, 10, 11, 12, 13, 14, 15, 7, 16, 17, 18, 19, 20, 21, 22, 23, 24, 25, 26, 27, 28, 29, 30, 31, 32, 33, 34, 35, 36, 37, 38, 39, 40, 41, 42, 43, 44, 45, 46, 47, 48, 49, 50, 51, 52, 53, 54, 55, 56, 57, 58, 59, 60, 61, 62, 63, 64, 65, 66, 67, 68, 69, 70, 71, 72, 73, 74, 75, 76, 77, 78, 79, 80, 81, 82, 83, 84, 85, 86, 87, 88, 89, 90, 91, 92, 93, 94, 95, 96, 97] (by decide +kernel) (by decide +kernel)) (goodIn_sub (fun _ h => List.mem_cons_of_mem _ (List.mem_append_left _ (List.mem_append_left _ (List.mem_append_right _ h)))) (by decide +kernel))) (goodIn_sub (fun _ h => List.mem_cons_of_mem _ (List.mem_append_left _ (List.mem_append_right _ h))) (by decide +kernel))) (goodIn_sub (fun _ h => List.mem_cons_of_mem _ (List.mem_append_right _ h)) (by decide +kernel))
set_option maxRecDepth 20000 in
theorem gL_necklaceNumber_X8_necklaceNumber : GoodIn wsL_necklaceNumber (wsV RL 132 RX8 yX8_necklaceNumber wsX8_necklaceNumber) := goodIn_app (goodIn_of _ (by decide +kernel)) ggL_necklaceNumber_X8_necklaceNumber
theorem dL_necklaceNumber_0 : decode cL_necklaceNumber 0 = .ok (.aload 4, 2) := by decide +kernel
theorem dL_necklaceNumber_2 : decode cL_necklaceNumber 2 = .ok (.iconst 0, 1) := by decide +kernel
theorem dL_necklaceNumber_3 : decode cL_necklaceNumber 3 = .ok (.aload_n 0, 1) := by decide +kernel
theorem dL_necklaceNumber_4 : decode cL_necklaceNumber 4 = .ok (.iload_n 1, 1) := by decide +kernel
theorem dL_necklaceNumber_5 : decode cL_necklaceNumber 5 = .ok (.iload_n 2, 1) := by decide +kernel
theorem dL_necklaceNumber_6 : decode cL_necklaceNumber 6 = .ok (.iload_n 3, 1) := by decide +kernel
theorem dL_necklaceNumber_7 : decode cL_necklaceNumber 7 = .ok (.invokevirtual 132, 3) := by decide +kernel
theorem dL_necklaceNumber_10 : decode cL_necklaceNumber 10 = .ok (.i2l, 1) := by decide +kernel
theorem dL_necklaceNumber_11 : decode cL_necklaceNumber 11 = .ok (.lastore, 1) := by decide +kernel
theorem dL_necklaceNumber_12 : decode cL_necklaceNumber 12 = .ok (.goto 15, 3) := by decide +kernel
theorem dL_necklaceNumber_15 : decode cL_necklaceNumber 15 = .ok (.astore 5, 2) := by decide +kernel
theorem dL_necklaceNumber_17 : decode cL_necklaceNumber 17 = .ok (.iconst 1, 1) := by decide +kernel
theorem dL_necklaceNumber_18 : decode cL_necklaceNumber 18 = .ok (.ireturn, 1) := by decide +kernel
theorem dL_necklaceNumber_19 : decode cL_necklaceNumber 19 = .ok (.astore 5, 2) := by decide +kernel
theorem dL_necklaceNumber_21 : decode cL_necklaceNumber 21 = .ok (.iconst 2, 1) := by decide +kernel
theorem dL_necklaceNumber_22 : decode cL_necklaceNumber 22 = .ok (.ireturn, 1) := by decide +kernel
theorem dL_necklaceNumber_23 : decode cL_necklaceNumber 23 = .ok (.astore 5, 2) := by decide +kernel
theorem dL_necklaceNumber_25 : decode cL_necklaceNumber 25 = .ok (.iconst 3, 1) := by decide +kernel
theorem dL_necklaceNumber_26 : decode cL_necklaceNumber 26 = .ok (.ireturn, 1) := by decide +kernel
theorem dL_necklaceNumber_27 : decode cL_necklaceNumber 27 = .ok (.iconst 0, 1) := by decide +kernel
theorem dL_necklaceNumber_28 : decode cL_necklaceNumber 28 = .ok (.ireturn, 1) := by decide +kernel
