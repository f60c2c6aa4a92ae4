theorem dL_rotate_2 : decode cL_rotate 2 = .ok (.invokevirtual 31, 3) := by decide +kernel
theorem dL_rotate_5 : decode cL_rotate 5 = .ok (.ireturn, 1) := by decide +kernel
theorem dL_rotate_6 : decode cL_rotate 6 = .ok (.astore_n 2, 1) := by decide +kernel
theorem dL_rotate_7 : decode cL_rotate 7 = .ok (.ldc 16, 2) := by decide +kernel
theorem dL_rotate_9 : decode cL_rotate 9 = .ok (.ireturn, 1) := by decide +kernel
theorem dL_rotate_10 : decode cL_rotate 10 = .ok (.astore_n 2, 1) := by decide +kernel
theorem dL_rotate_11 : decode cL_rotate 11 = .ok (.ldc 16, 2) := by decide +kernel
theorem dL_rotate_13 : decode cL_rotate 13 = .ok (.ireturn, 1) := by decide +kernel
set_option maxRecDepth 20000 in
theorem ggL_copy_X8_appendPart : GoodIn wsL_copy wsX8_appendPart := goodIn_ca (goodIn_ca (goodIn_r _ [8, 9, 10, 11, 12, 7, 13, 14, 15, 16, 17, 18, 19, 20, 21, 22, 23, 24, 25, 26, 27, 28, 29, 30, 31, 32, 33, 34, 35, 36, 37, 38, 39, 40, 41, 42, 43, 44, 45, 46, 47, 48, 49, 50, 51, 52] (by decide +kernel) (by decide +kernel)) (goodIn_sub (fun _ h => List.mem_cons_of_mem _ (List.mem_append_left _ (List.mem_append_right _ h))) (by decide +kernel))) (goodIn_sub (fun _ h => List.mem_cons_of_mem _ (List.mem_append_right _ h)) (by decide +kernel))
set_option maxRecDepth 20000 in
theorem gL_copy_X8_appendPart : GoodIn wsL_copy (wsV RL 34 RX8 yX8_appendPart wsX8_appendPart) := goodIn_app (goodIn_of _ (by decide +kernel)) ggL_copy_X8_appendPart
theorem dL_copy_0 : decode cL_copy 0 = .ok (.aload_n 0, 1) := by decide +kernel
theorem dL_copy_1 : decode cL_copy 1 = .ok (.iload_n 1, 1) := by decide +kernel
theorem dL_copy_2 : decode cL_copy 2 = .ok (.iload_n 2, 1) := by decide +kernel
theorem dL_copy_3 : decode cL_copy 3 = .ok (.invokevirtual 34, 3) := by decide +kernel
theorem dL_copy_6 : decode cL_copy 6 = .ok (.ireturn, 1) := by decide +kernel
theorem dL_copy_7 : decode cL_copy 7 = .ok (.astore_n 3, 1) := by decide +kernel
theorem dL_copy_8 : decode cL_copy 8 = .ok (.ldc 16, 2) := by decide +kernel
theorem dL_copy_10 : decode cL_copy 10 = .ok (.ireturn, 1) := by decide +kernel
theorem dL_copy_11 : decode cL_copy 11 = .ok (.astore_n 3, 1) := by decide +kernel
theorem dL_copy_12 : decode cL_copy 12 = .ok (.ldc 16, 2) := by decide +kernel
theorem dL_copy_14 : decode cL_copy 14 = .ok (.ireturn, 1) := by decide +kernel
set_option maxRecDepth 20000 in
theorem ggL_deBruijn_X8_loadDeBruijn : GoodIn wsL_deBruijn wsX8_loadDeBruijn := goodIn_ca (goodIn_r _ [7, 8, 9, 10, 11, 12, 13, 14, 6, 15, 16, 17, 18, 19, 20, 21, 22, 23, 24, 25, 26, 27, 28, 29, 30, 31, 32, 33, 34, 35, 36, 37, 38, 39, 40, 41, 42, 43, 44, 45, 46, 47, 48, 49, 50, 51, 52, 53, 54, 55, 56, 57, 58, 59, 60, 61, 62, 63, 64, 65, 66, 67, 68, 69, 70, 71, 72, 73, 74, 75, 76, 77, 78, 79, 80, 81, 82, 83, 84, 85, 86, 87] (by decide +kernel) (by decide +kernel)) (goodIn_sub (fun _ h => List.mem_cons_of_mem _ (List.mem_append_right _ h)) (by decide +kernel))
set_option maxRecDepth 20000 in
theorem gL_deBruijn_X8_loadDeBruijn : GoodIn wsL_deBruijn (wsV RL 37 RX8 yX8_loadDeBruijn wsX8_loadDeBruijn) := goodIn_app (goodIn_of _ (by decide +kernel)) ggL_deBruijn_X8_loadDeBruijn
theorem dL_deBruijn_0 : decode cL_deBruijn 0 = .ok (.aload_n 0, 1) := by decide +kernel
theorem dL_deBruijn_1 : decode cL_deBruijn 1 = .ok (.iload_n 1, 1) := by decide +kernel
theorem dL_deBruijn_2 : decode cL_deBruijn 2 = .ok (.iload_n 2, 1) := by decide +kernel
theorem dL_deBruijn_3 : decode cL_deBruijn 3 = .ok (.invokevirtual 37, 3) := by decide +kernel
theorem dL_deBruijn_6 : decode cL_deBruijn 6 = .ok (.ireturn, 1) := by decide +kernel
theorem dL_deBruijn_7 : decode cL_deBruijn 7 = .ok (.astore_n 3, 1) := by decide +kernel
theorem dL_deBruijn_8 : decode cL_deBruijn 8 = .ok (.ldc 16, 2) := by decide +kernel
theorem dL_deBruijn_10 : decode cL_deBruijn 10 = .ok (.ireturn, 1) := by decide +kernel
set_option maxRecDepth 20000 in
theorem ggL_necklace_X8_loadNecklace : GoodIn wsL_necklace wsX8_loadNecklace := goodIn_ca (goodIn_r _ [7, 8, 9, 10, 11, 12, 13, 6, 14, 15, 16, 17, 18, 19, 20, 21, 22, 23, 24, 25, 26, 27, 28, 29, 30, 31, 32, 33, 34, 35, 36, 37, 38, 39, 40, 41, 42, 43, 44, 45, 46, 47, 48, 49, 50, 51, 52, 53, 54, 55, 56, 57, 58, 59, 60, 61, 62, 63, 64, 65, 66, 67, 68, 69, 70, 71, 72, 73, 74, 75, 76, 77, 78, 79, 80, 81, 82, 83, 84, 85, 86, 87, 88, 89, 90, 91] (by decide +kernel) (by decide +kernel)) (goodIn_sub (fun _ h => List.mem_cons_of_mem _ (List.mem_append_right _ h)) (by decide +kernel))
set_option maxRecDepth 20000 in
theorem gL_necklace_X8_loadNecklace : GoodIn wsL_necklace (wsV RL 40 RX8 yX8_loadNecklace wsX8_loadNecklace) := goodIn_app (goodIn_of _ (by decide +kernel)) ggL_necklace_X8_loadNecklace
theorem dL_necklace_0 : decode cL_necklace 0 = .ok (.aload_n 0, 1) := by decide +kernel
theorem dL_necklace_1 : decode cL_necklace 1 = .ok (.iload_n 1, 1) := by decide +kernel
theorem dL_necklace_2 : decode cL_necklace 2 = .ok (.iload_n 2, 1) := by decide +kernel
theorem dL_necklace_3 : decode cL_necklace 3 = .ok (.iload_n 3, 1) := by decide +kernel
theorem dL_necklace_4 : decode cL_necklace 4 = .ok (.invokevirtual 40, 3) := by decide +kernel
theorem dL_necklace_7 : decode cL_necklace 7 = .ok (.ireturn, 1) := by decide +kernel
theorem dL_necklace_8 : decode cL_necklace 8 = .ok (.astore 4, 2) := by decide +kernel
theorem dL_necklace_10 : decode cL_necklace 10 = .ok (.ldc 16, 2) := by decide +kernel
theorem dL_necklace_12 : decode cL_necklace 12 = .ok (.ireturn, 1) := by decide +kernel
set_option maxRecDepth 20000 in
theorem ggL_act_L_low : GoodIn wsL_act wsL_low := goodIn_r _ [4, 5] (by decide +kernel) (by decide +kernel)
set_option maxRecDepth 20000 in
theorem gL_act_L_low : GoodIn wsL_act (va_wsS RL 44 yL_low wsL_low) := goodIn_app (goodIn_of _ (by decide +kernel)) ggL_act_L_low
set_option maxRecDepth 20000 in
theorem ggL_act_X8_length : GoodIn wsL_act wsX8_length := goodIn_r _ [10, 11, 12, 13, 14, 15, 16, 17, 189, 190, 191, 192, 193, 194, 195, 196] (by decide +kernel) (by decide +kernel)
set_option maxRecDepth 20000 in
theorem gL_act_X8_length : GoodIn wsL_act (wsV RL 49 RX8 yX8_length wsX8_length) := goodIn_app (goodIn_of _ (by decide +kernel)) ggL_act_X8_length
set_option maxRecDepth 20000 in
theorem ggL_act_L_insert : GoodIn wsL_act wsL_insert := goodIn_ca (goodIn_ca (goodIn_ca (goodIn_r _ [20, 21, 22, 23, 24, 25, 26, 27, 9, 28, 11, 12, 13, 14, 15, 16, 17, 29, 30, 31, 32, 33, 34, 35, 36, 37, 38, 39, 40, 41, 42, 43, 44, 45, 46, 47, 48, 49, 50, 51, 52, 53, 189, 190, 191, 192, 193, 194, 195, 196] (by decide +kernel) (by decide +kernel)) (goodIn_sub (fun _ h => List.mem_cons_of_mem _ (List.mem_append_left _ (List.mem_append_left _ (List.mem_append_right _ h)))) (by decide +kernel))) (goodIn_sub (fun _ h => List.mem_cons_of_mem _ (List.mem_append_left _ (List.mem_append_right _ h))) (by decide +kernel))) (goodIn_sub (fun _ h => List.mem_cons_of_mem _ (List.mem_append_right _ h)) (by decide +kernel))
set_option maxRecDepth 20000 in
theorem gL_act_L_insert : GoodIn wsL_act (va_wsS RL 53 yL_insert wsL_insert) := goodIn_app (goodIn_of _ (by decide +kernel)) ggL_act_L_insert
set_option maxRecDepth 20000 in
theorem ggL_act_L_set : GoodIn wsL_act wsL_set := goodIn_ca (goodIn_ca (goodIn_r _ [56, 21, 22, 24, 57, 58, 59, 9, 60, 11, 12, 13, 14, 15, 16, 17, 29, 30, 31, 32, 33, 34, 35, 36, 37, 38, 61, 62, 63, 64, 49, 50, 51, 65, 66, 67, 68, 52, 53, 189, 190, 191, 192, 193, 194, 195, 196] (by decide +kernel) (by decide +kernel)) (goodIn_sub (fun _ h => List.mem_cons_of_mem _ (List.mem_append_left _ (List.mem_append_left _ (List.mem_append_right _ h)))) (by decide +kernel))) (goodIn_sub (fun _ h => List.mem_cons_of_mem _ (List.mem_append_left _ (List.mem_append_right _ h))) (by decide +kernel))
set_option maxRecDepth 20000 in
theorem gL_act_L_set : GoodIn wsL_act (va_wsS RL 56 yL_set wsL_set) := goodIn_app (goodIn_of _ (by decide +kernel)) ggL_act_L_set
set_option maxRecDepth 20000 in
theorem ggL_act_L_remove : GoodIn wsL_act wsL_remove := goodIn_ca (goodIn_r _ [71, 21, 24, 72, 73, 74, 9, 75, 11, 12, 13, 14, 15, 16, 17, 29, 30, 31, 32, 33, 76, 77, 78, 79, 49, 50, 51, 52, 53, 189, 190, 191, 192, 193, 194, 195, 196] (by decide +kernel) (by decide +kernel)) (goodIn_sub (fun _ h => List.mem_cons_of_mem _ (List.mem_append_left _ (List.mem_append_left _ (List.mem_append_right _ h)))) (by decide +kernel))
set_option maxRecDepth 20000 in
theorem gL_act_L_remove : GoodIn wsL_act (va_wsS RL 58 yL_remove wsL_remove) := goodIn_app (goodIn_of _ (by decide +kernel)) ggL_act_L_remove
set_option maxRecDepth 20000 in
theorem ggL_act_L_rotate : GoodIn wsL_act wsL_rotate := goodIn_ca (goodIn_ca (goodIn_r _ [82, 22, 23, 24, 83, 84, 85, 9, 86, 43, 44, 11, 34, 35, 36, 37, 38, 12, 13, 14, 15, 16, 17, 87, 88, 89, 90, 49, 50, 51, 52, 53, 61, 62, 63, 64, 189, 190, 191, 192, 193, 194, 195, 196] (by decide +kernel) (by decide +kernel)) (goodIn_sub (fun _ h => List.mem_cons_of_mem _ (List.mem_append_right _ h)) (by decide +kernel))) (goodIn_sub (fun _ h => List.mem_cons_of_mem _ (List.mem_append_left _ (List.mem_append_right _ h))) (by decide +kernel))
set_option maxRecDepth 20000 in
theorem gL_act_L_rotate : GoodIn wsL_act (va_wsS RL 61 yL_rotate wsL_rotate) := goodIn_app (goodIn_of _ (by decide +kernel)) ggL_act_L_rotate
set_option maxRecDepth 20000 in
theorem ggL_act_L_copy : GoodIn wsL_act wsL_copy := goodIn_ca (goodIn_ca (goodIn_r _ [93, 21, 23, 24, 94, 95, 96, 9, 97, 11, 98, 99, 100, 101, 32, 33, 12, 13, 14, 15, 16, 17, 39, 40, 41, 42, 43, 44, 61, 62, 63, 64, 49, 50, 51, 102, 103, 104, 105, 106, 46, 47, 48, 52, 53, 189, 190, 191, 192, 193, 194, 195, 196] (by decide +kernel) (by decide +kernel)) (goodIn_sub (fun _ h => List.mem_cons_of_mem _ (List.mem_append_left _ (List.mem_append_left _ (List.mem_append_right _ h)))) (by decide +kernel))) (goodIn_sub (fun _ h => List.mem_cons_of_mem _ (List.mem_append_right _ h)) (by decide +kernel))
set_option maxRecDepth 20000 in
theorem gL_act_L_copy : GoodIn wsL_act (va_wsS RL 63 yL_copy wsL_copy) := goodIn_app (goodIn_of _ (by decide +kernel)) ggL_act_L_copy
set_option maxRecDepth 20000 in
theorem ggL_act_X8_clear : GoodIn wsL_act wsX8_clear := goodIn_r _ [110, 11, 12, 13, 14, 15, 16, 17, 111, 112, 113, 114, 189, 190, 191, 192, 193, 194, 195, 196] (by decide +kernel) (by decide +kernel)
set_option maxRecDepth 20000 in
theorem gL_act_X8_clear : GoodIn wsL_act (wsV RL 66 RX8 yX8_clear wsX8_clear) := goodIn_app (goodIn_of _ (by decide +kernel)) ggL_act_X8_clear
set_option maxRecDepth 20000 in
theorem ggL_act_X8_reverse : GoodIn wsL_act wsX8_reverse := goodIn_r _ [118, 11, 12, 13, 14, 15, 16, 17, 87, 88, 89, 90, 49, 50, 9, 51, 52, 53, 189, 190, 191, 192, 193, 194, 195, 196] (by decide +kernel) (by decide +kernel)
set_option maxRecDepth 20000 in
theorem gL_act_X8_reverse : GoodIn wsL_act (wsV RL 69 RX8 yX8_reverse wsX8_reverse) := goodIn_app (goodIn_of _ (by decide +kernel)) ggL_act_X8_reverse
set_option maxRecDepth 20000 in
theorem ggL_act_L_deBruijn : GoodIn wsL_act wsL_deBruijn := goodIn_ca (goodIn_r _ [121, 22, 24, 122, 123, 124, 9, 125, 37, 38, 126, 11, 127, 34, 35, 36, 128, 129, 130, 131, 111, 112, 113, 15, 114, 17, 132, 133, 134, 135, 136, 137, 138, 139, 140, 141, 142, 143, 144, 145, 146, 147, 148, 149, 150, 151, 152, 102, 103, 104, 105, 106, 46, 47, 48, 49, 50, 51, 52, 53, 153, 154, 155, 156, 157, 158, 159, 160, 161, 162, 163, 164, 12, 13, 14, 16, 189, 190, 191, 192, 193, 194, 195, 196, 197, 198, 199, 200] (by decide +kernel) (by decide +kernel)) (goodIn_sub (fun _ h => List.mem_cons_of_mem _ (List.mem_append_left _ (List.mem_append_right _ h))) (by decide +kernel))
set_option maxRecDepth 20000 in
theorem gL_act_L_deBruijn : GoodIn wsL_act (va_wsS RL 72 yL_deBruijn wsL_deBruijn) := goodIn_app (goodIn_of _ (by decide +kernel)) ggL_act_L_deBruijn
set_option maxRecDepth 20000 in
theorem ggL_act_L_necklace : GoodIn wsL_act wsL_necklace := goodIn_ca (goodIn_r _ [167, 22, 24, 168, 169, 170, 9, 171, 37, 38, 127, 11, 34, 35, 36, 172, 173, 130, 174, 175, 176, 177, 178, 179, 180, 181, 129, 131, 132, 133, 134, 135, 136, 137, 138, 139, 140, 153, 154, 155, 156, 157, 158, 159, 160, 161, 162, 163, 164, 111, 112, 113, 15, 114, 17, 145, 146, 147, 148, 149, 150, 151, 152, 102, 103, 104, 105, 106, 46, 47, 48, 49, 50, 51, 52, 53, 141, 142, 143, 144, 189, 190, 191, 192, 193, 194, 197, 198, 199, 200, 195, 196] (by decide +kernel) (by decide +kernel)) (goodIn_sub (fun _ h => List.mem_cons_of_mem _ (List.mem_append_left _ (List.mem_append_right _ h))) (by decide +kernel))
set_option maxRecDepth 20000 in
theorem gL_act_L_necklace : GoodIn wsL_act (va_wsS RL 75 yL_necklace wsL_necklace) := goodIn_app (goodIn_of _ (by decide +kernel)) ggL_act_L_necklace
set_option maxRecDepth 20000 in
theorem ggL_act_L_append : GoodIn wsL_act wsL_append := goodIn_ca (goodIn_ca (goodIn_r _ [184, 22, 23, 24, 185, 186, 187, 9, 188, 11, 34, 35, 36, 37, 38, 39, 40, 41, 42, 43, 44, 12, 13, 14, 15, 16, 17, 102, 103, 104, 105, 106, 46, 47, 48, 49, 50, 51, 52, 53, 189, 190, 191, 192, 193, 194, 195, 196] (by decide +kernel) (by decide +kernel)) (goodIn_sub (fun _ h => List.mem_cons_of_mem _ (List.mem_append_left _ (List.mem_append_right _ h))) (by decide +kernel))) (goodIn_sub (fun _ h => List.mem_cons_of_mem _ (List.mem_append_right _ h)) (by decide +kernel))
set_option maxRecDepth 20000 in
theorem gL_act_L_append : GoodIn wsL_act (va_wsS RL 79 yL_append wsL_append) := goodIn_app (goodIn_of _ (by decide +kernel)) ggL_act_L_append
theorem dL_act_0 : decode cL_act 0 = .ok (.iload_n 1, 1) := by decide +kernel
theorem dL_act_1 : decode cL_act 1 = .ok (.bipush 22, 2) := by decide +kernel
theorem dL_act_3 : decode cL_act 3 = .ok (.ishr, 1) := by decide +kernel
theorem dL_act_4 : decode cL_act 4 = .ok (.bipush 8, 2) := by decide +kernel
theorem dL_act_6 : decode cL_act 6 = .ok (.invokestatic 44, 3) := by decide +kernel
theorem dL_act_9 : decode cL_act 9 = .ok (.ifCond .ne 7, 3) := by decide +kernel
theorem dL_act_12 : decode cL_act 12 = .ok (.iconst 1, 1) := by decide +kernel
theorem dL_act_13 : decode cL_act 13 = .ok (.goto 4, 3) := by decide +kernel
theorem dL_act_16 : decode cL_act 16 = .ok (.iconst 0, 1) := by decide +kernel
theorem dL_act_17 : decode cL_act 17 = .ok (.istore_n 2, 1) := by decide +kernel
theorem dL_act_18 : decode cL_act 18 = .ok (.aload_n 0, 1) := by decide +kernel
theorem dL_act_19 : decode cL_act 19 = .ok (.invokevirtual 49, 3) := by decide +kernel
theorem dL_act_22 : decode cL_act 22 = .ok (.iload_n 2, 1) := by decide +kernel
theorem dL_act_23 : decode cL_act 23 = .ok (.ifCond .eq 7, 3) := by decide +kernel
theorem dL_act_26 : decode cL_act 26 = .ok (.iconst 1, 1) := by decide +kernel
theorem dL_act_27 : decode cL_act 27 = .ok (.goto 4, 3) := by decide +kernel
theorem dL_act_30 : decode cL_act 30 = .ok (.iconst 0, 1) := by decide +kernel
theorem dL_act_31 : decode cL_act 31 = .ok (.iadd, 1) := by decide +kernel
theorem dL_act_32 : decode cL_act 32 = .ok (.istore_n 3, 1) := by decide +kernel
theorem dL_act_33 : decode cL_act 33 = .ok (.iload_n 1, 1) := by decide +kernel
theorem dL_act_34 : decode cL_act 34 = .ok (.iconst 5, 1) := by decide +kernel
theorem dL_act_35 : decode cL_act 35 = .ok (.ishr, 1) := by decide +kernel
theorem dL_act_36 : decode cL_act 36 = .ok (.iload_n 2, 1) := by decide +kernel
theorem dL_act_37 : decode cL_act 37 = .ok (.ifCond .eq 8, 3) := by decide +kernel
theorem dL_act_40 : decode cL_act 40 = .ok (.bipush 28, 2) := by decide +kernel
theorem dL_act_42 : decode cL_act 42 = .ok (.goto 13, 3) := by decide +kernel
theorem dL_act_45 : decode cL_act 45 = .ok (.iconst 1, 1) := by decide +kernel
theorem dL_act_46 : decode cL_act 46 = .ok (.iload_n 1, 1) := by decide +kernel
theorem dL_act_47 : decode cL_act 47 = .ok (.bipush 26, 2) := by decide +kernel
theorem dL_act_49 : decode cL_act 49 = .ok (.ishr, 1) := by decide +kernel
theorem dL_act_50 : decode cL_act 50 = .ok (.iconst 3, 1) := by decide +kernel
theorem dL_act_51 : decode cL_act 51 = .ok (.invokestatic 44, 3) := by decide +kernel
theorem dL_act_54 : decode cL_act 54 = .ok (.iadd, 1) := by decide +kernel
theorem dL_act_55 : decode cL_act 55 = .ok (.invokestatic 44, 3) := by decide +kernel
theorem dL_act_58 : decode cL_act 58 = .ok (.istore 4, 2) := by decide +kernel
theorem dL_act_60 : decode cL_act 60 = .ok (.iload_n 3, 1) := by decide +kernel
theorem dL_act_61 : decode cL_act 61 = .ok (.ifCond .ne 7, 3) := by decide +kernel
theorem dL_act_64 : decode cL_act 64 = .ok (.iconst 0, 1) := by decide +kernel
theorem dL_act_65 : decode cL_act 65 = .ok (.goto 11, 3) := by decide +kernel
theorem dL_act_68 : decode cL_act 68 = .ok (.iload_n 1, 1) := by decide +kernel
theorem dL_act_69 : decode cL_act 69 = .ok (.bipush 8, 2) := by decide +kernel
theorem dL_act_71 : decode cL_act 71 = .ok (.ishr, 1) := by decide +kernel
theorem dL_act_72 : decode cL_act 72 = .ok (.iload_n 3, 1) := by decide +kernel
theorem dL_act_73 : decode cL_act 73 = .ok (.invokestatic 44, 3) := by decide +kernel
theorem dL_act_76 : decode cL_act 76 = .ok (.istore 5, 2) := by decide +kernel
theorem dL_act_78 : decode cL_act 78 = .ok (.iload_n 1, 1) := by decide +kernel
theorem dL_act_79 : decode cL_act 79 = .ok (.bipush 16, 2) := by decide +kernel
theorem dL_act_81 : decode cL_act 81 = .ok (.invokestatic 44, 3) := by decide +kernel
theorem dL_act_84 : decode cL_act 84 = .ok (.tableswitch 216 0 7 #[48, 57, 66, 73, 96, 96, 117, 139], 48) := by decide +kernel
theorem dL_act_132 : decode cL_act 132 = .ok (.aload_n 0, 1) := by decide +kernel
theorem dL_act_133 : decode cL_act 133 = .ok (.iload 5, 2) := by decide +kernel
theorem dL_act_135 : decode cL_act 135 = .ok (.iload 4, 2) := by decide +kernel
theorem dL_act_137 : decode cL_act 137 = .ok (.invokestatic 53, 3) := by decide +kernel
theorem dL_act_140 : decode cL_act 140 = .ok (.ireturn, 1) := by decide +kernel
theorem dL_act_141 : decode cL_act 141 = .ok (.aload_n 0, 1) := by decide +kernel
theorem dL_act_142 : decode cL_act 142 = .ok (.iload 5, 2) := by decide +kernel
theorem dL_act_144 : decode cL_act 144 = .ok (.iload 4, 2) := by decide +kernel
theorem dL_act_146 : decode cL_act 146 = .ok (.invokestatic 56, 3) := by decide +kernel
theorem dL_act_149 : decode cL_act 149 = .ok (.ireturn, 1) := by decide +kernel
theorem dL_act_150 : decode cL_act 150 = .ok (.aload_n 0, 1) := by decide +kernel
theorem dL_act_151 : decode cL_act 151 = .ok (.iload 5, 2) := by decide +kernel
theorem dL_act_153 : decode cL_act 153 = .ok (.invokestatic 58, 3) := by decide +kernel
theorem dL_act_156 : decode cL_act 156 = .ok (.ireturn, 1) := by decide +kernel
theorem dL_act_157 : decode cL_act 157 = .ok (.aload_n 0, 1) := by decide +kernel
theorem dL_act_158 : decode cL_act 158 = .ok (.iload_n 1, 1) := by decide +kernel
theorem dL_act_159 : decode cL_act 159 = .ok (.bipush 8, 2) := by decide +kernel
theorem dL_act_161 : decode cL_act 161 = .ok (.ishr, 1) := by decide +kernel
theorem dL_act_162 : decode cL_act 162 = .ok (.iload_n 2, 1) := by decide +kernel
theorem dL_act_163 : decode cL_act 163 = .ok (.ifCond .eq 8, 3) := by decide +kernel
theorem dL_act_166 : decode cL_act 166 = .ok (.bipush 70, 2) := by decide +kernel
theorem dL_act_168 : decode cL_act 168 = .ok (.goto 5, 3) := by decide +kernel
theorem dL_act_171 : decode cL_act 171 = .ok (.bipush 64, 2) := by decide +kernel
theorem dL_act_173 : decode cL_act 173 = .ok (.invokestatic 44, 3) := by decide +kernel
theorem dL_act_176 : decode cL_act 176 = .ok (.invokestatic 61, 3) := by decide +kernel
theorem dL_act_179 : decode cL_act 179 = .ok (.ireturn, 1) := by decide +kernel
theorem dL_act_180 : decode cL_act 180 = .ok (.aload_n 0, 1) := by decide +kernel
theorem dL_act_181 : decode cL_act 181 = .ok (.iload 5, 2) := by decide +kernel
theorem dL_act_183 : decode cL_act 183 = .ok (.iload 5, 2) := by decide +kernel
theorem dL_act_185 : decode cL_act 185 = .ok (.iconst 1, 1) := by decide +kernel
theorem dL_act_186 : decode cL_act 186 = .ok (.iadd, 1) := by decide +kernel
theorem dL_act_187 : decode cL_act 187 = .ok (.iload_n 1, 1) := by decide +kernel
theorem dL_act_188 : decode cL_act 188 = .ok (.bipush 14, 2) := by decide +kernel
theorem dL_act_190 : decode cL_act 190 = .ok (.ishr, 1) := by decide +kernel
theorem dL_act_191 : decode cL_act 191 = .ok (.bipush 6, 2) := by decide +kernel
theorem dL_act_193 : decode cL_act 193 = .ok (.invokestatic 44, 3) := by decide +kernel
theorem dL_act_196 : decode cL_act 196 = .ok (.iadd, 1) := by decide +kernel
theorem dL_act_197 : decode cL_act 197 = .ok (.invokestatic 63, 3) := by decide +kernel
theorem dL_act_200 : decode cL_act 200 = .ok (.ireturn, 1) := by decide +kernel
theorem dL_act_201 : decode cL_act 201 = .ok (.iload_n 1, 1) := by decide +kernel
theorem dL_act_202 : decode cL_act 202 = .ok (.bipush 12, 2) := by decide +kernel
theorem dL_act_204 : decode cL_act 204 = .ok (.ishr, 1) := by decide +kernel
theorem dL_act_205 : decode cL_act 205 = .ok (.bipush 7, 2) := by decide +kernel
theorem dL_act_207 : decode cL_act 207 = .ok (.iand, 1) := by decide +kernel
theorem dL_act_208 : decode cL_act 208 = .ok (.ifCond .ne 10, 3) := by decide +kernel
theorem dL_act_211 : decode cL_act 211 = .ok (.aload_n 0, 1) := by decide +kernel
theorem dL_act_212 : decode cL_act 212 = .ok (.invokevirtual 66, 3) := by decide +kernel
theorem dL_act_215 : decode cL_act 215 = .ok (.goto 7, 3) := by decide +kernel
theorem dL_act_218 : decode cL_act 218 = .ok (.aload_n 0, 1) := by decide +kernel
theorem dL_act_219 : decode cL_act 219 = .ok (.invokevirtual 69, 3) := by decide +kernel
theorem dL_act_222 : decode cL_act 222 = .ok (.ireturn, 1) := by decide +kernel
theorem dL_act_223 : decode cL_act 223 = .ok (.iload_n 1, 1) := by decide +kernel
theorem dL_act_224 : decode cL_act 224 = .ok (.bipush 12, 2) := by decide +kernel
theorem dL_act_226 : decode cL_act 226 = .ok (.ishr, 1) := by decide +kernel
theorem dL_act_227 : decode cL_act 227 = .ok (.iconst 1, 1) := by decide +kernel
theorem dL_act_228 : decode cL_act 228 = .ok (.iand, 1) := by decide +kernel
theorem dL_act_229 : decode cL_act 229 = .ok (.ifCond .ne 27, 3) := by decide +kernel
theorem dL_act_232 : decode cL_act 232 = .ok (.aload_n 0, 1) := by decide +kernel
theorem dL_act_233 : decode cL_act 233 = .ok (.iload_n 1, 1) := by decide +kernel
theorem dL_act_234 : decode cL_act 234 = .ok (.iconst 5, 1) := by decide +kernel
theorem dL_act_235 : decode cL_act 235 = .ok (.ishr, 1) := by decide +kernel
theorem dL_act_236 : decode cL_act 236 = .ok (.bipush 10, 2) := by decide +kernel
theorem dL_act_238 : decode cL_act 238 = .ok (.invokestatic 44, 3) := by decide +kernel
theorem dL_act_241 : decode cL_act 241 = .ok (.iload_n 1, 1) := by decide +kernel
theorem dL_act_242 : decode cL_act 242 = .ok (.bipush 9, 2) := by decide +kernel
theorem dL_act_244 : decode cL_act 244 = .ok (.ishr, 1) := by decide +kernel
theorem dL_act_245 : decode cL_act 245 = .ok (.bipush 8, 2) := by decide +kernel
theorem dL_act_247 : decode cL_act 247 = .ok (.invokestatic 44, 3) := by decide +kernel
theorem dL_act_250 : decode cL_act 250 = .ok (.invokestatic 72, 3) := by decide +kernel
theorem dL_act_253 : decode cL_act 253 = .ok (.goto 46, 3) := by decide +kernel
theorem dL_act_256 : decode cL_act 256 = .ok (.aload_n 0, 1) := by decide +kernel
theorem dL_act_257 : decode cL_act 257 = .ok (.iconst 1, 1) := by decide +kernel
theorem dL_act_258 : decode cL_act 258 = .ok (.iload_n 1, 1) := by decide +kernel
theorem dL_act_259 : decode cL_act 259 = .ok (.iconst 5, 1) := by decide +kernel
theorem dL_act_260 : decode cL_act 260 = .ok (.ishr, 1) := by decide +kernel
theorem dL_act_261 : decode cL_act 261 = .ok (.iconst 4, 1) := by decide +kernel
theorem dL_act_262 : decode cL_act 262 = .ok (.invokestatic 44, 3) := by decide +kernel
theorem dL_act_265 : decode cL_act 265 = .ok (.iadd, 1) := by decide +kernel
theorem dL_act_266 : decode cL_act 266 = .ok (.iconst 1, 1) := by decide +kernel
theorem dL_act_267 : decode cL_act 267 = .ok (.iload_n 1, 1) := by decide +kernel
theorem dL_act_268 : decode cL_act 268 = .ok (.bipush 8, 2) := by decide +kernel
theorem dL_act_270 : decode cL_act 270 = .ok (.ishr, 1) := by decide +kernel
theorem dL_act_271 : decode cL_act 271 = .ok (.bipush 8, 2) := by decide +kernel
theorem dL_act_273 : decode cL_act 273 = .ok (.invokestatic 44, 3) := by decide +kernel
theorem dL_act_276 : decode cL_act 276 = .ok (.iadd, 1) := by decide +kernel
theorem dL_act_277 : decode cL_act 277 = .ok (.iload_n 1, 1) := by decide +kernel
theorem dL_act_278 : decode cL_act 278 = .ok (.bipush 13, 2) := by decide +kernel
theorem dL_act_280 : decode cL_act 280 = .ok (.ishr, 1) := by decide +kernel
theorem dL_act_281 : decode cL_act 281 = .ok (.iload_n 2, 1) := by decide +kernel
theorem dL_act_282 : decode cL_act 282 = .ok (.ifCond .eq 9, 3) := by decide +kernel
theorem dL_act_285 : decode cL_act 285 = .ok (.sipush 9999, 3) := by decide +kernel
theorem dL_act_288 : decode cL_act 288 = .ok (.goto 5, 3) := by decide +kernel
theorem dL_act_291 : decode cL_act 291 = .ok (.bipush 12, 2) := by decide +kernel
theorem dL_act_293 : decode cL_act 293 = .ok (.invokestatic 44, 3) := by decide +kernel
theorem dL_act_296 : decode cL_act 296 = .ok (.invokestatic 75, 3) := by decide +kernel
theorem dL_act_299 : decode cL_act 299 = .ok (.ireturn, 1) := by decide +kernel
theorem dL_act_300 : decode cL_act 300 = .ok (.aload_n 0, 1) := by decide +kernel
theorem dL_act_301 : decode cL_act 301 = .ok (.iload 4, 2) := by decide +kernel
theorem dL_act_303 : decode cL_act 303 = .ok (.invokestatic 79, 3) := by decide +kernel
theorem dL_act_306 : decode cL_act 306 = .ok (.ireturn, 1) := by decide +kernel
set_option maxRecDepth 20000 in
theorem ggL_areAlike_X8_length : GoodIn wsL_areAlike wsX8_length := goodIn_r _ [5, 6, 7, 8, 9, 10, 11, 12, 92, 93, 94, 95, 96, 97, 98, 99] (by decide +kernel) (by decide +kernel)
set_option maxRecDepth 20000 in
theorem gL_areAlike_X8_length : GoodIn wsL_areAlike (wsV RL 49 RX8 yX8_length wsX8_length) := goodIn_app (goodIn_of _ (by decide +kernel)) ggL_areAlike_X8_length
set_option maxRecDepth 20000 in
theorem ggL_areAlike_X8_factors : GoodIn wsL_areAlike wsX8_factors := goodIn_r _ [16, 17, 6, 18, 19, 20, 21, 22, 23, 24, 25, 8, 9, 10, 11, 12, 26, 4, 27, 28, 29, 30, 31, 32, 33, 34, 35, 36, 37, 38, 39, 40, 41, 92, 93, 94, 95, 96, 97, 100, 101, 98, 99] (by decide +kernel) (by decide +kernel)
set_option maxRecDepth 20000 in
theorem gL_areAlike_X8_factors : GoodIn wsL_areAlike (wsV RL 81 RX8 yX8_factors wsX8_factors) := goodIn_app (goodIn_of _ (by decide +kernel)) ggL_areAlike_X8_factors
set_option maxRecDepth 20000 in
theorem ggL_areAlike_X8_runs : GoodIn wsL_areAlike wsX8_runs := goodIn_r _ [45, 46, 6, 47, 48, 49, 50, 51, 52, 53, 8, 9, 10, 11, 12, 54, 55, 56, 57, 58, 59, 60, 61, 32, 33, 34, 35, 36, 4, 37, 62, 63, 64, 65, 66, 67, 68, 69, 70, 71, 72, 73, 74, 75, 76, 77, 26, 27, 78, 79, 80, 81, 92, 93, 94, 95, 96, 97, 102, 103, 104, 105, 98, 99] (by decide +kernel) (by decide +kernel)
set_option maxRecDepth 20000 in
theorem gL_areAlike_X8_runs : GoodIn wsL_areAlike (wsV RL 84 RX8 yX8_runs wsX8_runs) := goodIn_app (goodIn_of _ (by decide +kernel)) ggL_areAlike_X8_runs
set_option maxRecDepth 20000 in
theorem ggL_areAlike_X8_letterAt : GoodIn wsL_areAlike wsX8_letterAt := goodIn_ca (goodIn_r _ [85, 6, 7, 8, 9, 10, 11, 12, 86, 87, 4, 88, 89, 90, 91, 32, 33, 34, 35, 36, 37, 92, 93, 94, 95, 96, 97, 98, 99] (by decide +kernel) (by decide +kernel)) (goodIn_sub (fun _ h => List.mem_cons_of_mem _ (List.mem_append_right _ h)) (by decide +kernel))
set_option maxRecDepth 20000 in
theorem gL_areAlike_X8_letterAt : GoodIn wsL_areAlike (wsV RL 87 RX8 yX8_letterAt wsX8_letterAt) := goodIn_app (goodIn_of _ (by decide +kernel)) ggL_areAlike_X8_letterAt
theorem dL_areAlike_0 : decode cL_areAlike 0 = .ok (.aload_n 0, 1) := by decide +kernel
theorem dL_areAlike_1 : decode cL_areAlike 1 = .ok (.invokevirtual 49, 3) := by decide +kernel
theorem dL_areAlike_4 : decode cL_areAlike 4 = .ok (.aload_n 1, 1) := by decide +kernel
theorem dL_areAlike_5 : decode cL_areAlike 5 = .ok (.invokevirtual 49, 3) := by decide +kernel
theorem dL_areAlike_8 : decode cL_areAlike 8 = .ok (.if_icmp .ne 29, 3) := by decide +kernel
theorem dL_areAlike_11 : decode cL_areAlike 11 = .ok (.aload_n 0, 1) := by decide +kernel
theorem dL_areAlike_12 : decode cL_areAlike 12 = .ok (.invokevirtual 81, 3) := by decide +kernel
theorem dL_areAlike_15 : decode cL_areAlike 15 = .ok (.aload_n 1, 1) := by decide +kernel
theorem dL_areAlike_16 : decode cL_areAlike 16 = .ok (.invokevirtual 81, 3) := by decide +kernel
theorem dL_areAlike_19 : decode cL_areAlike 19 = .ok (.if_icmp .ne 18, 3) := by decide +kernel
theorem dL_areAlike_22 : decode cL_areAlike 22 = .ok (.aload_n 0, 1) := by decide +kernel
theorem dL_areAlike_23 : decode cL_areAlike 23 = .ok (.invokevirtual 84, 3) := by decide +kernel
theorem dL_areAlike_26 : decode cL_areAlike 26 = .ok (.aload_n 1, 1) := by decide +kernel
theorem dL_areAlike_27 : decode cL_areAlike 27 = .ok (.invokevirtual 84, 3) := by decide +kernel
theorem dL_areAlike_30 : decode cL_areAlike 30 = .ok (.if_icmp .ne 7, 3) := by decide +kernel
theorem dL_areAlike_33 : decode cL_areAlike 33 = .ok (.iconst 1, 1) := by decide +kernel
theorem dL_areAlike_34 : decode cL_areAlike 34 = .ok (.goto 4, 3) := by decide +kernel
theorem dL_areAlike_37 : decode cL_areAlike 37 = .ok (.iconst 0, 1) := by decide +kernel
theorem dL_areAlike_38 : decode cL_areAlike 38 = .ok (.istore_n 2, 1) := by decide +kernel
theorem dL_areAlike_39 : decode cL_areAlike 39 = .ok (.iconst 0, 1) := by decide +kernel
theorem dL_areAlike_40 : decode cL_areAlike 40 = .ok (.istore_n 3, 1) := by decide +kernel
theorem dL_areAlike_41 : decode cL_areAlike 41 = .ok (.iload_n 3, 1) := by decide +kernel
theorem dL_areAlike_42 : decode cL_areAlike 42 = .ok (.aload_n 0, 1) := by decide +kernel
theorem dL_areAlike_43 : decode cL_areAlike 43 = .ok (.invokevirtual 49, 3) := by decide +kernel
theorem dL_areAlike_46 : decode cL_areAlike 46 = .ok (.if_icmp .ge 32, 3) := by decide +kernel
theorem dL_areAlike_49 : decode cL_areAlike 49 = .ok (.iload_n 2, 1) := by decide +kernel
theorem dL_areAlike_50 : decode cL_areAlike 50 = .ok (.ifCond .eq 28, 3) := by decide +kernel
theorem dL_areAlike_53 : decode cL_areAlike 53 = .ok (.aload_n 0, 1) := by decide +kernel
theorem dL_areAlike_54 : decode cL_areAlike 54 = .ok (.iload_n 3, 1) := by decide +kernel
theorem dL_areAlike_55 : decode cL_areAlike 55 = .ok (.invokevirtual 87, 3) := by decide +kernel
theorem dL_areAlike_58 : decode cL_areAlike 58 = .ok (.aload_n 1, 1) := by decide +kernel
theorem dL_areAlike_59 : decode cL_areAlike 59 = .ok (.iload_n 3, 1) := by decide +kernel
theorem dL_areAlike_60 : decode cL_areAlike 60 = .ok (.invokevirtual 87, 3) := by decide +kernel
theorem dL_areAlike_63 : decode cL_areAlike 63 = .ok (.if_icmp .ne 7, 3) := by decide +kernel
theorem dL_areAlike_66 : decode cL_areAlike 66 = .ok (.iconst 1, 1) := by decide +kernel
theorem dL_areAlike_67 : decode cL_areAlike 67 = .ok (.goto 4, 3) := by decide +kernel
theorem dL_areAlike_70 : decode cL_areAlike 70 = .ok (.iconst 0, 1) := by decide +kernel
theorem dL_areAlike_71 : decode cL_areAlike 71 = .ok (.istore_n 2, 1) := by decide +kernel
theorem dL_areAlike_72 : decode cL_areAlike 72 = .ok (.iinc 3 1, 3) := by decide +kernel
theorem dL_areAlike_75 : decode cL_areAlike 75 = .ok (.goto (-34), 3) := by decide +kernel
theorem dL_areAlike_78 : decode cL_areAlike 78 = .ok (.iload_n 2, 1) := by decide +kernel
theorem dL_areAlike_79 : decode cL_areAlike 79 = .ok (.ireturn, 1) := by decide +kernel
set_option maxRecDepth 20000 in
theorem ggL_areFactorsSo_X8_factors : GoodIn wsL_areFactorsSo wsX8_factors := goodIn_r _ [5, 6, 7, 8, 9, 10, 11, 12, 13, 14, 15, 16, 17, 18, 19, 20, 21, 4, 22, 23, 24, 25, 26, 27, 28, 29, 30, 31, 32, 33, 34, 35, 36, 107, 108, 109, 110, 111, 112, 113, 114, 115, 116] (by decide +kernel) (by decide +kernel)
set_option maxRecDepth 20000 in
theorem gL_areFactorsSo_X8_factors : GoodIn wsL_areFactorsSo (wsV RL 81 RX8 yX8_factors wsX8_factors) := goodIn_app (goodIn_of _ (by decide +kernel)) ggL_areFactorsSo_X8_factors
set_option maxRecDepth 20000 in
theorem ggL_areFactorsSo_X8_factorLength : GoodIn wsL_areFactorsSo wsX8_factorLength := goodIn_ca (goodIn_r _ [40, 6, 41, 42, 43, 4, 44, 7, 8, 9, 10, 11, 12, 13, 14, 15, 16, 17, 18, 19, 20, 21, 22, 23, 24, 25, 26, 27, 28, 29, 30, 31, 32, 33, 34, 35, 36, 45, 46, 47, 48, 49, 50, 51, 52, 53, 107, 108, 109, 110, 111, 112, 113, 114, 115, 116] (by decide +kernel) (by decide +kernel)) (goodIn_sub (fun _ h => List.mem_cons_of_mem _ (List.mem_append_right _ h)) (by decide +kernel))
set_option maxRecDepth 20000 in
theorem gL_areFactorsSo_X8_factorLength : GoodIn wsL_areFactorsSo (wsV RL 90 RX8 yX8_factorLength wsX8_factorLength) := goodIn_app (goodIn_of _ (by decide +kernel)) ggL_areFactorsSo_X8_factorLength
set_option maxRecDepth 20000 in
theorem ggL_areFactorsSo_X8_factorStart : GoodIn wsL_areFactorsSo wsX8_factorStart := goodIn_ca (goodIn_r _ [57, 6, 41, 42, 43, 4, 44, 7, 8, 9, 10, 11, 12, 13, 14, 15, 16, 17, 18, 19, 20, 21, 22, 23, 24, 25, 26, 27, 28, 29, 30, 31, 32, 33, 34, 35, 36, 45, 46, 47, 48, 49, 50, 51, 52, 53, 107, 108, 109, 110, 111, 112, 113, 114, 115, 116] (by decide +kernel) (by decide +kernel)) (goodIn_sub (fun _ h => List.mem_cons_of_mem _ (List.mem_append_right _ h)) (by decide +kernel))
set_option maxRecDepth 20000 in
theorem gL_areFactorsSo_X8_factorStart : GoodIn wsL_areFactorsSo (wsV RL 93 RX8 yX8_factorStart wsX8_factorStart) := goodIn_app (goodIn_of _ (by decide +kernel)) ggL_areFactorsSo_X8_factorStart
set_option maxRecDepth 20000 in
theorem ggL_areFactorsSo_X8_isLyndon : GoodIn wsL_areFactorsSo wsX8_isLyndon := goodIn_ca (goodIn_r _ [61, 7, 62, 63, 64, 4, 65, 48, 49, 66, 16, 17, 18, 19, 20, 67, 68, 11, 69, 23, 24, 25, 26, 27, 28, 29, 30, 31, 32, 107, 108, 109, 110, 111, 112, 115, 116] (by decide +kernel) (by decide +kernel)) (goodIn_sub (fun _ h => List.mem_cons_of_mem _ (List.mem_append_right _ h)) (by decide +kernel))
set_option maxRecDepth 20000 in
theorem gL_areFactorsSo_X8_isLyndon : GoodIn wsL_areFactorsSo (wsV RL 96 RX8 yX8_isLyndon wsX8_isLyndon) := goodIn_app (goodIn_of _ (by decide +kernel)) ggL_areFactorsSo_X8_isLyndon
set_option maxRecDepth 20000 in
theorem ggL_areFactorsSo_X8_longestLyndon : GoodIn wsL_areFactorsSo wsX8_longestLyndon := goodIn_ca (goodIn_r _ [73, 7, 66, 16, 17, 18, 19, 20, 45, 46, 4, 47, 48, 49, 74, 24, 11, 25, 26, 27, 28, 29, 30, 31, 32, 107, 108, 109, 110, 111, 112, 115, 116] (by decide +kernel) (by decide +kernel)) (goodIn_sub (fun _ h => List.mem_cons_of_mem _ (List.mem_append_right _ h)) (by decide +kernel))
set_option maxRecDepth 20000 in
theorem gL_areFactorsSo_X8_longestLyndon : GoodIn wsL_areFactorsSo (wsV RL 100 RX8 yX8_longestLyndon wsX8_longestLyndon) := goodIn_app (goodIn_of _ (by decide +kernel)) ggL_areFactorsSo_X8_longestLyndon
set_option maxRecDepth 20000 in
theorem ggL_areFactorsSo_X8_factorOver : GoodIn wsL_areFactorsSo wsX8_factorOver := goodIn_ca (goodIn_r _ [78, 7, 6, 66, 16, 17, 18, 19, 20, 45, 46, 4, 47, 48, 49, 8, 9, 10, 11, 12, 13, 14, 15, 21, 22, 23, 24, 25, 26, 27, 28, 29, 30, 31, 32, 79, 80, 81, 82, 107, 108, 109, 110, 111, 112, 115, 116, 113, 114] (by decide +kernel) (by decide +kernel)) (goodIn_sub (fun _ h => List.mem_cons_of_mem _ (List.mem_append_right _ h)) (by decide +kernel))
set_option maxRecDepth 20000 in
theorem gL_areFactorsSo_X8_factorOver : GoodIn wsL_areFactorsSo (wsV RL 104 RX8 yX8_factorOver wsX8_factorOver) := goodIn_app (goodIn_of _ (by decide +kernel)) ggL_areFactorsSo_X8_factorOver
set_option maxRecDepth 20000 in
theorem ggL_areFactorsSo_X8_compare : GoodIn wsL_areFactorsSo wsX8_compare := goodIn_ca (goodIn_r _ [86, 87, 88, 89, 90, 7, 62, 63, 64, 4, 65, 48, 49, 66, 16, 17, 18, 19, 20, 91, 92, 93, 94, 95, 96, 97, 30, 31, 32, 98, 27, 28, 29, 99, 100, 101, 102, 107, 108, 109, 110, 111, 112, 115, 116] (by decide +kernel) (by decide +kernel)) (goodIn_sub (fun _ h => List.mem_cons_of_mem _ (List.mem_append_right _ h)) (by decide +kernel))
set_option maxRecDepth 20000 in
theorem gL_areFactorsSo_X8_compare : GoodIn wsL_areFactorsSo (wsV RL 107 RX8 yX8_compare wsX8_compare) := goodIn_app (goodIn_of _ (by decide +kernel)) ggL_areFactorsSo_X8_compare
set_option maxRecDepth 20000 in
theorem ggL_areFactorsSo_X8_length : GoodIn wsL_areFactorsSo wsX8_length := goodIn_r _ [106, 7, 66, 16, 17, 18, 19, 20, 107, 108, 109, 110, 111, 112, 115, 116] (by decide +kernel) (by decide +kernel)
set_option maxRecDepth 20000 in
theorem gL_areFactorsSo_X8_length : GoodIn wsL_areFactorsSo (wsV RL 49 RX8 yX8_length wsX8_length) := goodIn_app (goodIn_of _ (by decide +kernel)) ggL_areFactorsSo_X8_length
theorem dL_areFactorsSo_0 : decode cL_areFactorsSo 0 = .ok (.iconst 0, 1) := by decide +kernel
theorem dL_areFactorsSo_1 : decode cL_areFactorsSo 1 = .ok (.istore_n 1, 1) := by decide +kernel
theorem dL_areFactorsSo_2 : decode cL_areFactorsSo 2 = .ok (.iconst 0, 1) := by decide +kernel
theorem dL_areFactorsSo_3 : decode cL_areFactorsSo 3 = .ok (.istore_n 2, 1) := by decide +kernel
theorem dL_areFactorsSo_4 : decode cL_areFactorsSo 4 = .ok (.iconst 0, 1) := by decide +kernel
theorem dL_areFactorsSo_5 : decode cL_areFactorsSo 5 = .ok (.istore_n 3, 1) := by decide +kernel
theorem dL_areFactorsSo_6 : decode cL_areFactorsSo 6 = .ok (.iload_n 3, 1) := by decide +kernel
theorem dL_areFactorsSo_7 : decode cL_areFactorsSo 7 = .ok (.aload_n 0, 1) := by decide +kernel
theorem dL_areFactorsSo_8 : decode cL_areFactorsSo 8 = .ok (.invokevirtual 81, 3) := by decide +kernel
theorem dL_areFactorsSo_11 : decode cL_areFactorsSo 11 = .ok (.if_icmp .ge 106, 3) := by decide +kernel
theorem dL_areFactorsSo_14 : decode cL_areFactorsSo 14 = .ok (.aload_n 0, 1) := by decide +kernel
theorem dL_areFactorsSo_15 : decode cL_areFactorsSo 15 = .ok (.iload_n 3, 1) := by decide +kernel
theorem dL_areFactorsSo_16 : decode cL_areFactorsSo 16 = .ok (.invokevirtual 90, 3) := by decide +kernel
theorem dL_areFactorsSo_19 : decode cL_areFactorsSo 19 = .ok (.istore 4, 2) := by decide +kernel
theorem dL_areFactorsSo_21 : decode cL_areFactorsSo 21 = .ok (.aload_n 0, 1) := by decide +kernel
theorem dL_areFactorsSo_22 : decode cL_areFactorsSo 22 = .ok (.iload_n 3, 1) := by decide +kernel
theorem dL_areFactorsSo_23 : decode cL_areFactorsSo 23 = .ok (.invokevirtual 93, 3) := by decide +kernel
theorem dL_areFactorsSo_26 : decode cL_areFactorsSo 26 = .ok (.iload_n 1, 1) := by decide +kernel
theorem dL_areFactorsSo_27 : decode cL_areFactorsSo 27 = .ok (.if_icmp .ne 55, 3) := by decide +kernel
theorem dL_areFactorsSo_30 : decode cL_areFactorsSo 30 = .ok (.iload 4, 2) := by decide +kernel
theorem dL_areFactorsSo_32 : decode cL_areFactorsSo 32 = .ok (.iconst 1, 1) := by decide +kernel
theorem dL_areFactorsSo_33 : decode cL_areFactorsSo 33 = .ok (.if_icmp .lt 49, 3) := by decide +kernel
theorem dL_areFactorsSo_36 : decode cL_areFactorsSo 36 = .ok (.aload_n 0, 1) := by decide +kernel
theorem dL_areFactorsSo_37 : decode cL_areFactorsSo 37 = .ok (.iload_n 1, 1) := by decide +kernel
theorem dL_areFactorsSo_38 : decode cL_areFactorsSo 38 = .ok (.iload_n 1, 1) := by decide +kernel
theorem dL_areFactorsSo_39 : decode cL_areFactorsSo 39 = .ok (.iload 4, 2) := by decide +kernel
theorem dL_areFactorsSo_41 : decode cL_areFactorsSo 41 = .ok (.iadd, 1) := by decide +kernel
theorem dL_areFactorsSo_42 : decode cL_areFactorsSo 42 = .ok (.invokevirtual 96, 3) := by decide +kernel
theorem dL_areFactorsSo_45 : decode cL_areFactorsSo 45 = .ok (.ifCond .eq 37, 3) := by decide +kernel
theorem dL_areFactorsSo_48 : decode cL_areFactorsSo 48 = .ok (.aload_n 0, 1) := by decide +kernel
theorem dL_areFactorsSo_49 : decode cL_areFactorsSo 49 = .ok (.iload_n 1, 1) := by decide +kernel
theorem dL_areFactorsSo_50 : decode cL_areFactorsSo 50 = .ok (.iconst 0, 1) := by decide +kernel
theorem dL_areFactorsSo_51 : decode cL_areFactorsSo 51 = .ok (.invokevirtual 100, 3) := by decide +kernel
theorem dL_areFactorsSo_54 : decode cL_areFactorsSo 54 = .ok (.iload 4, 2) := by decide +kernel
theorem dL_areFactorsSo_56 : decode cL_areFactorsSo 56 = .ok (.if_icmp .ne 26, 3) := by decide +kernel
theorem dL_areFactorsSo_59 : decode cL_areFactorsSo 59 = .ok (.aload_n 0, 1) := by decide +kernel
theorem dL_areFactorsSo_60 : decode cL_areFactorsSo 60 = .ok (.iload_n 1, 1) := by decide +kernel
theorem dL_areFactorsSo_61 : decode cL_areFactorsSo 61 = .ok (.invokevirtual 104, 3) := by decide +kernel
theorem dL_areFactorsSo_64 : decode cL_areFactorsSo 64 = .ok (.iload_n 3, 1) := by decide +kernel
theorem dL_areFactorsSo_65 : decode cL_areFactorsSo 65 = .ok (.if_icmp .ne 17, 3) := by decide +kernel
theorem dL_areFactorsSo_68 : decode cL_areFactorsSo 68 = .ok (.aload_n 0, 1) := by decide +kernel
theorem dL_areFactorsSo_69 : decode cL_areFactorsSo 69 = .ok (.iload_n 1, 1) := by decide +kernel
theorem dL_areFactorsSo_70 : decode cL_areFactorsSo 70 = .ok (.iload 4, 2) := by decide +kernel
theorem dL_areFactorsSo_72 : decode cL_areFactorsSo 72 = .ok (.iadd, 1) := by decide +kernel
theorem dL_areFactorsSo_73 : decode cL_areFactorsSo 73 = .ok (.iconst 1, 1) := by decide +kernel
theorem dL_areFactorsSo_74 : decode cL_areFactorsSo 74 = .ok (.isub, 1) := by decide +kernel
theorem dL_areFactorsSo_75 : decode cL_areFactorsSo 75 = .ok (.invokevirtual 104, 3) := by decide +kernel
theorem dL_areFactorsSo_78 : decode cL_areFactorsSo 78 = .ok (.iload_n 3, 1) := by decide +kernel
theorem dL_areFactorsSo_79 : decode cL_areFactorsSo 79 = .ok (.if_icmp .eq 5, 3) := by decide +kernel
theorem dL_areFactorsSo_82 : decode cL_areFactorsSo 82 = .ok (.iconst 0, 1) := by decide +kernel
theorem dL_areFactorsSo_83 : decode cL_areFactorsSo 83 = .ok (.ireturn, 1) := by decide +kernel
theorem dL_areFactorsSo_84 : decode cL_areFactorsSo 84 = .ok (.iload_n 3, 1) := by decide +kernel
theorem dL_areFactorsSo_85 : decode cL_areFactorsSo 85 = .ok (.ifCond .le 19, 3) := by decide +kernel
theorem dL_areFactorsSo_88 : decode cL_areFactorsSo 88 = .ok (.aload_n 0, 1) := by decide +kernel
theorem dL_areFactorsSo_89 : decode cL_areFactorsSo 89 = .ok (.iload_n 2, 1) := by decide +kernel
theorem dL_areFactorsSo_90 : decode cL_areFactorsSo 90 = .ok (.iload_n 1, 1) := by decide +kernel
theorem dL_areFactorsSo_91 : decode cL_areFactorsSo 91 = .ok (.iload_n 1, 1) := by decide +kernel
theorem dL_areFactorsSo_92 : decode cL_areFactorsSo 92 = .ok (.iload_n 1, 1) := by decide +kernel
theorem dL_areFactorsSo_93 : decode cL_areFactorsSo 93 = .ok (.iload 4, 2) := by decide +kernel
theorem dL_areFactorsSo_95 : decode cL_areFactorsSo 95 = .ok (.iadd, 1) := by decide +kernel
theorem dL_areFactorsSo_96 : decode cL_areFactorsSo 96 = .ok (.invokevirtual 107, 3) := by decide +kernel
theorem dL_areFactorsSo_99 : decode cL_areFactorsSo 99 = .ok (.ifCond .ge 5, 3) := by decide +kernel
theorem dL_areFactorsSo_102 : decode cL_areFactorsSo 102 = .ok (.iconst 0, 1) := by decide +kernel
theorem dL_areFactorsSo_103 : decode cL_areFactorsSo 103 = .ok (.ireturn, 1) := by decide +kernel
theorem dL_areFactorsSo_104 : decode cL_areFactorsSo 104 = .ok (.iload_n 1, 1) := by decide +kernel
theorem dL_areFactorsSo_105 : decode cL_areFactorsSo 105 = .ok (.istore_n 2, 1) := by decide +kernel
theorem dL_areFactorsSo_106 : decode cL_areFactorsSo 106 = .ok (.iload_n 1, 1) := by decide +kernel
theorem dL_areFactorsSo_107 : decode cL_areFactorsSo 107 = .ok (.iload 4, 2) := by decide +kernel
theorem dL_areFactorsSo_109 : decode cL_areFactorsSo 109 = .ok (.iadd, 1) := by decide +kernel
theorem dL_areFactorsSo_110 : decode cL_areFactorsSo 110 = .ok (.istore_n 1, 1) := by decide +kernel
theorem dL_areFactorsSo_111 : decode cL_areFactorsSo 111 = .ok (.iinc 3 1, 3) := by decide +kernel
theorem dL_areFactorsSo_114 : decode cL_areFactorsSo 114 = .ok (.goto (-108), 3) := by decide +kernel
theorem dL_areFactorsSo_117 : decode cL_areFactorsSo 117 = .ok (.iload_n 1, 1) := by decide +kernel
theorem dL_areFactorsSo_118 : decode cL_areFactorsSo 118 = .ok (.aload_n 0, 1) := by decide +kernel
theorem dL_areFactorsSo_119 : decode cL_areFactorsSo 119 = .ok (.invokevirtual 49, 3) := by decide +kernel
theorem dL_areFactorsSo_122 : decode cL_areFactorsSo 122 = .ok (.if_icmp .ne 7, 3) := by decide +kernel
theorem dL_areFactorsSo_125 : decode cL_areFactorsSo 125 = .ok (.iconst 1, 1) := by decide +kernel
theorem dL_areFactorsSo_126 : decode cL_areFactorsSo 126 = .ok (.goto 4, 3) := by decide +kernel
theorem dL_areFactorsSo_129 : decode cL_areFactorsSo 129 = .ok (.iconst 0, 1) := by decide +kernel
theorem dL_areFactorsSo_130 : decode cL_areFactorsSo 130 = .ok (.ireturn, 1) := by decide +kernel
set_option maxRecDepth 20000 in
theorem ggL_isPartSo_X8_period : GoodIn wsL_isPartSo wsX8_period := goodIn_ca (goodIn_r _ [5, 6, 7, 8, 9, 10, 4, 11, 12, 13, 14, 15, 16, 17, 18, 19, 20, 21, 22, 23, 24, 25, 26, 27, 28, 29, 30, 31, 32, 33, 34, 35, 36, 37, 38, 39, 40, 41, 42, 162, 163, 164, 165, 166, 167, 168, 169, 170] (by decide +kernel) (by decide +kernel)) (goodIn_sub (fun _ h => List.mem_cons_of_mem _ (List.mem_append_left _ (List.mem_append_left _ (List.mem_append_right _ h)))) (by decide +kernel))
set_option maxRecDepth 20000 in
theorem gL_isPartSo_X8_period : GoodIn wsL_isPartSo (wsV RL 111 RX8 yX8_period wsX8_period) := goodIn_app (goodIn_of _ (by decide +kernel)) ggL_isPartSo_X8_period
set_option maxRecDepth 20000 in
theorem ggL_isPartSo_X8_rootLength : GoodIn wsL_isPartSo wsX8_rootLength := goodIn_ca (goodIn_r _ [46, 6, 7, 8, 9, 10, 4, 11, 12, 13, 14, 15, 16, 17, 18, 19, 47, 48, 49, 23, 50, 51, 21, 22, 24, 25, 26, 27, 28, 29, 30, 31, 32, 33, 34, 35, 36, 37, 38, 39, 40, 41, 42, 162, 163, 164, 165, 166, 167, 168, 169, 170] (by decide +kernel) (by decide +kernel)) (goodIn_sub (fun _ h => List.mem_cons_of_mem _ (List.mem_append_left _ (List.mem_append_left _ (List.mem_append_right _ h)))) (by decide +kernel))
set_option maxRecDepth 20000 in
theorem gL_isPartSo_X8_rootLength : GoodIn wsL_isPartSo (wsV RL 114 RX8 yX8_rootLength wsX8_rootLength) := goodIn_app (goodIn_of _ (by decide +kernel)) ggL_isPartSo_X8_rootLength
set_option maxRecDepth 20000 in
theorem ggL_isPartSo_X8_leastRotation : GoodIn wsL_isPartSo wsX8_leastRotation := goodIn_ca (goodIn_r _ [55, 7, 8, 9, 10, 4, 11, 12, 13, 14, 15, 16, 17, 18, 19, 56, 57, 58, 59, 60, 61, 62, 63, 64, 65, 66, 37, 38, 39, 40, 41, 42, 162, 163, 164, 165, 166, 167, 168, 169] (by decide +kernel) (by decide +kernel)) (goodIn_sub (fun _ h => List.mem_cons_of_mem _ (List.mem_append_left _ (List.mem_append_left _ (List.mem_append_right _ h)))) (by decide +kernel))
set_option maxRecDepth 20000 in
theorem gL_isPartSo_X8_leastRotation : GoodIn wsL_isPartSo (wsV RL 117 RX8 yX8_leastRotation wsX8_leastRotation) := goodIn_app (goodIn_of _ (by decide +kernel)) ggL_isPartSo_X8_leastRotation
set_option maxRecDepth 20000 in
theorem ggL_isPartSo_X8_greatestRotation : GoodIn wsL_isPartSo wsX8_greatestRotation := goodIn_ca (goodIn_r _ [70, 7, 8, 9, 10, 4, 11, 12, 13, 14, 15, 16, 17, 18, 19, 71, 72, 58, 73, 60, 61, 62, 63, 64, 65, 66, 37, 38, 39, 40, 41, 42, 162, 163, 164, 165, 166, 167, 168, 169] (by decide +kernel) (by decide +kernel)) (goodIn_sub (fun _ h => List.mem_cons_of_mem _ (List.mem_append_left _ (List.mem_append_left _ (List.mem_append_right _ h)))) (by decide +kernel))
set_option maxRecDepth 20000 in
theorem gL_isPartSo_X8_greatestRotation : GoodIn wsL_isPartSo (wsV RL 120 RX8 yX8_greatestRotation wsX8_greatestRotation) := goodIn_app (goodIn_of _ (by decide +kernel)) ggL_isPartSo_X8_greatestRotation
set_option maxRecDepth 20000 in
theorem ggL_isPartSo_X8_border : GoodIn wsL_isPartSo wsX8_border := goodIn_ca (goodIn_r _ [77, 6, 7, 8, 9, 10, 4, 11, 12, 13, 14, 15, 16, 17, 18, 19, 78, 26, 27, 23, 28, 29, 30, 31, 32, 33, 34, 35, 36, 37, 38, 39, 40, 41, 42, 162, 163, 164, 165, 166, 167, 168, 169, 170] (by decide +kernel) (by decide +kernel)) (goodIn_sub (fun _ h => List.mem_cons_of_mem _ (List.mem_append_left _ (List.mem_append_left _ (List.mem_append_right _ h)))) (by decide +kernel))
set_option maxRecDepth 20000 in
theorem gL_isPartSo_X8_border : GoodIn wsL_isPartSo (wsV RL 123 RX8 yX8_border wsX8_border) := goodIn_app (goodIn_of _ (by decide +kernel)) ggL_isPartSo_X8_border
set_option maxRecDepth 20000 in
theorem ggL_isPartSo_X8_periodByTrying : GoodIn wsL_isPartSo wsX8_periodByTrying := goodIn_ca (goodIn_r _ [82, 7, 8, 9, 10, 4, 11, 12, 13, 14, 15, 16, 17, 18, 19, 83, 84, 85, 86, 87, 88, 89, 90, 40, 41, 42, 162, 163, 164, 165, 166, 167, 168, 169] (by decide +kernel) (by decide +kernel)) (goodIn_sub (fun _ h => List.mem_cons_of_mem _ (List.mem_append_left _ (List.mem_append_left _ (List.mem_append_right _ h)))) (by decide +kernel))
set_option maxRecDepth 20000 in
theorem gL_isPartSo_X8_periodByTrying : GoodIn wsL_isPartSo (wsV RL 126 RX8 yX8_periodByTrying wsX8_periodByTrying) := goodIn_app (goodIn_of _ (by decide +kernel)) ggL_isPartSo_X8_periodByTrying
set_option maxRecDepth 20000 in
theorem ggL_isPartSo_X8_isPeriod : GoodIn wsL_isPartSo wsX8_isPeriod := goodIn_ca (goodIn_ca (goodIn_r _ [94, 7, 8, 9, 10, 4, 11, 12, 13, 14, 15, 16, 17, 18, 19, 95, 96, 97, 98, 99, 100, 88, 89, 90, 40, 41, 42, 162, 163, 164, 165, 166, 167, 168, 169] (by decide +kernel) (by decide +kernel)) (goodIn_sub (fun _ h => List.mem_cons_of_mem _ (List.mem_append_left _ (List.mem_append_left _ (List.mem_append_right _ h)))) (by decide +kernel))) (goodIn_sub (fun _ h => List.mem_cons_of_mem _ (List.mem_append_left _ (List.mem_append_right _ h))) (by decide +kernel))
set_option maxRecDepth 20000 in
theorem gL_isPartSo_X8_isPeriod : GoodIn wsL_isPartSo (wsV RL 129 RX8 yX8_isPeriod wsX8_isPeriod) := goodIn_app (goodIn_of _ (by decide +kernel)) ggL_isPartSo_X8_isPeriod
set_option maxRecDepth 20000 in
theorem ggL_isPartSo_X8_rotations : GoodIn wsL_isPartSo wsX8_rotations := goodIn_ca (goodIn_r _ [104, 6, 7, 8, 9, 10, 4, 11, 12, 13, 14, 15, 16, 17, 18, 19, 47, 48, 49, 23, 50, 51, 21, 22, 24, 25, 26, 27, 28, 29, 30, 31, 32, 33, 34, 35, 36, 37, 38, 39, 40, 41, 42, 162, 163, 164, 165, 166, 167, 168, 169, 170] (by decide +kernel) (by decide +kernel)) (goodIn_sub (fun _ h => List.mem_cons_of_mem _ (List.mem_append_left _ (List.mem_append_left _ (List.mem_append_right _ h)))) (by decide +kernel))
set_option maxRecDepth 20000 in
theorem gL_isPartSo_X8_rotations : GoodIn wsL_isPartSo (wsV RL 133 RX8 yX8_rotations wsX8_rotations) := goodIn_app (goodIn_of _ (by decide +kernel)) ggL_isPartSo_X8_rotations
set_option maxRecDepth 20000 in
theorem ggL_isPartSo_X8_exponent : GoodIn wsL_isPartSo wsX8_exponent := goodIn_ca (goodIn_r _ [108, 6, 7, 8, 9, 10, 4, 11, 12, 13, 14, 15, 16, 17, 18, 19, 20, 21, 22, 23, 24, 25, 26, 27, 28, 29, 30, 31, 32, 33, 34, 35, 36, 37, 38, 39, 40, 41, 42, 109, 110, 111, 162, 163, 164, 165, 166, 167, 168, 169, 170] (by decide +kernel) (by decide +kernel)) (goodIn_sub (fun _ h => List.mem_cons_of_mem _ (List.mem_append_left _ (List.mem_append_left _ (List.mem_append_right _ h)))) (by decide +kernel))
set_option maxRecDepth 20000 in
theorem gL_isPartSo_X8_exponent : GoodIn wsL_isPartSo (wsV RL 136 RX8 yX8_exponent wsX8_exponent) := goodIn_app (goodIn_of _ (by decide +kernel)) ggL_isPartSo_X8_exponent
set_option maxRecDepth 20000 in
theorem ggL_isPartSo_X8_isNecklace : GoodIn wsL_isPartSo wsX8_isNecklace := goodIn_ca (goodIn_r _ [115, 7, 8, 9, 10, 4, 11, 12, 13, 14, 15, 16, 17, 18, 19, 56, 57, 58, 59, 60, 61, 62, 63, 64, 65, 66, 37, 38, 39, 40, 41, 42, 162, 163, 164, 165, 166, 167, 168, 169] (by decide +kernel) (by decide +kernel)) (goodIn_sub (fun _ h => List.mem_cons_of_mem _ (List.mem_append_left _ (List.mem_append_left _ (List.mem_append_right _ h)))) (by decide +kernel))
set_option maxRecDepth 20000 in
theorem gL_isPartSo_X8_isNecklace : GoodIn wsL_isPartSo (wsV RL 140 RX8 yX8_isNecklace wsX8_isNecklace) := goodIn_app (goodIn_of _ (by decide +kernel)) ggL_isPartSo_X8_isNecklace
set_option maxRecDepth 20000 in
theorem ggL_isPartSo_X8_isLyndon : GoodIn wsL_isPartSo wsX8_isLyndon := goodIn_ca (goodIn_r _ [119, 7, 8, 9, 10, 4, 11, 12, 13, 14, 15, 16, 17, 18, 19, 120, 121, 122, 123, 124, 125, 126, 127, 37, 38, 39, 40, 41, 42, 162, 163, 164, 165, 166, 167, 168, 169] (by decide +kernel) (by decide +kernel)) (goodIn_sub (fun _ h => List.mem_cons_of_mem _ (List.mem_append_left _ (List.mem_append_left _ (List.mem_append_right _ h)))) (by decide +kernel))
set_option maxRecDepth 20000 in
theorem gL_isPartSo_X8_isLyndon : GoodIn wsL_isPartSo (wsV RL 96 RX8 yX8_isLyndon wsX8_isLyndon) := goodIn_app (goodIn_of _ (by decide +kernel)) ggL_isPartSo_X8_isLyndon
set_option maxRecDepth 20000 in
theorem ggL_isPartSo_X8_periods : GoodIn wsL_isPartSo wsX8_periods := goodIn_ca (goodIn_r _ [131, 6, 7, 8, 9, 10, 4, 11, 12, 13, 14, 15, 16, 17, 18, 19, 132, 133, 134, 23, 135, 29, 25, 26, 27, 28, 30, 31, 32, 33, 34, 35, 36, 37, 38, 39, 40, 41, 42, 162, 163, 164, 165, 166, 167, 168, 169, 170] (by decide +kernel) (by decide +kernel)) (goodIn_sub (fun _ h => List.mem_cons_of_mem _ (List.mem_append_left _ (List.mem_append_left _ (List.mem_append_right _ h)))) (by decide +kernel))
set_option maxRecDepth 20000 in
theorem gL_isPartSo_X8_periods : GoodIn wsL_isPartSo (wsV RL 143 RX8 yX8_periods wsX8_periods) := goodIn_app (goodIn_of _ (by decide +kernel)) ggL_isPartSo_X8_periods
set_option maxRecDepth 20000 in
theorem ggL_isPartSo_X8_standardFactor : GoodIn wsL_isPartSo wsX8_standardFactor := goodIn_ca (goodIn_ca (goodIn_r _ [139, 140, 141, 7, 8, 9, 10, 4, 11, 12, 13, 14, 15, 16, 17, 18, 19, 120, 121, 122, 123, 124, 125, 126, 127, 37, 38, 39, 40, 41, 42, 162, 163, 164, 165, 166, 167, 168, 169] (by decide +kernel) (by decide +kernel)) (goodIn_sub (fun _ h => List.mem_cons_of_mem _ (List.mem_append_right _ h)) (by decide +kernel))) (goodIn_sub (fun _ h => List.mem_cons_of_mem _ (List.mem_append_left _ (List.mem_append_left _ (List.mem_append_right _ h)))) (by decide +kernel))
set_option maxRecDepth 20000 in
theorem gL_isPartSo_X8_standardFactor : GoodIn wsL_isPartSo (wsV RL 146 RX8 yX8_standardFactor wsX8_standardFactor) := goodIn_app (goodIn_of _ (by decide +kernel)) ggL_isPartSo_X8_standardFactor
set_option maxRecDepth 20000 in
theorem ggL_isPartSo_X8_compare : GoodIn wsL_isPartSo wsX8_compare := goodIn_ca (goodIn_r _ [145, 146, 147, 148, 149, 7, 8, 9, 10, 4, 11, 12, 13, 14, 15, 16, 17, 18, 19, 150, 151, 152, 153, 154, 155, 156, 40, 41, 42, 157, 37, 38, 39, 158, 159, 160, 161, 162, 163, 164, 165, 166, 167, 168, 169] (by decide +kernel) (by decide +kernel)) (goodIn_sub (fun _ h => List.mem_cons_of_mem _ (List.mem_append_left _ (List.mem_append_left _ (List.mem_append_right _ h)))) (by decide +kernel))
set_option maxRecDepth 20000 in
theorem gL_isPartSo_X8_compare : GoodIn wsL_isPartSo (wsV RL 107 RX8 yX8_compare wsX8_compare) := goodIn_app (goodIn_of _ (by decide +kernel)) ggL_isPartSo_X8_compare
theorem dL_isPartSo_0 : decode cL_isPartSo 0 = .ok (.iload_n 2, 1) := by decide +kernel
theorem dL_isPartSo_1 : decode cL_isPartSo 1 = .ok (.iload_n 1, 1) := by decide +kernel
theorem dL_isPartSo_2 : decode cL_isPartSo 2 = .ok (.isub, 1) := by decide +kernel
theorem dL_isPartSo_3 : decode cL_isPartSo 3 = .ok (.istore_n 3, 1) := by decide +kernel
theorem dL_isPartSo_4 : decode cL_isPartSo 4 = .ok (.aload_n 0, 1) := by decide +kernel
theorem dL_isPartSo_5 : decode cL_isPartSo 5 = .ok (.iload_n 1, 1) := by decide +kernel
theorem dL_isPartSo_6 : decode cL_isPartSo 6 = .ok (.iload_n 2, 1) := by decide +kernel
theorem dL_isPartSo_7 : decode cL_isPartSo 7 = .ok (.invokevirtual 111, 3) := by decide +kernel
theorem dL_isPartSo_10 : decode cL_isPartSo 10 = .ok (.istore 4, 2) := by decide +kernel
theorem dL_isPartSo_12 : decode cL_isPartSo 12 = .ok (.aload_n 0, 1) := by decide +kernel
theorem dL_isPartSo_13 : decode cL_isPartSo 13 = .ok (.iload_n 1, 1) := by decide +kernel
theorem dL_isPartSo_14 : decode cL_isPartSo 14 = .ok (.iload_n 2, 1) := by decide +kernel
theorem dL_isPartSo_15 : decode cL_isPartSo 15 = .ok (.invokevirtual 114, 3) := by decide +kernel
theorem dL_isPartSo_18 : decode cL_isPartSo 18 = .ok (.istore 5, 2) := by decide +kernel
theorem dL_isPartSo_20 : decode cL_isPartSo 20 = .ok (.aload_n 0, 1) := by decide +kernel
theorem dL_isPartSo_21 : decode cL_isPartSo 21 = .ok (.iload_n 1, 1) := by decide +kernel
theorem dL_isPartSo_22 : decode cL_isPartSo 22 = .ok (.iload_n 2, 1) := by decide +kernel
theorem dL_isPartSo_23 : decode cL_isPartSo 23 = .ok (.invokevirtual 117, 3) := by decide +kernel
theorem dL_isPartSo_26 : decode cL_isPartSo 26 = .ok (.istore 6, 2) := by decide +kernel
theorem dL_isPartSo_28 : decode cL_isPartSo 28 = .ok (.aload_n 0, 1) := by decide +kernel
theorem dL_isPartSo_29 : decode cL_isPartSo 29 = .ok (.iload_n 1, 1) := by decide +kernel
theorem dL_isPartSo_30 : decode cL_isPartSo 30 = .ok (.iload_n 2, 1) := by decide +kernel
theorem dL_isPartSo_31 : decode cL_isPartSo 31 = .ok (.invokevirtual 120, 3) := by decide +kernel
theorem dL_isPartSo_34 : decode cL_isPartSo 34 = .ok (.istore 7, 2) := by decide +kernel
theorem dL_isPartSo_36 : decode cL_isPartSo 36 = .ok (.iload 4, 2) := by decide +kernel
theorem dL_isPartSo_38 : decode cL_isPartSo 38 = .ok (.aload_n 0, 1) := by decide +kernel
theorem dL_isPartSo_39 : decode cL_isPartSo 39 = .ok (.iload_n 1, 1) := by decide +kernel
theorem dL_isPartSo_40 : decode cL_isPartSo 40 = .ok (.iload_n 2, 1) := by decide +kernel
theorem dL_isPartSo_41 : decode cL_isPartSo 41 = .ok (.invokevirtual 123, 3) := by decide +kernel
theorem dL_isPartSo_44 : decode cL_isPartSo 44 = .ok (.iadd, 1) := by decide +kernel
theorem dL_isPartSo_45 : decode cL_isPartSo 45 = .ok (.iload_n 3, 1) := by decide +kernel
theorem dL_isPartSo_46 : decode cL_isPartSo 46 = .ok (.if_icmp .ne 58, 3) := by decide +kernel
theorem dL_isPartSo_49 : decode cL_isPartSo 49 = .ok (.aload_n 0, 1) := by decide +kernel
theorem dL_isPartSo_50 : decode cL_isPartSo 50 = .ok (.iload_n 1, 1) := by decide +kernel
theorem dL_isPartSo_51 : decode cL_isPartSo 51 = .ok (.iload_n 2, 1) := by decide +kernel
theorem dL_isPartSo_52 : decode cL_isPartSo 52 = .ok (.invokevirtual 126, 3) := by decide +kernel
theorem dL_isPartSo_55 : decode cL_isPartSo 55 = .ok (.iload 4, 2) := by decide +kernel
theorem dL_isPartSo_57 : decode cL_isPartSo 57 = .ok (.if_icmp .ne 47, 3) := by decide +kernel
theorem dL_isPartSo_60 : decode cL_isPartSo 60 = .ok (.aload_n 0, 1) := by decide +kernel
theorem dL_isPartSo_61 : decode cL_isPartSo 61 = .ok (.iload_n 1, 1) := by decide +kernel
theorem dL_isPartSo_62 : decode cL_isPartSo 62 = .ok (.iload_n 2, 1) := by decide +kernel
theorem dL_isPartSo_63 : decode cL_isPartSo 63 = .ok (.iload 4, 2) := by decide +kernel
theorem dL_isPartSo_65 : decode cL_isPartSo 65 = .ok (.invokevirtual 129, 3) := by decide +kernel
theorem dL_isPartSo_68 : decode cL_isPartSo 68 = .ok (.ifCond .eq 36, 3) := by decide +kernel
theorem dL_isPartSo_71 : decode cL_isPartSo 71 = .ok (.aload_n 0, 1) := by decide +kernel
theorem dL_isPartSo_72 : decode cL_isPartSo 72 = .ok (.iload_n 1, 1) := by decide +kernel
theorem dL_isPartSo_73 : decode cL_isPartSo 73 = .ok (.iload_n 2, 1) := by decide +kernel
theorem dL_isPartSo_74 : decode cL_isPartSo 74 = .ok (.iload_n 3, 1) := by decide +kernel
theorem dL_isPartSo_75 : decode cL_isPartSo 75 = .ok (.invokevirtual 129, 3) := by decide +kernel
theorem dL_isPartSo_78 : decode cL_isPartSo 78 = .ok (.ifCond .eq 26, 3) := by decide +kernel
theorem dL_isPartSo_81 : decode cL_isPartSo 81 = .ok (.iload 4, 2) := by decide +kernel
theorem dL_isPartSo_83 : decode cL_isPartSo 83 = .ok (.iconst 1, 1) := by decide +kernel
theorem dL_isPartSo_84 : decode cL_isPartSo 84 = .ok (.if_icmp .eq 16, 3) := by decide +kernel
theorem dL_isPartSo_87 : decode cL_isPartSo 87 = .ok (.aload_n 0, 1) := by decide +kernel
theorem dL_isPartSo_88 : decode cL_isPartSo 88 = .ok (.iload_n 1, 1) := by decide +kernel
theorem dL_isPartSo_89 : decode cL_isPartSo 89 = .ok (.iload_n 2, 1) := by decide +kernel
theorem dL_isPartSo_90 : decode cL_isPartSo 90 = .ok (.iload 4, 2) := by decide +kernel
theorem dL_isPartSo_92 : decode cL_isPartSo 92 = .ok (.iconst 1, 1) := by decide +kernel
theorem dL_isPartSo_93 : decode cL_isPartSo 93 = .ok (.isub, 1) := by decide +kernel
theorem dL_isPartSo_94 : decode cL_isPartSo 94 = .ok (.invokevirtual 129, 3) := by decide +kernel
theorem dL_isPartSo_97 : decode cL_isPartSo 97 = .ok (.ifCond .ne 7, 3) := by decide +kernel
theorem dL_isPartSo_100 : decode cL_isPartSo 100 = .ok (.iconst 1, 1) := by decide +kernel
theorem dL_isPartSo_101 : decode cL_isPartSo 101 = .ok (.goto 4, 3) := by decide +kernel
theorem dL_isPartSo_104 : decode cL_isPartSo 104 = .ok (.iconst 0, 1) := by decide +kernel
theorem dL_isPartSo_105 : decode cL_isPartSo 105 = .ok (.istore 8, 2) := by decide +kernel
theorem dL_isPartSo_107 : decode cL_isPartSo 107 = .ok (.iload 8, 2) := by decide +kernel
theorem dL_isPartSo_109 : decode cL_isPartSo 109 = .ok (.ifCond .eq 66, 3) := by decide +kernel
theorem dL_isPartSo_112 : decode cL_isPartSo 112 = .ok (.iload_n 3, 1) := by decide +kernel
theorem dL_isPartSo_113 : decode cL_isPartSo 113 = .ok (.iload 5, 2) := by decide +kernel
theorem dL_isPartSo_115 : decode cL_isPartSo 115 = .ok (.irem, 1) := by decide +kernel
theorem dL_isPartSo_116 : decode cL_isPartSo 116 = .ok (.ifCond .ne 59, 3) := by decide +kernel
theorem dL_isPartSo_119 : decode cL_isPartSo 119 = .ok (.aload_n 0, 1) := by decide +kernel
theorem dL_isPartSo_120 : decode cL_isPartSo 120 = .ok (.iload_n 1, 1) := by decide +kernel
theorem dL_isPartSo_121 : decode cL_isPartSo 121 = .ok (.iload_n 2, 1) := by decide +kernel
theorem dL_isPartSo_122 : decode cL_isPartSo 122 = .ok (.iload 5, 2) := by decide +kernel
theorem dL_isPartSo_124 : decode cL_isPartSo 124 = .ok (.invokevirtual 129, 3) := by decide +kernel
theorem dL_isPartSo_127 : decode cL_isPartSo 127 = .ok (.ifCond .eq 48, 3) := by decide +kernel
theorem dL_isPartSo_130 : decode cL_isPartSo 130 = .ok (.aload_n 0, 1) := by decide +kernel
theorem dL_isPartSo_131 : decode cL_isPartSo 131 = .ok (.iload_n 1, 1) := by decide +kernel
theorem dL_isPartSo_132 : decode cL_isPartSo 132 = .ok (.iload_n 2, 1) := by decide +kernel
theorem dL_isPartSo_133 : decode cL_isPartSo 133 = .ok (.invokevirtual 133, 3) := by decide +kernel
theorem dL_isPartSo_136 : decode cL_isPartSo 136 = .ok (.iload 5, 2) := by decide +kernel
theorem dL_isPartSo_138 : decode cL_isPartSo 138 = .ok (.if_icmp .ne 37, 3) := by decide +kernel
theorem dL_isPartSo_141 : decode cL_isPartSo 141 = .ok (.iload_n 3, 1) := by decide +kernel
theorem dL_isPartSo_142 : decode cL_isPartSo 142 = .ok (.iload 4, 2) := by decide +kernel
theorem dL_isPartSo_144 : decode cL_isPartSo 144 = .ok (.irem, 1) := by decide +kernel
theorem dL_isPartSo_145 : decode cL_isPartSo 145 = .ok (.ifCond .ne 10, 3) := by decide +kernel
theorem dL_isPartSo_148 : decode cL_isPartSo 148 = .ok (.iload 5, 2) := by decide +kernel
theorem dL_isPartSo_150 : decode cL_isPartSo 150 = .ok (.iload 4, 2) := by decide +kernel
theorem dL_isPartSo_152 : decode cL_isPartSo 152 = .ok (.if_icmp .ne 23, 3) := by decide +kernel
theorem dL_isPartSo_155 : decode cL_isPartSo 155 = .ok (.aload_n 0, 1) := by decide +kernel
theorem dL_isPartSo_156 : decode cL_isPartSo 156 = .ok (.iload_n 1, 1) := by decide +kernel
theorem dL_isPartSo_157 : decode cL_isPartSo 157 = .ok (.iload_n 2, 1) := by decide +kernel
theorem dL_isPartSo_158 : decode cL_isPartSo 158 = .ok (.invokevirtual 136, 3) := by decide +kernel
theorem dL_isPartSo_161 : decode cL_isPartSo 161 = .ok (.iload_n 3, 1) := by decide +kernel
theorem dL_isPartSo_162 : decode cL_isPartSo 162 = .ok (.i2d, 1) := by decide +kernel
theorem dL_isPartSo_163 : decode cL_isPartSo 163 = .ok (.iload 4, 2) := by decide +kernel
theorem dL_isPartSo_165 : decode cL_isPartSo 165 = .ok (.i2d, 1) := by decide +kernel
theorem dL_isPartSo_166 : decode cL_isPartSo 166 = .ok (.ddiv, 1) := by decide +kernel
theorem dL_isPartSo_167 : decode cL_isPartSo 167 = .ok (.dcmp .l, 1) := by decide +kernel
theorem dL_isPartSo_168 : decode cL_isPartSo 168 = .ok (.ifCond .ne 7, 3) := by decide +kernel
theorem dL_isPartSo_171 : decode cL_isPartSo 171 = .ok (.iconst 1, 1) := by decide +kernel
theorem dL_isPartSo_172 : decode cL_isPartSo 172 = .ok (.goto 4, 3) := by decide +kernel
theorem dL_isPartSo_175 : decode cL_isPartSo 175 = .ok (.iconst 0, 1) := by decide +kernel
theorem dL_isPartSo_176 : decode cL_isPartSo 176 = .ok (.istore 8, 2) := by decide +kernel
theorem dL_isPartSo_178 : decode cL_isPartSo 178 = .ok (.iload 8, 2) := by decide +kernel
theorem dL_isPartSo_180 : decode cL_isPartSo 180 = .ok (.ifCond .eq 78, 3) := by decide +kernel
theorem dL_isPartSo_183 : decode cL_isPartSo 183 = .ok (.iload 6, 2) := by decide +kernel
theorem dL_isPartSo_185 : decode cL_isPartSo 185 = .ok (.iload 5, 2) := by decide +kernel
theorem dL_isPartSo_187 : decode cL_isPartSo 187 = .ok (.if_icmp .ge 71, 3) := by decide +kernel
theorem dL_isPartSo_190 : decode cL_isPartSo 190 = .ok (.iload 7, 2) := by decide +kernel
theorem dL_isPartSo_192 : decode cL_isPartSo 192 = .ok (.iload 5, 2) := by decide +kernel
theorem dL_isPartSo_194 : decode cL_isPartSo 194 = .ok (.if_icmp .ge 64, 3) := by decide +kernel
theorem dL_isPartSo_197 : decode cL_isPartSo 197 = .ok (.aload_n 0, 1) := by decide +kernel
theorem dL_isPartSo_198 : decode cL_isPartSo 198 = .ok (.iload_n 1, 1) := by decide +kernel
theorem dL_isPartSo_199 : decode cL_isPartSo 199 = .ok (.iload_n 2, 1) := by decide +kernel
theorem dL_isPartSo_200 : decode cL_isPartSo 200 = .ok (.invokevirtual 140, 3) := by decide +kernel
theorem dL_isPartSo_203 : decode cL_isPartSo 203 = .ok (.iload 6, 2) := by decide +kernel
theorem dL_isPartSo_205 : decode cL_isPartSo 205 = .ok (.ifCond .ne 7, 3) := by decide +kernel
theorem dL_isPartSo_208 : decode cL_isPartSo 208 = .ok (.iconst 1, 1) := by decide +kernel
theorem dL_isPartSo_209 : decode cL_isPartSo 209 = .ok (.goto 4, 3) := by decide +kernel
theorem dL_isPartSo_212 : decode cL_isPartSo 212 = .ok (.iconst 0, 1) := by decide +kernel
theorem dL_isPartSo_213 : decode cL_isPartSo 213 = .ok (.if_icmp .ne 45, 3) := by decide +kernel
theorem dL_isPartSo_216 : decode cL_isPartSo 216 = .ok (.aload_n 0, 1) := by decide +kernel
theorem dL_isPartSo_217 : decode cL_isPartSo 217 = .ok (.iload_n 1, 1) := by decide +kernel
theorem dL_isPartSo_218 : decode cL_isPartSo 218 = .ok (.iload_n 2, 1) := by decide +kernel
theorem dL_isPartSo_219 : decode cL_isPartSo 219 = .ok (.invokevirtual 96, 3) := by decide +kernel
theorem dL_isPartSo_222 : decode cL_isPartSo 222 = .ok (.iload 6, 2) := by decide +kernel
theorem dL_isPartSo_224 : decode cL_isPartSo 224 = .ok (.ifCond .ne 13, 3) := by decide +kernel
theorem dL_isPartSo_227 : decode cL_isPartSo 227 = .ok (.iload 5, 2) := by decide +kernel
theorem dL_isPartSo_229 : decode cL_isPartSo 229 = .ok (.iload_n 3, 1) := by decide +kernel
theorem dL_isPartSo_230 : decode cL_isPartSo 230 = .ok (.if_icmp .ne 7, 3) := by decide +kernel
theorem dL_isPartSo_233 : decode cL_isPartSo 233 = .ok (.iconst 1, 1) := by decide +kernel
theorem dL_isPartSo_234 : decode cL_isPartSo 234 = .ok (.goto 4, 3) := by decide +kernel
theorem dL_isPartSo_237 : decode cL_isPartSo 237 = .ok (.iconst 0, 1) := by decide +kernel
theorem dL_isPartSo_238 : decode cL_isPartSo 238 = .ok (.if_icmp .ne 20, 3) := by decide +kernel
theorem dL_isPartSo_241 : decode cL_isPartSo 241 = .ok (.aload_n 0, 1) := by decide +kernel
theorem dL_isPartSo_242 : decode cL_isPartSo 242 = .ok (.iload_n 1, 1) := by decide +kernel
theorem dL_isPartSo_243 : decode cL_isPartSo 243 = .ok (.iload_n 2, 1) := by decide +kernel
theorem dL_isPartSo_244 : decode cL_isPartSo 244 = .ok (.invokevirtual 143, 3) := by decide +kernel
theorem dL_isPartSo_247 : decode cL_isPartSo 247 = .ok (.iload_n 3, 1) := by decide +kernel
theorem dL_isPartSo_248 : decode cL_isPartSo 248 = .ok (.iload 4, 2) := by decide +kernel
theorem dL_isPartSo_250 : decode cL_isPartSo 250 = .ok (.idiv, 1) := by decide +kernel
theorem dL_isPartSo_251 : decode cL_isPartSo 251 = .ok (.if_icmp .lt 7, 3) := by decide +kernel
theorem dL_isPartSo_254 : decode cL_isPartSo 254 = .ok (.iconst 1, 1) := by decide +kernel
theorem dL_isPartSo_255 : decode cL_isPartSo 255 = .ok (.goto 4, 3) := by decide +kernel
theorem dL_isPartSo_258 : decode cL_isPartSo 258 = .ok (.iconst 0, 1) := by decide +kernel
theorem dL_isPartSo_259 : decode cL_isPartSo 259 = .ok (.istore 8, 2) := by decide +kernel
theorem dL_isPartSo_261 : decode cL_isPartSo 261 = .ok (.iload 8, 2) := by decide +kernel
theorem dL_isPartSo_263 : decode cL_isPartSo 263 = .ok (.ifCond .eq 74, 3) := by decide +kernel
theorem dL_isPartSo_266 : decode cL_isPartSo 266 = .ok (.aload_n 0, 1) := by decide +kernel
theorem dL_isPartSo_267 : decode cL_isPartSo 267 = .ok (.iload_n 1, 1) := by decide +kernel
theorem dL_isPartSo_268 : decode cL_isPartSo 268 = .ok (.iload_n 2, 1) := by decide +kernel
theorem dL_isPartSo_269 : decode cL_isPartSo 269 = .ok (.invokevirtual 96, 3) := by decide +kernel
theorem dL_isPartSo_272 : decode cL_isPartSo 272 = .ok (.ifCond .eq 65, 3) := by decide +kernel
theorem dL_isPartSo_275 : decode cL_isPartSo 275 = .ok (.iload_n 3, 1) := by decide +kernel
theorem dL_isPartSo_276 : decode cL_isPartSo 276 = .ok (.iconst 1, 1) := by decide +kernel
theorem dL_isPartSo_277 : decode cL_isPartSo 277 = .ok (.if_icmp .le 60, 3) := by decide +kernel
theorem dL_isPartSo_280 : decode cL_isPartSo 280 = .ok (.aload_n 0, 1) := by decide +kernel
theorem dL_isPartSo_281 : decode cL_isPartSo 281 = .ok (.iload_n 1, 1) := by decide +kernel
theorem dL_isPartSo_282 : decode cL_isPartSo 282 = .ok (.iload_n 2, 1) := by decide +kernel
theorem dL_isPartSo_283 : decode cL_isPartSo 283 = .ok (.invokevirtual 146, 3) := by decide +kernel
theorem dL_isPartSo_286 : decode cL_isPartSo 286 = .ok (.istore 9, 2) := by decide +kernel
theorem dL_isPartSo_288 : decode cL_isPartSo 288 = .ok (.aload_n 0, 1) := by decide +kernel
theorem dL_isPartSo_289 : decode cL_isPartSo 289 = .ok (.iload_n 1, 1) := by decide +kernel
theorem dL_isPartSo_290 : decode cL_isPartSo 290 = .ok (.iload 9, 2) := by decide +kernel
theorem dL_isPartSo_292 : decode cL_isPartSo 292 = .ok (.invokevirtual 96, 3) := by decide +kernel
theorem dL_isPartSo_295 : decode cL_isPartSo 295 = .ok (.ifCond .eq 39, 3) := by decide +kernel
theorem dL_isPartSo_298 : decode cL_isPartSo 298 = .ok (.aload_n 0, 1) := by decide +kernel
theorem dL_isPartSo_299 : decode cL_isPartSo 299 = .ok (.iload 9, 2) := by decide +kernel
theorem dL_isPartSo_301 : decode cL_isPartSo 301 = .ok (.iload_n 2, 1) := by decide +kernel
theorem dL_isPartSo_302 : decode cL_isPartSo 302 = .ok (.invokevirtual 96, 3) := by decide +kernel
theorem dL_isPartSo_305 : decode cL_isPartSo 305 = .ok (.ifCond .eq 29, 3) := by decide +kernel
theorem dL_isPartSo_308 : decode cL_isPartSo 308 = .ok (.aload_n 0, 1) := by decide +kernel
theorem dL_isPartSo_309 : decode cL_isPartSo 309 = .ok (.iload_n 1, 1) := by decide +kernel
theorem dL_isPartSo_310 : decode cL_isPartSo 310 = .ok (.iload 9, 2) := by decide +kernel
theorem dL_isPartSo_312 : decode cL_isPartSo 312 = .ok (.iload 9, 2) := by decide +kernel
theorem dL_isPartSo_314 : decode cL_isPartSo 314 = .ok (.iload_n 2, 1) := by decide +kernel
theorem dL_isPartSo_315 : decode cL_isPartSo 315 = .ok (.invokevirtual 107, 3) := by decide +kernel
theorem dL_isPartSo_318 : decode cL_isPartSo 318 = .ok (.ifCond .ge 16, 3) := by decide +kernel
theorem dL_isPartSo_321 : decode cL_isPartSo 321 = .ok (.aload_n 0, 1) := by decide +kernel
theorem dL_isPartSo_322 : decode cL_isPartSo 322 = .ok (.iload_n 1, 1) := by decide +kernel
theorem dL_isPartSo_323 : decode cL_isPartSo 323 = .ok (.iload_n 2, 1) := by decide +kernel
theorem dL_isPartSo_324 : decode cL_isPartSo 324 = .ok (.invokevirtual 123, 3) := by decide +kernel
theorem dL_isPartSo_327 : decode cL_isPartSo 327 = .ok (.ifCond .ne 7, 3) := by decide +kernel
theorem dL_isPartSo_330 : decode cL_isPartSo 330 = .ok (.iconst 1, 1) := by decide +kernel
theorem dL_isPartSo_331 : decode cL_isPartSo 331 = .ok (.goto 4, 3) := by decide +kernel
theorem dL_isPartSo_334 : decode cL_isPartSo 334 = .ok (.iconst 0, 1) := by decide +kernel
theorem dL_isPartSo_335 : decode cL_isPartSo 335 = .ok (.istore 8, 2) := by decide +kernel
theorem dL_isPartSo_337 : decode cL_isPartSo 337 = .ok (.iload 8, 2) := by decide +kernel
theorem dL_isPartSo_339 : decode cL_isPartSo 339 = .ok (.ireturn, 1) := by decide +kernel
set_option maxRecDepth 20000 in
theorem ggL_areSuffixesSo_X8_length : GoodIn wsL_areSuffixesSo wsX8_length := goodIn_r _ [5, 6, 7, 8, 9, 10, 11, 12, 112, 113, 114, 115, 116, 117, 118, 119] (by decide +kernel) (by decide +kernel)
set_option maxRecDepth 20000 in
theorem gL_areSuffixesSo_X8_length : GoodIn wsL_areSuffixesSo (wsV RL 49 RX8 yX8_length wsX8_length) := goodIn_app (goodIn_of _ (by decide +kernel)) ggL_areSuffixesSo_X8_length
set_option maxRecDepth 20000 in
theorem ggL_areSuffixesSo_X8_suffixAt : GoodIn wsL_areSuffixesSo wsX8_suffixAt := goodIn_ca (goodIn_r _ [16, 6, 17, 7, 8, 9, 10, 11, 12, 18, 19, 4, 20, 21, 22, 23, 24, 25, 26, 27, 28, 29, 30, 31, 32, 33, 34, 35, 36, 37, 38, 39, 40, 41, 42, 43, 44, 45, 46, 47, 48, 49, 50, 112, 113, 114, 115, 116, 117, 118, 119, 120] (by decide +kernel) (by decide +kernel)) (goodIn_sub (fun _ h => List.mem_cons_of_mem _ (List.mem_append_right _ h)) (by decide +kernel))
set_option maxRecDepth 20000 in
theorem gL_areSuffixesSo_X8_suffixAt : GoodIn wsL_areSuffixesSo (wsV RL 149 RX8 yX8_suffixAt wsX8_suffixAt) := goodIn_app (goodIn_of _ (by decide +kernel)) ggL_areSuffixesSo_X8_suffixAt
set_option maxRecDepth 20000 in
theorem ggL_areSuffixesSo_X8_rankOf : GoodIn wsL_areSuffixesSo wsX8_rankOf := goodIn_ca (goodIn_r _ [54, 6, 17, 7, 8, 9, 10, 11, 12, 18, 19, 4, 20, 21, 22, 23, 24, 25, 26, 27, 28, 29, 30, 31, 32, 33, 34, 35, 36, 37, 38, 39, 40, 41, 42, 43, 44, 45, 46, 47, 48, 49, 50, 112, 113, 114, 115, 116, 117, 118, 119, 120] (by decide +kernel) (by decide +kernel)) (goodIn_sub (fun _ h => List.mem_cons_of_mem _ (List.mem_append_right _ h)) (by decide +kernel))
set_option maxRecDepth 20000 in
theorem gL_areSuffixesSo_X8_rankOf : GoodIn wsL_areSuffixesSo (wsV RL 152 RX8 yX8_rankOf wsX8_rankOf) := goodIn_app (goodIn_of _ (by decide +kernel)) ggL_areSuffixesSo_X8_rankOf
set_option maxRecDepth 20000 in
theorem ggL_areSuffixesSo_X8_compare : GoodIn wsL_areSuffixesSo wsX8_compare := goodIn_ca (goodIn_r _ [58, 59, 60, 61, 62, 6, 63, 64, 65, 4, 66, 21, 22, 7, 8, 9, 10, 11, 12, 67, 68, 69, 70, 71, 72, 73, 44, 45, 46, 74, 41, 42, 43, 75, 76, 77, 78, 112, 113, 114, 115, 116, 117, 118, 119] (by decide +kernel) (by decide +kernel)) (goodIn_sub (fun _ h => List.mem_cons_of_mem _ (List.mem_append_right _ h)) (by decide +kernel))
set_option maxRecDepth 20000 in
theorem gL_areSuffixesSo_X8_compare : GoodIn wsL_areSuffixesSo (wsV RL 107 RX8 yX8_compare wsX8_compare) := goodIn_app (goodIn_of _ (by decide +kernel)) ggL_areSuffixesSo_X8_compare
set_option maxRecDepth 20000 in
theorem ggL_areSuffixesSo_X8_factors : GoodIn wsL_areSuffixesSo wsX8_factors := goodIn_r _ [82, 83, 6, 84, 85, 86, 87, 88, 89, 90, 91, 8, 9, 10, 11, 12, 30, 4, 31, 92, 93, 94, 95, 41, 42, 43, 44, 45, 46, 96, 97, 98, 99, 112, 113, 114, 115, 116, 117, 121, 122, 118, 119] (by decide +kernel) (by decide +kernel)
set_option maxRecDepth 20000 in
theorem gL_areSuffixesSo_X8_factors : GoodIn wsL_areSuffixesSo (wsV RL 81 RX8 yX8_factors wsX8_factors) := goodIn_app (goodIn_of _ (by decide +kernel)) ggL_areSuffixesSo_X8_factors
set_option maxRecDepth 20000 in
theorem ggL_areSuffixesSo_X8_factorStart : GoodIn wsL_areSuffixesSo wsX8_factorStart := goodIn_ca (goodIn_r _ [103, 83, 104, 105, 106, 4, 107, 6, 84, 85, 86, 87, 88, 89, 90, 91, 8, 9, 10, 11, 12, 30, 31, 92, 93, 94, 95, 41, 42, 43, 44, 45, 46, 96, 97, 98, 99, 18, 19, 20, 21, 22, 108, 109, 110, 111, 112, 113, 114, 115, 116, 117, 121, 122, 118, 119] (by decide +kernel) (by decide +kernel)) (goodIn_sub (fun _ h => List.mem_cons_of_mem _ (List.mem_append_right _ h)) (by decide +kernel))
set_option maxRecDepth 20000 in
theorem gL_areSuffixesSo_X8_factorStart : GoodIn wsL_areSuffixesSo (wsV RL 93 RX8 yX8_factorStart wsX8_factorStart) := goodIn_app (goodIn_of _ (by decide +kernel)) ggL_areSuffixesSo_X8_factorStart
theorem dL_areSuffixesSo_0 : decode cL_areSuffixesSo 0 = .ok (.aload_n 0, 1) := by decide +kernel
theorem dL_areSuffixesSo_1 : decode cL_areSuffixesSo 1 = .ok (.invokevirtual 49, 3) := by decide +kernel
theorem dL_areSuffixesSo_4 : decode cL_areSuffixesSo 4 = .ok (.istore_n 1, 1) := by decide +kernel
theorem dL_areSuffixesSo_5 : decode cL_areSuffixesSo 5 = .ok (.iconst 1, 1) := by decide +kernel
theorem dL_areSuffixesSo_6 : decode cL_areSuffixesSo 6 = .ok (.istore_n 2, 1) := by decide +kernel
theorem dL_areSuffixesSo_7 : decode cL_areSuffixesSo 7 = .ok (.iconst 0, 1) := by decide +kernel
theorem dL_areSuffixesSo_8 : decode cL_areSuffixesSo 8 = .ok (.istore_n 3, 1) := by decide +kernel
theorem dL_areSuffixesSo_9 : decode cL_areSuffixesSo 9 = .ok (.iload_n 3, 1) := by decide +kernel
theorem dL_areSuffixesSo_10 : decode cL_areSuffixesSo 10 = .ok (.iload_n 1, 1) := by decide +kernel
theorem dL_areSuffixesSo_11 : decode cL_areSuffixesSo 11 = .ok (.if_icmp .ge 58, 3) := by decide +kernel
theorem dL_areSuffixesSo_14 : decode cL_areSuffixesSo 14 = .ok (.iload_n 2, 1) := by decide +kernel
theorem dL_areSuffixesSo_15 : decode cL_areSuffixesSo 15 = .ok (.ifCond .eq 54, 3) := by decide +kernel
theorem dL_areSuffixesSo_18 : decode cL_areSuffixesSo 18 = .ok (.aload_n 0, 1) := by decide +kernel
theorem dL_areSuffixesSo_19 : decode cL_areSuffixesSo 19 = .ok (.iload_n 3, 1) := by decide +kernel
theorem dL_areSuffixesSo_20 : decode cL_areSuffixesSo 20 = .ok (.invokevirtual 149, 3) := by decide +kernel
theorem dL_areSuffixesSo_23 : decode cL_areSuffixesSo 23 = .ok (.istore 4, 2) := by decide +kernel
theorem dL_areSuffixesSo_25 : decode cL_areSuffixesSo 25 = .ok (.aload_n 0, 1) := by decide +kernel
theorem dL_areSuffixesSo_26 : decode cL_areSuffixesSo 26 = .ok (.iload 4, 2) := by decide +kernel
theorem dL_areSuffixesSo_28 : decode cL_areSuffixesSo 28 = .ok (.invokevirtual 152, 3) := by decide +kernel
theorem dL_areSuffixesSo_31 : decode cL_areSuffixesSo 31 = .ok (.iload_n 3, 1) := by decide +kernel
theorem dL_areSuffixesSo_32 : decode cL_areSuffixesSo 32 = .ok (.if_icmp .ne 29, 3) := by decide +kernel
theorem dL_areSuffixesSo_35 : decode cL_areSuffixesSo 35 = .ok (.iload_n 3, 1) := by decide +kernel
theorem dL_areSuffixesSo_36 : decode cL_areSuffixesSo 36 = .ok (.ifCond .eq 21, 3) := by decide +kernel
theorem dL_areSuffixesSo_39 : decode cL_areSuffixesSo 39 = .ok (.aload_n 0, 1) := by decide +kernel
theorem dL_areSuffixesSo_40 : decode cL_areSuffixesSo 40 = .ok (.aload_n 0, 1) := by decide +kernel
theorem dL_areSuffixesSo_41 : decode cL_areSuffixesSo 41 = .ok (.iload_n 3, 1) := by decide +kernel
theorem dL_areSuffixesSo_42 : decode cL_areSuffixesSo 42 = .ok (.iconst 1, 1) := by decide +kernel
theorem dL_areSuffixesSo_43 : decode cL_areSuffixesSo 43 = .ok (.isub, 1) := by decide +kernel
theorem dL_areSuffixesSo_44 : decode cL_areSuffixesSo 44 = .ok (.invokevirtual 149, 3) := by decide +kernel
theorem dL_areSuffixesSo_47 : decode cL_areSuffixesSo 47 = .ok (.iload_n 1, 1) := by decide +kernel
theorem dL_areSuffixesSo_48 : decode cL_areSuffixesSo 48 = .ok (.iload 4, 2) := by decide +kernel
theorem dL_areSuffixesSo_50 : decode cL_areSuffixesSo 50 = .ok (.iload_n 1, 1) := by decide +kernel
theorem dL_areSuffixesSo_51 : decode cL_areSuffixesSo 51 = .ok (.invokevirtual 107, 3) := by decide +kernel
theorem dL_areSuffixesSo_54 : decode cL_areSuffixesSo 54 = .ok (.ifCond .ge 7, 3) := by decide +kernel
theorem dL_areSuffixesSo_57 : decode cL_areSuffixesSo 57 = .ok (.iconst 1, 1) := by decide +kernel
theorem dL_areSuffixesSo_58 : decode cL_areSuffixesSo 58 = .ok (.goto 4, 3) := by decide +kernel
theorem dL_areSuffixesSo_61 : decode cL_areSuffixesSo 61 = .ok (.iconst 0, 1) := by decide +kernel
theorem dL_areSuffixesSo_62 : decode cL_areSuffixesSo 62 = .ok (.istore_n 2, 1) := by decide +kernel
theorem dL_areSuffixesSo_63 : decode cL_areSuffixesSo 63 = .ok (.iinc 3 1, 3) := by decide +kernel
theorem dL_areSuffixesSo_66 : decode cL_areSuffixesSo 66 = .ok (.goto (-57), 3) := by decide +kernel
theorem dL_areSuffixesSo_69 : decode cL_areSuffixesSo 69 = .ok (.iload_n 2, 1) := by decide +kernel
theorem dL_areSuffixesSo_70 : decode cL_areSuffixesSo 70 = .ok (.ifCond .eq 29, 3) := by decide +kernel
theorem dL_areSuffixesSo_73 : decode cL_areSuffixesSo 73 = .ok (.iload_n 1, 1) := by decide +kernel
theorem dL_areSuffixesSo_74 : decode cL_areSuffixesSo 74 = .ok (.ifCond .eq 21, 3) := by decide +kernel
theorem dL_areSuffixesSo_77 : decode cL_areSuffixesSo 77 = .ok (.aload_n 0, 1) := by decide +kernel
theorem dL_areSuffixesSo_78 : decode cL_areSuffixesSo 78 = .ok (.iconst 0, 1) := by decide +kernel
theorem dL_areSuffixesSo_79 : decode cL_areSuffixesSo 79 = .ok (.invokevirtual 149, 3) := by decide +kernel
theorem dL_areSuffixesSo_82 : decode cL_areSuffixesSo 82 = .ok (.aload_n 0, 1) := by decide +kernel
theorem dL_areSuffixesSo_83 : decode cL_areSuffixesSo 83 = .ok (.aload_n 0, 1) := by decide +kernel
theorem dL_areSuffixesSo_84 : decode cL_areSuffixesSo 84 = .ok (.invokevirtual 81, 3) := by decide +kernel
theorem dL_areSuffixesSo_87 : decode cL_areSuffixesSo 87 = .ok (.iconst 1, 1) := by decide +kernel
theorem dL_areSuffixesSo_88 : decode cL_areSuffixesSo 88 = .ok (.isub, 1) := by decide +kernel
theorem dL_areSuffixesSo_89 : decode cL_areSuffixesSo 89 = .ok (.invokevirtual 93, 3) := by decide +kernel
theorem dL_areSuffixesSo_92 : decode cL_areSuffixesSo 92 = .ok (.if_icmp .ne 7, 3) := by decide +kernel
theorem dL_areSuffixesSo_95 : decode cL_areSuffixesSo 95 = .ok (.iconst 1, 1) := by decide +kernel
theorem dL_areSuffixesSo_96 : decode cL_areSuffixesSo 96 = .ok (.goto 4, 3) := by decide +kernel
theorem dL_areSuffixesSo_99 : decode cL_areSuffixesSo 99 = .ok (.iconst 0, 1) := by decide +kernel
theorem dL_areSuffixesSo_100 : decode cL_areSuffixesSo 100 = .ok (.ireturn, 1) := by decide +kernel
set_option maxRecDepth 20000 in
theorem ggL_areRunsSo_X8_length : GoodIn wsL_areRunsSo wsX8_length := goodIn_r _ [5, 6, 7, 8, 9, 10, 11, 12, 140, 141, 142, 143, 144, 145, 146, 147] (by decide +kernel) (by decide +kernel)
set_option maxRecDepth 20000 in
theorem gL_areRunsSo_X8_length : GoodIn wsL_areRunsSo (wsV RL 49 RX8 yX8_length wsX8_length) := goodIn_app (goodIn_of _ (by decide +kernel)) ggL_areRunsSo_X8_length
set_option maxRecDepth 20000 in
theorem ggL_areRunsSo_X8_runs : GoodIn wsL_areRunsSo wsX8_runs := goodIn_r _ [16, 17, 6, 18, 19, 20, 21, 22, 23, 24, 8, 9, 10, 11, 12, 25, 26, 27, 28, 29, 30, 31, 32, 33, 34, 35, 36, 37, 4, 38, 39, 40, 41, 42, 43, 44, 45, 46, 47, 48, 49, 50, 51, 52, 53, 54, 55, 56, 57, 58, 59, 60, 140, 141, 142, 143, 144, 145, 148, 149, 150, 151, 146, 147] (by decide +kernel) (by decide +kernel)
set_option maxRecDepth 20000 in
theorem gL_areRunsSo_X8_runs : GoodIn wsL_areRunsSo (wsV RL 84 RX8 yX8_runs wsX8_runs) := goodIn_app (goodIn_of _ (by decide +kernel)) ggL_areRunsSo_X8_runs
set_option maxRecDepth 20000 in
theorem ggL_areRunsSo_X8_runStart : GoodIn wsL_areRunsSo wsX8_runStart := goodIn_ca (goodIn_r _ [64, 17, 65, 66, 67, 4, 68, 6, 18, 19, 20, 21, 22, 23, 24, 8, 9, 10, 11, 12, 25, 26, 27, 28, 29, 30, 31, 32, 33, 34, 35, 36, 37, 38, 39, 40, 41, 42, 43, 44, 45, 46, 47, 48, 49, 50, 51, 52, 53, 54, 55, 56, 57, 58, 59, 60, 69, 70, 71, 72, 73, 74, 75, 76, 77, 140, 141, 142, 143, 144, 145, 148, 149, 150, 151, 146, 147] (by decide +kernel) (by decide +kernel)) (goodIn_sub (fun _ h => List.mem_cons_of_mem _ (List.mem_append_left _ (List.mem_append_right _ h))) (by decide +kernel))
set_option maxRecDepth 20000 in
theorem gL_areRunsSo_X8_runStart : GoodIn wsL_areRunsSo (wsV RL 155 RX8 yX8_runStart wsX8_runStart) := goodIn_app (goodIn_of _ (by decide +kernel)) ggL_areRunsSo_X8_runStart
set_option maxRecDepth 20000 in
theorem ggL_areRunsSo_X8_runEnd : GoodIn wsL_areRunsSo wsX8_runEnd := goodIn_ca (goodIn_r _ [81, 17, 65, 66, 67, 4, 68, 6, 18, 19, 20, 21, 22, 23, 24, 8, 9, 10, 11, 12, 25, 26, 27, 28, 29, 30, 31, 32, 33, 34, 35, 36, 37, 38, 39, 40, 41, 42, 43, 44, 45, 46, 47, 48, 49, 50, 51, 52, 53, 54, 55, 56, 57, 58, 59, 60, 69, 70, 71, 72, 73, 82, 83, 84, 85, 140, 141, 142, 143, 144, 145, 148, 149, 150, 151, 146, 147] (by decide +kernel) (by decide +kernel)) (goodIn_sub (fun _ h => List.mem_cons_of_mem _ (List.mem_append_left _ (List.mem_append_right _ h))) (by decide +kernel))
set_option maxRecDepth 20000 in
theorem gL_areRunsSo_X8_runEnd : GoodIn wsL_areRunsSo (wsV RL 158 RX8 yX8_runEnd wsX8_runEnd) := goodIn_app (goodIn_of _ (by decide +kernel)) ggL_areRunsSo_X8_runEnd
set_option maxRecDepth 20000 in
theorem ggL_areRunsSo_X8_runPeriod : GoodIn wsL_areRunsSo wsX8_runPeriod := goodIn_ca (goodIn_r _ [89, 17, 65, 66, 67, 4, 68, 6, 18, 19, 20, 21, 22, 23, 24, 8, 9, 10, 11, 12, 25, 26, 27, 28, 29, 30, 31, 32, 33, 34, 35, 36, 37, 38, 39, 40, 41, 42, 43, 44, 45, 46, 47, 48, 49, 50, 51, 52, 53, 54, 55, 56, 57, 58, 59, 60, 69, 70, 71, 72, 73, 90, 91, 92, 93, 140, 141, 142, 143, 144, 145, 148, 149, 150, 151, 146, 147] (by decide +kernel) (by decide +kernel)) (goodIn_sub (fun _ h => List.mem_cons_of_mem _ (List.mem_append_left _ (List.mem_append_right _ h))) (by decide +kernel))
set_option maxRecDepth 20000 in
theorem gL_areRunsSo_X8_runPeriod : GoodIn wsL_areRunsSo (wsV RL 161 RX8 yX8_runPeriod wsX8_runPeriod) := goodIn_app (goodIn_of _ (by decide +kernel)) ggL_areRunsSo_X8_runPeriod
set_option maxRecDepth 20000 in
theorem ggL_areRunsSo_X8_period : GoodIn wsL_areRunsSo wsX8_period := goodIn_ca (goodIn_r _ [97, 98, 6, 99, 100, 101, 4, 102, 72, 73, 7, 8, 9, 10, 11, 12, 103, 104, 105, 106, 107, 108, 109, 110, 111, 112, 55, 56, 113, 114, 115, 116, 117, 33, 34, 35, 36, 37, 38, 140, 141, 142, 143, 144, 145, 146, 147, 152] (by decide +kernel) (by decide +kernel)) (goodIn_sub (fun _ h => List.mem_cons_of_mem _ (List.mem_append_left _ (List.mem_append_right _ h))) (by decide +kernel))
set_option maxRecDepth 20000 in
theorem gL_areRunsSo_X8_period : GoodIn wsL_areRunsSo (wsV RL 111 RX8 yX8_period wsX8_period) := goodIn_app (goodIn_of _ (by decide +kernel)) ggL_areRunsSo_X8_period
set_option maxRecDepth 20000 in
theorem ggL_areRunsSo_X8_isPeriod : GoodIn wsL_areRunsSo wsX8_isPeriod := goodIn_ca (goodIn_ca (goodIn_r _ [121, 6, 99, 100, 101, 4, 102, 72, 73, 7, 8, 9, 10, 11, 12, 122, 123, 124, 125, 126, 127, 52, 53, 54, 36, 37, 38, 140, 141, 142, 143, 144, 145, 146, 147] (by decide +kernel) (by decide +kernel)) (goodIn_sub (fun _ h => List.mem_cons_of_mem _ (List.mem_append_left _ (List.mem_append_right _ h))) (by decide +kernel))) (goodIn_sub (fun _ h => List.mem_cons_of_mem _ (List.mem_append_right _ h)) (by decide +kernel))
set_option maxRecDepth 20000 in
theorem gL_areRunsSo_X8_isPeriod : GoodIn wsL_areRunsSo (wsV RL 129 RX8 yX8_isPeriod wsX8_isPeriod) := goodIn_app (goodIn_of _ (by decide +kernel)) ggL_areRunsSo_X8_isPeriod
set_option maxRecDepth 20000 in
theorem ggL_areRunsSo_X8_runsOver : GoodIn wsL_areRunsSo wsX8_runsOver := goodIn_ca (goodIn_r _ [131, 6, 17, 7, 8, 9, 10, 11, 12, 69, 70, 4, 71, 72, 73, 18, 19, 20, 21, 22, 23, 24, 25, 26, 27, 28, 29, 30, 31, 32, 33, 34, 35, 36, 37, 38, 39, 40, 41, 42, 43, 44, 45, 46, 47, 48, 49, 50, 51, 52, 53, 54, 55, 56, 57, 58, 59, 60, 74, 75, 76, 77, 82, 83, 84, 85, 140, 141, 142, 143, 144, 145, 146, 147, 148, 149, 150, 151] (by decide +kernel) (by decide +kernel)) (goodIn_sub (fun _ h => List.mem_cons_of_mem _ (List.mem_append_left _ (List.mem_append_right _ h))) (by decide +kernel))
set_option maxRecDepth 20000 in
theorem gL_areRunsSo_X8_runsOver : GoodIn wsL_areRunsSo (wsV RL 164 RX8 yX8_runsOver wsX8_runsOver) := goodIn_app (goodIn_of _ (by decide +kernel)) ggL_areRunsSo_X8_runsOver
set_option maxRecDepth 20000 in
theorem ggL_areRunsSo_X8_squares : GoodIn wsL_areRunsSo wsX8_squares := goodIn_r _ [135, 17, 6, 18, 19, 20, 21, 22, 23, 24, 8, 9, 10, 11, 12, 25, 26, 27, 28, 29, 30, 31, 32, 33, 34, 35, 36, 37, 4, 38, 39, 40, 41, 42, 43, 44, 45, 46, 47, 48, 49, 50, 51, 52, 53, 54, 55, 56, 57, 58, 59, 60, 136, 137, 138, 139, 90, 91, 92, 93, 140, 141, 142, 143, 144, 145, 148, 149, 150, 151, 146, 147] (by decide +kernel) (by decide +kernel)
set_option maxRecDepth 20000 in
theorem gL_areRunsSo_X8_squares : GoodIn wsL_areRunsSo (wsV RL 167 RX8 yX8_squares wsX8_squares) := goodIn_app (goodIn_of _ (by decide +kernel)) ggL_areRunsSo_X8_squares
theorem dL_areRunsSo_0 : decode cL_areRunsSo 0 = .ok (.aload_n 0, 1) := by decide +kernel
theorem dL_areRunsSo_1 : decode cL_areRunsSo 1 = .ok (.invokevirtual 49, 3) := by decide +kernel
theorem dL_areRunsSo_4 : decode cL_areRunsSo 4 = .ok (.istore_n 1, 1) := by decide +kernel
theorem dL_areRunsSo_5 : decode cL_areRunsSo 5 = .ok (.iconst 1, 1) := by decide +kernel
theorem dL_areRunsSo_6 : decode cL_areRunsSo 6 = .ok (.istore_n 2, 1) := by decide +kernel
theorem dL_areRunsSo_7 : decode cL_areRunsSo 7 = .ok (.iconst 0, 1) := by decide +kernel
theorem dL_areRunsSo_8 : decode cL_areRunsSo 8 = .ok (.istore_n 3, 1) := by decide +kernel
theorem dL_areRunsSo_9 : decode cL_areRunsSo 9 = .ok (.iload_n 3, 1) := by decide +kernel
theorem dL_areRunsSo_10 : decode cL_areRunsSo 10 = .ok (.aload_n 0, 1) := by decide +kernel
theorem dL_areRunsSo_11 : decode cL_areRunsSo 11 = .ok (.invokevirtual 84, 3) := by decide +kernel
theorem dL_areRunsSo_14 : decode cL_areRunsSo 14 = .ok (.if_icmp .ge 176, 3) := by decide +kernel
theorem dL_areRunsSo_17 : decode cL_areRunsSo 17 = .ok (.iload_n 2, 1) := by decide +kernel
theorem dL_areRunsSo_18 : decode cL_areRunsSo 18 = .ok (.ifCond .eq 172, 3) := by decide +kernel
theorem dL_areRunsSo_21 : decode cL_areRunsSo 21 = .ok (.aload_n 0, 1) := by decide +kernel
theorem dL_areRunsSo_22 : decode cL_areRunsSo 22 = .ok (.iload_n 3, 1) := by decide +kernel
theorem dL_areRunsSo_23 : decode cL_areRunsSo 23 = .ok (.invokevirtual 155, 3) := by decide +kernel
theorem dL_areRunsSo_26 : decode cL_areRunsSo 26 = .ok (.istore 4, 2) := by decide +kernel
theorem dL_areRunsSo_28 : decode cL_areRunsSo 28 = .ok (.aload_n 0, 1) := by decide +kernel
theorem dL_areRunsSo_29 : decode cL_areRunsSo 29 = .ok (.iload_n 3, 1) := by decide +kernel
theorem dL_areRunsSo_30 : decode cL_areRunsSo 30 = .ok (.invokevirtual 158, 3) := by decide +kernel
theorem dL_areRunsSo_33 : decode cL_areRunsSo 33 = .ok (.istore 5, 2) := by decide +kernel
theorem dL_areRunsSo_35 : decode cL_areRunsSo 35 = .ok (.aload_n 0, 1) := by decide +kernel
theorem dL_areRunsSo_36 : decode cL_areRunsSo 36 = .ok (.iload_n 3, 1) := by decide +kernel
theorem dL_areRunsSo_37 : decode cL_areRunsSo 37 = .ok (.invokevirtual 161, 3) := by decide +kernel
theorem dL_areRunsSo_40 : decode cL_areRunsSo 40 = .ok (.istore 6, 2) := by decide +kernel
theorem dL_areRunsSo_42 : decode cL_areRunsSo 42 = .ok (.aload_n 0, 1) := by decide +kernel
theorem dL_areRunsSo_43 : decode cL_areRunsSo 43 = .ok (.iload 4, 2) := by decide +kernel
theorem dL_areRunsSo_45 : decode cL_areRunsSo 45 = .ok (.iload 5, 2) := by decide +kernel
theorem dL_areRunsSo_47 : decode cL_areRunsSo 47 = .ok (.invokevirtual 111, 3) := by decide +kernel
theorem dL_areRunsSo_50 : decode cL_areRunsSo 50 = .ok (.iload 6, 2) := by decide +kernel
theorem dL_areRunsSo_52 : decode cL_areRunsSo 52 = .ok (.if_icmp .ne 80, 3) := by decide +kernel
theorem dL_areRunsSo_55 : decode cL_areRunsSo 55 = .ok (.iload 5, 2) := by decide +kernel
theorem dL_areRunsSo_57 : decode cL_areRunsSo 57 = .ok (.iload 4, 2) := by decide +kernel
theorem dL_areRunsSo_59 : decode cL_areRunsSo 59 = .ok (.isub, 1) := by decide +kernel
theorem dL_areRunsSo_60 : decode cL_areRunsSo 60 = .ok (.iconst 2, 1) := by decide +kernel
theorem dL_areRunsSo_61 : decode cL_areRunsSo 61 = .ok (.iload 6, 2) := by decide +kernel
theorem dL_areRunsSo_63 : decode cL_areRunsSo 63 = .ok (.imul, 1) := by decide +kernel
theorem dL_areRunsSo_64 : decode cL_areRunsSo 64 = .ok (.if_icmp .lt 68, 3) := by decide +kernel
theorem dL_areRunsSo_67 : decode cL_areRunsSo 67 = .ok (.iload 4, 2) := by decide +kernel
theorem dL_areRunsSo_69 : decode cL_areRunsSo 69 = .ok (.ifCond .eq 18, 3) := by decide +kernel
theorem dL_areRunsSo_72 : decode cL_areRunsSo 72 = .ok (.aload_n 0, 1) := by decide +kernel
theorem dL_areRunsSo_73 : decode cL_areRunsSo 73 = .ok (.iload 4, 2) := by decide +kernel
theorem dL_areRunsSo_75 : decode cL_areRunsSo 75 = .ok (.iconst 1, 1) := by decide +kernel
theorem dL_areRunsSo_76 : decode cL_areRunsSo 76 = .ok (.isub, 1) := by decide +kernel
theorem dL_areRunsSo_77 : decode cL_areRunsSo 77 = .ok (.iload 5, 2) := by decide +kernel
theorem dL_areRunsSo_79 : decode cL_areRunsSo 79 = .ok (.iload 6, 2) := by decide +kernel
theorem dL_areRunsSo_81 : decode cL_areRunsSo 81 = .ok (.invokevirtual 129, 3) := by decide +kernel
theorem dL_areRunsSo_84 : decode cL_areRunsSo 84 = .ok (.ifCond .ne 48, 3) := by decide +kernel
theorem dL_areRunsSo_87 : decode cL_areRunsSo 87 = .ok (.iload 5, 2) := by decide +kernel
theorem dL_areRunsSo_89 : decode cL_areRunsSo 89 = .ok (.iload_n 1, 1) := by decide +kernel
theorem dL_areRunsSo_90 : decode cL_areRunsSo 90 = .ok (.if_icmp .eq 18, 3) := by decide +kernel
theorem dL_areRunsSo_93 : decode cL_areRunsSo 93 = .ok (.aload_n 0, 1) := by decide +kernel
theorem dL_areRunsSo_94 : decode cL_areRunsSo 94 = .ok (.iload 4, 2) := by decide +kernel
theorem dL_areRunsSo_96 : decode cL_areRunsSo 96 = .ok (.iload 5, 2) := by decide +kernel
theorem dL_areRunsSo_98 : decode cL_areRunsSo 98 = .ok (.iconst 1, 1) := by decide +kernel
theorem dL_areRunsSo_99 : decode cL_areRunsSo 99 = .ok (.iadd, 1) := by decide +kernel
theorem dL_areRunsSo_100 : decode cL_areRunsSo 100 = .ok (.iload 6, 2) := by decide +kernel
theorem dL_areRunsSo_102 : decode cL_areRunsSo 102 = .ok (.invokevirtual 129, 3) := by decide +kernel
theorem dL_areRunsSo_105 : decode cL_areRunsSo 105 = .ok (.ifCond .ne 27, 3) := by decide +kernel
theorem dL_areRunsSo_108 : decode cL_areRunsSo 108 = .ok (.aload_n 0, 1) := by decide +kernel
theorem dL_areRunsSo_109 : decode cL_areRunsSo 109 = .ok (.iload 4, 2) := by decide +kernel
theorem dL_areRunsSo_111 : decode cL_areRunsSo 111 = .ok (.invokevirtual 164, 3) := by decide +kernel
theorem dL_areRunsSo_114 : decode cL_areRunsSo 114 = .ok (.ifCond .le 18, 3) := by decide +kernel
theorem dL_areRunsSo_117 : decode cL_areRunsSo 117 = .ok (.aload_n 0, 1) := by decide +kernel
theorem dL_areRunsSo_118 : decode cL_areRunsSo 118 = .ok (.iload 5, 2) := by decide +kernel
theorem dL_areRunsSo_120 : decode cL_areRunsSo 120 = .ok (.iconst 1, 1) := by decide +kernel
theorem dL_areRunsSo_121 : decode cL_areRunsSo 121 = .ok (.isub, 1) := by decide +kernel
theorem dL_areRunsSo_122 : decode cL_areRunsSo 122 = .ok (.invokevirtual 164, 3) := by decide +kernel
theorem dL_areRunsSo_125 : decode cL_areRunsSo 125 = .ok (.ifCond .le 7, 3) := by decide +kernel
theorem dL_areRunsSo_128 : decode cL_areRunsSo 128 = .ok (.iconst 1, 1) := by decide +kernel
theorem dL_areRunsSo_129 : decode cL_areRunsSo 129 = .ok (.goto 4, 3) := by decide +kernel
theorem dL_areRunsSo_132 : decode cL_areRunsSo 132 = .ok (.iconst 0, 1) := by decide +kernel
theorem dL_areRunsSo_133 : decode cL_areRunsSo 133 = .ok (.istore_n 2, 1) := by decide +kernel
theorem dL_areRunsSo_134 : decode cL_areRunsSo 134 = .ok (.iload_n 2, 1) := by decide +kernel
theorem dL_areRunsSo_135 : decode cL_areRunsSo 135 = .ok (.ifCond .eq 47, 3) := by decide +kernel
theorem dL_areRunsSo_138 : decode cL_areRunsSo 138 = .ok (.iload_n 3, 1) := by decide +kernel
theorem dL_areRunsSo_139 : decode cL_areRunsSo 139 = .ok (.ifCond .eq 39, 3) := by decide +kernel
theorem dL_areRunsSo_142 : decode cL_areRunsSo 142 = .ok (.aload_n 0, 1) := by decide +kernel
theorem dL_areRunsSo_143 : decode cL_areRunsSo 143 = .ok (.iload_n 3, 1) := by decide +kernel
theorem dL_areRunsSo_144 : decode cL_areRunsSo 144 = .ok (.iconst 1, 1) := by decide +kernel
theorem dL_areRunsSo_145 : decode cL_areRunsSo 145 = .ok (.isub, 1) := by decide +kernel
theorem dL_areRunsSo_146 : decode cL_areRunsSo 146 = .ok (.invokevirtual 155, 3) := by decide +kernel
theorem dL_areRunsSo_149 : decode cL_areRunsSo 149 = .ok (.iload 4, 2) := by decide +kernel
theorem dL_areRunsSo_151 : decode cL_areRunsSo 151 = .ok (.if_icmp .lt 27, 3) := by decide +kernel
theorem dL_areRunsSo_154 : decode cL_areRunsSo 154 = .ok (.aload_n 0, 1) := by decide +kernel
theorem dL_areRunsSo_155 : decode cL_areRunsSo 155 = .ok (.iload_n 3, 1) := by decide +kernel
theorem dL_areRunsSo_156 : decode cL_areRunsSo 156 = .ok (.iconst 1, 1) := by decide +kernel
theorem dL_areRunsSo_157 : decode cL_areRunsSo 157 = .ok (.isub, 1) := by decide +kernel
theorem dL_areRunsSo_158 : decode cL_areRunsSo 158 = .ok (.invokevirtual 155, 3) := by decide +kernel
theorem dL_areRunsSo_161 : decode cL_areRunsSo 161 = .ok (.iload 4, 2) := by decide +kernel
theorem dL_areRunsSo_163 : decode cL_areRunsSo 163 = .ok (.if_icmp .ne 19, 3) := by decide +kernel
theorem dL_areRunsSo_166 : decode cL_areRunsSo 166 = .ok (.aload_n 0, 1) := by decide +kernel
theorem dL_areRunsSo_167 : decode cL_areRunsSo 167 = .ok (.iload_n 3, 1) := by decide +kernel
theorem dL_areRunsSo_168 : decode cL_areRunsSo 168 = .ok (.iconst 1, 1) := by decide +kernel
theorem dL_areRunsSo_169 : decode cL_areRunsSo 169 = .ok (.isub, 1) := by decide +kernel
theorem dL_areRunsSo_170 : decode cL_areRunsSo 170 = .ok (.invokevirtual 161, 3) := by decide +kernel
theorem dL_areRunsSo_173 : decode cL_areRunsSo 173 = .ok (.iload 6, 2) := by decide +kernel
theorem dL_areRunsSo_175 : decode cL_areRunsSo 175 = .ok (.if_icmp .ge 7, 3) := by decide +kernel
theorem dL_areRunsSo_178 : decode cL_areRunsSo 178 = .ok (.iconst 1, 1) := by decide +kernel
theorem dL_areRunsSo_179 : decode cL_areRunsSo 179 = .ok (.goto 4, 3) := by decide +kernel
theorem dL_areRunsSo_182 : decode cL_areRunsSo 182 = .ok (.iconst 0, 1) := by decide +kernel
theorem dL_areRunsSo_183 : decode cL_areRunsSo 183 = .ok (.istore_n 2, 1) := by decide +kernel
theorem dL_areRunsSo_184 : decode cL_areRunsSo 184 = .ok (.iinc 3 1, 3) := by decide +kernel
theorem dL_areRunsSo_187 : decode cL_areRunsSo 187 = .ok (.goto (-178), 3) := by decide +kernel
theorem dL_areRunsSo_190 : decode cL_areRunsSo 190 = .ok (.iload_n 2, 1) := by decide +kernel
theorem dL_areRunsSo_191 : decode cL_areRunsSo 191 = .ok (.ifCond .eq 34, 3) := by decide +kernel
theorem dL_areRunsSo_194 : decode cL_areRunsSo 194 = .ok (.aload_n 0, 1) := by decide +kernel
theorem dL_areRunsSo_195 : decode cL_areRunsSo 195 = .ok (.invokevirtual 167, 3) := by decide +kernel
theorem dL_areRunsSo_198 : decode cL_areRunsSo 198 = .ok (.ifCond .le 7, 3) := by decide +kernel
theorem dL_areRunsSo_201 : decode cL_areRunsSo 201 = .ok (.iconst 1, 1) := by decide +kernel
theorem dL_areRunsSo_202 : decode cL_areRunsSo 202 = .ok (.goto 4, 3) := by decide +kernel
theorem dL_areRunsSo_205 : decode cL_areRunsSo 205 = .ok (.iconst 0, 1) := by decide +kernel
theorem dL_areRunsSo_206 : decode cL_areRunsSo 206 = .ok (.aload_n 0, 1) := by decide +kernel
theorem dL_areRunsSo_207 : decode cL_areRunsSo 207 = .ok (.invokevirtual 84, 3) := by decide +kernel
theorem dL_areRunsSo_210 : decode cL_areRunsSo 210 = .ok (.ifCond .le 7, 3) := by decide +kernel
theorem dL_areRunsSo_213 : decode cL_areRunsSo 213 = .ok (.iconst 1, 1) := by decide +kernel
theorem dL_areRunsSo_214 : decode cL_areRunsSo 214 = .ok (.goto 4, 3) := by decide +kernel
theorem dL_areRunsSo_217 : decode cL_areRunsSo 217 = .ok (.iconst 0, 1) := by decide +kernel
theorem dL_areRunsSo_218 : decode cL_areRunsSo 218 = .ok (.if_icmp .ne 7, 3) := by decide +kernel
theorem dL_areRunsSo_221 : decode cL_areRunsSo 221 = .ok (.iconst 1, 1) := by decide +kernel
theorem dL_areRunsSo_222 : decode cL_areRunsSo 222 = .ok (.goto 4, 3) := by decide +kernel
theorem dL_areRunsSo_225 : decode cL_areRunsSo 225 = .ok (.iconst 0, 1) := by decide +kernel
theorem dL_areRunsSo_226 : decode cL_areRunsSo 226 = .ok (.ireturn, 1) := by decide +kernel
set_option maxRecDepth 20000 in
theorem ggL_law_X8_init : GoodIn wsL_law wsX8_init := goodIn_r _ [6, 7, 8, 9, 10, 11, 12, 13, 14, 15, 16, 17, 18, 19, 20, 21, 22, 23, 24, 25, 26, 27, 28, 29, 30, 31, 32, 33, 34, 35, 36, 37, 38, 39, 40, 41, 42, 43, 44, 45, 46, 47, 48, 49, 50, 51, 52, 53, 54, 55, 56, 57, 58, 59, 60, 61, 62, 63, 64, 65, 66, 529, 530, 523, 524, 525, 526, 527, 528, 531, 532, 533, 534, 535, 536, 537, 538, 539, 540, 541, 542] (by decide +kernel) (by decide +kernel)
set_option maxRecDepth 20000 in
theorem gL_law_X8_init : GoodIn wsL_law (wsX8_init) := ggL_law_X8_init
set_option maxRecDepth 20000 in
theorem ggL_law_L_cell : GoodIn wsL_law wsL_cell := goodIn_r _ [70] (by decide +kernel) (by decide +kernel)
set_option maxRecDepth 20000 in
theorem gL_law_L_cell : GoodIn wsL_law (va_wsS RL 171 yL_cell wsL_cell) := goodIn_app (goodIn_of _ (by decide +kernel)) ggL_law_L_cell
set_option maxRecDepth 20000 in
theorem ggL_law_L_act : GoodIn wsL_law wsL_act := goodIn_ca (goodIn_ca (goodIn_ca (goodIn_r _ [73, 74, 75, 69, 76, 77, 78, 79, 80, 2, 81, 13, 82, 83, 84, 12, 85, 39, 86, 87, 88, 89, 90, 91, 3, 92, 93, 94, 95, 96, 97, 98, 99, 100, 101, 102, 103, 104, 105, 106, 107, 108, 109, 110, 111, 112, 113, 114, 115, 38, 116, 117, 118, 119, 120, 121, 122, 123, 124, 125, 126, 127, 128, 129, 130, 131, 132, 133, 134, 135, 136, 137, 138, 139, 140, 141, 142, 143, 144, 145, 146, 147, 148, 149, 150, 151, 152, 153, 154, 155, 156, 157, 158, 159, 160, 161, 162, 163, 164, 165, 166, 167, 168, 169, 170, 171, 172, 173, 174, 175, 176, 177, 178, 179, 180, 181, 182, 183, 184, 185, 186, 187, 188, 189, 190, 191, 192, 33, 193, 194, 195, 196, 197, 198, 199, 32, 200, 63, 64, 65, 66, 201, 202, 203, 204, 205, 206, 207, 208, 209, 210, 211, 212, 213, 214, 215, 216, 217, 218, 219, 220, 221, 222, 223, 224, 225, 226, 227, 228, 229, 230, 231, 232, 233, 234, 235, 236, 237, 238, 239, 240, 241, 242, 243, 244, 245, 246, 247, 248, 523, 524, 525, 526, 527, 528, 529, 530, 539, 540, 541, 542] (by decide +kernel) (by decide +kernel)) (goodIn_sub (fun _ h => List.mem_append_left _ (List.mem_append_left _ (List.mem_append_right _ h))) (by decide +kernel))) (goodIn_sub (fun _ h => List.mem_append_left _ (List.mem_append_right _ h)) (by decide +kernel))) (goodIn_sub (fun _ h => List.mem_append_right _ h) (by decide +kernel))
set_option maxRecDepth 20000 in
theorem gL_law_L_act : GoodIn wsL_law (va_wsS RL 175 yL_act wsL_act) := goodIn_app (goodIn_of _ (by decide +kernel)) ggL_law_L_act
set_option maxRecDepth 20000 in
theorem ggL_law_L_areAlike : GoodIn wsL_law wsL_areAlike := goodIn_ca (goodIn_r _ [251, 78, 79, 80, 2, 81, 13, 82, 83, 84, 12, 85, 39, 252, 253, 254, 255, 17, 256, 257, 258, 16, 259, 44, 43, 260, 118, 119, 261, 262, 263, 264, 128, 129, 130, 38, 116, 117, 265, 266, 267, 268, 269, 270, 271, 272, 25, 273, 274, 275, 24, 276, 55, 277, 278, 279, 280, 281, 52, 53, 54, 282, 283, 284, 285, 286, 287, 288, 289, 290, 291, 292, 293, 294, 295, 296, 297, 298, 299, 300, 301, 302, 303, 304, 305, 306, 96, 97, 98, 99, 100, 127, 523, 524, 525, 526, 527, 528, 529, 530, 531, 532, 534, 535, 536, 537] (by decide +kernel) (by decide +kernel)) (goodIn_sub (fun _ h => List.mem_append_left _ (List.mem_append_left _ (List.mem_append_right _ h))) (by decide +kernel))
set_option maxRecDepth 20000 in
theorem gL_law_L_areAlike : GoodIn wsL_law (va_wsS RL 178 yL_areAlike wsL_areAlike) := goodIn_app (goodIn_of _ (by decide +kernel)) ggL_law_L_areAlike
set_option maxRecDepth 20000 in
theorem ggL_law_L_areFactorsSo : GoodIn wsL_law wsL_areFactorsSo := goodIn_ca (goodIn_r _ [309, 252, 253, 254, 2, 255, 17, 13, 256, 257, 258, 16, 259, 44, 43, 260, 83, 84, 12, 85, 39, 118, 119, 261, 262, 263, 264, 128, 129, 130, 38, 116, 117, 265, 266, 267, 268, 310, 311, 312, 313, 314, 315, 316, 317, 96, 97, 98, 99, 100, 318, 319, 320, 321, 322, 323, 324, 325, 326, 327, 328, 329, 164, 165, 166, 167, 82, 330, 331, 332, 333, 334, 335, 336, 337, 338, 339, 340, 341, 342, 343, 344, 345, 346, 347, 348, 349, 350, 351, 289, 352, 353, 284, 285, 286, 287, 288, 290, 127, 354, 355, 356, 357, 78, 79, 80, 81, 523, 524, 525, 526, 527, 528, 531, 532, 529, 530] (by decide +kernel) (by decide +kernel)) (goodIn_sub (fun _ h => List.mem_append_left _ (List.mem_append_left _ (List.mem_append_right _ h))) (by decide +kernel))
set_option maxRecDepth 20000 in
theorem gL_law_L_areFactorsSo : GoodIn wsL_law (va_wsS RL 182 yL_areFactorsSo wsL_areFactorsSo) := goodIn_app (goodIn_of _ (by decide +kernel)) ggL_law_L_areFactorsSo
set_option maxRecDepth 20000 in
theorem ggL_law_X8_length : GoodIn wsL_law wsX8_length := goodIn_r _ [81, 13, 82, 83, 84, 12, 85, 39, 523, 524, 525, 526, 527, 528, 529, 530] (by decide +kernel) (by decide +kernel)
set_option maxRecDepth 20000 in
theorem gL_law_X8_length : GoodIn wsL_law (wsV RL 49 RX8 yX8_length wsX8_length) := goodIn_app (goodIn_of _ (by decide +kernel)) ggL_law_X8_length
set_option maxRecDepth 20000 in
theorem ggL_law_L_low : GoodIn wsL_law wsL_low := goodIn_r _ [76, 77] (by decide +kernel) (by decide +kernel)
set_option maxRecDepth 20000 in
theorem gL_law_L_low : GoodIn wsL_law (va_wsS RL 44 yL_low wsL_low) := goodIn_app (goodIn_of _ (by decide +kernel)) ggL_law_L_low
set_option maxRecDepth 20000 in
theorem ggL_law_L_isPartSo : GoodIn wsL_law wsL_isPartSo := goodIn_ca (goodIn_ca (goodIn_ca (goodIn_r _ [360, 361, 362, 363, 2, 364, 21, 13, 164, 165, 166, 167, 99, 100, 82, 83, 84, 12, 85, 39, 365, 366, 367, 20, 368, 369, 370, 371, 372, 48, 118, 119, 373, 374, 375, 376, 377, 128, 129, 130, 38, 116, 117, 378, 379, 380, 381, 382, 383, 384, 385, 386, 387, 388, 389, 390, 391, 392, 393, 394, 395, 396, 397, 398, 399, 400, 401, 402, 403, 404, 405, 406, 407, 408, 409, 410, 411, 412, 413, 414, 415, 416, 417, 418, 292, 293, 294, 295, 296, 297, 298, 419, 420, 421, 422, 101, 102, 103, 104, 105, 423, 424, 425, 426, 427, 428, 429, 430, 431, 432, 433, 434, 435, 436, 437, 438, 326, 327, 328, 329, 330, 331, 16, 332, 261, 262, 263, 264, 439, 440, 441, 442, 443, 444, 445, 446, 447, 448, 449, 450, 110, 111, 346, 347, 348, 349, 350, 351, 289, 352, 353, 284, 285, 286, 287, 288, 290, 127, 354, 355, 356, 357, 523, 524, 525, 526, 527, 528, 529, 530, 533] (by decide +kernel) (by decide +kernel)) (goodIn_sub (fun _ h => List.mem_append_left _ (List.mem_append_left _ (List.mem_append_right _ h))) (by decide +kernel))) (goodIn_sub (fun _ h => List.mem_append_left _ (List.mem_append_right _ h)) (by decide +kernel))) (goodIn_sub (fun _ h => List.mem_append_right _ h) (by decide +kernel))
set_option maxRecDepth 20000 in
theorem gL_law_L_isPartSo : GoodIn wsL_law (va_wsS RL 186 yL_isPartSo wsL_isPartSo) := goodIn_app (goodIn_of _ (by decide +kernel)) ggL_law_L_isPartSo
set_option maxRecDepth 20000 in
theorem ggL_law_L_areSuffixesSo : GoodIn wsL_law wsL_areSuffixesSo := goodIn_ca (goodIn_r _ [453, 78, 79, 80, 2, 81, 13, 82, 83, 84, 12, 85, 39, 454, 455, 456, 457, 29, 96, 97, 98, 99, 100, 458, 459, 460, 28, 461, 59, 462, 118, 119, 463, 464, 465, 466, 467, 468, 469, 470, 471, 128, 129, 130, 38, 116, 117, 472, 473, 474, 475, 476, 477, 478, 479, 346, 347, 348, 349, 350, 351, 289, 352, 164, 165, 166, 167, 353, 284, 285, 286, 287, 288, 290, 127, 354, 355, 356, 357, 252, 253, 254, 255, 17, 256, 257, 258, 16, 259, 44, 43, 260, 261, 262, 263, 264, 265, 266, 267, 268, 322, 323, 324, 325, 314, 315, 316, 317, 318, 319, 320, 321, 523, 524, 525, 526, 527, 528, 529, 530, 538, 531, 532] (by decide +kernel) (by decide +kernel)) (goodIn_sub (fun _ h => List.mem_append_left _ (List.mem_append_left _ (List.mem_append_right _ h))) (by decide +kernel))
set_option maxRecDepth 20000 in
theorem gL_law_L_areSuffixesSo : GoodIn wsL_law (va_wsS RL 190 yL_areSuffixesSo wsL_areSuffixesSo) := goodIn_app (goodIn_of _ (by decide +kernel)) ggL_law_L_areSuffixesSo
set_option maxRecDepth 20000 in
theorem ggL_law_L_areRunsSo : GoodIn wsL_law wsL_areRunsSo := goodIn_ca (goodIn_ca (goodIn_r _ [482, 78, 79, 80, 2, 81, 13, 82, 83, 84, 12, 85, 39, 269, 270, 271, 272, 25, 273, 274, 275, 24, 276, 55, 277, 278, 279, 280, 281, 52, 53, 54, 282, 128, 129, 130, 38, 116, 117, 283, 284, 285, 286, 287, 288, 289, 290, 291, 292, 293, 294, 295, 296, 297, 298, 118, 119, 299, 300, 301, 302, 483, 484, 485, 486, 487, 488, 489, 490, 96, 97, 98, 99, 100, 491, 492, 493, 494, 495, 496, 497, 498, 499, 500, 501, 502, 503, 504, 505, 506, 507, 508, 509, 510, 361, 362, 363, 364, 21, 164, 165, 166, 167, 365, 366, 367, 20, 368, 369, 370, 371, 372, 48, 373, 374, 375, 376, 377, 419, 420, 421, 422, 101, 102, 103, 104, 105, 423, 511, 512, 513, 514, 515, 516, 517, 518, 519, 520, 521, 522, 523, 524, 525, 526, 527, 528, 529, 530, 534, 535, 536, 537, 533] (by decide +kernel) (by decide +kernel)) (goodIn_sub (fun _ h => List.mem_append_left _ (List.mem_append_left _ (List.mem_append_right _ h))) (by decide +kernel))) (goodIn_sub (fun _ h => List.mem_append_left _ (List.mem_append_right _ h)) (by decide +kernel))
set_option maxRecDepth 20000 in
theorem gL_law_L_areRunsSo : GoodIn wsL_law (va_wsS RL 193 yL_areRunsSo wsL_areRunsSo) := goodIn_app (goodIn_of _ (by decide +kernel)) ggL_law_L_areRunsSo
theorem dL_law_0 : decode cL_law 0 = .ok (.new 9, 3) := by decide +kernel
theorem dL_law_3 : decode cL_law 3 = .ok (.dup, 1) := by decide +kernel
theorem dL_law_4 : decode cL_law 4 = .ok (.invokespecial 170, 3) := by decide +kernel
theorem dL_law_7 : decode cL_law 7 = .ok (.astore_n 1, 1) := by decide +kernel
theorem dL_law_8 : decode cL_law 8 = .ok (.new 9, 3) := by decide +kernel
theorem dL_law_11 : decode cL_law 11 = .ok (.dup, 1) := by decide +kernel
theorem dL_law_12 : decode cL_law 12 = .ok (.invokespecial 170, 3) := by decide +kernel
theorem dL_law_15 : decode cL_law 15 = .ok (.astore_n 2, 1) := by decide +kernel
theorem dL_law_16 : decode cL_law 16 = .ok (.iconst 0, 1) := by decide +kernel
theorem dL_law_17 : decode cL_law 17 = .ok (.istore_n 3, 1) := by decide +kernel
theorem dL_law_18 : decode cL_law 18 = .ok (.iload_n 3, 1) := by decide +kernel
theorem dL_law_19 : decode cL_law 19 = .ok (.bipush 48, 2) := by decide +kernel
theorem dL_law_21 : decode cL_law 21 = .ok (.if_icmp .ge 173, 3) := by decide +kernel
theorem dL_law_24 : decode cL_law 24 = .ok (.aload_n 0, 1) := by decide +kernel
theorem dL_law_25 : decode cL_law 25 = .ok (.iload_n 3, 1) := by decide +kernel
theorem dL_law_26 : decode cL_law 26 = .ok (.invokestatic 171, 3) := by decide +kernel
theorem dL_law_29 : decode cL_law 29 = .ok (.istore 4, 2) := by decide +kernel
theorem dL_law_31 : decode cL_law 31 = .ok (.aload_n 1, 1) := by decide +kernel
theorem dL_law_32 : decode cL_law 32 = .ok (.iload 4, 2) := by decide +kernel
theorem dL_law_34 : decode cL_law 34 = .ok (.invokestatic 175, 3) := by decide +kernel
theorem dL_law_37 : decode cL_law 37 = .ok (.istore 5, 2) := by decide +kernel
theorem dL_law_39 : decode cL_law 39 = .ok (.iload 5, 2) := by decide +kernel
theorem dL_law_41 : decode cL_law 41 = .ok (.ldc 16, 2) := by decide +kernel
theorem dL_law_43 : decode cL_law 43 = .ok (.if_icmp .eq 14, 3) := by decide +kernel
theorem dL_law_46 : decode cL_law 46 = .ok (.aload_n 2, 1) := by decide +kernel
theorem dL_law_47 : decode cL_law 47 = .ok (.iload 4, 2) := by decide +kernel
theorem dL_law_49 : decode cL_law 49 = .ok (.invokestatic 175, 3) := by decide +kernel
theorem dL_law_52 : decode cL_law 52 = .ok (.iload 5, 2) := by decide +kernel
theorem dL_law_54 : decode cL_law 54 = .ok (.if_icmp .ne 18, 3) := by decide +kernel
theorem dL_law_57 : decode cL_law 57 = .ok (.aload_n 1, 1) := by decide +kernel
theorem dL_law_58 : decode cL_law 58 = .ok (.aload_n 2, 1) := by decide +kernel
theorem dL_law_59 : decode cL_law 59 = .ok (.invokestatic 178, 3) := by decide +kernel
theorem dL_law_62 : decode cL_law 62 = .ok (.ifCond .eq 10, 3) := by decide +kernel
theorem dL_law_65 : decode cL_law 65 = .ok (.aload_n 1, 1) := by decide +kernel
theorem dL_law_66 : decode cL_law 66 = .ok (.invokestatic 182, 3) := by decide +kernel
theorem dL_law_69 : decode cL_law 69 = .ok (.ifCond .ne 5, 3) := by decide +kernel
theorem dL_law_72 : decode cL_law 72 = .ok (.iconst 0, 1) := by decide +kernel
theorem dL_law_73 : decode cL_law 73 = .ok (.ireturn, 1) := by decide +kernel
theorem dL_law_74 : decode cL_law 74 = .ok (.aload_n 1, 1) := by decide +kernel
theorem dL_law_75 : decode cL_law 75 = .ok (.invokevirtual 49, 3) := by decide +kernel
theorem dL_law_78 : decode cL_law 78 = .ok (.ifCond .ne 7, 3) := by decide +kernel
theorem dL_law_81 : decode cL_law 81 = .ok (.iconst 0, 1) := by decide +kernel
theorem dL_law_82 : decode cL_law 82 = .ok (.goto 15, 3) := by decide +kernel
theorem dL_law_85 : decode cL_law 85 = .ok (.iload 4, 2) := by decide +kernel
theorem dL_law_87 : decode cL_law 87 = .ok (.bipush 6, 2) := by decide +kernel
theorem dL_law_89 : decode cL_law 89 = .ok (.ishr, 1) := by decide +kernel
theorem dL_law_90 : decode cL_law 90 = .ok (.aload_n 1, 1) := by decide +kernel
theorem dL_law_91 : decode cL_law 91 = .ok (.invokevirtual 49, 3) := by decide +kernel
theorem dL_law_94 : decode cL_law 94 = .ok (.invokestatic 44, 3) := by decide +kernel
theorem dL_law_97 : decode cL_law 97 = .ok (.istore 6, 2) := by decide +kernel
theorem dL_law_99 : decode cL_law 99 = .ok (.aload_n 1, 1) := by decide +kernel
theorem dL_law_100 : decode cL_law 100 = .ok (.invokevirtual 49, 3) := by decide +kernel
theorem dL_law_103 : decode cL_law 103 = .ok (.ifCond .ne 7, 3) := by decide +kernel
theorem dL_law_106 : decode cL_law 106 = .ok (.iconst 0, 1) := by decide +kernel
theorem dL_law_107 : decode cL_law 107 = .ok (.goto 23, 3) := by decide +kernel
theorem dL_law_110 : decode cL_law 110 = .ok (.iload 6, 2) := by decide +kernel
theorem dL_law_112 : decode cL_law 112 = .ok (.iconst 1, 1) := by decide +kernel
theorem dL_law_113 : decode cL_law 113 = .ok (.iadd, 1) := by decide +kernel
theorem dL_law_114 : decode cL_law 114 = .ok (.iload 4, 2) := by decide +kernel
theorem dL_law_116 : decode cL_law 116 = .ok (.bipush 11, 2) := by decide +kernel
theorem dL_law_118 : decode cL_law 118 = .ok (.ishr, 1) := by decide +kernel
theorem dL_law_119 : decode cL_law 119 = .ok (.aload_n 1, 1) := by decide +kernel
theorem dL_law_120 : decode cL_law 120 = .ok (.invokevirtual 49, 3) := by decide +kernel
theorem dL_law_123 : decode cL_law 123 = .ok (.iload 6, 2) := by decide +kernel
theorem dL_law_125 : decode cL_law 125 = .ok (.isub, 1) := by decide +kernel
theorem dL_law_126 : decode cL_law 126 = .ok (.invokestatic 44, 3) := by decide +kernel
theorem dL_law_129 : decode cL_law 129 = .ok (.iadd, 1) := by decide +kernel
theorem dL_law_130 : decode cL_law 130 = .ok (.istore 7, 2) := by decide +kernel
theorem dL_law_132 : decode cL_law 132 = .ok (.aload_n 1, 1) := by decide +kernel
theorem dL_law_133 : decode cL_law 133 = .ok (.invokevirtual 49, 3) := by decide +kernel
theorem dL_law_136 : decode cL_law 136 = .ok (.ifCond .le 28, 3) := by decide +kernel
theorem dL_law_139 : decode cL_law 139 = .ok (.aload_n 1, 1) := by decide +kernel
theorem dL_law_140 : decode cL_law 140 = .ok (.iload 6, 2) := by decide +kernel
theorem dL_law_142 : decode cL_law 142 = .ok (.iload 7, 2) := by decide +kernel
theorem dL_law_144 : decode cL_law 144 = .ok (.invokestatic 186, 3) := by decide +kernel
theorem dL_law_147 : decode cL_law 147 = .ok (.ifCond .eq 15, 3) := by decide +kernel
theorem dL_law_150 : decode cL_law 150 = .ok (.aload_n 2, 1) := by decide +kernel
theorem dL_law_151 : decode cL_law 151 = .ok (.iconst 0, 1) := by decide +kernel
theorem dL_law_152 : decode cL_law 152 = .ok (.aload_n 1, 1) := by decide +kernel
theorem dL_law_153 : decode cL_law 153 = .ok (.invokevirtual 49, 3) := by decide +kernel
theorem dL_law_156 : decode cL_law 156 = .ok (.invokestatic 186, 3) := by decide +kernel
theorem dL_law_159 : decode cL_law 159 = .ok (.ifCond .ne 5, 3) := by decide +kernel
theorem dL_law_162 : decode cL_law 162 = .ok (.iconst 0, 1) := by decide +kernel
theorem dL_law_163 : decode cL_law 163 = .ok (.ireturn, 1) := by decide +kernel
theorem dL_law_164 : decode cL_law 164 = .ok (.iload_n 3, 1) := by decide +kernel
theorem dL_law_165 : decode cL_law 165 = .ok (.bipush 6, 2) := by decide +kernel
theorem dL_law_167 : decode cL_law 167 = .ok (.irem, 1) := by decide +kernel
theorem dL_law_168 : decode cL_law 168 = .ok (.iconst 5, 1) := by decide +kernel
theorem dL_law_169 : decode cL_law 169 = .ok (.if_icmp .ne 19, 3) := by decide +kernel
theorem dL_law_172 : decode cL_law 172 = .ok (.aload_n 1, 1) := by decide +kernel
theorem dL_law_173 : decode cL_law 173 = .ok (.invokestatic 190, 3) := by decide +kernel
theorem dL_law_176 : decode cL_law 176 = .ok (.ifCond .eq 10, 3) := by decide +kernel
theorem dL_law_179 : decode cL_law 179 = .ok (.aload_n 1, 1) := by decide +kernel
theorem dL_law_180 : decode cL_law 180 = .ok (.invokestatic 193, 3) := by decide +kernel
theorem dL_law_183 : decode cL_law 183 = .ok (.ifCond .ne 5, 3) := by decide +kernel
theorem dL_law_186 : decode cL_law 186 = .ok (.iconst 0, 1) := by decide +kernel
theorem dL_law_187 : decode cL_law 187 = .ok (.ireturn, 1) := by decide +kernel
theorem dL_law_188 : decode cL_law 188 = .ok (.iinc 3 1, 3) := by decide +kernel
theorem dL_law_191 : decode cL_law 191 = .ok (.goto (-173), 3) := by decide +kernel
theorem dL_law_194 : decode cL_law 194 = .ok (.iconst 1, 1) := by decide +kernel
theorem dL_law_195 : decode cL_law 195 = .ok (.ireturn, 1) := by decide +kernel
abbrev vwCl : List vw_C := [(RX0, TX0, 1), (RX1, TX1, 2), (RX2, TX2, 2), (RX3, TX3, 4), (RX6, TX6, 4), (RX7, TX7, 1), (RX8, TX8, 6)]
