theorem dX7_putInOrder_30 : decode cX7_putInOrder 30 = .ok (.iinc 4 1, 3) := by decide +kernel
theorem dX7_putInOrder_33 : decode cX7_putInOrder 33 = .ok (.goto (-26), 3) := by decide +kernel
theorem dX7_putInOrder_36 : decode cX7_putInOrder 36 = .ok (.iload_n 2, 1) := by decide +kernel
theorem dX7_putInOrder_37 : decode cX7_putInOrder 37 = .ok (.iconst 1, 1) := by decide +kernel
theorem dX7_putInOrder_38 : decode cX7_putInOrder 38 = .ok (.iadd, 1) := by decide +kernel
theorem dX7_putInOrder_39 : decode cX7_putInOrder 39 = .ok (.istore 4, 2) := by decide +kernel
theorem dX7_putInOrder_41 : decode cX7_putInOrder 41 = .ok (.iload 4, 2) := by decide +kernel
theorem dX7_putInOrder_43 : decode cX7_putInOrder 43 = .ok (.aload_n 1, 1) := by decide +kernel
theorem dX7_putInOrder_44 : decode cX7_putInOrder 44 = .ok (.invokevirtual 19, 3) := by decide +kernel
theorem dX7_putInOrder_47 : decode cX7_putInOrder 47 = .ok (.if_icmp .ge 42, 3) := by decide +kernel
theorem dX7_putInOrder_50 : decode cX7_putInOrder 50 = .ok (.aload_n 0, 1) := by decide +kernel
theorem dX7_putInOrder_51 : decode cX7_putInOrder 51 = .ok (.getfield 9, 3) := by decide +kernel
theorem dX7_putInOrder_54 : decode cX7_putInOrder 54 = .ok (.iload 4, 2) := by decide +kernel
theorem dX7_putInOrder_56 : decode cX7_putInOrder 56 = .ok (.invokestatic 15, 3) := by decide +kernel
theorem dX7_putInOrder_59 : decode cX7_putInOrder 59 = .ok (.iload_n 3, 1) := by decide +kernel
theorem dX7_putInOrder_60 : decode cX7_putInOrder 60 = .ok (.if_icmp .lt 23, 3) := by decide +kernel
theorem dX7_putInOrder_63 : decode cX7_putInOrder 63 = .ok (.aload_n 0, 1) := by decide +kernel
theorem dX7_putInOrder_64 : decode cX7_putInOrder 64 = .ok (.getfield 9, 3) := by decide +kernel
theorem dX7_putInOrder_67 : decode cX7_putInOrder 67 = .ok (.iload 4, 2) := by decide +kernel
theorem dX7_putInOrder_69 : decode cX7_putInOrder 69 = .ok (.aload_n 0, 1) := by decide +kernel
theorem dX7_putInOrder_70 : decode cX7_putInOrder 70 = .ok (.getfield 9, 3) := by decide +kernel
theorem dX7_putInOrder_73 : decode cX7_putInOrder 73 = .ok (.iload 4, 2) := by decide +kernel
theorem dX7_putInOrder_75 : decode cX7_putInOrder 75 = .ok (.invokestatic 15, 3) := by decide +kernel
theorem dX7_putInOrder_78 : decode cX7_putInOrder 78 = .ok (.iconst 1, 1) := by decide +kernel
theorem dX7_putInOrder_79 : decode cX7_putInOrder 79 = .ok (.iadd, 1) := by decide +kernel
theorem dX7_putInOrder_80 : decode cX7_putInOrder 80 = .ok (.invokestatic 25, 3) := by decide +kernel
theorem dX7_putInOrder_83 : decode cX7_putInOrder 83 = .ok (.iinc 4 1, 3) := by decide +kernel
theorem dX7_putInOrder_86 : decode cX7_putInOrder 86 = .ok (.goto (-45), 3) := by decide +kernel
theorem dX7_putInOrder_89 : decode cX7_putInOrder 89 = .ok (.aload_n 0, 1) := by decide +kernel
theorem dX7_putInOrder_90 : decode cX7_putInOrder 90 = .ok (.getfield 9, 3) := by decide +kernel
theorem dX7_putInOrder_93 : decode cX7_putInOrder 93 = .ok (.iload_n 2, 1) := by decide +kernel
theorem dX7_putInOrder_94 : decode cX7_putInOrder 94 = .ok (.iload_n 3, 1) := by decide +kernel
theorem dX7_putInOrder_95 : decode cX7_putInOrder 95 = .ok (.invokestatic 25, 3) := by decide +kernel
theorem dX7_putInOrder_98 : decode cX7_putInOrder 98 = .ok (.return_, 1) := by decide +kernel
set_option maxRecDepth 20000 in
theorem ggX7_isLess_X2_letter : GoodIn wsX7_isLess wsX2_letter := goodIn_r _ [6, 7, 8, 9, 10, 12, 13] (by decide +kernel) (by decide +kernel)
set_option maxRecDepth 20000 in
theorem gX7_isLess_X2_letter : GoodIn wsX7_isLess (wsV RX7 37 RX2 yX2_letter wsX2_letter) := goodIn_app (goodIn_of _ (by decide +kernel)) ggX7_isLess_X2_letter
set_option maxRecDepth 20000 in
theorem ggX7_isLess_X8_at : GoodIn wsX7_isLess wsX8_at := goodIn_r _ [10] (by decide +kernel) (by decide +kernel)
set_option maxRecDepth 20000 in
theorem gX7_isLess_X8_at_n15 : GoodIn wsX7_isLess (wsX8_at) := ggX7_isLess_X8_at
theorem dX7_isLess_0 : decode cX7_isLess 0 = .ok (.aload_n 1, 1) := by decide +kernel
theorem dX7_isLess_1 : decode cX7_isLess 1 = .ok (.iload_n 2, 1) := by decide +kernel
theorem dX7_isLess_2 : decode cX7_isLess 2 = .ok (.invokevirtual 37, 3) := by decide +kernel
theorem dX7_isLess_5 : decode cX7_isLess 5 = .ok (.aload_n 1, 1) := by decide +kernel
theorem dX7_isLess_6 : decode cX7_isLess 6 = .ok (.iload_n 3, 1) := by decide +kernel
theorem dX7_isLess_7 : decode cX7_isLess 7 = .ok (.invokevirtual 37, 3) := by decide +kernel
theorem dX7_isLess_10 : decode cX7_isLess 10 = .ok (.isub, 1) := by decide +kernel
theorem dX7_isLess_11 : decode cX7_isLess 11 = .ok (.istore 4, 2) := by decide +kernel
theorem dX7_isLess_13 : decode cX7_isLess 13 = .ok (.iload 4, 2) := by decide +kernel
theorem dX7_isLess_15 : decode cX7_isLess 15 = .ok (.ifCond .eq 16, 3) := by decide +kernel
theorem dX7_isLess_18 : decode cX7_isLess 18 = .ok (.iload 4, 2) := by decide +kernel
theorem dX7_isLess_20 : decode cX7_isLess 20 = .ok (.ifCond .ge 7, 3) := by decide +kernel
theorem dX7_isLess_23 : decode cX7_isLess 23 = .ok (.iconst 1, 1) := by decide +kernel
theorem dX7_isLess_24 : decode cX7_isLess 24 = .ok (.goto 35, 3) := by decide +kernel
theorem dX7_isLess_27 : decode cX7_isLess 27 = .ok (.iconst 0, 1) := by decide +kernel
theorem dX7_isLess_28 : decode cX7_isLess 28 = .ok (.goto 31, 3) := by decide +kernel
theorem dX7_isLess_31 : decode cX7_isLess 31 = .ok (.aload_n 0, 1) := by decide +kernel
theorem dX7_isLess_32 : decode cX7_isLess 32 = .ok (.getfield 9, 3) := by decide +kernel
theorem dX7_isLess_35 : decode cX7_isLess 35 = .ok (.iload_n 2, 1) := by decide +kernel
theorem dX7_isLess_36 : decode cX7_isLess 36 = .ok (.iconst 1, 1) := by decide +kernel
theorem dX7_isLess_37 : decode cX7_isLess 37 = .ok (.iadd, 1) := by decide +kernel
theorem dX7_isLess_38 : decode cX7_isLess 38 = .ok (.invokestatic 15, 3) := by decide +kernel
theorem dX7_isLess_41 : decode cX7_isLess 41 = .ok (.aload_n 0, 1) := by decide +kernel
theorem dX7_isLess_42 : decode cX7_isLess 42 = .ok (.getfield 9, 3) := by decide +kernel
theorem dX7_isLess_45 : decode cX7_isLess 45 = .ok (.iload_n 3, 1) := by decide +kernel
theorem dX7_isLess_46 : decode cX7_isLess 46 = .ok (.iconst 1, 1) := by decide +kernel
theorem dX7_isLess_47 : decode cX7_isLess 47 = .ok (.iadd, 1) := by decide +kernel
theorem dX7_isLess_48 : decode cX7_isLess 48 = .ok (.invokestatic 15, 3) := by decide +kernel
theorem dX7_isLess_51 : decode cX7_isLess 51 = .ok (.if_icmp .ge 7, 3) := by decide +kernel
theorem dX7_isLess_54 : decode cX7_isLess 54 = .ok (.iconst 1, 1) := by decide +kernel
theorem dX7_isLess_55 : decode cX7_isLess 55 = .ok (.goto 4, 3) := by decide +kernel
theorem dX7_isLess_58 : decode cX7_isLess 58 = .ok (.iconst 0, 1) := by decide +kernel
theorem dX7_isLess_59 : decode cX7_isLess 59 = .ok (.ireturn, 1) := by decide +kernel
set_option maxRecDepth 20000 in
theorem ggX8_init_X2_init : GoodIn wsX8_init wsX2_init := goodIn_r _ [29, 30, 2, 3, 31, 32, 33, 61, 62] (by decide +kernel) (by decide +kernel)
set_option maxRecDepth 20000 in
theorem gX8_init_X2_init_n9 : GoodIn wsX8_init (wsX2_init) := ggX8_init_X2_init
set_option maxRecDepth 20000 in
theorem ggX8_init_X1_init : GoodIn wsX8_init wsX1_init := goodIn_r _ [35, 36, 2, 3, 31, 37, 38, 69, 70] (by decide +kernel) (by decide +kernel)
set_option maxRecDepth 20000 in
theorem gX8_init_X1_init_n18 : GoodIn wsX8_init (wsX1_init) := ggX8_init_X1_init
set_option maxRecDepth 20000 in
theorem ggX8_init_X0_init : GoodIn wsX8_init wsX0_init := goodIn_r _ [40, 41, 2, 3, 31, 42, 71] (by decide +kernel) (by decide +kernel)
set_option maxRecDepth 20000 in
theorem gX8_init_X0_init_n25 : GoodIn wsX8_init (wsX0_init) := ggX8_init_X0_init
set_option maxRecDepth 20000 in
theorem ggX8_init_X6_init : GoodIn wsX8_init wsX6_init := goodIn_r _ [44, 45, 2, 3, 31, 46, 47, 48, 49, 72, 73, 74, 75] (by decide +kernel) (by decide +kernel)
set_option maxRecDepth 20000 in
theorem gX8_init_X6_init_n32 : GoodIn wsX8_init (wsX6_init) := ggX8_init_X6_init
set_option maxRecDepth 20000 in
theorem ggX8_init_X7_init : GoodIn wsX8_init wsX7_init := goodIn_r _ [51, 52, 2, 3, 31, 53, 76] (by decide +kernel) (by decide +kernel)
set_option maxRecDepth 20000 in
theorem gX8_init_X7_init_n39 : GoodIn wsX8_init (wsX7_init) := ggX8_init_X7_init
set_option maxRecDepth 20000 in
theorem ggX8_init_X3_init : GoodIn wsX8_init wsX3_init := goodIn_r _ [55, 56, 2, 3, 57, 58, 59, 60, 77, 78, 79, 80] (by decide +kernel) (by decide +kernel)
set_option maxRecDepth 20000 in
theorem gX8_init_X3_init_n46 : GoodIn wsX8_init (wsX3_init) := ggX8_init_X3_init
theorem dX8_init_0 : decode cX8_init 0 = .ok (.aload_n 0, 1) := by decide +kernel
theorem dX8_init_1 : decode cX8_init 1 = .ok (.invokespecial 1, 3) := by decide +kernel
theorem dX8_init_4 : decode cX8_init 4 = .ok (.aload_n 0, 1) := by decide +kernel
theorem dX8_init_5 : decode cX8_init 5 = .ok (.new 7, 3) := by decide +kernel
theorem dX8_init_8 : decode cX8_init 8 = .ok (.dup, 1) := by decide +kernel
theorem dX8_init_9 : decode cX8_init 9 = .ok (.invokespecial 9, 3) := by decide +kernel
theorem dX8_init_12 : decode cX8_init 12 = .ok (.putfield 10, 3) := by decide +kernel
theorem dX8_init_15 : decode cX8_init 15 = .ok (.aload_n 0, 1) := by decide +kernel
theorem dX8_init_16 : decode cX8_init 16 = .ok (.new 16, 3) := by decide +kernel
theorem dX8_init_19 : decode cX8_init 19 = .ok (.dup, 1) := by decide +kernel
theorem dX8_init_20 : decode cX8_init 20 = .ok (.invokespecial 18, 3) := by decide +kernel
theorem dX8_init_23 : decode cX8_init 23 = .ok (.putfield 19, 3) := by decide +kernel
theorem dX8_init_26 : decode cX8_init 26 = .ok (.aload_n 0, 1) := by decide +kernel
theorem dX8_init_27 : decode cX8_init 27 = .ok (.new 23, 3) := by decide +kernel
theorem dX8_init_30 : decode cX8_init 30 = .ok (.dup, 1) := by decide +kernel
theorem dX8_init_31 : decode cX8_init 31 = .ok (.invokespecial 25, 3) := by decide +kernel
theorem dX8_init_34 : decode cX8_init 34 = .ok (.putfield 26, 3) := by decide +kernel
theorem dX8_init_37 : decode cX8_init 37 = .ok (.aload_n 0, 1) := by decide +kernel
theorem dX8_init_38 : decode cX8_init 38 = .ok (.new 30, 3) := by decide +kernel
theorem dX8_init_41 : decode cX8_init 41 = .ok (.dup, 1) := by decide +kernel
theorem dX8_init_42 : decode cX8_init 42 = .ok (.invokespecial 32, 3) := by decide +kernel
theorem dX8_init_45 : decode cX8_init 45 = .ok (.putfield 33, 3) := by decide +kernel
theorem dX8_init_48 : decode cX8_init 48 = .ok (.aload_n 0, 1) := by decide +kernel
theorem dX8_init_49 : decode cX8_init 49 = .ok (.new 37, 3) := by decide +kernel
theorem dX8_init_52 : decode cX8_init 52 = .ok (.dup, 1) := by decide +kernel
theorem dX8_init_53 : decode cX8_init 53 = .ok (.invokespecial 39, 3) := by decide +kernel
theorem dX8_init_56 : decode cX8_init 56 = .ok (.putfield 40, 3) := by decide +kernel
theorem dX8_init_59 : decode cX8_init 59 = .ok (.aload_n 0, 1) := by decide +kernel
theorem dX8_init_60 : decode cX8_init 60 = .ok (.new 44, 3) := by decide +kernel
theorem dX8_init_63 : decode cX8_init 63 = .ok (.dup, 1) := by decide +kernel
theorem dX8_init_64 : decode cX8_init 64 = .ok (.invokespecial 46, 3) := by decide +kernel
theorem dX8_init_67 : decode cX8_init 67 = .ok (.putfield 47, 3) := by decide +kernel
theorem dX8_init_70 : decode cX8_init 70 = .ok (.return_, 1) := by decide +kernel
set_option maxRecDepth 20000 in
theorem ggX8_append_X8_checkArgument : GoodIn wsX8_append wsX8_checkArgument := goodIn_ca (goodIn_r _ [5, 6, 7] (by decide +kernel) (by decide +kernel)) (goodIn_sub (fun _ h => List.mem_cons_of_mem _ (List.mem_append_left _ (List.mem_append_right _ h))) (by decide +kernel))
set_option maxRecDepth 20000 in
theorem gX8_append_X8_checkArgument : GoodIn wsX8_append (va_wsS RX8 51 yX8_checkArgument wsX8_checkArgument) := goodIn_app (goodIn_of _ (by decide +kernel)) ggX8_append_X8_checkArgument
set_option maxRecDepth 20000 in
theorem ggX8_append_X8_checkRoom : GoodIn wsX8_append wsX8_checkRoom := goodIn_ca (goodIn_r _ [11, 12, 13, 1, 14, 15, 16, 17, 18, 19, 33, 34, 35, 36, 37, 38, 39, 40] (by decide +kernel) (by decide +kernel)) (goodIn_sub (fun _ h => List.mem_cons_of_mem _ (List.mem_append_right _ h)) (by decide +kernel))
set_option maxRecDepth 20000 in
theorem gX8_append_X8_checkRoom : GoodIn wsX8_append (wsV RX8 55 RX8 yX8_checkRoom wsX8_checkRoom) := goodIn_app (goodIn_of _ (by decide +kernel)) ggX8_append_X8_checkRoom
set_option maxRecDepth 20000 in
theorem ggX8_append_X2_push : GoodIn wsX8_append wsX2_push := goodIn_r _ [23, 19, 24, 25, 26, 17, 27, 28, 29, 4, 30, 31, 32, 39, 40] (by decide +kernel) (by decide +kernel)
set_option maxRecDepth 20000 in
theorem gX8_append_X2_push : GoodIn wsX8_append (wsV RX8 59 RX2 yX2_push wsX2_push) := goodIn_app (goodIn_of _ (by decide +kernel)) ggX8_append_X2_push
set_option maxRecDepth 20000 in
theorem ggX8_append_X2_count : GoodIn wsX8_append wsX2_count := goodIn_r _ [18, 19, 39, 40] (by decide +kernel) (by decide +kernel)
set_option maxRecDepth 20000 in
theorem gX8_append_X2_count : GoodIn wsX8_append (wsV RX8 62 RX2 yX2_count wsX2_count) := goodIn_app (goodIn_of _ (by decide +kernel)) ggX8_append_X2_count
theorem dX8_append_0 : decode cX8_append 0 = .ok (.iload_n 1, 1) := by decide +kernel
theorem dX8_append_1 : decode cX8_append 1 = .ok (.iconst 0, 1) := by decide +kernel
theorem dX8_append_2 : decode cX8_append 2 = .ok (.bipush 25, 2) := by decide +kernel
theorem dX8_append_4 : decode cX8_append 4 = .ok (.invokestatic 51, 3) := by decide +kernel
theorem dX8_append_7 : decode cX8_append 7 = .ok (.aload_n 0, 1) := by decide +kernel
theorem dX8_append_8 : decode cX8_append 8 = .ok (.iconst 1, 1) := by decide +kernel
theorem dX8_append_9 : decode cX8_append 9 = .ok (.invokevirtual 55, 3) := by decide +kernel
theorem dX8_append_12 : decode cX8_append 12 = .ok (.aload_n 0, 1) := by decide +kernel
theorem dX8_append_13 : decode cX8_append 13 = .ok (.getfield 10, 3) := by decide +kernel
theorem dX8_append_16 : decode cX8_append 16 = .ok (.iload_n 1, 1) := by decide +kernel
theorem dX8_append_17 : decode cX8_append 17 = .ok (.invokevirtual 59, 3) := by decide +kernel
theorem dX8_append_20 : decode cX8_append 20 = .ok (.aload_n 0, 1) := by decide +kernel
theorem dX8_append_21 : decode cX8_append 21 = .ok (.getfield 10, 3) := by decide +kernel
theorem dX8_append_24 : decode cX8_append 24 = .ok (.invokevirtual 62, 3) := by decide +kernel
theorem dX8_append_27 : decode cX8_append 27 = .ok (.ireturn, 1) := by decide +kernel
set_option maxRecDepth 20000 in
theorem ggX8_insert_X2_count : GoodIn wsX8_insert wsX2_count := goodIn_r _ [6, 7, 40, 41] (by decide +kernel) (by decide +kernel)
set_option maxRecDepth 20000 in
theorem gX8_insert_X2_count : GoodIn wsX8_insert (wsV RX8 62 RX2 yX2_count wsX2_count) := goodIn_app (goodIn_of _ (by decide +kernel)) ggX8_insert_X2_count
set_option maxRecDepth 20000 in
theorem ggX8_insert_X8_checkIndex : GoodIn wsX8_insert wsX8_checkIndex := goodIn_ca (goodIn_r _ [11, 12, 13] (by decide +kernel) (by decide +kernel)) (goodIn_sub (fun _ h => List.mem_cons_of_mem _ (List.mem_append_left _ (List.mem_append_left _ (List.mem_append_right _ h)))) (by decide +kernel))
set_option maxRecDepth 20000 in
theorem gX8_insert_X8_checkIndex : GoodIn wsX8_insert (va_wsS RX8 66 yX8_checkIndex wsX8_checkIndex) := goodIn_app (goodIn_of _ (by decide +kernel)) ggX8_insert_X8_checkIndex
set_option maxRecDepth 20000 in
theorem ggX8_insert_X8_checkArgument : GoodIn wsX8_insert wsX8_checkArgument := goodIn_ca (goodIn_r _ [16, 17, 18] (by decide +kernel) (by decide +kernel)) (goodIn_sub (fun _ h => List.mem_cons_of_mem _ (List.mem_append_left _ (List.mem_append_right _ h))) (by decide +kernel))
set_option maxRecDepth 20000 in
theorem gX8_insert_X8_checkArgument : GoodIn wsX8_insert (va_wsS RX8 51 yX8_checkArgument wsX8_checkArgument) := goodIn_app (goodIn_of _ (by decide +kernel)) ggX8_insert_X8_checkArgument
set_option maxRecDepth 20000 in
theorem ggX8_insert_X8_checkRoom : GoodIn wsX8_insert wsX8_checkRoom := goodIn_ca (goodIn_r _ [22, 23, 24, 1, 2, 3, 4, 5, 6, 7, 34, 35, 36, 37, 38, 39, 40, 41] (by decide +kernel) (by decide +kernel)) (goodIn_sub (fun _ h => List.mem_cons_of_mem _ (List.mem_append_right _ h)) (by decide +kernel))
set_option maxRecDepth 20000 in
theorem gX8_insert_X8_checkRoom : GoodIn wsX8_insert (wsV RX8 55 RX8 yX8_checkRoom wsX8_checkRoom) := goodIn_app (goodIn_of _ (by decide +kernel)) ggX8_insert_X8_checkRoom
set_option maxRecDepth 20000 in
theorem ggX8_insert_X2_open : GoodIn wsX8_insert wsX2_open := goodIn_r _ [28, 7, 29, 30, 10, 31, 32, 33, 40, 41] (by decide +kernel) (by decide +kernel)
set_option maxRecDepth 20000 in
theorem gX8_insert_X2_open : GoodIn wsX8_insert (wsV RX8 70 RX2 yX2_open wsX2_open) := goodIn_app (goodIn_of _ (by decide +kernel)) ggX8_insert_X2_open
theorem dX8_insert_0 : decode cX8_insert 0 = .ok (.iload_n 1, 1) := by decide +kernel
theorem dX8_insert_1 : decode cX8_insert 1 = .ok (.aload_n 0, 1) := by decide +kernel
theorem dX8_insert_2 : decode cX8_insert 2 = .ok (.getfield 10, 3) := by decide +kernel
theorem dX8_insert_5 : decode cX8_insert 5 = .ok (.invokevirtual 62, 3) := by decide +kernel
theorem dX8_insert_8 : decode cX8_insert 8 = .ok (.iconst 1, 1) := by decide +kernel
theorem dX8_insert_9 : decode cX8_insert 9 = .ok (.iadd, 1) := by decide +kernel
theorem dX8_insert_10 : decode cX8_insert 10 = .ok (.invokestatic 66, 3) := by decide +kernel
theorem dX8_insert_13 : decode cX8_insert 13 = .ok (.iload_n 2, 1) := by decide +kernel
theorem dX8_insert_14 : decode cX8_insert 14 = .ok (.iconst 0, 1) := by decide +kernel
theorem dX8_insert_15 : decode cX8_insert 15 = .ok (.bipush 25, 2) := by decide +kernel
theorem dX8_insert_17 : decode cX8_insert 17 = .ok (.invokestatic 51, 3) := by decide +kernel
theorem dX8_insert_20 : decode cX8_insert 20 = .ok (.aload_n 0, 1) := by decide +kernel
theorem dX8_insert_21 : decode cX8_insert 21 = .ok (.iconst 1, 1) := by decide +kernel
theorem dX8_insert_22 : decode cX8_insert 22 = .ok (.invokevirtual 55, 3) := by decide +kernel
theorem dX8_insert_25 : decode cX8_insert 25 = .ok (.aload_n 0, 1) := by decide +kernel
theorem dX8_insert_26 : decode cX8_insert 26 = .ok (.getfield 10, 3) := by decide +kernel
theorem dX8_insert_29 : decode cX8_insert 29 = .ok (.iload_n 1, 1) := by decide +kernel
theorem dX8_insert_30 : decode cX8_insert 30 = .ok (.iload_n 2, 1) := by decide +kernel
theorem dX8_insert_31 : decode cX8_insert 31 = .ok (.invokevirtual 70, 3) := by decide +kernel
theorem dX8_insert_34 : decode cX8_insert 34 = .ok (.aload_n 0, 1) := by decide +kernel
theorem dX8_insert_35 : decode cX8_insert 35 = .ok (.getfield 10, 3) := by decide +kernel
theorem dX8_insert_38 : decode cX8_insert 38 = .ok (.invokevirtual 62, 3) := by decide +kernel
theorem dX8_insert_41 : decode cX8_insert 41 = .ok (.ireturn, 1) := by decide +kernel
set_option maxRecDepth 20000 in
theorem ggX8_set_X2_count : GoodIn wsX8_set wsX2_count := goodIn_r _ [6, 7, 38, 39] (by decide +kernel) (by decide +kernel)
set_option maxRecDepth 20000 in
theorem gX8_set_X2_count : GoodIn wsX8_set (wsV RX8 62 RX2 yX2_count wsX2_count) := goodIn_app (goodIn_of _ (by decide +kernel)) ggX8_set_X2_count
set_option maxRecDepth 20000 in
theorem ggX8_set_X8_checkIndex : GoodIn wsX8_set wsX8_checkIndex := goodIn_ca (goodIn_r _ [11, 12, 13] (by decide +kernel) (by decide +kernel)) (goodIn_sub (fun _ h => List.mem_cons_of_mem _ (List.mem_append_left _ (List.mem_append_right _ h))) (by decide +kernel))
set_option maxRecDepth 20000 in
theorem gX8_set_X8_checkIndex : GoodIn wsX8_set (va_wsS RX8 66 yX8_checkIndex wsX8_checkIndex) := goodIn_app (goodIn_of _ (by decide +kernel)) ggX8_set_X8_checkIndex
set_option maxRecDepth 20000 in
theorem ggX8_set_X8_checkArgument : GoodIn wsX8_set wsX8_checkArgument := goodIn_ca (goodIn_r _ [16, 17, 18] (by decide +kernel) (by decide +kernel)) (goodIn_sub (fun _ h => List.mem_cons_of_mem _ (List.mem_append_right _ h)) (by decide +kernel))
set_option maxRecDepth 20000 in
theorem gX8_set_X8_checkArgument : GoodIn wsX8_set (va_wsS RX8 51 yX8_checkArgument wsX8_checkArgument) := goodIn_app (goodIn_of _ (by decide +kernel)) ggX8_set_X8_checkArgument
set_option maxRecDepth 20000 in
theorem ggX8_set_X2_letter : GoodIn wsX8_set wsX2_letter := goodIn_r _ [22, 23, 24, 10, 25, 38, 39] (by decide +kernel) (by decide +kernel)
set_option maxRecDepth 20000 in
theorem gX8_set_X2_letter : GoodIn wsX8_set (wsV RX8 73 RX2 yX2_letter wsX2_letter) := goodIn_app (goodIn_of _ (by decide +kernel)) ggX8_set_X2_letter
set_option maxRecDepth 20000 in
theorem ggX8_set_X2_write : GoodIn wsX8_set wsX2_write := goodIn_r _ [29, 23, 30, 10, 31, 38, 39] (by decide +kernel) (by decide +kernel)
set_option maxRecDepth 20000 in
theorem gX8_set_X2_write : GoodIn wsX8_set (wsV RX8 77 RX2 yX2_write wsX2_write) := goodIn_app (goodIn_of _ (by decide +kernel)) ggX8_set_X2_write
theorem dX8_set_0 : decode cX8_set 0 = .ok (.iload_n 1, 1) := by decide +kernel
theorem dX8_set_1 : decode cX8_set 1 = .ok (.aload_n 0, 1) := by decide +kernel
theorem dX8_set_2 : decode cX8_set 2 = .ok (.getfield 10, 3) := by decide +kernel
theorem dX8_set_5 : decode cX8_set 5 = .ok (.invokevirtual 62, 3) := by decide +kernel
theorem dX8_set_8 : decode cX8_set 8 = .ok (.invokestatic 66, 3) := by decide +kernel
theorem dX8_set_11 : decode cX8_set 11 = .ok (.iload_n 2, 1) := by decide +kernel
theorem dX8_set_12 : decode cX8_set 12 = .ok (.iconst 0, 1) := by decide +kernel
theorem dX8_set_13 : decode cX8_set 13 = .ok (.bipush 25, 2) := by decide +kernel
theorem dX8_set_15 : decode cX8_set 15 = .ok (.invokestatic 51, 3) := by decide +kernel
theorem dX8_set_18 : decode cX8_set 18 = .ok (.aload_n 0, 1) := by decide +kernel
theorem dX8_set_19 : decode cX8_set 19 = .ok (.getfield 10, 3) := by decide +kernel
theorem dX8_set_22 : decode cX8_set 22 = .ok (.iload_n 1, 1) := by decide +kernel
theorem dX8_set_23 : decode cX8_set 23 = .ok (.invokevirtual 73, 3) := by decide +kernel
theorem dX8_set_26 : decode cX8_set 26 = .ok (.istore_n 3, 1) := by decide +kernel
theorem dX8_set_27 : decode cX8_set 27 = .ok (.aload_n 0, 1) := by decide +kernel
theorem dX8_set_28 : decode cX8_set 28 = .ok (.getfield 10, 3) := by decide +kernel
theorem dX8_set_31 : decode cX8_set 31 = .ok (.iload_n 1, 1) := by decide +kernel
theorem dX8_set_32 : decode cX8_set 32 = .ok (.iload_n 2, 1) := by decide +kernel
theorem dX8_set_33 : decode cX8_set 33 = .ok (.invokevirtual 77, 3) := by decide +kernel
theorem dX8_set_36 : decode cX8_set 36 = .ok (.iload_n 3, 1) := by decide +kernel
theorem dX8_set_37 : decode cX8_set 37 = .ok (.ireturn, 1) := by decide +kernel
set_option maxRecDepth 20000 in
theorem ggX8_remove_X2_count : GoodIn wsX8_remove wsX2_count := goodIn_r _ [6, 7, 29, 30] (by decide +kernel) (by decide +kernel)
set_option maxRecDepth 20000 in
theorem gX8_remove_X2_count : GoodIn wsX8_remove (wsV RX8 62 RX2 yX2_count wsX2_count) := goodIn_app (goodIn_of _ (by decide +kernel)) ggX8_remove_X2_count
set_option maxRecDepth 20000 in
theorem ggX8_remove_X8_checkIndex : GoodIn wsX8_remove wsX8_checkIndex := goodIn_ca (goodIn_r _ [11, 12, 13] (by decide +kernel) (by decide +kernel)) (goodIn_sub (fun _ h => List.mem_cons_of_mem _ (List.mem_append_right _ h)) (by decide +kernel))
set_option maxRecDepth 20000 in
theorem gX8_remove_X8_checkIndex : GoodIn wsX8_remove (va_wsS RX8 66 yX8_checkIndex wsX8_checkIndex) := goodIn_app (goodIn_of _ (by decide +kernel)) ggX8_remove_X8_checkIndex
set_option maxRecDepth 20000 in
theorem ggX8_remove_X2_take : GoodIn wsX8_remove wsX2_take := goodIn_r _ [17, 18, 7, 19, 10, 20, 21, 22, 29, 30] (by decide +kernel) (by decide +kernel)
set_option maxRecDepth 20000 in
theorem gX8_remove_X2_take : GoodIn wsX8_remove (wsV RX8 80 RX2 yX2_take wsX2_take) := goodIn_app (goodIn_of _ (by decide +kernel)) ggX8_remove_X2_take
theorem dX8_remove_0 : decode cX8_remove 0 = .ok (.iload_n 1, 1) := by decide +kernel
theorem dX8_remove_1 : decode cX8_remove 1 = .ok (.aload_n 0, 1) := by decide +kernel
theorem dX8_remove_2 : decode cX8_remove 2 = .ok (.getfield 10, 3) := by decide +kernel
theorem dX8_remove_5 : decode cX8_remove 5 = .ok (.invokevirtual 62, 3) := by decide +kernel
theorem dX8_remove_8 : decode cX8_remove 8 = .ok (.invokestatic 66, 3) := by decide +kernel
theorem dX8_remove_11 : decode cX8_remove 11 = .ok (.aload_n 0, 1) := by decide +kernel
theorem dX8_remove_12 : decode cX8_remove 12 = .ok (.getfield 10, 3) := by decide +kernel
theorem dX8_remove_15 : decode cX8_remove 15 = .ok (.iload_n 1, 1) := by decide +kernel
theorem dX8_remove_16 : decode cX8_remove 16 = .ok (.invokevirtual 80, 3) := by decide +kernel
theorem dX8_remove_19 : decode cX8_remove 19 = .ok (.ireturn, 1) := by decide +kernel
set_option maxRecDepth 20000 in
theorem ggX8_clear_X2_count : GoodIn wsX8_clear wsX2_count := goodIn_r _ [6, 7, 18, 19] (by decide +kernel) (by decide +kernel)
set_option maxRecDepth 20000 in
theorem gX8_clear_X2_count : GoodIn wsX8_clear (wsV RX8 62 RX2 yX2_count wsX2_count) := goodIn_app (goodIn_of _ (by decide +kernel)) ggX8_clear_X2_count
set_option maxRecDepth 20000 in
theorem ggX8_clear_X2_empty : GoodIn wsX8_clear wsX2_empty := goodIn_r _ [11, 7, 18, 19] (by decide +kernel) (by decide +kernel)
set_option maxRecDepth 20000 in
theorem gX8_clear_X2_empty : GoodIn wsX8_clear (wsV RX8 83 RX2 yX2_empty wsX2_empty) := goodIn_app (goodIn_of _ (by decide +kernel)) ggX8_clear_X2_empty
theorem dX8_clear_0 : decode cX8_clear 0 = .ok (.aload_n 0, 1) := by decide +kernel
theorem dX8_clear_1 : decode cX8_clear 1 = .ok (.getfield 10, 3) := by decide +kernel
theorem dX8_clear_4 : decode cX8_clear 4 = .ok (.invokevirtual 62, 3) := by decide +kernel
theorem dX8_clear_7 : decode cX8_clear 7 = .ok (.istore_n 1, 1) := by decide +kernel
theorem dX8_clear_8 : decode cX8_clear 8 = .ok (.aload_n 0, 1) := by decide +kernel
theorem dX8_clear_9 : decode cX8_clear 9 = .ok (.getfield 10, 3) := by decide +kernel
theorem dX8_clear_12 : decode cX8_clear 12 = .ok (.invokevirtual 83, 3) := by decide +kernel
theorem dX8_clear_15 : decode cX8_clear 15 = .ok (.iload_n 1, 1) := by decide +kernel
theorem dX8_clear_16 : decode cX8_clear 16 = .ok (.ireturn, 1) := by decide +kernel
set_option maxRecDepth 20000 in
theorem ggX8_reverse_X2_count : GoodIn wsX8_reverse wsX2_count := goodIn_r _ [6, 7, 24, 25] (by decide +kernel) (by decide +kernel)
set_option maxRecDepth 20000 in
theorem gX8_reverse_X2_count : GoodIn wsX8_reverse (wsV RX8 62 RX2 yX2_count wsX2_count) := goodIn_app (goodIn_of _ (by decide +kernel)) ggX8_reverse_X2_count
set_option maxRecDepth 20000 in
theorem ggX8_reverse_X2_turn : GoodIn wsX8_reverse wsX2_turn := goodIn_r _ [11, 12, 13, 14, 15, 16, 17, 24, 25] (by decide +kernel) (by decide +kernel)
set_option maxRecDepth 20000 in
theorem gX8_reverse_X2_turn : GoodIn wsX8_reverse (wsV RX8 86 RX2 yX2_turn wsX2_turn) := goodIn_app (goodIn_of _ (by decide +kernel)) ggX8_reverse_X2_turn
theorem dX8_reverse_0 : decode cX8_reverse 0 = .ok (.aload_n 0, 1) := by decide +kernel
theorem dX8_reverse_1 : decode cX8_reverse 1 = .ok (.getfield 10, 3) := by decide +kernel
theorem dX8_reverse_4 : decode cX8_reverse 4 = .ok (.iconst 0, 1) := by decide +kernel
theorem dX8_reverse_5 : decode cX8_reverse 5 = .ok (.aload_n 0, 1) := by decide +kernel
theorem dX8_reverse_6 : decode cX8_reverse 6 = .ok (.getfield 10, 3) := by decide +kernel
theorem dX8_reverse_9 : decode cX8_reverse 9 = .ok (.invokevirtual 62, 3) := by decide +kernel
theorem dX8_reverse_12 : decode cX8_reverse 12 = .ok (.invokevirtual 86, 3) := by decide +kernel
theorem dX8_reverse_15 : decode cX8_reverse 15 = .ok (.aload_n 0, 1) := by decide +kernel
theorem dX8_reverse_16 : decode cX8_reverse 16 = .ok (.getfield 10, 3) := by decide +kernel
theorem dX8_reverse_19 : decode cX8_reverse 19 = .ok (.invokevirtual 62, 3) := by decide +kernel
theorem dX8_reverse_22 : decode cX8_reverse 22 = .ok (.ireturn, 1) := by decide +kernel
set_option maxRecDepth 20000 in
theorem ggX8_rotate_X8_checkArgument : GoodIn wsX8_rotate wsX8_checkArgument := goodIn_ca (goodIn_r _ [7, 8, 9] (by decide +kernel) (by decide +kernel)) (goodIn_sub (fun _ h => List.mem_cons_of_mem _ (List.mem_append_right _ h)) (by decide +kernel))
set_option maxRecDepth 20000 in
theorem gX8_rotate_X8_checkArgument : GoodIn wsX8_rotate (va_wsS RX8 51 yX8_checkArgument wsX8_checkArgument) := goodIn_app (goodIn_of _ (by decide +kernel)) ggX8_rotate_X8_checkArgument
set_option maxRecDepth 20000 in
theorem ggX8_rotate_X2_count : GoodIn wsX8_rotate wsX2_count := goodIn_r _ [14, 15, 35, 36] (by decide +kernel) (by decide +kernel)
set_option maxRecDepth 20000 in
theorem gX8_rotate_X2_count : GoodIn wsX8_rotate (wsV RX8 62 RX2 yX2_count wsX2_count) := goodIn_app (goodIn_of _ (by decide +kernel)) ggX8_rotate_X2_count
set_option maxRecDepth 20000 in
theorem ggX8_rotate_X2_turn : GoodIn wsX8_rotate wsX2_turn := goodIn_r _ [19, 20, 21, 6, 22, 23, 24, 35, 36] (by decide +kernel) (by decide +kernel)
set_option maxRecDepth 20000 in
theorem gX8_rotate_X2_turn : GoodIn wsX8_rotate (wsV RX8 86 RX2 yX2_turn wsX2_turn) := goodIn_app (goodIn_of _ (by decide +kernel)) ggX8_rotate_X2_turn
set_option maxRecDepth 20000 in
theorem ggX8_rotate_X2_letter : GoodIn wsX8_rotate wsX2_letter := goodIn_r _ [28, 20, 21, 6, 22, 35, 36] (by decide +kernel) (by decide +kernel)
set_option maxRecDepth 20000 in
theorem gX8_rotate_X2_letter : GoodIn wsX8_rotate (wsV RX8 73 RX2 yX2_letter wsX2_letter) := goodIn_app (goodIn_of _ (by decide +kernel)) ggX8_rotate_X2_letter
theorem dX8_rotate_0 : decode cX8_rotate 0 = .ok (.iload_n 1, 1) := by decide +kernel
theorem dX8_rotate_1 : decode cX8_rotate 1 = .ok (.iconst 0, 1) := by decide +kernel
theorem dX8_rotate_2 : decode cX8_rotate 2 = .ok (.bipush 63, 2) := by decide +kernel
theorem dX8_rotate_4 : decode cX8_rotate 4 = .ok (.invokestatic 51, 3) := by decide +kernel
theorem dX8_rotate_7 : decode cX8_rotate 7 = .ok (.aload_n 0, 1) := by decide +kernel
theorem dX8_rotate_8 : decode cX8_rotate 8 = .ok (.getfield 10, 3) := by decide +kernel
theorem dX8_rotate_11 : decode cX8_rotate 11 = .ok (.invokevirtual 62, 3) := by decide +kernel
theorem dX8_rotate_14 : decode cX8_rotate 14 = .ok (.istore_n 2, 1) := by decide +kernel
theorem dX8_rotate_15 : decode cX8_rotate 15 = .ok (.iload_n 2, 1) := by decide +kernel
theorem dX8_rotate_16 : decode cX8_rotate 16 = .ok (.ifCond .ne 13, 3) := by decide +kernel
theorem dX8_rotate_19 : decode cX8_rotate 19 = .ok (.new 89, 3) := by decide +kernel
theorem dX8_rotate_22 : decode cX8_rotate 22 = .ok (.dup, 1) := by decide +kernel
theorem dX8_rotate_23 : decode cX8_rotate 23 = .ok (.ldc 91, 2) := by decide +kernel
theorem dX8_rotate_25 : decode cX8_rotate 25 = .ok (.invokespecial 93, 3) := by decide +kernel
theorem dX8_rotate_28 : decode cX8_rotate 28 = .ok (.athrow, 1) := by decide +kernel
theorem dX8_rotate_29 : decode cX8_rotate 29 = .ok (.iload_n 1, 1) := by decide +kernel
theorem dX8_rotate_30 : decode cX8_rotate 30 = .ok (.iload_n 2, 1) := by decide +kernel
theorem dX8_rotate_31 : decode cX8_rotate 31 = .ok (.irem, 1) := by decide +kernel
theorem dX8_rotate_32 : decode cX8_rotate 32 = .ok (.istore_n 3, 1) := by decide +kernel
theorem dX8_rotate_33 : decode cX8_rotate 33 = .ok (.aload_n 0, 1) := by decide +kernel
theorem dX8_rotate_34 : decode cX8_rotate 34 = .ok (.getfield 10, 3) := by decide +kernel
theorem dX8_rotate_37 : decode cX8_rotate 37 = .ok (.iconst 0, 1) := by decide +kernel
theorem dX8_rotate_38 : decode cX8_rotate 38 = .ok (.iload_n 3, 1) := by decide +kernel
theorem dX8_rotate_39 : decode cX8_rotate 39 = .ok (.invokevirtual 86, 3) := by decide +kernel
theorem dX8_rotate_42 : decode cX8_rotate 42 = .ok (.aload_n 0, 1) := by decide +kernel
theorem dX8_rotate_43 : decode cX8_rotate 43 = .ok (.getfield 10, 3) := by decide +kernel
theorem dX8_rotate_46 : decode cX8_rotate 46 = .ok (.iload_n 3, 1) := by decide +kernel
theorem dX8_rotate_47 : decode cX8_rotate 47 = .ok (.iload_n 2, 1) := by decide +kernel
theorem dX8_rotate_48 : decode cX8_rotate 48 = .ok (.invokevirtual 86, 3) := by decide +kernel
theorem dX8_rotate_51 : decode cX8_rotate 51 = .ok (.aload_n 0, 1) := by decide +kernel
theorem dX8_rotate_52 : decode cX8_rotate 52 = .ok (.getfield 10, 3) := by decide +kernel
theorem dX8_rotate_55 : decode cX8_rotate 55 = .ok (.iconst 0, 1) := by decide +kernel
theorem dX8_rotate_56 : decode cX8_rotate 56 = .ok (.iload_n 2, 1) := by decide +kernel
theorem dX8_rotate_57 : decode cX8_rotate 57 = .ok (.invokevirtual 86, 3) := by decide +kernel
theorem dX8_rotate_60 : decode cX8_rotate 60 = .ok (.aload_n 0, 1) := by decide +kernel
theorem dX8_rotate_61 : decode cX8_rotate 61 = .ok (.getfield 10, 3) := by decide +kernel
theorem dX8_rotate_64 : decode cX8_rotate 64 = .ok (.iconst 0, 1) := by decide +kernel
theorem dX8_rotate_65 : decode cX8_rotate 65 = .ok (.invokevirtual 73, 3) := by decide +kernel
theorem dX8_rotate_68 : decode cX8_rotate 68 = .ok (.ireturn, 1) := by decide +kernel
set_option maxRecDepth 20000 in
theorem ggX8_appendPart_X8_checkPart : GoodIn wsX8_appendPart wsX8_checkPart := goodIn_ca (goodIn_r _ [6, 7, 8, 1, 9, 10, 11, 12, 13, 14, 38, 39, 40, 41, 42, 43, 44, 45] (by decide +kernel) (by decide +kernel)) (goodIn_sub (fun _ h => List.mem_cons_of_mem _ (List.mem_append_left _ (List.mem_append_right _ h))) (by decide +kernel))
set_option maxRecDepth 20000 in
theorem gX8_appendPart_X8_checkPart : GoodIn wsX8_appendPart (wsV RX8 96 RX8 yX8_checkPart wsX8_checkPart) := goodIn_app (goodIn_of _ (by decide +kernel)) ggX8_appendPart_X8_checkPart
set_option maxRecDepth 20000 in
theorem ggX8_appendPart_X8_checkRoom : GoodIn wsX8_appendPart wsX8_checkRoom := goodIn_ca (goodIn_r _ [18, 19, 20, 1, 9, 10, 11, 12, 13, 14, 38, 39, 40, 41, 42, 43, 44, 45] (by decide +kernel) (by decide +kernel)) (goodIn_sub (fun _ h => List.mem_cons_of_mem _ (List.mem_append_right _ h)) (by decide +kernel))
set_option maxRecDepth 20000 in
theorem gX8_appendPart_X8_checkRoom : GoodIn wsX8_appendPart (wsV RX8 55 RX8 yX8_checkRoom wsX8_checkRoom) := goodIn_app (goodIn_of _ (by decide +kernel)) ggX8_appendPart_X8_checkRoom
set_option maxRecDepth 20000 in
theorem ggX8_appendPart_X2_letter : GoodIn wsX8_appendPart wsX2_letter := goodIn_r _ [24, 25, 26, 5, 27, 44, 45] (by decide +kernel) (by decide +kernel)
set_option maxRecDepth 20000 in
theorem gX8_appendPart_X2_letter : GoodIn wsX8_appendPart (wsV RX8 73 RX2 yX2_letter wsX2_letter) := goodIn_app (goodIn_of _ (by decide +kernel)) ggX8_appendPart_X2_letter
set_option maxRecDepth 20000 in
theorem ggX8_appendPart_X2_push : GoodIn wsX8_appendPart wsX2_push := goodIn_r _ [31, 14, 32, 33, 34, 12, 35, 25, 26, 5, 27, 36, 37, 44, 45] (by decide +kernel) (by decide +kernel)
set_option maxRecDepth 20000 in
theorem gX8_appendPart_X2_push : GoodIn wsX8_appendPart (wsV RX8 59 RX2 yX2_push wsX2_push) := goodIn_app (goodIn_of _ (by decide +kernel)) ggX8_appendPart_X2_push
set_option maxRecDepth 20000 in
theorem ggX8_appendPart_X2_count : GoodIn wsX8_appendPart wsX2_count := goodIn_r _ [13, 14, 44, 45] (by decide +kernel) (by decide +kernel)
set_option maxRecDepth 20000 in
theorem gX8_appendPart_X2_count : GoodIn wsX8_appendPart (wsV RX8 62 RX2 yX2_count wsX2_count) := goodIn_app (goodIn_of _ (by decide +kernel)) ggX8_appendPart_X2_count
theorem dX8_appendPart_0 : decode cX8_appendPart 0 = .ok (.aload_n 0, 1) := by decide +kernel
theorem dX8_appendPart_1 : decode cX8_appendPart 1 = .ok (.iload_n 1, 1) := by decide +kernel
theorem dX8_appendPart_2 : decode cX8_appendPart 2 = .ok (.iload_n 2, 1) := by decide +kernel
theorem dX8_appendPart_3 : decode cX8_appendPart 3 = .ok (.invokevirtual 96, 3) := by decide +kernel
theorem dX8_appendPart_6 : decode cX8_appendPart 6 = .ok (.aload_n 0, 1) := by decide +kernel
theorem dX8_appendPart_7 : decode cX8_appendPart 7 = .ok (.iload_n 2, 1) := by decide +kernel
theorem dX8_appendPart_8 : decode cX8_appendPart 8 = .ok (.iload_n 1, 1) := by decide +kernel
theorem dX8_appendPart_9 : decode cX8_appendPart 9 = .ok (.isub, 1) := by decide +kernel
theorem dX8_appendPart_10 : decode cX8_appendPart 10 = .ok (.invokevirtual 55, 3) := by decide +kernel
theorem dX8_appendPart_13 : decode cX8_appendPart 13 = .ok (.iload_n 1, 1) := by decide +kernel
theorem dX8_appendPart_14 : decode cX8_appendPart 14 = .ok (.istore_n 3, 1) := by decide +kernel
theorem dX8_appendPart_15 : decode cX8_appendPart 15 = .ok (.iload_n 3, 1) := by decide +kernel
theorem dX8_appendPart_16 : decode cX8_appendPart 16 = .ok (.iload_n 2, 1) := by decide +kernel
theorem dX8_appendPart_17 : decode cX8_appendPart 17 = .ok (.if_icmp .ge 24, 3) := by decide +kernel
theorem dX8_appendPart_20 : decode cX8_appendPart 20 = .ok (.aload_n 0, 1) := by decide +kernel
theorem dX8_appendPart_21 : decode cX8_appendPart 21 = .ok (.getfield 10, 3) := by decide +kernel
theorem dX8_appendPart_24 : decode cX8_appendPart 24 = .ok (.aload_n 0, 1) := by decide +kernel
theorem dX8_appendPart_25 : decode cX8_appendPart 25 = .ok (.getfield 10, 3) := by decide +kernel
theorem dX8_appendPart_28 : decode cX8_appendPart 28 = .ok (.iload_n 3, 1) := by decide +kernel
theorem dX8_appendPart_29 : decode cX8_appendPart 29 = .ok (.invokevirtual 73, 3) := by decide +kernel
theorem dX8_appendPart_32 : decode cX8_appendPart 32 = .ok (.invokevirtual 59, 3) := by decide +kernel
theorem dX8_appendPart_35 : decode cX8_appendPart 35 = .ok (.iinc 3 1, 3) := by decide +kernel
theorem dX8_appendPart_38 : decode cX8_appendPart 38 = .ok (.goto (-23), 3) := by decide +kernel
theorem dX8_appendPart_41 : decode cX8_appendPart 41 = .ok (.aload_n 0, 1) := by decide +kernel
theorem dX8_appendPart_42 : decode cX8_appendPart 42 = .ok (.getfield 10, 3) := by decide +kernel
theorem dX8_appendPart_45 : decode cX8_appendPart 45 = .ok (.invokevirtual 62, 3) := by decide +kernel
theorem dX8_appendPart_48 : decode cX8_appendPart 48 = .ok (.ireturn, 1) := by decide +kernel
set_option maxRecDepth 20000 in
theorem ggX8_loadDeBruijn_X8_checkArgument : GoodIn wsX8_loadDeBruijn wsX8_checkArgument := goodIn_ca (goodIn_r _ [9, 1, 2] (by decide +kernel) (by decide +kernel)) (goodIn_sub (fun _ h => List.mem_cons_of_mem _ (List.mem_append_right _ h)) (by decide +kernel))
set_option maxRecDepth 20000 in
theorem gX8_loadDeBruijn_X8_checkArgument : GoodIn wsX8_loadDeBruijn (va_wsS RX8 51 yX8_checkArgument wsX8_checkArgument) := goodIn_app (goodIn_of _ (by decide +kernel)) ggX8_loadDeBruijn_X8_checkArgument
set_option maxRecDepth 20000 in
theorem ggX8_loadDeBruijn_X4_power : GoodIn wsX8_loadDeBruijn wsX4_power := goodIn_r _ [13] (by decide +kernel) (by decide +kernel)
set_option maxRecDepth 20000 in
theorem gX8_loadDeBruijn_X4_power : GoodIn wsX8_loadDeBruijn (va_wsS RX8 99 yX4_power wsX4_power) := goodIn_app (goodIn_of _ (by decide +kernel)) ggX8_loadDeBruijn_X4_power
set_option maxRecDepth 20000 in
theorem ggX8_loadDeBruijn_X2_empty : GoodIn wsX8_loadDeBruijn wsX2_empty := goodIn_r _ [18, 19, 76, 77] (by decide +kernel) (by decide +kernel)
set_option maxRecDepth 20000 in
theorem gX8_loadDeBruijn_X2_empty : GoodIn wsX8_loadDeBruijn (wsV RX8 83 RX2 yX2_empty wsX2_empty) := goodIn_app (goodIn_of _ (by decide +kernel)) ggX8_loadDeBruijn_X2_empty
set_option maxRecDepth 20000 in
theorem ggX8_loadDeBruijn_X3_begin : GoodIn wsX8_loadDeBruijn wsX3_begin := goodIn_r _ [24, 25, 26, 27, 28, 78, 79, 80, 81] (by decide +kernel) (by decide +kernel)
set_option maxRecDepth 20000 in
theorem gX8_loadDeBruijn_X3_begin : GoodIn wsX8_loadDeBruijn (wsV RX8 112 RX3 yX3_begin wsX3_begin) := goodIn_app (goodIn_of _ (by decide +kernel)) ggX8_loadDeBruijn_X3_begin
set_option maxRecDepth 20000 in
theorem ggX8_loadDeBruijn_X3_root : GoodIn wsX8_loadDeBruijn wsX3_root := goodIn_r _ [32, 28, 78, 79, 80, 81] (by decide +kernel) (by decide +kernel)
set_option maxRecDepth 20000 in
theorem gX8_loadDeBruijn_X3_root : GoodIn wsX8_loadDeBruijn (wsV RX8 115 RX3 yX3_root wsX3_root) := goodIn_app (goodIn_of _ (by decide +kernel)) ggX8_loadDeBruijn_X3_root
set_option maxRecDepth 20000 in
theorem ggX8_loadDeBruijn_X8_pushFromWalk : GoodIn wsX8_loadDeBruijn wsX8_pushFromWalk := goodIn_r _ [36, 4, 5, 37, 38, 39, 23, 40, 27, 26, 41, 42, 43, 17, 44, 19, 45, 46, 47, 48, 49, 50, 8, 51, 52, 53, 70, 71, 72, 73, 74, 75, 78, 79, 80, 81, 76, 77] (by decide +kernel) (by decide +kernel)
set_option maxRecDepth 20000 in
theorem gX8_loadDeBruijn_X8_pushFromWalk : GoodIn wsX8_loadDeBruijn (wsV RX8 118 RX8 yX8_pushFromWalk wsX8_pushFromWalk) := goodIn_app (goodIn_of _ (by decide +kernel)) ggX8_loadDeBruijn_X8_pushFromWalk
set_option maxRecDepth 20000 in
theorem ggX8_loadDeBruijn_X3_toNextNecklace : GoodIn wsX8_loadDeBruijn wsX3_toNextNecklace := goodIn_r _ [57, 58, 28, 26, 59, 60, 61, 23, 62, 27, 25, 63, 64, 65, 78, 79, 80, 81] (by decide +kernel) (by decide +kernel)
set_option maxRecDepth 20000 in
theorem gX8_loadDeBruijn_X3_toNextNecklace : GoodIn wsX8_loadDeBruijn (wsV RX8 121 RX3 yX3_toNextNecklace wsX3_toNextNecklace) := goodIn_app (goodIn_of _ (by decide +kernel)) ggX8_loadDeBruijn_X3_toNextNecklace
set_option maxRecDepth 20000 in
theorem ggX8_loadDeBruijn_X2_count : GoodIn wsX8_loadDeBruijn wsX2_count := goodIn_r _ [69, 19, 76, 77] (by decide +kernel) (by decide +kernel)
set_option maxRecDepth 20000 in
theorem gX8_loadDeBruijn_X2_count : GoodIn wsX8_loadDeBruijn (wsV RX8 62 RX2 yX2_count wsX2_count) := goodIn_app (goodIn_of _ (by decide +kernel)) ggX8_loadDeBruijn_X2_count
theorem dX8_loadDeBruijn_0 : decode cX8_loadDeBruijn 0 = .ok (.iload_n 1, 1) := by decide +kernel
theorem dX8_loadDeBruijn_1 : decode cX8_loadDeBruijn 1 = .ok (.iconst 1, 1) := by decide +kernel
theorem dX8_loadDeBruijn_2 : decode cX8_loadDeBruijn 2 = .ok (.bipush 8, 2) := by decide +kernel
theorem dX8_loadDeBruijn_4 : decode cX8_loadDeBruijn 4 = .ok (.invokestatic 51, 3) := by decide +kernel
theorem dX8_loadDeBruijn_7 : decode cX8_loadDeBruijn 7 = .ok (.iload_n 2, 1) := by decide +kernel
theorem dX8_loadDeBruijn_8 : decode cX8_loadDeBruijn 8 = .ok (.iconst 1, 1) := by decide +kernel
theorem dX8_loadDeBruijn_9 : decode cX8_loadDeBruijn 9 = .ok (.bipush 6, 2) := by decide +kernel
theorem dX8_loadDeBruijn_11 : decode cX8_loadDeBruijn 11 = .ok (.invokestatic 51, 3) := by decide +kernel
theorem dX8_loadDeBruijn_14 : decode cX8_loadDeBruijn 14 = .ok (.iload_n 1, 1) := by decide +kernel
theorem dX8_loadDeBruijn_15 : decode cX8_loadDeBruijn 15 = .ok (.iload_n 2, 1) := by decide +kernel
theorem dX8_loadDeBruijn_16 : decode cX8_loadDeBruijn 16 = .ok (.invokestatic 99, 3) := by decide +kernel
theorem dX8_loadDeBruijn_19 : decode cX8_loadDeBruijn 19 = .ok (.ldc2_w 105, 3) := by decide +kernel
theorem dX8_loadDeBruijn_22 : decode cX8_loadDeBruijn 22 = .ok (.lcmp, 1) := by decide +kernel
theorem dX8_loadDeBruijn_23 : decode cX8_loadDeBruijn 23 = .ok (.ifCond .le 13, 3) := by decide +kernel
theorem dX8_loadDeBruijn_26 : decode cX8_loadDeBruijn 26 = .ok (.new 107, 3) := by decide +kernel
theorem dX8_loadDeBruijn_29 : decode cX8_loadDeBruijn 29 = .ok (.dup, 1) := by decide +kernel
theorem dX8_loadDeBruijn_30 : decode cX8_loadDeBruijn 30 = .ok (.ldc 109, 2) := by decide +kernel
theorem dX8_loadDeBruijn_32 : decode cX8_loadDeBruijn 32 = .ok (.invokespecial 111, 3) := by decide +kernel
theorem dX8_loadDeBruijn_35 : decode cX8_loadDeBruijn 35 = .ok (.athrow, 1) := by decide +kernel
theorem dX8_loadDeBruijn_36 : decode cX8_loadDeBruijn 36 = .ok (.aload_n 0, 1) := by decide +kernel
theorem dX8_loadDeBruijn_37 : decode cX8_loadDeBruijn 37 = .ok (.getfield 10, 3) := by decide +kernel
theorem dX8_loadDeBruijn_40 : decode cX8_loadDeBruijn 40 = .ok (.invokevirtual 83, 3) := by decide +kernel
theorem dX8_loadDeBruijn_43 : decode cX8_loadDeBruijn 43 = .ok (.aload_n 0, 1) := by decide +kernel
theorem dX8_loadDeBruijn_44 : decode cX8_loadDeBruijn 44 = .ok (.getfield 47, 3) := by decide +kernel
theorem dX8_loadDeBruijn_47 : decode cX8_loadDeBruijn 47 = .ok (.iload_n 1, 1) := by decide +kernel
theorem dX8_loadDeBruijn_48 : decode cX8_loadDeBruijn 48 = .ok (.iload_n 2, 1) := by decide +kernel
theorem dX8_loadDeBruijn_49 : decode cX8_loadDeBruijn 49 = .ok (.invokevirtual 112, 3) := by decide +kernel
theorem dX8_loadDeBruijn_52 : decode cX8_loadDeBruijn 52 = .ok (.iconst 1, 1) := by decide +kernel
theorem dX8_loadDeBruijn_53 : decode cX8_loadDeBruijn 53 = .ok (.istore_n 3, 1) := by decide +kernel
theorem dX8_loadDeBruijn_54 : decode cX8_loadDeBruijn 54 = .ok (.iconst 0, 1) := by decide +kernel
theorem dX8_loadDeBruijn_55 : decode cX8_loadDeBruijn 55 = .ok (.istore 4, 2) := by decide +kernel
theorem dX8_loadDeBruijn_57 : decode cX8_loadDeBruijn 57 = .ok (.iload_n 3, 1) := by decide +kernel
theorem dX8_loadDeBruijn_58 : decode cX8_loadDeBruijn 58 = .ok (.ifCond .eq 35, 3) := by decide +kernel
theorem dX8_loadDeBruijn_61 : decode cX8_loadDeBruijn 61 = .ok (.iload 4, 2) := by decide +kernel
theorem dX8_loadDeBruijn_63 : decode cX8_loadDeBruijn 63 = .ok (.bipush 64, 2) := by decide +kernel
theorem dX8_loadDeBruijn_65 : decode cX8_loadDeBruijn 65 = .ok (.if_icmp .ge 28, 3) := by decide +kernel
theorem dX8_loadDeBruijn_68 : decode cX8_loadDeBruijn 68 = .ok (.aload_n 0, 1) := by decide +kernel
theorem dX8_loadDeBruijn_69 : decode cX8_loadDeBruijn 69 = .ok (.aload_n 0, 1) := by decide +kernel
theorem dX8_loadDeBruijn_70 : decode cX8_loadDeBruijn 70 = .ok (.getfield 47, 3) := by decide +kernel
theorem dX8_loadDeBruijn_73 : decode cX8_loadDeBruijn 73 = .ok (.invokevirtual 115, 3) := by decide +kernel
theorem dX8_loadDeBruijn_76 : decode cX8_loadDeBruijn 76 = .ok (.invokevirtual 118, 3) := by decide +kernel
theorem dX8_loadDeBruijn_79 : decode cX8_loadDeBruijn 79 = .ok (.aload_n 0, 1) := by decide +kernel
theorem dX8_loadDeBruijn_80 : decode cX8_loadDeBruijn 80 = .ok (.getfield 47, 3) := by decide +kernel
theorem dX8_loadDeBruijn_83 : decode cX8_loadDeBruijn 83 = .ok (.invokevirtual 121, 3) := by decide +kernel
theorem dX8_loadDeBruijn_86 : decode cX8_loadDeBruijn 86 = .ok (.istore_n 3, 1) := by decide +kernel
theorem dX8_loadDeBruijn_87 : decode cX8_loadDeBruijn 87 = .ok (.iinc 4 1, 3) := by decide +kernel
theorem dX8_loadDeBruijn_90 : decode cX8_loadDeBruijn 90 = .ok (.goto (-33), 3) := by decide +kernel
theorem dX8_loadDeBruijn_93 : decode cX8_loadDeBruijn 93 = .ok (.aload_n 0, 1) := by decide +kernel
theorem dX8_loadDeBruijn_94 : decode cX8_loadDeBruijn 94 = .ok (.getfield 10, 3) := by decide +kernel
theorem dX8_loadDeBruijn_97 : decode cX8_loadDeBruijn 97 = .ok (.invokevirtual 62, 3) := by decide +kernel
theorem dX8_loadDeBruijn_100 : decode cX8_loadDeBruijn 100 = .ok (.ireturn, 1) := by decide +kernel
set_option maxRecDepth 20000 in
theorem ggX8_loadNecklace_X8_checkArgument : GoodIn wsX8_loadNecklace wsX8_checkArgument := goodIn_ca (goodIn_r _ [8, 1, 2] (by decide +kernel) (by decide +kernel)) (goodIn_sub (fun _ h => List.mem_cons_of_mem _ (List.mem_append_right _ h)) (by decide +kernel))
set_option maxRecDepth 20000 in
theorem gX8_loadNecklace_X8_checkArgument : GoodIn wsX8_loadNecklace (va_wsS RX8 51 yX8_checkArgument wsX8_checkArgument) := goodIn_app (goodIn_of _ (by decide +kernel)) ggX8_loadNecklace_X8_checkArgument
set_option maxRecDepth 20000 in
theorem ggX8_loadNecklace_X4_necklaceCount : GoodIn wsX8_loadNecklace wsX4_necklaceCount := goodIn_r _ [12, 13, 14, 11, 15, 16, 17, 18, 19, 20, 21] (by decide +kernel) (by decide +kernel)
set_option maxRecDepth 20000 in
theorem gX8_loadNecklace_X4_necklaceCount : GoodIn wsX8_loadNecklace (va_wsS RX8 125 yX4_necklaceCount wsX4_necklaceCount) := goodIn_app (goodIn_of _ (by decide +kernel)) ggX8_loadNecklace_X4_necklaceCount
set_option maxRecDepth 20000 in
theorem ggX8_loadNecklace_X3_begin : GoodIn wsX8_loadNecklace wsX3_begin := goodIn_r _ [26, 27, 28, 29, 30, 80, 81, 82, 83] (by decide +kernel) (by decide +kernel)
set_option maxRecDepth 20000 in
theorem gX8_loadNecklace_X3_begin : GoodIn wsX8_loadNecklace (wsV RX8 112 RX3 yX3_begin wsX3_begin) := goodIn_app (goodIn_of _ (by decide +kernel)) ggX8_loadNecklace_X3_begin
set_option maxRecDepth 20000 in
theorem ggX8_loadNecklace_X3_toNextNecklace : GoodIn wsX8_loadNecklace wsX3_toNextNecklace := goodIn_r _ [34, 35, 30, 28, 36, 37, 38, 25, 39, 29, 27, 40, 41, 42, 80, 81, 82, 83] (by decide +kernel) (by decide +kernel)
set_option maxRecDepth 20000 in
theorem gX8_loadNecklace_X3_toNextNecklace : GoodIn wsX8_loadNecklace (wsV RX8 121 RX3 yX3_toNextNecklace wsX3_toNextNecklace) := goodIn_app (goodIn_of _ (by decide +kernel)) ggX8_loadNecklace_X3_toNextNecklace
set_option maxRecDepth 20000 in
theorem ggX8_loadNecklace_X2_empty : GoodIn wsX8_loadNecklace wsX2_empty := goodIn_r _ [47, 48, 84, 85] (by decide +kernel) (by decide +kernel)
set_option maxRecDepth 20000 in
theorem gX8_loadNecklace_X2_empty : GoodIn wsX8_loadNecklace (wsV RX8 83 RX2 yX2_empty wsX2_empty) := goodIn_app (goodIn_of _ (by decide +kernel)) ggX8_loadNecklace_X2_empty
set_option maxRecDepth 20000 in
theorem ggX8_loadNecklace_X8_pushFromWalk : GoodIn wsX8_loadNecklace wsX8_pushFromWalk := goodIn_r _ [52, 4, 3, 53, 54, 55, 25, 56, 29, 28, 57, 58, 59, 46, 60, 48, 61, 62, 63, 64, 65, 66, 7, 67, 68, 69, 74, 75, 76, 77, 78, 79, 80, 81, 82, 83, 84, 85] (by decide +kernel) (by decide +kernel)
set_option maxRecDepth 20000 in
theorem gX8_loadNecklace_X8_pushFromWalk : GoodIn wsX8_loadNecklace (wsV RX8 118 RX8 yX8_pushFromWalk wsX8_pushFromWalk) := goodIn_app (goodIn_of _ (by decide +kernel)) ggX8_loadNecklace_X8_pushFromWalk
set_option maxRecDepth 20000 in
theorem ggX8_loadNecklace_X3_root : GoodIn wsX8_loadNecklace wsX3_root := goodIn_r _ [73, 30, 80, 81, 82, 83] (by decide +kernel) (by decide +kernel)
set_option maxRecDepth 20000 in
theorem gX8_loadNecklace_X3_root : GoodIn wsX8_loadNecklace (wsV RX8 115 RX3 yX3_root wsX3_root) := goodIn_app (goodIn_of _ (by decide +kernel)) ggX8_loadNecklace_X3_root
theorem dX8_loadNecklace_0 : decode cX8_loadNecklace 0 = .ok (.iload_n 1, 1) := by decide +kernel
theorem dX8_loadNecklace_1 : decode cX8_loadNecklace 1 = .ok (.iconst 1, 1) := by decide +kernel
theorem dX8_loadNecklace_2 : decode cX8_loadNecklace 2 = .ok (.iconst 4, 1) := by decide +kernel
theorem dX8_loadNecklace_3 : decode cX8_loadNecklace 3 = .ok (.invokestatic 51, 3) := by decide +kernel
theorem dX8_loadNecklace_6 : decode cX8_loadNecklace 6 = .ok (.iload_n 2, 1) := by decide +kernel
theorem dX8_loadNecklace_7 : decode cX8_loadNecklace 7 = .ok (.iconst 1, 1) := by decide +kernel
theorem dX8_loadNecklace_8 : decode cX8_loadNecklace 8 = .ok (.bipush 8, 2) := by decide +kernel
theorem dX8_loadNecklace_10 : decode cX8_loadNecklace 10 = .ok (.invokestatic 51, 3) := by decide +kernel
theorem dX8_loadNecklace_13 : decode cX8_loadNecklace 13 = .ok (.iload_n 3, 1) := by decide +kernel
theorem dX8_loadNecklace_14 : decode cX8_loadNecklace 14 = .ok (.ifCond .lt 14, 3) := by decide +kernel
theorem dX8_loadNecklace_17 : decode cX8_loadNecklace 17 = .ok (.iload_n 3, 1) := by decide +kernel
theorem dX8_loadNecklace_18 : decode cX8_loadNecklace 18 = .ok (.i2l, 1) := by decide +kernel
theorem dX8_loadNecklace_19 : decode cX8_loadNecklace 19 = .ok (.iload_n 1, 1) := by decide +kernel
theorem dX8_loadNecklace_20 : decode cX8_loadNecklace 20 = .ok (.iload_n 2, 1) := by decide +kernel
theorem dX8_loadNecklace_21 : decode cX8_loadNecklace 21 = .ok (.invokestatic 125, 3) := by decide +kernel
theorem dX8_loadNecklace_24 : decode cX8_loadNecklace 24 = .ok (.lcmp, 1) := by decide +kernel
theorem dX8_loadNecklace_25 : decode cX8_loadNecklace 25 = .ok (.ifCond .lt 13, 3) := by decide +kernel
theorem dX8_loadNecklace_28 : decode cX8_loadNecklace 28 = .ok (.new 107, 3) := by decide +kernel
theorem dX8_loadNecklace_31 : decode cX8_loadNecklace 31 = .ok (.dup, 1) := by decide +kernel
theorem dX8_loadNecklace_32 : decode cX8_loadNecklace 32 = .ok (.ldc 128, 2) := by decide +kernel
theorem dX8_loadNecklace_34 : decode cX8_loadNecklace 34 = .ok (.invokespecial 111, 3) := by decide +kernel
theorem dX8_loadNecklace_37 : decode cX8_loadNecklace 37 = .ok (.athrow, 1) := by decide +kernel
theorem dX8_loadNecklace_38 : decode cX8_loadNecklace 38 = .ok (.aload_n 0, 1) := by decide +kernel
theorem dX8_loadNecklace_39 : decode cX8_loadNecklace 39 = .ok (.getfield 47, 3) := by decide +kernel
theorem dX8_loadNecklace_42 : decode cX8_loadNecklace 42 = .ok (.iload_n 1, 1) := by decide +kernel
theorem dX8_loadNecklace_43 : decode cX8_loadNecklace 43 = .ok (.iload_n 2, 1) := by decide +kernel
theorem dX8_loadNecklace_44 : decode cX8_loadNecklace 44 = .ok (.invokevirtual 112, 3) := by decide +kernel
theorem dX8_loadNecklace_47 : decode cX8_loadNecklace 47 = .ok (.iconst 0, 1) := by decide +kernel
theorem dX8_loadNecklace_48 : decode cX8_loadNecklace 48 = .ok (.istore 4, 2) := by decide +kernel
theorem dX8_loadNecklace_50 : decode cX8_loadNecklace 50 = .ok (.iload 4, 2) := by decide +kernel
theorem dX8_loadNecklace_52 : decode cX8_loadNecklace 52 = .ok (.iload_n 3, 1) := by decide +kernel
theorem dX8_loadNecklace_53 : decode cX8_loadNecklace 53 = .ok (.if_icmp .ge 17, 3) := by decide +kernel
theorem dX8_loadNecklace_56 : decode cX8_loadNecklace 56 = .ok (.aload_n 0, 1) := by decide +kernel
theorem dX8_loadNecklace_57 : decode cX8_loadNecklace 57 = .ok (.getfield 47, 3) := by decide +kernel
theorem dX8_loadNecklace_60 : decode cX8_loadNecklace 60 = .ok (.invokevirtual 121, 3) := by decide +kernel
theorem dX8_loadNecklace_63 : decode cX8_loadNecklace 63 = .ok (.pop, 1) := by decide +kernel
theorem dX8_loadNecklace_64 : decode cX8_loadNecklace 64 = .ok (.iinc 4 1, 3) := by decide +kernel
theorem dX8_loadNecklace_67 : decode cX8_loadNecklace 67 = .ok (.goto (-17), 3) := by decide +kernel
theorem dX8_loadNecklace_70 : decode cX8_loadNecklace 70 = .ok (.aload_n 0, 1) := by decide +kernel
theorem dX8_loadNecklace_71 : decode cX8_loadNecklace 71 = .ok (.getfield 10, 3) := by decide +kernel
theorem dX8_loadNecklace_74 : decode cX8_loadNecklace 74 = .ok (.invokevirtual 83, 3) := by decide +kernel
theorem dX8_loadNecklace_77 : decode cX8_loadNecklace 77 = .ok (.aload_n 0, 1) := by decide +kernel
theorem dX8_loadNecklace_78 : decode cX8_loadNecklace 78 = .ok (.iload_n 2, 1) := by decide +kernel
theorem dX8_loadNecklace_79 : decode cX8_loadNecklace 79 = .ok (.invokevirtual 118, 3) := by decide +kernel
theorem dX8_loadNecklace_82 : decode cX8_loadNecklace 82 = .ok (.aload_n 0, 1) := by decide +kernel
theorem dX8_loadNecklace_83 : decode cX8_loadNecklace 83 = .ok (.getfield 47, 3) := by decide +kernel
theorem dX8_loadNecklace_86 : decode cX8_loadNecklace 86 = .ok (.invokevirtual 115, 3) := by decide +kernel
theorem dX8_loadNecklace_89 : decode cX8_loadNecklace 89 = .ok (.ireturn, 1) := by decide +kernel
set_option maxRecDepth 20000 in
theorem ggX8_length_X2_count : GoodIn wsX8_length wsX2_count := goodIn_r _ [6, 7, 14, 15] (by decide +kernel) (by decide +kernel)
set_option maxRecDepth 20000 in
theorem gX8_length_X2_count : GoodIn wsX8_length (wsV RX8 62 RX2 yX2_count wsX2_count) := goodIn_app (goodIn_of _ (by decide +kernel)) ggX8_length_X2_count
theorem dX8_length_0 : decode cX8_length 0 = .ok (.aload_n 0, 1) := by decide +kernel
theorem dX8_length_1 : decode cX8_length 1 = .ok (.getfield 10, 3) := by decide +kernel
theorem dX8_length_4 : decode cX8_length 4 = .ok (.invokevirtual 62, 3) := by decide +kernel
theorem dX8_length_7 : decode cX8_length 7 = .ok (.ireturn, 1) := by decide +kernel
set_option maxRecDepth 20000 in
theorem ggX8_letterAt_X2_count : GoodIn wsX8_letterAt wsX2_count := goodIn_r _ [6, 7, 27, 28] (by decide +kernel) (by decide +kernel)
set_option maxRecDepth 20000 in
theorem gX8_letterAt_X2_count : GoodIn wsX8_letterAt (wsV RX8 62 RX2 yX2_count wsX2_count) := goodIn_app (goodIn_of _ (by decide +kernel)) ggX8_letterAt_X2_count
set_option maxRecDepth 20000 in
theorem ggX8_letterAt_X8_checkIndex : GoodIn wsX8_letterAt wsX8_checkIndex := goodIn_ca (goodIn_r _ [11, 12, 13] (by decide +kernel) (by decide +kernel)) (goodIn_sub (fun _ h => List.mem_cons_of_mem _ (List.mem_append_right _ h)) (by decide +kernel))
set_option maxRecDepth 20000 in
theorem gX8_letterAt_X8_checkIndex : GoodIn wsX8_letterAt (va_wsS RX8 66 yX8_checkIndex wsX8_checkIndex) := goodIn_app (goodIn_of _ (by decide +kernel)) ggX8_letterAt_X8_checkIndex
set_option maxRecDepth 20000 in
theorem ggX8_letterAt_X2_letter : GoodIn wsX8_letterAt wsX2_letter := goodIn_r _ [17, 18, 19, 10, 20, 27, 28] (by decide +kernel) (by decide +kernel)
set_option maxRecDepth 20000 in
theorem gX8_letterAt_X2_letter : GoodIn wsX8_letterAt (wsV RX8 73 RX2 yX2_letter wsX2_letter) := goodIn_app (goodIn_of _ (by decide +kernel)) ggX8_letterAt_X2_letter
theorem dX8_letterAt_0 : decode cX8_letterAt 0 = .ok (.iload_n 1, 1) := by decide +kernel
theorem dX8_letterAt_1 : decode cX8_letterAt 1 = .ok (.aload_n 0, 1) := by decide +kernel
theorem dX8_letterAt_2 : decode cX8_letterAt 2 = .ok (.getfield 10, 3) := by decide +kernel
theorem dX8_letterAt_5 : decode cX8_letterAt 5 = .ok (.invokevirtual 62, 3) := by decide +kernel
theorem dX8_letterAt_8 : decode cX8_letterAt 8 = .ok (.invokestatic 66, 3) := by decide +kernel
theorem dX8_letterAt_11 : decode cX8_letterAt 11 = .ok (.aload_n 0, 1) := by decide +kernel
theorem dX8_letterAt_12 : decode cX8_letterAt 12 = .ok (.getfield 10, 3) := by decide +kernel
theorem dX8_letterAt_15 : decode cX8_letterAt 15 = .ok (.iload_n 1, 1) := by decide +kernel
theorem dX8_letterAt_16 : decode cX8_letterAt 16 = .ok (.invokevirtual 73, 3) := by decide +kernel
theorem dX8_letterAt_19 : decode cX8_letterAt 19 = .ok (.ireturn, 1) := by decide +kernel
set_option maxRecDepth 20000 in
theorem ggX8_compare_X8_checkPart : GoodIn wsX8_compare wsX8_checkPart := goodIn_ca (goodIn_r _ [10, 11, 12, 5, 13, 14, 15, 16, 17, 18, 37, 38, 39, 40, 41, 42, 43, 44] (by decide +kernel) (by decide +kernel)) (goodIn_sub (fun _ h => List.mem_cons_of_mem _ (List.mem_append_right _ h)) (by decide +kernel))
set_option maxRecDepth 20000 in
theorem gX8_compare_X8_checkPart : GoodIn wsX8_compare (wsV RX8 96 RX8 yX8_checkPart wsX8_checkPart) := goodIn_app (goodIn_of _ (by decide +kernel)) ggX8_compare_X8_checkPart
set_option maxRecDepth 20000 in
theorem ggX8_compare_X2_countSame : GoodIn wsX8_compare wsX2_countSame := goodIn_r _ [22, 18, 23, 24, 3, 25, 26, 27, 9, 28, 43, 44] (by decide +kernel) (by decide +kernel)
set_option maxRecDepth 20000 in
theorem gX8_compare_X2_countSame : GoodIn wsX8_compare (wsV RX8 136 RX2 yX2_countSame wsX2_countSame) := goodIn_app (goodIn_of _ (by decide +kernel)) ggX8_compare_X2_countSame
set_option maxRecDepth 20000 in
theorem ggX8_compare_X2_letter : GoodIn wsX8_compare wsX2_letter := goodIn_r _ [32, 26, 27, 9, 28, 43, 44] (by decide +kernel) (by decide +kernel)
set_option maxRecDepth 20000 in
theorem gX8_compare_X2_letter : GoodIn wsX8_compare (wsV RX8 73 RX2 yX2_letter wsX2_letter) := goodIn_app (goodIn_of _ (by decide +kernel)) ggX8_compare_X2_letter
set_option maxRecDepth 20000 in
theorem ggX8_compare_J6_compare_7cf53 : GoodIn wsX8_compare wsJ6_compare_7cf53 := goodIn_r _ [36] (by decide +kernel) (by decide +kernel)
set_option maxRecDepth 20000 in
theorem gX8_compare_J6_compare_7cf53 : GoodIn wsX8_compare (va_wsS RX8 139 yJ6_compare_7cf53 wsJ6_compare_7cf53) := goodIn_app (goodIn_of _ (by decide +kernel)) ggX8_compare_J6_compare_7cf53
theorem dX8_compare_0 : decode cX8_compare 0 = .ok (.aload_n 0, 1) := by decide +kernel
theorem dX8_compare_1 : decode cX8_compare 1 = .ok (.iload_n 1, 1) := by decide +kernel
theorem dX8_compare_2 : decode cX8_compare 2 = .ok (.iload_n 2, 1) := by decide +kernel
theorem dX8_compare_3 : decode cX8_compare 3 = .ok (.invokevirtual 96, 3) := by decide +kernel
theorem dX8_compare_6 : decode cX8_compare 6 = .ok (.aload_n 0, 1) := by decide +kernel
theorem dX8_compare_7 : decode cX8_compare 7 = .ok (.iload_n 3, 1) := by decide +kernel
theorem dX8_compare_8 : decode cX8_compare 8 = .ok (.iload 4, 2) := by decide +kernel
theorem dX8_compare_10 : decode cX8_compare 10 = .ok (.invokevirtual 96, 3) := by decide +kernel
theorem dX8_compare_13 : decode cX8_compare 13 = .ok (.iload_n 2, 1) := by decide +kernel
theorem dX8_compare_14 : decode cX8_compare 14 = .ok (.iload_n 1, 1) := by decide +kernel
theorem dX8_compare_15 : decode cX8_compare 15 = .ok (.isub, 1) := by decide +kernel
theorem dX8_compare_16 : decode cX8_compare 16 = .ok (.iload 4, 2) := by decide +kernel
theorem dX8_compare_18 : decode cX8_compare 18 = .ok (.iload_n 3, 1) := by decide +kernel
theorem dX8_compare_19 : decode cX8_compare 19 = .ok (.isub, 1) := by decide +kernel
theorem dX8_compare_20 : decode cX8_compare 20 = .ok (.invokestatic 130, 3) := by decide +kernel
theorem dX8_compare_23 : decode cX8_compare 23 = .ok (.istore 5, 2) := by decide +kernel
theorem dX8_compare_25 : decode cX8_compare 25 = .ok (.aload_n 0, 1) := by decide +kernel
theorem dX8_compare_26 : decode cX8_compare 26 = .ok (.getfield 10, 3) := by decide +kernel
theorem dX8_compare_29 : decode cX8_compare 29 = .ok (.iload_n 1, 1) := by decide +kernel
theorem dX8_compare_30 : decode cX8_compare 30 = .ok (.iload_n 3, 1) := by decide +kernel
theorem dX8_compare_31 : decode cX8_compare 31 = .ok (.invokevirtual 136, 3) := by decide +kernel
theorem dX8_compare_34 : decode cX8_compare 34 = .ok (.istore 6, 2) := by decide +kernel
theorem dX8_compare_36 : decode cX8_compare 36 = .ok (.iload 6, 2) := by decide +kernel
theorem dX8_compare_38 : decode cX8_compare 38 = .ok (.iload 5, 2) := by decide +kernel
theorem dX8_compare_40 : decode cX8_compare 40 = .ok (.if_icmp .ge 29, 3) := by decide +kernel
theorem dX8_compare_43 : decode cX8_compare 43 = .ok (.aload_n 0, 1) := by decide +kernel
theorem dX8_compare_44 : decode cX8_compare 44 = .ok (.getfield 10, 3) := by decide +kernel
theorem dX8_compare_47 : decode cX8_compare 47 = .ok (.iload_n 1, 1) := by decide +kernel
theorem dX8_compare_48 : decode cX8_compare 48 = .ok (.iload 6, 2) := by decide +kernel
theorem dX8_compare_50 : decode cX8_compare 50 = .ok (.iadd, 1) := by decide +kernel
theorem dX8_compare_51 : decode cX8_compare 51 = .ok (.invokevirtual 73, 3) := by decide +kernel
theorem dX8_compare_54 : decode cX8_compare 54 = .ok (.aload_n 0, 1) := by decide +kernel
theorem dX8_compare_55 : decode cX8_compare 55 = .ok (.getfield 10, 3) := by decide +kernel
theorem dX8_compare_58 : decode cX8_compare 58 = .ok (.iload_n 3, 1) := by decide +kernel
theorem dX8_compare_59 : decode cX8_compare 59 = .ok (.iload 6, 2) := by decide +kernel
theorem dX8_compare_61 : decode cX8_compare 61 = .ok (.iadd, 1) := by decide +kernel
theorem dX8_compare_62 : decode cX8_compare 62 = .ok (.invokevirtual 73, 3) := by decide +kernel
theorem dX8_compare_65 : decode cX8_compare 65 = .ok (.invokestatic 139, 3) := by decide +kernel
theorem dX8_compare_68 : decode cX8_compare 68 = .ok (.ireturn, 1) := by decide +kernel
theorem dX8_compare_69 : decode cX8_compare 69 = .ok (.iload_n 2, 1) := by decide +kernel
theorem dX8_compare_70 : decode cX8_compare 70 = .ok (.iload_n 1, 1) := by decide +kernel
theorem dX8_compare_71 : decode cX8_compare 71 = .ok (.isub, 1) := by decide +kernel
theorem dX8_compare_72 : decode cX8_compare 72 = .ok (.iload 4, 2) := by decide +kernel
theorem dX8_compare_74 : decode cX8_compare 74 = .ok (.iload_n 3, 1) := by decide +kernel
theorem dX8_compare_75 : decode cX8_compare 75 = .ok (.isub, 1) := by decide +kernel
theorem dX8_compare_76 : decode cX8_compare 76 = .ok (.invokestatic 139, 3) := by decide +kernel
theorem dX8_compare_79 : decode cX8_compare 79 = .ok (.ireturn, 1) := by decide +kernel
set_option maxRecDepth 20000 in
theorem ggX8_isLyndon_X8_checkPart : GoodIn wsX8_isLyndon wsX8_checkPart := goodIn_ca (goodIn_r _ [6, 7, 8, 1, 9, 10, 11, 12, 13, 14, 29, 30, 31, 32, 33, 34, 35, 36] (by decide +kernel) (by decide +kernel)) (goodIn_sub (fun _ h => List.mem_cons_of_mem _ (List.mem_append_right _ h)) (by decide +kernel))
set_option maxRecDepth 20000 in
theorem gX8_isLyndon_X8_checkPart : GoodIn wsX8_isLyndon (wsV RX8 96 RX8 yX8_checkPart wsX8_checkPart) := goodIn_app (goodIn_of _ (by decide +kernel)) ggX8_isLyndon_X8_checkPart
set_option maxRecDepth 20000 in
theorem ggX8_isLyndon_X1_isOneFactor : GoodIn wsX8_isLyndon wsX1_isOneFactor := goodIn_r _ [18, 19, 20, 17, 21, 22, 23, 24, 12, 25, 26, 27, 5, 28, 35, 36] (by decide +kernel) (by decide +kernel)
set_option maxRecDepth 20000 in
theorem gX8_isLyndon_X1_isOneFactor : GoodIn wsX8_isLyndon (va_wsS RX8 144 yX1_isOneFactor wsX1_isOneFactor) := goodIn_app (goodIn_of _ (by decide +kernel)) ggX8_isLyndon_X1_isOneFactor
theorem dX8_isLyndon_0 : decode cX8_isLyndon 0 = .ok (.aload_n 0, 1) := by decide +kernel
theorem dX8_isLyndon_1 : decode cX8_isLyndon 1 = .ok (.iload_n 1, 1) := by decide +kernel
theorem dX8_isLyndon_2 : decode cX8_isLyndon 2 = .ok (.iload_n 2, 1) := by decide +kernel
theorem dX8_isLyndon_3 : decode cX8_isLyndon 3 = .ok (.invokevirtual 96, 3) := by decide +kernel
theorem dX8_isLyndon_6 : decode cX8_isLyndon 6 = .ok (.aload_n 0, 1) := by decide +kernel
theorem dX8_isLyndon_7 : decode cX8_isLyndon 7 = .ok (.getfield 10, 3) := by decide +kernel
theorem dX8_isLyndon_10 : decode cX8_isLyndon 10 = .ok (.iload_n 1, 1) := by decide +kernel
theorem dX8_isLyndon_11 : decode cX8_isLyndon 11 = .ok (.iload_n 2, 1) := by decide +kernel
theorem dX8_isLyndon_12 : decode cX8_isLyndon 12 = .ok (.invokestatic 144, 3) := by decide +kernel
theorem dX8_isLyndon_15 : decode cX8_isLyndon 15 = .ok (.ireturn, 1) := by decide +kernel
set_option maxRecDepth 20000 in
theorem ggX8_factors_X1_find : GoodIn wsX8_factors wsX1_find := goodIn_r _ [7, 8, 9, 10, 11, 12, 13, 14, 15, 16, 17, 18, 19, 20, 6, 21, 22, 23, 24, 25, 26, 27, 28, 39, 40, 41, 42] (by decide +kernel) (by decide +kernel)
set_option maxRecDepth 20000 in
theorem gX8_factors_X1_find : GoodIn wsX8_factors (wsV RX8 148 RX1 yX1_find wsX1_find) := goodIn_app (goodIn_of _ (by decide +kernel)) ggX8_factors_X1_find
set_option maxRecDepth 20000 in
theorem ggX8_factors_X1_count : GoodIn wsX8_factors wsX1_count := goodIn_r _ [32, 8, 39, 40] (by decide +kernel) (by decide +kernel)
set_option maxRecDepth 20000 in
theorem gX8_factors_X1_count : GoodIn wsX8_factors (wsV RX8 152 RX1 yX1_count wsX1_count) := goodIn_app (goodIn_of _ (by decide +kernel)) ggX8_factors_X1_count
theorem dX8_factors_0 : decode cX8_factors 0 = .ok (.aload_n 0, 1) := by decide +kernel
theorem dX8_factors_1 : decode cX8_factors 1 = .ok (.getfield 19, 3) := by decide +kernel
theorem dX8_factors_4 : decode cX8_factors 4 = .ok (.aload_n 0, 1) := by decide +kernel
theorem dX8_factors_5 : decode cX8_factors 5 = .ok (.getfield 10, 3) := by decide +kernel
theorem dX8_factors_8 : decode cX8_factors 8 = .ok (.invokevirtual 148, 3) := by decide +kernel
theorem dX8_factors_11 : decode cX8_factors 11 = .ok (.aload_n 0, 1) := by decide +kernel
theorem dX8_factors_12 : decode cX8_factors 12 = .ok (.getfield 19, 3) := by decide +kernel
theorem dX8_factors_15 : decode cX8_factors 15 = .ok (.invokevirtual 152, 3) := by decide +kernel
theorem dX8_factors_18 : decode cX8_factors 18 = .ok (.ireturn, 1) := by decide +kernel
set_option maxRecDepth 20000 in
theorem ggX8_factorStart_X8_findFactor : GoodIn wsX8_factorStart wsX8_findFactor := goodIn_ca (goodIn_r _ [6, 1, 7, 8, 9, 10, 11, 12, 13, 14, 15, 16, 17, 18, 19, 20, 21, 5, 22, 23, 24, 25, 26, 27, 28, 29, 30, 31, 32, 33, 34, 35, 36, 37, 38, 39, 40, 41, 46, 47, 48, 49, 50, 51, 52, 53, 54, 55] (by decide +kernel) (by decide +kernel)) (goodIn_sub (fun _ h => List.mem_cons_of_mem _ (List.mem_append_right _ h)) (by decide +kernel))
set_option maxRecDepth 20000 in
theorem gX8_factorStart_X8_findFactor : GoodIn wsX8_factorStart (wsV RX8 153 RX8 yX8_findFactor wsX8_findFactor) := goodIn_app (goodIn_of _ (by decide +kernel)) ggX8_factorStart_X8_findFactor
set_option maxRecDepth 20000 in
theorem ggX8_factorStart_X1_start : GoodIn wsX8_factorStart wsX1_start := goodIn_r _ [45, 14, 31, 5, 32, 52, 53] (by decide +kernel) (by decide +kernel)
set_option maxRecDepth 20000 in
theorem gX8_factorStart_X1_start : GoodIn wsX8_factorStart (wsV RX8 156 RX1 yX1_start wsX1_start) := goodIn_app (goodIn_of _ (by decide +kernel)) ggX8_factorStart_X1_start
theorem dX8_factorStart_0 : decode cX8_factorStart 0 = .ok (.aload_n 0, 1) := by decide +kernel
theorem dX8_factorStart_1 : decode cX8_factorStart 1 = .ok (.iload_n 1, 1) := by decide +kernel
theorem dX8_factorStart_2 : decode cX8_factorStart 2 = .ok (.invokevirtual 153, 3) := by decide +kernel
theorem dX8_factorStart_5 : decode cX8_factorStart 5 = .ok (.aload_n 0, 1) := by decide +kernel
theorem dX8_factorStart_6 : decode cX8_factorStart 6 = .ok (.getfield 19, 3) := by decide +kernel
theorem dX8_factorStart_9 : decode cX8_factorStart 9 = .ok (.iload_n 1, 1) := by decide +kernel
theorem dX8_factorStart_10 : decode cX8_factorStart 10 = .ok (.invokevirtual 156, 3) := by decide +kernel
theorem dX8_factorStart_13 : decode cX8_factorStart 13 = .ok (.ireturn, 1) := by decide +kernel
set_option maxRecDepth 20000 in
theorem ggX8_factorLength_X8_findFactor : GoodIn wsX8_factorLength wsX8_findFactor := goodIn_ca (goodIn_r _ [6, 1, 7, 8, 9, 10, 11, 12, 13, 14, 15, 16, 17, 18, 19, 20, 21, 5, 22, 23, 24, 25, 26, 27, 28, 29, 30, 31, 32, 33, 34, 35, 36, 37, 38, 39, 40, 41, 46, 47, 48, 49, 50, 51, 52, 53, 54, 55] (by decide +kernel) (by decide +kernel)) (goodIn_sub (fun _ h => List.mem_cons_of_mem _ (List.mem_append_right _ h)) (by decide +kernel))
set_option maxRecDepth 20000 in
theorem gX8_factorLength_X8_findFactor : GoodIn wsX8_factorLength (wsV RX8 153 RX8 yX8_findFactor wsX8_findFactor) := goodIn_app (goodIn_of _ (by decide +kernel)) ggX8_factorLength_X8_findFactor
set_option maxRecDepth 20000 in
theorem ggX8_factorLength_X1_start : GoodIn wsX8_factorLength wsX1_start := goodIn_r _ [45, 14, 31, 5, 32, 52, 53] (by decide +kernel) (by decide +kernel)
set_option maxRecDepth 20000 in
theorem gX8_factorLength_X1_start : GoodIn wsX8_factorLength (wsV RX8 156 RX1 yX1_start wsX1_start) := goodIn_app (goodIn_of _ (by decide +kernel)) ggX8_factorLength_X1_start
theorem dX8_factorLength_0 : decode cX8_factorLength 0 = .ok (.aload_n 0, 1) := by decide +kernel
theorem dX8_factorLength_1 : decode cX8_factorLength 1 = .ok (.iload_n 1, 1) := by decide +kernel
theorem dX8_factorLength_2 : decode cX8_factorLength 2 = .ok (.invokevirtual 153, 3) := by decide +kernel
theorem dX8_factorLength_5 : decode cX8_factorLength 5 = .ok (.aload_n 0, 1) := by decide +kernel
theorem dX8_factorLength_6 : decode cX8_factorLength 6 = .ok (.getfield 19, 3) := by decide +kernel
theorem dX8_factorLength_9 : decode cX8_factorLength 9 = .ok (.iload_n 1, 1) := by decide +kernel
theorem dX8_factorLength_10 : decode cX8_factorLength 10 = .ok (.iconst 1, 1) := by decide +kernel
theorem dX8_factorLength_11 : decode cX8_factorLength 11 = .ok (.iadd, 1) := by decide +kernel
theorem dX8_factorLength_12 : decode cX8_factorLength 12 = .ok (.invokevirtual 156, 3) := by decide +kernel
theorem dX8_factorLength_15 : decode cX8_factorLength 15 = .ok (.aload_n 0, 1) := by decide +kernel
theorem dX8_factorLength_16 : decode cX8_factorLength 16 = .ok (.getfield 19, 3) := by decide +kernel
theorem dX8_factorLength_19 : decode cX8_factorLength 19 = .ok (.iload_n 1, 1) := by decide +kernel
theorem dX8_factorLength_20 : decode cX8_factorLength 20 = .ok (.invokevirtual 156, 3) := by decide +kernel
theorem dX8_factorLength_23 : decode cX8_factorLength 23 = .ok (.isub, 1) := by decide +kernel
theorem dX8_factorLength_24 : decode cX8_factorLength 24 = .ok (.ireturn, 1) := by decide +kernel
set_option maxRecDepth 20000 in
theorem ggX8_factorOver_X2_count : GoodIn wsX8_factorOver wsX2_count := goodIn_r _ [7, 8, 45, 46] (by decide +kernel) (by decide +kernel)
set_option maxRecDepth 20000 in
theorem gX8_factorOver_X2_count : GoodIn wsX8_factorOver (wsV RX8 62 RX2 yX2_count wsX2_count) := goodIn_app (goodIn_of _ (by decide +kernel)) ggX8_factorOver_X2_count
set_option maxRecDepth 20000 in
theorem ggX8_factorOver_X8_checkIndex : GoodIn wsX8_factorOver wsX8_checkIndex := goodIn_ca (goodIn_r _ [12, 13, 14] (by decide +kernel) (by decide +kernel)) (goodIn_sub (fun _ h => List.mem_cons_of_mem _ (List.mem_append_right _ h)) (by decide +kernel))
set_option maxRecDepth 20000 in
theorem gX8_factorOver_X8_checkIndex : GoodIn wsX8_factorOver (va_wsS RX8 66 yX8_checkIndex wsX8_checkIndex) := goodIn_app (goodIn_of _ (by decide +kernel)) ggX8_factorOver_X8_checkIndex
set_option maxRecDepth 20000 in
theorem ggX8_factorOver_X1_find : GoodIn wsX8_factorOver wsX1_find := goodIn_r _ [19, 20, 21, 22, 4, 5, 6, 7, 8, 23, 11, 24, 25, 26, 18, 27, 28, 29, 30, 31, 32, 33, 34, 47, 48, 45, 46] (by decide +kernel) (by decide +kernel)
set_option maxRecDepth 20000 in
theorem gX8_factorOver_X1_find : GoodIn wsX8_factorOver (wsV RX8 148 RX1 yX1_find wsX1_find) := goodIn_app (goodIn_of _ (by decide +kernel)) ggX8_factorOver_X1_find
set_option maxRecDepth 20000 in
theorem ggX8_factorOver_X1_numberOver : GoodIn wsX8_factorOver wsX1_numberOver := goodIn_r _ [38, 20, 21, 33, 11, 34, 47, 48] (by decide +kernel) (by decide +kernel)
set_option maxRecDepth 20000 in
theorem gX8_factorOver_X1_numberOver : GoodIn wsX8_factorOver (wsV RX8 159 RX1 yX1_numberOver wsX1_numberOver) := goodIn_app (goodIn_of _ (by decide +kernel)) ggX8_factorOver_X1_numberOver
theorem dX8_factorOver_0 : decode cX8_factorOver 0 = .ok (.iload_n 1, 1) := by decide +kernel
theorem dX8_factorOver_1 : decode cX8_factorOver 1 = .ok (.aload_n 0, 1) := by decide +kernel
theorem dX8_factorOver_2 : decode cX8_factorOver 2 = .ok (.getfield 10, 3) := by decide +kernel
theorem dX8_factorOver_5 : decode cX8_factorOver 5 = .ok (.invokevirtual 62, 3) := by decide +kernel
theorem dX8_factorOver_8 : decode cX8_factorOver 8 = .ok (.invokestatic 66, 3) := by decide +kernel
theorem dX8_factorOver_11 : decode cX8_factorOver 11 = .ok (.aload_n 0, 1) := by decide +kernel
theorem dX8_factorOver_12 : decode cX8_factorOver 12 = .ok (.getfield 19, 3) := by decide +kernel
theorem dX8_factorOver_15 : decode cX8_factorOver 15 = .ok (.aload_n 0, 1) := by decide +kernel
theorem dX8_factorOver_16 : decode cX8_factorOver 16 = .ok (.getfield 10, 3) := by decide +kernel
theorem dX8_factorOver_19 : decode cX8_factorOver 19 = .ok (.invokevirtual 148, 3) := by decide +kernel
theorem dX8_factorOver_22 : decode cX8_factorOver 22 = .ok (.aload_n 0, 1) := by decide +kernel
theorem dX8_factorOver_23 : decode cX8_factorOver 23 = .ok (.getfield 19, 3) := by decide +kernel
theorem dX8_factorOver_26 : decode cX8_factorOver 26 = .ok (.iload_n 1, 1) := by decide +kernel
theorem dX8_factorOver_27 : decode cX8_factorOver 27 = .ok (.invokevirtual 159, 3) := by decide +kernel
theorem dX8_factorOver_30 : decode cX8_factorOver 30 = .ok (.ireturn, 1) := by decide +kernel
set_option maxRecDepth 20000 in
theorem ggX8_longestLyndon_X2_count : GoodIn wsX8_longestLyndon wsX2_count := goodIn_r _ [6, 7, 31, 32] (by decide +kernel) (by decide +kernel)
set_option maxRecDepth 20000 in
theorem gX8_longestLyndon_X2_count : GoodIn wsX8_longestLyndon (wsV RX8 62 RX2 yX2_count wsX2_count) := goodIn_app (goodIn_of _ (by decide +kernel)) ggX8_longestLyndon_X2_count
set_option maxRecDepth 20000 in
theorem ggX8_longestLyndon_X8_checkIndex : GoodIn wsX8_longestLyndon wsX8_checkIndex := goodIn_ca (goodIn_r _ [11, 12, 13] (by decide +kernel) (by decide +kernel)) (goodIn_sub (fun _ h => List.mem_cons_of_mem _ (List.mem_append_right _ h)) (by decide +kernel))
set_option maxRecDepth 20000 in
theorem gX8_longestLyndon_X8_checkIndex : GoodIn wsX8_longestLyndon (va_wsS RX8 66 yX8_checkIndex wsX8_checkIndex) := goodIn_app (goodIn_of _ (by decide +kernel)) ggX8_longestLyndon_X8_checkIndex
set_option maxRecDepth 20000 in
theorem ggX8_longestLyndon_X1_firstLength : GoodIn wsX8_longestLyndon wsX1_firstLength := goodIn_r _ [17, 18, 19, 20, 5, 21, 22, 23, 10, 24, 31, 32] (by decide +kernel) (by decide +kernel)
set_option maxRecDepth 20000 in
theorem gX8_longestLyndon_X1_firstLength : GoodIn wsX8_longestLyndon (va_wsS RX8 162 yX1_firstLength wsX1_firstLength) := goodIn_app (goodIn_of _ (by decide +kernel)) ggX8_longestLyndon_X1_firstLength
theorem dX8_longestLyndon_0 : decode cX8_longestLyndon 0 = .ok (.iload_n 1, 1) := by decide +kernel
theorem dX8_longestLyndon_1 : decode cX8_longestLyndon 1 = .ok (.aload_n 0, 1) := by decide +kernel
theorem dX8_longestLyndon_2 : decode cX8_longestLyndon 2 = .ok (.getfield 10, 3) := by decide +kernel
theorem dX8_longestLyndon_5 : decode cX8_longestLyndon 5 = .ok (.invokevirtual 62, 3) := by decide +kernel
theorem dX8_longestLyndon_8 : decode cX8_longestLyndon 8 = .ok (.invokestatic 66, 3) := by decide +kernel
theorem dX8_longestLyndon_11 : decode cX8_longestLyndon 11 = .ok (.aload_n 0, 1) := by decide +kernel
theorem dX8_longestLyndon_12 : decode cX8_longestLyndon 12 = .ok (.getfield 10, 3) := by decide +kernel
theorem dX8_longestLyndon_15 : decode cX8_longestLyndon 15 = .ok (.iload_n 1, 1) := by decide +kernel
theorem dX8_longestLyndon_16 : decode cX8_longestLyndon 16 = .ok (.aload_n 0, 1) := by decide +kernel
theorem dX8_longestLyndon_17 : decode cX8_longestLyndon 17 = .ok (.getfield 10, 3) := by decide +kernel
theorem dX8_longestLyndon_20 : decode cX8_longestLyndon 20 = .ok (.invokevirtual 62, 3) := by decide +kernel
theorem dX8_longestLyndon_23 : decode cX8_longestLyndon 23 = .ok (.iload_n 2, 1) := by decide +kernel
theorem dX8_longestLyndon_24 : decode cX8_longestLyndon 24 = .ok (.invokestatic 162, 3) := by decide +kernel
theorem dX8_longestLyndon_27 : decode cX8_longestLyndon 27 = .ok (.ireturn, 1) := by decide +kernel
set_option maxRecDepth 20000 in
theorem ggX8_standardFactor_X8_checkPart : GoodIn wsX8_standardFactor wsX8_checkPart := goodIn_ca (goodIn_r _ [8, 9, 10, 3, 11, 12, 13, 14, 15, 16, 31, 32, 33, 34, 35, 36, 37, 38] (by decide +kernel) (by decide +kernel)) (goodIn_sub (fun _ h => List.mem_cons_of_mem _ (List.mem_append_right _ h)) (by decide +kernel))
set_option maxRecDepth 20000 in
theorem gX8_standardFactor_X8_checkPart : GoodIn wsX8_standardFactor (wsV RX8 96 RX8 yX8_checkPart wsX8_checkPart) := goodIn_app (goodIn_of _ (by decide +kernel)) ggX8_standardFactor_X8_checkPart
set_option maxRecDepth 20000 in
theorem ggX8_standardFactor_X1_isOneFactor : GoodIn wsX8_standardFactor wsX1_isOneFactor := goodIn_r _ [20, 21, 22, 19, 23, 24, 25, 26, 14, 27, 28, 29, 7, 30, 37, 38] (by decide +kernel) (by decide +kernel)
set_option maxRecDepth 20000 in
theorem gX8_standardFactor_X1_isOneFactor : GoodIn wsX8_standardFactor (va_wsS RX8 144 yX1_isOneFactor wsX1_isOneFactor) := goodIn_app (goodIn_of _ (by decide +kernel)) ggX8_standardFactor_X1_isOneFactor
theorem dX8_standardFactor_0 : decode cX8_standardFactor 0 = .ok (.aload_n 0, 1) := by decide +kernel
theorem dX8_standardFactor_1 : decode cX8_standardFactor 1 = .ok (.iload_n 1, 1) := by decide +kernel
theorem dX8_standardFactor_2 : decode cX8_standardFactor 2 = .ok (.iload_n 2, 1) := by decide +kernel
theorem dX8_standardFactor_3 : decode cX8_standardFactor 3 = .ok (.invokevirtual 96, 3) := by decide +kernel
theorem dX8_standardFactor_6 : decode cX8_standardFactor 6 = .ok (.iload_n 2, 1) := by decide +kernel
theorem dX8_standardFactor_7 : decode cX8_standardFactor 7 = .ok (.iload_n 1, 1) := by decide +kernel
theorem dX8_standardFactor_8 : decode cX8_standardFactor 8 = .ok (.isub, 1) := by decide +kernel
theorem dX8_standardFactor_9 : decode cX8_standardFactor 9 = .ok (.iconst 1, 1) := by decide +kernel
theorem dX8_standardFactor_10 : decode cX8_standardFactor 10 = .ok (.if_icmp .eq 15, 3) := by decide +kernel
theorem dX8_standardFactor_13 : decode cX8_standardFactor 13 = .ok (.aload_n 0, 1) := by decide +kernel
theorem dX8_standardFactor_14 : decode cX8_standardFactor 14 = .ok (.getfield 10, 3) := by decide +kernel
theorem dX8_standardFactor_17 : decode cX8_standardFactor 17 = .ok (.iload_n 1, 1) := by decide +kernel
theorem dX8_standardFactor_18 : decode cX8_standardFactor 18 = .ok (.iload_n 2, 1) := by decide +kernel
theorem dX8_standardFactor_19 : decode cX8_standardFactor 19 = .ok (.invokestatic 144, 3) := by decide +kernel
theorem dX8_standardFactor_22 : decode cX8_standardFactor 22 = .ok (.ifCond .ne 13, 3) := by decide +kernel
theorem dX8_standardFactor_25 : decode cX8_standardFactor 25 = .ok (.new 89, 3) := by decide +kernel
theorem dX8_standardFactor_28 : decode cX8_standardFactor 28 = .ok (.dup, 1) := by decide +kernel
theorem dX8_standardFactor_29 : decode cX8_standardFactor 29 = .ok (.ldc 166, 2) := by decide +kernel
theorem dX8_standardFactor_31 : decode cX8_standardFactor 31 = .ok (.invokespecial 93, 3) := by decide +kernel
theorem dX8_standardFactor_34 : decode cX8_standardFactor 34 = .ok (.athrow, 1) := by decide +kernel
theorem dX8_standardFactor_35 : decode cX8_standardFactor 35 = .ok (.iload_n 1, 1) := by decide +kernel
theorem dX8_standardFactor_36 : decode cX8_standardFactor 36 = .ok (.iconst 1, 1) := by decide +kernel
theorem dX8_standardFactor_37 : decode cX8_standardFactor 37 = .ok (.iadd, 1) := by decide +kernel
theorem dX8_standardFactor_38 : decode cX8_standardFactor 38 = .ok (.istore_n 3, 1) := by decide +kernel
theorem dX8_standardFactor_39 : decode cX8_standardFactor 39 = .ok (.iload_n 3, 1) := by decide +kernel
theorem dX8_standardFactor_40 : decode cX8_standardFactor 40 = .ok (.iload_n 2, 1) := by decide +kernel
theorem dX8_standardFactor_41 : decode cX8_standardFactor 41 = .ok (.iconst 1, 1) := by decide +kernel
theorem dX8_standardFactor_42 : decode cX8_standardFactor 42 = .ok (.isub, 1) := by decide +kernel
theorem dX8_standardFactor_43 : decode cX8_standardFactor 43 = .ok (.if_icmp .ge 21, 3) := by decide +kernel
theorem dX8_standardFactor_46 : decode cX8_standardFactor 46 = .ok (.aload_n 0, 1) := by decide +kernel
theorem dX8_standardFactor_47 : decode cX8_standardFactor 47 = .ok (.getfield 10, 3) := by decide +kernel
theorem dX8_standardFactor_50 : decode cX8_standardFactor 50 = .ok (.iload_n 3, 1) := by decide +kernel
theorem dX8_standardFactor_51 : decode cX8_standardFactor 51 = .ok (.iload_n 2, 1) := by decide +kernel
theorem dX8_standardFactor_52 : decode cX8_standardFactor 52 = .ok (.invokestatic 144, 3) := by decide +kernel
theorem dX8_standardFactor_55 : decode cX8_standardFactor 55 = .ok (.ifCond .ne 9, 3) := by decide +kernel
theorem dX8_standardFactor_58 : decode cX8_standardFactor 58 = .ok (.iinc 3 1, 3) := by decide +kernel
theorem dX8_standardFactor_61 : decode cX8_standardFactor 61 = .ok (.goto (-22), 3) := by decide +kernel
theorem dX8_standardFactor_64 : decode cX8_standardFactor 64 = .ok (.iload_n 3, 1) := by decide +kernel
theorem dX8_standardFactor_65 : decode cX8_standardFactor 65 = .ok (.ireturn, 1) := by decide +kernel
set_option maxRecDepth 20000 in
theorem ggX8_leastRotation_X8_checkPart : GoodIn wsX8_leastRotation wsX8_checkPart := goodIn_ca (goodIn_r _ [6, 7, 8, 1, 9, 10, 11, 12, 13, 14, 32, 33, 34, 35, 36, 37, 38, 39] (by decide +kernel) (by decide +kernel)) (goodIn_sub (fun _ h => List.mem_cons_of_mem _ (List.mem_append_right _ h)) (by decide +kernel))
set_option maxRecDepth 20000 in
theorem gX8_leastRotation_X8_checkPart : GoodIn wsX8_leastRotation (wsV RX8 96 RX8 yX8_checkPart wsX8_checkPart) := goodIn_app (goodIn_of _ (by decide +kernel)) ggX8_leastRotation_X8_checkPart
set_option maxRecDepth 20000 in
theorem ggX8_leastRotation_X5_least : GoodIn wsX8_leastRotation wsX5_least := goodIn_r _ [18, 19, 20, 17, 21, 22, 23, 24, 25, 26, 27, 12, 28, 29, 30, 5, 31, 38, 39] (by decide +kernel) (by decide +kernel)
set_option maxRecDepth 20000 in
theorem gX8_leastRotation_X5_least : GoodIn wsX8_leastRotation (va_wsS RX8 168 yX5_least wsX5_least) := goodIn_app (goodIn_of _ (by decide +kernel)) ggX8_leastRotation_X5_least
theorem dX8_leastRotation_0 : decode cX8_leastRotation 0 = .ok (.aload_n 0, 1) := by decide +kernel
theorem dX8_leastRotation_1 : decode cX8_leastRotation 1 = .ok (.iload_n 1, 1) := by decide +kernel
theorem dX8_leastRotation_2 : decode cX8_leastRotation 2 = .ok (.iload_n 2, 1) := by decide +kernel
theorem dX8_leastRotation_3 : decode cX8_leastRotation 3 = .ok (.invokevirtual 96, 3) := by decide +kernel
theorem dX8_leastRotation_6 : decode cX8_leastRotation 6 = .ok (.aload_n 0, 1) := by decide +kernel
theorem dX8_leastRotation_7 : decode cX8_leastRotation 7 = .ok (.getfield 10, 3) := by decide +kernel
theorem dX8_leastRotation_10 : decode cX8_leastRotation 10 = .ok (.iload_n 1, 1) := by decide +kernel
theorem dX8_leastRotation_11 : decode cX8_leastRotation 11 = .ok (.iload_n 2, 1) := by decide +kernel
theorem dX8_leastRotation_12 : decode cX8_leastRotation 12 = .ok (.invokestatic 168, 3) := by decide +kernel
theorem dX8_leastRotation_15 : decode cX8_leastRotation 15 = .ok (.ireturn, 1) := by decide +kernel
set_option maxRecDepth 20000 in
theorem ggX8_greatestRotation_X8_checkPart : GoodIn wsX8_greatestRotation wsX8_checkPart := goodIn_ca (goodIn_r _ [6, 7, 8, 1, 9, 10, 11, 12, 13, 14, 32, 33, 34, 35, 36, 37, 38, 39] (by decide +kernel) (by decide +kernel)) (goodIn_sub (fun _ h => List.mem_cons_of_mem _ (List.mem_append_right _ h)) (by decide +kernel))
set_option maxRecDepth 20000 in
theorem gX8_greatestRotation_X8_checkPart : GoodIn wsX8_greatestRotation (wsV RX8 96 RX8 yX8_checkPart wsX8_checkPart) := goodIn_app (goodIn_of _ (by decide +kernel)) ggX8_greatestRotation_X8_checkPart
set_option maxRecDepth 20000 in
theorem ggX8_greatestRotation_X5_greatest : GoodIn wsX8_greatestRotation wsX5_greatest := goodIn_r _ [18, 19, 20, 17, 21, 22, 23, 24, 25, 26, 27, 12, 28, 29, 30, 5, 31, 38, 39] (by decide +kernel) (by decide +kernel)
set_option maxRecDepth 20000 in
theorem gX8_greatestRotation_X5_greatest : GoodIn wsX8_greatestRotation (va_wsS RX8 174 yX5_greatest wsX5_greatest) := goodIn_app (goodIn_of _ (by decide +kernel)) ggX8_greatestRotation_X5_greatest
theorem dX8_greatestRotation_0 : decode cX8_greatestRotation 0 = .ok (.aload_n 0, 1) := by decide +kernel
theorem dX8_greatestRotation_1 : decode cX8_greatestRotation 1 = .ok (.iload_n 1, 1) := by decide +kernel
theorem dX8_greatestRotation_2 : decode cX8_greatestRotation 2 = .ok (.iload_n 2, 1) := by decide +kernel
theorem dX8_greatestRotation_3 : decode cX8_greatestRotation 3 = .ok (.invokevirtual 96, 3) := by decide +kernel
theorem dX8_greatestRotation_6 : decode cX8_greatestRotation 6 = .ok (.aload_n 0, 1) := by decide +kernel
theorem dX8_greatestRotation_7 : decode cX8_greatestRotation 7 = .ok (.getfield 10, 3) := by decide +kernel
theorem dX8_greatestRotation_10 : decode cX8_greatestRotation 10 = .ok (.iload_n 1, 1) := by decide +kernel
theorem dX8_greatestRotation_11 : decode cX8_greatestRotation 11 = .ok (.iload_n 2, 1) := by decide +kernel
theorem dX8_greatestRotation_12 : decode cX8_greatestRotation 12 = .ok (.invokestatic 174, 3) := by decide +kernel
theorem dX8_greatestRotation_15 : decode cX8_greatestRotation 15 = .ok (.ireturn, 1) := by decide +kernel
set_option maxRecDepth 20000 in
theorem ggX8_rotations_X8_checkPart : GoodIn wsX8_rotations wsX8_checkPart := goodIn_ca (goodIn_r _ [7, 8, 9, 2, 10, 11, 12, 13, 14, 15, 43, 44, 45, 46, 47, 48, 49, 50] (by decide +kernel) (by decide +kernel)) (goodIn_sub (fun _ h => List.mem_cons_of_mem _ (List.mem_append_right _ h)) (by decide +kernel))
set_option maxRecDepth 20000 in
theorem gX8_rotations_X8_checkPart : GoodIn wsX8_rotations (wsV RX8 96 RX8 yX8_checkPart wsX8_checkPart) := goodIn_app (goodIn_of _ (by decide +kernel)) ggX8_rotations_X8_checkPart
set_option maxRecDepth 20000 in
theorem ggX8_rotations_X0_rootSize : GoodIn wsX8_rotations wsX0_rootSize := goodIn_r _ [20, 21, 22, 23, 19, 24, 25, 26, 27, 28, 29, 30, 6, 31, 32, 33, 34, 35, 36, 37, 38, 13, 39, 40, 41, 42, 51, 49, 50] (by decide +kernel) (by decide +kernel)
set_option maxRecDepth 20000 in
theorem gX8_rotations_X0_rootSize : GoodIn wsX8_rotations (wsV RX8 177 RX0 yX0_rootSize wsX0_rootSize) := goodIn_app (goodIn_of _ (by decide +kernel)) ggX8_rotations_X0_rootSize
theorem dX8_rotations_0 : decode cX8_rotations 0 = .ok (.aload_n 0, 1) := by decide +kernel
theorem dX8_rotations_1 : decode cX8_rotations 1 = .ok (.iload_n 1, 1) := by decide +kernel
theorem dX8_rotations_2 : decode cX8_rotations 2 = .ok (.iload_n 2, 1) := by decide +kernel
theorem dX8_rotations_3 : decode cX8_rotations 3 = .ok (.invokevirtual 96, 3) := by decide +kernel
theorem dX8_rotations_6 : decode cX8_rotations 6 = .ok (.aload_n 0, 1) := by decide +kernel
theorem dX8_rotations_7 : decode cX8_rotations 7 = .ok (.getfield 26, 3) := by decide +kernel
theorem dX8_rotations_10 : decode cX8_rotations 10 = .ok (.aload_n 0, 1) := by decide +kernel
theorem dX8_rotations_11 : decode cX8_rotations 11 = .ok (.getfield 10, 3) := by decide +kernel
theorem dX8_rotations_14 : decode cX8_rotations 14 = .ok (.iload_n 1, 1) := by decide +kernel
theorem dX8_rotations_15 : decode cX8_rotations 15 = .ok (.iload_n 2, 1) := by decide +kernel
theorem dX8_rotations_16 : decode cX8_rotations 16 = .ok (.invokevirtual 177, 3) := by decide +kernel
theorem dX8_rotations_19 : decode cX8_rotations 19 = .ok (.ireturn, 1) := by decide +kernel
set_option maxRecDepth 20000 in
theorem ggX8_isNecklace_X8_checkPart : GoodIn wsX8_isNecklace wsX8_checkPart := goodIn_ca (goodIn_r _ [6, 7, 8, 1, 9, 10, 11, 12, 13, 14, 32, 33, 34, 35, 36, 37, 38, 39] (by decide +kernel) (by decide +kernel)) (goodIn_sub (fun _ h => List.mem_cons_of_mem _ (List.mem_append_right _ h)) (by decide +kernel))
set_option maxRecDepth 20000 in
theorem gX8_isNecklace_X8_checkPart : GoodIn wsX8_isNecklace (wsV RX8 96 RX8 yX8_checkPart wsX8_checkPart) := goodIn_app (goodIn_of _ (by decide +kernel)) ggX8_isNecklace_X8_checkPart
set_option maxRecDepth 20000 in
theorem ggX8_isNecklace_X5_least : GoodIn wsX8_isNecklace wsX5_least := goodIn_r _ [18, 19, 20, 17, 21, 22, 23, 24, 25, 26, 27, 12, 28, 29, 30, 5, 31, 38, 39] (by decide +kernel) (by decide +kernel)
set_option maxRecDepth 20000 in
theorem gX8_isNecklace_X5_least : GoodIn wsX8_isNecklace (va_wsS RX8 168 yX5_least wsX5_least) := goodIn_app (goodIn_of _ (by decide +kernel)) ggX8_isNecklace_X5_least
theorem dX8_isNecklace_0 : decode cX8_isNecklace 0 = .ok (.aload_n 0, 1) := by decide +kernel
theorem dX8_isNecklace_1 : decode cX8_isNecklace 1 = .ok (.iload_n 1, 1) := by decide +kernel
theorem dX8_isNecklace_2 : decode cX8_isNecklace 2 = .ok (.iload_n 2, 1) := by decide +kernel
theorem dX8_isNecklace_3 : decode cX8_isNecklace 3 = .ok (.invokevirtual 96, 3) := by decide +kernel
theorem dX8_isNecklace_6 : decode cX8_isNecklace 6 = .ok (.aload_n 0, 1) := by decide +kernel
theorem dX8_isNecklace_7 : decode cX8_isNecklace 7 = .ok (.getfield 10, 3) := by decide +kernel
theorem dX8_isNecklace_10 : decode cX8_isNecklace 10 = .ok (.iload_n 1, 1) := by decide +kernel
theorem dX8_isNecklace_11 : decode cX8_isNecklace 11 = .ok (.iload_n 2, 1) := by decide +kernel
theorem dX8_isNecklace_12 : decode cX8_isNecklace 12 = .ok (.invokestatic 168, 3) := by decide +kernel
theorem dX8_isNecklace_15 : decode cX8_isNecklace 15 = .ok (.ifCond .ne 7, 3) := by decide +kernel
theorem dX8_isNecklace_18 : decode cX8_isNecklace 18 = .ok (.iconst 1, 1) := by decide +kernel
theorem dX8_isNecklace_19 : decode cX8_isNecklace 19 = .ok (.goto 4, 3) := by decide +kernel
theorem dX8_isNecklace_22 : decode cX8_isNecklace 22 = .ok (.iconst 0, 1) := by decide +kernel
theorem dX8_isNecklace_23 : decode cX8_isNecklace 23 = .ok (.ireturn, 1) := by decide +kernel
set_option maxRecDepth 20000 in
theorem ggX8_period_X8_checkPart : GoodIn wsX8_period wsX8_checkPart := goodIn_ca (goodIn_r _ [7, 8, 9, 2, 10, 11, 12, 13, 14, 15, 39, 40, 41, 42, 43, 44, 45, 46] (by decide +kernel) (by decide +kernel)) (goodIn_sub (fun _ h => List.mem_cons_of_mem _ (List.mem_append_right _ h)) (by decide +kernel))
set_option maxRecDepth 20000 in
theorem gX8_period_X8_checkPart : GoodIn wsX8_period (wsV RX8 96 RX8 yX8_checkPart wsX8_checkPart) := goodIn_app (goodIn_of _ (by decide +kernel)) ggX8_period_X8_checkPart
set_option maxRecDepth 20000 in
theorem ggX8_period_X0_leastPeriod : GoodIn wsX8_period wsX0_leastPeriod := goodIn_r _ [20, 21, 22, 23, 19, 24, 25, 26, 6, 27, 28, 29, 30, 31, 32, 33, 34, 13, 35, 36, 37, 38, 47, 45, 46] (by decide +kernel) (by decide +kernel)
set_option maxRecDepth 20000 in
theorem gX8_period_X0_leastPeriod : GoodIn wsX8_period (wsV RX8 180 RX0 yX0_leastPeriod wsX0_leastPeriod) := goodIn_app (goodIn_of _ (by decide +kernel)) ggX8_period_X0_leastPeriod
theorem dX8_period_0 : decode cX8_period 0 = .ok (.aload_n 0, 1) := by decide +kernel
theorem dX8_period_1 : decode cX8_period 1 = .ok (.iload_n 1, 1) := by decide +kernel
theorem dX8_period_2 : decode cX8_period 2 = .ok (.iload_n 2, 1) := by decide +kernel
theorem dX8_period_3 : decode cX8_period 3 = .ok (.invokevirtual 96, 3) := by decide +kernel
theorem dX8_period_6 : decode cX8_period 6 = .ok (.aload_n 0, 1) := by decide +kernel
theorem dX8_period_7 : decode cX8_period 7 = .ok (.getfield 26, 3) := by decide +kernel
theorem dX8_period_10 : decode cX8_period 10 = .ok (.aload_n 0, 1) := by decide +kernel
theorem dX8_period_11 : decode cX8_period 11 = .ok (.getfield 10, 3) := by decide +kernel
theorem dX8_period_14 : decode cX8_period 14 = .ok (.iload_n 1, 1) := by decide +kernel
theorem dX8_period_15 : decode cX8_period 15 = .ok (.iload_n 2, 1) := by decide +kernel
theorem dX8_period_16 : decode cX8_period 16 = .ok (.invokevirtual 180, 3) := by decide +kernel
theorem dX8_period_19 : decode cX8_period 19 = .ok (.ireturn, 1) := by decide +kernel
set_option maxRecDepth 20000 in
theorem ggX8_periodByTrying_X8_checkPart : GoodIn wsX8_periodByTrying wsX8_checkPart := goodIn_ca (goodIn_r _ [6, 7, 8, 1, 9, 10, 11, 12, 13, 14, 26, 27, 28, 29, 30, 31, 32, 33] (by decide +kernel) (by decide +kernel)) (goodIn_sub (fun _ h => List.mem_cons_of_mem _ (List.mem_append_right _ h)) (by decide +kernel))
set_option maxRecDepth 20000 in
theorem gX8_periodByTrying_X8_checkPart : GoodIn wsX8_periodByTrying (wsV RX8 96 RX8 yX8_checkPart wsX8_checkPart) := goodIn_app (goodIn_of _ (by decide +kernel)) ggX8_periodByTrying_X8_checkPart
set_option maxRecDepth 20000 in
theorem ggX8_periodByTrying_X2_firstPeriod : GoodIn wsX8_periodByTrying wsX2_firstPeriod := goodIn_r _ [18, 19, 20, 21, 12, 22, 23, 24, 5, 25, 32, 33] (by decide +kernel) (by decide +kernel)
set_option maxRecDepth 20000 in
theorem gX8_periodByTrying_X2_firstPeriod : GoodIn wsX8_periodByTrying (wsV RX8 183 RX2 yX2_firstPeriod wsX2_firstPeriod) := goodIn_app (goodIn_of _ (by decide +kernel)) ggX8_periodByTrying_X2_firstPeriod
theorem dX8_periodByTrying_0 : decode cX8_periodByTrying 0 = .ok (.aload_n 0, 1) := by decide +kernel
theorem dX8_periodByTrying_1 : decode cX8_periodByTrying 1 = .ok (.iload_n 1, 1) := by decide +kernel
theorem dX8_periodByTrying_2 : decode cX8_periodByTrying 2 = .ok (.iload_n 2, 1) := by decide +kernel
theorem dX8_periodByTrying_3 : decode cX8_periodByTrying 3 = .ok (.invokevirtual 96, 3) := by decide +kernel
theorem dX8_periodByTrying_6 : decode cX8_periodByTrying 6 = .ok (.aload_n 0, 1) := by decide +kernel
theorem dX8_periodByTrying_7 : decode cX8_periodByTrying 7 = .ok (.getfield 10, 3) := by decide +kernel
theorem dX8_periodByTrying_10 : decode cX8_periodByTrying 10 = .ok (.iload_n 1, 1) := by decide +kernel
theorem dX8_periodByTrying_11 : decode cX8_periodByTrying 11 = .ok (.iload_n 2, 1) := by decide +kernel
theorem dX8_periodByTrying_12 : decode cX8_periodByTrying 12 = .ok (.invokevirtual 183, 3) := by decide +kernel
theorem dX8_periodByTrying_15 : decode cX8_periodByTrying 15 = .ok (.ireturn, 1) := by decide +kernel
set_option maxRecDepth 20000 in
theorem ggX8_isPeriod_X8_checkPart : GoodIn wsX8_isPeriod wsX8_checkPart := goodIn_ca (goodIn_r _ [6, 7, 8, 1, 9, 10, 11, 12, 13, 14, 27, 28, 29, 30, 31, 32, 33, 34] (by decide +kernel) (by decide +kernel)) (goodIn_sub (fun _ h => List.mem_cons_of_mem _ (List.mem_append_left _ (List.mem_append_right _ h))) (by decide +kernel))
set_option maxRecDepth 20000 in
theorem gX8_isPeriod_X8_checkPart : GoodIn wsX8_isPeriod (wsV RX8 96 RX8 yX8_checkPart wsX8_checkPart) := goodIn_app (goodIn_of _ (by decide +kernel)) ggX8_isPeriod_X8_checkPart
set_option maxRecDepth 20000 in
theorem ggX8_isPeriod_X8_checkArgument : GoodIn wsX8_isPeriod wsX8_checkArgument := goodIn_ca (goodIn_r _ [17, 18, 19] (by decide +kernel) (by decide +kernel)) (goodIn_sub (fun _ h => List.mem_cons_of_mem _ (List.mem_append_right _ h)) (by decide +kernel))
set_option maxRecDepth 20000 in
theorem gX8_isPeriod_X8_checkArgument : GoodIn wsX8_isPeriod (va_wsS RX8 51 yX8_checkArgument wsX8_checkArgument) := goodIn_app (goodIn_of _ (by decide +kernel)) ggX8_isPeriod_X8_checkArgument
set_option maxRecDepth 20000 in
theorem ggX8_isPeriod_X2_keepsPeriod : GoodIn wsX8_isPeriod wsX2_keepsPeriod := goodIn_r _ [23, 24, 25, 5, 26, 33, 34] (by decide +kernel) (by decide +kernel)
set_option maxRecDepth 20000 in
theorem gX8_isPeriod_X2_keepsPeriod : GoodIn wsX8_isPeriod (wsV RX8 186 RX2 yX2_keepsPeriod wsX2_keepsPeriod) := goodIn_app (goodIn_of _ (by decide +kernel)) ggX8_isPeriod_X2_keepsPeriod
theorem dX8_isPeriod_0 : decode cX8_isPeriod 0 = .ok (.aload_n 0, 1) := by decide +kernel
theorem dX8_isPeriod_1 : decode cX8_isPeriod 1 = .ok (.iload_n 1, 1) := by decide +kernel
theorem dX8_isPeriod_2 : decode cX8_isPeriod 2 = .ok (.iload_n 2, 1) := by decide +kernel
theorem dX8_isPeriod_3 : decode cX8_isPeriod 3 = .ok (.invokevirtual 96, 3) := by decide +kernel
theorem dX8_isPeriod_6 : decode cX8_isPeriod 6 = .ok (.iload_n 3, 1) := by decide +kernel
theorem dX8_isPeriod_7 : decode cX8_isPeriod 7 = .ok (.iconst 1, 1) := by decide +kernel
theorem dX8_isPeriod_8 : decode cX8_isPeriod 8 = .ok (.iload_n 2, 1) := by decide +kernel
theorem dX8_isPeriod_9 : decode cX8_isPeriod 9 = .ok (.iload_n 1, 1) := by decide +kernel
theorem dX8_isPeriod_10 : decode cX8_isPeriod 10 = .ok (.isub, 1) := by decide +kernel
theorem dX8_isPeriod_11 : decode cX8_isPeriod 11 = .ok (.invokestatic 51, 3) := by decide +kernel
theorem dX8_isPeriod_14 : decode cX8_isPeriod 14 = .ok (.aload_n 0, 1) := by decide +kernel
theorem dX8_isPeriod_15 : decode cX8_isPeriod 15 = .ok (.getfield 10, 3) := by decide +kernel
theorem dX8_isPeriod_18 : decode cX8_isPeriod 18 = .ok (.iload_n 1, 1) := by decide +kernel
theorem dX8_isPeriod_19 : decode cX8_isPeriod 19 = .ok (.iload_n 2, 1) := by decide +kernel
theorem dX8_isPeriod_20 : decode cX8_isPeriod 20 = .ok (.iload_n 3, 1) := by decide +kernel
theorem dX8_isPeriod_21 : decode cX8_isPeriod 21 = .ok (.invokevirtual 186, 3) := by decide +kernel
theorem dX8_isPeriod_24 : decode cX8_isPeriod 24 = .ok (.ireturn, 1) := by decide +kernel
set_option maxRecDepth 20000 in
theorem ggX8_periods_X8_checkPart : GoodIn wsX8_periods wsX8_checkPart := goodIn_ca (goodIn_r _ [7, 8, 9, 2, 10, 11, 12, 13, 14, 15, 39, 40, 41, 42, 43, 44, 45, 46] (by decide +kernel) (by decide +kernel)) (goodIn_sub (fun _ h => List.mem_cons_of_mem _ (List.mem_append_right _ h)) (by decide +kernel))
set_option maxRecDepth 20000 in
theorem gX8_periods_X8_checkPart : GoodIn wsX8_periods (wsV RX8 96 RX8 yX8_checkPart wsX8_checkPart) := goodIn_app (goodIn_of _ (by decide +kernel)) ggX8_periods_X8_checkPart
set_option maxRecDepth 20000 in
theorem ggX8_periods_X0_countAll : GoodIn wsX8_periods wsX0_countAll := goodIn_r _ [20, 21, 22, 23, 24, 19, 25, 26, 6, 27, 28, 29, 30, 31, 32, 33, 34, 13, 35, 36, 37, 38, 47, 45, 46] (by decide +kernel) (by decide +kernel)
set_option maxRecDepth 20000 in
theorem gX8_periods_X0_countAll : GoodIn wsX8_periods (wsV RX8 190 RX0 yX0_countAll wsX0_countAll) := goodIn_app (goodIn_of _ (by decide +kernel)) ggX8_periods_X0_countAll
theorem dX8_periods_0 : decode cX8_periods 0 = .ok (.aload_n 0, 1) := by decide +kernel
theorem dX8_periods_1 : decode cX8_periods 1 = .ok (.iload_n 1, 1) := by decide +kernel
theorem dX8_periods_2 : decode cX8_periods 2 = .ok (.iload_n 2, 1) := by decide +kernel
theorem dX8_periods_3 : decode cX8_periods 3 = .ok (.invokevirtual 96, 3) := by decide +kernel
theorem dX8_periods_6 : decode cX8_periods 6 = .ok (.aload_n 0, 1) := by decide +kernel
theorem dX8_periods_7 : decode cX8_periods 7 = .ok (.getfield 26, 3) := by decide +kernel
theorem dX8_periods_10 : decode cX8_periods 10 = .ok (.aload_n 0, 1) := by decide +kernel
theorem dX8_periods_11 : decode cX8_periods 11 = .ok (.getfield 10, 3) := by decide +kernel
theorem dX8_periods_14 : decode cX8_periods 14 = .ok (.iload_n 1, 1) := by decide +kernel
theorem dX8_periods_15 : decode cX8_periods 15 = .ok (.iload_n 2, 1) := by decide +kernel
theorem dX8_periods_16 : decode cX8_periods 16 = .ok (.invokevirtual 190, 3) := by decide +kernel
theorem dX8_periods_19 : decode cX8_periods 19 = .ok (.ireturn, 1) := by decide +kernel
set_option maxRecDepth 20000 in
theorem ggX8_border_X8_checkPart : GoodIn wsX8_border wsX8_checkPart := goodIn_ca (goodIn_r _ [7, 8, 9, 2, 10, 11, 12, 13, 14, 15, 35, 36, 37, 38, 39, 40, 41, 42] (by decide +kernel) (by decide +kernel)) (goodIn_sub (fun _ h => List.mem_cons_of_mem _ (List.mem_append_right _ h)) (by decide +kernel))
set_option maxRecDepth 20000 in
theorem gX8_border_X8_checkPart : GoodIn wsX8_border (wsV RX8 96 RX8 yX8_checkPart wsX8_checkPart) := goodIn_app (goodIn_of _ (by decide +kernel)) ggX8_border_X8_checkPart
set_option maxRecDepth 20000 in
theorem ggX8_border_X0_longest : GoodIn wsX8_border wsX0_longest := goodIn_r _ [20, 21, 22, 6, 23, 24, 25, 26, 19, 27, 28, 29, 30, 13, 31, 32, 33, 34, 43, 41, 42] (by decide +kernel) (by decide +kernel)
set_option maxRecDepth 20000 in
theorem gX8_border_X0_longest : GoodIn wsX8_border (wsV RX8 193 RX0 yX0_longest wsX0_longest) := goodIn_app (goodIn_of _ (by decide +kernel)) ggX8_border_X0_longest
theorem dX8_border_0 : decode cX8_border 0 = .ok (.aload_n 0, 1) := by decide +kernel
theorem dX8_border_1 : decode cX8_border 1 = .ok (.iload_n 1, 1) := by decide +kernel
theorem dX8_border_2 : decode cX8_border 2 = .ok (.iload_n 2, 1) := by decide +kernel
theorem dX8_border_3 : decode cX8_border 3 = .ok (.invokevirtual 96, 3) := by decide +kernel
theorem dX8_border_6 : decode cX8_border 6 = .ok (.aload_n 0, 1) := by decide +kernel
theorem dX8_border_7 : decode cX8_border 7 = .ok (.getfield 26, 3) := by decide +kernel
theorem dX8_border_10 : decode cX8_border 10 = .ok (.aload_n 0, 1) := by decide +kernel
theorem dX8_border_11 : decode cX8_border 11 = .ok (.getfield 10, 3) := by decide +kernel
theorem dX8_border_14 : decode cX8_border 14 = .ok (.iload_n 1, 1) := by decide +kernel
theorem dX8_border_15 : decode cX8_border 15 = .ok (.iload_n 2, 1) := by decide +kernel
theorem dX8_border_16 : decode cX8_border 16 = .ok (.invokevirtual 193, 3) := by decide +kernel
theorem dX8_border_19 : decode cX8_border 19 = .ok (.ireturn, 1) := by decide +kernel
set_option maxRecDepth 20000 in
theorem ggX8_rootLength_X8_checkPart : GoodIn wsX8_rootLength wsX8_checkPart := goodIn_ca (goodIn_r _ [7, 8, 9, 2, 10, 11, 12, 13, 14, 15, 43, 44, 45, 46, 47, 48, 49, 50] (by decide +kernel) (by decide +kernel)) (goodIn_sub (fun _ h => List.mem_cons_of_mem _ (List.mem_append_right _ h)) (by decide +kernel))
set_option maxRecDepth 20000 in
theorem gX8_rootLength_X8_checkPart : GoodIn wsX8_rootLength (wsV RX8 96 RX8 yX8_checkPart wsX8_checkPart) := goodIn_app (goodIn_of _ (by decide +kernel)) ggX8_rootLength_X8_checkPart
set_option maxRecDepth 20000 in
theorem ggX8_rootLength_X0_rootSize : GoodIn wsX8_rootLength wsX0_rootSize := goodIn_r _ [20, 21, 22, 23, 19, 24, 25, 26, 27, 28, 29, 30, 6, 31, 32, 33, 34, 35, 36, 37, 38, 13, 39, 40, 41, 42, 51, 49, 50] (by decide +kernel) (by decide +kernel)
set_option maxRecDepth 20000 in
theorem gX8_rootLength_X0_rootSize : GoodIn wsX8_rootLength (wsV RX8 177 RX0 yX0_rootSize wsX0_rootSize) := goodIn_app (goodIn_of _ (by decide +kernel)) ggX8_rootLength_X0_rootSize
theorem dX8_rootLength_0 : decode cX8_rootLength 0 = .ok (.aload_n 0, 1) := by decide +kernel
theorem dX8_rootLength_1 : decode cX8_rootLength 1 = .ok (.iload_n 1, 1) := by decide +kernel
theorem dX8_rootLength_2 : decode cX8_rootLength 2 = .ok (.iload_n 2, 1) := by decide +kernel
theorem dX8_rootLength_3 : decode cX8_rootLength 3 = .ok (.invokevirtual 96, 3) := by decide +kernel
theorem dX8_rootLength_6 : decode cX8_rootLength 6 = .ok (.aload_n 0, 1) := by decide +kernel
theorem dX8_rootLength_7 : decode cX8_rootLength 7 = .ok (.getfield 26, 3) := by decide +kernel
theorem dX8_rootLength_10 : decode cX8_rootLength 10 = .ok (.aload_n 0, 1) := by decide +kernel
theorem dX8_rootLength_11 : decode cX8_rootLength 11 = .ok (.getfield 10, 3) := by decide +kernel
theorem dX8_rootLength_14 : decode cX8_rootLength 14 = .ok (.iload_n 1, 1) := by decide +kernel
theorem dX8_rootLength_15 : decode cX8_rootLength 15 = .ok (.iload_n 2, 1) := by decide +kernel
theorem dX8_rootLength_16 : decode cX8_rootLength 16 = .ok (.invokevirtual 177, 3) := by decide +kernel
theorem dX8_rootLength_19 : decode cX8_rootLength 19 = .ok (.ireturn, 1) := by decide +kernel
set_option maxRecDepth 20000 in
theorem ggX8_exponent_X8_checkPart : GoodIn wsX8_exponent wsX8_checkPart := goodIn_ca (goodIn_r _ [7, 8, 9, 2, 10, 11, 12, 13, 14, 15, 42, 43, 44, 45, 46, 47, 48, 49] (by decide +kernel) (by decide +kernel)) (goodIn_sub (fun _ h => List.mem_cons_of_mem _ (List.mem_append_right _ h)) (by decide +kernel))
set_option maxRecDepth 20000 in
theorem gX8_exponent_X8_checkPart : GoodIn wsX8_exponent (wsV RX8 96 RX8 yX8_checkPart wsX8_checkPart) := goodIn_app (goodIn_of _ (by decide +kernel)) ggX8_exponent_X8_checkPart
set_option maxRecDepth 20000 in
theorem ggX8_exponent_X0_leastPeriod : GoodIn wsX8_exponent wsX0_leastPeriod := goodIn_r _ [20, 21, 22, 23, 19, 24, 25, 26, 6, 27, 28, 29, 30, 31, 32, 33, 34, 13, 35, 36, 37, 38, 50, 48, 49] (by decide +kernel) (by decide +kernel)
set_option maxRecDepth 20000 in
theorem gX8_exponent_X0_leastPeriod : GoodIn wsX8_exponent (wsV RX8 180 RX0 yX0_leastPeriod wsX0_leastPeriod) := goodIn_app (goodIn_of _ (by decide +kernel)) ggX8_exponent_X0_leastPeriod
set_option maxRecDepth 20000 in
theorem ggX8_exponent_X8_quotient : GoodIn wsX8_exponent wsX8_quotient := goodIn_r _ [41] (by decide +kernel) (by decide +kernel)
set_option maxRecDepth 20000 in
theorem gX8_exponent_X8_quotient : GoodIn wsX8_exponent (va_wsS RX8 196 yX8_quotient wsX8_quotient) := goodIn_app (goodIn_of _ (by decide +kernel)) ggX8_exponent_X8_quotient
theorem dX8_exponent_0 : decode cX8_exponent 0 = .ok (.aload_n 0, 1) := by decide +kernel
theorem dX8_exponent_1 : decode cX8_exponent 1 = .ok (.iload_n 1, 1) := by decide +kernel
theorem dX8_exponent_2 : decode cX8_exponent 2 = .ok (.iload_n 2, 1) := by decide +kernel
theorem dX8_exponent_3 : decode cX8_exponent 3 = .ok (.invokevirtual 96, 3) := by decide +kernel
theorem dX8_exponent_6 : decode cX8_exponent 6 = .ok (.iload_n 2, 1) := by decide +kernel
theorem dX8_exponent_7 : decode cX8_exponent 7 = .ok (.iload_n 1, 1) := by decide +kernel
theorem dX8_exponent_8 : decode cX8_exponent 8 = .ok (.isub, 1) := by decide +kernel
theorem dX8_exponent_9 : decode cX8_exponent 9 = .ok (.aload_n 0, 1) := by decide +kernel
theorem dX8_exponent_10 : decode cX8_exponent 10 = .ok (.getfield 26, 3) := by decide +kernel
theorem dX8_exponent_13 : decode cX8_exponent 13 = .ok (.aload_n 0, 1) := by decide +kernel
theorem dX8_exponent_14 : decode cX8_exponent 14 = .ok (.getfield 10, 3) := by decide +kernel
theorem dX8_exponent_17 : decode cX8_exponent 17 = .ok (.iload_n 1, 1) := by decide +kernel
theorem dX8_exponent_18 : decode cX8_exponent 18 = .ok (.iload_n 2, 1) := by decide +kernel
theorem dX8_exponent_19 : decode cX8_exponent 19 = .ok (.invokevirtual 180, 3) := by decide +kernel
theorem dX8_exponent_22 : decode cX8_exponent 22 = .ok (.invokestatic 196, 3) := by decide +kernel
theorem dX8_exponent_25 : decode cX8_exponent 25 = .ok (.dreturn, 1) := by decide +kernel
set_option maxRecDepth 20000 in
theorem ggX8_runs_X6_find : GoodIn wsX8_runs wsX6_find := goodIn_r _ [7, 8, 9, 10, 11, 12, 13, 14, 15, 16, 17, 6, 18, 19, 20, 21, 22, 23, 24, 25, 26, 27, 28, 29, 30, 31, 32, 33, 34, 35, 36, 37, 38, 39, 40, 41, 42, 43, 44, 45, 46, 47, 58, 59, 60, 61, 62, 63] (by decide +kernel) (by decide +kernel)
set_option maxRecDepth 20000 in
theorem gX8_runs_X6_find : GoodIn wsX8_runs (wsV RX8 200 RX6 yX6_find wsX6_find) := goodIn_app (goodIn_of _ (by decide +kernel)) ggX8_runs_X6_find
set_option maxRecDepth 20000 in
theorem ggX8_runs_X6_count : GoodIn wsX8_runs wsX6_count := goodIn_r _ [51, 8, 58, 59, 60, 61] (by decide +kernel) (by decide +kernel)
set_option maxRecDepth 20000 in
theorem gX8_runs_X6_count : GoodIn wsX8_runs (wsV RX8 201 RX6 yX6_count wsX6_count) := goodIn_app (goodIn_of _ (by decide +kernel)) ggX8_runs_X6_count
theorem dX8_runs_0 : decode cX8_runs 0 = .ok (.aload_n 0, 1) := by decide +kernel
theorem dX8_runs_1 : decode cX8_runs 1 = .ok (.getfield 33, 3) := by decide +kernel
theorem dX8_runs_4 : decode cX8_runs 4 = .ok (.aload_n 0, 1) := by decide +kernel
theorem dX8_runs_5 : decode cX8_runs 5 = .ok (.getfield 10, 3) := by decide +kernel
theorem dX8_runs_8 : decode cX8_runs 8 = .ok (.invokevirtual 200, 3) := by decide +kernel
theorem dX8_runs_11 : decode cX8_runs 11 = .ok (.aload_n 0, 1) := by decide +kernel
theorem dX8_runs_12 : decode cX8_runs 12 = .ok (.getfield 33, 3) := by decide +kernel
theorem dX8_runs_15 : decode cX8_runs 15 = .ok (.invokevirtual 201, 3) := by decide +kernel
theorem dX8_runs_18 : decode cX8_runs 18 = .ok (.ireturn, 1) := by decide +kernel
set_option maxRecDepth 20000 in
theorem ggX8_runStart_X8_findRun : GoodIn wsX8_runStart wsX8_findRun := goodIn_ca (goodIn_r _ [6, 1, 7, 8, 9, 10, 11, 12, 13, 14, 15, 16, 17, 18, 19, 20, 21, 22, 23, 24, 25, 26, 27, 28, 29, 30, 31, 32, 5, 33, 34, 35, 36, 37, 38, 39, 40, 41, 42, 43, 44, 45, 46, 47, 48, 49, 50, 51, 52, 53, 54, 55, 56, 57, 58, 59, 60, 65, 66, 67, 68, 69, 70, 71, 72, 73, 74, 75, 76] (by decide +kernel) (by decide +kernel)) (goodIn_sub (fun _ h => List.mem_cons_of_mem _ (List.mem_append_right _ h)) (by decide +kernel))
set_option maxRecDepth 20000 in
theorem gX8_runStart_X8_findRun : GoodIn wsX8_runStart (wsV RX8 202 RX8 yX8_findRun wsX8_findRun) := goodIn_app (goodIn_of _ (by decide +kernel)) ggX8_runStart_X8_findRun
set_option maxRecDepth 20000 in
theorem ggX8_runStart_X6_start : GoodIn wsX8_runStart wsX6_start := goodIn_r _ [64, 24, 32, 5, 33, 71, 72, 73, 74] (by decide +kernel) (by decide +kernel)
set_option maxRecDepth 20000 in
theorem gX8_runStart_X6_start : GoodIn wsX8_runStart (wsV RX8 205 RX6 yX6_start wsX6_start) := goodIn_app (goodIn_of _ (by decide +kernel)) ggX8_runStart_X6_start
theorem dX8_runStart_0 : decode cX8_runStart 0 = .ok (.aload_n 0, 1) := by decide +kernel
theorem dX8_runStart_1 : decode cX8_runStart 1 = .ok (.iload_n 1, 1) := by decide +kernel
theorem dX8_runStart_2 : decode cX8_runStart 2 = .ok (.invokevirtual 202, 3) := by decide +kernel
theorem dX8_runStart_5 : decode cX8_runStart 5 = .ok (.aload_n 0, 1) := by decide +kernel
theorem dX8_runStart_6 : decode cX8_runStart 6 = .ok (.getfield 33, 3) := by decide +kernel
theorem dX8_runStart_9 : decode cX8_runStart 9 = .ok (.iload_n 1, 1) := by decide +kernel
theorem dX8_runStart_10 : decode cX8_runStart 10 = .ok (.invokevirtual 205, 3) := by decide +kernel
theorem dX8_runStart_13 : decode cX8_runStart 13 = .ok (.ireturn, 1) := by decide +kernel
set_option maxRecDepth 20000 in
theorem ggX8_runEnd_X8_findRun : GoodIn wsX8_runEnd wsX8_findRun := goodIn_ca (goodIn_r _ [6, 1, 7, 8, 9, 10, 11, 12, 13, 14, 15, 16, 17, 18, 19, 20, 21, 22, 23, 24, 25, 26, 27, 28, 29, 30, 31, 32, 5, 33, 34, 35, 36, 37, 38, 39, 40, 41, 42, 43, 44, 45, 46, 47, 48, 49, 50, 51, 52, 53, 54, 55, 56, 57, 58, 59, 60, 65, 66, 67, 68, 69, 70, 71, 72, 73, 74, 75, 76] (by decide +kernel) (by decide +kernel)) (goodIn_sub (fun _ h => List.mem_cons_of_mem _ (List.mem_append_right _ h)) (by decide +kernel))
set_option maxRecDepth 20000 in
theorem gX8_runEnd_X8_findRun : GoodIn wsX8_runEnd (wsV RX8 202 RX8 yX8_findRun wsX8_findRun) := goodIn_app (goodIn_of _ (by decide +kernel)) ggX8_runEnd_X8_findRun
set_option maxRecDepth 20000 in
theorem ggX8_runEnd_X6_end : GoodIn wsX8_runEnd wsX6_end := goodIn_r _ [64, 25, 32, 5, 33, 71, 72, 73, 74] (by decide +kernel) (by decide +kernel)
set_option maxRecDepth 20000 in
theorem gX8_runEnd_X6_end : GoodIn wsX8_runEnd (wsV RX8 206 RX6 yX6_end wsX6_end) := goodIn_app (goodIn_of _ (by decide +kernel)) ggX8_runEnd_X6_end
theorem dX8_runEnd_0 : decode cX8_runEnd 0 = .ok (.aload_n 0, 1) := by decide +kernel
theorem dX8_runEnd_1 : decode cX8_runEnd 1 = .ok (.iload_n 1, 1) := by decide +kernel
theorem dX8_runEnd_2 : decode cX8_runEnd 2 = .ok (.invokevirtual 202, 3) := by decide +kernel
theorem dX8_runEnd_5 : decode cX8_runEnd 5 = .ok (.aload_n 0, 1) := by decide +kernel
theorem dX8_runEnd_6 : decode cX8_runEnd 6 = .ok (.getfield 33, 3) := by decide +kernel
theorem dX8_runEnd_9 : decode cX8_runEnd 9 = .ok (.iload_n 1, 1) := by decide +kernel
theorem dX8_runEnd_10 : decode cX8_runEnd 10 = .ok (.invokevirtual 206, 3) := by decide +kernel
theorem dX8_runEnd_13 : decode cX8_runEnd 13 = .ok (.ireturn, 1) := by decide +kernel
set_option maxRecDepth 20000 in
theorem ggX8_runPeriod_X8_findRun : GoodIn wsX8_runPeriod wsX8_findRun := goodIn_ca (goodIn_r _ [6, 1, 7, 8, 9, 10, 11, 12, 13, 14, 15, 16, 17, 18, 19, 20, 21, 22, 23, 24, 25, 26, 27, 28, 29, 30, 31, 32, 5, 33, 34, 35, 36, 37, 38, 39, 40, 41, 42, 43, 44, 45, 46, 47, 48, 49, 50, 51, 52, 53, 54, 55, 56, 57, 58, 59, 60, 65, 66, 67, 68, 69, 70, 71, 72, 73, 74, 75, 76] (by decide +kernel) (by decide +kernel)) (goodIn_sub (fun _ h => List.mem_cons_of_mem _ (List.mem_append_right _ h)) (by decide +kernel))
set_option maxRecDepth 20000 in
theorem gX8_runPeriod_X8_findRun : GoodIn wsX8_runPeriod (wsV RX8 202 RX8 yX8_findRun wsX8_findRun) := goodIn_app (goodIn_of _ (by decide +kernel)) ggX8_runPeriod_X8_findRun
set_option maxRecDepth 20000 in
theorem ggX8_runPeriod_X6_leastPeriod : GoodIn wsX8_runPeriod wsX6_leastPeriod := goodIn_r _ [64, 26, 32, 5, 33, 71, 72, 73, 74] (by decide +kernel) (by decide +kernel)
set_option maxRecDepth 20000 in
theorem gX8_runPeriod_X6_leastPeriod : GoodIn wsX8_runPeriod (wsV RX8 209 RX6 yX6_leastPeriod wsX6_leastPeriod) := goodIn_app (goodIn_of _ (by decide +kernel)) ggX8_runPeriod_X6_leastPeriod
theorem dX8_runPeriod_0 : decode cX8_runPeriod 0 = .ok (.aload_n 0, 1) := by decide +kernel
theorem dX8_runPeriod_1 : decode cX8_runPeriod 1 = .ok (.iload_n 1, 1) := by decide +kernel
theorem dX8_runPeriod_2 : decode cX8_runPeriod 2 = .ok (.invokevirtual 202, 3) := by decide +kernel
theorem dX8_runPeriod_5 : decode cX8_runPeriod 5 = .ok (.aload_n 0, 1) := by decide +kernel
theorem dX8_runPeriod_6 : decode cX8_runPeriod 6 = .ok (.getfield 33, 3) := by decide +kernel
theorem dX8_runPeriod_9 : decode cX8_runPeriod 9 = .ok (.iload_n 1, 1) := by decide +kernel
theorem dX8_runPeriod_10 : decode cX8_runPeriod 10 = .ok (.invokevirtual 209, 3) := by decide +kernel
theorem dX8_runPeriod_13 : decode cX8_runPeriod 13 = .ok (.ireturn, 1) := by decide +kernel
set_option maxRecDepth 20000 in
theorem ggX8_runsOver_X2_count : GoodIn wsX8_runsOver wsX2_count := goodIn_r _ [7, 8, 72, 73] (by decide +kernel) (by decide +kernel)
set_option maxRecDepth 20000 in
theorem gX8_runsOver_X2_count : GoodIn wsX8_runsOver (wsV RX8 62 RX2 yX2_count wsX2_count) := goodIn_app (goodIn_of _ (by decide +kernel)) ggX8_runsOver_X2_count
set_option maxRecDepth 20000 in
theorem ggX8_runsOver_X8_checkIndex : GoodIn wsX8_runsOver wsX8_checkIndex := goodIn_ca (goodIn_r _ [12, 13, 14] (by decide +kernel) (by decide +kernel)) (goodIn_sub (fun _ h => List.mem_cons_of_mem _ (List.mem_append_right _ h)) (by decide +kernel))
set_option maxRecDepth 20000 in
theorem gX8_runsOver_X8_checkIndex : GoodIn wsX8_runsOver (va_wsS RX8 66 yX8_checkIndex wsX8_checkIndex) := goodIn_app (goodIn_of _ (by decide +kernel)) ggX8_runsOver_X8_checkIndex
set_option maxRecDepth 20000 in
theorem ggX8_runsOver_X6_find : GoodIn wsX8_runsOver wsX6_find := goodIn_r _ [19, 20, 21, 4, 5, 6, 7, 8, 22, 23, 24, 18, 25, 26, 27, 28, 29, 30, 31, 32, 33, 34, 11, 35, 36, 37, 38, 39, 40, 41, 42, 43, 44, 45, 46, 47, 48, 49, 50, 51, 52, 53, 74, 75, 76, 77, 72, 73] (by decide +kernel) (by decide +kernel)
set_option maxRecDepth 20000 in
theorem gX8_runsOver_X6_find : GoodIn wsX8_runsOver (wsV RX8 200 RX6 yX6_find wsX6_find) := goodIn_app (goodIn_of _ (by decide +kernel)) ggX8_runsOver_X6_find
set_option maxRecDepth 20000 in
theorem ggX8_runsOver_X6_count : GoodIn wsX8_runsOver wsX6_count := goodIn_r _ [57, 20, 74, 75, 76, 77] (by decide +kernel) (by decide +kernel)
set_option maxRecDepth 20000 in
theorem gX8_runsOver_X6_count : GoodIn wsX8_runsOver (wsV RX8 201 RX6 yX6_count wsX6_count) := goodIn_app (goodIn_of _ (by decide +kernel)) ggX8_runsOver_X6_count
set_option maxRecDepth 20000 in
theorem ggX8_runsOver_X6_start : GoodIn wsX8_runsOver wsX6_start := goodIn_r _ [61, 26, 34, 11, 35, 74, 75, 76, 77] (by decide +kernel) (by decide +kernel)
set_option maxRecDepth 20000 in
theorem gX8_runsOver_X6_start : GoodIn wsX8_runsOver (wsV RX8 205 RX6 yX6_start wsX6_start) := goodIn_app (goodIn_of _ (by decide +kernel)) ggX8_runsOver_X6_start
set_option maxRecDepth 20000 in
theorem ggX8_runsOver_X6_end : GoodIn wsX8_runsOver wsX6_end := goodIn_r _ [65, 27, 34, 11, 35, 74, 75, 76, 77] (by decide +kernel) (by decide +kernel)
set_option maxRecDepth 20000 in
theorem gX8_runsOver_X6_end : GoodIn wsX8_runsOver (wsV RX8 206 RX6 yX6_end wsX6_end) := goodIn_app (goodIn_of _ (by decide +kernel)) ggX8_runsOver_X6_end
theorem dX8_runsOver_0 : decode cX8_runsOver 0 = .ok (.iload_n 1, 1) := by decide +kernel
theorem dX8_runsOver_1 : decode cX8_runsOver 1 = .ok (.aload_n 0, 1) := by decide +kernel
theorem dX8_runsOver_2 : decode cX8_runsOver 2 = .ok (.getfield 10, 3) := by decide +kernel
theorem dX8_runsOver_5 : decode cX8_runsOver 5 = .ok (.invokevirtual 62, 3) := by decide +kernel
theorem dX8_runsOver_8 : decode cX8_runsOver 8 = .ok (.invokestatic 66, 3) := by decide +kernel
theorem dX8_runsOver_11 : decode cX8_runsOver 11 = .ok (.aload_n 0, 1) := by decide +kernel
theorem dX8_runsOver_12 : decode cX8_runsOver 12 = .ok (.getfield 33, 3) := by decide +kernel
theorem dX8_runsOver_15 : decode cX8_runsOver 15 = .ok (.aload_n 0, 1) := by decide +kernel
theorem dX8_runsOver_16 : decode cX8_runsOver 16 = .ok (.getfield 10, 3) := by decide +kernel
theorem dX8_runsOver_19 : decode cX8_runsOver 19 = .ok (.invokevirtual 200, 3) := by decide +kernel
theorem dX8_runsOver_22 : decode cX8_runsOver 22 = .ok (.iconst 0, 1) := by decide +kernel
theorem dX8_runsOver_23 : decode cX8_runsOver 23 = .ok (.istore_n 2, 1) := by decide +kernel
theorem dX8_runsOver_24 : decode cX8_runsOver 24 = .ok (.iconst 0, 1) := by decide +kernel
theorem dX8_runsOver_25 : decode cX8_runsOver 25 = .ok (.istore_n 3, 1) := by decide +kernel
theorem dX8_runsOver_26 : decode cX8_runsOver 26 = .ok (.iload_n 3, 1) := by decide +kernel
theorem dX8_runsOver_27 : decode cX8_runsOver 27 = .ok (.aload_n 0, 1) := by decide +kernel
theorem dX8_runsOver_28 : decode cX8_runsOver 28 = .ok (.getfield 33, 3) := by decide +kernel
theorem dX8_runsOver_31 : decode cX8_runsOver 31 = .ok (.invokevirtual 201, 3) := by decide +kernel
theorem dX8_runsOver_34 : decode cX8_runsOver 34 = .ok (.if_icmp .ge 36, 3) := by decide +kernel
theorem dX8_runsOver_37 : decode cX8_runsOver 37 = .ok (.aload_n 0, 1) := by decide +kernel
theorem dX8_runsOver_38 : decode cX8_runsOver 38 = .ok (.getfield 33, 3) := by decide +kernel
theorem dX8_runsOver_41 : decode cX8_runsOver 41 = .ok (.iload_n 3, 1) := by decide +kernel
theorem dX8_runsOver_42 : decode cX8_runsOver 42 = .ok (.invokevirtual 205, 3) := by decide +kernel
theorem dX8_runsOver_45 : decode cX8_runsOver 45 = .ok (.iload_n 1, 1) := by decide +kernel
theorem dX8_runsOver_46 : decode cX8_runsOver 46 = .ok (.if_icmp .gt 18, 3) := by decide +kernel
theorem dX8_runsOver_49 : decode cX8_runsOver 49 = .ok (.iload_n 1, 1) := by decide +kernel
theorem dX8_runsOver_50 : decode cX8_runsOver 50 = .ok (.aload_n 0, 1) := by decide +kernel
theorem dX8_runsOver_51 : decode cX8_runsOver 51 = .ok (.getfield 33, 3) := by decide +kernel
theorem dX8_runsOver_54 : decode cX8_runsOver 54 = .ok (.iload_n 3, 1) := by decide +kernel
theorem dX8_runsOver_55 : decode cX8_runsOver 55 = .ok (.invokevirtual 206, 3) := by decide +kernel
theorem dX8_runsOver_58 : decode cX8_runsOver 58 = .ok (.if_icmp .ge 6, 3) := by decide +kernel
theorem dX8_runsOver_61 : decode cX8_runsOver 61 = .ok (.iinc 2 1, 3) := by decide +kernel
theorem dX8_runsOver_64 : decode cX8_runsOver 64 = .ok (.iinc 3 1, 3) := by decide +kernel
theorem dX8_runsOver_67 : decode cX8_runsOver 67 = .ok (.goto (-41), 3) := by decide +kernel
theorem dX8_runsOver_70 : decode cX8_runsOver 70 = .ok (.iload_n 2, 1) := by decide +kernel
theorem dX8_runsOver_71 : decode cX8_runsOver 71 = .ok (.ireturn, 1) := by decide +kernel
set_option maxRecDepth 20000 in
theorem ggX8_squares_X6_find : GoodIn wsX8_squares wsX6_find := goodIn_r _ [7, 8, 9, 10, 11, 12, 13, 14, 15, 16, 17, 6, 18, 19, 20, 21, 22, 23, 24, 25, 26, 27, 28, 29, 30, 31, 32, 33, 34, 35, 36, 37, 38, 39, 40, 41, 42, 43, 44, 45, 46, 47, 66, 67, 68, 69, 70, 71] (by decide +kernel) (by decide +kernel)
set_option maxRecDepth 20000 in
theorem gX8_squares_X6_find : GoodIn wsX8_squares (wsV RX8 200 RX6 yX6_find wsX6_find) := goodIn_app (goodIn_of _ (by decide +kernel)) ggX8_squares_X6_find
set_option maxRecDepth 20000 in
theorem ggX8_squares_X6_count : GoodIn wsX8_squares wsX6_count := goodIn_r _ [51, 8, 66, 67, 68, 69] (by decide +kernel) (by decide +kernel)
set_option maxRecDepth 20000 in
theorem gX8_squares_X6_count : GoodIn wsX8_squares (wsV RX8 201 RX6 yX6_count wsX6_count) := goodIn_app (goodIn_of _ (by decide +kernel)) ggX8_squares_X6_count
set_option maxRecDepth 20000 in
theorem ggX8_squares_X6_size : GoodIn wsX8_squares wsX6_size := goodIn_r _ [55, 20, 19, 27, 28, 29, 66, 67, 68, 69] (by decide +kernel) (by decide +kernel)
set_option maxRecDepth 20000 in
theorem gX8_squares_X6_size : GoodIn wsX8_squares (wsV RX8 211 RX6 yX6_size wsX6_size) := goodIn_app (goodIn_of _ (by decide +kernel)) ggX8_squares_X6_size
set_option maxRecDepth 20000 in
theorem ggX8_squares_X6_leastPeriod : GoodIn wsX8_squares wsX6_leastPeriod := goodIn_r _ [59, 21, 27, 28, 29, 66, 67, 68, 69] (by decide +kernel) (by decide +kernel)
set_option maxRecDepth 20000 in
theorem gX8_squares_X6_leastPeriod : GoodIn wsX8_squares (wsV RX8 209 RX6 yX6_leastPeriod wsX6_leastPeriod) := goodIn_app (goodIn_of _ (by decide +kernel)) ggX8_squares_X6_leastPeriod
theorem dX8_squares_0 : decode cX8_squares 0 = .ok (.aload_n 0, 1) := by decide +kernel
theorem dX8_squares_1 : decode cX8_squares 1 = .ok (.getfield 33, 3) := by decide +kernel
theorem dX8_squares_4 : decode cX8_squares 4 = .ok (.aload_n 0, 1) := by decide +kernel
theorem dX8_squares_5 : decode cX8_squares 5 = .ok (.getfield 10, 3) := by decide +kernel
theorem dX8_squares_8 : decode cX8_squares 8 = .ok (.invokevirtual 200, 3) := by decide +kernel
theorem dX8_squares_11 : decode cX8_squares 11 = .ok (.iconst 0, 1) := by decide +kernel
theorem dX8_squares_12 : decode cX8_squares 12 = .ok (.istore_n 1, 1) := by decide +kernel
theorem dX8_squares_13 : decode cX8_squares 13 = .ok (.iconst 0, 1) := by decide +kernel
theorem dX8_squares_14 : decode cX8_squares 14 = .ok (.istore_n 2, 1) := by decide +kernel
theorem dX8_squares_15 : decode cX8_squares 15 = .ok (.iload_n 2, 1) := by decide +kernel
theorem dX8_squares_16 : decode cX8_squares 16 = .ok (.aload_n 0, 1) := by decide +kernel
theorem dX8_squares_17 : decode cX8_squares 17 = .ok (.getfield 33, 3) := by decide +kernel
theorem dX8_squares_20 : decode cX8_squares 20 = .ok (.invokevirtual 201, 3) := by decide +kernel
theorem dX8_squares_23 : decode cX8_squares 23 = .ok (.if_icmp .ge 33, 3) := by decide +kernel
theorem dX8_squares_26 : decode cX8_squares 26 = .ok (.iload_n 1, 1) := by decide +kernel
theorem dX8_squares_27 : decode cX8_squares 27 = .ok (.aload_n 0, 1) := by decide +kernel
theorem dX8_squares_28 : decode cX8_squares 28 = .ok (.getfield 33, 3) := by decide +kernel
theorem dX8_squares_31 : decode cX8_squares 31 = .ok (.iload_n 2, 1) := by decide +kernel
theorem dX8_squares_32 : decode cX8_squares 32 = .ok (.invokevirtual 211, 3) := by decide +kernel
theorem dX8_squares_35 : decode cX8_squares 35 = .ok (.iconst 2, 1) := by decide +kernel
theorem dX8_squares_36 : decode cX8_squares 36 = .ok (.aload_n 0, 1) := by decide +kernel
theorem dX8_squares_37 : decode cX8_squares 37 = .ok (.getfield 33, 3) := by decide +kernel
theorem dX8_squares_40 : decode cX8_squares 40 = .ok (.iload_n 2, 1) := by decide +kernel
theorem dX8_squares_41 : decode cX8_squares 41 = .ok (.invokevirtual 209, 3) := by decide +kernel
theorem dX8_squares_44 : decode cX8_squares 44 = .ok (.imul, 1) := by decide +kernel
theorem dX8_squares_45 : decode cX8_squares 45 = .ok (.isub, 1) := by decide +kernel
theorem dX8_squares_46 : decode cX8_squares 46 = .ok (.iconst 1, 1) := by decide +kernel
theorem dX8_squares_47 : decode cX8_squares 47 = .ok (.iadd, 1) := by decide +kernel
theorem dX8_squares_48 : decode cX8_squares 48 = .ok (.iadd, 1) := by decide +kernel
theorem dX8_squares_49 : decode cX8_squares 49 = .ok (.istore_n 1, 1) := by decide +kernel
theorem dX8_squares_50 : decode cX8_squares 50 = .ok (.iinc 2 1, 3) := by decide +kernel
theorem dX8_squares_53 : decode cX8_squares 53 = .ok (.goto (-38), 3) := by decide +kernel
theorem dX8_squares_56 : decode cX8_squares 56 = .ok (.iload_n 1, 1) := by decide +kernel
theorem dX8_squares_57 : decode cX8_squares 57 = .ok (.ireturn, 1) := by decide +kernel
set_option maxRecDepth 20000 in
theorem ggX8_suffixAt_X2_count : GoodIn wsX8_suffixAt wsX2_count := goodIn_r _ [7, 8, 49, 50] (by decide +kernel) (by decide +kernel)
set_option maxRecDepth 20000 in
theorem gX8_suffixAt_X2_count : GoodIn wsX8_suffixAt (wsV RX8 62 RX2 yX2_count wsX2_count) := goodIn_app (goodIn_of _ (by decide +kernel)) ggX8_suffixAt_X2_count
set_option maxRecDepth 20000 in
theorem ggX8_suffixAt_X8_checkIndex : GoodIn wsX8_suffixAt wsX8_checkIndex := goodIn_ca (goodIn_r _ [12, 13, 14] (by decide +kernel) (by decide +kernel)) (goodIn_sub (fun _ h => List.mem_cons_of_mem _ (List.mem_append_right _ h)) (by decide +kernel))
set_option maxRecDepth 20000 in
theorem gX8_suffixAt_X8_checkIndex : GoodIn wsX8_suffixAt (va_wsS RX8 66 yX8_checkIndex wsX8_checkIndex) := goodIn_app (goodIn_of _ (by decide +kernel)) ggX8_suffixAt_X8_checkIndex
set_option maxRecDepth 20000 in
theorem ggX8_suffixAt_X7_find : GoodIn wsX8_suffixAt wsX7_find := goodIn_r _ [19, 20, 21, 4, 5, 6, 7, 8, 22, 11, 23, 24, 25, 26, 18, 27, 28, 29, 30, 31, 32, 33, 34, 35, 36, 37, 38, 51, 49, 50] (by decide +kernel) (by decide +kernel)
set_option maxRecDepth 20000 in
theorem gX8_suffixAt_X7_find : GoodIn wsX8_suffixAt (wsV RX8 214 RX7 yX7_find wsX7_find) := goodIn_app (goodIn_of _ (by decide +kernel)) ggX8_suffixAt_X7_find
set_option maxRecDepth 20000 in
theorem ggX8_suffixAt_X7_rank : GoodIn wsX8_suffixAt wsX7_rank := goodIn_r _ [42, 20, 37, 11, 38, 51] (by decide +kernel) (by decide +kernel)
set_option maxRecDepth 20000 in
theorem gX8_suffixAt_X7_rank : GoodIn wsX8_suffixAt (wsV RX8 215 RX7 yX7_rank wsX7_rank) := goodIn_app (goodIn_of _ (by decide +kernel)) ggX8_suffixAt_X7_rank
theorem dX8_suffixAt_0 : decode cX8_suffixAt 0 = .ok (.iload_n 1, 1) := by decide +kernel
theorem dX8_suffixAt_1 : decode cX8_suffixAt 1 = .ok (.aload_n 0, 1) := by decide +kernel
theorem dX8_suffixAt_2 : decode cX8_suffixAt 2 = .ok (.getfield 10, 3) := by decide +kernel
theorem dX8_suffixAt_5 : decode cX8_suffixAt 5 = .ok (.invokevirtual 62, 3) := by decide +kernel
theorem dX8_suffixAt_8 : decode cX8_suffixAt 8 = .ok (.invokestatic 66, 3) := by decide +kernel
theorem dX8_suffixAt_11 : decode cX8_suffixAt 11 = .ok (.aload_n 0, 1) := by decide +kernel
theorem dX8_suffixAt_12 : decode cX8_suffixAt 12 = .ok (.getfield 40, 3) := by decide +kernel
theorem dX8_suffixAt_15 : decode cX8_suffixAt 15 = .ok (.aload_n 0, 1) := by decide +kernel
theorem dX8_suffixAt_16 : decode cX8_suffixAt 16 = .ok (.getfield 10, 3) := by decide +kernel
theorem dX8_suffixAt_19 : decode cX8_suffixAt 19 = .ok (.invokevirtual 214, 3) := by decide +kernel
theorem dX8_suffixAt_22 : decode cX8_suffixAt 22 = .ok (.iconst 0, 1) := by decide +kernel
theorem dX8_suffixAt_23 : decode cX8_suffixAt 23 = .ok (.istore_n 2, 1) := by decide +kernel
theorem dX8_suffixAt_24 : decode cX8_suffixAt 24 = .ok (.iload_n 2, 1) := by decide +kernel
theorem dX8_suffixAt_25 : decode cX8_suffixAt 25 = .ok (.aload_n 0, 1) := by decide +kernel
theorem dX8_suffixAt_26 : decode cX8_suffixAt 26 = .ok (.getfield 10, 3) := by decide +kernel
theorem dX8_suffixAt_29 : decode cX8_suffixAt 29 = .ok (.invokevirtual 62, 3) := by decide +kernel
theorem dX8_suffixAt_32 : decode cX8_suffixAt 32 = .ok (.iconst 1, 1) := by decide +kernel
theorem dX8_suffixAt_33 : decode cX8_suffixAt 33 = .ok (.isub, 1) := by decide +kernel
theorem dX8_suffixAt_34 : decode cX8_suffixAt 34 = .ok (.if_icmp .ge 21, 3) := by decide +kernel
theorem dX8_suffixAt_37 : decode cX8_suffixAt 37 = .ok (.aload_n 0, 1) := by decide +kernel
theorem dX8_suffixAt_38 : decode cX8_suffixAt 38 = .ok (.getfield 40, 3) := by decide +kernel
theorem dX8_suffixAt_41 : decode cX8_suffixAt 41 = .ok (.iload_n 2, 1) := by decide +kernel
theorem dX8_suffixAt_42 : decode cX8_suffixAt 42 = .ok (.invokevirtual 215, 3) := by decide +kernel
theorem dX8_suffixAt_45 : decode cX8_suffixAt 45 = .ok (.iload_n 1, 1) := by decide +kernel
theorem dX8_suffixAt_46 : decode cX8_suffixAt 46 = .ok (.if_icmp .eq 9, 3) := by decide +kernel
theorem dX8_suffixAt_49 : decode cX8_suffixAt 49 = .ok (.iinc 2 1, 3) := by decide +kernel
theorem dX8_suffixAt_52 : decode cX8_suffixAt 52 = .ok (.goto (-28), 3) := by decide +kernel
theorem dX8_suffixAt_55 : decode cX8_suffixAt 55 = .ok (.iload_n 2, 1) := by decide +kernel
theorem dX8_suffixAt_56 : decode cX8_suffixAt 56 = .ok (.ireturn, 1) := by decide +kernel
set_option maxRecDepth 20000 in
theorem ggX8_rankOf_X2_count : GoodIn wsX8_rankOf wsX2_count := goodIn_r _ [7, 8, 49, 50] (by decide +kernel) (by decide +kernel)
set_option maxRecDepth 20000 in
theorem gX8_rankOf_X2_count : GoodIn wsX8_rankOf (wsV RX8 62 RX2 yX2_count wsX2_count) := goodIn_app (goodIn_of _ (by decide +kernel)) ggX8_rankOf_X2_count
set_option maxRecDepth 20000 in
theorem ggX8_rankOf_X8_checkIndex : GoodIn wsX8_rankOf wsX8_checkIndex := goodIn_ca (goodIn_r _ [12, 13, 14] (by decide +kernel) (by decide +kernel)) (goodIn_sub (fun _ h => List.mem_cons_of_mem _ (List.mem_append_right _ h)) (by decide +kernel))
set_option maxRecDepth 20000 in
theorem gX8_rankOf_X8_checkIndex : GoodIn wsX8_rankOf (va_wsS RX8 66 yX8_checkIndex wsX8_checkIndex) := goodIn_app (goodIn_of _ (by decide +kernel)) ggX8_rankOf_X8_checkIndex
set_option maxRecDepth 20000 in
theorem ggX8_rankOf_X7_find : GoodIn wsX8_rankOf wsX7_find := goodIn_r _ [19, 20, 21, 4, 5, 6, 7, 8, 22, 11, 23, 24, 25, 26, 18, 27, 28, 29, 30, 31, 32, 33, 34, 35, 36, 37, 38, 51, 49, 50] (by decide +kernel) (by decide +kernel)
set_option maxRecDepth 20000 in
theorem gX8_rankOf_X7_find : GoodIn wsX8_rankOf (wsV RX8 214 RX7 yX7_find wsX7_find) := goodIn_app (goodIn_of _ (by decide +kernel)) ggX8_rankOf_X7_find
set_option maxRecDepth 20000 in
theorem ggX8_rankOf_X7_rank : GoodIn wsX8_rankOf wsX7_rank := goodIn_r _ [42, 20, 37, 11, 38, 51] (by decide +kernel) (by decide +kernel)
set_option maxRecDepth 20000 in
theorem gX8_rankOf_X7_rank : GoodIn wsX8_rankOf (wsV RX8 215 RX7 yX7_rank wsX7_rank) := goodIn_app (goodIn_of _ (by decide +kernel)) ggX8_rankOf_X7_rank
theorem dX8_rankOf_0 : decode cX8_rankOf 0 = .ok (.iload_n 1, 1) := by decide +kernel
theorem dX8_rankOf_1 : decode cX8_rankOf 1 = .ok (.aload_n 0, 1) := by decide +kernel
theorem dX8_rankOf_2 : decode cX8_rankOf 2 = .ok (.getfield 10, 3) := by decide +kernel
theorem dX8_rankOf_5 : decode cX8_rankOf 5 = .ok (.invokevirtual 62, 3) := by decide +kernel
theorem dX8_rankOf_8 : decode cX8_rankOf 8 = .ok (.invokestatic 66, 3) := by decide +kernel
theorem dX8_rankOf_11 : decode cX8_rankOf 11 = .ok (.aload_n 0, 1) := by decide +kernel
theorem dX8_rankOf_12 : decode cX8_rankOf 12 = .ok (.getfield 40, 3) := by decide +kernel
theorem dX8_rankOf_15 : decode cX8_rankOf 15 = .ok (.aload_n 0, 1) := by decide +kernel
theorem dX8_rankOf_16 : decode cX8_rankOf 16 = .ok (.getfield 10, 3) := by decide +kernel
theorem dX8_rankOf_19 : decode cX8_rankOf 19 = .ok (.invokevirtual 214, 3) := by decide +kernel
theorem dX8_rankOf_22 : decode cX8_rankOf 22 = .ok (.aload_n 0, 1) := by decide +kernel
theorem dX8_rankOf_23 : decode cX8_rankOf 23 = .ok (.getfield 40, 3) := by decide +kernel
theorem dX8_rankOf_26 : decode cX8_rankOf 26 = .ok (.iload_n 1, 1) := by decide +kernel
theorem dX8_rankOf_27 : decode cX8_rankOf 27 = .ok (.invokevirtual 215, 3) := by decide +kernel
theorem dX8_rankOf_30 : decode cX8_rankOf 30 = .ok (.ireturn, 1) := by decide +kernel
theorem dX8_checkIndex_0 : decode cX8_checkIndex 0 = .ok (.iload_n 0, 1) := by decide +kernel
theorem dX8_checkIndex_1 : decode cX8_checkIndex 1 = .ok (.ifCond .lt 8, 3) := by decide +kernel
theorem dX8_checkIndex_4 : decode cX8_checkIndex 4 = .ok (.iload_n 0, 1) := by decide +kernel
theorem dX8_checkIndex_5 : decode cX8_checkIndex 5 = .ok (.iload_n 1, 1) := by decide +kernel
theorem dX8_checkIndex_6 : decode cX8_checkIndex 6 = .ok (.if_icmp .lt 13, 3) := by decide +kernel
theorem dX8_checkIndex_9 : decode cX8_checkIndex 9 = .ok (.new 232, 3) := by decide +kernel
theorem dX8_checkIndex_12 : decode cX8_checkIndex 12 = .ok (.dup, 1) := by decide +kernel
theorem dX8_checkIndex_13 : decode cX8_checkIndex 13 = .ok (.ldc 234, 2) := by decide +kernel
theorem dX8_checkIndex_15 : decode cX8_checkIndex 15 = .ok (.invokespecial 236, 3) := by decide +kernel
theorem dX8_checkIndex_18 : decode cX8_checkIndex 18 = .ok (.athrow, 1) := by decide +kernel
theorem dX8_checkIndex_19 : decode cX8_checkIndex 19 = .ok (.return_, 1) := by decide +kernel
theorem dX8_checkArgument_0 : decode cX8_checkArgument 0 = .ok (.iload_n 0, 1) := by decide +kernel
theorem dX8_checkArgument_1 : decode cX8_checkArgument 1 = .ok (.iload_n 1, 1) := by decide +kernel
theorem dX8_checkArgument_2 : decode cX8_checkArgument 2 = .ok (.if_icmp .lt 8, 3) := by decide +kernel
theorem dX8_checkArgument_5 : decode cX8_checkArgument 5 = .ok (.iload_n 0, 1) := by decide +kernel
theorem dX8_checkArgument_6 : decode cX8_checkArgument 6 = .ok (.iload_n 2, 1) := by decide +kernel
theorem dX8_checkArgument_7 : decode cX8_checkArgument 7 = .ok (.if_icmp .le 13, 3) := by decide +kernel
theorem dX8_checkArgument_10 : decode cX8_checkArgument 10 = .ok (.new 107, 3) := by decide +kernel
theorem dX8_checkArgument_13 : decode cX8_checkArgument 13 = .ok (.dup, 1) := by decide +kernel
theorem dX8_checkArgument_14 : decode cX8_checkArgument 14 = .ok (.ldc 237, 2) := by decide +kernel
theorem dX8_checkArgument_16 : decode cX8_checkArgument 16 = .ok (.invokespecial 111, 3) := by decide +kernel
theorem dX8_checkArgument_19 : decode cX8_checkArgument 19 = .ok (.athrow, 1) := by decide +kernel
theorem dX8_checkArgument_20 : decode cX8_checkArgument 20 = .ok (.return_, 1) := by decide +kernel
set_option maxRecDepth 20000 in
theorem ggX8_checkPart_X2_count : GoodIn wsX8_checkPart wsX2_count := goodIn_r _ [8, 9, 16, 17] (by decide +kernel) (by decide +kernel)
set_option maxRecDepth 20000 in
theorem gX8_checkPart_X2_count : GoodIn wsX8_checkPart (wsV RX8 62 RX2 yX2_count wsX2_count) := goodIn_app (goodIn_of _ (by decide +kernel)) ggX8_checkPart_X2_count
theorem dX8_checkPart_0 : decode cX8_checkPart 0 = .ok (.iload_n 1, 1) := by decide +kernel
theorem dX8_checkPart_1 : decode cX8_checkPart 1 = .ok (.ifCond .lt 19, 3) := by decide +kernel
theorem dX8_checkPart_4 : decode cX8_checkPart 4 = .ok (.iload_n 1, 1) := by decide +kernel
theorem dX8_checkPart_5 : decode cX8_checkPart 5 = .ok (.iload_n 2, 1) := by decide +kernel
theorem dX8_checkPart_6 : decode cX8_checkPart 6 = .ok (.if_icmp .ge 14, 3) := by decide +kernel
theorem dX8_checkPart_9 : decode cX8_checkPart 9 = .ok (.iload_n 2, 1) := by decide +kernel
theorem dX8_checkPart_10 : decode cX8_checkPart 10 = .ok (.aload_n 0, 1) := by decide +kernel
theorem dX8_checkPart_11 : decode cX8_checkPart 11 = .ok (.getfield 10, 3) := by decide +kernel
theorem dX8_checkPart_14 : decode cX8_checkPart 14 = .ok (.invokevirtual 62, 3) := by decide +kernel
theorem dX8_checkPart_17 : decode cX8_checkPart 17 = .ok (.if_icmp .le 13, 3) := by decide +kernel
theorem dX8_checkPart_20 : decode cX8_checkPart 20 = .ok (.new 232, 3) := by decide +kernel
theorem dX8_checkPart_23 : decode cX8_checkPart 23 = .ok (.dup, 1) := by decide +kernel
theorem dX8_checkPart_24 : decode cX8_checkPart 24 = .ok (.ldc 239, 2) := by decide +kernel
theorem dX8_checkPart_26 : decode cX8_checkPart 26 = .ok (.invokespecial 236, 3) := by decide +kernel
theorem dX8_checkPart_29 : decode cX8_checkPart 29 = .ok (.athrow, 1) := by decide +kernel
theorem dX8_checkPart_30 : decode cX8_checkPart 30 = .ok (.return_, 1) := by decide +kernel
set_option maxRecDepth 20000 in
theorem ggX8_checkRoom_X2_count : GoodIn wsX8_checkRoom wsX2_count := goodIn_r _ [8, 9, 16, 17] (by decide +kernel) (by decide +kernel)
set_option maxRecDepth 20000 in
theorem gX8_checkRoom_X2_count : GoodIn wsX8_checkRoom (wsV RX8 62 RX2 yX2_count wsX2_count) := goodIn_app (goodIn_of _ (by decide +kernel)) ggX8_checkRoom_X2_count
theorem dX8_checkRoom_0 : decode cX8_checkRoom 0 = .ok (.aload_n 0, 1) := by decide +kernel
theorem dX8_checkRoom_1 : decode cX8_checkRoom 1 = .ok (.getfield 10, 3) := by decide +kernel
theorem dX8_checkRoom_4 : decode cX8_checkRoom 4 = .ok (.invokevirtual 62, 3) := by decide +kernel
theorem dX8_checkRoom_7 : decode cX8_checkRoom 7 = .ok (.iload_n 1, 1) := by decide +kernel
theorem dX8_checkRoom_8 : decode cX8_checkRoom 8 = .ok (.iadd, 1) := by decide +kernel
theorem dX8_checkRoom_9 : decode cX8_checkRoom 9 = .ok (.bipush 64, 2) := by decide +kernel
theorem dX8_checkRoom_11 : decode cX8_checkRoom 11 = .ok (.if_icmp .le 13, 3) := by decide +kernel
theorem dX8_checkRoom_14 : decode cX8_checkRoom 14 = .ok (.new 89, 3) := by decide +kernel
theorem dX8_checkRoom_17 : decode cX8_checkRoom 17 = .ok (.dup, 1) := by decide +kernel
theorem dX8_checkRoom_18 : decode cX8_checkRoom 18 = .ok (.ldc 109, 2) := by decide +kernel
theorem dX8_checkRoom_20 : decode cX8_checkRoom 20 = .ok (.invokespecial 93, 3) := by decide +kernel
theorem dX8_checkRoom_23 : decode cX8_checkRoom 23 = .ok (.athrow, 1) := by decide +kernel
theorem dX8_checkRoom_24 : decode cX8_checkRoom 24 = .ok (.return_, 1) := by decide +kernel
set_option maxRecDepth 20000 in
theorem ggX8_findFactor_X1_find : GoodIn wsX8_findFactor wsX1_find := goodIn_r _ [7, 8, 9, 10, 11, 12, 13, 14, 15, 16, 17, 18, 19, 20, 6, 21, 22, 23, 24, 25, 26, 27, 28, 44, 45, 46, 47] (by decide +kernel) (by decide +kernel)
set_option maxRecDepth 20000 in
theorem gX8_findFactor_X1_find : GoodIn wsX8_findFactor (wsV RX8 148 RX1 yX1_find wsX1_find) := goodIn_app (goodIn_of _ (by decide +kernel)) ggX8_findFactor_X1_find
set_option maxRecDepth 20000 in
theorem ggX8_findFactor_X1_count : GoodIn wsX8_findFactor wsX1_count := goodIn_r _ [32, 8, 44, 45] (by decide +kernel) (by decide +kernel)
set_option maxRecDepth 20000 in
theorem gX8_findFactor_X1_count : GoodIn wsX8_findFactor (wsV RX8 152 RX1 yX1_count wsX1_count) := goodIn_app (goodIn_of _ (by decide +kernel)) ggX8_findFactor_X1_count
set_option maxRecDepth 20000 in
theorem ggX8_findFactor_X8_checkIndex : GoodIn wsX8_findFactor wsX8_checkIndex := goodIn_ca (goodIn_r _ [35, 36, 37] (by decide +kernel) (by decide +kernel)) (goodIn_sub (fun _ h => List.mem_cons_of_mem _ (List.mem_append_right _ h)) (by decide +kernel))
set_option maxRecDepth 20000 in
theorem gX8_findFactor_X8_checkIndex : GoodIn wsX8_findFactor (va_wsS RX8 66 yX8_checkIndex wsX8_checkIndex) := goodIn_app (goodIn_of _ (by decide +kernel)) ggX8_findFactor_X8_checkIndex
theorem dX8_findFactor_0 : decode cX8_findFactor 0 = .ok (.aload_n 0, 1) := by decide +kernel
theorem dX8_findFactor_1 : decode cX8_findFactor 1 = .ok (.getfield 19, 3) := by decide +kernel
theorem dX8_findFactor_4 : decode cX8_findFactor 4 = .ok (.aload_n 0, 1) := by decide +kernel
theorem dX8_findFactor_5 : decode cX8_findFactor 5 = .ok (.getfield 10, 3) := by decide +kernel
theorem dX8_findFactor_8 : decode cX8_findFactor 8 = .ok (.invokevirtual 148, 3) := by decide +kernel
theorem dX8_findFactor_11 : decode cX8_findFactor 11 = .ok (.iload_n 1, 1) := by decide +kernel
theorem dX8_findFactor_12 : decode cX8_findFactor 12 = .ok (.aload_n 0, 1) := by decide +kernel
theorem dX8_findFactor_13 : decode cX8_findFactor 13 = .ok (.getfield 19, 3) := by decide +kernel
theorem dX8_findFactor_16 : decode cX8_findFactor 16 = .ok (.invokevirtual 152, 3) := by decide +kernel
theorem dX8_findFactor_19 : decode cX8_findFactor 19 = .ok (.invokestatic 66, 3) := by decide +kernel
theorem dX8_findFactor_22 : decode cX8_findFactor 22 = .ok (.return_, 1) := by decide +kernel
set_option maxRecDepth 20000 in
theorem ggX8_findRun_X6_find : GoodIn wsX8_findRun wsX6_find := goodIn_r _ [7, 8, 9, 10, 11, 12, 13, 14, 15, 16, 17, 6, 18, 19, 20, 21, 22, 23, 24, 25, 26, 27, 28, 29, 30, 31, 32, 33, 34, 35, 36, 37, 38, 39, 40, 41, 42, 43, 44, 45, 46, 47, 63, 64, 65, 66, 67, 68] (by decide +kernel) (by decide +kernel)
set_option maxRecDepth 20000 in
theorem gX8_findRun_X6_find : GoodIn wsX8_findRun (wsV RX8 200 RX6 yX6_find wsX6_find) := goodIn_app (goodIn_of _ (by decide +kernel)) ggX8_findRun_X6_find
set_option maxRecDepth 20000 in
theorem ggX8_findRun_X6_count : GoodIn wsX8_findRun wsX6_count := goodIn_r _ [51, 8, 63, 64, 65, 66] (by decide +kernel) (by decide +kernel)
set_option maxRecDepth 20000 in
theorem gX8_findRun_X6_count : GoodIn wsX8_findRun (wsV RX8 201 RX6 yX6_count wsX6_count) := goodIn_app (goodIn_of _ (by decide +kernel)) ggX8_findRun_X6_count
set_option maxRecDepth 20000 in
theorem ggX8_findRun_X8_checkIndex : GoodIn wsX8_findRun wsX8_checkIndex := goodIn_ca (goodIn_r _ [54, 55, 56] (by decide +kernel) (by decide +kernel)) (goodIn_sub (fun _ h => List.mem_cons_of_mem _ (List.mem_append_right _ h)) (by decide +kernel))
set_option maxRecDepth 20000 in
theorem gX8_findRun_X8_checkIndex : GoodIn wsX8_findRun (va_wsS RX8 66 yX8_checkIndex wsX8_checkIndex) := goodIn_app (goodIn_of _ (by decide +kernel)) ggX8_findRun_X8_checkIndex
theorem dX8_findRun_0 : decode cX8_findRun 0 = .ok (.aload_n 0, 1) := by decide +kernel
theorem dX8_findRun_1 : decode cX8_findRun 1 = .ok (.getfield 33, 3) := by decide +kernel
theorem dX8_findRun_4 : decode cX8_findRun 4 = .ok (.aload_n 0, 1) := by decide +kernel
theorem dX8_findRun_5 : decode cX8_findRun 5 = .ok (.getfield 10, 3) := by decide +kernel
theorem dX8_findRun_8 : decode cX8_findRun 8 = .ok (.invokevirtual 200, 3) := by decide +kernel
theorem dX8_findRun_11 : decode cX8_findRun 11 = .ok (.iload_n 1, 1) := by decide +kernel
theorem dX8_findRun_12 : decode cX8_findRun 12 = .ok (.aload_n 0, 1) := by decide +kernel
theorem dX8_findRun_13 : decode cX8_findRun 13 = .ok (.getfield 33, 3) := by decide +kernel
theorem dX8_findRun_16 : decode cX8_findRun 16 = .ok (.invokevirtual 201, 3) := by decide +kernel
theorem dX8_findRun_19 : decode cX8_findRun 19 = .ok (.invokestatic 66, 3) := by decide +kernel
theorem dX8_findRun_22 : decode cX8_findRun 22 = .ok (.return_, 1) := by decide +kernel
set_option maxRecDepth 20000 in
theorem ggX8_pushFromWalk_X3_letter : GoodIn wsX8_pushFromWalk wsX3_letter := goodIn_r _ [7, 8, 9, 32, 33, 34, 35] (by decide +kernel) (by decide +kernel)
set_option maxRecDepth 20000 in
theorem gX8_pushFromWalk_X3_letter : GoodIn wsX8_pushFromWalk (wsV RX8 241 RX3 yX3_letter wsX3_letter) := goodIn_app (goodIn_of _ (by decide +kernel)) ggX8_pushFromWalk_X3_letter
set_option maxRecDepth 20000 in
theorem ggX8_pushFromWalk_X2_push : GoodIn wsX8_pushFromWalk wsX2_push := goodIn_r _ [14, 15, 16, 17, 18, 13, 19, 20, 21, 22, 23, 24, 25, 36, 37] (by decide +kernel) (by decide +kernel)
set_option maxRecDepth 20000 in
theorem gX8_pushFromWalk_X2_push : GoodIn wsX8_pushFromWalk (wsV RX8 59 RX2 yX2_push wsX2_push) := goodIn_app (goodIn_of _ (by decide +kernel)) ggX8_pushFromWalk_X2_push
theorem dX8_pushFromWalk_0 : decode cX8_pushFromWalk 0 = .ok (.iconst 0, 1) := by decide +kernel
theorem dX8_pushFromWalk_1 : decode cX8_pushFromWalk 1 = .ok (.istore_n 2, 1) := by decide +kernel
theorem dX8_pushFromWalk_2 : decode cX8_pushFromWalk 2 = .ok (.iload_n 2, 1) := by decide +kernel
theorem dX8_pushFromWalk_3 : decode cX8_pushFromWalk 3 = .ok (.iload_n 1, 1) := by decide +kernel
theorem dX8_pushFromWalk_4 : decode cX8_pushFromWalk 4 = .ok (.if_icmp .ge 24, 3) := by decide +kernel
theorem dX8_pushFromWalk_7 : decode cX8_pushFromWalk 7 = .ok (.aload_n 0, 1) := by decide +kernel
theorem dX8_pushFromWalk_8 : decode cX8_pushFromWalk 8 = .ok (.getfield 10, 3) := by decide +kernel
theorem dX8_pushFromWalk_11 : decode cX8_pushFromWalk 11 = .ok (.aload_n 0, 1) := by decide +kernel
theorem dX8_pushFromWalk_12 : decode cX8_pushFromWalk 12 = .ok (.getfield 47, 3) := by decide +kernel
theorem dX8_pushFromWalk_15 : decode cX8_pushFromWalk 15 = .ok (.iload_n 2, 1) := by decide +kernel
theorem dX8_pushFromWalk_16 : decode cX8_pushFromWalk 16 = .ok (.invokevirtual 241, 3) := by decide +kernel
theorem dX8_pushFromWalk_19 : decode cX8_pushFromWalk 19 = .ok (.invokevirtual 59, 3) := by decide +kernel
theorem dX8_pushFromWalk_22 : decode cX8_pushFromWalk 22 = .ok (.iinc 2 1, 3) := by decide +kernel
theorem dX8_pushFromWalk_25 : decode cX8_pushFromWalk 25 = .ok (.goto (-23), 3) := by decide +kernel
theorem dX8_pushFromWalk_28 : decode cX8_pushFromWalk 28 = .ok (.return_, 1) := by decide +kernel
theorem dX8_quotient_0 : decode cX8_quotient 0 = .ok (.iload_n 1, 1) := by decide +kernel
theorem dX8_quotient_1 : decode cX8_quotient 1 = .ok (.ifCond .le 11, 3) := by decide +kernel
theorem dX8_quotient_4 : decode cX8_quotient 4 = .ok (.iload_n 0, 1) := by decide +kernel
theorem dX8_quotient_5 : decode cX8_quotient 5 = .ok (.i2d, 1) := by decide +kernel
theorem dX8_quotient_6 : decode cX8_quotient 6 = .ok (.iload_n 1, 1) := by decide +kernel
theorem dX8_quotient_7 : decode cX8_quotient 7 = .ok (.i2d, 1) := by decide +kernel
theorem dX8_quotient_8 : decode cX8_quotient 8 = .ok (.ddiv, 1) := by decide +kernel
theorem dX8_quotient_9 : decode cX8_quotient 9 = .ok (.goto 4, 3) := by decide +kernel
theorem dX8_quotient_12 : decode cX8_quotient 12 = .ok (.dconst 0, 1) := by decide +kernel
theorem dX8_quotient_13 : decode cX8_quotient 13 = .ok (.dreturn, 1) := by decide +kernel
theorem dX8_at_0 : decode cX8_at 0 = .ok (.iload_n 1, 1) := by decide +kernel
theorem dX8_at_1 : decode cX8_at 1 = .ok (.ifCond .lt 15, 3) := by decide +kernel
theorem dX8_at_4 : decode cX8_at 4 = .ok (.iload_n 1, 1) := by decide +kernel
theorem dX8_at_5 : decode cX8_at 5 = .ok (.aload_n 0, 1) := by decide +kernel
theorem dX8_at_6 : decode cX8_at 6 = .ok (.arraylength, 1) := by decide +kernel
theorem dX8_at_7 : decode cX8_at 7 = .ok (.if_icmp .ge 9, 3) := by decide +kernel
theorem dX8_at_10 : decode cX8_at 10 = .ok (.aload_n 0, 1) := by decide +kernel
theorem dX8_at_11 : decode cX8_at 11 = .ok (.iload_n 1, 1) := by decide +kernel
theorem dX8_at_12 : decode cX8_at 12 = .ok (.iaload, 1) := by decide +kernel
theorem dX8_at_13 : decode cX8_at 13 = .ok (.goto 4, 3) := by decide +kernel
theorem dX8_at_16 : decode cX8_at 16 = .ok (.iconst 0, 1) := by decide +kernel
theorem dX8_at_17 : decode cX8_at 17 = .ok (.ireturn, 1) := by decide +kernel
theorem dX8_put_0 : decode cX8_put 0 = .ok (.iload_n 1, 1) := by decide +kernel
theorem dX8_put_1 : decode cX8_put 1 = .ok (.ifCond .lt 13, 3) := by decide +kernel
theorem dX8_put_4 : decode cX8_put 4 = .ok (.iload_n 1, 1) := by decide +kernel
theorem dX8_put_5 : decode cX8_put 5 = .ok (.aload_n 0, 1) := by decide +kernel
theorem dX8_put_6 : decode cX8_put 6 = .ok (.arraylength, 1) := by decide +kernel
theorem dX8_put_7 : decode cX8_put 7 = .ok (.if_icmp .ge 7, 3) := by decide +kernel
theorem dX8_put_10 : decode cX8_put 10 = .ok (.aload_n 0, 1) := by decide +kernel
theorem dX8_put_11 : decode cX8_put 11 = .ok (.iload_n 1, 1) := by decide +kernel
theorem dX8_put_12 : decode cX8_put 12 = .ok (.iload_n 2, 1) := by decide +kernel
theorem dX8_put_13 : decode cX8_put 13 = .ok (.iastore, 1) := by decide +kernel
theorem dX8_put_14 : decode cX8_put 14 = .ok (.return_, 1) := by decide +kernel
theorem dJ6_compare_7cf53_0 : decode cJ6_compare_7cf53 0 = .ok (.iload_n 0, 1) := by decide +kernel
theorem dJ6_compare_7cf53_1 : decode cJ6_compare_7cf53 1 = .ok (.iload_n 1, 1) := by decide +kernel
theorem dJ6_compare_7cf53_2 : decode cJ6_compare_7cf53 2 = .ok (.if_icmp .ge 7, 3) := by decide +kernel
theorem dJ6_compare_7cf53_5 : decode cJ6_compare_7cf53 5 = .ok (.iconst (-1), 1) := by decide +kernel
theorem dJ6_compare_7cf53_6 : decode cJ6_compare_7cf53 6 = .ok (.goto 13, 3) := by decide +kernel
theorem dJ6_compare_7cf53_9 : decode cJ6_compare_7cf53 9 = .ok (.iload_n 0, 1) := by decide +kernel
theorem dJ6_compare_7cf53_10 : decode cJ6_compare_7cf53 10 = .ok (.iload_n 1, 1) := by decide +kernel
theorem dJ6_compare_7cf53_11 : decode cJ6_compare_7cf53 11 = .ok (.if_icmp .ne 7, 3) := by decide +kernel
theorem dJ6_compare_7cf53_14 : decode cJ6_compare_7cf53 14 = .ok (.iconst 0, 1) := by decide +kernel
theorem dJ6_compare_7cf53_15 : decode cJ6_compare_7cf53 15 = .ok (.goto 4, 3) := by decide +kernel
theorem dJ6_compare_7cf53_18 : decode cJ6_compare_7cf53 18 = .ok (.iconst 1, 1) := by decide +kernel
theorem dJ6_compare_7cf53_19 : decode cJ6_compare_7cf53 19 = .ok (.ireturn, 1) := by decide +kernel
theorem dJ9_max_7cf53_0 : decode cJ9_max_7cf53 0 = .ok (.iload_n 0, 1) := by decide +kernel
theorem dJ9_max_7cf53_1 : decode cJ9_max_7cf53 1 = .ok (.iload_n 1, 1) := by decide +kernel
theorem dJ9_max_7cf53_2 : decode cJ9_max_7cf53 2 = .ok (.if_icmp .lt 7, 3) := by decide +kernel
theorem dJ9_max_7cf53_5 : decode cJ9_max_7cf53 5 = .ok (.iload_n 0, 1) := by decide +kernel
theorem dJ9_max_7cf53_6 : decode cJ9_max_7cf53 6 = .ok (.goto 4, 3) := by decide +kernel
theorem dJ9_max_7cf53_9 : decode cJ9_max_7cf53 9 = .ok (.iload_n 1, 1) := by decide +kernel
theorem dJ9_max_7cf53_10 : decode cJ9_max_7cf53 10 = .ok (.ireturn, 1) := by decide +kernel
theorem dJ9_min_7cf53_0 : decode cJ9_min_7cf53 0 = .ok (.iload_n 0, 1) := by decide +kernel
theorem dJ9_min_7cf53_1 : decode cJ9_min_7cf53 1 = .ok (.iload_n 1, 1) := by decide +kernel
theorem dJ9_min_7cf53_2 : decode cJ9_min_7cf53 2 = .ok (.if_icmp .gt 7, 3) := by decide +kernel
theorem dJ9_min_7cf53_5 : decode cJ9_min_7cf53 5 = .ok (.iload_n 0, 1) := by decide +kernel
theorem dJ9_min_7cf53_6 : decode cJ9_min_7cf53 6 = .ok (.goto 4, 3) := by decide +kernel
theorem dJ9_min_7cf53_9 : decode cJ9_min_7cf53 9 = .ok (.iload_n 1, 1) := by decide +kernel
theorem dJ9_min_7cf53_10 : decode cJ9_min_7cf53 10 = .ok (.ireturn, 1) := by decide +kernel
theorem dL_cell_0 : decode cL_cell 0 = .ok (.iload_n 1, 1) := by decide +kernel
theorem dL_cell_1 : decode cL_cell 1 = .ok (.aload_n 0, 1) := by decide +kernel
theorem dL_cell_2 : decode cL_cell 2 = .ok (.arraylength, 1) := by decide +kernel
theorem dL_cell_3 : decode cL_cell 3 = .ok (.if_icmp .ge 9, 3) := by decide +kernel
theorem dL_cell_6 : decode cL_cell 6 = .ok (.aload_n 0, 1) := by decide +kernel
theorem dL_cell_7 : decode cL_cell 7 = .ok (.iload_n 1, 1) := by decide +kernel
theorem dL_cell_8 : decode cL_cell 8 = .ok (.iaload, 1) := by decide +kernel
theorem dL_cell_9 : decode cL_cell 9 = .ok (.goto 17, 3) := by decide +kernel
theorem dL_cell_12 : decode cL_cell 12 = .ok (.sipush 7919, 3) := by decide +kernel
theorem dL_cell_15 : decode cL_cell 15 = .ok (.iload_n 1, 1) := by decide +kernel
theorem dL_cell_16 : decode cL_cell 16 = .ok (.bipush 17, 2) := by decide +kernel
theorem dL_cell_18 : decode cL_cell 18 = .ok (.iadd, 1) := by decide +kernel
theorem dL_cell_19 : decode cL_cell 19 = .ok (.imul, 1) := by decide +kernel
theorem dL_cell_20 : decode cL_cell 20 = .ok (.iload_n 1, 1) := by decide +kernel
theorem dL_cell_21 : decode cL_cell 21 = .ok (.sipush 2039, 3) := by decide +kernel
theorem dL_cell_24 : decode cL_cell 24 = .ok (.iadd, 1) := by decide +kernel
theorem dL_cell_25 : decode cL_cell 25 = .ok (.imul, 1) := by decide +kernel
theorem dL_cell_26 : decode cL_cell 26 = .ok (.ireturn, 1) := by decide +kernel
theorem dL_low_0 : decode cL_low 0 = .ok (.iload_n 0, 1) := by decide +kernel
theorem dL_low_1 : decode cL_low 1 = .ok (.ldc 7, 2) := by decide +kernel
theorem dL_low_3 : decode cL_low 3 = .ok (.iand, 1) := by decide +kernel
theorem dL_low_4 : decode cL_low 4 = .ok (.iload_n 1, 1) := by decide +kernel
theorem dL_low_5 : decode cL_low 5 = .ok (.irem, 1) := by decide +kernel
theorem dL_low_6 : decode cL_low 6 = .ok (.ireturn, 1) := by decide +kernel
set_option maxRecDepth 20000 in
theorem ggL_append_X8_append : GoodIn wsL_append wsX8_append := goodIn_ca (goodIn_ca (goodIn_r _ [8, 9, 10, 11, 7, 12, 13, 14, 15, 16, 17, 18, 19, 20, 21, 22, 23, 24, 25, 26, 27, 28, 29, 30, 31, 32, 33, 34, 35, 36, 37, 38, 39, 40, 41, 42, 43, 44, 45, 46, 47] (by decide +kernel) (by decide +kernel)) (goodIn_sub (fun _ h => List.mem_cons_of_mem _ (List.mem_append_left _ (List.mem_append_right _ h))) (by decide +kernel))) (goodIn_sub (fun _ h => List.mem_cons_of_mem _ (List.mem_append_right _ h)) (by decide +kernel))
set_option maxRecDepth 20000 in
theorem gL_append_X8_append : GoodIn wsL_append (wsV RL 8 RX8 yX8_append wsX8_append) := goodIn_app (goodIn_of _ (by decide +kernel)) ggL_append_X8_append
theorem dL_append_0 : decode cL_append 0 = .ok (.aload_n 0, 1) := by decide +kernel
theorem dL_append_1 : decode cL_append 1 = .ok (.iload_n 1, 1) := by decide +kernel
theorem dL_append_2 : decode cL_append 2 = .ok (.invokevirtual 8, 3) := by decide +kernel
theorem dL_append_5 : decode cL_append 5 = .ok (.ireturn, 1) := by decide +kernel
theorem dL_append_6 : decode cL_append 6 = .ok (.astore_n 2, 1) := by decide +kernel
theorem dL_append_7 : decode cL_append 7 = .ok (.ldc 16, 2) := by decide +kernel
theorem dL_append_9 : decode cL_append 9 = .ok (.ireturn, 1) := by decide +kernel
theorem dL_append_10 : decode cL_append 10 = .ok (.astore_n 2, 1) := by decide +kernel
theorem dL_append_11 : decode cL_append 11 = .ok (.ldc 16, 2) := by decide +kernel
theorem dL_append_13 : decode cL_append 13 = .ok (.ireturn, 1) := by decide +kernel
set_option maxRecDepth 20000 in
theorem ggL_insert_X8_insert : GoodIn wsL_insert wsX8_insert := goodIn_ca (goodIn_ca (goodIn_ca (goodIn_r _ [9, 10, 11, 12, 13, 14, 15, 16, 17, 18, 8, 19, 20, 21, 22, 23, 24, 25, 26, 27, 28, 29, 30, 31, 32, 33, 34, 35, 36, 37, 38, 39, 40, 41, 42, 43, 44, 45, 46, 47, 48, 49] (by decide +kernel) (by decide +kernel)) (goodIn_sub (fun _ h => List.mem_cons_of_mem _ (List.mem_append_left _ (List.mem_append_left _ (List.mem_append_right _ h)))) (by decide +kernel))) (goodIn_sub (fun _ h => List.mem_cons_of_mem _ (List.mem_append_left _ (List.mem_append_right _ h))) (by decide +kernel))) (goodIn_sub (fun _ h => List.mem_cons_of_mem _ (List.mem_append_right _ h)) (by decide +kernel))
set_option maxRecDepth 20000 in
theorem gL_insert_X8_insert : GoodIn wsL_insert (wsV RL 19 RX8 yX8_insert wsX8_insert) := goodIn_app (goodIn_of _ (by decide +kernel)) ggL_insert_X8_insert
theorem dL_insert_0 : decode cL_insert 0 = .ok (.aload_n 0, 1) := by decide +kernel
theorem dL_insert_1 : decode cL_insert 1 = .ok (.iload_n 1, 1) := by decide +kernel
theorem dL_insert_2 : decode cL_insert 2 = .ok (.iload_n 2, 1) := by decide +kernel
theorem dL_insert_3 : decode cL_insert 3 = .ok (.invokevirtual 19, 3) := by decide +kernel
theorem dL_insert_6 : decode cL_insert 6 = .ok (.ireturn, 1) := by decide +kernel
theorem dL_insert_7 : decode cL_insert 7 = .ok (.astore_n 3, 1) := by decide +kernel
theorem dL_insert_8 : decode cL_insert 8 = .ok (.ldc 16, 2) := by decide +kernel
theorem dL_insert_10 : decode cL_insert 10 = .ok (.ireturn, 1) := by decide +kernel
theorem dL_insert_11 : decode cL_insert 11 = .ok (.astore_n 3, 1) := by decide +kernel
theorem dL_insert_12 : decode cL_insert 12 = .ok (.ldc 16, 2) := by decide +kernel
theorem dL_insert_14 : decode cL_insert 14 = .ok (.ireturn, 1) := by decide +kernel
theorem dL_insert_15 : decode cL_insert 15 = .ok (.astore_n 3, 1) := by decide +kernel
theorem dL_insert_16 : decode cL_insert 16 = .ok (.ldc 16, 2) := by decide +kernel
theorem dL_insert_18 : decode cL_insert 18 = .ok (.ireturn, 1) := by decide +kernel
set_option maxRecDepth 20000 in
theorem ggL_set_X8_set : GoodIn wsL_set wsX8_set := goodIn_ca (goodIn_ca (goodIn_r _ [8, 9, 10, 11, 12, 13, 14, 15, 16, 17, 7, 18, 19, 20, 21, 22, 23, 24, 25, 26, 27, 28, 29, 30, 31, 32, 33, 34, 35, 36, 37, 38, 39, 40, 41, 42, 43, 44, 45, 46] (by decide +kernel) (by decide +kernel)) (goodIn_sub (fun _ h => List.mem_cons_of_mem _ (List.mem_append_left _ (List.mem_append_right _ h))) (by decide +kernel))) (goodIn_sub (fun _ h => List.mem_cons_of_mem _ (List.mem_append_right _ h)) (by decide +kernel))
set_option maxRecDepth 20000 in
theorem gL_set_X8_set : GoodIn wsL_set (wsV RL 25 RX8 yX8_set wsX8_set) := goodIn_app (goodIn_of _ (by decide +kernel)) ggL_set_X8_set
theorem dL_set_0 : decode cL_set 0 = .ok (.aload_n 0, 1) := by decide +kernel
theorem dL_set_1 : decode cL_set 1 = .ok (.iload_n 1, 1) := by decide +kernel
theorem dL_set_2 : decode cL_set 2 = .ok (.iload_n 2, 1) := by decide +kernel
theorem dL_set_3 : decode cL_set 3 = .ok (.invokevirtual 25, 3) := by decide +kernel
theorem dL_set_6 : decode cL_set 6 = .ok (.ireturn, 1) := by decide +kernel
theorem dL_set_7 : decode cL_set 7 = .ok (.astore_n 3, 1) := by decide +kernel
theorem dL_set_8 : decode cL_set 8 = .ok (.ldc 16, 2) := by decide +kernel
theorem dL_set_10 : decode cL_set 10 = .ok (.ireturn, 1) := by decide +kernel
theorem dL_set_11 : decode cL_set 11 = .ok (.astore_n 3, 1) := by decide +kernel
theorem dL_set_12 : decode cL_set 12 = .ok (.ldc 16, 2) := by decide +kernel
theorem dL_set_14 : decode cL_set 14 = .ok (.ireturn, 1) := by decide +kernel
set_option maxRecDepth 20000 in
theorem ggL_remove_X8_remove : GoodIn wsL_remove wsX8_remove := goodIn_ca (goodIn_r _ [7, 8, 9, 10, 11, 12, 13, 14, 15, 16, 6, 17, 18, 19, 20, 21, 22, 23, 24, 25, 26, 27, 28, 29, 30, 31, 32, 33, 34, 35, 36] (by decide +kernel) (by decide +kernel)) (goodIn_sub (fun _ h => List.mem_cons_of_mem _ (List.mem_append_right _ h)) (by decide +kernel))
set_option maxRecDepth 20000 in
theorem gL_remove_X8_remove : GoodIn wsL_remove (wsV RL 28 RX8 yX8_remove wsX8_remove) := goodIn_app (goodIn_of _ (by decide +kernel)) ggL_remove_X8_remove
theorem dL_remove_0 : decode cL_remove 0 = .ok (.aload_n 0, 1) := by decide +kernel
theorem dL_remove_1 : decode cL_remove 1 = .ok (.iload_n 1, 1) := by decide +kernel
theorem dL_remove_2 : decode cL_remove 2 = .ok (.invokevirtual 28, 3) := by decide +kernel
theorem dL_remove_5 : decode cL_remove 5 = .ok (.ireturn, 1) := by decide +kernel
theorem dL_remove_6 : decode cL_remove 6 = .ok (.astore_n 2, 1) := by decide +kernel
theorem dL_remove_7 : decode cL_remove 7 = .ok (.ldc 16, 2) := by decide +kernel
theorem dL_remove_9 : decode cL_remove 9 = .ok (.ireturn, 1) := by decide +kernel
set_option maxRecDepth 20000 in
theorem ggL_rotate_X8_rotate : GoodIn wsL_rotate wsX8_rotate := goodIn_ca (goodIn_ca (goodIn_r _ [8, 9, 10, 11, 12, 13, 7, 14, 15, 16, 17, 18, 19, 20, 21, 22, 23, 24, 25, 26, 27, 28, 29, 30, 31, 32, 33, 34, 35, 36, 37, 38, 39, 40, 41, 42, 43] (by decide +kernel) (by decide +kernel)) (goodIn_sub (fun _ h => List.mem_cons_of_mem _ (List.mem_append_left _ (List.mem_append_right _ h))) (by decide +kernel))) (goodIn_sub (fun _ h => List.mem_cons_of_mem _ (List.mem_append_right _ h)) (by decide +kernel))
set_option maxRecDepth 20000 in
theorem gL_rotate_X8_rotate : GoodIn wsL_rotate (wsV RL 31 RX8 yX8_rotate wsX8_rotate) := goodIn_app (goodIn_of _ (by decide +kernel)) ggL_rotate_X8_rotate
theorem dL_rotate_0 : decode cL_rotate 0 = .ok (.aload_n 0, 1) := by decide +kernel
theorem dL_rotate_1 : decode cL_rotate 1 = .ok (.iload_n 1, 1) := by decide +kernel
