theorem dX9_set_27 : decode cX9_set 27 = .ok (.iconst 0, 1) := by decide +kernel
theorem dX9_set_28 : decode cX9_set 28 = .ok (.invokevirtual 46, 3) := by decide +kernel
theorem dX9_set_31 : decode cX9_set 31 = .ok (.ifCond .ne 5, 3) := by decide +kernel
theorem dX9_set_34 : decode cX9_set 34 = .ok (.iconst 0, 1) := by decide +kernel
theorem dX9_set_35 : decode cX9_set 35 = .ok (.ireturn, 1) := by decide +kernel
theorem dX9_set_36 : decode cX9_set 36 = .ok (.aload_n 0, 1) := by decide +kernel
theorem dX9_set_37 : decode cX9_set 37 = .ok (.getfield 7, 3) := by decide +kernel
theorem dX9_set_40 : decode cX9_set 40 = .ok (.iload_n 1, 1) := by decide +kernel
theorem dX9_set_41 : decode cX9_set 41 = .ok (.iaload, 1) := by decide +kernel
theorem dX9_set_42 : decode cX9_set 42 = .ok (.istore_n 3, 1) := by decide +kernel
theorem dX9_set_43 : decode cX9_set 43 = .ok (.aload_n 0, 1) := by decide +kernel
theorem dX9_set_44 : decode cX9_set 44 = .ok (.getfield 7, 3) := by decide +kernel
theorem dX9_set_47 : decode cX9_set 47 = .ok (.iload_n 1, 1) := by decide +kernel
theorem dX9_set_48 : decode cX9_set 48 = .ok (.iload_n 2, 1) := by decide +kernel
theorem dX9_set_49 : decode cX9_set 49 = .ok (.iastore, 1) := by decide +kernel
theorem dX9_set_50 : decode cX9_set 50 = .ok (.iload_n 3, 1) := by decide +kernel
theorem dX9_set_51 : decode cX9_set 51 = .ok (.ireturn, 1) := by decide +kernel
set_option maxRecDepth 20000 in
theorem ggX9_remove_X9_isPlace : GoodIn wsX9_remove wsX9_isPlace := goodIn_r _ [7, 2, 8, 9, 6, 10, 16, 17, 18, 19, 20, 21, 22, 23, 24, 25, 26] (by decide +kernel) (by decide +kernel)
set_option maxRecDepth 20000 in
theorem gX9_remove_X9_isPlace : GoodIn wsX9_remove (wsV RX9 50 RX9 yX9_isPlace wsX9_isPlace) := goodIn_app (goodIn_of _ (by decide +kernel)) ggX9_remove_X9_isPlace
set_option maxRecDepth 20000 in
theorem ggX9_remove_X9_goesWell : GoodIn wsX9_remove wsX9_goesWell := goodIn_r _ [14, 15, 16, 17, 18, 19, 20, 21, 22, 23, 24, 25, 26] (by decide +kernel) (by decide +kernel)
set_option maxRecDepth 20000 in
theorem gX9_remove_X9_goesWell : GoodIn wsX9_remove (wsV RX9 46 RX9 yX9_goesWell wsX9_goesWell) := goodIn_app (goodIn_of _ (by decide +kernel)) ggX9_remove_X9_goesWell
theorem dX9_remove_0 : decode cX9_remove 0 = .ok (.aload_n 0, 1) := by decide +kernel
theorem dX9_remove_1 : decode cX9_remove 1 = .ok (.aload_n 0, 1) := by decide +kernel
theorem dX9_remove_2 : decode cX9_remove 2 = .ok (.iload_n 1, 1) := by decide +kernel
theorem dX9_remove_3 : decode cX9_remove 3 = .ok (.invokevirtual 50, 3) := by decide +kernel
theorem dX9_remove_6 : decode cX9_remove 6 = .ok (.ifCond .eq 7, 3) := by decide +kernel
theorem dX9_remove_9 : decode cX9_remove 9 = .ok (.iconst 0, 1) := by decide +kernel
theorem dX9_remove_10 : decode cX9_remove 10 = .ok (.goto 4, 3) := by decide +kernel
theorem dX9_remove_13 : decode cX9_remove 13 = .ok (.iconst 1, 1) := by decide +kernel
theorem dX9_remove_14 : decode cX9_remove 14 = .ok (.invokevirtual 46, 3) := by decide +kernel
theorem dX9_remove_17 : decode cX9_remove 17 = .ok (.ifCond .ne 5, 3) := by decide +kernel
theorem dX9_remove_20 : decode cX9_remove 20 = .ok (.iconst 0, 1) := by decide +kernel
theorem dX9_remove_21 : decode cX9_remove 21 = .ok (.ireturn, 1) := by decide +kernel
theorem dX9_remove_22 : decode cX9_remove 22 = .ok (.aload_n 0, 1) := by decide +kernel
theorem dX9_remove_23 : decode cX9_remove 23 = .ok (.getfield 7, 3) := by decide +kernel
theorem dX9_remove_26 : decode cX9_remove 26 = .ok (.iload_n 1, 1) := by decide +kernel
theorem dX9_remove_27 : decode cX9_remove 27 = .ok (.iaload, 1) := by decide +kernel
theorem dX9_remove_28 : decode cX9_remove 28 = .ok (.istore_n 2, 1) := by decide +kernel
theorem dX9_remove_29 : decode cX9_remove 29 = .ok (.aload_n 0, 1) := by decide +kernel
theorem dX9_remove_30 : decode cX9_remove 30 = .ok (.dup, 1) := by decide +kernel
theorem dX9_remove_31 : decode cX9_remove 31 = .ok (.getfield 39, 3) := by decide +kernel
theorem dX9_remove_34 : decode cX9_remove 34 = .ok (.iconst 1, 1) := by decide +kernel
theorem dX9_remove_35 : decode cX9_remove 35 = .ok (.isub, 1) := by decide +kernel
theorem dX9_remove_36 : decode cX9_remove 36 = .ok (.putfield 39, 3) := by decide +kernel
theorem dX9_remove_39 : decode cX9_remove 39 = .ok (.iload_n 1, 1) := by decide +kernel
theorem dX9_remove_40 : decode cX9_remove 40 = .ok (.istore_n 3, 1) := by decide +kernel
theorem dX9_remove_41 : decode cX9_remove 41 = .ok (.iload_n 3, 1) := by decide +kernel
theorem dX9_remove_42 : decode cX9_remove 42 = .ok (.aload_n 0, 1) := by decide +kernel
theorem dX9_remove_43 : decode cX9_remove 43 = .ok (.getfield 39, 3) := by decide +kernel
theorem dX9_remove_46 : decode cX9_remove 46 = .ok (.if_icmp .ge 23, 3) := by decide +kernel
theorem dX9_remove_49 : decode cX9_remove 49 = .ok (.aload_n 0, 1) := by decide +kernel
theorem dX9_remove_50 : decode cX9_remove 50 = .ok (.getfield 7, 3) := by decide +kernel
theorem dX9_remove_53 : decode cX9_remove 53 = .ok (.iload_n 3, 1) := by decide +kernel
theorem dX9_remove_54 : decode cX9_remove 54 = .ok (.aload_n 0, 1) := by decide +kernel
theorem dX9_remove_55 : decode cX9_remove 55 = .ok (.getfield 7, 3) := by decide +kernel
theorem dX9_remove_58 : decode cX9_remove 58 = .ok (.iload_n 3, 1) := by decide +kernel
theorem dX9_remove_59 : decode cX9_remove 59 = .ok (.iconst 1, 1) := by decide +kernel
theorem dX9_remove_60 : decode cX9_remove 60 = .ok (.iadd, 1) := by decide +kernel
theorem dX9_remove_61 : decode cX9_remove 61 = .ok (.iaload, 1) := by decide +kernel
theorem dX9_remove_62 : decode cX9_remove 62 = .ok (.iastore, 1) := by decide +kernel
theorem dX9_remove_63 : decode cX9_remove 63 = .ok (.iinc 3 1, 3) := by decide +kernel
theorem dX9_remove_66 : decode cX9_remove 66 = .ok (.goto (-25), 3) := by decide +kernel
theorem dX9_remove_69 : decode cX9_remove 69 = .ok (.iload_n 2, 1) := by decide +kernel
theorem dX9_remove_70 : decode cX9_remove 70 = .ok (.ireturn, 1) := by decide +kernel
theorem dX9_clear_0 : decode cX9_clear 0 = .ok (.aload_n 0, 1) := by decide +kernel
theorem dX9_clear_1 : decode cX9_clear 1 = .ok (.iconst 0, 1) := by decide +kernel
theorem dX9_clear_2 : decode cX9_clear 2 = .ok (.putfield 35, 3) := by decide +kernel
theorem dX9_clear_5 : decode cX9_clear 5 = .ok (.aload_n 0, 1) := by decide +kernel
theorem dX9_clear_6 : decode cX9_clear 6 = .ok (.getfield 39, 3) := by decide +kernel
theorem dX9_clear_9 : decode cX9_clear 9 = .ok (.istore_n 1, 1) := by decide +kernel
theorem dX9_clear_10 : decode cX9_clear 10 = .ok (.aload_n 0, 1) := by decide +kernel
theorem dX9_clear_11 : decode cX9_clear 11 = .ok (.iconst 0, 1) := by decide +kernel
theorem dX9_clear_12 : decode cX9_clear 12 = .ok (.putfield 39, 3) := by decide +kernel
theorem dX9_clear_15 : decode cX9_clear 15 = .ok (.iload_n 1, 1) := by decide +kernel
theorem dX9_clear_16 : decode cX9_clear 16 = .ok (.ireturn, 1) := by decide +kernel
theorem dX9_keep_0 : decode cX9_keep 0 = .ok (.iconst 0, 1) := by decide +kernel
theorem dX9_keep_1 : decode cX9_keep 1 = .ok (.istore_n 1, 1) := by decide +kernel
theorem dX9_keep_2 : decode cX9_keep 2 = .ok (.iload_n 1, 1) := by decide +kernel
theorem dX9_keep_3 : decode cX9_keep 3 = .ok (.aload_n 0, 1) := by decide +kernel
theorem dX9_keep_4 : decode cX9_keep 4 = .ok (.getfield 39, 3) := by decide +kernel
theorem dX9_keep_7 : decode cX9_keep 7 = .ok (.if_icmp .ge 21, 3) := by decide +kernel
theorem dX9_keep_10 : decode cX9_keep 10 = .ok (.aload_n 0, 1) := by decide +kernel
theorem dX9_keep_11 : decode cX9_keep 11 = .ok (.getfield 13, 3) := by decide +kernel
theorem dX9_keep_14 : decode cX9_keep 14 = .ok (.iload_n 1, 1) := by decide +kernel
theorem dX9_keep_15 : decode cX9_keep 15 = .ok (.aload_n 0, 1) := by decide +kernel
theorem dX9_keep_16 : decode cX9_keep 16 = .ok (.getfield 7, 3) := by decide +kernel
theorem dX9_keep_19 : decode cX9_keep 19 = .ok (.iload_n 1, 1) := by decide +kernel
theorem dX9_keep_20 : decode cX9_keep 20 = .ok (.iaload, 1) := by decide +kernel
theorem dX9_keep_21 : decode cX9_keep 21 = .ok (.iastore, 1) := by decide +kernel
theorem dX9_keep_22 : decode cX9_keep 22 = .ok (.iinc 1 1, 3) := by decide +kernel
theorem dX9_keep_25 : decode cX9_keep 25 = .ok (.goto (-23), 3) := by decide +kernel
theorem dX9_keep_28 : decode cX9_keep 28 = .ok (.return_, 1) := by decide +kernel
set_option maxRecDepth 20000 in
theorem ggX9_reverse_X9_keep : GoodIn wsX9_reverse wsX9_keep := goodIn_r _ [9, 2, 4, 3, 10, 11, 12, 13, 14, 15, 16, 17, 18, 19, 20] (by decide +kernel) (by decide +kernel)
set_option maxRecDepth 20000 in
theorem gX9_reverse_X9_keep : GoodIn wsX9_reverse (wsV RX9 53 RX9 yX9_keep wsX9_keep) := goodIn_app (goodIn_of _ (by decide +kernel)) ggX9_reverse_X9_keep
theorem dX9_reverse_0 : decode cX9_reverse 0 = .ok (.aload_n 0, 1) := by decide +kernel
theorem dX9_reverse_1 : decode cX9_reverse 1 = .ok (.iconst 0, 1) := by decide +kernel
theorem dX9_reverse_2 : decode cX9_reverse 2 = .ok (.putfield 35, 3) := by decide +kernel
theorem dX9_reverse_5 : decode cX9_reverse 5 = .ok (.aload_n 0, 1) := by decide +kernel
theorem dX9_reverse_6 : decode cX9_reverse 6 = .ok (.invokevirtual 53, 3) := by decide +kernel
theorem dX9_reverse_9 : decode cX9_reverse 9 = .ok (.iconst 0, 1) := by decide +kernel
theorem dX9_reverse_10 : decode cX9_reverse 10 = .ok (.istore_n 1, 1) := by decide +kernel
theorem dX9_reverse_11 : decode cX9_reverse 11 = .ok (.iload_n 1, 1) := by decide +kernel
theorem dX9_reverse_12 : decode cX9_reverse 12 = .ok (.aload_n 0, 1) := by decide +kernel
theorem dX9_reverse_13 : decode cX9_reverse 13 = .ok (.getfield 39, 3) := by decide +kernel
theorem dX9_reverse_16 : decode cX9_reverse 16 = .ok (.if_icmp .ge 28, 3) := by decide +kernel
theorem dX9_reverse_19 : decode cX9_reverse 19 = .ok (.aload_n 0, 1) := by decide +kernel
theorem dX9_reverse_20 : decode cX9_reverse 20 = .ok (.getfield 7, 3) := by decide +kernel
theorem dX9_reverse_23 : decode cX9_reverse 23 = .ok (.iload_n 1, 1) := by decide +kernel
theorem dX9_reverse_24 : decode cX9_reverse 24 = .ok (.aload_n 0, 1) := by decide +kernel
theorem dX9_reverse_25 : decode cX9_reverse 25 = .ok (.getfield 13, 3) := by decide +kernel
theorem dX9_reverse_28 : decode cX9_reverse 28 = .ok (.aload_n 0, 1) := by decide +kernel
theorem dX9_reverse_29 : decode cX9_reverse 29 = .ok (.getfield 39, 3) := by decide +kernel
theorem dX9_reverse_32 : decode cX9_reverse 32 = .ok (.iconst 1, 1) := by decide +kernel
theorem dX9_reverse_33 : decode cX9_reverse 33 = .ok (.isub, 1) := by decide +kernel
theorem dX9_reverse_34 : decode cX9_reverse 34 = .ok (.iload_n 1, 1) := by decide +kernel
theorem dX9_reverse_35 : decode cX9_reverse 35 = .ok (.isub, 1) := by decide +kernel
theorem dX9_reverse_36 : decode cX9_reverse 36 = .ok (.iaload, 1) := by decide +kernel
theorem dX9_reverse_37 : decode cX9_reverse 37 = .ok (.iastore, 1) := by decide +kernel
theorem dX9_reverse_38 : decode cX9_reverse 38 = .ok (.iinc 1 1, 3) := by decide +kernel
theorem dX9_reverse_41 : decode cX9_reverse 41 = .ok (.goto (-30), 3) := by decide +kernel
theorem dX9_reverse_44 : decode cX9_reverse 44 = .ok (.aload_n 0, 1) := by decide +kernel
theorem dX9_reverse_45 : decode cX9_reverse 45 = .ok (.getfield 39, 3) := by decide +kernel
theorem dX9_reverse_48 : decode cX9_reverse 48 = .ok (.ireturn, 1) := by decide +kernel
set_option maxRecDepth 20000 in
theorem ggX9_rotate_X9_in : GoodIn wsX9_rotate wsX9_in := goodIn_r _ [7] (by decide +kernel) (by decide +kernel)
set_option maxRecDepth 20000 in
theorem gX9_rotate_X9_in : GoodIn wsX9_rotate (va_wsS RX9 42 yX9_in wsX9_in) := goodIn_app (goodIn_of _ (by decide +kernel)) ggX9_rotate_X9_in
set_option maxRecDepth 20000 in
theorem ggX9_rotate_X9_goesWell : GoodIn wsX9_rotate wsX9_goesWell := goodIn_r _ [11, 12, 17, 18, 19, 20, 21, 22, 23, 24, 25, 26, 27] (by decide +kernel) (by decide +kernel)
set_option maxRecDepth 20000 in
theorem gX9_rotate_X9_goesWell : GoodIn wsX9_rotate (wsV RX9 46 RX9 yX9_goesWell wsX9_goesWell) := goodIn_app (goodIn_of _ (by decide +kernel)) ggX9_rotate_X9_goesWell
set_option maxRecDepth 20000 in
theorem ggX9_rotate_X9_keep : GoodIn wsX9_rotate wsX9_keep := goodIn_r _ [16, 1, 3, 2, 17, 18, 19, 20, 21, 22, 23, 24, 25, 26, 27] (by decide +kernel) (by decide +kernel)
set_option maxRecDepth 20000 in
theorem gX9_rotate_X9_keep : GoodIn wsX9_rotate (wsV RX9 53 RX9 yX9_keep wsX9_keep) := goodIn_app (goodIn_of _ (by decide +kernel)) ggX9_rotate_X9_keep
theorem dX9_rotate_0 : decode cX9_rotate 0 = .ok (.aload_n 0, 1) := by decide +kernel
theorem dX9_rotate_1 : decode cX9_rotate 1 = .ok (.iload_n 1, 1) := by decide +kernel
theorem dX9_rotate_2 : decode cX9_rotate 2 = .ok (.iconst 0, 1) := by decide +kernel
theorem dX9_rotate_3 : decode cX9_rotate 3 = .ok (.bipush 63, 2) := by decide +kernel
theorem dX9_rotate_5 : decode cX9_rotate 5 = .ok (.invokestatic 42, 3) := by decide +kernel
theorem dX9_rotate_8 : decode cX9_rotate 8 = .ok (.ifCond .ne 7, 3) := by decide +kernel
theorem dX9_rotate_11 : decode cX9_rotate 11 = .ok (.iconst 1, 1) := by decide +kernel
theorem dX9_rotate_12 : decode cX9_rotate 12 = .ok (.goto 15, 3) := by decide +kernel
theorem dX9_rotate_15 : decode cX9_rotate 15 = .ok (.aload_n 0, 1) := by decide +kernel
theorem dX9_rotate_16 : decode cX9_rotate 16 = .ok (.getfield 39, 3) := by decide +kernel
theorem dX9_rotate_19 : decode cX9_rotate 19 = .ok (.ifCond .ne 7, 3) := by decide +kernel
theorem dX9_rotate_22 : decode cX9_rotate 22 = .ok (.iconst 2, 1) := by decide +kernel
theorem dX9_rotate_23 : decode cX9_rotate 23 = .ok (.goto 4, 3) := by decide +kernel
theorem dX9_rotate_26 : decode cX9_rotate 26 = .ok (.iconst 0, 1) := by decide +kernel
theorem dX9_rotate_27 : decode cX9_rotate 27 = .ok (.invokevirtual 46, 3) := by decide +kernel
theorem dX9_rotate_30 : decode cX9_rotate 30 = .ok (.ifCond .ne 5, 3) := by decide +kernel
theorem dX9_rotate_33 : decode cX9_rotate 33 = .ok (.iconst 0, 1) := by decide +kernel
theorem dX9_rotate_34 : decode cX9_rotate 34 = .ok (.ireturn, 1) := by decide +kernel
theorem dX9_rotate_35 : decode cX9_rotate 35 = .ok (.aload_n 0, 1) := by decide +kernel
theorem dX9_rotate_36 : decode cX9_rotate 36 = .ok (.invokevirtual 53, 3) := by decide +kernel
theorem dX9_rotate_39 : decode cX9_rotate 39 = .ok (.iconst 0, 1) := by decide +kernel
theorem dX9_rotate_40 : decode cX9_rotate 40 = .ok (.istore_n 2, 1) := by decide +kernel
theorem dX9_rotate_41 : decode cX9_rotate 41 = .ok (.iload_n 2, 1) := by decide +kernel
theorem dX9_rotate_42 : decode cX9_rotate 42 = .ok (.aload_n 0, 1) := by decide +kernel
theorem dX9_rotate_43 : decode cX9_rotate 43 = .ok (.getfield 39, 3) := by decide +kernel
theorem dX9_rotate_46 : decode cX9_rotate 46 = .ok (.if_icmp .ge 28, 3) := by decide +kernel
theorem dX9_rotate_49 : decode cX9_rotate 49 = .ok (.aload_n 0, 1) := by decide +kernel
theorem dX9_rotate_50 : decode cX9_rotate 50 = .ok (.getfield 7, 3) := by decide +kernel
theorem dX9_rotate_53 : decode cX9_rotate 53 = .ok (.iload_n 2, 1) := by decide +kernel
theorem dX9_rotate_54 : decode cX9_rotate 54 = .ok (.aload_n 0, 1) := by decide +kernel
theorem dX9_rotate_55 : decode cX9_rotate 55 = .ok (.getfield 13, 3) := by decide +kernel
theorem dX9_rotate_58 : decode cX9_rotate 58 = .ok (.iload_n 2, 1) := by decide +kernel
theorem dX9_rotate_59 : decode cX9_rotate 59 = .ok (.iload_n 1, 1) := by decide +kernel
theorem dX9_rotate_60 : decode cX9_rotate 60 = .ok (.iadd, 1) := by decide +kernel
theorem dX9_rotate_61 : decode cX9_rotate 61 = .ok (.aload_n 0, 1) := by decide +kernel
theorem dX9_rotate_62 : decode cX9_rotate 62 = .ok (.getfield 39, 3) := by decide +kernel
theorem dX9_rotate_65 : decode cX9_rotate 65 = .ok (.irem, 1) := by decide +kernel
theorem dX9_rotate_66 : decode cX9_rotate 66 = .ok (.iaload, 1) := by decide +kernel
theorem dX9_rotate_67 : decode cX9_rotate 67 = .ok (.iastore, 1) := by decide +kernel
theorem dX9_rotate_68 : decode cX9_rotate 68 = .ok (.iinc 2 1, 3) := by decide +kernel
theorem dX9_rotate_71 : decode cX9_rotate 71 = .ok (.goto (-30), 3) := by decide +kernel
theorem dX9_rotate_74 : decode cX9_rotate 74 = .ok (.aload_n 0, 1) := by decide +kernel
theorem dX9_rotate_75 : decode cX9_rotate 75 = .ok (.getfield 7, 3) := by decide +kernel
theorem dX9_rotate_78 : decode cX9_rotate 78 = .ok (.iconst 0, 1) := by decide +kernel
theorem dX9_rotate_79 : decode cX9_rotate 79 = .ok (.iaload, 1) := by decide +kernel
theorem dX9_rotate_80 : decode cX9_rotate 80 = .ok (.ireturn, 1) := by decide +kernel
set_option maxRecDepth 20000 in
theorem ggX9_appendPart_X9_isPart : GoodIn wsX9_appendPart wsX9_isPart := goodIn_r _ [7, 1, 13, 14, 15, 16, 17, 18, 19, 20, 21, 22, 23] (by decide +kernel) (by decide +kernel)
set_option maxRecDepth 20000 in
theorem gX9_appendPart_X9_isPart : GoodIn wsX9_appendPart (wsV RX9 56 RX9 yX9_isPart wsX9_isPart) := goodIn_app (goodIn_of _ (by decide +kernel)) ggX9_appendPart_X9_isPart
set_option maxRecDepth 20000 in
theorem ggX9_appendPart_X9_goesWell : GoodIn wsX9_appendPart wsX9_goesWell := goodIn_r _ [11, 12, 13, 14, 15, 16, 17, 18, 19, 20, 21, 22, 23] (by decide +kernel) (by decide +kernel)
set_option maxRecDepth 20000 in
theorem gX9_appendPart_X9_goesWell : GoodIn wsX9_appendPart (wsV RX9 46 RX9 yX9_goesWell wsX9_goesWell) := goodIn_app (goodIn_of _ (by decide +kernel)) ggX9_appendPart_X9_goesWell
theorem dX9_appendPart_0 : decode cX9_appendPart 0 = .ok (.aload_n 0, 1) := by decide +kernel
theorem dX9_appendPart_1 : decode cX9_appendPart 1 = .ok (.aload_n 0, 1) := by decide +kernel
theorem dX9_appendPart_2 : decode cX9_appendPart 2 = .ok (.iload_n 1, 1) := by decide +kernel
theorem dX9_appendPart_3 : decode cX9_appendPart 3 = .ok (.iload_n 2, 1) := by decide +kernel
theorem dX9_appendPart_4 : decode cX9_appendPart 4 = .ok (.invokevirtual 56, 3) := by decide +kernel
theorem dX9_appendPart_7 : decode cX9_appendPart 7 = .ok (.ifCond .ne 7, 3) := by decide +kernel
theorem dX9_appendPart_10 : decode cX9_appendPart 10 = .ok (.iconst 1, 1) := by decide +kernel
theorem dX9_appendPart_11 : decode cX9_appendPart 11 = .ok (.goto 21, 3) := by decide +kernel
theorem dX9_appendPart_14 : decode cX9_appendPart 14 = .ok (.aload_n 0, 1) := by decide +kernel
theorem dX9_appendPart_15 : decode cX9_appendPart 15 = .ok (.getfield 39, 3) := by decide +kernel
theorem dX9_appendPart_18 : decode cX9_appendPart 18 = .ok (.iload_n 2, 1) := by decide +kernel
theorem dX9_appendPart_19 : decode cX9_appendPart 19 = .ok (.iadd, 1) := by decide +kernel
theorem dX9_appendPart_20 : decode cX9_appendPart 20 = .ok (.iload_n 1, 1) := by decide +kernel
theorem dX9_appendPart_21 : decode cX9_appendPart 21 = .ok (.isub, 1) := by decide +kernel
theorem dX9_appendPart_22 : decode cX9_appendPart 22 = .ok (.bipush 64, 2) := by decide +kernel
theorem dX9_appendPart_24 : decode cX9_appendPart 24 = .ok (.if_icmp .le 7, 3) := by decide +kernel
theorem dX9_appendPart_27 : decode cX9_appendPart 27 = .ok (.iconst 2, 1) := by decide +kernel
theorem dX9_appendPart_28 : decode cX9_appendPart 28 = .ok (.goto 4, 3) := by decide +kernel
theorem dX9_appendPart_31 : decode cX9_appendPart 31 = .ok (.iconst 0, 1) := by decide +kernel
theorem dX9_appendPart_32 : decode cX9_appendPart 32 = .ok (.invokevirtual 46, 3) := by decide +kernel
theorem dX9_appendPart_35 : decode cX9_appendPart 35 = .ok (.ifCond .ne 5, 3) := by decide +kernel
theorem dX9_appendPart_38 : decode cX9_appendPart 38 = .ok (.iconst 0, 1) := by decide +kernel
theorem dX9_appendPart_39 : decode cX9_appendPart 39 = .ok (.ireturn, 1) := by decide +kernel
theorem dX9_appendPart_40 : decode cX9_appendPart 40 = .ok (.iload_n 1, 1) := by decide +kernel
theorem dX9_appendPart_41 : decode cX9_appendPart 41 = .ok (.istore_n 3, 1) := by decide +kernel
theorem dX9_appendPart_42 : decode cX9_appendPart 42 = .ok (.iload_n 3, 1) := by decide +kernel
theorem dX9_appendPart_43 : decode cX9_appendPart 43 = .ok (.iload_n 2, 1) := by decide +kernel
theorem dX9_appendPart_44 : decode cX9_appendPart 44 = .ok (.if_icmp .ge 34, 3) := by decide +kernel
theorem dX9_appendPart_47 : decode cX9_appendPart 47 = .ok (.aload_n 0, 1) := by decide +kernel
theorem dX9_appendPart_48 : decode cX9_appendPart 48 = .ok (.getfield 7, 3) := by decide +kernel
theorem dX9_appendPart_51 : decode cX9_appendPart 51 = .ok (.aload_n 0, 1) := by decide +kernel
theorem dX9_appendPart_52 : decode cX9_appendPart 52 = .ok (.getfield 39, 3) := by decide +kernel
theorem dX9_appendPart_55 : decode cX9_appendPart 55 = .ok (.aload_n 0, 1) := by decide +kernel
theorem dX9_appendPart_56 : decode cX9_appendPart 56 = .ok (.getfield 7, 3) := by decide +kernel
theorem dX9_appendPart_59 : decode cX9_appendPart 59 = .ok (.iload_n 3, 1) := by decide +kernel
theorem dX9_appendPart_60 : decode cX9_appendPart 60 = .ok (.iaload, 1) := by decide +kernel
theorem dX9_appendPart_61 : decode cX9_appendPart 61 = .ok (.iastore, 1) := by decide +kernel
theorem dX9_appendPart_62 : decode cX9_appendPart 62 = .ok (.aload_n 0, 1) := by decide +kernel
theorem dX9_appendPart_63 : decode cX9_appendPart 63 = .ok (.dup, 1) := by decide +kernel
theorem dX9_appendPart_64 : decode cX9_appendPart 64 = .ok (.getfield 39, 3) := by decide +kernel
theorem dX9_appendPart_67 : decode cX9_appendPart 67 = .ok (.iconst 1, 1) := by decide +kernel
theorem dX9_appendPart_68 : decode cX9_appendPart 68 = .ok (.iadd, 1) := by decide +kernel
theorem dX9_appendPart_69 : decode cX9_appendPart 69 = .ok (.putfield 39, 3) := by decide +kernel
theorem dX9_appendPart_72 : decode cX9_appendPart 72 = .ok (.iinc 3 1, 3) := by decide +kernel
theorem dX9_appendPart_75 : decode cX9_appendPart 75 = .ok (.goto (-33), 3) := by decide +kernel
theorem dX9_appendPart_78 : decode cX9_appendPart 78 = .ok (.aload_n 0, 1) := by decide +kernel
theorem dX9_appendPart_79 : decode cX9_appendPart 79 = .ok (.getfield 39, 3) := by decide +kernel
theorem dX9_appendPart_82 : decode cX9_appendPart 82 = .ok (.ireturn, 1) := by decide +kernel
theorem dX9_power_0 : decode cX9_power 0 = .ok (.iconst 1, 1) := by decide +kernel
theorem dX9_power_1 : decode cX9_power 1 = .ok (.istore_n 2, 1) := by decide +kernel
theorem dX9_power_2 : decode cX9_power 2 = .ok (.iconst 0, 1) := by decide +kernel
theorem dX9_power_3 : decode cX9_power 3 = .ok (.istore_n 3, 1) := by decide +kernel
theorem dX9_power_4 : decode cX9_power 4 = .ok (.iload_n 3, 1) := by decide +kernel
theorem dX9_power_5 : decode cX9_power 5 = .ok (.iload_n 1, 1) := by decide +kernel
theorem dX9_power_6 : decode cX9_power 6 = .ok (.if_icmp .ge 13, 3) := by decide +kernel
theorem dX9_power_9 : decode cX9_power 9 = .ok (.iload_n 2, 1) := by decide +kernel
theorem dX9_power_10 : decode cX9_power 10 = .ok (.iload_n 0, 1) := by decide +kernel
theorem dX9_power_11 : decode cX9_power 11 = .ok (.imul, 1) := by decide +kernel
theorem dX9_power_12 : decode cX9_power 12 = .ok (.istore_n 2, 1) := by decide +kernel
theorem dX9_power_13 : decode cX9_power 13 = .ok (.iinc 3 1, 3) := by decide +kernel
theorem dX9_power_16 : decode cX9_power 16 = .ok (.goto (-12), 3) := by decide +kernel
theorem dX9_power_19 : decode cX9_power 19 = .ok (.iload_n 2, 1) := by decide +kernel
theorem dX9_power_20 : decode cX9_power 20 = .ok (.ireturn, 1) := by decide +kernel
theorem dX9_layWord_0 : decode cX9_layWord 0 = .ok (.iload_n 1, 1) := by decide +kernel
theorem dX9_layWord_1 : decode cX9_layWord 1 = .ok (.istore 4, 2) := by decide +kernel
theorem dX9_layWord_3 : decode cX9_layWord 3 = .ok (.iload_n 3, 1) := by decide +kernel
theorem dX9_layWord_4 : decode cX9_layWord 4 = .ok (.iconst 1, 1) := by decide +kernel
theorem dX9_layWord_5 : decode cX9_layWord 5 = .ok (.isub, 1) := by decide +kernel
theorem dX9_layWord_6 : decode cX9_layWord 6 = .ok (.istore 5, 2) := by decide +kernel
theorem dX9_layWord_8 : decode cX9_layWord 8 = .ok (.iload 5, 2) := by decide +kernel
theorem dX9_layWord_10 : decode cX9_layWord 10 = .ok (.ifCond .lt 26, 3) := by decide +kernel
theorem dX9_layWord_13 : decode cX9_layWord 13 = .ok (.aload_n 0, 1) := by decide +kernel
theorem dX9_layWord_14 : decode cX9_layWord 14 = .ok (.getfield 25, 3) := by decide +kernel
theorem dX9_layWord_17 : decode cX9_layWord 17 = .ok (.iload 5, 2) := by decide +kernel
theorem dX9_layWord_19 : decode cX9_layWord 19 = .ok (.iload 4, 2) := by decide +kernel
theorem dX9_layWord_21 : decode cX9_layWord 21 = .ok (.iload_n 2, 1) := by decide +kernel
theorem dX9_layWord_22 : decode cX9_layWord 22 = .ok (.irem, 1) := by decide +kernel
theorem dX9_layWord_23 : decode cX9_layWord 23 = .ok (.iastore, 1) := by decide +kernel
theorem dX9_layWord_24 : decode cX9_layWord 24 = .ok (.iload 4, 2) := by decide +kernel
theorem dX9_layWord_26 : decode cX9_layWord 26 = .ok (.iload_n 2, 1) := by decide +kernel
theorem dX9_layWord_27 : decode cX9_layWord 27 = .ok (.idiv, 1) := by decide +kernel
theorem dX9_layWord_28 : decode cX9_layWord 28 = .ok (.istore 4, 2) := by decide +kernel
theorem dX9_layWord_30 : decode cX9_layWord 30 = .ok (.iinc 5 (-1), 3) := by decide +kernel
theorem dX9_layWord_33 : decode cX9_layWord 33 = .ok (.goto (-25), 3) := by decide +kernel
theorem dX9_layWord_36 : decode cX9_layWord 36 = .ok (.return_, 1) := by decide +kernel
theorem dX9_isLyndonWord_0 : decode cX9_isLyndonWord 0 = .ok (.iconst 1, 1) := by decide +kernel
theorem dX9_isLyndonWord_1 : decode cX9_isLyndonWord 1 = .ok (.istore_n 2, 1) := by decide +kernel
theorem dX9_isLyndonWord_2 : decode cX9_isLyndonWord 2 = .ok (.iconst 1, 1) := by decide +kernel
theorem dX9_isLyndonWord_3 : decode cX9_isLyndonWord 3 = .ok (.istore_n 3, 1) := by decide +kernel
theorem dX9_isLyndonWord_4 : decode cX9_isLyndonWord 4 = .ok (.iload_n 3, 1) := by decide +kernel
theorem dX9_isLyndonWord_5 : decode cX9_isLyndonWord 5 = .ok (.iload_n 1, 1) := by decide +kernel
theorem dX9_isLyndonWord_6 : decode cX9_isLyndonWord 6 = .ok (.if_icmp .ge 82, 3) := by decide +kernel
theorem dX9_isLyndonWord_9 : decode cX9_isLyndonWord 9 = .ok (.iconst 0, 1) := by decide +kernel
theorem dX9_isLyndonWord_10 : decode cX9_isLyndonWord 10 = .ok (.istore 4, 2) := by decide +kernel
theorem dX9_isLyndonWord_12 : decode cX9_isLyndonWord 12 = .ok (.iload_n 3, 1) := by decide +kernel
theorem dX9_isLyndonWord_13 : decode cX9_isLyndonWord 13 = .ok (.iload 4, 2) := by decide +kernel
theorem dX9_isLyndonWord_15 : decode cX9_isLyndonWord 15 = .ok (.iadd, 1) := by decide +kernel
theorem dX9_isLyndonWord_16 : decode cX9_isLyndonWord 16 = .ok (.iload_n 1, 1) := by decide +kernel
theorem dX9_isLyndonWord_17 : decode cX9_isLyndonWord 17 = .ok (.if_icmp .ge 28, 3) := by decide +kernel
theorem dX9_isLyndonWord_20 : decode cX9_isLyndonWord 20 = .ok (.aload_n 0, 1) := by decide +kernel
theorem dX9_isLyndonWord_21 : decode cX9_isLyndonWord 21 = .ok (.getfield 25, 3) := by decide +kernel
theorem dX9_isLyndonWord_24 : decode cX9_isLyndonWord 24 = .ok (.iload 4, 2) := by decide +kernel
theorem dX9_isLyndonWord_26 : decode cX9_isLyndonWord 26 = .ok (.iaload, 1) := by decide +kernel
theorem dX9_isLyndonWord_27 : decode cX9_isLyndonWord 27 = .ok (.aload_n 0, 1) := by decide +kernel
theorem dX9_isLyndonWord_28 : decode cX9_isLyndonWord 28 = .ok (.getfield 25, 3) := by decide +kernel
theorem dX9_isLyndonWord_31 : decode cX9_isLyndonWord 31 = .ok (.iload_n 3, 1) := by decide +kernel
theorem dX9_isLyndonWord_32 : decode cX9_isLyndonWord 32 = .ok (.iload 4, 2) := by decide +kernel
theorem dX9_isLyndonWord_34 : decode cX9_isLyndonWord 34 = .ok (.iadd, 1) := by decide +kernel
theorem dX9_isLyndonWord_35 : decode cX9_isLyndonWord 35 = .ok (.iaload, 1) := by decide +kernel
theorem dX9_isLyndonWord_36 : decode cX9_isLyndonWord 36 = .ok (.if_icmp .ne 9, 3) := by decide +kernel
theorem dX9_isLyndonWord_39 : decode cX9_isLyndonWord 39 = .ok (.iinc 4 1, 3) := by decide +kernel
theorem dX9_isLyndonWord_42 : decode cX9_isLyndonWord 42 = .ok (.goto (-30), 3) := by decide +kernel
theorem dX9_isLyndonWord_45 : decode cX9_isLyndonWord 45 = .ok (.iload_n 2, 1) := by decide +kernel
theorem dX9_isLyndonWord_46 : decode cX9_isLyndonWord 46 = .ok (.ifCond .eq 34, 3) := by decide +kernel
theorem dX9_isLyndonWord_49 : decode cX9_isLyndonWord 49 = .ok (.iload_n 3, 1) := by decide +kernel
theorem dX9_isLyndonWord_50 : decode cX9_isLyndonWord 50 = .ok (.iload 4, 2) := by decide +kernel
theorem dX9_isLyndonWord_52 : decode cX9_isLyndonWord 52 = .ok (.iadd, 1) := by decide +kernel
theorem dX9_isLyndonWord_53 : decode cX9_isLyndonWord 53 = .ok (.iload_n 1, 1) := by decide +kernel
theorem dX9_isLyndonWord_54 : decode cX9_isLyndonWord 54 = .ok (.if_icmp .ge 26, 3) := by decide +kernel
theorem dX9_isLyndonWord_57 : decode cX9_isLyndonWord 57 = .ok (.aload_n 0, 1) := by decide +kernel
theorem dX9_isLyndonWord_58 : decode cX9_isLyndonWord 58 = .ok (.getfield 25, 3) := by decide +kernel
theorem dX9_isLyndonWord_61 : decode cX9_isLyndonWord 61 = .ok (.iload 4, 2) := by decide +kernel
theorem dX9_isLyndonWord_63 : decode cX9_isLyndonWord 63 = .ok (.iaload, 1) := by decide +kernel
theorem dX9_isLyndonWord_64 : decode cX9_isLyndonWord 64 = .ok (.aload_n 0, 1) := by decide +kernel
theorem dX9_isLyndonWord_65 : decode cX9_isLyndonWord 65 = .ok (.getfield 25, 3) := by decide +kernel
theorem dX9_isLyndonWord_68 : decode cX9_isLyndonWord 68 = .ok (.iload_n 3, 1) := by decide +kernel
theorem dX9_isLyndonWord_69 : decode cX9_isLyndonWord 69 = .ok (.iload 4, 2) := by decide +kernel
theorem dX9_isLyndonWord_71 : decode cX9_isLyndonWord 71 = .ok (.iadd, 1) := by decide +kernel
theorem dX9_isLyndonWord_72 : decode cX9_isLyndonWord 72 = .ok (.iaload, 1) := by decide +kernel
theorem dX9_isLyndonWord_73 : decode cX9_isLyndonWord 73 = .ok (.if_icmp .ge 7, 3) := by decide +kernel
theorem dX9_isLyndonWord_76 : decode cX9_isLyndonWord 76 = .ok (.iconst 1, 1) := by decide +kernel
theorem dX9_isLyndonWord_77 : decode cX9_isLyndonWord 77 = .ok (.goto 4, 3) := by decide +kernel
theorem dX9_isLyndonWord_80 : decode cX9_isLyndonWord 80 = .ok (.iconst 0, 1) := by decide +kernel
theorem dX9_isLyndonWord_81 : decode cX9_isLyndonWord 81 = .ok (.istore_n 2, 1) := by decide +kernel
theorem dX9_isLyndonWord_82 : decode cX9_isLyndonWord 82 = .ok (.iinc 3 1, 3) := by decide +kernel
theorem dX9_isLyndonWord_85 : decode cX9_isLyndonWord 85 = .ok (.goto (-81), 3) := by decide +kernel
theorem dX9_isLyndonWord_88 : decode cX9_isLyndonWord 88 = .ok (.iload_n 2, 1) := by decide +kernel
theorem dX9_isLyndonWord_89 : decode cX9_isLyndonWord 89 = .ok (.ireturn, 1) := by decide +kernel
theorem dX9_isNecklaceWord_0 : decode cX9_isNecklaceWord 0 = .ok (.iconst 1, 1) := by decide +kernel
theorem dX9_isNecklaceWord_1 : decode cX9_isNecklaceWord 1 = .ok (.istore_n 2, 1) := by decide +kernel
theorem dX9_isNecklaceWord_2 : decode cX9_isNecklaceWord 2 = .ok (.iconst 1, 1) := by decide +kernel
theorem dX9_isNecklaceWord_3 : decode cX9_isNecklaceWord 3 = .ok (.istore_n 3, 1) := by decide +kernel
theorem dX9_isNecklaceWord_4 : decode cX9_isNecklaceWord 4 = .ok (.iload_n 3, 1) := by decide +kernel
theorem dX9_isNecklaceWord_5 : decode cX9_isNecklaceWord 5 = .ok (.iload_n 1, 1) := by decide +kernel
theorem dX9_isNecklaceWord_6 : decode cX9_isNecklaceWord 6 = .ok (.if_icmp .ge 82, 3) := by decide +kernel
theorem dX9_isNecklaceWord_9 : decode cX9_isNecklaceWord 9 = .ok (.iconst 0, 1) := by decide +kernel
theorem dX9_isNecklaceWord_10 : decode cX9_isNecklaceWord 10 = .ok (.istore 4, 2) := by decide +kernel
theorem dX9_isNecklaceWord_12 : decode cX9_isNecklaceWord 12 = .ok (.iload 4, 2) := by decide +kernel
theorem dX9_isNecklaceWord_14 : decode cX9_isNecklaceWord 14 = .ok (.iload_n 1, 1) := by decide +kernel
theorem dX9_isNecklaceWord_15 : decode cX9_isNecklaceWord 15 = .ok (.if_icmp .ge 30, 3) := by decide +kernel
theorem dX9_isNecklaceWord_18 : decode cX9_isNecklaceWord 18 = .ok (.aload_n 0, 1) := by decide +kernel
theorem dX9_isNecklaceWord_19 : decode cX9_isNecklaceWord 19 = .ok (.getfield 25, 3) := by decide +kernel
theorem dX9_isNecklaceWord_22 : decode cX9_isNecklaceWord 22 = .ok (.iload 4, 2) := by decide +kernel
theorem dX9_isNecklaceWord_24 : decode cX9_isNecklaceWord 24 = .ok (.iaload, 1) := by decide +kernel
theorem dX9_isNecklaceWord_25 : decode cX9_isNecklaceWord 25 = .ok (.aload_n 0, 1) := by decide +kernel
theorem dX9_isNecklaceWord_26 : decode cX9_isNecklaceWord 26 = .ok (.getfield 25, 3) := by decide +kernel
theorem dX9_isNecklaceWord_29 : decode cX9_isNecklaceWord 29 = .ok (.iload 4, 2) := by decide +kernel
theorem dX9_isNecklaceWord_31 : decode cX9_isNecklaceWord 31 = .ok (.iload_n 3, 1) := by decide +kernel
theorem dX9_isNecklaceWord_32 : decode cX9_isNecklaceWord 32 = .ok (.iadd, 1) := by decide +kernel
theorem dX9_isNecklaceWord_33 : decode cX9_isNecklaceWord 33 = .ok (.iload_n 1, 1) := by decide +kernel
theorem dX9_isNecklaceWord_34 : decode cX9_isNecklaceWord 34 = .ok (.irem, 1) := by decide +kernel
theorem dX9_isNecklaceWord_35 : decode cX9_isNecklaceWord 35 = .ok (.iaload, 1) := by decide +kernel
theorem dX9_isNecklaceWord_36 : decode cX9_isNecklaceWord 36 = .ok (.if_icmp .ne 9, 3) := by decide +kernel
theorem dX9_isNecklaceWord_39 : decode cX9_isNecklaceWord 39 = .ok (.iinc 4 1, 3) := by decide +kernel
theorem dX9_isNecklaceWord_42 : decode cX9_isNecklaceWord 42 = .ok (.goto (-30), 3) := by decide +kernel
theorem dX9_isNecklaceWord_45 : decode cX9_isNecklaceWord 45 = .ok (.iload_n 2, 1) := by decide +kernel
theorem dX9_isNecklaceWord_46 : decode cX9_isNecklaceWord 46 = .ok (.ifCond .eq 34, 3) := by decide +kernel
theorem dX9_isNecklaceWord_49 : decode cX9_isNecklaceWord 49 = .ok (.iload 4, 2) := by decide +kernel
theorem dX9_isNecklaceWord_51 : decode cX9_isNecklaceWord 51 = .ok (.iload_n 1, 1) := by decide +kernel
theorem dX9_isNecklaceWord_52 : decode cX9_isNecklaceWord 52 = .ok (.if_icmp .eq 24, 3) := by decide +kernel
theorem dX9_isNecklaceWord_55 : decode cX9_isNecklaceWord 55 = .ok (.aload_n 0, 1) := by decide +kernel
theorem dX9_isNecklaceWord_56 : decode cX9_isNecklaceWord 56 = .ok (.getfield 25, 3) := by decide +kernel
theorem dX9_isNecklaceWord_59 : decode cX9_isNecklaceWord 59 = .ok (.iload 4, 2) := by decide +kernel
theorem dX9_isNecklaceWord_61 : decode cX9_isNecklaceWord 61 = .ok (.iaload, 1) := by decide +kernel
theorem dX9_isNecklaceWord_62 : decode cX9_isNecklaceWord 62 = .ok (.aload_n 0, 1) := by decide +kernel
theorem dX9_isNecklaceWord_63 : decode cX9_isNecklaceWord 63 = .ok (.getfield 25, 3) := by decide +kernel
theorem dX9_isNecklaceWord_66 : decode cX9_isNecklaceWord 66 = .ok (.iload 4, 2) := by decide +kernel
theorem dX9_isNecklaceWord_68 : decode cX9_isNecklaceWord 68 = .ok (.iload_n 3, 1) := by decide +kernel
theorem dX9_isNecklaceWord_69 : decode cX9_isNecklaceWord 69 = .ok (.iadd, 1) := by decide +kernel
theorem dX9_isNecklaceWord_70 : decode cX9_isNecklaceWord 70 = .ok (.iload_n 1, 1) := by decide +kernel
theorem dX9_isNecklaceWord_71 : decode cX9_isNecklaceWord 71 = .ok (.irem, 1) := by decide +kernel
theorem dX9_isNecklaceWord_72 : decode cX9_isNecklaceWord 72 = .ok (.iaload, 1) := by decide +kernel
theorem dX9_isNecklaceWord_73 : decode cX9_isNecklaceWord 73 = .ok (.if_icmp .ge 7, 3) := by decide +kernel
theorem dX9_isNecklaceWord_76 : decode cX9_isNecklaceWord 76 = .ok (.iconst 1, 1) := by decide +kernel
theorem dX9_isNecklaceWord_77 : decode cX9_isNecklaceWord 77 = .ok (.goto 4, 3) := by decide +kernel
theorem dX9_isNecklaceWord_80 : decode cX9_isNecklaceWord 80 = .ok (.iconst 0, 1) := by decide +kernel
theorem dX9_isNecklaceWord_81 : decode cX9_isNecklaceWord 81 = .ok (.istore_n 2, 1) := by decide +kernel
theorem dX9_isNecklaceWord_82 : decode cX9_isNecklaceWord 82 = .ok (.iinc 3 1, 3) := by decide +kernel
theorem dX9_isNecklaceWord_85 : decode cX9_isNecklaceWord 85 = .ok (.goto (-81), 3) := by decide +kernel
theorem dX9_isNecklaceWord_88 : decode cX9_isNecklaceWord 88 = .ok (.iload_n 2, 1) := by decide +kernel
theorem dX9_isNecklaceWord_89 : decode cX9_isNecklaceWord 89 = .ok (.ireturn, 1) := by decide +kernel
theorem dX9_compareWords_0 : decode cX9_compareWords 0 = .ok (.iconst 0, 1) := by decide +kernel
theorem dX9_compareWords_1 : decode cX9_compareWords 1 = .ok (.istore_n 3, 1) := by decide +kernel
theorem dX9_compareWords_2 : decode cX9_compareWords 2 = .ok (.iload_n 3, 1) := by decide +kernel
theorem dX9_compareWords_3 : decode cX9_compareWords 3 = .ok (.iload_n 1, 1) := by decide +kernel
theorem dX9_compareWords_4 : decode cX9_compareWords 4 = .ok (.if_icmp .ge 29, 3) := by decide +kernel
theorem dX9_compareWords_7 : decode cX9_compareWords 7 = .ok (.iload_n 3, 1) := by decide +kernel
theorem dX9_compareWords_8 : decode cX9_compareWords 8 = .ok (.iload_n 2, 1) := by decide +kernel
theorem dX9_compareWords_9 : decode cX9_compareWords 9 = .ok (.if_icmp .ge 24, 3) := by decide +kernel
theorem dX9_compareWords_12 : decode cX9_compareWords 12 = .ok (.aload_n 0, 1) := by decide +kernel
theorem dX9_compareWords_13 : decode cX9_compareWords 13 = .ok (.getfield 25, 3) := by decide +kernel
theorem dX9_compareWords_16 : decode cX9_compareWords 16 = .ok (.iload_n 3, 1) := by decide +kernel
theorem dX9_compareWords_17 : decode cX9_compareWords 17 = .ok (.iaload, 1) := by decide +kernel
theorem dX9_compareWords_18 : decode cX9_compareWords 18 = .ok (.aload_n 0, 1) := by decide +kernel
theorem dX9_compareWords_19 : decode cX9_compareWords 19 = .ok (.getfield 28, 3) := by decide +kernel
theorem dX9_compareWords_22 : decode cX9_compareWords 22 = .ok (.iload_n 3, 1) := by decide +kernel
theorem dX9_compareWords_23 : decode cX9_compareWords 23 = .ok (.iaload, 1) := by decide +kernel
theorem dX9_compareWords_24 : decode cX9_compareWords 24 = .ok (.if_icmp .ne 9, 3) := by decide +kernel
theorem dX9_compareWords_27 : decode cX9_compareWords 27 = .ok (.iinc 3 1, 3) := by decide +kernel
theorem dX9_compareWords_30 : decode cX9_compareWords 30 = .ok (.goto (-28), 3) := by decide +kernel
theorem dX9_compareWords_33 : decode cX9_compareWords 33 = .ok (.iload_n 3, 1) := by decide +kernel
theorem dX9_compareWords_34 : decode cX9_compareWords 34 = .ok (.iload_n 1, 1) := by decide +kernel
theorem dX9_compareWords_35 : decode cX9_compareWords 35 = .ok (.if_icmp .ge 24, 3) := by decide +kernel
theorem dX9_compareWords_38 : decode cX9_compareWords 38 = .ok (.iload_n 3, 1) := by decide +kernel
theorem dX9_compareWords_39 : decode cX9_compareWords 39 = .ok (.iload_n 2, 1) := by decide +kernel
theorem dX9_compareWords_40 : decode cX9_compareWords 40 = .ok (.if_icmp .ge 19, 3) := by decide +kernel
theorem dX9_compareWords_43 : decode cX9_compareWords 43 = .ok (.aload_n 0, 1) := by decide +kernel
theorem dX9_compareWords_44 : decode cX9_compareWords 44 = .ok (.getfield 25, 3) := by decide +kernel
theorem dX9_compareWords_47 : decode cX9_compareWords 47 = .ok (.iload_n 3, 1) := by decide +kernel
theorem dX9_compareWords_48 : decode cX9_compareWords 48 = .ok (.iaload, 1) := by decide +kernel
theorem dX9_compareWords_49 : decode cX9_compareWords 49 = .ok (.aload_n 0, 1) := by decide +kernel
theorem dX9_compareWords_50 : decode cX9_compareWords 50 = .ok (.getfield 28, 3) := by decide +kernel
theorem dX9_compareWords_53 : decode cX9_compareWords 53 = .ok (.iload_n 3, 1) := by decide +kernel
theorem dX9_compareWords_54 : decode cX9_compareWords 54 = .ok (.iaload, 1) := by decide +kernel
theorem dX9_compareWords_55 : decode cX9_compareWords 55 = .ok (.isub, 1) := by decide +kernel
theorem dX9_compareWords_56 : decode cX9_compareWords 56 = .ok (.goto 6, 3) := by decide +kernel
theorem dX9_compareWords_59 : decode cX9_compareWords 59 = .ok (.iload_n 1, 1) := by decide +kernel
theorem dX9_compareWords_60 : decode cX9_compareWords 60 = .ok (.iload_n 2, 1) := by decide +kernel
theorem dX9_compareWords_61 : decode cX9_compareWords 61 = .ok (.isub, 1) := by decide +kernel
theorem dX9_compareWords_62 : decode cX9_compareWords 62 = .ok (.ireturn, 1) := by decide +kernel
set_option maxRecDepth 20000 in
theorem ggX9_nextLyndon_X9_power : GoodIn wsX9_nextLyndon wsX9_power := goodIn_r _ [6] (by decide +kernel) (by decide +kernel)
set_option maxRecDepth 20000 in
theorem gX9_nextLyndon_X9_power : GoodIn wsX9_nextLyndon (va_wsS RX9 60 yX9_power wsX9_power) := goodIn_app (goodIn_of _ (by decide +kernel)) ggX9_nextLyndon_X9_power
set_option maxRecDepth 20000 in
theorem ggX9_nextLyndon_X9_layWord : GoodIn wsX9_nextLyndon wsX9_layWord := goodIn_r _ [10, 2, 22, 23, 24, 25, 26, 27, 28, 29, 30, 31, 32] (by decide +kernel) (by decide +kernel)
set_option maxRecDepth 20000 in
theorem gX9_nextLyndon_X9_layWord : GoodIn wsX9_nextLyndon (wsV RX9 64 RX9 yX9_layWord wsX9_layWord) := goodIn_app (goodIn_of _ (by decide +kernel)) ggX9_nextLyndon_X9_layWord
set_option maxRecDepth 20000 in
theorem ggX9_nextLyndon_X9_isLyndonWord : GoodIn wsX9_nextLyndon wsX9_isLyndonWord := goodIn_r _ [14, 2, 22, 23, 24, 25, 26, 27, 28, 29, 30, 31, 32] (by decide +kernel) (by decide +kernel)
set_option maxRecDepth 20000 in
theorem gX9_nextLyndon_X9_isLyndonWord : GoodIn wsX9_nextLyndon (wsV RX9 68 RX9 yX9_isLyndonWord wsX9_isLyndonWord) := goodIn_app (goodIn_of _ (by decide +kernel)) ggX9_nextLyndon_X9_isLyndonWord
set_option maxRecDepth 20000 in
theorem ggX9_nextLyndon_X9_compareWords : GoodIn wsX9_nextLyndon wsX9_compareWords := goodIn_r _ [18, 2, 1, 22, 23, 24, 25, 26, 27, 28, 29, 30, 31, 32] (by decide +kernel) (by decide +kernel)
set_option maxRecDepth 20000 in
theorem gX9_nextLyndon_X9_compareWords : GoodIn wsX9_nextLyndon (wsV RX9 71 RX9 yX9_compareWords wsX9_compareWords) := goodIn_app (goodIn_of _ (by decide +kernel)) ggX9_nextLyndon_X9_compareWords
set_option maxRecDepth 20000 in
theorem ggX9_nextLyndon_X9_isBelow : GoodIn wsX9_nextLyndon wsX9_isBelow := goodIn_r _ [21, 3, 4, 5, 6] (by decide +kernel) (by decide +kernel)
set_option maxRecDepth 20000 in
theorem gX9_nextLyndon_X9_isBelow : GoodIn wsX9_nextLyndon (va_wsS RX9 74 yX9_isBelow wsX9_isBelow) := goodIn_app (goodIn_of _ (by decide +kernel)) ggX9_nextLyndon_X9_isBelow
theorem dX9_nextLyndon_0 : decode cX9_nextLyndon 0 = .ok (.iconst 0, 1) := by decide +kernel
theorem dX9_nextLyndon_1 : decode cX9_nextLyndon 1 = .ok (.istore 4, 2) := by decide +kernel
theorem dX9_nextLyndon_3 : decode cX9_nextLyndon 3 = .ok (.iconst 0, 1) := by decide +kernel
theorem dX9_nextLyndon_4 : decode cX9_nextLyndon 4 = .ok (.istore 5, 2) := by decide +kernel
theorem dX9_nextLyndon_6 : decode cX9_nextLyndon 6 = .ok (.iconst 1, 1) := by decide +kernel
theorem dX9_nextLyndon_7 : decode cX9_nextLyndon 7 = .ok (.istore 6, 2) := by decide +kernel
theorem dX9_nextLyndon_9 : decode cX9_nextLyndon 9 = .ok (.iload 6, 2) := by decide +kernel
theorem dX9_nextLyndon_11 : decode cX9_nextLyndon 11 = .ok (.iload_n 2, 1) := by decide +kernel
theorem dX9_nextLyndon_12 : decode cX9_nextLyndon 12 = .ok (.if_icmp .gt 96, 3) := by decide +kernel
theorem dX9_nextLyndon_15 : decode cX9_nextLyndon 15 = .ok (.iconst 0, 1) := by decide +kernel
theorem dX9_nextLyndon_16 : decode cX9_nextLyndon 16 = .ok (.istore 7, 2) := by decide +kernel
theorem dX9_nextLyndon_18 : decode cX9_nextLyndon 18 = .ok (.iload_n 2, 1) := by decide +kernel
theorem dX9_nextLyndon_19 : decode cX9_nextLyndon 19 = .ok (.iload 6, 2) := by decide +kernel
theorem dX9_nextLyndon_21 : decode cX9_nextLyndon 21 = .ok (.irem, 1) := by decide +kernel
theorem dX9_nextLyndon_22 : decode cX9_nextLyndon 22 = .ok (.ifCond .ne 80, 3) := by decide +kernel
theorem dX9_nextLyndon_25 : decode cX9_nextLyndon 25 = .ok (.iload 7, 2) := by decide +kernel
theorem dX9_nextLyndon_27 : decode cX9_nextLyndon 27 = .ok (.iload_n 1, 1) := by decide +kernel
theorem dX9_nextLyndon_28 : decode cX9_nextLyndon 28 = .ok (.iload 6, 2) := by decide +kernel
theorem dX9_nextLyndon_30 : decode cX9_nextLyndon 30 = .ok (.invokestatic 60, 3) := by decide +kernel
theorem dX9_nextLyndon_33 : decode cX9_nextLyndon 33 = .ok (.if_icmp .ge 69, 3) := by decide +kernel
theorem dX9_nextLyndon_36 : decode cX9_nextLyndon 36 = .ok (.aload_n 0, 1) := by decide +kernel
theorem dX9_nextLyndon_37 : decode cX9_nextLyndon 37 = .ok (.iload 7, 2) := by decide +kernel
theorem dX9_nextLyndon_39 : decode cX9_nextLyndon 39 = .ok (.iload_n 1, 1) := by decide +kernel
theorem dX9_nextLyndon_40 : decode cX9_nextLyndon 40 = .ok (.iload 6, 2) := by decide +kernel
theorem dX9_nextLyndon_42 : decode cX9_nextLyndon 42 = .ok (.invokevirtual 64, 3) := by decide +kernel
theorem dX9_nextLyndon_45 : decode cX9_nextLyndon 45 = .ok (.aload_n 0, 1) := by decide +kernel
theorem dX9_nextLyndon_46 : decode cX9_nextLyndon 46 = .ok (.iload 6, 2) := by decide +kernel
theorem dX9_nextLyndon_48 : decode cX9_nextLyndon 48 = .ok (.invokevirtual 68, 3) := by decide +kernel
theorem dX9_nextLyndon_51 : decode cX9_nextLyndon 51 = .ok (.ifCond .eq 45, 3) := by decide +kernel
theorem dX9_nextLyndon_54 : decode cX9_nextLyndon 54 = .ok (.iload_n 3, 1) := by decide +kernel
theorem dX9_nextLyndon_55 : decode cX9_nextLyndon 55 = .ok (.ifCond .eq 13, 3) := by decide +kernel
theorem dX9_nextLyndon_58 : decode cX9_nextLyndon 58 = .ok (.aload_n 0, 1) := by decide +kernel
theorem dX9_nextLyndon_59 : decode cX9_nextLyndon 59 = .ok (.iload 6, 2) := by decide +kernel
theorem dX9_nextLyndon_61 : decode cX9_nextLyndon 61 = .ok (.iload_n 3, 1) := by decide +kernel
theorem dX9_nextLyndon_62 : decode cX9_nextLyndon 62 = .ok (.invokevirtual 71, 3) := by decide +kernel
theorem dX9_nextLyndon_65 : decode cX9_nextLyndon 65 = .ok (.ifCond .le 31, 3) := by decide +kernel
theorem dX9_nextLyndon_68 : decode cX9_nextLyndon 68 = .ok (.iload 4, 2) := by decide +kernel
theorem dX9_nextLyndon_70 : decode cX9_nextLyndon 70 = .ok (.ifCond .eq 18, 3) := by decide +kernel
theorem dX9_nextLyndon_73 : decode cX9_nextLyndon 73 = .ok (.iload 7, 2) := by decide +kernel
theorem dX9_nextLyndon_75 : decode cX9_nextLyndon 75 = .ok (.iload 6, 2) := by decide +kernel
theorem dX9_nextLyndon_77 : decode cX9_nextLyndon 77 = .ok (.iload 5, 2) := by decide +kernel
theorem dX9_nextLyndon_79 : decode cX9_nextLyndon 79 = .ok (.iload 4, 2) := by decide +kernel
theorem dX9_nextLyndon_81 : decode cX9_nextLyndon 81 = .ok (.iload_n 1, 1) := by decide +kernel
theorem dX9_nextLyndon_82 : decode cX9_nextLyndon 82 = .ok (.invokestatic 74, 3) := by decide +kernel
theorem dX9_nextLyndon_85 : decode cX9_nextLyndon 85 = .ok (.ifCond .eq 11, 3) := by decide +kernel
theorem dX9_nextLyndon_88 : decode cX9_nextLyndon 88 = .ok (.iload 6, 2) := by decide +kernel
theorem dX9_nextLyndon_90 : decode cX9_nextLyndon 90 = .ok (.istore 4, 2) := by decide +kernel
theorem dX9_nextLyndon_92 : decode cX9_nextLyndon 92 = .ok (.iload 7, 2) := by decide +kernel
theorem dX9_nextLyndon_94 : decode cX9_nextLyndon 94 = .ok (.istore 5, 2) := by decide +kernel
theorem dX9_nextLyndon_96 : decode cX9_nextLyndon 96 = .ok (.iinc 7 1, 3) := by decide +kernel
theorem dX9_nextLyndon_99 : decode cX9_nextLyndon 99 = .ok (.goto (-81), 3) := by decide +kernel
theorem dX9_nextLyndon_102 : decode cX9_nextLyndon 102 = .ok (.iinc 6 1, 3) := by decide +kernel
theorem dX9_nextLyndon_105 : decode cX9_nextLyndon 105 = .ok (.goto (-96), 3) := by decide +kernel
theorem dX9_nextLyndon_108 : decode cX9_nextLyndon 108 = .ok (.aload_n 0, 1) := by decide +kernel
theorem dX9_nextLyndon_109 : decode cX9_nextLyndon 109 = .ok (.iload 5, 2) := by decide +kernel
theorem dX9_nextLyndon_111 : decode cX9_nextLyndon 111 = .ok (.iload_n 1, 1) := by decide +kernel
theorem dX9_nextLyndon_112 : decode cX9_nextLyndon 112 = .ok (.iload 4, 2) := by decide +kernel
theorem dX9_nextLyndon_114 : decode cX9_nextLyndon 114 = .ok (.invokevirtual 64, 3) := by decide +kernel
theorem dX9_nextLyndon_117 : decode cX9_nextLyndon 117 = .ok (.iconst 0, 1) := by decide +kernel
theorem dX9_nextLyndon_118 : decode cX9_nextLyndon 118 = .ok (.istore 6, 2) := by decide +kernel
theorem dX9_nextLyndon_120 : decode cX9_nextLyndon 120 = .ok (.iload 6, 2) := by decide +kernel
theorem dX9_nextLyndon_122 : decode cX9_nextLyndon 122 = .ok (.iload 4, 2) := by decide +kernel
theorem dX9_nextLyndon_124 : decode cX9_nextLyndon 124 = .ok (.if_icmp .ge 23, 3) := by decide +kernel
theorem dX9_nextLyndon_127 : decode cX9_nextLyndon 127 = .ok (.aload_n 0, 1) := by decide +kernel
theorem dX9_nextLyndon_128 : decode cX9_nextLyndon 128 = .ok (.getfield 28, 3) := by decide +kernel
theorem dX9_nextLyndon_131 : decode cX9_nextLyndon 131 = .ok (.iload 6, 2) := by decide +kernel
theorem dX9_nextLyndon_133 : decode cX9_nextLyndon 133 = .ok (.aload_n 0, 1) := by decide +kernel
theorem dX9_nextLyndon_134 : decode cX9_nextLyndon 134 = .ok (.getfield 25, 3) := by decide +kernel
theorem dX9_nextLyndon_137 : decode cX9_nextLyndon 137 = .ok (.iload 6, 2) := by decide +kernel
theorem dX9_nextLyndon_139 : decode cX9_nextLyndon 139 = .ok (.iaload, 1) := by decide +kernel
theorem dX9_nextLyndon_140 : decode cX9_nextLyndon 140 = .ok (.iastore, 1) := by decide +kernel
theorem dX9_nextLyndon_141 : decode cX9_nextLyndon 141 = .ok (.iinc 6 1, 3) := by decide +kernel
theorem dX9_nextLyndon_144 : decode cX9_nextLyndon 144 = .ok (.goto (-24), 3) := by decide +kernel
theorem dX9_nextLyndon_147 : decode cX9_nextLyndon 147 = .ok (.iload 4, 2) := by decide +kernel
theorem dX9_nextLyndon_149 : decode cX9_nextLyndon 149 = .ok (.ireturn, 1) := by decide +kernel
set_option maxRecDepth 20000 in
theorem ggX9_isBelow_X9_power : GoodIn wsX9_isBelow wsX9_power := goodIn_r _ [4] (by decide +kernel) (by decide +kernel)
set_option maxRecDepth 20000 in
theorem gX9_isBelow_X9_power : GoodIn wsX9_isBelow (va_wsS RX9 60 yX9_power wsX9_power) := goodIn_app (goodIn_of _ (by decide +kernel)) ggX9_isBelow_X9_power
theorem dX9_isBelow_0 : decode cX9_isBelow 0 = .ok (.iload_n 1, 1) := by decide +kernel
theorem dX9_isBelow_1 : decode cX9_isBelow 1 = .ok (.iload_n 3, 1) := by decide +kernel
theorem dX9_isBelow_2 : decode cX9_isBelow 2 = .ok (.if_icmp .ge 7, 3) := by decide +kernel
theorem dX9_isBelow_5 : decode cX9_isBelow 5 = .ok (.iload_n 1, 1) := by decide +kernel
theorem dX9_isBelow_6 : decode cX9_isBelow 6 = .ok (.goto 4, 3) := by decide +kernel
theorem dX9_isBelow_9 : decode cX9_isBelow 9 = .ok (.iload_n 3, 1) := by decide +kernel
theorem dX9_isBelow_10 : decode cX9_isBelow 10 = .ok (.istore 5, 2) := by decide +kernel
theorem dX9_isBelow_12 : decode cX9_isBelow 12 = .ok (.iload_n 0, 1) := by decide +kernel
theorem dX9_isBelow_13 : decode cX9_isBelow 13 = .ok (.iload 4, 2) := by decide +kernel
theorem dX9_isBelow_15 : decode cX9_isBelow 15 = .ok (.iload_n 1, 1) := by decide +kernel
theorem dX9_isBelow_16 : decode cX9_isBelow 16 = .ok (.iload 5, 2) := by decide +kernel
theorem dX9_isBelow_18 : decode cX9_isBelow 18 = .ok (.isub, 1) := by decide +kernel
theorem dX9_isBelow_19 : decode cX9_isBelow 19 = .ok (.invokestatic 60, 3) := by decide +kernel
theorem dX9_isBelow_22 : decode cX9_isBelow 22 = .ok (.idiv, 1) := by decide +kernel
theorem dX9_isBelow_23 : decode cX9_isBelow 23 = .ok (.istore 6, 2) := by decide +kernel
theorem dX9_isBelow_25 : decode cX9_isBelow 25 = .ok (.iload_n 2, 1) := by decide +kernel
theorem dX9_isBelow_26 : decode cX9_isBelow 26 = .ok (.iload 4, 2) := by decide +kernel
theorem dX9_isBelow_28 : decode cX9_isBelow 28 = .ok (.iload_n 3, 1) := by decide +kernel
theorem dX9_isBelow_29 : decode cX9_isBelow 29 = .ok (.iload 5, 2) := by decide +kernel
theorem dX9_isBelow_31 : decode cX9_isBelow 31 = .ok (.isub, 1) := by decide +kernel
theorem dX9_isBelow_32 : decode cX9_isBelow 32 = .ok (.invokestatic 60, 3) := by decide +kernel
theorem dX9_isBelow_35 : decode cX9_isBelow 35 = .ok (.idiv, 1) := by decide +kernel
theorem dX9_isBelow_36 : decode cX9_isBelow 36 = .ok (.istore 7, 2) := by decide +kernel
theorem dX9_isBelow_38 : decode cX9_isBelow 38 = .ok (.iload 6, 2) := by decide +kernel
theorem dX9_isBelow_40 : decode cX9_isBelow 40 = .ok (.iload 7, 2) := by decide +kernel
theorem dX9_isBelow_42 : decode cX9_isBelow 42 = .ok (.if_icmp .lt 15, 3) := by decide +kernel
theorem dX9_isBelow_45 : decode cX9_isBelow 45 = .ok (.iload 6, 2) := by decide +kernel
theorem dX9_isBelow_47 : decode cX9_isBelow 47 = .ok (.iload 7, 2) := by decide +kernel
theorem dX9_isBelow_49 : decode cX9_isBelow 49 = .ok (.if_icmp .ne 12, 3) := by decide +kernel
theorem dX9_isBelow_52 : decode cX9_isBelow 52 = .ok (.iload_n 1, 1) := by decide +kernel
theorem dX9_isBelow_53 : decode cX9_isBelow 53 = .ok (.iload_n 3, 1) := by decide +kernel
theorem dX9_isBelow_54 : decode cX9_isBelow 54 = .ok (.if_icmp .ge 7, 3) := by decide +kernel
theorem dX9_isBelow_57 : decode cX9_isBelow 57 = .ok (.iconst 1, 1) := by decide +kernel
theorem dX9_isBelow_58 : decode cX9_isBelow 58 = .ok (.goto 4, 3) := by decide +kernel
theorem dX9_isBelow_61 : decode cX9_isBelow 61 = .ok (.iconst 0, 1) := by decide +kernel
theorem dX9_isBelow_62 : decode cX9_isBelow 62 = .ok (.ireturn, 1) := by decide +kernel
set_option maxRecDepth 20000 in
theorem ggX9_isDeBruijn_X9_in : GoodIn wsX9_isDeBruijn wsX9_in := goodIn_r _ [4] (by decide +kernel) (by decide +kernel)
set_option maxRecDepth 20000 in
theorem gX9_isDeBruijn_X9_in : GoodIn wsX9_isDeBruijn (va_wsS RX9 42 yX9_in wsX9_in) := goodIn_app (goodIn_of _ (by decide +kernel)) ggX9_isDeBruijn_X9_in
theorem dX9_isDeBruijn_0 : decode cX9_isDeBruijn 0 = .ok (.iconst 1, 1) := by decide +kernel
theorem dX9_isDeBruijn_1 : decode cX9_isDeBruijn 1 = .ok (.istore_n 2, 1) := by decide +kernel
theorem dX9_isDeBruijn_2 : decode cX9_isDeBruijn 2 = .ok (.iconst 0, 1) := by decide +kernel
theorem dX9_isDeBruijn_3 : decode cX9_isDeBruijn 3 = .ok (.istore_n 3, 1) := by decide +kernel
theorem dX9_isDeBruijn_4 : decode cX9_isDeBruijn 4 = .ok (.iload_n 3, 1) := by decide +kernel
theorem dX9_isDeBruijn_5 : decode cX9_isDeBruijn 5 = .ok (.iload_n 1, 1) := by decide +kernel
theorem dX9_isDeBruijn_6 : decode cX9_isDeBruijn 6 = .ok (.if_icmp .ge 29, 3) := by decide +kernel
theorem dX9_isDeBruijn_9 : decode cX9_isDeBruijn 9 = .ok (.iload_n 0, 1) := by decide +kernel
theorem dX9_isDeBruijn_10 : decode cX9_isDeBruijn 10 = .ok (.iconst 1, 1) := by decide +kernel
theorem dX9_isDeBruijn_11 : decode cX9_isDeBruijn 11 = .ok (.bipush 8, 2) := by decide +kernel
theorem dX9_isDeBruijn_13 : decode cX9_isDeBruijn 13 = .ok (.invokestatic 42, 3) := by decide +kernel
theorem dX9_isDeBruijn_16 : decode cX9_isDeBruijn 16 = .ok (.ifCond .eq 19, 3) := by decide +kernel
theorem dX9_isDeBruijn_19 : decode cX9_isDeBruijn 19 = .ok (.iload_n 1, 1) := by decide +kernel
theorem dX9_isDeBruijn_20 : decode cX9_isDeBruijn 20 = .ok (.bipush 6, 2) := by decide +kernel
theorem dX9_isDeBruijn_22 : decode cX9_isDeBruijn 22 = .ok (.if_icmp .gt 13, 3) := by decide +kernel
theorem dX9_isDeBruijn_25 : decode cX9_isDeBruijn 25 = .ok (.iload_n 2, 1) := by decide +kernel
theorem dX9_isDeBruijn_26 : decode cX9_isDeBruijn 26 = .ok (.iload_n 0, 1) := by decide +kernel
theorem dX9_isDeBruijn_27 : decode cX9_isDeBruijn 27 = .ok (.imul, 1) := by decide +kernel
theorem dX9_isDeBruijn_28 : decode cX9_isDeBruijn 28 = .ok (.istore_n 2, 1) := by decide +kernel
theorem dX9_isDeBruijn_29 : decode cX9_isDeBruijn 29 = .ok (.iinc 3 1, 3) := by decide +kernel
theorem dX9_isDeBruijn_32 : decode cX9_isDeBruijn 32 = .ok (.goto (-28), 3) := by decide +kernel
theorem dX9_isDeBruijn_35 : decode cX9_isDeBruijn 35 = .ok (.iload_n 0, 1) := by decide +kernel
theorem dX9_isDeBruijn_36 : decode cX9_isDeBruijn 36 = .ok (.iconst 1, 1) := by decide +kernel
theorem dX9_isDeBruijn_37 : decode cX9_isDeBruijn 37 = .ok (.bipush 8, 2) := by decide +kernel
theorem dX9_isDeBruijn_39 : decode cX9_isDeBruijn 39 = .ok (.invokestatic 42, 3) := by decide +kernel
theorem dX9_isDeBruijn_42 : decode cX9_isDeBruijn 42 = .ok (.ifCond .eq 23, 3) := by decide +kernel
theorem dX9_isDeBruijn_45 : decode cX9_isDeBruijn 45 = .ok (.iload_n 1, 1) := by decide +kernel
theorem dX9_isDeBruijn_46 : decode cX9_isDeBruijn 46 = .ok (.iconst 1, 1) := by decide +kernel
theorem dX9_isDeBruijn_47 : decode cX9_isDeBruijn 47 = .ok (.bipush 6, 2) := by decide +kernel
theorem dX9_isDeBruijn_49 : decode cX9_isDeBruijn 49 = .ok (.invokestatic 42, 3) := by decide +kernel
theorem dX9_isDeBruijn_52 : decode cX9_isDeBruijn 52 = .ok (.ifCond .eq 13, 3) := by decide +kernel
theorem dX9_isDeBruijn_55 : decode cX9_isDeBruijn 55 = .ok (.iload_n 2, 1) := by decide +kernel
theorem dX9_isDeBruijn_56 : decode cX9_isDeBruijn 56 = .ok (.bipush 64, 2) := by decide +kernel
theorem dX9_isDeBruijn_58 : decode cX9_isDeBruijn 58 = .ok (.if_icmp .gt 7, 3) := by decide +kernel
theorem dX9_isDeBruijn_61 : decode cX9_isDeBruijn 61 = .ok (.iconst 1, 1) := by decide +kernel
theorem dX9_isDeBruijn_62 : decode cX9_isDeBruijn 62 = .ok (.goto 4, 3) := by decide +kernel
theorem dX9_isDeBruijn_65 : decode cX9_isDeBruijn 65 = .ok (.iconst 0, 1) := by decide +kernel
theorem dX9_isDeBruijn_66 : decode cX9_isDeBruijn 66 = .ok (.ireturn, 1) := by decide +kernel
set_option maxRecDepth 20000 in
theorem ggX9_loadDeBruijn_X9_isDeBruijn : GoodIn wsX9_loadDeBruijn wsX9_isDeBruijn := goodIn_r _ [7, 8, 9, 6, 10] (by decide +kernel) (by decide +kernel)
set_option maxRecDepth 20000 in
theorem gX9_loadDeBruijn_X9_isDeBruijn : GoodIn wsX9_loadDeBruijn (va_wsS RX9 78 yX9_isDeBruijn wsX9_isDeBruijn) := goodIn_app (goodIn_of _ (by decide +kernel)) ggX9_loadDeBruijn_X9_isDeBruijn
set_option maxRecDepth 20000 in
theorem ggX9_loadDeBruijn_X9_goesWell : GoodIn wsX9_loadDeBruijn wsX9_goesWell := goodIn_r _ [14, 15, 39, 40, 41, 42, 43, 44, 45, 46, 47, 48, 49] (by decide +kernel) (by decide +kernel)
set_option maxRecDepth 20000 in
theorem gX9_loadDeBruijn_X9_goesWell : GoodIn wsX9_loadDeBruijn (wsV RX9 46 RX9 yX9_goesWell wsX9_goesWell) := goodIn_app (goodIn_of _ (by decide +kernel)) ggX9_loadDeBruijn_X9_goesWell
set_option maxRecDepth 20000 in
theorem ggX9_loadDeBruijn_X9_nextLyndon : GoodIn wsX9_loadDeBruijn wsX9_nextLyndon := goodIn_r _ [19, 3, 20, 21, 22, 6, 23, 24, 25, 26, 27, 28, 29, 30, 31, 32, 33, 34, 35, 36, 37, 38, 39, 40, 41, 42, 43, 44, 45, 46, 47, 48, 49] (by decide +kernel) (by decide +kernel)
set_option maxRecDepth 20000 in
theorem gX9_loadDeBruijn_X9_nextLyndon : GoodIn wsX9_loadDeBruijn (wsV RX9 81 RX9 yX9_nextLyndon wsX9_nextLyndon) := goodIn_app (goodIn_of _ (by decide +kernel)) ggX9_loadDeBruijn_X9_nextLyndon
theorem dX9_loadDeBruijn_0 : decode cX9_loadDeBruijn 0 = .ok (.aload_n 0, 1) := by decide +kernel
theorem dX9_loadDeBruijn_1 : decode cX9_loadDeBruijn 1 = .ok (.iload_n 1, 1) := by decide +kernel
theorem dX9_loadDeBruijn_2 : decode cX9_loadDeBruijn 2 = .ok (.iload_n 2, 1) := by decide +kernel
theorem dX9_loadDeBruijn_3 : decode cX9_loadDeBruijn 3 = .ok (.invokestatic 78, 3) := by decide +kernel
theorem dX9_loadDeBruijn_6 : decode cX9_loadDeBruijn 6 = .ok (.ifCond .eq 7, 3) := by decide +kernel
theorem dX9_loadDeBruijn_9 : decode cX9_loadDeBruijn 9 = .ok (.iconst 0, 1) := by decide +kernel
theorem dX9_loadDeBruijn_10 : decode cX9_loadDeBruijn 10 = .ok (.goto 4, 3) := by decide +kernel
theorem dX9_loadDeBruijn_13 : decode cX9_loadDeBruijn 13 = .ok (.iconst 1, 1) := by decide +kernel
theorem dX9_loadDeBruijn_14 : decode cX9_loadDeBruijn 14 = .ok (.invokevirtual 46, 3) := by decide +kernel
theorem dX9_loadDeBruijn_17 : decode cX9_loadDeBruijn 17 = .ok (.ifCond .ne 5, 3) := by decide +kernel
theorem dX9_loadDeBruijn_20 : decode cX9_loadDeBruijn 20 = .ok (.iconst 0, 1) := by decide +kernel
theorem dX9_loadDeBruijn_21 : decode cX9_loadDeBruijn 21 = .ok (.ireturn, 1) := by decide +kernel
theorem dX9_loadDeBruijn_22 : decode cX9_loadDeBruijn 22 = .ok (.aload_n 0, 1) := by decide +kernel
theorem dX9_loadDeBruijn_23 : decode cX9_loadDeBruijn 23 = .ok (.iconst 0, 1) := by decide +kernel
theorem dX9_loadDeBruijn_24 : decode cX9_loadDeBruijn 24 = .ok (.putfield 39, 3) := by decide +kernel
theorem dX9_loadDeBruijn_27 : decode cX9_loadDeBruijn 27 = .ok (.aload_n 0, 1) := by decide +kernel
theorem dX9_loadDeBruijn_28 : decode cX9_loadDeBruijn 28 = .ok (.iload_n 1, 1) := by decide +kernel
theorem dX9_loadDeBruijn_29 : decode cX9_loadDeBruijn 29 = .ok (.iload_n 2, 1) := by decide +kernel
theorem dX9_loadDeBruijn_30 : decode cX9_loadDeBruijn 30 = .ok (.iconst 0, 1) := by decide +kernel
theorem dX9_loadDeBruijn_31 : decode cX9_loadDeBruijn 31 = .ok (.invokevirtual 81, 3) := by decide +kernel
theorem dX9_loadDeBruijn_34 : decode cX9_loadDeBruijn 34 = .ok (.istore_n 3, 1) := by decide +kernel
theorem dX9_loadDeBruijn_35 : decode cX9_loadDeBruijn 35 = .ok (.iload_n 3, 1) := by decide +kernel
theorem dX9_loadDeBruijn_36 : decode cX9_loadDeBruijn 36 = .ok (.ifCond .le 55, 3) := by decide +kernel
theorem dX9_loadDeBruijn_39 : decode cX9_loadDeBruijn 39 = .ok (.iconst 0, 1) := by decide +kernel
theorem dX9_loadDeBruijn_40 : decode cX9_loadDeBruijn 40 = .ok (.istore 4, 2) := by decide +kernel
theorem dX9_loadDeBruijn_42 : decode cX9_loadDeBruijn 42 = .ok (.iload 4, 2) := by decide +kernel
theorem dX9_loadDeBruijn_44 : decode cX9_loadDeBruijn 44 = .ok (.iload_n 3, 1) := by decide +kernel
theorem dX9_loadDeBruijn_45 : decode cX9_loadDeBruijn 45 = .ok (.if_icmp .ge 35, 3) := by decide +kernel
theorem dX9_loadDeBruijn_48 : decode cX9_loadDeBruijn 48 = .ok (.aload_n 0, 1) := by decide +kernel
theorem dX9_loadDeBruijn_49 : decode cX9_loadDeBruijn 49 = .ok (.getfield 7, 3) := by decide +kernel
theorem dX9_loadDeBruijn_52 : decode cX9_loadDeBruijn 52 = .ok (.aload_n 0, 1) := by decide +kernel
theorem dX9_loadDeBruijn_53 : decode cX9_loadDeBruijn 53 = .ok (.getfield 39, 3) := by decide +kernel
theorem dX9_loadDeBruijn_56 : decode cX9_loadDeBruijn 56 = .ok (.aload_n 0, 1) := by decide +kernel
theorem dX9_loadDeBruijn_57 : decode cX9_loadDeBruijn 57 = .ok (.getfield 28, 3) := by decide +kernel
theorem dX9_loadDeBruijn_60 : decode cX9_loadDeBruijn 60 = .ok (.iload 4, 2) := by decide +kernel
theorem dX9_loadDeBruijn_62 : decode cX9_loadDeBruijn 62 = .ok (.iaload, 1) := by decide +kernel
theorem dX9_loadDeBruijn_63 : decode cX9_loadDeBruijn 63 = .ok (.iastore, 1) := by decide +kernel
theorem dX9_loadDeBruijn_64 : decode cX9_loadDeBruijn 64 = .ok (.aload_n 0, 1) := by decide +kernel
theorem dX9_loadDeBruijn_65 : decode cX9_loadDeBruijn 65 = .ok (.dup, 1) := by decide +kernel
theorem dX9_loadDeBruijn_66 : decode cX9_loadDeBruijn 66 = .ok (.getfield 39, 3) := by decide +kernel
theorem dX9_loadDeBruijn_69 : decode cX9_loadDeBruijn 69 = .ok (.iconst 1, 1) := by decide +kernel
theorem dX9_loadDeBruijn_70 : decode cX9_loadDeBruijn 70 = .ok (.iadd, 1) := by decide +kernel
theorem dX9_loadDeBruijn_71 : decode cX9_loadDeBruijn 71 = .ok (.putfield 39, 3) := by decide +kernel
theorem dX9_loadDeBruijn_74 : decode cX9_loadDeBruijn 74 = .ok (.iinc 4 1, 3) := by decide +kernel
theorem dX9_loadDeBruijn_77 : decode cX9_loadDeBruijn 77 = .ok (.goto (-35), 3) := by decide +kernel
theorem dX9_loadDeBruijn_80 : decode cX9_loadDeBruijn 80 = .ok (.aload_n 0, 1) := by decide +kernel
theorem dX9_loadDeBruijn_81 : decode cX9_loadDeBruijn 81 = .ok (.iload_n 1, 1) := by decide +kernel
theorem dX9_loadDeBruijn_82 : decode cX9_loadDeBruijn 82 = .ok (.iload_n 2, 1) := by decide +kernel
theorem dX9_loadDeBruijn_83 : decode cX9_loadDeBruijn 83 = .ok (.iload_n 3, 1) := by decide +kernel
theorem dX9_loadDeBruijn_84 : decode cX9_loadDeBruijn 84 = .ok (.invokevirtual 81, 3) := by decide +kernel
theorem dX9_loadDeBruijn_87 : decode cX9_loadDeBruijn 87 = .ok (.istore_n 3, 1) := by decide +kernel
theorem dX9_loadDeBruijn_88 : decode cX9_loadDeBruijn 88 = .ok (.goto (-53), 3) := by decide +kernel
theorem dX9_loadDeBruijn_91 : decode cX9_loadDeBruijn 91 = .ok (.aload_n 0, 1) := by decide +kernel
theorem dX9_loadDeBruijn_92 : decode cX9_loadDeBruijn 92 = .ok (.getfield 39, 3) := by decide +kernel
theorem dX9_loadDeBruijn_95 : decode cX9_loadDeBruijn 95 = .ok (.ireturn, 1) := by decide +kernel
set_option maxRecDepth 20000 in
theorem ggX9_necklaceWith_X9_power : GoodIn wsX9_necklaceWith wsX9_power := goodIn_r _ [4] (by decide +kernel) (by decide +kernel)
set_option maxRecDepth 20000 in
theorem gX9_necklaceWith_X9_power : GoodIn wsX9_necklaceWith (va_wsS RX9 60 yX9_power wsX9_power) := goodIn_app (goodIn_of _ (by decide +kernel)) ggX9_necklaceWith_X9_power
set_option maxRecDepth 20000 in
theorem ggX9_necklaceWith_X9_layWord : GoodIn wsX9_necklaceWith wsX9_layWord := goodIn_r _ [8, 9, 14, 15, 16, 17, 18, 19, 20, 21, 22, 23, 24] (by decide +kernel) (by decide +kernel)
set_option maxRecDepth 20000 in
theorem gX9_necklaceWith_X9_layWord : GoodIn wsX9_necklaceWith (wsV RX9 64 RX9 yX9_layWord wsX9_layWord) := goodIn_app (goodIn_of _ (by decide +kernel)) ggX9_necklaceWith_X9_layWord
set_option maxRecDepth 20000 in
theorem ggX9_necklaceWith_X9_isNecklaceWord : GoodIn wsX9_necklaceWith wsX9_isNecklaceWord := goodIn_r _ [13, 9, 14, 15, 16, 17, 18, 19, 20, 21, 22, 23, 24] (by decide +kernel) (by decide +kernel)
set_option maxRecDepth 20000 in
theorem gX9_necklaceWith_X9_isNecklaceWord : GoodIn wsX9_necklaceWith (wsV RX9 85 RX9 yX9_isNecklaceWord wsX9_isNecklaceWord) := goodIn_app (goodIn_of _ (by decide +kernel)) ggX9_necklaceWith_X9_isNecklaceWord
theorem dX9_necklaceWith_0 : decode cX9_necklaceWith 0 = .ok (.iload_n 3, 1) := by decide +kernel
theorem dX9_necklaceWith_1 : decode cX9_necklaceWith 1 = .ok (.istore 4, 2) := by decide +kernel
theorem dX9_necklaceWith_3 : decode cX9_necklaceWith 3 = .ok (.iconst 0, 1) := by decide +kernel
theorem dX9_necklaceWith_4 : decode cX9_necklaceWith 4 = .ok (.istore 5, 2) := by decide +kernel
theorem dX9_necklaceWith_6 : decode cX9_necklaceWith 6 = .ok (.iload 5, 2) := by decide +kernel
theorem dX9_necklaceWith_8 : decode cX9_necklaceWith 8 = .ok (.iload_n 1, 1) := by decide +kernel
theorem dX9_necklaceWith_9 : decode cX9_necklaceWith 9 = .ok (.iload_n 2, 1) := by decide +kernel
theorem dX9_necklaceWith_10 : decode cX9_necklaceWith 10 = .ok (.invokestatic 60, 3) := by decide +kernel
theorem dX9_necklaceWith_13 : decode cX9_necklaceWith 13 = .ok (.if_icmp .ge 36, 3) := by decide +kernel
theorem dX9_necklaceWith_16 : decode cX9_necklaceWith 16 = .ok (.aload_n 0, 1) := by decide +kernel
theorem dX9_necklaceWith_17 : decode cX9_necklaceWith 17 = .ok (.iload 5, 2) := by decide +kernel
theorem dX9_necklaceWith_19 : decode cX9_necklaceWith 19 = .ok (.iload_n 1, 1) := by decide +kernel
theorem dX9_necklaceWith_20 : decode cX9_necklaceWith 20 = .ok (.iload_n 2, 1) := by decide +kernel
theorem dX9_necklaceWith_21 : decode cX9_necklaceWith 21 = .ok (.invokevirtual 64, 3) := by decide +kernel
theorem dX9_necklaceWith_24 : decode cX9_necklaceWith 24 = .ok (.aload_n 0, 1) := by decide +kernel
theorem dX9_necklaceWith_25 : decode cX9_necklaceWith 25 = .ok (.iload_n 2, 1) := by decide +kernel
theorem dX9_necklaceWith_26 : decode cX9_necklaceWith 26 = .ok (.invokevirtual 85, 3) := by decide +kernel
theorem dX9_necklaceWith_29 : decode cX9_necklaceWith 29 = .ok (.ifCond .eq 14, 3) := by decide +kernel
theorem dX9_necklaceWith_32 : decode cX9_necklaceWith 32 = .ok (.iload 4, 2) := by decide +kernel
theorem dX9_necklaceWith_34 : decode cX9_necklaceWith 34 = .ok (.ifCond .ne 6, 3) := by decide +kernel
theorem dX9_necklaceWith_37 : decode cX9_necklaceWith 37 = .ok (.iload 5, 2) := by decide +kernel
theorem dX9_necklaceWith_39 : decode cX9_necklaceWith 39 = .ok (.ireturn, 1) := by decide +kernel
theorem dX9_necklaceWith_40 : decode cX9_necklaceWith 40 = .ok (.iinc 4 (-1), 3) := by decide +kernel
theorem dX9_necklaceWith_43 : decode cX9_necklaceWith 43 = .ok (.iinc 5 1, 3) := by decide +kernel
theorem dX9_necklaceWith_46 : decode cX9_necklaceWith 46 = .ok (.goto (-40), 3) := by decide +kernel
theorem dX9_necklaceWith_49 : decode cX9_necklaceWith 49 = .ok (.iconst (-1), 1) := by decide +kernel
theorem dX9_necklaceWith_50 : decode cX9_necklaceWith 50 = .ok (.ireturn, 1) := by decide +kernel
set_option maxRecDepth 20000 in
theorem ggX9_loadNecklace_X9_in : GoodIn wsX9_loadNecklace wsX9_in := goodIn_r _ [7] (by decide +kernel) (by decide +kernel)
set_option maxRecDepth 20000 in
theorem gX9_loadNecklace_X9_in : GoodIn wsX9_loadNecklace (va_wsS RX9 42 yX9_in wsX9_in) := goodIn_app (goodIn_of _ (by decide +kernel)) ggX9_loadNecklace_X9_in
set_option maxRecDepth 20000 in
theorem ggX9_loadNecklace_X9_necklaceWith : GoodIn wsX9_loadNecklace wsX9_necklaceWith := goodIn_r _ [11, 12, 13, 6, 14, 15, 16, 17, 18, 3, 19, 20, 21, 22, 36, 37, 38, 39, 40, 41, 42, 43, 44, 45, 46] (by decide +kernel) (by decide +kernel)
set_option maxRecDepth 20000 in
theorem gX9_loadNecklace_X9_necklaceWith : GoodIn wsX9_loadNecklace (wsV RX9 88 RX9 yX9_necklaceWith wsX9_necklaceWith) := goodIn_app (goodIn_of _ (by decide +kernel)) ggX9_loadNecklace_X9_necklaceWith
set_option maxRecDepth 20000 in
theorem ggX9_loadNecklace_X9_goesWell : GoodIn wsX9_loadNecklace wsX9_goesWell := goodIn_r _ [26, 27, 36, 37, 38, 39, 40, 41, 42, 43, 44, 45, 46] (by decide +kernel) (by decide +kernel)
set_option maxRecDepth 20000 in
theorem gX9_loadNecklace_X9_goesWell : GoodIn wsX9_loadNecklace (wsV RX9 46 RX9 yX9_goesWell wsX9_goesWell) := goodIn_app (goodIn_of _ (by decide +kernel)) ggX9_loadNecklace_X9_goesWell
set_option maxRecDepth 20000 in
theorem ggX9_loadNecklace_X9_layWord : GoodIn wsX9_loadNecklace wsX9_layWord := goodIn_r _ [18, 3, 36, 37, 38, 39, 40, 41, 42, 43, 44, 45, 46] (by decide +kernel) (by decide +kernel)
set_option maxRecDepth 20000 in
theorem gX9_loadNecklace_X9_layWord : GoodIn wsX9_loadNecklace (wsV RX9 64 RX9 yX9_layWord wsX9_layWord) := goodIn_app (goodIn_of _ (by decide +kernel)) ggX9_loadNecklace_X9_layWord
set_option maxRecDepth 20000 in
theorem ggX9_loadNecklace_X9_root : GoodIn wsX9_loadNecklace wsX9_root := goodIn_r _ [31, 32, 33, 34, 6, 35, 2, 36, 37, 38, 39, 40, 41, 42, 43, 44, 45, 46] (by decide +kernel) (by decide +kernel)
set_option maxRecDepth 20000 in
theorem gX9_loadNecklace_X9_root : GoodIn wsX9_loadNecklace (wsV RX9 91 RX9 yX9_root wsX9_root) := goodIn_app (goodIn_of _ (by decide +kernel)) ggX9_loadNecklace_X9_root
theorem dX9_loadNecklace_0 : decode cX9_loadNecklace 0 = .ok (.iload_n 1, 1) := by decide +kernel
theorem dX9_loadNecklace_1 : decode cX9_loadNecklace 1 = .ok (.iconst 1, 1) := by decide +kernel
theorem dX9_loadNecklace_2 : decode cX9_loadNecklace 2 = .ok (.iconst 4, 1) := by decide +kernel
theorem dX9_loadNecklace_3 : decode cX9_loadNecklace 3 = .ok (.invokestatic 42, 3) := by decide +kernel
theorem dX9_loadNecklace_6 : decode cX9_loadNecklace 6 = .ok (.ifCond .eq 21, 3) := by decide +kernel
theorem dX9_loadNecklace_9 : decode cX9_loadNecklace 9 = .ok (.iload_n 2, 1) := by decide +kernel
theorem dX9_loadNecklace_10 : decode cX9_loadNecklace 10 = .ok (.iconst 1, 1) := by decide +kernel
theorem dX9_loadNecklace_11 : decode cX9_loadNecklace 11 = .ok (.bipush 8, 2) := by decide +kernel
theorem dX9_loadNecklace_13 : decode cX9_loadNecklace 13 = .ok (.invokestatic 42, 3) := by decide +kernel
theorem dX9_loadNecklace_16 : decode cX9_loadNecklace 16 = .ok (.ifCond .eq 11, 3) := by decide +kernel
theorem dX9_loadNecklace_19 : decode cX9_loadNecklace 19 = .ok (.iload_n 3, 1) := by decide +kernel
theorem dX9_loadNecklace_20 : decode cX9_loadNecklace 20 = .ok (.ifCond .lt 7, 3) := by decide +kernel
theorem dX9_loadNecklace_23 : decode cX9_loadNecklace 23 = .ok (.iconst 1, 1) := by decide +kernel
theorem dX9_loadNecklace_24 : decode cX9_loadNecklace 24 = .ok (.goto 4, 3) := by decide +kernel
theorem dX9_loadNecklace_27 : decode cX9_loadNecklace 27 = .ok (.iconst 0, 1) := by decide +kernel
theorem dX9_loadNecklace_28 : decode cX9_loadNecklace 28 = .ok (.istore 4, 2) := by decide +kernel
theorem dX9_loadNecklace_30 : decode cX9_loadNecklace 30 = .ok (.iload 4, 2) := by decide +kernel
theorem dX9_loadNecklace_32 : decode cX9_loadNecklace 32 = .ok (.ifCond .eq 13, 3) := by decide +kernel
theorem dX9_loadNecklace_35 : decode cX9_loadNecklace 35 = .ok (.aload_n 0, 1) := by decide +kernel
theorem dX9_loadNecklace_36 : decode cX9_loadNecklace 36 = .ok (.iload_n 1, 1) := by decide +kernel
theorem dX9_loadNecklace_37 : decode cX9_loadNecklace 37 = .ok (.iload_n 2, 1) := by decide +kernel
theorem dX9_loadNecklace_38 : decode cX9_loadNecklace 38 = .ok (.iload_n 3, 1) := by decide +kernel
theorem dX9_loadNecklace_39 : decode cX9_loadNecklace 39 = .ok (.invokevirtual 88, 3) := by decide +kernel
theorem dX9_loadNecklace_42 : decode cX9_loadNecklace 42 = .ok (.goto 4, 3) := by decide +kernel
theorem dX9_loadNecklace_45 : decode cX9_loadNecklace 45 = .ok (.iconst (-1), 1) := by decide +kernel
theorem dX9_loadNecklace_46 : decode cX9_loadNecklace 46 = .ok (.istore 5, 2) := by decide +kernel
theorem dX9_loadNecklace_48 : decode cX9_loadNecklace 48 = .ok (.aload_n 0, 1) := by decide +kernel
theorem dX9_loadNecklace_49 : decode cX9_loadNecklace 49 = .ok (.iload 5, 2) := by decide +kernel
theorem dX9_loadNecklace_51 : decode cX9_loadNecklace 51 = .ok (.iconst (-1), 1) := by decide +kernel
theorem dX9_loadNecklace_52 : decode cX9_loadNecklace 52 = .ok (.if_icmp .ne 7, 3) := by decide +kernel
theorem dX9_loadNecklace_55 : decode cX9_loadNecklace 55 = .ok (.iconst 1, 1) := by decide +kernel
theorem dX9_loadNecklace_56 : decode cX9_loadNecklace 56 = .ok (.goto 4, 3) := by decide +kernel
theorem dX9_loadNecklace_59 : decode cX9_loadNecklace 59 = .ok (.iconst 0, 1) := by decide +kernel
theorem dX9_loadNecklace_60 : decode cX9_loadNecklace 60 = .ok (.invokevirtual 46, 3) := by decide +kernel
theorem dX9_loadNecklace_63 : decode cX9_loadNecklace 63 = .ok (.ifCond .ne 5, 3) := by decide +kernel
theorem dX9_loadNecklace_66 : decode cX9_loadNecklace 66 = .ok (.iconst 0, 1) := by decide +kernel
theorem dX9_loadNecklace_67 : decode cX9_loadNecklace 67 = .ok (.ireturn, 1) := by decide +kernel
theorem dX9_loadNecklace_68 : decode cX9_loadNecklace 68 = .ok (.aload_n 0, 1) := by decide +kernel
theorem dX9_loadNecklace_69 : decode cX9_loadNecklace 69 = .ok (.iload 5, 2) := by decide +kernel
theorem dX9_loadNecklace_71 : decode cX9_loadNecklace 71 = .ok (.iload_n 1, 1) := by decide +kernel
theorem dX9_loadNecklace_72 : decode cX9_loadNecklace 72 = .ok (.iload_n 2, 1) := by decide +kernel
theorem dX9_loadNecklace_73 : decode cX9_loadNecklace 73 = .ok (.invokevirtual 64, 3) := by decide +kernel
theorem dX9_loadNecklace_76 : decode cX9_loadNecklace 76 = .ok (.aload_n 0, 1) := by decide +kernel
theorem dX9_loadNecklace_77 : decode cX9_loadNecklace 77 = .ok (.iload_n 2, 1) := by decide +kernel
theorem dX9_loadNecklace_78 : decode cX9_loadNecklace 78 = .ok (.putfield 39, 3) := by decide +kernel
theorem dX9_loadNecklace_81 : decode cX9_loadNecklace 81 = .ok (.iconst 0, 1) := by decide +kernel
theorem dX9_loadNecklace_82 : decode cX9_loadNecklace 82 = .ok (.istore 6, 2) := by decide +kernel
theorem dX9_loadNecklace_84 : decode cX9_loadNecklace 84 = .ok (.iload 6, 2) := by decide +kernel
theorem dX9_loadNecklace_86 : decode cX9_loadNecklace 86 = .ok (.iload_n 2, 1) := by decide +kernel
theorem dX9_loadNecklace_87 : decode cX9_loadNecklace 87 = .ok (.if_icmp .ge 23, 3) := by decide +kernel
theorem dX9_loadNecklace_90 : decode cX9_loadNecklace 90 = .ok (.aload_n 0, 1) := by decide +kernel
theorem dX9_loadNecklace_91 : decode cX9_loadNecklace 91 = .ok (.getfield 7, 3) := by decide +kernel
theorem dX9_loadNecklace_94 : decode cX9_loadNecklace 94 = .ok (.iload 6, 2) := by decide +kernel
theorem dX9_loadNecklace_96 : decode cX9_loadNecklace 96 = .ok (.aload_n 0, 1) := by decide +kernel
theorem dX9_loadNecklace_97 : decode cX9_loadNecklace 97 = .ok (.getfield 25, 3) := by decide +kernel
theorem dX9_loadNecklace_100 : decode cX9_loadNecklace 100 = .ok (.iload 6, 2) := by decide +kernel
theorem dX9_loadNecklace_102 : decode cX9_loadNecklace 102 = .ok (.iaload, 1) := by decide +kernel
theorem dX9_loadNecklace_103 : decode cX9_loadNecklace 103 = .ok (.iastore, 1) := by decide +kernel
theorem dX9_loadNecklace_104 : decode cX9_loadNecklace 104 = .ok (.iinc 6 1, 3) := by decide +kernel
theorem dX9_loadNecklace_107 : decode cX9_loadNecklace 107 = .ok (.goto (-23), 3) := by decide +kernel
theorem dX9_loadNecklace_110 : decode cX9_loadNecklace 110 = .ok (.aload_n 0, 1) := by decide +kernel
theorem dX9_loadNecklace_111 : decode cX9_loadNecklace 111 = .ok (.iconst 0, 1) := by decide +kernel
theorem dX9_loadNecklace_112 : decode cX9_loadNecklace 112 = .ok (.iload_n 2, 1) := by decide +kernel
theorem dX9_loadNecklace_113 : decode cX9_loadNecklace 113 = .ok (.invokevirtual 91, 3) := by decide +kernel
theorem dX9_loadNecklace_116 : decode cX9_loadNecklace 116 = .ok (.ireturn, 1) := by decide +kernel
theorem dX9_length_0 : decode cX9_length 0 = .ok (.aload_n 0, 1) := by decide +kernel
theorem dX9_length_1 : decode cX9_length 1 = .ok (.iconst 0, 1) := by decide +kernel
theorem dX9_length_2 : decode cX9_length 2 = .ok (.putfield 35, 3) := by decide +kernel
theorem dX9_length_5 : decode cX9_length 5 = .ok (.aload_n 0, 1) := by decide +kernel
theorem dX9_length_6 : decode cX9_length 6 = .ok (.getfield 39, 3) := by decide +kernel
theorem dX9_length_9 : decode cX9_length 9 = .ok (.ireturn, 1) := by decide +kernel
set_option maxRecDepth 20000 in
theorem ggX9_letterAt_X9_isPlace : GoodIn wsX9_letterAt wsX9_isPlace := goodIn_r _ [6, 7, 8, 9, 5, 10, 16, 17, 18, 19, 20, 21, 22, 23, 24, 25, 26] (by decide +kernel) (by decide +kernel)
set_option maxRecDepth 20000 in
theorem gX9_letterAt_X9_isPlace : GoodIn wsX9_letterAt (wsV RX9 50 RX9 yX9_isPlace wsX9_isPlace) := goodIn_app (goodIn_of _ (by decide +kernel)) ggX9_letterAt_X9_isPlace
set_option maxRecDepth 20000 in
theorem ggX9_letterAt_X9_goesWell : GoodIn wsX9_letterAt wsX9_goesWell := goodIn_r _ [14, 15, 16, 17, 18, 19, 20, 21, 22, 23, 24, 25, 26] (by decide +kernel) (by decide +kernel)
set_option maxRecDepth 20000 in
theorem gX9_letterAt_X9_goesWell : GoodIn wsX9_letterAt (wsV RX9 46 RX9 yX9_goesWell wsX9_goesWell) := goodIn_app (goodIn_of _ (by decide +kernel)) ggX9_letterAt_X9_goesWell
theorem dX9_letterAt_0 : decode cX9_letterAt 0 = .ok (.aload_n 0, 1) := by decide +kernel
theorem dX9_letterAt_1 : decode cX9_letterAt 1 = .ok (.aload_n 0, 1) := by decide +kernel
theorem dX9_letterAt_2 : decode cX9_letterAt 2 = .ok (.iload_n 1, 1) := by decide +kernel
theorem dX9_letterAt_3 : decode cX9_letterAt 3 = .ok (.invokevirtual 50, 3) := by decide +kernel
theorem dX9_letterAt_6 : decode cX9_letterAt 6 = .ok (.ifCond .eq 7, 3) := by decide +kernel
theorem dX9_letterAt_9 : decode cX9_letterAt 9 = .ok (.iconst 0, 1) := by decide +kernel
theorem dX9_letterAt_10 : decode cX9_letterAt 10 = .ok (.goto 4, 3) := by decide +kernel
theorem dX9_letterAt_13 : decode cX9_letterAt 13 = .ok (.iconst 1, 1) := by decide +kernel
theorem dX9_letterAt_14 : decode cX9_letterAt 14 = .ok (.invokevirtual 46, 3) := by decide +kernel
theorem dX9_letterAt_17 : decode cX9_letterAt 17 = .ok (.ifCond .eq 12, 3) := by decide +kernel
theorem dX9_letterAt_20 : decode cX9_letterAt 20 = .ok (.aload_n 0, 1) := by decide +kernel
theorem dX9_letterAt_21 : decode cX9_letterAt 21 = .ok (.getfield 7, 3) := by decide +kernel
theorem dX9_letterAt_24 : decode cX9_letterAt 24 = .ok (.iload_n 1, 1) := by decide +kernel
theorem dX9_letterAt_25 : decode cX9_letterAt 25 = .ok (.iaload, 1) := by decide +kernel
theorem dX9_letterAt_26 : decode cX9_letterAt 26 = .ok (.goto 4, 3) := by decide +kernel
theorem dX9_letterAt_29 : decode cX9_letterAt 29 = .ok (.iconst 0, 1) := by decide +kernel
theorem dX9_letterAt_30 : decode cX9_letterAt 30 = .ok (.ireturn, 1) := by decide +kernel
theorem dX9_same_0 : decode cX9_same 0 = .ok (.iconst 0, 1) := by decide +kernel
theorem dX9_same_1 : decode cX9_same 1 = .ok (.istore 5, 2) := by decide +kernel
theorem dX9_same_3 : decode cX9_same 3 = .ok (.iload_n 1, 1) := by decide +kernel
theorem dX9_same_4 : decode cX9_same 4 = .ok (.iload 5, 2) := by decide +kernel
theorem dX9_same_6 : decode cX9_same 6 = .ok (.iadd, 1) := by decide +kernel
theorem dX9_same_7 : decode cX9_same 7 = .ok (.iload_n 2, 1) := by decide +kernel
theorem dX9_same_8 : decode cX9_same 8 = .ok (.if_icmp .ge 39, 3) := by decide +kernel
theorem dX9_same_11 : decode cX9_same 11 = .ok (.iload_n 3, 1) := by decide +kernel
theorem dX9_same_12 : decode cX9_same 12 = .ok (.iload 5, 2) := by decide +kernel
theorem dX9_same_14 : decode cX9_same 14 = .ok (.iadd, 1) := by decide +kernel
theorem dX9_same_15 : decode cX9_same 15 = .ok (.iload 4, 2) := by decide +kernel
theorem dX9_same_17 : decode cX9_same 17 = .ok (.if_icmp .ge 30, 3) := by decide +kernel
theorem dX9_same_20 : decode cX9_same 20 = .ok (.aload_n 0, 1) := by decide +kernel
theorem dX9_same_21 : decode cX9_same 21 = .ok (.getfield 7, 3) := by decide +kernel
theorem dX9_same_24 : decode cX9_same 24 = .ok (.iload_n 1, 1) := by decide +kernel
theorem dX9_same_25 : decode cX9_same 25 = .ok (.iload 5, 2) := by decide +kernel
theorem dX9_same_27 : decode cX9_same 27 = .ok (.iadd, 1) := by decide +kernel
theorem dX9_same_28 : decode cX9_same 28 = .ok (.iaload, 1) := by decide +kernel
theorem dX9_same_29 : decode cX9_same 29 = .ok (.aload_n 0, 1) := by decide +kernel
theorem dX9_same_30 : decode cX9_same 30 = .ok (.getfield 7, 3) := by decide +kernel
theorem dX9_same_33 : decode cX9_same 33 = .ok (.iload_n 3, 1) := by decide +kernel
theorem dX9_same_34 : decode cX9_same 34 = .ok (.iload 5, 2) := by decide +kernel
theorem dX9_same_36 : decode cX9_same 36 = .ok (.iadd, 1) := by decide +kernel
theorem dX9_same_37 : decode cX9_same 37 = .ok (.iaload, 1) := by decide +kernel
theorem dX9_same_38 : decode cX9_same 38 = .ok (.if_icmp .ne 9, 3) := by decide +kernel
theorem dX9_same_41 : decode cX9_same 41 = .ok (.iinc 5 1, 3) := by decide +kernel
theorem dX9_same_44 : decode cX9_same 44 = .ok (.goto (-41), 3) := by decide +kernel
theorem dX9_same_47 : decode cX9_same 47 = .ok (.iload 5, 2) := by decide +kernel
theorem dX9_same_49 : decode cX9_same 49 = .ok (.ireturn, 1) := by decide +kernel
set_option maxRecDepth 20000 in
theorem ggX9_order_X9_same : GoodIn wsX9_order wsX9_same := goodIn_r _ [6, 1, 7, 8, 9, 10, 11, 12, 13, 14, 15, 16, 17] (by decide +kernel) (by decide +kernel)
set_option maxRecDepth 20000 in
theorem gX9_order_X9_same : GoodIn wsX9_order (wsV RX9 94 RX9 yX9_same wsX9_same) := goodIn_app (goodIn_of _ (by decide +kernel)) ggX9_order_X9_same
theorem dX9_order_0 : decode cX9_order 0 = .ok (.aload_n 0, 1) := by decide +kernel
theorem dX9_order_1 : decode cX9_order 1 = .ok (.iload_n 1, 1) := by decide +kernel
theorem dX9_order_2 : decode cX9_order 2 = .ok (.iload_n 2, 1) := by decide +kernel
theorem dX9_order_3 : decode cX9_order 3 = .ok (.iload_n 3, 1) := by decide +kernel
theorem dX9_order_4 : decode cX9_order 4 = .ok (.iload 4, 2) := by decide +kernel
theorem dX9_order_6 : decode cX9_order 6 = .ok (.invokevirtual 94, 3) := by decide +kernel
theorem dX9_order_9 : decode cX9_order 9 = .ok (.istore 6, 2) := by decide +kernel
theorem dX9_order_11 : decode cX9_order 11 = .ok (.iload_n 1, 1) := by decide +kernel
theorem dX9_order_12 : decode cX9_order 12 = .ok (.iload 6, 2) := by decide +kernel
theorem dX9_order_14 : decode cX9_order 14 = .ok (.iadd, 1) := by decide +kernel
theorem dX9_order_15 : decode cX9_order 15 = .ok (.iload_n 2, 1) := by decide +kernel
theorem dX9_order_16 : decode cX9_order 16 = .ok (.if_icmp .ge 47, 3) := by decide +kernel
theorem dX9_order_19 : decode cX9_order 19 = .ok (.iload_n 3, 1) := by decide +kernel
theorem dX9_order_20 : decode cX9_order 20 = .ok (.iload 6, 2) := by decide +kernel
theorem dX9_order_22 : decode cX9_order 22 = .ok (.iadd, 1) := by decide +kernel
theorem dX9_order_23 : decode cX9_order 23 = .ok (.iload 4, 2) := by decide +kernel
theorem dX9_order_25 : decode cX9_order 25 = .ok (.if_icmp .ge 38, 3) := by decide +kernel
theorem dX9_order_28 : decode cX9_order 28 = .ok (.aload_n 0, 1) := by decide +kernel
theorem dX9_order_29 : decode cX9_order 29 = .ok (.getfield 7, 3) := by decide +kernel
theorem dX9_order_32 : decode cX9_order 32 = .ok (.iload_n 1, 1) := by decide +kernel
theorem dX9_order_33 : decode cX9_order 33 = .ok (.iload 6, 2) := by decide +kernel
theorem dX9_order_35 : decode cX9_order 35 = .ok (.iadd, 1) := by decide +kernel
theorem dX9_order_36 : decode cX9_order 36 = .ok (.iaload, 1) := by decide +kernel
theorem dX9_order_37 : decode cX9_order 37 = .ok (.aload_n 0, 1) := by decide +kernel
theorem dX9_order_38 : decode cX9_order 38 = .ok (.getfield 7, 3) := by decide +kernel
theorem dX9_order_41 : decode cX9_order 41 = .ok (.iload_n 3, 1) := by decide +kernel
theorem dX9_order_42 : decode cX9_order 42 = .ok (.iload 6, 2) := by decide +kernel
theorem dX9_order_44 : decode cX9_order 44 = .ok (.iadd, 1) := by decide +kernel
theorem dX9_order_45 : decode cX9_order 45 = .ok (.iaload, 1) := by decide +kernel
theorem dX9_order_46 : decode cX9_order 46 = .ok (.isub, 1) := by decide +kernel
theorem dX9_order_47 : decode cX9_order 47 = .ok (.istore 7, 2) := by decide +kernel
theorem dX9_order_49 : decode cX9_order 49 = .ok (.iload 5, 2) := by decide +kernel
theorem dX9_order_51 : decode cX9_order 51 = .ok (.ifCond .eq 9, 3) := by decide +kernel
theorem dX9_order_54 : decode cX9_order 54 = .ok (.iload 7, 2) := by decide +kernel
theorem dX9_order_56 : decode cX9_order 56 = .ok (.ineg, 1) := by decide +kernel
theorem dX9_order_57 : decode cX9_order 57 = .ok (.goto 5, 3) := by decide +kernel
theorem dX9_order_60 : decode cX9_order 60 = .ok (.iload 7, 2) := by decide +kernel
theorem dX9_order_62 : decode cX9_order 62 = .ok (.ireturn, 1) := by decide +kernel
theorem dX9_order_63 : decode cX9_order 63 = .ok (.iload_n 2, 1) := by decide +kernel
theorem dX9_order_64 : decode cX9_order 64 = .ok (.iload_n 1, 1) := by decide +kernel
theorem dX9_order_65 : decode cX9_order 65 = .ok (.isub, 1) := by decide +kernel
theorem dX9_order_66 : decode cX9_order 66 = .ok (.iload 4, 2) := by decide +kernel
theorem dX9_order_68 : decode cX9_order 68 = .ok (.iload_n 3, 1) := by decide +kernel
theorem dX9_order_69 : decode cX9_order 69 = .ok (.isub, 1) := by decide +kernel
theorem dX9_order_70 : decode cX9_order 70 = .ok (.isub, 1) := by decide +kernel
theorem dX9_order_71 : decode cX9_order 71 = .ok (.ireturn, 1) := by decide +kernel
set_option maxRecDepth 20000 in
theorem ggX9_compare_X9_isPart : GoodIn wsX9_compare wsX9_isPart := goodIn_r _ [5, 6, 21, 22, 23, 24, 25, 26, 27, 28, 29, 30, 31] (by decide +kernel) (by decide +kernel)
set_option maxRecDepth 20000 in
theorem gX9_compare_X9_isPart : GoodIn wsX9_compare (wsV RX9 56 RX9 yX9_isPart wsX9_isPart) := goodIn_app (goodIn_of _ (by decide +kernel)) ggX9_compare_X9_isPart
set_option maxRecDepth 20000 in
theorem ggX9_compare_X9_goesWell : GoodIn wsX9_compare wsX9_goesWell := goodIn_r _ [10, 11, 21, 22, 23, 24, 25, 26, 27, 28, 29, 30, 31] (by decide +kernel) (by decide +kernel)
set_option maxRecDepth 20000 in
theorem gX9_compare_X9_goesWell : GoodIn wsX9_compare (wsV RX9 46 RX9 yX9_goesWell wsX9_goesWell) := goodIn_app (goodIn_of _ (by decide +kernel)) ggX9_compare_X9_goesWell
set_option maxRecDepth 20000 in
theorem ggX9_compare_X9_order : GoodIn wsX9_compare wsX9_order := goodIn_r _ [15, 16, 17, 18, 19, 4, 20, 21, 22, 23, 24, 25, 26, 27, 28, 29, 30, 31] (by decide +kernel) (by decide +kernel)
set_option maxRecDepth 20000 in
theorem gX9_compare_X9_order : GoodIn wsX9_compare (wsV RX9 98 RX9 yX9_order wsX9_order) := goodIn_app (goodIn_of _ (by decide +kernel)) ggX9_compare_X9_order
theorem dX9_compare_0 : decode cX9_compare 0 = .ok (.aload_n 0, 1) := by decide +kernel
theorem dX9_compare_1 : decode cX9_compare 1 = .ok (.aload_n 0, 1) := by decide +kernel
theorem dX9_compare_2 : decode cX9_compare 2 = .ok (.iload_n 1, 1) := by decide +kernel
theorem dX9_compare_3 : decode cX9_compare 3 = .ok (.iload_n 2, 1) := by decide +kernel
theorem dX9_compare_4 : decode cX9_compare 4 = .ok (.invokevirtual 56, 3) := by decide +kernel
theorem dX9_compare_7 : decode cX9_compare 7 = .ok (.ifCond .eq 17, 3) := by decide +kernel
theorem dX9_compare_10 : decode cX9_compare 10 = .ok (.aload_n 0, 1) := by decide +kernel
theorem dX9_compare_11 : decode cX9_compare 11 = .ok (.iload_n 3, 1) := by decide +kernel
theorem dX9_compare_12 : decode cX9_compare 12 = .ok (.iload 4, 2) := by decide +kernel
theorem dX9_compare_14 : decode cX9_compare 14 = .ok (.invokevirtual 56, 3) := by decide +kernel
theorem dX9_compare_17 : decode cX9_compare 17 = .ok (.ifCond .eq 7, 3) := by decide +kernel
theorem dX9_compare_20 : decode cX9_compare 20 = .ok (.iconst 0, 1) := by decide +kernel
theorem dX9_compare_21 : decode cX9_compare 21 = .ok (.goto 4, 3) := by decide +kernel
theorem dX9_compare_24 : decode cX9_compare 24 = .ok (.iconst 1, 1) := by decide +kernel
theorem dX9_compare_25 : decode cX9_compare 25 = .ok (.invokevirtual 46, 3) := by decide +kernel
theorem dX9_compare_28 : decode cX9_compare 28 = .ok (.ifCond .ne 5, 3) := by decide +kernel
theorem dX9_compare_31 : decode cX9_compare 31 = .ok (.iconst 0, 1) := by decide +kernel
theorem dX9_compare_32 : decode cX9_compare 32 = .ok (.ireturn, 1) := by decide +kernel
theorem dX9_compare_33 : decode cX9_compare 33 = .ok (.aload_n 0, 1) := by decide +kernel
theorem dX9_compare_34 : decode cX9_compare 34 = .ok (.iload_n 1, 1) := by decide +kernel
theorem dX9_compare_35 : decode cX9_compare 35 = .ok (.iload_n 2, 1) := by decide +kernel
theorem dX9_compare_36 : decode cX9_compare 36 = .ok (.iload_n 3, 1) := by decide +kernel
theorem dX9_compare_37 : decode cX9_compare 37 = .ok (.iload 4, 2) := by decide +kernel
theorem dX9_compare_39 : decode cX9_compare 39 = .ok (.iconst 0, 1) := by decide +kernel
theorem dX9_compare_40 : decode cX9_compare 40 = .ok (.invokevirtual 98, 3) := by decide +kernel
theorem dX9_compare_43 : decode cX9_compare 43 = .ok (.istore 5, 2) := by decide +kernel
theorem dX9_compare_45 : decode cX9_compare 45 = .ok (.iload 5, 2) := by decide +kernel
theorem dX9_compare_47 : decode cX9_compare 47 = .ok (.ifCond .ge 7, 3) := by decide +kernel
theorem dX9_compare_50 : decode cX9_compare 50 = .ok (.iconst (-1), 1) := by decide +kernel
theorem dX9_compare_51 : decode cX9_compare 51 = .ok (.goto 13, 3) := by decide +kernel
theorem dX9_compare_54 : decode cX9_compare 54 = .ok (.iload 5, 2) := by decide +kernel
theorem dX9_compare_56 : decode cX9_compare 56 = .ok (.ifCond .le 7, 3) := by decide +kernel
theorem dX9_compare_59 : decode cX9_compare 59 = .ok (.iconst 1, 1) := by decide +kernel
theorem dX9_compare_60 : decode cX9_compare 60 = .ok (.goto 4, 3) := by decide +kernel
theorem dX9_compare_63 : decode cX9_compare 63 = .ok (.iconst 0, 1) := by decide +kernel
theorem dX9_compare_64 : decode cX9_compare 64 = .ok (.ireturn, 1) := by decide +kernel
set_option maxRecDepth 20000 in
theorem ggX9_commonPrefix_X9_in : GoodIn wsX9_commonPrefix wsX9_in := goodIn_r _ [5] (by decide +kernel) (by decide +kernel)
set_option maxRecDepth 20000 in
theorem gX9_commonPrefix_X9_in : GoodIn wsX9_commonPrefix (va_wsS RX9 42 yX9_in wsX9_in) := goodIn_app (goodIn_of _ (by decide +kernel)) ggX9_commonPrefix_X9_in
set_option maxRecDepth 20000 in
theorem ggX9_commonPrefix_X9_goesWell : GoodIn wsX9_commonPrefix wsX9_goesWell := goodIn_r _ [9, 10, 16, 17, 18, 19, 20, 21, 22, 23, 24, 25, 26] (by decide +kernel) (by decide +kernel)
set_option maxRecDepth 20000 in
theorem gX9_commonPrefix_X9_goesWell : GoodIn wsX9_commonPrefix (wsV RX9 46 RX9 yX9_goesWell wsX9_goesWell) := goodIn_app (goodIn_of _ (by decide +kernel)) ggX9_commonPrefix_X9_goesWell
set_option maxRecDepth 20000 in
theorem ggX9_commonPrefix_X9_same : GoodIn wsX9_commonPrefix wsX9_same := goodIn_r _ [14, 15, 16, 17, 18, 19, 20, 21, 22, 23, 24, 25, 26] (by decide +kernel) (by decide +kernel)
set_option maxRecDepth 20000 in
theorem gX9_commonPrefix_X9_same : GoodIn wsX9_commonPrefix (wsV RX9 94 RX9 yX9_same wsX9_same) := goodIn_app (goodIn_of _ (by decide +kernel)) ggX9_commonPrefix_X9_same
theorem dX9_commonPrefix_0 : decode cX9_commonPrefix 0 = .ok (.aload_n 0, 1) := by decide +kernel
theorem dX9_commonPrefix_1 : decode cX9_commonPrefix 1 = .ok (.iload_n 1, 1) := by decide +kernel
theorem dX9_commonPrefix_2 : decode cX9_commonPrefix 2 = .ok (.iconst 0, 1) := by decide +kernel
theorem dX9_commonPrefix_3 : decode cX9_commonPrefix 3 = .ok (.aload_n 0, 1) := by decide +kernel
theorem dX9_commonPrefix_4 : decode cX9_commonPrefix 4 = .ok (.getfield 39, 3) := by decide +kernel
theorem dX9_commonPrefix_7 : decode cX9_commonPrefix 7 = .ok (.invokestatic 42, 3) := by decide +kernel
theorem dX9_commonPrefix_10 : decode cX9_commonPrefix 10 = .ok (.ifCond .eq 19, 3) := by decide +kernel
theorem dX9_commonPrefix_13 : decode cX9_commonPrefix 13 = .ok (.iload_n 2, 1) := by decide +kernel
theorem dX9_commonPrefix_14 : decode cX9_commonPrefix 14 = .ok (.iconst 0, 1) := by decide +kernel
theorem dX9_commonPrefix_15 : decode cX9_commonPrefix 15 = .ok (.aload_n 0, 1) := by decide +kernel
theorem dX9_commonPrefix_16 : decode cX9_commonPrefix 16 = .ok (.getfield 39, 3) := by decide +kernel
theorem dX9_commonPrefix_19 : decode cX9_commonPrefix 19 = .ok (.invokestatic 42, 3) := by decide +kernel
theorem dX9_commonPrefix_22 : decode cX9_commonPrefix 22 = .ok (.ifCond .eq 7, 3) := by decide +kernel
theorem dX9_commonPrefix_25 : decode cX9_commonPrefix 25 = .ok (.iconst 0, 1) := by decide +kernel
theorem dX9_commonPrefix_26 : decode cX9_commonPrefix 26 = .ok (.goto 4, 3) := by decide +kernel
theorem dX9_commonPrefix_29 : decode cX9_commonPrefix 29 = .ok (.iconst 1, 1) := by decide +kernel
theorem dX9_commonPrefix_30 : decode cX9_commonPrefix 30 = .ok (.invokevirtual 46, 3) := by decide +kernel
theorem dX9_commonPrefix_33 : decode cX9_commonPrefix 33 = .ok (.ifCond .eq 20, 3) := by decide +kernel
theorem dX9_commonPrefix_36 : decode cX9_commonPrefix 36 = .ok (.aload_n 0, 1) := by decide +kernel
theorem dX9_commonPrefix_37 : decode cX9_commonPrefix 37 = .ok (.iload_n 1, 1) := by decide +kernel
theorem dX9_commonPrefix_38 : decode cX9_commonPrefix 38 = .ok (.aload_n 0, 1) := by decide +kernel
theorem dX9_commonPrefix_39 : decode cX9_commonPrefix 39 = .ok (.getfield 39, 3) := by decide +kernel
theorem dX9_commonPrefix_42 : decode cX9_commonPrefix 42 = .ok (.iload_n 2, 1) := by decide +kernel
theorem dX9_commonPrefix_43 : decode cX9_commonPrefix 43 = .ok (.aload_n 0, 1) := by decide +kernel
theorem dX9_commonPrefix_44 : decode cX9_commonPrefix 44 = .ok (.getfield 39, 3) := by decide +kernel
theorem dX9_commonPrefix_47 : decode cX9_commonPrefix 47 = .ok (.invokevirtual 94, 3) := by decide +kernel
theorem dX9_commonPrefix_50 : decode cX9_commonPrefix 50 = .ok (.goto 4, 3) := by decide +kernel
theorem dX9_commonPrefix_53 : decode cX9_commonPrefix 53 = .ok (.iconst 0, 1) := by decide +kernel
theorem dX9_commonPrefix_54 : decode cX9_commonPrefix 54 = .ok (.ireturn, 1) := by decide +kernel
set_option maxRecDepth 20000 in
theorem ggX9_lyndonPart_X9_order : GoodIn wsX9_lyndonPart wsX9_order := goodIn_r _ [5, 6, 7, 8, 9, 4, 10, 11, 12, 13, 14, 15, 16, 17, 18, 19, 20, 21] (by decide +kernel) (by decide +kernel)
set_option maxRecDepth 20000 in
theorem gX9_lyndonPart_X9_order : GoodIn wsX9_lyndonPart (wsV RX9 98 RX9 yX9_order wsX9_order) := goodIn_app (goodIn_of _ (by decide +kernel)) ggX9_lyndonPart_X9_order
theorem dX9_lyndonPart_0 : decode cX9_lyndonPart 0 = .ok (.iconst 1, 1) := by decide +kernel
theorem dX9_lyndonPart_1 : decode cX9_lyndonPart 1 = .ok (.istore 4, 2) := by decide +kernel
theorem dX9_lyndonPart_3 : decode cX9_lyndonPart 3 = .ok (.iload_n 1, 1) := by decide +kernel
theorem dX9_lyndonPart_4 : decode cX9_lyndonPart 4 = .ok (.iconst 1, 1) := by decide +kernel
theorem dX9_lyndonPart_5 : decode cX9_lyndonPart 5 = .ok (.iadd, 1) := by decide +kernel
theorem dX9_lyndonPart_6 : decode cX9_lyndonPart 6 = .ok (.istore 5, 2) := by decide +kernel
theorem dX9_lyndonPart_8 : decode cX9_lyndonPart 8 = .ok (.iload 5, 2) := by decide +kernel
theorem dX9_lyndonPart_10 : decode cX9_lyndonPart 10 = .ok (.iload_n 2, 1) := by decide +kernel
theorem dX9_lyndonPart_11 : decode cX9_lyndonPart 11 = .ok (.if_icmp .ge 34, 3) := by decide +kernel
theorem dX9_lyndonPart_14 : decode cX9_lyndonPart 14 = .ok (.iload 4, 2) := by decide +kernel
theorem dX9_lyndonPart_16 : decode cX9_lyndonPart 16 = .ok (.ifCond .eq 20, 3) := by decide +kernel
theorem dX9_lyndonPart_19 : decode cX9_lyndonPart 19 = .ok (.aload_n 0, 1) := by decide +kernel
theorem dX9_lyndonPart_20 : decode cX9_lyndonPart 20 = .ok (.iload_n 1, 1) := by decide +kernel
theorem dX9_lyndonPart_21 : decode cX9_lyndonPart 21 = .ok (.iload_n 2, 1) := by decide +kernel
theorem dX9_lyndonPart_22 : decode cX9_lyndonPart 22 = .ok (.iload 5, 2) := by decide +kernel
theorem dX9_lyndonPart_24 : decode cX9_lyndonPart 24 = .ok (.iload_n 2, 1) := by decide +kernel
theorem dX9_lyndonPart_25 : decode cX9_lyndonPart 25 = .ok (.iload_n 3, 1) := by decide +kernel
theorem dX9_lyndonPart_26 : decode cX9_lyndonPart 26 = .ok (.invokevirtual 98, 3) := by decide +kernel
theorem dX9_lyndonPart_29 : decode cX9_lyndonPart 29 = .ok (.ifCond .ge 7, 3) := by decide +kernel
theorem dX9_lyndonPart_32 : decode cX9_lyndonPart 32 = .ok (.iconst 1, 1) := by decide +kernel
theorem dX9_lyndonPart_33 : decode cX9_lyndonPart 33 = .ok (.goto 4, 3) := by decide +kernel
theorem dX9_lyndonPart_36 : decode cX9_lyndonPart 36 = .ok (.iconst 0, 1) := by decide +kernel
theorem dX9_lyndonPart_37 : decode cX9_lyndonPart 37 = .ok (.istore 4, 2) := by decide +kernel
theorem dX9_lyndonPart_39 : decode cX9_lyndonPart 39 = .ok (.iinc 5 1, 3) := by decide +kernel
theorem dX9_lyndonPart_42 : decode cX9_lyndonPart 42 = .ok (.goto (-34), 3) := by decide +kernel
theorem dX9_lyndonPart_45 : decode cX9_lyndonPart 45 = .ok (.iload 4, 2) := by decide +kernel
theorem dX9_lyndonPart_47 : decode cX9_lyndonPart 47 = .ok (.ireturn, 1) := by decide +kernel
set_option maxRecDepth 20000 in
theorem ggX9_isLyndon_X9_isPart : GoodIn wsX9_isLyndon wsX9_isPart := goodIn_r _ [5, 6, 25, 26, 27, 28, 29, 30, 31, 32, 33, 34, 35] (by decide +kernel) (by decide +kernel)
set_option maxRecDepth 20000 in
theorem gX9_isLyndon_X9_isPart : GoodIn wsX9_isLyndon (wsV RX9 56 RX9 yX9_isPart wsX9_isPart) := goodIn_app (goodIn_of _ (by decide +kernel)) ggX9_isLyndon_X9_isPart
set_option maxRecDepth 20000 in
theorem ggX9_isLyndon_X9_goesWell : GoodIn wsX9_isLyndon wsX9_goesWell := goodIn_r _ [10, 11, 25, 26, 27, 28, 29, 30, 31, 32, 33, 34, 35] (by decide +kernel) (by decide +kernel)
set_option maxRecDepth 20000 in
theorem gX9_isLyndon_X9_goesWell : GoodIn wsX9_isLyndon (wsV RX9 46 RX9 yX9_goesWell wsX9_goesWell) := goodIn_app (goodIn_of _ (by decide +kernel)) ggX9_isLyndon_X9_goesWell
set_option maxRecDepth 20000 in
theorem ggX9_isLyndon_X9_lyndonPart : GoodIn wsX9_isLyndon wsX9_lyndonPart := goodIn_r _ [15, 16, 17, 18, 4, 19, 20, 21, 22, 23, 24, 25, 26, 27, 28, 29, 30, 31, 32, 33, 34, 35] (by decide +kernel) (by decide +kernel)
set_option maxRecDepth 20000 in
theorem gX9_isLyndon_X9_lyndonPart : GoodIn wsX9_isLyndon (wsV RX9 102 RX9 yX9_lyndonPart wsX9_lyndonPart) := goodIn_app (goodIn_of _ (by decide +kernel)) ggX9_isLyndon_X9_lyndonPart
theorem dX9_isLyndon_0 : decode cX9_isLyndon 0 = .ok (.aload_n 0, 1) := by decide +kernel
theorem dX9_isLyndon_1 : decode cX9_isLyndon 1 = .ok (.aload_n 0, 1) := by decide +kernel
theorem dX9_isLyndon_2 : decode cX9_isLyndon 2 = .ok (.iload_n 1, 1) := by decide +kernel
theorem dX9_isLyndon_3 : decode cX9_isLyndon 3 = .ok (.iload_n 2, 1) := by decide +kernel
theorem dX9_isLyndon_4 : decode cX9_isLyndon 4 = .ok (.invokevirtual 56, 3) := by decide +kernel
theorem dX9_isLyndon_7 : decode cX9_isLyndon 7 = .ok (.ifCond .eq 7, 3) := by decide +kernel
theorem dX9_isLyndon_10 : decode cX9_isLyndon 10 = .ok (.iconst 0, 1) := by decide +kernel
theorem dX9_isLyndon_11 : decode cX9_isLyndon 11 = .ok (.goto 4, 3) := by decide +kernel
theorem dX9_isLyndon_14 : decode cX9_isLyndon 14 = .ok (.iconst 1, 1) := by decide +kernel
theorem dX9_isLyndon_15 : decode cX9_isLyndon 15 = .ok (.invokevirtual 46, 3) := by decide +kernel
theorem dX9_isLyndon_18 : decode cX9_isLyndon 18 = .ok (.ifCond .eq 17, 3) := by decide +kernel
theorem dX9_isLyndon_21 : decode cX9_isLyndon 21 = .ok (.aload_n 0, 1) := by decide +kernel
theorem dX9_isLyndon_22 : decode cX9_isLyndon 22 = .ok (.iload_n 1, 1) := by decide +kernel
theorem dX9_isLyndon_23 : decode cX9_isLyndon 23 = .ok (.iload_n 2, 1) := by decide +kernel
theorem dX9_isLyndon_24 : decode cX9_isLyndon 24 = .ok (.iconst 0, 1) := by decide +kernel
theorem dX9_isLyndon_25 : decode cX9_isLyndon 25 = .ok (.invokevirtual 102, 3) := by decide +kernel
theorem dX9_isLyndon_28 : decode cX9_isLyndon 28 = .ok (.ifCond .eq 7, 3) := by decide +kernel
theorem dX9_isLyndon_31 : decode cX9_isLyndon 31 = .ok (.iconst 1, 1) := by decide +kernel
theorem dX9_isLyndon_32 : decode cX9_isLyndon 32 = .ok (.goto 4, 3) := by decide +kernel
theorem dX9_isLyndon_35 : decode cX9_isLyndon 35 = .ok (.iconst 0, 1) := by decide +kernel
theorem dX9_isLyndon_36 : decode cX9_isLyndon 36 = .ok (.ireturn, 1) := by decide +kernel
set_option maxRecDepth 20000 in
theorem ggX9_longest_X9_lyndonPart : GoodIn wsX9_longest wsX9_lyndonPart := goodIn_r _ [6, 7, 8, 9, 5, 10, 11, 12, 13, 14, 15, 16, 17, 18, 19, 20, 21, 22, 23, 24, 25, 26] (by decide +kernel) (by decide +kernel)
set_option maxRecDepth 20000 in
theorem gX9_longest_X9_lyndonPart : GoodIn wsX9_longest (wsV RX9 102 RX9 yX9_lyndonPart wsX9_lyndonPart) := goodIn_app (goodIn_of _ (by decide +kernel)) ggX9_longest_X9_lyndonPart
theorem dX9_longest_0 : decode cX9_longest 0 = .ok (.aload_n 0, 1) := by decide +kernel
theorem dX9_longest_1 : decode cX9_longest 1 = .ok (.getfield 39, 3) := by decide +kernel
theorem dX9_longest_4 : decode cX9_longest 4 = .ok (.istore_n 3, 1) := by decide +kernel
theorem dX9_longest_5 : decode cX9_longest 5 = .ok (.aload_n 0, 1) := by decide +kernel
theorem dX9_longest_6 : decode cX9_longest 6 = .ok (.iload_n 1, 1) := by decide +kernel
theorem dX9_longest_7 : decode cX9_longest 7 = .ok (.iload_n 3, 1) := by decide +kernel
theorem dX9_longest_8 : decode cX9_longest 8 = .ok (.iload_n 2, 1) := by decide +kernel
theorem dX9_longest_9 : decode cX9_longest 9 = .ok (.invokevirtual 102, 3) := by decide +kernel
theorem dX9_longest_12 : decode cX9_longest 12 = .ok (.ifCond .ne 9, 3) := by decide +kernel
theorem dX9_longest_15 : decode cX9_longest 15 = .ok (.iinc 3 (-1), 3) := by decide +kernel
theorem dX9_longest_18 : decode cX9_longest 18 = .ok (.goto (-13), 3) := by decide +kernel
theorem dX9_longest_21 : decode cX9_longest 21 = .ok (.iload_n 3, 1) := by decide +kernel
theorem dX9_longest_22 : decode cX9_longest 22 = .ok (.iload_n 1, 1) := by decide +kernel
theorem dX9_longest_23 : decode cX9_longest 23 = .ok (.isub, 1) := by decide +kernel
theorem dX9_longest_24 : decode cX9_longest 24 = .ok (.ireturn, 1) := by decide +kernel
set_option maxRecDepth 20000 in
theorem ggX9_startOf_X9_longest : GoodIn wsX9_startOf wsX9_longest := goodIn_r _ [6, 1, 7, 8, 9, 5, 10, 11, 12, 13, 14, 15, 16, 17, 18, 19, 20, 21, 22, 23, 24, 25, 26, 27, 28, 29, 30] (by decide +kernel) (by decide +kernel)
set_option maxRecDepth 20000 in
theorem gX9_startOf_X9_longest : GoodIn wsX9_startOf (wsV RX9 106 RX9 yX9_longest wsX9_longest) := goodIn_app (goodIn_of _ (by decide +kernel)) ggX9_startOf_X9_longest
theorem dX9_startOf_0 : decode cX9_startOf 0 = .ok (.iconst 0, 1) := by decide +kernel
theorem dX9_startOf_1 : decode cX9_startOf 1 = .ok (.istore_n 2, 1) := by decide +kernel
theorem dX9_startOf_2 : decode cX9_startOf 2 = .ok (.iconst 0, 1) := by decide +kernel
theorem dX9_startOf_3 : decode cX9_startOf 3 = .ok (.istore_n 3, 1) := by decide +kernel
theorem dX9_startOf_4 : decode cX9_startOf 4 = .ok (.iload_n 2, 1) := by decide +kernel
theorem dX9_startOf_5 : decode cX9_startOf 5 = .ok (.aload_n 0, 1) := by decide +kernel
theorem dX9_startOf_6 : decode cX9_startOf 6 = .ok (.getfield 39, 3) := by decide +kernel
theorem dX9_startOf_9 : decode cX9_startOf 9 = .ok (.if_icmp .ge 23, 3) := by decide +kernel
theorem dX9_startOf_12 : decode cX9_startOf 12 = .ok (.iload_n 3, 1) := by decide +kernel
theorem dX9_startOf_13 : decode cX9_startOf 13 = .ok (.iload_n 1, 1) := by decide +kernel
theorem dX9_startOf_14 : decode cX9_startOf 14 = .ok (.if_icmp .ge 18, 3) := by decide +kernel
theorem dX9_startOf_17 : decode cX9_startOf 17 = .ok (.iload_n 2, 1) := by decide +kernel
theorem dX9_startOf_18 : decode cX9_startOf 18 = .ok (.aload_n 0, 1) := by decide +kernel
theorem dX9_startOf_19 : decode cX9_startOf 19 = .ok (.iload_n 2, 1) := by decide +kernel
theorem dX9_startOf_20 : decode cX9_startOf 20 = .ok (.iconst 0, 1) := by decide +kernel
theorem dX9_startOf_21 : decode cX9_startOf 21 = .ok (.invokevirtual 106, 3) := by decide +kernel
theorem dX9_startOf_24 : decode cX9_startOf 24 = .ok (.iadd, 1) := by decide +kernel
theorem dX9_startOf_25 : decode cX9_startOf 25 = .ok (.istore_n 2, 1) := by decide +kernel
theorem dX9_startOf_26 : decode cX9_startOf 26 = .ok (.iinc 3 1, 3) := by decide +kernel
theorem dX9_startOf_29 : decode cX9_startOf 29 = .ok (.goto (-25), 3) := by decide +kernel
theorem dX9_startOf_32 : decode cX9_startOf 32 = .ok (.iload_n 3, 1) := by decide +kernel
theorem dX9_startOf_33 : decode cX9_startOf 33 = .ok (.iload_n 1, 1) := by decide +kernel
theorem dX9_startOf_34 : decode cX9_startOf 34 = .ok (.if_icmp .ne 7, 3) := by decide +kernel
theorem dX9_startOf_37 : decode cX9_startOf 37 = .ok (.iload_n 2, 1) := by decide +kernel
theorem dX9_startOf_38 : decode cX9_startOf 38 = .ok (.goto 4, 3) := by decide +kernel
theorem dX9_startOf_41 : decode cX9_startOf 41 = .ok (.iconst (-1), 1) := by decide +kernel
theorem dX9_startOf_42 : decode cX9_startOf 42 = .ok (.ireturn, 1) := by decide +kernel
set_option maxRecDepth 20000 in
theorem ggX9_factorMany_X9_longest : GoodIn wsX9_factorMany wsX9_longest := goodIn_r _ [6, 1, 7, 8, 9, 5, 10, 11, 12, 13, 14, 15, 16, 17, 18, 19, 20, 21, 22, 23, 24, 25, 26, 27, 28, 29, 30] (by decide +kernel) (by decide +kernel)
set_option maxRecDepth 20000 in
theorem gX9_factorMany_X9_longest : GoodIn wsX9_factorMany (wsV RX9 106 RX9 yX9_longest wsX9_longest) := goodIn_app (goodIn_of _ (by decide +kernel)) ggX9_factorMany_X9_longest
theorem dX9_factorMany_0 : decode cX9_factorMany 0 = .ok (.iconst 0, 1) := by decide +kernel
theorem dX9_factorMany_1 : decode cX9_factorMany 1 = .ok (.istore_n 1, 1) := by decide +kernel
theorem dX9_factorMany_2 : decode cX9_factorMany 2 = .ok (.iconst 0, 1) := by decide +kernel
theorem dX9_factorMany_3 : decode cX9_factorMany 3 = .ok (.istore_n 2, 1) := by decide +kernel
theorem dX9_factorMany_4 : decode cX9_factorMany 4 = .ok (.iload_n 2, 1) := by decide +kernel
theorem dX9_factorMany_5 : decode cX9_factorMany 5 = .ok (.aload_n 0, 1) := by decide +kernel
theorem dX9_factorMany_6 : decode cX9_factorMany 6 = .ok (.getfield 39, 3) := by decide +kernel
theorem dX9_factorMany_9 : decode cX9_factorMany 9 = .ok (.if_icmp .ge 18, 3) := by decide +kernel
theorem dX9_factorMany_12 : decode cX9_factorMany 12 = .ok (.iinc 1 1, 3) := by decide +kernel
theorem dX9_factorMany_15 : decode cX9_factorMany 15 = .ok (.iload_n 2, 1) := by decide +kernel
theorem dX9_factorMany_16 : decode cX9_factorMany 16 = .ok (.aload_n 0, 1) := by decide +kernel
theorem dX9_factorMany_17 : decode cX9_factorMany 17 = .ok (.iload_n 2, 1) := by decide +kernel
theorem dX9_factorMany_18 : decode cX9_factorMany 18 = .ok (.iconst 0, 1) := by decide +kernel
theorem dX9_factorMany_19 : decode cX9_factorMany 19 = .ok (.invokevirtual 106, 3) := by decide +kernel
theorem dX9_factorMany_22 : decode cX9_factorMany 22 = .ok (.iadd, 1) := by decide +kernel
theorem dX9_factorMany_23 : decode cX9_factorMany 23 = .ok (.istore_n 2, 1) := by decide +kernel
theorem dX9_factorMany_24 : decode cX9_factorMany 24 = .ok (.goto (-20), 3) := by decide +kernel
theorem dX9_factorMany_27 : decode cX9_factorMany 27 = .ok (.iload_n 1, 1) := by decide +kernel
theorem dX9_factorMany_28 : decode cX9_factorMany 28 = .ok (.ireturn, 1) := by decide +kernel
set_option maxRecDepth 20000 in
theorem ggX9_factors_X9_factorMany : GoodIn wsX9_factors wsX9_factorMany := goodIn_r _ [6, 7, 8, 9, 10, 5, 11, 12, 13, 14, 15, 16, 17, 18, 19, 20, 21, 22, 23, 24, 25, 26, 27, 28, 29, 30, 31, 32, 33, 34, 35] (by decide +kernel) (by decide +kernel)
set_option maxRecDepth 20000 in
theorem gX9_factors_X9_factorMany : GoodIn wsX9_factors (wsV RX9 110 RX9 yX9_factorMany wsX9_factorMany) := goodIn_app (goodIn_of _ (by decide +kernel)) ggX9_factors_X9_factorMany
theorem dX9_factors_0 : decode cX9_factors 0 = .ok (.aload_n 0, 1) := by decide +kernel
theorem dX9_factors_1 : decode cX9_factors 1 = .ok (.iconst 0, 1) := by decide +kernel
theorem dX9_factors_2 : decode cX9_factors 2 = .ok (.putfield 35, 3) := by decide +kernel
theorem dX9_factors_5 : decode cX9_factors 5 = .ok (.aload_n 0, 1) := by decide +kernel
theorem dX9_factors_6 : decode cX9_factors 6 = .ok (.invokevirtual 110, 3) := by decide +kernel
theorem dX9_factors_9 : decode cX9_factors 9 = .ok (.ireturn, 1) := by decide +kernel
set_option maxRecDepth 20000 in
theorem ggX9_factorStart_X9_factorMany : GoodIn wsX9_factorStart wsX9_factorMany := goodIn_r _ [5, 6, 7, 8, 9, 4, 10, 11, 12, 13, 14, 15, 16, 17, 18, 19, 20, 21, 22, 23, 36, 37, 38, 39, 40, 41, 42, 43, 44, 45, 46] (by decide +kernel) (by decide +kernel)
set_option maxRecDepth 20000 in
theorem gX9_factorStart_X9_factorMany : GoodIn wsX9_factorStart (wsV RX9 110 RX9 yX9_factorMany wsX9_factorMany) := goodIn_app (goodIn_of _ (by decide +kernel)) ggX9_factorStart_X9_factorMany
set_option maxRecDepth 20000 in
theorem ggX9_factorStart_X9_in : GoodIn wsX9_factorStart wsX9_in := goodIn_r _ [26] (by decide +kernel) (by decide +kernel)
set_option maxRecDepth 20000 in
theorem gX9_factorStart_X9_in : GoodIn wsX9_factorStart (va_wsS RX9 42 yX9_in wsX9_in) := goodIn_app (goodIn_of _ (by decide +kernel)) ggX9_factorStart_X9_in
set_option maxRecDepth 20000 in
theorem ggX9_factorStart_X9_goesWell : GoodIn wsX9_factorStart wsX9_goesWell := goodIn_r _ [30, 31, 36, 37, 38, 39, 40, 41, 42, 43, 44, 45, 46] (by decide +kernel) (by decide +kernel)
set_option maxRecDepth 20000 in
theorem gX9_factorStart_X9_goesWell : GoodIn wsX9_factorStart (wsV RX9 46 RX9 yX9_goesWell wsX9_goesWell) := goodIn_app (goodIn_of _ (by decide +kernel)) ggX9_factorStart_X9_goesWell
set_option maxRecDepth 20000 in
theorem ggX9_factorStart_X9_startOf : GoodIn wsX9_factorStart wsX9_startOf := goodIn_r _ [35, 6, 7, 8, 9, 4, 10, 11, 12, 13, 14, 15, 16, 17, 18, 19, 20, 21, 22, 23, 36, 37, 38, 39, 40, 41, 42, 43, 44, 45, 46] (by decide +kernel) (by decide +kernel)
set_option maxRecDepth 20000 in
theorem gX9_factorStart_X9_startOf : GoodIn wsX9_factorStart (wsV RX9 114 RX9 yX9_startOf wsX9_startOf) := goodIn_app (goodIn_of _ (by decide +kernel)) ggX9_factorStart_X9_startOf
theorem dX9_factorStart_0 : decode cX9_factorStart 0 = .ok (.aload_n 0, 1) := by decide +kernel
theorem dX9_factorStart_1 : decode cX9_factorStart 1 = .ok (.iload_n 1, 1) := by decide +kernel
theorem dX9_factorStart_2 : decode cX9_factorStart 2 = .ok (.iconst 0, 1) := by decide +kernel
theorem dX9_factorStart_3 : decode cX9_factorStart 3 = .ok (.aload_n 0, 1) := by decide +kernel
theorem dX9_factorStart_4 : decode cX9_factorStart 4 = .ok (.invokevirtual 110, 3) := by decide +kernel
theorem dX9_factorStart_7 : decode cX9_factorStart 7 = .ok (.iconst 1, 1) := by decide +kernel
theorem dX9_factorStart_8 : decode cX9_factorStart 8 = .ok (.isub, 1) := by decide +kernel
theorem dX9_factorStart_9 : decode cX9_factorStart 9 = .ok (.invokestatic 42, 3) := by decide +kernel
theorem dX9_factorStart_12 : decode cX9_factorStart 12 = .ok (.ifCond .eq 7, 3) := by decide +kernel
theorem dX9_factorStart_15 : decode cX9_factorStart 15 = .ok (.iconst 0, 1) := by decide +kernel
theorem dX9_factorStart_16 : decode cX9_factorStart 16 = .ok (.goto 4, 3) := by decide +kernel
theorem dX9_factorStart_19 : decode cX9_factorStart 19 = .ok (.iconst 1, 1) := by decide +kernel
theorem dX9_factorStart_20 : decode cX9_factorStart 20 = .ok (.invokevirtual 46, 3) := by decide +kernel
theorem dX9_factorStart_23 : decode cX9_factorStart 23 = .ok (.ifCond .eq 11, 3) := by decide +kernel
theorem dX9_factorStart_26 : decode cX9_factorStart 26 = .ok (.aload_n 0, 1) := by decide +kernel
theorem dX9_factorStart_27 : decode cX9_factorStart 27 = .ok (.iload_n 1, 1) := by decide +kernel
theorem dX9_factorStart_28 : decode cX9_factorStart 28 = .ok (.invokevirtual 114, 3) := by decide +kernel
theorem dX9_factorStart_31 : decode cX9_factorStart 31 = .ok (.goto 4, 3) := by decide +kernel
theorem dX9_factorStart_34 : decode cX9_factorStart 34 = .ok (.iconst 0, 1) := by decide +kernel
theorem dX9_factorStart_35 : decode cX9_factorStart 35 = .ok (.ireturn, 1) := by decide +kernel
set_option maxRecDepth 20000 in
theorem ggX9_factorLength_X9_factorMany : GoodIn wsX9_factorLength wsX9_factorMany := goodIn_r _ [5, 6, 7, 8, 9, 4, 10, 11, 12, 13, 14, 15, 16, 17, 18, 19, 20, 21, 22, 23, 36, 37, 38, 39, 40, 41, 42, 43, 44, 45, 46] (by decide +kernel) (by decide +kernel)
set_option maxRecDepth 20000 in
theorem gX9_factorLength_X9_factorMany : GoodIn wsX9_factorLength (wsV RX9 110 RX9 yX9_factorMany wsX9_factorMany) := goodIn_app (goodIn_of _ (by decide +kernel)) ggX9_factorLength_X9_factorMany
set_option maxRecDepth 20000 in
theorem ggX9_factorLength_X9_in : GoodIn wsX9_factorLength wsX9_in := goodIn_r _ [26] (by decide +kernel) (by decide +kernel)
set_option maxRecDepth 20000 in
theorem gX9_factorLength_X9_in : GoodIn wsX9_factorLength (va_wsS RX9 42 yX9_in wsX9_in) := goodIn_app (goodIn_of _ (by decide +kernel)) ggX9_factorLength_X9_in
set_option maxRecDepth 20000 in
theorem ggX9_factorLength_X9_goesWell : GoodIn wsX9_factorLength wsX9_goesWell := goodIn_r _ [30, 31, 36, 37, 38, 39, 40, 41, 42, 43, 44, 45, 46] (by decide +kernel) (by decide +kernel)
set_option maxRecDepth 20000 in
theorem gX9_factorLength_X9_goesWell : GoodIn wsX9_factorLength (wsV RX9 46 RX9 yX9_goesWell wsX9_goesWell) := goodIn_app (goodIn_of _ (by decide +kernel)) ggX9_factorLength_X9_goesWell
set_option maxRecDepth 20000 in
theorem ggX9_factorLength_X9_startOf : GoodIn wsX9_factorLength wsX9_startOf := goodIn_r _ [35, 6, 7, 8, 9, 4, 10, 11, 12, 13, 14, 15, 16, 17, 18, 19, 20, 21, 22, 23, 36, 37, 38, 39, 40, 41, 42, 43, 44, 45, 46] (by decide +kernel) (by decide +kernel)
set_option maxRecDepth 20000 in
theorem gX9_factorLength_X9_startOf : GoodIn wsX9_factorLength (wsV RX9 114 RX9 yX9_startOf wsX9_startOf) := goodIn_app (goodIn_of _ (by decide +kernel)) ggX9_factorLength_X9_startOf
set_option maxRecDepth 20000 in
theorem ggX9_factorLength_X9_longest : GoodIn wsX9_factorLength wsX9_longest := goodIn_r _ [10, 6, 11, 12, 13, 4, 14, 15, 16, 17, 18, 19, 20, 21, 22, 23, 36, 37, 38, 39, 40, 41, 42, 43, 44, 45, 46] (by decide +kernel) (by decide +kernel)
set_option maxRecDepth 20000 in
theorem gX9_factorLength_X9_longest : GoodIn wsX9_factorLength (wsV RX9 106 RX9 yX9_longest wsX9_longest) := goodIn_app (goodIn_of _ (by decide +kernel)) ggX9_factorLength_X9_longest
theorem dX9_factorLength_0 : decode cX9_factorLength 0 = .ok (.aload_n 0, 1) := by decide +kernel
theorem dX9_factorLength_1 : decode cX9_factorLength 1 = .ok (.iload_n 1, 1) := by decide +kernel
theorem dX9_factorLength_2 : decode cX9_factorLength 2 = .ok (.iconst 0, 1) := by decide +kernel
theorem dX9_factorLength_3 : decode cX9_factorLength 3 = .ok (.aload_n 0, 1) := by decide +kernel
theorem dX9_factorLength_4 : decode cX9_factorLength 4 = .ok (.invokevirtual 110, 3) := by decide +kernel
theorem dX9_factorLength_7 : decode cX9_factorLength 7 = .ok (.iconst 1, 1) := by decide +kernel
theorem dX9_factorLength_8 : decode cX9_factorLength 8 = .ok (.isub, 1) := by decide +kernel
theorem dX9_factorLength_9 : decode cX9_factorLength 9 = .ok (.invokestatic 42, 3) := by decide +kernel
theorem dX9_factorLength_12 : decode cX9_factorLength 12 = .ok (.ifCond .eq 7, 3) := by decide +kernel
theorem dX9_factorLength_15 : decode cX9_factorLength 15 = .ok (.iconst 0, 1) := by decide +kernel
theorem dX9_factorLength_16 : decode cX9_factorLength 16 = .ok (.goto 4, 3) := by decide +kernel
theorem dX9_factorLength_19 : decode cX9_factorLength 19 = .ok (.iconst 1, 1) := by decide +kernel
theorem dX9_factorLength_20 : decode cX9_factorLength 20 = .ok (.invokevirtual 46, 3) := by decide +kernel
theorem dX9_factorLength_23 : decode cX9_factorLength 23 = .ok (.ifCond .eq 16, 3) := by decide +kernel
theorem dX9_factorLength_26 : decode cX9_factorLength 26 = .ok (.aload_n 0, 1) := by decide +kernel
theorem dX9_factorLength_27 : decode cX9_factorLength 27 = .ok (.aload_n 0, 1) := by decide +kernel
theorem dX9_factorLength_28 : decode cX9_factorLength 28 = .ok (.iload_n 1, 1) := by decide +kernel
theorem dX9_factorLength_29 : decode cX9_factorLength 29 = .ok (.invokevirtual 114, 3) := by decide +kernel
theorem dX9_factorLength_32 : decode cX9_factorLength 32 = .ok (.iconst 0, 1) := by decide +kernel
theorem dX9_factorLength_33 : decode cX9_factorLength 33 = .ok (.invokevirtual 106, 3) := by decide +kernel
theorem dX9_factorLength_36 : decode cX9_factorLength 36 = .ok (.goto 4, 3) := by decide +kernel
theorem dX9_factorLength_39 : decode cX9_factorLength 39 = .ok (.iconst 0, 1) := by decide +kernel
theorem dX9_factorLength_40 : decode cX9_factorLength 40 = .ok (.ireturn, 1) := by decide +kernel
set_option maxRecDepth 20000 in
theorem ggX9_factorOver_X9_isPlace : GoodIn wsX9_factorOver wsX9_isPlace := goodIn_r _ [5, 6, 7, 8, 4, 9, 36, 37, 38, 39, 40, 41, 42, 43, 44, 45, 46] (by decide +kernel) (by decide +kernel)
set_option maxRecDepth 20000 in
theorem gX9_factorOver_X9_isPlace : GoodIn wsX9_factorOver (wsV RX9 50 RX9 yX9_isPlace wsX9_isPlace) := goodIn_app (goodIn_of _ (by decide +kernel)) ggX9_factorOver_X9_isPlace
set_option maxRecDepth 20000 in
theorem ggX9_factorOver_X9_goesWell : GoodIn wsX9_factorOver wsX9_goesWell := goodIn_r _ [13, 14, 36, 37, 38, 39, 40, 41, 42, 43, 44, 45, 46] (by decide +kernel) (by decide +kernel)
set_option maxRecDepth 20000 in
theorem gX9_factorOver_X9_goesWell : GoodIn wsX9_factorOver (wsV RX9 46 RX9 yX9_goesWell wsX9_goesWell) := goodIn_app (goodIn_of _ (by decide +kernel)) ggX9_factorOver_X9_goesWell
set_option maxRecDepth 20000 in
theorem ggX9_factorOver_X9_startOf : GoodIn wsX9_factorOver wsX9_startOf := goodIn_r _ [18, 6, 19, 20, 21, 4, 22, 23, 24, 25, 26, 27, 28, 29, 30, 31, 32, 33, 34, 35, 36, 37, 38, 39, 40, 41, 42, 43, 44, 45, 46] (by decide +kernel) (by decide +kernel)
set_option maxRecDepth 20000 in
theorem gX9_factorOver_X9_startOf : GoodIn wsX9_factorOver (wsV RX9 114 RX9 yX9_startOf wsX9_startOf) := goodIn_app (goodIn_of _ (by decide +kernel)) ggX9_factorOver_X9_startOf
theorem dX9_factorOver_0 : decode cX9_factorOver 0 = .ok (.aload_n 0, 1) := by decide +kernel
theorem dX9_factorOver_1 : decode cX9_factorOver 1 = .ok (.aload_n 0, 1) := by decide +kernel
theorem dX9_factorOver_2 : decode cX9_factorOver 2 = .ok (.iload_n 1, 1) := by decide +kernel
theorem dX9_factorOver_3 : decode cX9_factorOver 3 = .ok (.invokevirtual 50, 3) := by decide +kernel
theorem dX9_factorOver_6 : decode cX9_factorOver 6 = .ok (.ifCond .eq 7, 3) := by decide +kernel
theorem dX9_factorOver_9 : decode cX9_factorOver 9 = .ok (.iconst 0, 1) := by decide +kernel
theorem dX9_factorOver_10 : decode cX9_factorOver 10 = .ok (.goto 4, 3) := by decide +kernel
theorem dX9_factorOver_13 : decode cX9_factorOver 13 = .ok (.iconst 1, 1) := by decide +kernel
theorem dX9_factorOver_14 : decode cX9_factorOver 14 = .ok (.invokevirtual 46, 3) := by decide +kernel
theorem dX9_factorOver_17 : decode cX9_factorOver 17 = .ok (.ifCond .ne 5, 3) := by decide +kernel
theorem dX9_factorOver_20 : decode cX9_factorOver 20 = .ok (.iconst 0, 1) := by decide +kernel
theorem dX9_factorOver_21 : decode cX9_factorOver 21 = .ok (.ireturn, 1) := by decide +kernel
theorem dX9_factorOver_22 : decode cX9_factorOver 22 = .ok (.iconst 0, 1) := by decide +kernel
theorem dX9_factorOver_23 : decode cX9_factorOver 23 = .ok (.istore_n 2, 1) := by decide +kernel
theorem dX9_factorOver_24 : decode cX9_factorOver 24 = .ok (.aload_n 0, 1) := by decide +kernel
theorem dX9_factorOver_25 : decode cX9_factorOver 25 = .ok (.iload_n 2, 1) := by decide +kernel
theorem dX9_factorOver_26 : decode cX9_factorOver 26 = .ok (.iconst 1, 1) := by decide +kernel
theorem dX9_factorOver_27 : decode cX9_factorOver 27 = .ok (.iadd, 1) := by decide +kernel
theorem dX9_factorOver_28 : decode cX9_factorOver 28 = .ok (.invokevirtual 114, 3) := by decide +kernel
theorem dX9_factorOver_31 : decode cX9_factorOver 31 = .ok (.iload_n 1, 1) := by decide +kernel
theorem dX9_factorOver_32 : decode cX9_factorOver 32 = .ok (.if_icmp .gt 9, 3) := by decide +kernel
theorem dX9_factorOver_35 : decode cX9_factorOver 35 = .ok (.iinc 2 1, 3) := by decide +kernel
theorem dX9_factorOver_38 : decode cX9_factorOver 38 = .ok (.goto (-14), 3) := by decide +kernel
theorem dX9_factorOver_41 : decode cX9_factorOver 41 = .ok (.iload_n 2, 1) := by decide +kernel
theorem dX9_factorOver_42 : decode cX9_factorOver 42 = .ok (.ireturn, 1) := by decide +kernel
set_option maxRecDepth 20000 in
theorem ggX9_longestLyndon_X9_isPlace : GoodIn wsX9_longestLyndon wsX9_isPlace := goodIn_r _ [5, 6, 7, 8, 4, 9, 32, 33, 34, 35, 36, 37, 38, 39, 40, 41, 42] (by decide +kernel) (by decide +kernel)
set_option maxRecDepth 20000 in
theorem gX9_longestLyndon_X9_isPlace : GoodIn wsX9_longestLyndon (wsV RX9 50 RX9 yX9_isPlace wsX9_isPlace) := goodIn_app (goodIn_of _ (by decide +kernel)) ggX9_longestLyndon_X9_isPlace
set_option maxRecDepth 20000 in
theorem ggX9_longestLyndon_X9_goesWell : GoodIn wsX9_longestLyndon wsX9_goesWell := goodIn_r _ [13, 14, 32, 33, 34, 35, 36, 37, 38, 39, 40, 41, 42] (by decide +kernel) (by decide +kernel)
set_option maxRecDepth 20000 in
theorem gX9_longestLyndon_X9_goesWell : GoodIn wsX9_longestLyndon (wsV RX9 46 RX9 yX9_goesWell wsX9_goesWell) := goodIn_app (goodIn_of _ (by decide +kernel)) ggX9_longestLyndon_X9_goesWell
set_option maxRecDepth 20000 in
theorem ggX9_longestLyndon_X9_longest : GoodIn wsX9_longestLyndon wsX9_longest := goodIn_r _ [18, 6, 19, 20, 21, 4, 22, 23, 24, 25, 26, 27, 28, 29, 30, 31, 32, 33, 34, 35, 36, 37, 38, 39, 40, 41, 42] (by decide +kernel) (by decide +kernel)
set_option maxRecDepth 20000 in
theorem gX9_longestLyndon_X9_longest : GoodIn wsX9_longestLyndon (wsV RX9 106 RX9 yX9_longest wsX9_longest) := goodIn_app (goodIn_of _ (by decide +kernel)) ggX9_longestLyndon_X9_longest
theorem dX9_longestLyndon_0 : decode cX9_longestLyndon 0 = .ok (.aload_n 0, 1) := by decide +kernel
theorem dX9_longestLyndon_1 : decode cX9_longestLyndon 1 = .ok (.aload_n 0, 1) := by decide +kernel
theorem dX9_longestLyndon_2 : decode cX9_longestLyndon 2 = .ok (.iload_n 1, 1) := by decide +kernel
theorem dX9_longestLyndon_3 : decode cX9_longestLyndon 3 = .ok (.invokevirtual 50, 3) := by decide +kernel
theorem dX9_longestLyndon_6 : decode cX9_longestLyndon 6 = .ok (.ifCond .eq 7, 3) := by decide +kernel
theorem dX9_longestLyndon_9 : decode cX9_longestLyndon 9 = .ok (.iconst 0, 1) := by decide +kernel
theorem dX9_longestLyndon_10 : decode cX9_longestLyndon 10 = .ok (.goto 4, 3) := by decide +kernel
theorem dX9_longestLyndon_13 : decode cX9_longestLyndon 13 = .ok (.iconst 1, 1) := by decide +kernel
theorem dX9_longestLyndon_14 : decode cX9_longestLyndon 14 = .ok (.invokevirtual 46, 3) := by decide +kernel
theorem dX9_longestLyndon_17 : decode cX9_longestLyndon 17 = .ok (.ifCond .eq 12, 3) := by decide +kernel
theorem dX9_longestLyndon_20 : decode cX9_longestLyndon 20 = .ok (.aload_n 0, 1) := by decide +kernel
theorem dX9_longestLyndon_21 : decode cX9_longestLyndon 21 = .ok (.iload_n 1, 1) := by decide +kernel
theorem dX9_longestLyndon_22 : decode cX9_longestLyndon 22 = .ok (.iload_n 2, 1) := by decide +kernel
theorem dX9_longestLyndon_23 : decode cX9_longestLyndon 23 = .ok (.invokevirtual 106, 3) := by decide +kernel
theorem dX9_longestLyndon_26 : decode cX9_longestLyndon 26 = .ok (.goto 4, 3) := by decide +kernel
theorem dX9_longestLyndon_29 : decode cX9_longestLyndon 29 = .ok (.iconst 0, 1) := by decide +kernel
theorem dX9_longestLyndon_30 : decode cX9_longestLyndon 30 = .ok (.ireturn, 1) := by decide +kernel
set_option maxRecDepth 20000 in
theorem ggX9_standardFactor_X9_isPart : GoodIn wsX9_standardFactor wsX9_isPart := goodIn_r _ [5, 6, 25, 26, 27, 28, 29, 30, 31, 32, 33, 34, 35] (by decide +kernel) (by decide +kernel)
set_option maxRecDepth 20000 in
theorem gX9_standardFactor_X9_isPart : GoodIn wsX9_standardFactor (wsV RX9 56 RX9 yX9_isPart wsX9_isPart) := goodIn_app (goodIn_of _ (by decide +kernel)) ggX9_standardFactor_X9_isPart
set_option maxRecDepth 20000 in
theorem ggX9_standardFactor_X9_lyndonPart : GoodIn wsX9_standardFactor wsX9_lyndonPart := goodIn_r _ [10, 11, 12, 13, 4, 14, 15, 16, 17, 18, 19, 25, 26, 27, 28, 29, 30, 31, 32, 33, 34, 35] (by decide +kernel) (by decide +kernel)
set_option maxRecDepth 20000 in
theorem gX9_standardFactor_X9_lyndonPart : GoodIn wsX9_standardFactor (wsV RX9 102 RX9 yX9_lyndonPart wsX9_lyndonPart) := goodIn_app (goodIn_of _ (by decide +kernel)) ggX9_standardFactor_X9_lyndonPart
set_option maxRecDepth 20000 in
theorem ggX9_standardFactor_X9_goesWell : GoodIn wsX9_standardFactor wsX9_goesWell := goodIn_r _ [23, 24, 25, 26, 27, 28, 29, 30, 31, 32, 33, 34, 35] (by decide +kernel) (by decide +kernel)
set_option maxRecDepth 20000 in
theorem gX9_standardFactor_X9_goesWell : GoodIn wsX9_standardFactor (wsV RX9 46 RX9 yX9_goesWell wsX9_goesWell) := goodIn_app (goodIn_of _ (by decide +kernel)) ggX9_standardFactor_X9_goesWell
theorem dX9_standardFactor_0 : decode cX9_standardFactor 0 = .ok (.aload_n 0, 1) := by decide +kernel
theorem dX9_standardFactor_1 : decode cX9_standardFactor 1 = .ok (.aload_n 0, 1) := by decide +kernel
theorem dX9_standardFactor_2 : decode cX9_standardFactor 2 = .ok (.iload_n 1, 1) := by decide +kernel
theorem dX9_standardFactor_3 : decode cX9_standardFactor 3 = .ok (.iload_n 2, 1) := by decide +kernel
theorem dX9_standardFactor_4 : decode cX9_standardFactor 4 = .ok (.invokevirtual 56, 3) := by decide +kernel
theorem dX9_standardFactor_7 : decode cX9_standardFactor 7 = .ok (.ifCond .ne 7, 3) := by decide +kernel
theorem dX9_standardFactor_10 : decode cX9_standardFactor 10 = .ok (.iconst 1, 1) := by decide +kernel
theorem dX9_standardFactor_11 : decode cX9_standardFactor 11 = .ok (.goto 25, 3) := by decide +kernel
theorem dX9_standardFactor_14 : decode cX9_standardFactor 14 = .ok (.iload_n 2, 1) := by decide +kernel
theorem dX9_standardFactor_15 : decode cX9_standardFactor 15 = .ok (.iload_n 1, 1) := by decide +kernel
theorem dX9_standardFactor_16 : decode cX9_standardFactor 16 = .ok (.isub, 1) := by decide +kernel
theorem dX9_standardFactor_17 : decode cX9_standardFactor 17 = .ok (.iconst 1, 1) := by decide +kernel
theorem dX9_standardFactor_18 : decode cX9_standardFactor 18 = .ok (.if_icmp .eq 13, 3) := by decide +kernel
theorem dX9_standardFactor_21 : decode cX9_standardFactor 21 = .ok (.aload_n 0, 1) := by decide +kernel
theorem dX9_standardFactor_22 : decode cX9_standardFactor 22 = .ok (.iload_n 1, 1) := by decide +kernel
theorem dX9_standardFactor_23 : decode cX9_standardFactor 23 = .ok (.iload_n 2, 1) := by decide +kernel
theorem dX9_standardFactor_24 : decode cX9_standardFactor 24 = .ok (.iconst 0, 1) := by decide +kernel
theorem dX9_standardFactor_25 : decode cX9_standardFactor 25 = .ok (.invokevirtual 102, 3) := by decide +kernel
theorem dX9_standardFactor_28 : decode cX9_standardFactor 28 = .ok (.ifCond .ne 7, 3) := by decide +kernel
theorem dX9_standardFactor_31 : decode cX9_standardFactor 31 = .ok (.iconst 2, 1) := by decide +kernel
theorem dX9_standardFactor_32 : decode cX9_standardFactor 32 = .ok (.goto 4, 3) := by decide +kernel
theorem dX9_standardFactor_35 : decode cX9_standardFactor 35 = .ok (.iconst 0, 1) := by decide +kernel
theorem dX9_standardFactor_36 : decode cX9_standardFactor 36 = .ok (.invokevirtual 46, 3) := by decide +kernel
theorem dX9_standardFactor_39 : decode cX9_standardFactor 39 = .ok (.ifCond .ne 5, 3) := by decide +kernel
theorem dX9_standardFactor_42 : decode cX9_standardFactor 42 = .ok (.iconst 0, 1) := by decide +kernel
theorem dX9_standardFactor_43 : decode cX9_standardFactor 43 = .ok (.ireturn, 1) := by decide +kernel
theorem dX9_standardFactor_44 : decode cX9_standardFactor 44 = .ok (.iload_n 1, 1) := by decide +kernel
theorem dX9_standardFactor_45 : decode cX9_standardFactor 45 = .ok (.iconst 1, 1) := by decide +kernel
theorem dX9_standardFactor_46 : decode cX9_standardFactor 46 = .ok (.iadd, 1) := by decide +kernel
theorem dX9_standardFactor_47 : decode cX9_standardFactor 47 = .ok (.istore_n 3, 1) := by decide +kernel
theorem dX9_standardFactor_48 : decode cX9_standardFactor 48 = .ok (.aload_n 0, 1) := by decide +kernel
theorem dX9_standardFactor_49 : decode cX9_standardFactor 49 = .ok (.iload_n 3, 1) := by decide +kernel
theorem dX9_standardFactor_50 : decode cX9_standardFactor 50 = .ok (.iload_n 2, 1) := by decide +kernel
theorem dX9_standardFactor_51 : decode cX9_standardFactor 51 = .ok (.iconst 0, 1) := by decide +kernel
theorem dX9_standardFactor_52 : decode cX9_standardFactor 52 = .ok (.invokevirtual 102, 3) := by decide +kernel
theorem dX9_standardFactor_55 : decode cX9_standardFactor 55 = .ok (.ifCond .ne 9, 3) := by decide +kernel
theorem dX9_standardFactor_58 : decode cX9_standardFactor 58 = .ok (.iinc 3 1, 3) := by decide +kernel
theorem dX9_standardFactor_61 : decode cX9_standardFactor 61 = .ok (.goto (-13), 3) := by decide +kernel
theorem dX9_standardFactor_64 : decode cX9_standardFactor 64 = .ok (.iload_n 3, 1) := by decide +kernel
theorem dX9_standardFactor_65 : decode cX9_standardFactor 65 = .ok (.ireturn, 1) := by decide +kernel
theorem dX9_turned_0 : decode cX9_turned 0 = .ok (.iload_n 2, 1) := by decide +kernel
theorem dX9_turned_1 : decode cX9_turned 1 = .ok (.iload_n 1, 1) := by decide +kernel
theorem dX9_turned_2 : decode cX9_turned 2 = .ok (.isub, 1) := by decide +kernel
theorem dX9_turned_3 : decode cX9_turned 3 = .ok (.istore 5, 2) := by decide +kernel
theorem dX9_turned_5 : decode cX9_turned 5 = .ok (.iconst 0, 1) := by decide +kernel
theorem dX9_turned_6 : decode cX9_turned 6 = .ok (.istore 6, 2) := by decide +kernel
theorem dX9_turned_8 : decode cX9_turned 8 = .ok (.iload 6, 2) := by decide +kernel
theorem dX9_turned_10 : decode cX9_turned 10 = .ok (.iload 5, 2) := by decide +kernel
theorem dX9_turned_12 : decode cX9_turned 12 = .ok (.if_icmp .ge 41, 3) := by decide +kernel
theorem dX9_turned_15 : decode cX9_turned 15 = .ok (.aload_n 0, 1) := by decide +kernel
theorem dX9_turned_16 : decode cX9_turned 16 = .ok (.getfield 7, 3) := by decide +kernel
theorem dX9_turned_19 : decode cX9_turned 19 = .ok (.iload_n 1, 1) := by decide +kernel
theorem dX9_turned_20 : decode cX9_turned 20 = .ok (.iload 6, 2) := by decide +kernel
theorem dX9_turned_22 : decode cX9_turned 22 = .ok (.iload_n 3, 1) := by decide +kernel
theorem dX9_turned_23 : decode cX9_turned 23 = .ok (.iadd, 1) := by decide +kernel
theorem dX9_turned_24 : decode cX9_turned 24 = .ok (.iload 5, 2) := by decide +kernel
theorem dX9_turned_26 : decode cX9_turned 26 = .ok (.irem, 1) := by decide +kernel
theorem dX9_turned_27 : decode cX9_turned 27 = .ok (.iadd, 1) := by decide +kernel
theorem dX9_turned_28 : decode cX9_turned 28 = .ok (.iaload, 1) := by decide +kernel
theorem dX9_turned_29 : decode cX9_turned 29 = .ok (.aload_n 0, 1) := by decide +kernel
theorem dX9_turned_30 : decode cX9_turned 30 = .ok (.getfield 7, 3) := by decide +kernel
theorem dX9_turned_33 : decode cX9_turned 33 = .ok (.iload_n 1, 1) := by decide +kernel
theorem dX9_turned_34 : decode cX9_turned 34 = .ok (.iload 6, 2) := by decide +kernel
theorem dX9_turned_36 : decode cX9_turned 36 = .ok (.iload 4, 2) := by decide +kernel
theorem dX9_turned_38 : decode cX9_turned 38 = .ok (.iadd, 1) := by decide +kernel
theorem dX9_turned_39 : decode cX9_turned 39 = .ok (.iload 5, 2) := by decide +kernel
theorem dX9_turned_41 : decode cX9_turned 41 = .ok (.irem, 1) := by decide +kernel
theorem dX9_turned_42 : decode cX9_turned 42 = .ok (.iadd, 1) := by decide +kernel
theorem dX9_turned_43 : decode cX9_turned 43 = .ok (.iaload, 1) := by decide +kernel
theorem dX9_turned_44 : decode cX9_turned 44 = .ok (.if_icmp .ne 9, 3) := by decide +kernel
theorem dX9_turned_47 : decode cX9_turned 47 = .ok (.iinc 6 1, 3) := by decide +kernel
theorem dX9_turned_50 : decode cX9_turned 50 = .ok (.goto (-42), 3) := by decide +kernel
theorem dX9_turned_53 : decode cX9_turned 53 = .ok (.iload 6, 2) := by decide +kernel
theorem dX9_turned_55 : decode cX9_turned 55 = .ok (.iload 5, 2) := by decide +kernel
theorem dX9_turned_57 : decode cX9_turned 57 = .ok (.if_icmp .ne 7, 3) := by decide +kernel
theorem dX9_turned_60 : decode cX9_turned 60 = .ok (.iconst 0, 1) := by decide +kernel
theorem dX9_turned_61 : decode cX9_turned 61 = .ok (.goto 33, 3) := by decide +kernel
theorem dX9_turned_64 : decode cX9_turned 64 = .ok (.aload_n 0, 1) := by decide +kernel
theorem dX9_turned_65 : decode cX9_turned 65 = .ok (.getfield 7, 3) := by decide +kernel
theorem dX9_turned_68 : decode cX9_turned 68 = .ok (.iload_n 1, 1) := by decide +kernel
theorem dX9_turned_69 : decode cX9_turned 69 = .ok (.iload 6, 2) := by decide +kernel
theorem dX9_turned_71 : decode cX9_turned 71 = .ok (.iload_n 3, 1) := by decide +kernel
theorem dX9_turned_72 : decode cX9_turned 72 = .ok (.iadd, 1) := by decide +kernel
theorem dX9_turned_73 : decode cX9_turned 73 = .ok (.iload 5, 2) := by decide +kernel
theorem dX9_turned_75 : decode cX9_turned 75 = .ok (.irem, 1) := by decide +kernel
theorem dX9_turned_76 : decode cX9_turned 76 = .ok (.iadd, 1) := by decide +kernel
theorem dX9_turned_77 : decode cX9_turned 77 = .ok (.iaload, 1) := by decide +kernel
theorem dX9_turned_78 : decode cX9_turned 78 = .ok (.aload_n 0, 1) := by decide +kernel
theorem dX9_turned_79 : decode cX9_turned 79 = .ok (.getfield 7, 3) := by decide +kernel
theorem dX9_turned_82 : decode cX9_turned 82 = .ok (.iload_n 1, 1) := by decide +kernel
theorem dX9_turned_83 : decode cX9_turned 83 = .ok (.iload 6, 2) := by decide +kernel
theorem dX9_turned_85 : decode cX9_turned 85 = .ok (.iload 4, 2) := by decide +kernel
theorem dX9_turned_87 : decode cX9_turned 87 = .ok (.iadd, 1) := by decide +kernel
theorem dX9_turned_88 : decode cX9_turned 88 = .ok (.iload 5, 2) := by decide +kernel
theorem dX9_turned_90 : decode cX9_turned 90 = .ok (.irem, 1) := by decide +kernel
theorem dX9_turned_91 : decode cX9_turned 91 = .ok (.iadd, 1) := by decide +kernel
theorem dX9_turned_92 : decode cX9_turned 92 = .ok (.iaload, 1) := by decide +kernel
theorem dX9_turned_93 : decode cX9_turned 93 = .ok (.isub, 1) := by decide +kernel
theorem dX9_turned_94 : decode cX9_turned 94 = .ok (.ireturn, 1) := by decide +kernel
set_option maxRecDepth 20000 in
theorem ggX9_least_X9_turned : GoodIn wsX9_least wsX9_turned := goodIn_r _ [5, 6, 7, 8, 9, 10, 11, 12, 13, 14, 15, 16, 17] (by decide +kernel) (by decide +kernel)
set_option maxRecDepth 20000 in
theorem gX9_least_X9_turned : GoodIn wsX9_least (wsV RX9 118 RX9 yX9_turned wsX9_turned) := goodIn_app (goodIn_of _ (by decide +kernel)) ggX9_least_X9_turned
theorem dX9_least_0 : decode cX9_least 0 = .ok (.iconst 0, 1) := by decide +kernel
theorem dX9_least_1 : decode cX9_least 1 = .ok (.istore_n 3, 1) := by decide +kernel
theorem dX9_least_2 : decode cX9_least 2 = .ok (.iconst 1, 1) := by decide +kernel
theorem dX9_least_3 : decode cX9_least 3 = .ok (.istore 4, 2) := by decide +kernel
theorem dX9_least_5 : decode cX9_least 5 = .ok (.iload 4, 2) := by decide +kernel
theorem dX9_least_7 : decode cX9_least 7 = .ok (.iload_n 2, 1) := by decide +kernel
theorem dX9_least_8 : decode cX9_least 8 = .ok (.iload_n 1, 1) := by decide +kernel
theorem dX9_least_9 : decode cX9_least 9 = .ok (.isub, 1) := by decide +kernel
theorem dX9_least_10 : decode cX9_least 10 = .ok (.if_icmp .ge 28, 3) := by decide +kernel
theorem dX9_least_13 : decode cX9_least 13 = .ok (.aload_n 0, 1) := by decide +kernel
theorem dX9_least_14 : decode cX9_least 14 = .ok (.iload_n 1, 1) := by decide +kernel
theorem dX9_least_15 : decode cX9_least 15 = .ok (.iload_n 2, 1) := by decide +kernel
theorem dX9_least_16 : decode cX9_least 16 = .ok (.iload 4, 2) := by decide +kernel
theorem dX9_least_18 : decode cX9_least 18 = .ok (.iload_n 3, 1) := by decide +kernel
theorem dX9_least_19 : decode cX9_least 19 = .ok (.invokevirtual 118, 3) := by decide +kernel
theorem dX9_least_22 : decode cX9_least 22 = .ok (.ifCond .ge 8, 3) := by decide +kernel
theorem dX9_least_25 : decode cX9_least 25 = .ok (.iload 4, 2) := by decide +kernel
theorem dX9_least_27 : decode cX9_least 27 = .ok (.goto 4, 3) := by decide +kernel
theorem dX9_least_30 : decode cX9_least 30 = .ok (.iload_n 3, 1) := by decide +kernel
theorem dX9_least_31 : decode cX9_least 31 = .ok (.istore_n 3, 1) := by decide +kernel
theorem dX9_least_32 : decode cX9_least 32 = .ok (.iinc 4 1, 3) := by decide +kernel
theorem dX9_least_35 : decode cX9_least 35 = .ok (.goto (-30), 3) := by decide +kernel
theorem dX9_least_38 : decode cX9_least 38 = .ok (.iload_n 3, 1) := by decide +kernel
theorem dX9_least_39 : decode cX9_least 39 = .ok (.ireturn, 1) := by decide +kernel
set_option maxRecDepth 20000 in
theorem ggX9_leastRotation_X9_isPart : GoodIn wsX9_leastRotation wsX9_isPart := goodIn_r _ [5, 6, 21, 22, 23, 24, 25, 26, 27, 28, 29, 30, 31] (by decide +kernel) (by decide +kernel)
set_option maxRecDepth 20000 in
theorem gX9_leastRotation_X9_isPart : GoodIn wsX9_leastRotation (wsV RX9 56 RX9 yX9_isPart wsX9_isPart) := goodIn_app (goodIn_of _ (by decide +kernel)) ggX9_leastRotation_X9_isPart
set_option maxRecDepth 20000 in
theorem ggX9_leastRotation_X9_goesWell : GoodIn wsX9_leastRotation wsX9_goesWell := goodIn_r _ [10, 11, 21, 22, 23, 24, 25, 26, 27, 28, 29, 30, 31] (by decide +kernel) (by decide +kernel)
set_option maxRecDepth 20000 in
theorem gX9_leastRotation_X9_goesWell : GoodIn wsX9_leastRotation (wsV RX9 46 RX9 yX9_goesWell wsX9_goesWell) := goodIn_app (goodIn_of _ (by decide +kernel)) ggX9_leastRotation_X9_goesWell
set_option maxRecDepth 20000 in
theorem ggX9_leastRotation_X9_least : GoodIn wsX9_leastRotation wsX9_least := goodIn_r _ [15, 16, 17, 18, 4, 19, 20, 21, 22, 23, 24, 25, 26, 27, 28, 29, 30, 31] (by decide +kernel) (by decide +kernel)
set_option maxRecDepth 20000 in
theorem gX9_leastRotation_X9_least : GoodIn wsX9_leastRotation (wsV RX9 121 RX9 yX9_least wsX9_least) := goodIn_app (goodIn_of _ (by decide +kernel)) ggX9_leastRotation_X9_least
theorem dX9_leastRotation_0 : decode cX9_leastRotation 0 = .ok (.aload_n 0, 1) := by decide +kernel
theorem dX9_leastRotation_1 : decode cX9_leastRotation 1 = .ok (.aload_n 0, 1) := by decide +kernel
theorem dX9_leastRotation_2 : decode cX9_leastRotation 2 = .ok (.iload_n 1, 1) := by decide +kernel
theorem dX9_leastRotation_3 : decode cX9_leastRotation 3 = .ok (.iload_n 2, 1) := by decide +kernel
theorem dX9_leastRotation_4 : decode cX9_leastRotation 4 = .ok (.invokevirtual 56, 3) := by decide +kernel
theorem dX9_leastRotation_7 : decode cX9_leastRotation 7 = .ok (.ifCond .eq 7, 3) := by decide +kernel
theorem dX9_leastRotation_10 : decode cX9_leastRotation 10 = .ok (.iconst 0, 1) := by decide +kernel
theorem dX9_leastRotation_11 : decode cX9_leastRotation 11 = .ok (.goto 4, 3) := by decide +kernel
theorem dX9_leastRotation_14 : decode cX9_leastRotation 14 = .ok (.iconst 1, 1) := by decide +kernel
theorem dX9_leastRotation_15 : decode cX9_leastRotation 15 = .ok (.invokevirtual 46, 3) := by decide +kernel
theorem dX9_leastRotation_18 : decode cX9_leastRotation 18 = .ok (.ifCond .eq 12, 3) := by decide +kernel
theorem dX9_leastRotation_21 : decode cX9_leastRotation 21 = .ok (.aload_n 0, 1) := by decide +kernel
theorem dX9_leastRotation_22 : decode cX9_leastRotation 22 = .ok (.iload_n 1, 1) := by decide +kernel
theorem dX9_leastRotation_23 : decode cX9_leastRotation 23 = .ok (.iload_n 2, 1) := by decide +kernel
theorem dX9_leastRotation_24 : decode cX9_leastRotation 24 = .ok (.invokevirtual 121, 3) := by decide +kernel
theorem dX9_leastRotation_27 : decode cX9_leastRotation 27 = .ok (.goto 4, 3) := by decide +kernel
theorem dX9_leastRotation_30 : decode cX9_leastRotation 30 = .ok (.iconst 0, 1) := by decide +kernel
theorem dX9_leastRotation_31 : decode cX9_leastRotation 31 = .ok (.ireturn, 1) := by decide +kernel
set_option maxRecDepth 20000 in
theorem ggX9_greatestRotation_X9_isPart : GoodIn wsX9_greatestRotation wsX9_isPart := goodIn_r _ [5, 6, 17, 18, 19, 20, 21, 22, 23, 24, 25, 26, 27] (by decide +kernel) (by decide +kernel)
set_option maxRecDepth 20000 in
theorem gX9_greatestRotation_X9_isPart : GoodIn wsX9_greatestRotation (wsV RX9 56 RX9 yX9_isPart wsX9_isPart) := goodIn_app (goodIn_of _ (by decide +kernel)) ggX9_greatestRotation_X9_isPart
set_option maxRecDepth 20000 in
theorem ggX9_greatestRotation_X9_goesWell : GoodIn wsX9_greatestRotation wsX9_goesWell := goodIn_r _ [10, 11, 17, 18, 19, 20, 21, 22, 23, 24, 25, 26, 27] (by decide +kernel) (by decide +kernel)
set_option maxRecDepth 20000 in
theorem gX9_greatestRotation_X9_goesWell : GoodIn wsX9_greatestRotation (wsV RX9 46 RX9 yX9_goesWell wsX9_goesWell) := goodIn_app (goodIn_of _ (by decide +kernel)) ggX9_greatestRotation_X9_goesWell
set_option maxRecDepth 20000 in
theorem ggX9_greatestRotation_X9_turned : GoodIn wsX9_greatestRotation wsX9_turned := goodIn_r _ [15, 16, 17, 18, 19, 20, 21, 22, 23, 24, 25, 26, 27] (by decide +kernel) (by decide +kernel)
set_option maxRecDepth 20000 in
theorem gX9_greatestRotation_X9_turned : GoodIn wsX9_greatestRotation (wsV RX9 118 RX9 yX9_turned wsX9_turned) := goodIn_app (goodIn_of _ (by decide +kernel)) ggX9_greatestRotation_X9_turned
theorem dX9_greatestRotation_0 : decode cX9_greatestRotation 0 = .ok (.aload_n 0, 1) := by decide +kernel
theorem dX9_greatestRotation_1 : decode cX9_greatestRotation 1 = .ok (.aload_n 0, 1) := by decide +kernel
theorem dX9_greatestRotation_2 : decode cX9_greatestRotation 2 = .ok (.iload_n 1, 1) := by decide +kernel
theorem dX9_greatestRotation_3 : decode cX9_greatestRotation 3 = .ok (.iload_n 2, 1) := by decide +kernel
theorem dX9_greatestRotation_4 : decode cX9_greatestRotation 4 = .ok (.invokevirtual 56, 3) := by decide +kernel
theorem dX9_greatestRotation_7 : decode cX9_greatestRotation 7 = .ok (.ifCond .eq 7, 3) := by decide +kernel
theorem dX9_greatestRotation_10 : decode cX9_greatestRotation 10 = .ok (.iconst 0, 1) := by decide +kernel
theorem dX9_greatestRotation_11 : decode cX9_greatestRotation 11 = .ok (.goto 4, 3) := by decide +kernel
theorem dX9_greatestRotation_14 : decode cX9_greatestRotation 14 = .ok (.iconst 1, 1) := by decide +kernel
theorem dX9_greatestRotation_15 : decode cX9_greatestRotation 15 = .ok (.invokevirtual 46, 3) := by decide +kernel
theorem dX9_greatestRotation_18 : decode cX9_greatestRotation 18 = .ok (.ifCond .ne 5, 3) := by decide +kernel
theorem dX9_greatestRotation_21 : decode cX9_greatestRotation 21 = .ok (.iconst 0, 1) := by decide +kernel
theorem dX9_greatestRotation_22 : decode cX9_greatestRotation 22 = .ok (.ireturn, 1) := by decide +kernel
theorem dX9_greatestRotation_23 : decode cX9_greatestRotation 23 = .ok (.iconst 0, 1) := by decide +kernel
theorem dX9_greatestRotation_24 : decode cX9_greatestRotation 24 = .ok (.istore_n 3, 1) := by decide +kernel
theorem dX9_greatestRotation_25 : decode cX9_greatestRotation 25 = .ok (.iconst 1, 1) := by decide +kernel
theorem dX9_greatestRotation_26 : decode cX9_greatestRotation 26 = .ok (.istore 4, 2) := by decide +kernel
theorem dX9_greatestRotation_28 : decode cX9_greatestRotation 28 = .ok (.iload 4, 2) := by decide +kernel
theorem dX9_greatestRotation_30 : decode cX9_greatestRotation 30 = .ok (.iload_n 2, 1) := by decide +kernel
theorem dX9_greatestRotation_31 : decode cX9_greatestRotation 31 = .ok (.iload_n 1, 1) := by decide +kernel
theorem dX9_greatestRotation_32 : decode cX9_greatestRotation 32 = .ok (.isub, 1) := by decide +kernel
theorem dX9_greatestRotation_33 : decode cX9_greatestRotation 33 = .ok (.if_icmp .ge 28, 3) := by decide +kernel
theorem dX9_greatestRotation_36 : decode cX9_greatestRotation 36 = .ok (.aload_n 0, 1) := by decide +kernel
theorem dX9_greatestRotation_37 : decode cX9_greatestRotation 37 = .ok (.iload_n 1, 1) := by decide +kernel
theorem dX9_greatestRotation_38 : decode cX9_greatestRotation 38 = .ok (.iload_n 2, 1) := by decide +kernel
theorem dX9_greatestRotation_39 : decode cX9_greatestRotation 39 = .ok (.iload 4, 2) := by decide +kernel
theorem dX9_greatestRotation_41 : decode cX9_greatestRotation 41 = .ok (.iload_n 3, 1) := by decide +kernel
theorem dX9_greatestRotation_42 : decode cX9_greatestRotation 42 = .ok (.invokevirtual 118, 3) := by decide +kernel
theorem dX9_greatestRotation_45 : decode cX9_greatestRotation 45 = .ok (.ifCond .le 8, 3) := by decide +kernel
theorem dX9_greatestRotation_48 : decode cX9_greatestRotation 48 = .ok (.iload 4, 2) := by decide +kernel
theorem dX9_greatestRotation_50 : decode cX9_greatestRotation 50 = .ok (.goto 4, 3) := by decide +kernel
theorem dX9_greatestRotation_53 : decode cX9_greatestRotation 53 = .ok (.iload_n 3, 1) := by decide +kernel
theorem dX9_greatestRotation_54 : decode cX9_greatestRotation 54 = .ok (.istore_n 3, 1) := by decide +kernel
theorem dX9_greatestRotation_55 : decode cX9_greatestRotation 55 = .ok (.iinc 4 1, 3) := by decide +kernel
theorem dX9_greatestRotation_58 : decode cX9_greatestRotation 58 = .ok (.goto (-30), 3) := by decide +kernel
theorem dX9_greatestRotation_61 : decode cX9_greatestRotation 61 = .ok (.iload_n 3, 1) := by decide +kernel
theorem dX9_greatestRotation_62 : decode cX9_greatestRotation 62 = .ok (.ireturn, 1) := by decide +kernel
set_option maxRecDepth 20000 in
theorem ggX9_rotations_X9_isPart : GoodIn wsX9_rotations wsX9_isPart := goodIn_r _ [5, 6, 17, 18, 19, 20, 21, 22, 23, 24, 25, 26, 27] (by decide +kernel) (by decide +kernel)
set_option maxRecDepth 20000 in
theorem gX9_rotations_X9_isPart : GoodIn wsX9_rotations (wsV RX9 56 RX9 yX9_isPart wsX9_isPart) := goodIn_app (goodIn_of _ (by decide +kernel)) ggX9_rotations_X9_isPart
set_option maxRecDepth 20000 in
theorem ggX9_rotations_X9_goesWell : GoodIn wsX9_rotations wsX9_goesWell := goodIn_r _ [10, 11, 17, 18, 19, 20, 21, 22, 23, 24, 25, 26, 27] (by decide +kernel) (by decide +kernel)
set_option maxRecDepth 20000 in
theorem gX9_rotations_X9_goesWell : GoodIn wsX9_rotations (wsV RX9 46 RX9 yX9_goesWell wsX9_goesWell) := goodIn_app (goodIn_of _ (by decide +kernel)) ggX9_rotations_X9_goesWell
set_option maxRecDepth 20000 in
theorem ggX9_rotations_X9_turned : GoodIn wsX9_rotations wsX9_turned := goodIn_r _ [15, 16, 17, 18, 19, 20, 21, 22, 23, 24, 25, 26, 27] (by decide +kernel) (by decide +kernel)
set_option maxRecDepth 20000 in
theorem gX9_rotations_X9_turned : GoodIn wsX9_rotations (wsV RX9 118 RX9 yX9_turned wsX9_turned) := goodIn_app (goodIn_of _ (by decide +kernel)) ggX9_rotations_X9_turned
theorem dX9_rotations_0 : decode cX9_rotations 0 = .ok (.aload_n 0, 1) := by decide +kernel
theorem dX9_rotations_1 : decode cX9_rotations 1 = .ok (.aload_n 0, 1) := by decide +kernel
theorem dX9_rotations_2 : decode cX9_rotations 2 = .ok (.iload_n 1, 1) := by decide +kernel
theorem dX9_rotations_3 : decode cX9_rotations 3 = .ok (.iload_n 2, 1) := by decide +kernel
theorem dX9_rotations_4 : decode cX9_rotations 4 = .ok (.invokevirtual 56, 3) := by decide +kernel
theorem dX9_rotations_7 : decode cX9_rotations 7 = .ok (.ifCond .eq 7, 3) := by decide +kernel
theorem dX9_rotations_10 : decode cX9_rotations 10 = .ok (.iconst 0, 1) := by decide +kernel
theorem dX9_rotations_11 : decode cX9_rotations 11 = .ok (.goto 4, 3) := by decide +kernel
theorem dX9_rotations_14 : decode cX9_rotations 14 = .ok (.iconst 1, 1) := by decide +kernel
theorem dX9_rotations_15 : decode cX9_rotations 15 = .ok (.invokevirtual 46, 3) := by decide +kernel
theorem dX9_rotations_18 : decode cX9_rotations 18 = .ok (.ifCond .ne 5, 3) := by decide +kernel
theorem dX9_rotations_21 : decode cX9_rotations 21 = .ok (.iconst 0, 1) := by decide +kernel
theorem dX9_rotations_22 : decode cX9_rotations 22 = .ok (.ireturn, 1) := by decide +kernel
theorem dX9_rotations_23 : decode cX9_rotations 23 = .ok (.iconst 0, 1) := by decide +kernel
theorem dX9_rotations_24 : decode cX9_rotations 24 = .ok (.istore_n 3, 1) := by decide +kernel
theorem dX9_rotations_25 : decode cX9_rotations 25 = .ok (.iconst 0, 1) := by decide +kernel
theorem dX9_rotations_26 : decode cX9_rotations 26 = .ok (.istore 4, 2) := by decide +kernel
theorem dX9_rotations_28 : decode cX9_rotations 28 = .ok (.iload 4, 2) := by decide +kernel
theorem dX9_rotations_30 : decode cX9_rotations 30 = .ok (.iload_n 2, 1) := by decide +kernel
theorem dX9_rotations_31 : decode cX9_rotations 31 = .ok (.iload_n 1, 1) := by decide +kernel
theorem dX9_rotations_32 : decode cX9_rotations 32 = .ok (.isub, 1) := by decide +kernel
theorem dX9_rotations_33 : decode cX9_rotations 33 = .ok (.if_icmp .ge 66, 3) := by decide +kernel
theorem dX9_rotations_36 : decode cX9_rotations 36 = .ok (.iconst 1, 1) := by decide +kernel
theorem dX9_rotations_37 : decode cX9_rotations 37 = .ok (.istore 5, 2) := by decide +kernel
theorem dX9_rotations_39 : decode cX9_rotations 39 = .ok (.iconst 0, 1) := by decide +kernel
theorem dX9_rotations_40 : decode cX9_rotations 40 = .ok (.istore 6, 2) := by decide +kernel
theorem dX9_rotations_42 : decode cX9_rotations 42 = .ok (.iload 6, 2) := by decide +kernel
theorem dX9_rotations_44 : decode cX9_rotations 44 = .ok (.iload 4, 2) := by decide +kernel
theorem dX9_rotations_46 : decode cX9_rotations 46 = .ok (.if_icmp .ge 34, 3) := by decide +kernel
theorem dX9_rotations_49 : decode cX9_rotations 49 = .ok (.iload 5, 2) := by decide +kernel
theorem dX9_rotations_51 : decode cX9_rotations 51 = .ok (.ifCond .eq 20, 3) := by decide +kernel
theorem dX9_rotations_54 : decode cX9_rotations 54 = .ok (.aload_n 0, 1) := by decide +kernel
theorem dX9_rotations_55 : decode cX9_rotations 55 = .ok (.iload_n 1, 1) := by decide +kernel
theorem dX9_rotations_56 : decode cX9_rotations 56 = .ok (.iload_n 2, 1) := by decide +kernel
theorem dX9_rotations_57 : decode cX9_rotations 57 = .ok (.iload 4, 2) := by decide +kernel
theorem dX9_rotations_59 : decode cX9_rotations 59 = .ok (.iload 6, 2) := by decide +kernel
theorem dX9_rotations_61 : decode cX9_rotations 61 = .ok (.invokevirtual 118, 3) := by decide +kernel
theorem dX9_rotations_64 : decode cX9_rotations 64 = .ok (.ifCond .eq 7, 3) := by decide +kernel
theorem dX9_rotations_67 : decode cX9_rotations 67 = .ok (.iconst 1, 1) := by decide +kernel
theorem dX9_rotations_68 : decode cX9_rotations 68 = .ok (.goto 4, 3) := by decide +kernel
theorem dX9_rotations_71 : decode cX9_rotations 71 = .ok (.iconst 0, 1) := by decide +kernel
theorem dX9_rotations_72 : decode cX9_rotations 72 = .ok (.istore 5, 2) := by decide +kernel
theorem dX9_rotations_74 : decode cX9_rotations 74 = .ok (.iinc 6 1, 3) := by decide +kernel
theorem dX9_rotations_77 : decode cX9_rotations 77 = .ok (.goto (-35), 3) := by decide +kernel
theorem dX9_rotations_80 : decode cX9_rotations 80 = .ok (.iload_n 3, 1) := by decide +kernel
theorem dX9_rotations_81 : decode cX9_rotations 81 = .ok (.iload 5, 2) := by decide +kernel
theorem dX9_rotations_83 : decode cX9_rotations 83 = .ok (.ifCond .eq 7, 3) := by decide +kernel
theorem dX9_rotations_86 : decode cX9_rotations 86 = .ok (.iconst 1, 1) := by decide +kernel
theorem dX9_rotations_87 : decode cX9_rotations 87 = .ok (.goto 4, 3) := by decide +kernel
theorem dX9_rotations_90 : decode cX9_rotations 90 = .ok (.iconst 0, 1) := by decide +kernel
theorem dX9_rotations_91 : decode cX9_rotations 91 = .ok (.iadd, 1) := by decide +kernel
theorem dX9_rotations_92 : decode cX9_rotations 92 = .ok (.istore_n 3, 1) := by decide +kernel
theorem dX9_rotations_93 : decode cX9_rotations 93 = .ok (.iinc 4 1, 3) := by decide +kernel
theorem dX9_rotations_96 : decode cX9_rotations 96 = .ok (.goto (-68), 3) := by decide +kernel
theorem dX9_rotations_99 : decode cX9_rotations 99 = .ok (.iload_n 3, 1) := by decide +kernel
theorem dX9_rotations_100 : decode cX9_rotations 100 = .ok (.ireturn, 1) := by decide +kernel
set_option maxRecDepth 20000 in
theorem ggX9_isNecklace_X9_isPart : GoodIn wsX9_isNecklace wsX9_isPart := goodIn_r _ [5, 6, 17, 18, 19, 20, 21, 22, 23, 24, 25, 26, 27] (by decide +kernel) (by decide +kernel)
set_option maxRecDepth 20000 in
theorem gX9_isNecklace_X9_isPart : GoodIn wsX9_isNecklace (wsV RX9 56 RX9 yX9_isPart wsX9_isPart) := goodIn_app (goodIn_of _ (by decide +kernel)) ggX9_isNecklace_X9_isPart
set_option maxRecDepth 20000 in
theorem ggX9_isNecklace_X9_goesWell : GoodIn wsX9_isNecklace wsX9_goesWell := goodIn_r _ [10, 11, 17, 18, 19, 20, 21, 22, 23, 24, 25, 26, 27] (by decide +kernel) (by decide +kernel)
set_option maxRecDepth 20000 in
theorem gX9_isNecklace_X9_goesWell : GoodIn wsX9_isNecklace (wsV RX9 46 RX9 yX9_goesWell wsX9_goesWell) := goodIn_app (goodIn_of _ (by decide +kernel)) ggX9_isNecklace_X9_goesWell
set_option maxRecDepth 20000 in
theorem ggX9_isNecklace_X9_turned : GoodIn wsX9_isNecklace wsX9_turned := goodIn_r _ [15, 16, 17, 18, 19, 20, 21, 22, 23, 24, 25, 26, 27] (by decide +kernel) (by decide +kernel)
set_option maxRecDepth 20000 in
theorem gX9_isNecklace_X9_turned : GoodIn wsX9_isNecklace (wsV RX9 118 RX9 yX9_turned wsX9_turned) := goodIn_app (goodIn_of _ (by decide +kernel)) ggX9_isNecklace_X9_turned
theorem dX9_isNecklace_0 : decode cX9_isNecklace 0 = .ok (.aload_n 0, 1) := by decide +kernel
theorem dX9_isNecklace_1 : decode cX9_isNecklace 1 = .ok (.aload_n 0, 1) := by decide +kernel
theorem dX9_isNecklace_2 : decode cX9_isNecklace 2 = .ok (.iload_n 1, 1) := by decide +kernel
theorem dX9_isNecklace_3 : decode cX9_isNecklace 3 = .ok (.iload_n 2, 1) := by decide +kernel
theorem dX9_isNecklace_4 : decode cX9_isNecklace 4 = .ok (.invokevirtual 56, 3) := by decide +kernel
theorem dX9_isNecklace_7 : decode cX9_isNecklace 7 = .ok (.ifCond .eq 7, 3) := by decide +kernel
theorem dX9_isNecklace_10 : decode cX9_isNecklace 10 = .ok (.iconst 0, 1) := by decide +kernel
theorem dX9_isNecklace_11 : decode cX9_isNecklace 11 = .ok (.goto 4, 3) := by decide +kernel
theorem dX9_isNecklace_14 : decode cX9_isNecklace 14 = .ok (.iconst 1, 1) := by decide +kernel
theorem dX9_isNecklace_15 : decode cX9_isNecklace 15 = .ok (.invokevirtual 46, 3) := by decide +kernel
theorem dX9_isNecklace_18 : decode cX9_isNecklace 18 = .ok (.ifCond .ne 5, 3) := by decide +kernel
theorem dX9_isNecklace_21 : decode cX9_isNecklace 21 = .ok (.iconst 0, 1) := by decide +kernel
theorem dX9_isNecklace_22 : decode cX9_isNecklace 22 = .ok (.ireturn, 1) := by decide +kernel
theorem dX9_isNecklace_23 : decode cX9_isNecklace 23 = .ok (.iconst 1, 1) := by decide +kernel
theorem dX9_isNecklace_24 : decode cX9_isNecklace 24 = .ok (.istore_n 3, 1) := by decide +kernel
theorem dX9_isNecklace_25 : decode cX9_isNecklace 25 = .ok (.iconst 1, 1) := by decide +kernel
theorem dX9_isNecklace_26 : decode cX9_isNecklace 26 = .ok (.istore 4, 2) := by decide +kernel
theorem dX9_isNecklace_28 : decode cX9_isNecklace 28 = .ok (.iload 4, 2) := by decide +kernel
theorem dX9_isNecklace_30 : decode cX9_isNecklace 30 = .ok (.iload_n 2, 1) := by decide +kernel
theorem dX9_isNecklace_31 : decode cX9_isNecklace 31 = .ok (.iload_n 1, 1) := by decide +kernel
theorem dX9_isNecklace_32 : decode cX9_isNecklace 32 = .ok (.isub, 1) := by decide +kernel
theorem dX9_isNecklace_33 : decode cX9_isNecklace 33 = .ok (.if_icmp .ge 31, 3) := by decide +kernel
theorem dX9_isNecklace_36 : decode cX9_isNecklace 36 = .ok (.iload_n 3, 1) := by decide +kernel
theorem dX9_isNecklace_37 : decode cX9_isNecklace 37 = .ok (.ifCond .eq 19, 3) := by decide +kernel
theorem dX9_isNecklace_40 : decode cX9_isNecklace 40 = .ok (.aload_n 0, 1) := by decide +kernel
theorem dX9_isNecklace_41 : decode cX9_isNecklace 41 = .ok (.iload_n 1, 1) := by decide +kernel
theorem dX9_isNecklace_42 : decode cX9_isNecklace 42 = .ok (.iload_n 2, 1) := by decide +kernel
theorem dX9_isNecklace_43 : decode cX9_isNecklace 43 = .ok (.iconst 0, 1) := by decide +kernel
theorem dX9_isNecklace_44 : decode cX9_isNecklace 44 = .ok (.iload 4, 2) := by decide +kernel
theorem dX9_isNecklace_46 : decode cX9_isNecklace 46 = .ok (.invokevirtual 118, 3) := by decide +kernel
theorem dX9_isNecklace_49 : decode cX9_isNecklace 49 = .ok (.ifCond .gt 7, 3) := by decide +kernel
theorem dX9_isNecklace_52 : decode cX9_isNecklace 52 = .ok (.iconst 1, 1) := by decide +kernel
theorem dX9_isNecklace_53 : decode cX9_isNecklace 53 = .ok (.goto 4, 3) := by decide +kernel
theorem dX9_isNecklace_56 : decode cX9_isNecklace 56 = .ok (.iconst 0, 1) := by decide +kernel
theorem dX9_isNecklace_57 : decode cX9_isNecklace 57 = .ok (.istore_n 3, 1) := by decide +kernel
theorem dX9_isNecklace_58 : decode cX9_isNecklace 58 = .ok (.iinc 4 1, 3) := by decide +kernel
theorem dX9_isNecklace_61 : decode cX9_isNecklace 61 = .ok (.goto (-33), 3) := by decide +kernel
theorem dX9_isNecklace_64 : decode cX9_isNecklace 64 = .ok (.iload_n 3, 1) := by decide +kernel
theorem dX9_isNecklace_65 : decode cX9_isNecklace 65 = .ok (.ireturn, 1) := by decide +kernel
theorem dX9_hasPeriod_0 : decode cX9_hasPeriod 0 = .ok (.iconst 1, 1) := by decide +kernel
theorem dX9_hasPeriod_1 : decode cX9_hasPeriod 1 = .ok (.istore 4, 2) := by decide +kernel
theorem dX9_hasPeriod_3 : decode cX9_hasPeriod 3 = .ok (.iload_n 1, 1) := by decide +kernel
theorem dX9_hasPeriod_4 : decode cX9_hasPeriod 4 = .ok (.istore 5, 2) := by decide +kernel
theorem dX9_hasPeriod_6 : decode cX9_hasPeriod 6 = .ok (.iload 5, 2) := by decide +kernel
theorem dX9_hasPeriod_8 : decode cX9_hasPeriod 8 = .ok (.iload_n 3, 1) := by decide +kernel
theorem dX9_hasPeriod_9 : decode cX9_hasPeriod 9 = .ok (.iadd, 1) := by decide +kernel
theorem dX9_hasPeriod_10 : decode cX9_hasPeriod 10 = .ok (.iload_n 2, 1) := by decide +kernel
theorem dX9_hasPeriod_11 : decode cX9_hasPeriod 11 = .ok (.if_icmp .ge 40, 3) := by decide +kernel
theorem dX9_hasPeriod_14 : decode cX9_hasPeriod 14 = .ok (.iload 4, 2) := by decide +kernel
theorem dX9_hasPeriod_16 : decode cX9_hasPeriod 16 = .ok (.ifCond .eq 26, 3) := by decide +kernel
theorem dX9_hasPeriod_19 : decode cX9_hasPeriod 19 = .ok (.aload_n 0, 1) := by decide +kernel
theorem dX9_hasPeriod_20 : decode cX9_hasPeriod 20 = .ok (.getfield 7, 3) := by decide +kernel
theorem dX9_hasPeriod_23 : decode cX9_hasPeriod 23 = .ok (.iload 5, 2) := by decide +kernel
theorem dX9_hasPeriod_25 : decode cX9_hasPeriod 25 = .ok (.iaload, 1) := by decide +kernel
theorem dX9_hasPeriod_26 : decode cX9_hasPeriod 26 = .ok (.aload_n 0, 1) := by decide +kernel
theorem dX9_hasPeriod_27 : decode cX9_hasPeriod 27 = .ok (.getfield 7, 3) := by decide +kernel
theorem dX9_hasPeriod_30 : decode cX9_hasPeriod 30 = .ok (.iload 5, 2) := by decide +kernel
theorem dX9_hasPeriod_32 : decode cX9_hasPeriod 32 = .ok (.iload_n 3, 1) := by decide +kernel
theorem dX9_hasPeriod_33 : decode cX9_hasPeriod 33 = .ok (.iadd, 1) := by decide +kernel
theorem dX9_hasPeriod_34 : decode cX9_hasPeriod 34 = .ok (.iaload, 1) := by decide +kernel
theorem dX9_hasPeriod_35 : decode cX9_hasPeriod 35 = .ok (.if_icmp .ne 7, 3) := by decide +kernel
theorem dX9_hasPeriod_38 : decode cX9_hasPeriod 38 = .ok (.iconst 1, 1) := by decide +kernel
theorem dX9_hasPeriod_39 : decode cX9_hasPeriod 39 = .ok (.goto 4, 3) := by decide +kernel
theorem dX9_hasPeriod_42 : decode cX9_hasPeriod 42 = .ok (.iconst 0, 1) := by decide +kernel
theorem dX9_hasPeriod_43 : decode cX9_hasPeriod 43 = .ok (.istore 4, 2) := by decide +kernel
theorem dX9_hasPeriod_45 : decode cX9_hasPeriod 45 = .ok (.iinc 5 1, 3) := by decide +kernel
theorem dX9_hasPeriod_48 : decode cX9_hasPeriod 48 = .ok (.goto (-42), 3) := by decide +kernel
theorem dX9_hasPeriod_51 : decode cX9_hasPeriod 51 = .ok (.iload 4, 2) := by decide +kernel
theorem dX9_hasPeriod_53 : decode cX9_hasPeriod 53 = .ok (.ireturn, 1) := by decide +kernel
set_option maxRecDepth 20000 in
theorem ggX9_leastPeriod_X9_hasPeriod : GoodIn wsX9_leastPeriod wsX9_hasPeriod := goodIn_r _ [5, 6, 7, 8, 9, 10, 11, 12, 13, 14, 15, 16, 17] (by decide +kernel) (by decide +kernel)
set_option maxRecDepth 20000 in
theorem gX9_leastPeriod_X9_hasPeriod : GoodIn wsX9_leastPeriod (wsV RX9 124 RX9 yX9_hasPeriod wsX9_hasPeriod) := goodIn_app (goodIn_of _ (by decide +kernel)) ggX9_leastPeriod_X9_hasPeriod
theorem dX9_leastPeriod_0 : decode cX9_leastPeriod 0 = .ok (.iconst 1, 1) := by decide +kernel
theorem dX9_leastPeriod_1 : decode cX9_leastPeriod 1 = .ok (.istore_n 3, 1) := by decide +kernel
theorem dX9_leastPeriod_2 : decode cX9_leastPeriod 2 = .ok (.aload_n 0, 1) := by decide +kernel
theorem dX9_leastPeriod_3 : decode cX9_leastPeriod 3 = .ok (.iload_n 1, 1) := by decide +kernel
theorem dX9_leastPeriod_4 : decode cX9_leastPeriod 4 = .ok (.iload_n 2, 1) := by decide +kernel
theorem dX9_leastPeriod_5 : decode cX9_leastPeriod 5 = .ok (.iload_n 3, 1) := by decide +kernel
theorem dX9_leastPeriod_6 : decode cX9_leastPeriod 6 = .ok (.invokevirtual 124, 3) := by decide +kernel
theorem dX9_leastPeriod_9 : decode cX9_leastPeriod 9 = .ok (.ifCond .ne 9, 3) := by decide +kernel
theorem dX9_leastPeriod_12 : decode cX9_leastPeriod 12 = .ok (.iinc 3 1, 3) := by decide +kernel
theorem dX9_leastPeriod_15 : decode cX9_leastPeriod 15 = .ok (.goto (-13), 3) := by decide +kernel
theorem dX9_leastPeriod_18 : decode cX9_leastPeriod 18 = .ok (.iload_n 3, 1) := by decide +kernel
theorem dX9_leastPeriod_19 : decode cX9_leastPeriod 19 = .ok (.ireturn, 1) := by decide +kernel
set_option maxRecDepth 20000 in
theorem ggX9_period_X9_isPart : GoodIn wsX9_period wsX9_isPart := goodIn_r _ [5, 6, 21, 22, 23, 24, 25, 26, 27, 28, 29, 30, 31] (by decide +kernel) (by decide +kernel)
set_option maxRecDepth 20000 in
theorem gX9_period_X9_isPart : GoodIn wsX9_period (wsV RX9 56 RX9 yX9_isPart wsX9_isPart) := goodIn_app (goodIn_of _ (by decide +kernel)) ggX9_period_X9_isPart
