set_option maxRecDepth 20000 in
theorem ggX9_period_X9_goesWell : GoodIn wsX9_period wsX9_goesWell := goodIn_r _ [10, 11, 21, 22, 23, 24, 25, 26, 27, 28, 29, 30, 31] (by decide +kernel) (by decide +kernel)
set_option maxRecDepth 20000 in
theorem gX9_period_X9_goesWell : GoodIn wsX9_period (wsV RX9 46 RX9 yX9_goesWell wsX9_goesWell) := goodIn_app (goodIn_of _ (by decide +kernel)) ggX9_period_X9_goesWell
set_option maxRecDepth 20000 in
theorem ggX9_period_X9_leastPeriod : GoodIn wsX9_period wsX9_leastPeriod := goodIn_r _ [15, 16, 17, 18, 4, 19, 20, 21, 22, 23, 24, 25, 26, 27, 28, 29, 30, 31] (by decide +kernel) (by decide +kernel)
set_option maxRecDepth 20000 in
theorem gX9_period_X9_leastPeriod : GoodIn wsX9_period (wsV RX9 127 RX9 yX9_leastPeriod wsX9_leastPeriod) := goodIn_app (goodIn_of _ (by decide +kernel)) ggX9_period_X9_leastPeriod
theorem dX9_period_0 : decode cX9_period 0 = .ok (.aload_n 0, 1) := by decide +kernel
theorem dX9_period_1 : decode cX9_period 1 = .ok (.aload_n 0, 1) := by decide +kernel
theorem dX9_period_2 : decode cX9_period 2 = .ok (.iload_n 1, 1) := by decide +kernel
theorem dX9_period_3 : decode cX9_period 3 = .ok (.iload_n 2, 1) := by decide +kernel
theorem dX9_period_4 : decode cX9_period 4 = .ok (.invokevirtual 56, 3) := by decide +kernel
theorem dX9_period_7 : decode cX9_period 7 = .ok (.ifCond .eq 7, 3) := by decide +kernel
theorem dX9_period_10 : decode cX9_period 10 = .ok (.iconst 0, 1) := by decide +kernel
theorem dX9_period_11 : decode cX9_period 11 = .ok (.goto 4, 3) := by decide +kernel
theorem dX9_period_14 : decode cX9_period 14 = .ok (.iconst 1, 1) := by decide +kernel
theorem dX9_period_15 : decode cX9_period 15 = .ok (.invokevirtual 46, 3) := by decide +kernel
theorem dX9_period_18 : decode cX9_period 18 = .ok (.ifCond .eq 12, 3) := by decide +kernel
theorem dX9_period_21 : decode cX9_period 21 = .ok (.aload_n 0, 1) := by decide +kernel
theorem dX9_period_22 : decode cX9_period 22 = .ok (.iload_n 1, 1) := by decide +kernel
theorem dX9_period_23 : decode cX9_period 23 = .ok (.iload_n 2, 1) := by decide +kernel
theorem dX9_period_24 : decode cX9_period 24 = .ok (.invokevirtual 127, 3) := by decide +kernel
theorem dX9_period_27 : decode cX9_period 27 = .ok (.goto 4, 3) := by decide +kernel
theorem dX9_period_30 : decode cX9_period 30 = .ok (.iconst 0, 1) := by decide +kernel
theorem dX9_period_31 : decode cX9_period 31 = .ok (.ireturn, 1) := by decide +kernel
set_option maxRecDepth 20000 in
theorem ggX9_periodByTrying_X9_isPart : GoodIn wsX9_periodByTrying wsX9_isPart := goodIn_r _ [5, 6, 21, 22, 23, 24, 25, 26, 27, 28, 29, 30, 31] (by decide +kernel) (by decide +kernel)
set_option maxRecDepth 20000 in
theorem gX9_periodByTrying_X9_isPart : GoodIn wsX9_periodByTrying (wsV RX9 56 RX9 yX9_isPart wsX9_isPart) := goodIn_app (goodIn_of _ (by decide +kernel)) ggX9_periodByTrying_X9_isPart
set_option maxRecDepth 20000 in
theorem ggX9_periodByTrying_X9_goesWell : GoodIn wsX9_periodByTrying wsX9_goesWell := goodIn_r _ [10, 11, 21, 22, 23, 24, 25, 26, 27, 28, 29, 30, 31] (by decide +kernel) (by decide +kernel)
set_option maxRecDepth 20000 in
theorem gX9_periodByTrying_X9_goesWell : GoodIn wsX9_periodByTrying (wsV RX9 46 RX9 yX9_goesWell wsX9_goesWell) := goodIn_app (goodIn_of _ (by decide +kernel)) ggX9_periodByTrying_X9_goesWell
set_option maxRecDepth 20000 in
theorem ggX9_periodByTrying_X9_leastPeriod : GoodIn wsX9_periodByTrying wsX9_leastPeriod := goodIn_r _ [15, 16, 17, 18, 4, 19, 20, 21, 22, 23, 24, 25, 26, 27, 28, 29, 30, 31] (by decide +kernel) (by decide +kernel)
set_option maxRecDepth 20000 in
theorem gX9_periodByTrying_X9_leastPeriod : GoodIn wsX9_periodByTrying (wsV RX9 127 RX9 yX9_leastPeriod wsX9_leastPeriod) := goodIn_app (goodIn_of _ (by decide +kernel)) ggX9_periodByTrying_X9_leastPeriod
theorem dX9_periodByTrying_0 : decode cX9_periodByTrying 0 = .ok (.aload_n 0, 1) := by decide +kernel
theorem dX9_periodByTrying_1 : decode cX9_periodByTrying 1 = .ok (.aload_n 0, 1) := by decide +kernel
theorem dX9_periodByTrying_2 : decode cX9_periodByTrying 2 = .ok (.iload_n 1, 1) := by decide +kernel
theorem dX9_periodByTrying_3 : decode cX9_periodByTrying 3 = .ok (.iload_n 2, 1) := by decide +kernel
theorem dX9_periodByTrying_4 : decode cX9_periodByTrying 4 = .ok (.invokevirtual 56, 3) := by decide +kernel
theorem dX9_periodByTrying_7 : decode cX9_periodByTrying 7 = .ok (.ifCond .eq 7, 3) := by decide +kernel
theorem dX9_periodByTrying_10 : decode cX9_periodByTrying 10 = .ok (.iconst 0, 1) := by decide +kernel
theorem dX9_periodByTrying_11 : decode cX9_periodByTrying 11 = .ok (.goto 4, 3) := by decide +kernel
theorem dX9_periodByTrying_14 : decode cX9_periodByTrying 14 = .ok (.iconst 1, 1) := by decide +kernel
theorem dX9_periodByTrying_15 : decode cX9_periodByTrying 15 = .ok (.invokevirtual 46, 3) := by decide +kernel
theorem dX9_periodByTrying_18 : decode cX9_periodByTrying 18 = .ok (.ifCond .eq 12, 3) := by decide +kernel
theorem dX9_periodByTrying_21 : decode cX9_periodByTrying 21 = .ok (.aload_n 0, 1) := by decide +kernel
theorem dX9_periodByTrying_22 : decode cX9_periodByTrying 22 = .ok (.iload_n 1, 1) := by decide +kernel
theorem dX9_periodByTrying_23 : decode cX9_periodByTrying 23 = .ok (.iload_n 2, 1) := by decide +kernel
theorem dX9_periodByTrying_24 : decode cX9_periodByTrying 24 = .ok (.invokevirtual 127, 3) := by decide +kernel
theorem dX9_periodByTrying_27 : decode cX9_periodByTrying 27 = .ok (.goto 4, 3) := by decide +kernel
theorem dX9_periodByTrying_30 : decode cX9_periodByTrying 30 = .ok (.iconst 0, 1) := by decide +kernel
theorem dX9_periodByTrying_31 : decode cX9_periodByTrying 31 = .ok (.ireturn, 1) := by decide +kernel
set_option maxRecDepth 20000 in
theorem ggX9_isPeriod_X9_isPart : GoodIn wsX9_isPeriod wsX9_isPart := goodIn_r _ [5, 6, 20, 21, 22, 23, 24, 25, 26, 27, 28, 29, 30] (by decide +kernel) (by decide +kernel)
set_option maxRecDepth 20000 in
theorem gX9_isPeriod_X9_isPart : GoodIn wsX9_isPeriod (wsV RX9 56 RX9 yX9_isPart wsX9_isPart) := goodIn_app (goodIn_of _ (by decide +kernel)) ggX9_isPeriod_X9_isPart
set_option maxRecDepth 20000 in
theorem ggX9_isPeriod_X9_in : GoodIn wsX9_isPeriod wsX9_in := goodIn_r _ [9] (by decide +kernel) (by decide +kernel)
set_option maxRecDepth 20000 in
theorem gX9_isPeriod_X9_in : GoodIn wsX9_isPeriod (va_wsS RX9 42 yX9_in wsX9_in) := goodIn_app (goodIn_of _ (by decide +kernel)) ggX9_isPeriod_X9_in
set_option maxRecDepth 20000 in
theorem ggX9_isPeriod_X9_goesWell : GoodIn wsX9_isPeriod wsX9_goesWell := goodIn_r _ [13, 14, 20, 21, 22, 23, 24, 25, 26, 27, 28, 29, 30] (by decide +kernel) (by decide +kernel)
set_option maxRecDepth 20000 in
theorem gX9_isPeriod_X9_goesWell : GoodIn wsX9_isPeriod (wsV RX9 46 RX9 yX9_goesWell wsX9_goesWell) := goodIn_app (goodIn_of _ (by decide +kernel)) ggX9_isPeriod_X9_goesWell
set_option maxRecDepth 20000 in
theorem ggX9_isPeriod_X9_hasPeriod : GoodIn wsX9_isPeriod wsX9_hasPeriod := goodIn_r _ [18, 19, 20, 21, 22, 23, 24, 25, 26, 27, 28, 29, 30] (by decide +kernel) (by decide +kernel)
set_option maxRecDepth 20000 in
theorem gX9_isPeriod_X9_hasPeriod : GoodIn wsX9_isPeriod (wsV RX9 124 RX9 yX9_hasPeriod wsX9_hasPeriod) := goodIn_app (goodIn_of _ (by decide +kernel)) ggX9_isPeriod_X9_hasPeriod
theorem dX9_isPeriod_0 : decode cX9_isPeriod 0 = .ok (.aload_n 0, 1) := by decide +kernel
theorem dX9_isPeriod_1 : decode cX9_isPeriod 1 = .ok (.aload_n 0, 1) := by decide +kernel
theorem dX9_isPeriod_2 : decode cX9_isPeriod 2 = .ok (.iload_n 1, 1) := by decide +kernel
theorem dX9_isPeriod_3 : decode cX9_isPeriod 3 = .ok (.iload_n 2, 1) := by decide +kernel
theorem dX9_isPeriod_4 : decode cX9_isPeriod 4 = .ok (.invokevirtual 56, 3) := by decide +kernel
theorem dX9_isPeriod_7 : decode cX9_isPeriod 7 = .ok (.ifCond .ne 7, 3) := by decide +kernel
theorem dX9_isPeriod_10 : decode cX9_isPeriod 10 = .ok (.iconst 1, 1) := by decide +kernel
theorem dX9_isPeriod_11 : decode cX9_isPeriod 11 = .ok (.goto 19, 3) := by decide +kernel
theorem dX9_isPeriod_14 : decode cX9_isPeriod 14 = .ok (.iload_n 3, 1) := by decide +kernel
theorem dX9_isPeriod_15 : decode cX9_isPeriod 15 = .ok (.iconst 1, 1) := by decide +kernel
theorem dX9_isPeriod_16 : decode cX9_isPeriod 16 = .ok (.iload_n 2, 1) := by decide +kernel
theorem dX9_isPeriod_17 : decode cX9_isPeriod 17 = .ok (.iload_n 1, 1) := by decide +kernel
theorem dX9_isPeriod_18 : decode cX9_isPeriod 18 = .ok (.isub, 1) := by decide +kernel
theorem dX9_isPeriod_19 : decode cX9_isPeriod 19 = .ok (.invokestatic 42, 3) := by decide +kernel
theorem dX9_isPeriod_22 : decode cX9_isPeriod 22 = .ok (.ifCond .ne 7, 3) := by decide +kernel
theorem dX9_isPeriod_25 : decode cX9_isPeriod 25 = .ok (.iconst 2, 1) := by decide +kernel
theorem dX9_isPeriod_26 : decode cX9_isPeriod 26 = .ok (.goto 4, 3) := by decide +kernel
theorem dX9_isPeriod_29 : decode cX9_isPeriod 29 = .ok (.iconst 0, 1) := by decide +kernel
theorem dX9_isPeriod_30 : decode cX9_isPeriod 30 = .ok (.invokevirtual 46, 3) := by decide +kernel
theorem dX9_isPeriod_33 : decode cX9_isPeriod 33 = .ok (.ifCond .eq 17, 3) := by decide +kernel
theorem dX9_isPeriod_36 : decode cX9_isPeriod 36 = .ok (.aload_n 0, 1) := by decide +kernel
theorem dX9_isPeriod_37 : decode cX9_isPeriod 37 = .ok (.iload_n 1, 1) := by decide +kernel
theorem dX9_isPeriod_38 : decode cX9_isPeriod 38 = .ok (.iload_n 2, 1) := by decide +kernel
theorem dX9_isPeriod_39 : decode cX9_isPeriod 39 = .ok (.iload_n 3, 1) := by decide +kernel
theorem dX9_isPeriod_40 : decode cX9_isPeriod 40 = .ok (.invokevirtual 124, 3) := by decide +kernel
theorem dX9_isPeriod_43 : decode cX9_isPeriod 43 = .ok (.ifCond .eq 7, 3) := by decide +kernel
theorem dX9_isPeriod_46 : decode cX9_isPeriod 46 = .ok (.iconst 1, 1) := by decide +kernel
theorem dX9_isPeriod_47 : decode cX9_isPeriod 47 = .ok (.goto 4, 3) := by decide +kernel
theorem dX9_isPeriod_50 : decode cX9_isPeriod 50 = .ok (.iconst 0, 1) := by decide +kernel
theorem dX9_isPeriod_51 : decode cX9_isPeriod 51 = .ok (.ireturn, 1) := by decide +kernel
set_option maxRecDepth 20000 in
theorem ggX9_periods_X9_isPart : GoodIn wsX9_periods wsX9_isPart := goodIn_r _ [5, 6, 17, 18, 19, 20, 21, 22, 23, 24, 25, 26, 27] (by decide +kernel) (by decide +kernel)
set_option maxRecDepth 20000 in
theorem gX9_periods_X9_isPart : GoodIn wsX9_periods (wsV RX9 56 RX9 yX9_isPart wsX9_isPart) := goodIn_app (goodIn_of _ (by decide +kernel)) ggX9_periods_X9_isPart
set_option maxRecDepth 20000 in
theorem ggX9_periods_X9_goesWell : GoodIn wsX9_periods wsX9_goesWell := goodIn_r _ [10, 11, 17, 18, 19, 20, 21, 22, 23, 24, 25, 26, 27] (by decide +kernel) (by decide +kernel)
set_option maxRecDepth 20000 in
theorem gX9_periods_X9_goesWell : GoodIn wsX9_periods (wsV RX9 46 RX9 yX9_goesWell wsX9_goesWell) := goodIn_app (goodIn_of _ (by decide +kernel)) ggX9_periods_X9_goesWell
set_option maxRecDepth 20000 in
theorem ggX9_periods_X9_hasPeriod : GoodIn wsX9_periods wsX9_hasPeriod := goodIn_r _ [15, 16, 17, 18, 19, 20, 21, 22, 23, 24, 25, 26, 27] (by decide +kernel) (by decide +kernel)
set_option maxRecDepth 20000 in
theorem gX9_periods_X9_hasPeriod : GoodIn wsX9_periods (wsV RX9 124 RX9 yX9_hasPeriod wsX9_hasPeriod) := goodIn_app (goodIn_of _ (by decide +kernel)) ggX9_periods_X9_hasPeriod
theorem dX9_periods_0 : decode cX9_periods 0 = .ok (.aload_n 0, 1) := by decide +kernel
theorem dX9_periods_1 : decode cX9_periods 1 = .ok (.aload_n 0, 1) := by decide +kernel
theorem dX9_periods_2 : decode cX9_periods 2 = .ok (.iload_n 1, 1) := by decide +kernel
theorem dX9_periods_3 : decode cX9_periods 3 = .ok (.iload_n 2, 1) := by decide +kernel
theorem dX9_periods_4 : decode cX9_periods 4 = .ok (.invokevirtual 56, 3) := by decide +kernel
theorem dX9_periods_7 : decode cX9_periods 7 = .ok (.ifCond .eq 7, 3) := by decide +kernel
theorem dX9_periods_10 : decode cX9_periods 10 = .ok (.iconst 0, 1) := by decide +kernel
theorem dX9_periods_11 : decode cX9_periods 11 = .ok (.goto 4, 3) := by decide +kernel
theorem dX9_periods_14 : decode cX9_periods 14 = .ok (.iconst 1, 1) := by decide +kernel
theorem dX9_periods_15 : decode cX9_periods 15 = .ok (.invokevirtual 46, 3) := by decide +kernel
theorem dX9_periods_18 : decode cX9_periods 18 = .ok (.ifCond .ne 5, 3) := by decide +kernel
theorem dX9_periods_21 : decode cX9_periods 21 = .ok (.iconst 0, 1) := by decide +kernel
theorem dX9_periods_22 : decode cX9_periods 22 = .ok (.ireturn, 1) := by decide +kernel
theorem dX9_periods_23 : decode cX9_periods 23 = .ok (.iconst 0, 1) := by decide +kernel
theorem dX9_periods_24 : decode cX9_periods 24 = .ok (.istore_n 3, 1) := by decide +kernel
theorem dX9_periods_25 : decode cX9_periods 25 = .ok (.iconst 1, 1) := by decide +kernel
theorem dX9_periods_26 : decode cX9_periods 26 = .ok (.istore 4, 2) := by decide +kernel
theorem dX9_periods_28 : decode cX9_periods 28 = .ok (.iload 4, 2) := by decide +kernel
theorem dX9_periods_30 : decode cX9_periods 30 = .ok (.iload_n 2, 1) := by decide +kernel
theorem dX9_periods_31 : decode cX9_periods 31 = .ok (.iload_n 1, 1) := by decide +kernel
theorem dX9_periods_32 : decode cX9_periods 32 = .ok (.isub, 1) := by decide +kernel
theorem dX9_periods_33 : decode cX9_periods 33 = .ok (.if_icmp .gt 28, 3) := by decide +kernel
theorem dX9_periods_36 : decode cX9_periods 36 = .ok (.iload_n 3, 1) := by decide +kernel
theorem dX9_periods_37 : decode cX9_periods 37 = .ok (.aload_n 0, 1) := by decide +kernel
theorem dX9_periods_38 : decode cX9_periods 38 = .ok (.iload_n 1, 1) := by decide +kernel
theorem dX9_periods_39 : decode cX9_periods 39 = .ok (.iload_n 2, 1) := by decide +kernel
theorem dX9_periods_40 : decode cX9_periods 40 = .ok (.iload 4, 2) := by decide +kernel
theorem dX9_periods_42 : decode cX9_periods 42 = .ok (.invokevirtual 124, 3) := by decide +kernel
theorem dX9_periods_45 : decode cX9_periods 45 = .ok (.ifCond .eq 7, 3) := by decide +kernel
theorem dX9_periods_48 : decode cX9_periods 48 = .ok (.iconst 1, 1) := by decide +kernel
theorem dX9_periods_49 : decode cX9_periods 49 = .ok (.goto 4, 3) := by decide +kernel
theorem dX9_periods_52 : decode cX9_periods 52 = .ok (.iconst 0, 1) := by decide +kernel
theorem dX9_periods_53 : decode cX9_periods 53 = .ok (.iadd, 1) := by decide +kernel
theorem dX9_periods_54 : decode cX9_periods 54 = .ok (.istore_n 3, 1) := by decide +kernel
theorem dX9_periods_55 : decode cX9_periods 55 = .ok (.iinc 4 1, 3) := by decide +kernel
theorem dX9_periods_58 : decode cX9_periods 58 = .ok (.goto (-30), 3) := by decide +kernel
theorem dX9_periods_61 : decode cX9_periods 61 = .ok (.iload_n 3, 1) := by decide +kernel
theorem dX9_periods_62 : decode cX9_periods 62 = .ok (.ireturn, 1) := by decide +kernel
set_option maxRecDepth 20000 in
theorem ggX9_border_X9_isPart : GoodIn wsX9_border wsX9_isPart := goodIn_r _ [5, 6, 17, 18, 19, 20, 21, 22, 23, 24, 25, 26, 27] (by decide +kernel) (by decide +kernel)
set_option maxRecDepth 20000 in
theorem gX9_border_X9_isPart : GoodIn wsX9_border (wsV RX9 56 RX9 yX9_isPart wsX9_isPart) := goodIn_app (goodIn_of _ (by decide +kernel)) ggX9_border_X9_isPart
set_option maxRecDepth 20000 in
theorem ggX9_border_X9_goesWell : GoodIn wsX9_border wsX9_goesWell := goodIn_r _ [10, 11, 17, 18, 19, 20, 21, 22, 23, 24, 25, 26, 27] (by decide +kernel) (by decide +kernel)
set_option maxRecDepth 20000 in
theorem gX9_border_X9_goesWell : GoodIn wsX9_border (wsV RX9 46 RX9 yX9_goesWell wsX9_goesWell) := goodIn_app (goodIn_of _ (by decide +kernel)) ggX9_border_X9_goesWell
set_option maxRecDepth 20000 in
theorem ggX9_border_X9_same : GoodIn wsX9_border wsX9_same := goodIn_r _ [15, 16, 17, 18, 19, 20, 21, 22, 23, 24, 25, 26, 27] (by decide +kernel) (by decide +kernel)
set_option maxRecDepth 20000 in
theorem gX9_border_X9_same : GoodIn wsX9_border (wsV RX9 94 RX9 yX9_same wsX9_same) := goodIn_app (goodIn_of _ (by decide +kernel)) ggX9_border_X9_same
theorem dX9_border_0 : decode cX9_border 0 = .ok (.aload_n 0, 1) := by decide +kernel
theorem dX9_border_1 : decode cX9_border 1 = .ok (.aload_n 0, 1) := by decide +kernel
theorem dX9_border_2 : decode cX9_border 2 = .ok (.iload_n 1, 1) := by decide +kernel
theorem dX9_border_3 : decode cX9_border 3 = .ok (.iload_n 2, 1) := by decide +kernel
theorem dX9_border_4 : decode cX9_border 4 = .ok (.invokevirtual 56, 3) := by decide +kernel
theorem dX9_border_7 : decode cX9_border 7 = .ok (.ifCond .eq 7, 3) := by decide +kernel
theorem dX9_border_10 : decode cX9_border 10 = .ok (.iconst 0, 1) := by decide +kernel
theorem dX9_border_11 : decode cX9_border 11 = .ok (.goto 4, 3) := by decide +kernel
theorem dX9_border_14 : decode cX9_border 14 = .ok (.iconst 1, 1) := by decide +kernel
theorem dX9_border_15 : decode cX9_border 15 = .ok (.invokevirtual 46, 3) := by decide +kernel
theorem dX9_border_18 : decode cX9_border 18 = .ok (.ifCond .ne 5, 3) := by decide +kernel
theorem dX9_border_21 : decode cX9_border 21 = .ok (.iconst 0, 1) := by decide +kernel
theorem dX9_border_22 : decode cX9_border 22 = .ok (.ireturn, 1) := by decide +kernel
theorem dX9_border_23 : decode cX9_border 23 = .ok (.iload_n 2, 1) := by decide +kernel
theorem dX9_border_24 : decode cX9_border 24 = .ok (.iload_n 1, 1) := by decide +kernel
theorem dX9_border_25 : decode cX9_border 25 = .ok (.isub, 1) := by decide +kernel
theorem dX9_border_26 : decode cX9_border 26 = .ok (.iconst 1, 1) := by decide +kernel
theorem dX9_border_27 : decode cX9_border 27 = .ok (.isub, 1) := by decide +kernel
theorem dX9_border_28 : decode cX9_border 28 = .ok (.istore_n 3, 1) := by decide +kernel
theorem dX9_border_29 : decode cX9_border 29 = .ok (.aload_n 0, 1) := by decide +kernel
theorem dX9_border_30 : decode cX9_border 30 = .ok (.iload_n 1, 1) := by decide +kernel
theorem dX9_border_31 : decode cX9_border 31 = .ok (.iload_n 1, 1) := by decide +kernel
theorem dX9_border_32 : decode cX9_border 32 = .ok (.iload_n 3, 1) := by decide +kernel
theorem dX9_border_33 : decode cX9_border 33 = .ok (.iadd, 1) := by decide +kernel
theorem dX9_border_34 : decode cX9_border 34 = .ok (.iload_n 2, 1) := by decide +kernel
theorem dX9_border_35 : decode cX9_border 35 = .ok (.iload_n 3, 1) := by decide +kernel
theorem dX9_border_36 : decode cX9_border 36 = .ok (.isub, 1) := by decide +kernel
theorem dX9_border_37 : decode cX9_border 37 = .ok (.iload_n 2, 1) := by decide +kernel
theorem dX9_border_38 : decode cX9_border 38 = .ok (.invokevirtual 94, 3) := by decide +kernel
theorem dX9_border_41 : decode cX9_border 41 = .ok (.iload_n 3, 1) := by decide +kernel
theorem dX9_border_42 : decode cX9_border 42 = .ok (.if_icmp .ge 9, 3) := by decide +kernel
theorem dX9_border_45 : decode cX9_border 45 = .ok (.iinc 3 (-1), 3) := by decide +kernel
theorem dX9_border_48 : decode cX9_border 48 = .ok (.goto (-19), 3) := by decide +kernel
theorem dX9_border_51 : decode cX9_border 51 = .ok (.iload_n 3, 1) := by decide +kernel
theorem dX9_border_52 : decode cX9_border 52 = .ok (.ireturn, 1) := by decide +kernel
set_option maxRecDepth 20000 in
theorem ggX9_root_X9_hasPeriod : GoodIn wsX9_root wsX9_hasPeriod := goodIn_r _ [5, 6, 7, 8, 9, 10, 11, 12, 13, 14, 15, 16, 17] (by decide +kernel) (by decide +kernel)
set_option maxRecDepth 20000 in
theorem gX9_root_X9_hasPeriod : GoodIn wsX9_root (wsV RX9 124 RX9 yX9_hasPeriod wsX9_hasPeriod) := goodIn_app (goodIn_of _ (by decide +kernel)) ggX9_root_X9_hasPeriod
theorem dX9_root_0 : decode cX9_root 0 = .ok (.iconst 1, 1) := by decide +kernel
theorem dX9_root_1 : decode cX9_root 1 = .ok (.istore_n 3, 1) := by decide +kernel
theorem dX9_root_2 : decode cX9_root 2 = .ok (.iload_n 2, 1) := by decide +kernel
theorem dX9_root_3 : decode cX9_root 3 = .ok (.iload_n 1, 1) := by decide +kernel
theorem dX9_root_4 : decode cX9_root 4 = .ok (.isub, 1) := by decide +kernel
theorem dX9_root_5 : decode cX9_root 5 = .ok (.iload_n 3, 1) := by decide +kernel
theorem dX9_root_6 : decode cX9_root 6 = .ok (.irem, 1) := by decide +kernel
theorem dX9_root_7 : decode cX9_root 7 = .ok (.ifCond .ne 13, 3) := by decide +kernel
theorem dX9_root_10 : decode cX9_root 10 = .ok (.aload_n 0, 1) := by decide +kernel
theorem dX9_root_11 : decode cX9_root 11 = .ok (.iload_n 1, 1) := by decide +kernel
theorem dX9_root_12 : decode cX9_root 12 = .ok (.iload_n 2, 1) := by decide +kernel
theorem dX9_root_13 : decode cX9_root 13 = .ok (.iload_n 3, 1) := by decide +kernel
theorem dX9_root_14 : decode cX9_root 14 = .ok (.invokevirtual 124, 3) := by decide +kernel
theorem dX9_root_17 : decode cX9_root 17 = .ok (.ifCond .ne 9, 3) := by decide +kernel
theorem dX9_root_20 : decode cX9_root 20 = .ok (.iinc 3 1, 3) := by decide +kernel
theorem dX9_root_23 : decode cX9_root 23 = .ok (.goto (-21), 3) := by decide +kernel
theorem dX9_root_26 : decode cX9_root 26 = .ok (.iload_n 3, 1) := by decide +kernel
theorem dX9_root_27 : decode cX9_root 27 = .ok (.ireturn, 1) := by decide +kernel
set_option maxRecDepth 20000 in
theorem ggX9_rootLength_X9_isPart : GoodIn wsX9_rootLength wsX9_isPart := goodIn_r _ [5, 6, 21, 22, 23, 24, 25, 26, 27, 28, 29, 30, 31] (by decide +kernel) (by decide +kernel)
set_option maxRecDepth 20000 in
theorem gX9_rootLength_X9_isPart : GoodIn wsX9_rootLength (wsV RX9 56 RX9 yX9_isPart wsX9_isPart) := goodIn_app (goodIn_of _ (by decide +kernel)) ggX9_rootLength_X9_isPart
set_option maxRecDepth 20000 in
theorem ggX9_rootLength_X9_goesWell : GoodIn wsX9_rootLength wsX9_goesWell := goodIn_r _ [10, 11, 21, 22, 23, 24, 25, 26, 27, 28, 29, 30, 31] (by decide +kernel) (by decide +kernel)
set_option maxRecDepth 20000 in
theorem gX9_rootLength_X9_goesWell : GoodIn wsX9_rootLength (wsV RX9 46 RX9 yX9_goesWell wsX9_goesWell) := goodIn_app (goodIn_of _ (by decide +kernel)) ggX9_rootLength_X9_goesWell
set_option maxRecDepth 20000 in
theorem ggX9_rootLength_X9_root : GoodIn wsX9_rootLength wsX9_root := goodIn_r _ [15, 16, 17, 18, 4, 19, 20, 21, 22, 23, 24, 25, 26, 27, 28, 29, 30, 31] (by decide +kernel) (by decide +kernel)
set_option maxRecDepth 20000 in
theorem gX9_rootLength_X9_root : GoodIn wsX9_rootLength (wsV RX9 91 RX9 yX9_root wsX9_root) := goodIn_app (goodIn_of _ (by decide +kernel)) ggX9_rootLength_X9_root
theorem dX9_rootLength_0 : decode cX9_rootLength 0 = .ok (.aload_n 0, 1) := by decide +kernel
theorem dX9_rootLength_1 : decode cX9_rootLength 1 = .ok (.aload_n 0, 1) := by decide +kernel
theorem dX9_rootLength_2 : decode cX9_rootLength 2 = .ok (.iload_n 1, 1) := by decide +kernel
theorem dX9_rootLength_3 : decode cX9_rootLength 3 = .ok (.iload_n 2, 1) := by decide +kernel
theorem dX9_rootLength_4 : decode cX9_rootLength 4 = .ok (.invokevirtual 56, 3) := by decide +kernel
theorem dX9_rootLength_7 : decode cX9_rootLength 7 = .ok (.ifCond .eq 7, 3) := by decide +kernel
theorem dX9_rootLength_10 : decode cX9_rootLength 10 = .ok (.iconst 0, 1) := by decide +kernel
theorem dX9_rootLength_11 : decode cX9_rootLength 11 = .ok (.goto 4, 3) := by decide +kernel
theorem dX9_rootLength_14 : decode cX9_rootLength 14 = .ok (.iconst 1, 1) := by decide +kernel
theorem dX9_rootLength_15 : decode cX9_rootLength 15 = .ok (.invokevirtual 46, 3) := by decide +kernel
theorem dX9_rootLength_18 : decode cX9_rootLength 18 = .ok (.ifCond .eq 12, 3) := by decide +kernel
theorem dX9_rootLength_21 : decode cX9_rootLength 21 = .ok (.aload_n 0, 1) := by decide +kernel
theorem dX9_rootLength_22 : decode cX9_rootLength 22 = .ok (.iload_n 1, 1) := by decide +kernel
theorem dX9_rootLength_23 : decode cX9_rootLength 23 = .ok (.iload_n 2, 1) := by decide +kernel
theorem dX9_rootLength_24 : decode cX9_rootLength 24 = .ok (.invokevirtual 91, 3) := by decide +kernel
theorem dX9_rootLength_27 : decode cX9_rootLength 27 = .ok (.goto 4, 3) := by decide +kernel
theorem dX9_rootLength_30 : decode cX9_rootLength 30 = .ok (.iconst 0, 1) := by decide +kernel
theorem dX9_rootLength_31 : decode cX9_rootLength 31 = .ok (.ireturn, 1) := by decide +kernel
set_option maxRecDepth 20000 in
theorem ggX9_exponent_X9_isPart : GoodIn wsX9_exponent wsX9_isPart := goodIn_r _ [5, 6, 21, 22, 23, 24, 25, 26, 27, 28, 29, 30, 31] (by decide +kernel) (by decide +kernel)
set_option maxRecDepth 20000 in
theorem gX9_exponent_X9_isPart : GoodIn wsX9_exponent (wsV RX9 56 RX9 yX9_isPart wsX9_isPart) := goodIn_app (goodIn_of _ (by decide +kernel)) ggX9_exponent_X9_isPart
set_option maxRecDepth 20000 in
theorem ggX9_exponent_X9_goesWell : GoodIn wsX9_exponent wsX9_goesWell := goodIn_r _ [10, 11, 21, 22, 23, 24, 25, 26, 27, 28, 29, 30, 31] (by decide +kernel) (by decide +kernel)
set_option maxRecDepth 20000 in
theorem gX9_exponent_X9_goesWell : GoodIn wsX9_exponent (wsV RX9 46 RX9 yX9_goesWell wsX9_goesWell) := goodIn_app (goodIn_of _ (by decide +kernel)) ggX9_exponent_X9_goesWell
set_option maxRecDepth 20000 in
theorem ggX9_exponent_X9_leastPeriod : GoodIn wsX9_exponent wsX9_leastPeriod := goodIn_r _ [15, 16, 17, 18, 4, 19, 20, 21, 22, 23, 24, 25, 26, 27, 28, 29, 30, 31] (by decide +kernel) (by decide +kernel)
set_option maxRecDepth 20000 in
theorem gX9_exponent_X9_leastPeriod : GoodIn wsX9_exponent (wsV RX9 127 RX9 yX9_leastPeriod wsX9_leastPeriod) := goodIn_app (goodIn_of _ (by decide +kernel)) ggX9_exponent_X9_leastPeriod
theorem dX9_exponent_0 : decode cX9_exponent 0 = .ok (.aload_n 0, 1) := by decide +kernel
theorem dX9_exponent_1 : decode cX9_exponent 1 = .ok (.aload_n 0, 1) := by decide +kernel
theorem dX9_exponent_2 : decode cX9_exponent 2 = .ok (.iload_n 1, 1) := by decide +kernel
theorem dX9_exponent_3 : decode cX9_exponent 3 = .ok (.iload_n 2, 1) := by decide +kernel
theorem dX9_exponent_4 : decode cX9_exponent 4 = .ok (.invokevirtual 56, 3) := by decide +kernel
theorem dX9_exponent_7 : decode cX9_exponent 7 = .ok (.ifCond .eq 7, 3) := by decide +kernel
theorem dX9_exponent_10 : decode cX9_exponent 10 = .ok (.iconst 0, 1) := by decide +kernel
theorem dX9_exponent_11 : decode cX9_exponent 11 = .ok (.goto 4, 3) := by decide +kernel
theorem dX9_exponent_14 : decode cX9_exponent 14 = .ok (.iconst 1, 1) := by decide +kernel
theorem dX9_exponent_15 : decode cX9_exponent 15 = .ok (.invokevirtual 46, 3) := by decide +kernel
theorem dX9_exponent_18 : decode cX9_exponent 18 = .ok (.ifCond .eq 18, 3) := by decide +kernel
theorem dX9_exponent_21 : decode cX9_exponent 21 = .ok (.iload_n 2, 1) := by decide +kernel
theorem dX9_exponent_22 : decode cX9_exponent 22 = .ok (.iload_n 1, 1) := by decide +kernel
theorem dX9_exponent_23 : decode cX9_exponent 23 = .ok (.isub, 1) := by decide +kernel
theorem dX9_exponent_24 : decode cX9_exponent 24 = .ok (.i2d, 1) := by decide +kernel
theorem dX9_exponent_25 : decode cX9_exponent 25 = .ok (.aload_n 0, 1) := by decide +kernel
theorem dX9_exponent_26 : decode cX9_exponent 26 = .ok (.iload_n 1, 1) := by decide +kernel
theorem dX9_exponent_27 : decode cX9_exponent 27 = .ok (.iload_n 2, 1) := by decide +kernel
theorem dX9_exponent_28 : decode cX9_exponent 28 = .ok (.invokevirtual 127, 3) := by decide +kernel
theorem dX9_exponent_31 : decode cX9_exponent 31 = .ok (.i2d, 1) := by decide +kernel
theorem dX9_exponent_32 : decode cX9_exponent 32 = .ok (.ddiv, 1) := by decide +kernel
theorem dX9_exponent_33 : decode cX9_exponent 33 = .ok (.goto 4, 3) := by decide +kernel
theorem dX9_exponent_36 : decode cX9_exponent 36 = .ok (.dconst 0, 1) := by decide +kernel
theorem dX9_exponent_37 : decode cX9_exponent 37 = .ok (.dreturn, 1) := by decide +kernel
set_option maxRecDepth 20000 in
theorem ggX9_layRuns_X9_same : GoodIn wsX9_layRuns wsX9_same := goodIn_r _ [11, 3, 20, 21, 22, 23, 24, 25, 26, 27, 28, 29, 30] (by decide +kernel) (by decide +kernel)
set_option maxRecDepth 20000 in
theorem gX9_layRuns_X9_same : GoodIn wsX9_layRuns (wsV RX9 94 RX9 yX9_same wsX9_same) := goodIn_app (goodIn_of _ (by decide +kernel)) ggX9_layRuns_X9_same
set_option maxRecDepth 20000 in
theorem ggX9_layRuns_X9_leastPeriod : GoodIn wsX9_layRuns wsX9_leastPeriod := goodIn_r _ [15, 16, 17, 18, 10, 19, 3, 20, 21, 22, 23, 24, 25, 26, 27, 28, 29, 30] (by decide +kernel) (by decide +kernel)
set_option maxRecDepth 20000 in
theorem gX9_layRuns_X9_leastPeriod : GoodIn wsX9_layRuns (wsV RX9 127 RX9 yX9_leastPeriod wsX9_leastPeriod) := goodIn_app (goodIn_of _ (by decide +kernel)) ggX9_layRuns_X9_leastPeriod
theorem dX9_layRuns_0 : decode cX9_layRuns 0 = .ok (.aload_n 0, 1) := by decide +kernel
theorem dX9_layRuns_1 : decode cX9_layRuns 1 = .ok (.iconst 0, 1) := by decide +kernel
theorem dX9_layRuns_2 : decode cX9_layRuns 2 = .ok (.putfield 130, 3) := by decide +kernel
theorem dX9_layRuns_5 : decode cX9_layRuns 5 = .ok (.iconst 0, 1) := by decide +kernel
theorem dX9_layRuns_6 : decode cX9_layRuns 6 = .ok (.istore_n 1, 1) := by decide +kernel
theorem dX9_layRuns_7 : decode cX9_layRuns 7 = .ok (.iload_n 1, 1) := by decide +kernel
theorem dX9_layRuns_8 : decode cX9_layRuns 8 = .ok (.aload_n 0, 1) := by decide +kernel
theorem dX9_layRuns_9 : decode cX9_layRuns 9 = .ok (.getfield 39, 3) := by decide +kernel
theorem dX9_layRuns_12 : decode cX9_layRuns 12 = .ok (.if_icmp .ge 146, 3) := by decide +kernel
theorem dX9_layRuns_15 : decode cX9_layRuns 15 = .ok (.iconst 1, 1) := by decide +kernel
theorem dX9_layRuns_16 : decode cX9_layRuns 16 = .ok (.istore_n 2, 1) := by decide +kernel
theorem dX9_layRuns_17 : decode cX9_layRuns 17 = .ok (.iload_n 1, 1) := by decide +kernel
theorem dX9_layRuns_18 : decode cX9_layRuns 18 = .ok (.iconst 2, 1) := by decide +kernel
theorem dX9_layRuns_19 : decode cX9_layRuns 19 = .ok (.iload_n 2, 1) := by decide +kernel
theorem dX9_layRuns_20 : decode cX9_layRuns 20 = .ok (.imul, 1) := by decide +kernel
theorem dX9_layRuns_21 : decode cX9_layRuns 21 = .ok (.iadd, 1) := by decide +kernel
theorem dX9_layRuns_22 : decode cX9_layRuns 22 = .ok (.aload_n 0, 1) := by decide +kernel
theorem dX9_layRuns_23 : decode cX9_layRuns 23 = .ok (.getfield 39, 3) := by decide +kernel
theorem dX9_layRuns_26 : decode cX9_layRuns 26 = .ok (.if_icmp .gt 126, 3) := by decide +kernel
theorem dX9_layRuns_29 : decode cX9_layRuns 29 = .ok (.iload_n 1, 1) := by decide +kernel
theorem dX9_layRuns_30 : decode cX9_layRuns 30 = .ok (.iload_n 2, 1) := by decide +kernel
theorem dX9_layRuns_31 : decode cX9_layRuns 31 = .ok (.iadd, 1) := by decide +kernel
theorem dX9_layRuns_32 : decode cX9_layRuns 32 = .ok (.aload_n 0, 1) := by decide +kernel
theorem dX9_layRuns_33 : decode cX9_layRuns 33 = .ok (.iload_n 1, 1) := by decide +kernel
theorem dX9_layRuns_34 : decode cX9_layRuns 34 = .ok (.aload_n 0, 1) := by decide +kernel
theorem dX9_layRuns_35 : decode cX9_layRuns 35 = .ok (.getfield 39, 3) := by decide +kernel
theorem dX9_layRuns_38 : decode cX9_layRuns 38 = .ok (.iload_n 1, 1) := by decide +kernel
theorem dX9_layRuns_39 : decode cX9_layRuns 39 = .ok (.iload_n 2, 1) := by decide +kernel
theorem dX9_layRuns_40 : decode cX9_layRuns 40 = .ok (.iadd, 1) := by decide +kernel
theorem dX9_layRuns_41 : decode cX9_layRuns 41 = .ok (.aload_n 0, 1) := by decide +kernel
theorem dX9_layRuns_42 : decode cX9_layRuns 42 = .ok (.getfield 39, 3) := by decide +kernel
theorem dX9_layRuns_45 : decode cX9_layRuns 45 = .ok (.invokevirtual 94, 3) := by decide +kernel
theorem dX9_layRuns_48 : decode cX9_layRuns 48 = .ok (.iadd, 1) := by decide +kernel
theorem dX9_layRuns_49 : decode cX9_layRuns 49 = .ok (.istore_n 3, 1) := by decide +kernel
theorem dX9_layRuns_50 : decode cX9_layRuns 50 = .ok (.iload_n 1, 1) := by decide +kernel
theorem dX9_layRuns_51 : decode cX9_layRuns 51 = .ok (.ifCond .le 28, 3) := by decide +kernel
theorem dX9_layRuns_54 : decode cX9_layRuns 54 = .ok (.aload_n 0, 1) := by decide +kernel
theorem dX9_layRuns_55 : decode cX9_layRuns 55 = .ok (.getfield 7, 3) := by decide +kernel
theorem dX9_layRuns_58 : decode cX9_layRuns 58 = .ok (.iload_n 1, 1) := by decide +kernel
theorem dX9_layRuns_59 : decode cX9_layRuns 59 = .ok (.iconst 1, 1) := by decide +kernel
theorem dX9_layRuns_60 : decode cX9_layRuns 60 = .ok (.isub, 1) := by decide +kernel
theorem dX9_layRuns_61 : decode cX9_layRuns 61 = .ok (.iaload, 1) := by decide +kernel
theorem dX9_layRuns_62 : decode cX9_layRuns 62 = .ok (.aload_n 0, 1) := by decide +kernel
theorem dX9_layRuns_63 : decode cX9_layRuns 63 = .ok (.getfield 7, 3) := by decide +kernel
theorem dX9_layRuns_66 : decode cX9_layRuns 66 = .ok (.iload_n 1, 1) := by decide +kernel
theorem dX9_layRuns_67 : decode cX9_layRuns 67 = .ok (.iconst 1, 1) := by decide +kernel
theorem dX9_layRuns_68 : decode cX9_layRuns 68 = .ok (.isub, 1) := by decide +kernel
theorem dX9_layRuns_69 : decode cX9_layRuns 69 = .ok (.iload_n 2, 1) := by decide +kernel
theorem dX9_layRuns_70 : decode cX9_layRuns 70 = .ok (.iadd, 1) := by decide +kernel
theorem dX9_layRuns_71 : decode cX9_layRuns 71 = .ok (.iaload, 1) := by decide +kernel
theorem dX9_layRuns_72 : decode cX9_layRuns 72 = .ok (.if_icmp .ne 7, 3) := by decide +kernel
theorem dX9_layRuns_75 : decode cX9_layRuns 75 = .ok (.iconst 1, 1) := by decide +kernel
theorem dX9_layRuns_76 : decode cX9_layRuns 76 = .ok (.goto 4, 3) := by decide +kernel
theorem dX9_layRuns_79 : decode cX9_layRuns 79 = .ok (.iconst 0, 1) := by decide +kernel
theorem dX9_layRuns_80 : decode cX9_layRuns 80 = .ok (.istore 4, 2) := by decide +kernel
theorem dX9_layRuns_82 : decode cX9_layRuns 82 = .ok (.iload_n 3, 1) := by decide +kernel
theorem dX9_layRuns_83 : decode cX9_layRuns 83 = .ok (.iload_n 1, 1) := by decide +kernel
theorem dX9_layRuns_84 : decode cX9_layRuns 84 = .ok (.isub, 1) := by decide +kernel
theorem dX9_layRuns_85 : decode cX9_layRuns 85 = .ok (.iconst 2, 1) := by decide +kernel
theorem dX9_layRuns_86 : decode cX9_layRuns 86 = .ok (.iload_n 2, 1) := by decide +kernel
theorem dX9_layRuns_87 : decode cX9_layRuns 87 = .ok (.imul, 1) := by decide +kernel
theorem dX9_layRuns_88 : decode cX9_layRuns 88 = .ok (.if_icmp .lt 58, 3) := by decide +kernel
theorem dX9_layRuns_91 : decode cX9_layRuns 91 = .ok (.iload 4, 2) := by decide +kernel
theorem dX9_layRuns_93 : decode cX9_layRuns 93 = .ok (.ifCond .ne 53, 3) := by decide +kernel
theorem dX9_layRuns_96 : decode cX9_layRuns 96 = .ok (.aload_n 0, 1) := by decide +kernel
theorem dX9_layRuns_97 : decode cX9_layRuns 97 = .ok (.iload_n 1, 1) := by decide +kernel
theorem dX9_layRuns_98 : decode cX9_layRuns 98 = .ok (.iload_n 3, 1) := by decide +kernel
theorem dX9_layRuns_99 : decode cX9_layRuns 99 = .ok (.invokevirtual 127, 3) := by decide +kernel
theorem dX9_layRuns_102 : decode cX9_layRuns 102 = .ok (.iload_n 2, 1) := by decide +kernel
theorem dX9_layRuns_103 : decode cX9_layRuns 103 = .ok (.if_icmp .ne 43, 3) := by decide +kernel
theorem dX9_layRuns_106 : decode cX9_layRuns 106 = .ok (.aload_n 0, 1) := by decide +kernel
theorem dX9_layRuns_107 : decode cX9_layRuns 107 = .ok (.getfield 16, 3) := by decide +kernel
theorem dX9_layRuns_110 : decode cX9_layRuns 110 = .ok (.aload_n 0, 1) := by decide +kernel
theorem dX9_layRuns_111 : decode cX9_layRuns 111 = .ok (.getfield 130, 3) := by decide +kernel
theorem dX9_layRuns_114 : decode cX9_layRuns 114 = .ok (.iload_n 1, 1) := by decide +kernel
theorem dX9_layRuns_115 : decode cX9_layRuns 115 = .ok (.iastore, 1) := by decide +kernel
theorem dX9_layRuns_116 : decode cX9_layRuns 116 = .ok (.aload_n 0, 1) := by decide +kernel
theorem dX9_layRuns_117 : decode cX9_layRuns 117 = .ok (.getfield 19, 3) := by decide +kernel
theorem dX9_layRuns_120 : decode cX9_layRuns 120 = .ok (.aload_n 0, 1) := by decide +kernel
theorem dX9_layRuns_121 : decode cX9_layRuns 121 = .ok (.getfield 130, 3) := by decide +kernel
theorem dX9_layRuns_124 : decode cX9_layRuns 124 = .ok (.iload_n 3, 1) := by decide +kernel
theorem dX9_layRuns_125 : decode cX9_layRuns 125 = .ok (.iastore, 1) := by decide +kernel
theorem dX9_layRuns_126 : decode cX9_layRuns 126 = .ok (.aload_n 0, 1) := by decide +kernel
theorem dX9_layRuns_127 : decode cX9_layRuns 127 = .ok (.getfield 22, 3) := by decide +kernel
theorem dX9_layRuns_130 : decode cX9_layRuns 130 = .ok (.aload_n 0, 1) := by decide +kernel
theorem dX9_layRuns_131 : decode cX9_layRuns 131 = .ok (.getfield 130, 3) := by decide +kernel
theorem dX9_layRuns_134 : decode cX9_layRuns 134 = .ok (.iload_n 2, 1) := by decide +kernel
theorem dX9_layRuns_135 : decode cX9_layRuns 135 = .ok (.iastore, 1) := by decide +kernel
theorem dX9_layRuns_136 : decode cX9_layRuns 136 = .ok (.aload_n 0, 1) := by decide +kernel
theorem dX9_layRuns_137 : decode cX9_layRuns 137 = .ok (.dup, 1) := by decide +kernel
theorem dX9_layRuns_138 : decode cX9_layRuns 138 = .ok (.getfield 130, 3) := by decide +kernel
theorem dX9_layRuns_141 : decode cX9_layRuns 141 = .ok (.iconst 1, 1) := by decide +kernel
theorem dX9_layRuns_142 : decode cX9_layRuns 142 = .ok (.iadd, 1) := by decide +kernel
theorem dX9_layRuns_143 : decode cX9_layRuns 143 = .ok (.putfield 130, 3) := by decide +kernel
theorem dX9_layRuns_146 : decode cX9_layRuns 146 = .ok (.iinc 2 1, 3) := by decide +kernel
theorem dX9_layRuns_149 : decode cX9_layRuns 149 = .ok (.goto (-132), 3) := by decide +kernel
theorem dX9_layRuns_152 : decode cX9_layRuns 152 = .ok (.iinc 1 1, 3) := by decide +kernel
theorem dX9_layRuns_155 : decode cX9_layRuns 155 = .ok (.goto (-148), 3) := by decide +kernel
theorem dX9_layRuns_158 : decode cX9_layRuns 158 = .ok (.return_, 1) := by decide +kernel
set_option maxRecDepth 20000 in
theorem ggX9_isRun_X9_layRuns : GoodIn wsX9_isRun wsX9_layRuns := goodIn_r _ [6, 1, 7, 8, 9, 10, 11, 12, 13, 14, 5, 15, 16, 17, 18, 19, 20, 21, 22, 23, 27, 28, 29, 30, 31, 32, 33, 34, 35, 36, 37] (by decide +kernel) (by decide +kernel)
set_option maxRecDepth 20000 in
theorem gX9_isRun_X9_layRuns : GoodIn wsX9_isRun (wsV RX9 133 RX9 yX9_layRuns wsX9_layRuns) := goodIn_app (goodIn_of _ (by decide +kernel)) ggX9_isRun_X9_layRuns
set_option maxRecDepth 20000 in
theorem ggX9_isRun_X9_in : GoodIn wsX9_isRun wsX9_in := goodIn_r _ [26] (by decide +kernel) (by decide +kernel)
set_option maxRecDepth 20000 in
theorem gX9_isRun_X9_in : GoodIn wsX9_isRun (va_wsS RX9 42 yX9_in wsX9_in) := goodIn_app (goodIn_of _ (by decide +kernel)) ggX9_isRun_X9_in
theorem dX9_isRun_0 : decode cX9_isRun 0 = .ok (.aload_n 0, 1) := by decide +kernel
theorem dX9_isRun_1 : decode cX9_isRun 1 = .ok (.invokevirtual 133, 3) := by decide +kernel
theorem dX9_isRun_4 : decode cX9_isRun 4 = .ok (.iload_n 1, 1) := by decide +kernel
theorem dX9_isRun_5 : decode cX9_isRun 5 = .ok (.iconst 0, 1) := by decide +kernel
theorem dX9_isRun_6 : decode cX9_isRun 6 = .ok (.aload_n 0, 1) := by decide +kernel
theorem dX9_isRun_7 : decode cX9_isRun 7 = .ok (.getfield 130, 3) := by decide +kernel
theorem dX9_isRun_10 : decode cX9_isRun 10 = .ok (.iconst 1, 1) := by decide +kernel
theorem dX9_isRun_11 : decode cX9_isRun 11 = .ok (.isub, 1) := by decide +kernel
theorem dX9_isRun_12 : decode cX9_isRun 12 = .ok (.invokestatic 42, 3) := by decide +kernel
theorem dX9_isRun_15 : decode cX9_isRun 15 = .ok (.ireturn, 1) := by decide +kernel
set_option maxRecDepth 20000 in
theorem ggX9_runs_X9_layRuns : GoodIn wsX9_runs wsX9_layRuns := goodIn_r _ [7, 2, 8, 9, 10, 11, 12, 13, 14, 15, 6, 16, 17, 18, 19, 20, 21, 22, 23, 24, 25, 26, 27, 28, 29, 30, 31, 32, 33, 34, 35] (by decide +kernel) (by decide +kernel)
set_option maxRecDepth 20000 in
theorem gX9_runs_X9_layRuns : GoodIn wsX9_runs (wsV RX9 133 RX9 yX9_layRuns wsX9_layRuns) := goodIn_app (goodIn_of _ (by decide +kernel)) ggX9_runs_X9_layRuns
theorem dX9_runs_0 : decode cX9_runs 0 = .ok (.aload_n 0, 1) := by decide +kernel
theorem dX9_runs_1 : decode cX9_runs 1 = .ok (.iconst 0, 1) := by decide +kernel
theorem dX9_runs_2 : decode cX9_runs 2 = .ok (.putfield 35, 3) := by decide +kernel
theorem dX9_runs_5 : decode cX9_runs 5 = .ok (.aload_n 0, 1) := by decide +kernel
theorem dX9_runs_6 : decode cX9_runs 6 = .ok (.invokevirtual 133, 3) := by decide +kernel
theorem dX9_runs_9 : decode cX9_runs 9 = .ok (.aload_n 0, 1) := by decide +kernel
theorem dX9_runs_10 : decode cX9_runs 10 = .ok (.getfield 130, 3) := by decide +kernel
theorem dX9_runs_13 : decode cX9_runs 13 = .ok (.ireturn, 1) := by decide +kernel
set_option maxRecDepth 20000 in
theorem ggX9_runStart_X9_isRun : GoodIn wsX9_runStart wsX9_isRun := goodIn_r _ [6, 7, 8, 9, 10, 5, 11, 12, 13, 1, 14, 15, 16, 17, 18, 19, 20, 21, 22, 23, 24, 25, 26, 27, 28, 29, 30, 36, 37, 38, 39, 40, 41, 42, 43, 44, 45, 46] (by decide +kernel) (by decide +kernel)
set_option maxRecDepth 20000 in
theorem gX9_runStart_X9_isRun : GoodIn wsX9_runStart (wsV RX9 136 RX9 yX9_isRun wsX9_isRun) := goodIn_app (goodIn_of _ (by decide +kernel)) ggX9_runStart_X9_isRun
set_option maxRecDepth 20000 in
theorem ggX9_runStart_X9_goesWell : GoodIn wsX9_runStart wsX9_goesWell := goodIn_r _ [34, 35, 36, 37, 38, 39, 40, 41, 42, 43, 44, 45, 46] (by decide +kernel) (by decide +kernel)
set_option maxRecDepth 20000 in
theorem gX9_runStart_X9_goesWell : GoodIn wsX9_runStart (wsV RX9 46 RX9 yX9_goesWell wsX9_goesWell) := goodIn_app (goodIn_of _ (by decide +kernel)) ggX9_runStart_X9_goesWell
theorem dX9_runStart_0 : decode cX9_runStart 0 = .ok (.aload_n 0, 1) := by decide +kernel
theorem dX9_runStart_1 : decode cX9_runStart 1 = .ok (.aload_n 0, 1) := by decide +kernel
theorem dX9_runStart_2 : decode cX9_runStart 2 = .ok (.iload_n 1, 1) := by decide +kernel
theorem dX9_runStart_3 : decode cX9_runStart 3 = .ok (.invokevirtual 136, 3) := by decide +kernel
theorem dX9_runStart_6 : decode cX9_runStart 6 = .ok (.ifCond .eq 7, 3) := by decide +kernel
theorem dX9_runStart_9 : decode cX9_runStart 9 = .ok (.iconst 0, 1) := by decide +kernel
theorem dX9_runStart_10 : decode cX9_runStart 10 = .ok (.goto 4, 3) := by decide +kernel
theorem dX9_runStart_13 : decode cX9_runStart 13 = .ok (.iconst 1, 1) := by decide +kernel
theorem dX9_runStart_14 : decode cX9_runStart 14 = .ok (.invokevirtual 46, 3) := by decide +kernel
theorem dX9_runStart_17 : decode cX9_runStart 17 = .ok (.ifCond .eq 12, 3) := by decide +kernel
theorem dX9_runStart_20 : decode cX9_runStart 20 = .ok (.aload_n 0, 1) := by decide +kernel
theorem dX9_runStart_21 : decode cX9_runStart 21 = .ok (.getfield 16, 3) := by decide +kernel
theorem dX9_runStart_24 : decode cX9_runStart 24 = .ok (.iload_n 1, 1) := by decide +kernel
theorem dX9_runStart_25 : decode cX9_runStart 25 = .ok (.iaload, 1) := by decide +kernel
theorem dX9_runStart_26 : decode cX9_runStart 26 = .ok (.goto 4, 3) := by decide +kernel
theorem dX9_runStart_29 : decode cX9_runStart 29 = .ok (.iconst 0, 1) := by decide +kernel
theorem dX9_runStart_30 : decode cX9_runStart 30 = .ok (.ireturn, 1) := by decide +kernel
set_option maxRecDepth 20000 in
theorem ggX9_runEnd_X9_isRun : GoodIn wsX9_runEnd wsX9_isRun := goodIn_r _ [6, 7, 8, 9, 10, 5, 11, 12, 13, 14, 1, 15, 16, 17, 18, 19, 20, 21, 22, 23, 24, 25, 26, 27, 28, 29, 30, 36, 37, 38, 39, 40, 41, 42, 43, 44, 45, 46] (by decide +kernel) (by decide +kernel)
set_option maxRecDepth 20000 in
theorem gX9_runEnd_X9_isRun : GoodIn wsX9_runEnd (wsV RX9 136 RX9 yX9_isRun wsX9_isRun) := goodIn_app (goodIn_of _ (by decide +kernel)) ggX9_runEnd_X9_isRun
set_option maxRecDepth 20000 in
theorem ggX9_runEnd_X9_goesWell : GoodIn wsX9_runEnd wsX9_goesWell := goodIn_r _ [34, 35, 36, 37, 38, 39, 40, 41, 42, 43, 44, 45, 46] (by decide +kernel) (by decide +kernel)
set_option maxRecDepth 20000 in
theorem gX9_runEnd_X9_goesWell : GoodIn wsX9_runEnd (wsV RX9 46 RX9 yX9_goesWell wsX9_goesWell) := goodIn_app (goodIn_of _ (by decide +kernel)) ggX9_runEnd_X9_goesWell
theorem dX9_runEnd_0 : decode cX9_runEnd 0 = .ok (.aload_n 0, 1) := by decide +kernel
theorem dX9_runEnd_1 : decode cX9_runEnd 1 = .ok (.aload_n 0, 1) := by decide +kernel
theorem dX9_runEnd_2 : decode cX9_runEnd 2 = .ok (.iload_n 1, 1) := by decide +kernel
theorem dX9_runEnd_3 : decode cX9_runEnd 3 = .ok (.invokevirtual 136, 3) := by decide +kernel
theorem dX9_runEnd_6 : decode cX9_runEnd 6 = .ok (.ifCond .eq 7, 3) := by decide +kernel
theorem dX9_runEnd_9 : decode cX9_runEnd 9 = .ok (.iconst 0, 1) := by decide +kernel
theorem dX9_runEnd_10 : decode cX9_runEnd 10 = .ok (.goto 4, 3) := by decide +kernel
theorem dX9_runEnd_13 : decode cX9_runEnd 13 = .ok (.iconst 1, 1) := by decide +kernel
theorem dX9_runEnd_14 : decode cX9_runEnd 14 = .ok (.invokevirtual 46, 3) := by decide +kernel
theorem dX9_runEnd_17 : decode cX9_runEnd 17 = .ok (.ifCond .eq 12, 3) := by decide +kernel
theorem dX9_runEnd_20 : decode cX9_runEnd 20 = .ok (.aload_n 0, 1) := by decide +kernel
theorem dX9_runEnd_21 : decode cX9_runEnd 21 = .ok (.getfield 19, 3) := by decide +kernel
theorem dX9_runEnd_24 : decode cX9_runEnd 24 = .ok (.iload_n 1, 1) := by decide +kernel
theorem dX9_runEnd_25 : decode cX9_runEnd 25 = .ok (.iaload, 1) := by decide +kernel
theorem dX9_runEnd_26 : decode cX9_runEnd 26 = .ok (.goto 4, 3) := by decide +kernel
theorem dX9_runEnd_29 : decode cX9_runEnd 29 = .ok (.iconst 0, 1) := by decide +kernel
theorem dX9_runEnd_30 : decode cX9_runEnd 30 = .ok (.ireturn, 1) := by decide +kernel
set_option maxRecDepth 20000 in
theorem ggX9_runPeriod_X9_isRun : GoodIn wsX9_runPeriod wsX9_isRun := goodIn_r _ [6, 7, 8, 9, 10, 5, 11, 12, 13, 14, 15, 1, 16, 17, 18, 19, 20, 21, 22, 23, 24, 25, 26, 27, 28, 29, 30, 36, 37, 38, 39, 40, 41, 42, 43, 44, 45, 46] (by decide +kernel) (by decide +kernel)
set_option maxRecDepth 20000 in
theorem gX9_runPeriod_X9_isRun : GoodIn wsX9_runPeriod (wsV RX9 136 RX9 yX9_isRun wsX9_isRun) := goodIn_app (goodIn_of _ (by decide +kernel)) ggX9_runPeriod_X9_isRun
set_option maxRecDepth 20000 in
theorem ggX9_runPeriod_X9_goesWell : GoodIn wsX9_runPeriod wsX9_goesWell := goodIn_r _ [34, 35, 36, 37, 38, 39, 40, 41, 42, 43, 44, 45, 46] (by decide +kernel) (by decide +kernel)
set_option maxRecDepth 20000 in
theorem gX9_runPeriod_X9_goesWell : GoodIn wsX9_runPeriod (wsV RX9 46 RX9 yX9_goesWell wsX9_goesWell) := goodIn_app (goodIn_of _ (by decide +kernel)) ggX9_runPeriod_X9_goesWell
theorem dX9_runPeriod_0 : decode cX9_runPeriod 0 = .ok (.aload_n 0, 1) := by decide +kernel
theorem dX9_runPeriod_1 : decode cX9_runPeriod 1 = .ok (.aload_n 0, 1) := by decide +kernel
theorem dX9_runPeriod_2 : decode cX9_runPeriod 2 = .ok (.iload_n 1, 1) := by decide +kernel
theorem dX9_runPeriod_3 : decode cX9_runPeriod 3 = .ok (.invokevirtual 136, 3) := by decide +kernel
theorem dX9_runPeriod_6 : decode cX9_runPeriod 6 = .ok (.ifCond .eq 7, 3) := by decide +kernel
theorem dX9_runPeriod_9 : decode cX9_runPeriod 9 = .ok (.iconst 0, 1) := by decide +kernel
theorem dX9_runPeriod_10 : decode cX9_runPeriod 10 = .ok (.goto 4, 3) := by decide +kernel
theorem dX9_runPeriod_13 : decode cX9_runPeriod 13 = .ok (.iconst 1, 1) := by decide +kernel
theorem dX9_runPeriod_14 : decode cX9_runPeriod 14 = .ok (.invokevirtual 46, 3) := by decide +kernel
theorem dX9_runPeriod_17 : decode cX9_runPeriod 17 = .ok (.ifCond .eq 12, 3) := by decide +kernel
theorem dX9_runPeriod_20 : decode cX9_runPeriod 20 = .ok (.aload_n 0, 1) := by decide +kernel
theorem dX9_runPeriod_21 : decode cX9_runPeriod 21 = .ok (.getfield 22, 3) := by decide +kernel
theorem dX9_runPeriod_24 : decode cX9_runPeriod 24 = .ok (.iload_n 1, 1) := by decide +kernel
theorem dX9_runPeriod_25 : decode cX9_runPeriod 25 = .ok (.iaload, 1) := by decide +kernel
theorem dX9_runPeriod_26 : decode cX9_runPeriod 26 = .ok (.goto 4, 3) := by decide +kernel
theorem dX9_runPeriod_29 : decode cX9_runPeriod 29 = .ok (.iconst 0, 1) := by decide +kernel
theorem dX9_runPeriod_30 : decode cX9_runPeriod 30 = .ok (.ireturn, 1) := by decide +kernel
set_option maxRecDepth 20000 in
theorem ggX9_runsOver_X9_isPlace : GoodIn wsX9_runsOver wsX9_isPlace := goodIn_r _ [8, 9, 10, 11, 7, 12, 36, 37, 38, 39, 40, 41, 42, 43, 44, 45, 46] (by decide +kernel) (by decide +kernel)
set_option maxRecDepth 20000 in
theorem gX9_runsOver_X9_isPlace : GoodIn wsX9_runsOver (wsV RX9 50 RX9 yX9_isPlace wsX9_isPlace) := goodIn_app (goodIn_of _ (by decide +kernel)) ggX9_runsOver_X9_isPlace
set_option maxRecDepth 20000 in
theorem ggX9_runsOver_X9_goesWell : GoodIn wsX9_runsOver wsX9_goesWell := goodIn_r _ [16, 17, 36, 37, 38, 39, 40, 41, 42, 43, 44, 45, 46] (by decide +kernel) (by decide +kernel)
set_option maxRecDepth 20000 in
theorem gX9_runsOver_X9_goesWell : GoodIn wsX9_runsOver (wsV RX9 46 RX9 yX9_goesWell wsX9_goesWell) := goodIn_app (goodIn_of _ (by decide +kernel)) ggX9_runsOver_X9_goesWell
set_option maxRecDepth 20000 in
theorem ggX9_runsOver_X9_layRuns : GoodIn wsX9_runsOver wsX9_layRuns := goodIn_r _ [21, 1, 9, 22, 2, 3, 23, 24, 25, 26, 7, 27, 28, 29, 30, 31, 32, 33, 34, 35, 36, 37, 38, 39, 40, 41, 42, 43, 44, 45, 46] (by decide +kernel) (by decide +kernel)
set_option maxRecDepth 20000 in
theorem gX9_runsOver_X9_layRuns : GoodIn wsX9_runsOver (wsV RX9 133 RX9 yX9_layRuns wsX9_layRuns) := goodIn_app (goodIn_of _ (by decide +kernel)) ggX9_runsOver_X9_layRuns
theorem dX9_runsOver_0 : decode cX9_runsOver 0 = .ok (.aload_n 0, 1) := by decide +kernel
theorem dX9_runsOver_1 : decode cX9_runsOver 1 = .ok (.aload_n 0, 1) := by decide +kernel
theorem dX9_runsOver_2 : decode cX9_runsOver 2 = .ok (.iload_n 1, 1) := by decide +kernel
theorem dX9_runsOver_3 : decode cX9_runsOver 3 = .ok (.invokevirtual 50, 3) := by decide +kernel
theorem dX9_runsOver_6 : decode cX9_runsOver 6 = .ok (.ifCond .eq 7, 3) := by decide +kernel
theorem dX9_runsOver_9 : decode cX9_runsOver 9 = .ok (.iconst 0, 1) := by decide +kernel
theorem dX9_runsOver_10 : decode cX9_runsOver 10 = .ok (.goto 4, 3) := by decide +kernel
theorem dX9_runsOver_13 : decode cX9_runsOver 13 = .ok (.iconst 1, 1) := by decide +kernel
theorem dX9_runsOver_14 : decode cX9_runsOver 14 = .ok (.invokevirtual 46, 3) := by decide +kernel
theorem dX9_runsOver_17 : decode cX9_runsOver 17 = .ok (.ifCond .ne 5, 3) := by decide +kernel
theorem dX9_runsOver_20 : decode cX9_runsOver 20 = .ok (.iconst 0, 1) := by decide +kernel
theorem dX9_runsOver_21 : decode cX9_runsOver 21 = .ok (.ireturn, 1) := by decide +kernel
theorem dX9_runsOver_22 : decode cX9_runsOver 22 = .ok (.aload_n 0, 1) := by decide +kernel
theorem dX9_runsOver_23 : decode cX9_runsOver 23 = .ok (.invokevirtual 133, 3) := by decide +kernel
theorem dX9_runsOver_26 : decode cX9_runsOver 26 = .ok (.iconst 0, 1) := by decide +kernel
theorem dX9_runsOver_27 : decode cX9_runsOver 27 = .ok (.istore_n 2, 1) := by decide +kernel
theorem dX9_runsOver_28 : decode cX9_runsOver 28 = .ok (.iconst 0, 1) := by decide +kernel
theorem dX9_runsOver_29 : decode cX9_runsOver 29 = .ok (.istore_n 3, 1) := by decide +kernel
theorem dX9_runsOver_30 : decode cX9_runsOver 30 = .ok (.iload_n 3, 1) := by decide +kernel
theorem dX9_runsOver_31 : decode cX9_runsOver 31 = .ok (.aload_n 0, 1) := by decide +kernel
theorem dX9_runsOver_32 : decode cX9_runsOver 32 = .ok (.getfield 130, 3) := by decide +kernel
theorem dX9_runsOver_35 : decode cX9_runsOver 35 = .ok (.if_icmp .ge 37, 3) := by decide +kernel
theorem dX9_runsOver_38 : decode cX9_runsOver 38 = .ok (.iload_n 2, 1) := by decide +kernel
theorem dX9_runsOver_39 : decode cX9_runsOver 39 = .ok (.aload_n 0, 1) := by decide +kernel
theorem dX9_runsOver_40 : decode cX9_runsOver 40 = .ok (.getfield 16, 3) := by decide +kernel
theorem dX9_runsOver_43 : decode cX9_runsOver 43 = .ok (.iload_n 3, 1) := by decide +kernel
theorem dX9_runsOver_44 : decode cX9_runsOver 44 = .ok (.iaload, 1) := by decide +kernel
theorem dX9_runsOver_45 : decode cX9_runsOver 45 = .ok (.iload_n 1, 1) := by decide +kernel
theorem dX9_runsOver_46 : decode cX9_runsOver 46 = .ok (.if_icmp .gt 17, 3) := by decide +kernel
theorem dX9_runsOver_49 : decode cX9_runsOver 49 = .ok (.iload_n 1, 1) := by decide +kernel
theorem dX9_runsOver_50 : decode cX9_runsOver 50 = .ok (.aload_n 0, 1) := by decide +kernel
theorem dX9_runsOver_51 : decode cX9_runsOver 51 = .ok (.getfield 19, 3) := by decide +kernel
theorem dX9_runsOver_54 : decode cX9_runsOver 54 = .ok (.iload_n 3, 1) := by decide +kernel
theorem dX9_runsOver_55 : decode cX9_runsOver 55 = .ok (.iaload, 1) := by decide +kernel
theorem dX9_runsOver_56 : decode cX9_runsOver 56 = .ok (.if_icmp .ge 7, 3) := by decide +kernel
theorem dX9_runsOver_59 : decode cX9_runsOver 59 = .ok (.iconst 1, 1) := by decide +kernel
theorem dX9_runsOver_60 : decode cX9_runsOver 60 = .ok (.goto 4, 3) := by decide +kernel
theorem dX9_runsOver_63 : decode cX9_runsOver 63 = .ok (.iconst 0, 1) := by decide +kernel
theorem dX9_runsOver_64 : decode cX9_runsOver 64 = .ok (.iadd, 1) := by decide +kernel
theorem dX9_runsOver_65 : decode cX9_runsOver 65 = .ok (.istore_n 2, 1) := by decide +kernel
theorem dX9_runsOver_66 : decode cX9_runsOver 66 = .ok (.iinc 3 1, 3) := by decide +kernel
theorem dX9_runsOver_69 : decode cX9_runsOver 69 = .ok (.goto (-39), 3) := by decide +kernel
theorem dX9_runsOver_72 : decode cX9_runsOver 72 = .ok (.iload_n 2, 1) := by decide +kernel
theorem dX9_runsOver_73 : decode cX9_runsOver 73 = .ok (.ireturn, 1) := by decide +kernel
set_option maxRecDepth 20000 in
theorem ggX9_exponentsOfRuns_X9_layRuns : GoodIn wsX9_exponentsOfRuns wsX9_layRuns := goodIn_r _ [10, 2, 11, 12, 4, 3, 5, 13, 14, 15, 9, 16, 17, 18, 19, 20, 21, 22, 23, 24, 25, 26, 27, 28, 29, 30, 31, 32, 33, 34, 35] (by decide +kernel) (by decide +kernel)
set_option maxRecDepth 20000 in
theorem gX9_exponentsOfRuns_X9_layRuns : GoodIn wsX9_exponentsOfRuns (wsV RX9 133 RX9 yX9_layRuns wsX9_layRuns) := goodIn_app (goodIn_of _ (by decide +kernel)) ggX9_exponentsOfRuns_X9_layRuns
theorem dX9_exponentsOfRuns_0 : decode cX9_exponentsOfRuns 0 = .ok (.aload_n 0, 1) := by decide +kernel
theorem dX9_exponentsOfRuns_1 : decode cX9_exponentsOfRuns 1 = .ok (.iconst 0, 1) := by decide +kernel
theorem dX9_exponentsOfRuns_2 : decode cX9_exponentsOfRuns 2 = .ok (.putfield 35, 3) := by decide +kernel
theorem dX9_exponentsOfRuns_5 : decode cX9_exponentsOfRuns 5 = .ok (.aload_n 0, 1) := by decide +kernel
theorem dX9_exponentsOfRuns_6 : decode cX9_exponentsOfRuns 6 = .ok (.invokevirtual 133, 3) := by decide +kernel
theorem dX9_exponentsOfRuns_9 : decode cX9_exponentsOfRuns 9 = .ok (.dconst 0, 1) := by decide +kernel
theorem dX9_exponentsOfRuns_10 : decode cX9_exponentsOfRuns 10 = .ok (.dstore_n 1, 1) := by decide +kernel
theorem dX9_exponentsOfRuns_11 : decode cX9_exponentsOfRuns 11 = .ok (.iconst 0, 1) := by decide +kernel
theorem dX9_exponentsOfRuns_12 : decode cX9_exponentsOfRuns 12 = .ok (.istore_n 3, 1) := by decide +kernel
theorem dX9_exponentsOfRuns_13 : decode cX9_exponentsOfRuns 13 = .ok (.iload_n 3, 1) := by decide +kernel
theorem dX9_exponentsOfRuns_14 : decode cX9_exponentsOfRuns 14 = .ok (.aload_n 0, 1) := by decide +kernel
theorem dX9_exponentsOfRuns_15 : decode cX9_exponentsOfRuns 15 = .ok (.getfield 130, 3) := by decide +kernel
theorem dX9_exponentsOfRuns_18 : decode cX9_exponentsOfRuns 18 = .ok (.if_icmp .ge 34, 3) := by decide +kernel
theorem dX9_exponentsOfRuns_21 : decode cX9_exponentsOfRuns 21 = .ok (.dload_n 1, 1) := by decide +kernel
theorem dX9_exponentsOfRuns_22 : decode cX9_exponentsOfRuns 22 = .ok (.aload_n 0, 1) := by decide +kernel
theorem dX9_exponentsOfRuns_23 : decode cX9_exponentsOfRuns 23 = .ok (.getfield 19, 3) := by decide +kernel
theorem dX9_exponentsOfRuns_26 : decode cX9_exponentsOfRuns 26 = .ok (.iload_n 3, 1) := by decide +kernel
theorem dX9_exponentsOfRuns_27 : decode cX9_exponentsOfRuns 27 = .ok (.iaload, 1) := by decide +kernel
theorem dX9_exponentsOfRuns_28 : decode cX9_exponentsOfRuns 28 = .ok (.aload_n 0, 1) := by decide +kernel
theorem dX9_exponentsOfRuns_29 : decode cX9_exponentsOfRuns 29 = .ok (.getfield 16, 3) := by decide +kernel
theorem dX9_exponentsOfRuns_32 : decode cX9_exponentsOfRuns 32 = .ok (.iload_n 3, 1) := by decide +kernel
theorem dX9_exponentsOfRuns_33 : decode cX9_exponentsOfRuns 33 = .ok (.iaload, 1) := by decide +kernel
theorem dX9_exponentsOfRuns_34 : decode cX9_exponentsOfRuns 34 = .ok (.isub, 1) := by decide +kernel
theorem dX9_exponentsOfRuns_35 : decode cX9_exponentsOfRuns 35 = .ok (.i2d, 1) := by decide +kernel
theorem dX9_exponentsOfRuns_36 : decode cX9_exponentsOfRuns 36 = .ok (.aload_n 0, 1) := by decide +kernel
theorem dX9_exponentsOfRuns_37 : decode cX9_exponentsOfRuns 37 = .ok (.getfield 22, 3) := by decide +kernel
theorem dX9_exponentsOfRuns_40 : decode cX9_exponentsOfRuns 40 = .ok (.iload_n 3, 1) := by decide +kernel
theorem dX9_exponentsOfRuns_41 : decode cX9_exponentsOfRuns 41 = .ok (.iaload, 1) := by decide +kernel
theorem dX9_exponentsOfRuns_42 : decode cX9_exponentsOfRuns 42 = .ok (.i2d, 1) := by decide +kernel
theorem dX9_exponentsOfRuns_43 : decode cX9_exponentsOfRuns 43 = .ok (.ddiv, 1) := by decide +kernel
theorem dX9_exponentsOfRuns_44 : decode cX9_exponentsOfRuns 44 = .ok (.dadd, 1) := by decide +kernel
theorem dX9_exponentsOfRuns_45 : decode cX9_exponentsOfRuns 45 = .ok (.dstore_n 1, 1) := by decide +kernel
theorem dX9_exponentsOfRuns_46 : decode cX9_exponentsOfRuns 46 = .ok (.iinc 3 1, 3) := by decide +kernel
theorem dX9_exponentsOfRuns_49 : decode cX9_exponentsOfRuns 49 = .ok (.goto (-36), 3) := by decide +kernel
theorem dX9_exponentsOfRuns_52 : decode cX9_exponentsOfRuns 52 = .ok (.dload_n 1, 1) := by decide +kernel
theorem dX9_exponentsOfRuns_53 : decode cX9_exponentsOfRuns 53 = .ok (.dreturn, 1) := by decide +kernel
set_option maxRecDepth 20000 in
theorem ggX9_squares_X9_same : GoodIn wsX9_squares wsX9_same := goodIn_r _ [7, 8, 17, 18, 19, 20, 21, 22, 23, 24, 25, 26, 27] (by decide +kernel) (by decide +kernel)
set_option maxRecDepth 20000 in
theorem gX9_squares_X9_same : GoodIn wsX9_squares (wsV RX9 94 RX9 yX9_same wsX9_same) := goodIn_app (goodIn_of _ (by decide +kernel)) ggX9_squares_X9_same
set_option maxRecDepth 20000 in
theorem ggX9_squares_X9_root : GoodIn wsX9_squares wsX9_root := goodIn_r _ [12, 13, 14, 15, 6, 16, 8, 17, 18, 19, 20, 21, 22, 23, 24, 25, 26, 27] (by decide +kernel) (by decide +kernel)
set_option maxRecDepth 20000 in
theorem gX9_squares_X9_root : GoodIn wsX9_squares (wsV RX9 91 RX9 yX9_root wsX9_root) := goodIn_app (goodIn_of _ (by decide +kernel)) ggX9_squares_X9_root
theorem dX9_squares_0 : decode cX9_squares 0 = .ok (.aload_n 0, 1) := by decide +kernel
theorem dX9_squares_1 : decode cX9_squares 1 = .ok (.iconst 0, 1) := by decide +kernel
theorem dX9_squares_2 : decode cX9_squares 2 = .ok (.putfield 35, 3) := by decide +kernel
theorem dX9_squares_5 : decode cX9_squares 5 = .ok (.iconst 0, 1) := by decide +kernel
theorem dX9_squares_6 : decode cX9_squares 6 = .ok (.istore_n 1, 1) := by decide +kernel
theorem dX9_squares_7 : decode cX9_squares 7 = .ok (.iconst 0, 1) := by decide +kernel
theorem dX9_squares_8 : decode cX9_squares 8 = .ok (.istore_n 2, 1) := by decide +kernel
theorem dX9_squares_9 : decode cX9_squares 9 = .ok (.iload_n 2, 1) := by decide +kernel
theorem dX9_squares_10 : decode cX9_squares 10 = .ok (.aload_n 0, 1) := by decide +kernel
theorem dX9_squares_11 : decode cX9_squares 11 = .ok (.getfield 39, 3) := by decide +kernel
theorem dX9_squares_14 : decode cX9_squares 14 = .ok (.if_icmp .ge 81, 3) := by decide +kernel
theorem dX9_squares_17 : decode cX9_squares 17 = .ok (.iconst 1, 1) := by decide +kernel
theorem dX9_squares_18 : decode cX9_squares 18 = .ok (.istore_n 3, 1) := by decide +kernel
theorem dX9_squares_19 : decode cX9_squares 19 = .ok (.iload_n 2, 1) := by decide +kernel
theorem dX9_squares_20 : decode cX9_squares 20 = .ok (.iconst 2, 1) := by decide +kernel
theorem dX9_squares_21 : decode cX9_squares 21 = .ok (.iload_n 3, 1) := by decide +kernel
theorem dX9_squares_22 : decode cX9_squares 22 = .ok (.imul, 1) := by decide +kernel
theorem dX9_squares_23 : decode cX9_squares 23 = .ok (.iadd, 1) := by decide +kernel
theorem dX9_squares_24 : decode cX9_squares 24 = .ok (.aload_n 0, 1) := by decide +kernel
theorem dX9_squares_25 : decode cX9_squares 25 = .ok (.getfield 39, 3) := by decide +kernel
theorem dX9_squares_28 : decode cX9_squares 28 = .ok (.if_icmp .gt 61, 3) := by decide +kernel
theorem dX9_squares_31 : decode cX9_squares 31 = .ok (.aload_n 0, 1) := by decide +kernel
theorem dX9_squares_32 : decode cX9_squares 32 = .ok (.iload_n 2, 1) := by decide +kernel
theorem dX9_squares_33 : decode cX9_squares 33 = .ok (.iload_n 2, 1) := by decide +kernel
theorem dX9_squares_34 : decode cX9_squares 34 = .ok (.iload_n 3, 1) := by decide +kernel
theorem dX9_squares_35 : decode cX9_squares 35 = .ok (.iadd, 1) := by decide +kernel
theorem dX9_squares_36 : decode cX9_squares 36 = .ok (.iload_n 2, 1) := by decide +kernel
theorem dX9_squares_37 : decode cX9_squares 37 = .ok (.iload_n 3, 1) := by decide +kernel
theorem dX9_squares_38 : decode cX9_squares 38 = .ok (.iadd, 1) := by decide +kernel
theorem dX9_squares_39 : decode cX9_squares 39 = .ok (.iload_n 2, 1) := by decide +kernel
theorem dX9_squares_40 : decode cX9_squares 40 = .ok (.iconst 2, 1) := by decide +kernel
theorem dX9_squares_41 : decode cX9_squares 41 = .ok (.iload_n 3, 1) := by decide +kernel
theorem dX9_squares_42 : decode cX9_squares 42 = .ok (.imul, 1) := by decide +kernel
theorem dX9_squares_43 : decode cX9_squares 43 = .ok (.iadd, 1) := by decide +kernel
theorem dX9_squares_44 : decode cX9_squares 44 = .ok (.invokevirtual 94, 3) := by decide +kernel
theorem dX9_squares_47 : decode cX9_squares 47 = .ok (.iload_n 3, 1) := by decide +kernel
theorem dX9_squares_48 : decode cX9_squares 48 = .ok (.if_icmp .ne 7, 3) := by decide +kernel
theorem dX9_squares_51 : decode cX9_squares 51 = .ok (.iconst 1, 1) := by decide +kernel
theorem dX9_squares_52 : decode cX9_squares 52 = .ok (.goto 4, 3) := by decide +kernel
theorem dX9_squares_55 : decode cX9_squares 55 = .ok (.iconst 0, 1) := by decide +kernel
theorem dX9_squares_56 : decode cX9_squares 56 = .ok (.istore 4, 2) := by decide +kernel
theorem dX9_squares_58 : decode cX9_squares 58 = .ok (.iload_n 1, 1) := by decide +kernel
theorem dX9_squares_59 : decode cX9_squares 59 = .ok (.iload 4, 2) := by decide +kernel
theorem dX9_squares_61 : decode cX9_squares 61 = .ok (.ifCond .eq 19, 3) := by decide +kernel
theorem dX9_squares_64 : decode cX9_squares 64 = .ok (.aload_n 0, 1) := by decide +kernel
theorem dX9_squares_65 : decode cX9_squares 65 = .ok (.iload_n 2, 1) := by decide +kernel
theorem dX9_squares_66 : decode cX9_squares 66 = .ok (.iload_n 2, 1) := by decide +kernel
theorem dX9_squares_67 : decode cX9_squares 67 = .ok (.iload_n 3, 1) := by decide +kernel
theorem dX9_squares_68 : decode cX9_squares 68 = .ok (.iadd, 1) := by decide +kernel
theorem dX9_squares_69 : decode cX9_squares 69 = .ok (.invokevirtual 91, 3) := by decide +kernel
theorem dX9_squares_72 : decode cX9_squares 72 = .ok (.iload_n 3, 1) := by decide +kernel
theorem dX9_squares_73 : decode cX9_squares 73 = .ok (.if_icmp .ne 7, 3) := by decide +kernel
theorem dX9_squares_76 : decode cX9_squares 76 = .ok (.iconst 1, 1) := by decide +kernel
theorem dX9_squares_77 : decode cX9_squares 77 = .ok (.goto 4, 3) := by decide +kernel
theorem dX9_squares_80 : decode cX9_squares 80 = .ok (.iconst 0, 1) := by decide +kernel
theorem dX9_squares_81 : decode cX9_squares 81 = .ok (.iadd, 1) := by decide +kernel
theorem dX9_squares_82 : decode cX9_squares 82 = .ok (.istore_n 1, 1) := by decide +kernel
theorem dX9_squares_83 : decode cX9_squares 83 = .ok (.iinc 3 1, 3) := by decide +kernel
theorem dX9_squares_86 : decode cX9_squares 86 = .ok (.goto (-67), 3) := by decide +kernel
theorem dX9_squares_89 : decode cX9_squares 89 = .ok (.iinc 2 1, 3) := by decide +kernel
theorem dX9_squares_92 : decode cX9_squares 92 = .ok (.goto (-83), 3) := by decide +kernel
theorem dX9_squares_95 : decode cX9_squares 95 = .ok (.iload_n 1, 1) := by decide +kernel
theorem dX9_squares_96 : decode cX9_squares 96 = .ok (.ireturn, 1) := by decide +kernel
set_option maxRecDepth 20000 in
theorem ggX9_rank_X9_order : GoodIn wsX9_rank wsX9_order := goodIn_r _ [6, 7, 8, 9, 10, 5, 11, 12, 13, 14, 15, 16, 17, 18, 19, 20, 21, 22] (by decide +kernel) (by decide +kernel)
set_option maxRecDepth 20000 in
theorem gX9_rank_X9_order : GoodIn wsX9_rank (wsV RX9 98 RX9 yX9_order wsX9_order) := goodIn_app (goodIn_of _ (by decide +kernel)) ggX9_rank_X9_order
theorem dX9_rank_0 : decode cX9_rank 0 = .ok (.iconst 0, 1) := by decide +kernel
theorem dX9_rank_1 : decode cX9_rank 1 = .ok (.istore_n 2, 1) := by decide +kernel
theorem dX9_rank_2 : decode cX9_rank 2 = .ok (.iconst 0, 1) := by decide +kernel
theorem dX9_rank_3 : decode cX9_rank 3 = .ok (.istore_n 3, 1) := by decide +kernel
theorem dX9_rank_4 : decode cX9_rank 4 = .ok (.iload_n 3, 1) := by decide +kernel
theorem dX9_rank_5 : decode cX9_rank 5 = .ok (.aload_n 0, 1) := by decide +kernel
theorem dX9_rank_6 : decode cX9_rank 6 = .ok (.getfield 39, 3) := by decide +kernel
theorem dX9_rank_9 : decode cX9_rank 9 = .ok (.if_icmp .ge 35, 3) := by decide +kernel
theorem dX9_rank_12 : decode cX9_rank 12 = .ok (.iload_n 2, 1) := by decide +kernel
theorem dX9_rank_13 : decode cX9_rank 13 = .ok (.aload_n 0, 1) := by decide +kernel
theorem dX9_rank_14 : decode cX9_rank 14 = .ok (.iload_n 3, 1) := by decide +kernel
theorem dX9_rank_15 : decode cX9_rank 15 = .ok (.aload_n 0, 1) := by decide +kernel
theorem dX9_rank_16 : decode cX9_rank 16 = .ok (.getfield 39, 3) := by decide +kernel
theorem dX9_rank_19 : decode cX9_rank 19 = .ok (.iload_n 1, 1) := by decide +kernel
theorem dX9_rank_20 : decode cX9_rank 20 = .ok (.aload_n 0, 1) := by decide +kernel
theorem dX9_rank_21 : decode cX9_rank 21 = .ok (.getfield 39, 3) := by decide +kernel
theorem dX9_rank_24 : decode cX9_rank 24 = .ok (.iconst 0, 1) := by decide +kernel
theorem dX9_rank_25 : decode cX9_rank 25 = .ok (.invokevirtual 98, 3) := by decide +kernel
theorem dX9_rank_28 : decode cX9_rank 28 = .ok (.ifCond .ge 7, 3) := by decide +kernel
theorem dX9_rank_31 : decode cX9_rank 31 = .ok (.iconst 1, 1) := by decide +kernel
theorem dX9_rank_32 : decode cX9_rank 32 = .ok (.goto 4, 3) := by decide +kernel
theorem dX9_rank_35 : decode cX9_rank 35 = .ok (.iconst 0, 1) := by decide +kernel
theorem dX9_rank_36 : decode cX9_rank 36 = .ok (.iadd, 1) := by decide +kernel
theorem dX9_rank_37 : decode cX9_rank 37 = .ok (.istore_n 2, 1) := by decide +kernel
theorem dX9_rank_38 : decode cX9_rank 38 = .ok (.iinc 3 1, 3) := by decide +kernel
theorem dX9_rank_41 : decode cX9_rank 41 = .ok (.goto (-37), 3) := by decide +kernel
theorem dX9_rank_44 : decode cX9_rank 44 = .ok (.iload_n 2, 1) := by decide +kernel
theorem dX9_rank_45 : decode cX9_rank 45 = .ok (.ireturn, 1) := by decide +kernel
set_option maxRecDepth 20000 in
theorem ggX9_suffixAt_X9_isPlace : GoodIn wsX9_suffixAt wsX9_isPlace := goodIn_r _ [5, 6, 7, 8, 4, 9, 28, 29, 30, 31, 32, 33, 34, 35, 36, 37, 38] (by decide +kernel) (by decide +kernel)
set_option maxRecDepth 20000 in
theorem gX9_suffixAt_X9_isPlace : GoodIn wsX9_suffixAt (wsV RX9 50 RX9 yX9_isPlace wsX9_isPlace) := goodIn_app (goodIn_of _ (by decide +kernel)) ggX9_suffixAt_X9_isPlace
set_option maxRecDepth 20000 in
theorem ggX9_suffixAt_X9_goesWell : GoodIn wsX9_suffixAt wsX9_goesWell := goodIn_r _ [13, 14, 28, 29, 30, 31, 32, 33, 34, 35, 36, 37, 38] (by decide +kernel) (by decide +kernel)
set_option maxRecDepth 20000 in
theorem gX9_suffixAt_X9_goesWell : GoodIn wsX9_suffixAt (wsV RX9 46 RX9 yX9_goesWell wsX9_goesWell) := goodIn_app (goodIn_of _ (by decide +kernel)) ggX9_suffixAt_X9_goesWell
set_option maxRecDepth 20000 in
theorem ggX9_suffixAt_X9_rank : GoodIn wsX9_suffixAt wsX9_rank := goodIn_r _ [18, 6, 19, 20, 21, 4, 22, 23, 24, 25, 26, 27, 28, 29, 30, 31, 32, 33, 34, 35, 36, 37, 38] (by decide +kernel) (by decide +kernel)
set_option maxRecDepth 20000 in
theorem gX9_suffixAt_X9_rank : GoodIn wsX9_suffixAt (wsV RX9 139 RX9 yX9_rank wsX9_rank) := goodIn_app (goodIn_of _ (by decide +kernel)) ggX9_suffixAt_X9_rank
theorem dX9_suffixAt_0 : decode cX9_suffixAt 0 = .ok (.aload_n 0, 1) := by decide +kernel
theorem dX9_suffixAt_1 : decode cX9_suffixAt 1 = .ok (.aload_n 0, 1) := by decide +kernel
theorem dX9_suffixAt_2 : decode cX9_suffixAt 2 = .ok (.iload_n 1, 1) := by decide +kernel
theorem dX9_suffixAt_3 : decode cX9_suffixAt 3 = .ok (.invokevirtual 50, 3) := by decide +kernel
theorem dX9_suffixAt_6 : decode cX9_suffixAt 6 = .ok (.ifCond .eq 7, 3) := by decide +kernel
theorem dX9_suffixAt_9 : decode cX9_suffixAt 9 = .ok (.iconst 0, 1) := by decide +kernel
theorem dX9_suffixAt_10 : decode cX9_suffixAt 10 = .ok (.goto 4, 3) := by decide +kernel
theorem dX9_suffixAt_13 : decode cX9_suffixAt 13 = .ok (.iconst 1, 1) := by decide +kernel
theorem dX9_suffixAt_14 : decode cX9_suffixAt 14 = .ok (.invokevirtual 46, 3) := by decide +kernel
theorem dX9_suffixAt_17 : decode cX9_suffixAt 17 = .ok (.ifCond .ne 5, 3) := by decide +kernel
theorem dX9_suffixAt_20 : decode cX9_suffixAt 20 = .ok (.iconst 0, 1) := by decide +kernel
theorem dX9_suffixAt_21 : decode cX9_suffixAt 21 = .ok (.ireturn, 1) := by decide +kernel
theorem dX9_suffixAt_22 : decode cX9_suffixAt 22 = .ok (.iconst 0, 1) := by decide +kernel
theorem dX9_suffixAt_23 : decode cX9_suffixAt 23 = .ok (.istore_n 2, 1) := by decide +kernel
theorem dX9_suffixAt_24 : decode cX9_suffixAt 24 = .ok (.aload_n 0, 1) := by decide +kernel
theorem dX9_suffixAt_25 : decode cX9_suffixAt 25 = .ok (.iload_n 2, 1) := by decide +kernel
theorem dX9_suffixAt_26 : decode cX9_suffixAt 26 = .ok (.invokevirtual 139, 3) := by decide +kernel
theorem dX9_suffixAt_29 : decode cX9_suffixAt 29 = .ok (.iload_n 1, 1) := by decide +kernel
theorem dX9_suffixAt_30 : decode cX9_suffixAt 30 = .ok (.if_icmp .eq 9, 3) := by decide +kernel
theorem dX9_suffixAt_33 : decode cX9_suffixAt 33 = .ok (.iinc 2 1, 3) := by decide +kernel
theorem dX9_suffixAt_36 : decode cX9_suffixAt 36 = .ok (.goto (-12), 3) := by decide +kernel
theorem dX9_suffixAt_39 : decode cX9_suffixAt 39 = .ok (.iload_n 2, 1) := by decide +kernel
theorem dX9_suffixAt_40 : decode cX9_suffixAt 40 = .ok (.ireturn, 1) := by decide +kernel
set_option maxRecDepth 20000 in
theorem ggX9_rankOf_X9_isPlace : GoodIn wsX9_rankOf wsX9_isPlace := goodIn_r _ [5, 6, 7, 8, 4, 9, 28, 29, 30, 31, 32, 33, 34, 35, 36, 37, 38] (by decide +kernel) (by decide +kernel)
set_option maxRecDepth 20000 in
theorem gX9_rankOf_X9_isPlace : GoodIn wsX9_rankOf (wsV RX9 50 RX9 yX9_isPlace wsX9_isPlace) := goodIn_app (goodIn_of _ (by decide +kernel)) ggX9_rankOf_X9_isPlace
set_option maxRecDepth 20000 in
theorem ggX9_rankOf_X9_goesWell : GoodIn wsX9_rankOf wsX9_goesWell := goodIn_r _ [13, 14, 28, 29, 30, 31, 32, 33, 34, 35, 36, 37, 38] (by decide +kernel) (by decide +kernel)
set_option maxRecDepth 20000 in
theorem gX9_rankOf_X9_goesWell : GoodIn wsX9_rankOf (wsV RX9 46 RX9 yX9_goesWell wsX9_goesWell) := goodIn_app (goodIn_of _ (by decide +kernel)) ggX9_rankOf_X9_goesWell
set_option maxRecDepth 20000 in
theorem ggX9_rankOf_X9_rank : GoodIn wsX9_rankOf wsX9_rank := goodIn_r _ [18, 6, 19, 20, 21, 4, 22, 23, 24, 25, 26, 27, 28, 29, 30, 31, 32, 33, 34, 35, 36, 37, 38] (by decide +kernel) (by decide +kernel)
set_option maxRecDepth 20000 in
theorem gX9_rankOf_X9_rank : GoodIn wsX9_rankOf (wsV RX9 139 RX9 yX9_rank wsX9_rank) := goodIn_app (goodIn_of _ (by decide +kernel)) ggX9_rankOf_X9_rank
theorem dX9_rankOf_0 : decode cX9_rankOf 0 = .ok (.aload_n 0, 1) := by decide +kernel
theorem dX9_rankOf_1 : decode cX9_rankOf 1 = .ok (.aload_n 0, 1) := by decide +kernel
theorem dX9_rankOf_2 : decode cX9_rankOf 2 = .ok (.iload_n 1, 1) := by decide +kernel
theorem dX9_rankOf_3 : decode cX9_rankOf 3 = .ok (.invokevirtual 50, 3) := by decide +kernel
theorem dX9_rankOf_6 : decode cX9_rankOf 6 = .ok (.ifCond .eq 7, 3) := by decide +kernel
theorem dX9_rankOf_9 : decode cX9_rankOf 9 = .ok (.iconst 0, 1) := by decide +kernel
theorem dX9_rankOf_10 : decode cX9_rankOf 10 = .ok (.goto 4, 3) := by decide +kernel
theorem dX9_rankOf_13 : decode cX9_rankOf 13 = .ok (.iconst 1, 1) := by decide +kernel
theorem dX9_rankOf_14 : decode cX9_rankOf 14 = .ok (.invokevirtual 46, 3) := by decide +kernel
theorem dX9_rankOf_17 : decode cX9_rankOf 17 = .ok (.ifCond .eq 11, 3) := by decide +kernel
theorem dX9_rankOf_20 : decode cX9_rankOf 20 = .ok (.aload_n 0, 1) := by decide +kernel
theorem dX9_rankOf_21 : decode cX9_rankOf 21 = .ok (.iload_n 1, 1) := by decide +kernel
theorem dX9_rankOf_22 : decode cX9_rankOf 22 = .ok (.invokevirtual 139, 3) := by decide +kernel
theorem dX9_rankOf_25 : decode cX9_rankOf 25 = .ok (.goto 4, 3) := by decide +kernel
theorem dX9_rankOf_28 : decode cX9_rankOf 28 = .ok (.iconst 0, 1) := by decide +kernel
theorem dX9_rankOf_29 : decode cX9_rankOf 29 = .ok (.ireturn, 1) := by decide +kernel
theorem dX9_layLyndon_0 : decode cX9_layLyndon 0 = .ok (.lconst 1, 1) := by decide +kernel
theorem dX9_layLyndon_1 : decode cX9_layLyndon 1 = .ok (.lstore_n 3, 1) := by decide +kernel
theorem dX9_layLyndon_2 : decode cX9_layLyndon 2 = .ok (.iconst 1, 1) := by decide +kernel
theorem dX9_layLyndon_3 : decode cX9_layLyndon 3 = .ok (.istore 5, 2) := by decide +kernel
theorem dX9_layLyndon_5 : decode cX9_layLyndon 5 = .ok (.iload 5, 2) := by decide +kernel
theorem dX9_layLyndon_7 : decode cX9_layLyndon 7 = .ok (.iload_n 2, 1) := by decide +kernel
theorem dX9_layLyndon_8 : decode cX9_layLyndon 8 = .ok (.if_icmp .gt 76, 3) := by decide +kernel
theorem dX9_layLyndon_11 : decode cX9_layLyndon 11 = .ok (.lload_n 3, 1) := by decide +kernel
theorem dX9_layLyndon_12 : decode cX9_layLyndon 12 = .ok (.iload_n 1, 1) := by decide +kernel
theorem dX9_layLyndon_13 : decode cX9_layLyndon 13 = .ok (.i2l, 1) := by decide +kernel
theorem dX9_layLyndon_14 : decode cX9_layLyndon 14 = .ok (.lmul, 1) := by decide +kernel
theorem dX9_layLyndon_15 : decode cX9_layLyndon 15 = .ok (.lstore_n 3, 1) := by decide +kernel
theorem dX9_layLyndon_16 : decode cX9_layLyndon 16 = .ok (.lconst 0, 1) := by decide +kernel
theorem dX9_layLyndon_17 : decode cX9_layLyndon 17 = .ok (.lstore 6, 2) := by decide +kernel
theorem dX9_layLyndon_19 : decode cX9_layLyndon 19 = .ok (.iconst 1, 1) := by decide +kernel
theorem dX9_layLyndon_20 : decode cX9_layLyndon 20 = .ok (.istore 8, 2) := by decide +kernel
theorem dX9_layLyndon_22 : decode cX9_layLyndon 22 = .ok (.iload 8, 2) := by decide +kernel
theorem dX9_layLyndon_24 : decode cX9_layLyndon 24 = .ok (.iload 5, 2) := by decide +kernel
theorem dX9_layLyndon_26 : decode cX9_layLyndon 26 = .ok (.if_icmp .ge 37, 3) := by decide +kernel
theorem dX9_layLyndon_29 : decode cX9_layLyndon 29 = .ok (.lload 6, 2) := by decide +kernel
theorem dX9_layLyndon_31 : decode cX9_layLyndon 31 = .ok (.iload 5, 2) := by decide +kernel
theorem dX9_layLyndon_33 : decode cX9_layLyndon 33 = .ok (.iload 8, 2) := by decide +kernel
theorem dX9_layLyndon_35 : decode cX9_layLyndon 35 = .ok (.irem, 1) := by decide +kernel
theorem dX9_layLyndon_36 : decode cX9_layLyndon 36 = .ok (.ifCond .ne 17, 3) := by decide +kernel
theorem dX9_layLyndon_39 : decode cX9_layLyndon 39 = .ok (.iload 8, 2) := by decide +kernel
theorem dX9_layLyndon_41 : decode cX9_layLyndon 41 = .ok (.i2l, 1) := by decide +kernel
theorem dX9_layLyndon_42 : decode cX9_layLyndon 42 = .ok (.aload_n 0, 1) := by decide +kernel
theorem dX9_layLyndon_43 : decode cX9_layLyndon 43 = .ok (.getfield 31, 3) := by decide +kernel
theorem dX9_layLyndon_46 : decode cX9_layLyndon 46 = .ok (.iload 8, 2) := by decide +kernel
theorem dX9_layLyndon_48 : decode cX9_layLyndon 48 = .ok (.laload, 1) := by decide +kernel
theorem dX9_layLyndon_49 : decode cX9_layLyndon 49 = .ok (.lmul, 1) := by decide +kernel
theorem dX9_layLyndon_50 : decode cX9_layLyndon 50 = .ok (.goto 4, 3) := by decide +kernel
theorem dX9_layLyndon_53 : decode cX9_layLyndon 53 = .ok (.lconst 0, 1) := by decide +kernel
theorem dX9_layLyndon_54 : decode cX9_layLyndon 54 = .ok (.ladd, 1) := by decide +kernel
theorem dX9_layLyndon_55 : decode cX9_layLyndon 55 = .ok (.lstore 6, 2) := by decide +kernel
theorem dX9_layLyndon_57 : decode cX9_layLyndon 57 = .ok (.iinc 8 1, 3) := by decide +kernel
theorem dX9_layLyndon_60 : decode cX9_layLyndon 60 = .ok (.goto (-38), 3) := by decide +kernel
theorem dX9_layLyndon_63 : decode cX9_layLyndon 63 = .ok (.aload_n 0, 1) := by decide +kernel
theorem dX9_layLyndon_64 : decode cX9_layLyndon 64 = .ok (.getfield 31, 3) := by decide +kernel
theorem dX9_layLyndon_67 : decode cX9_layLyndon 67 = .ok (.iload 5, 2) := by decide +kernel
theorem dX9_layLyndon_69 : decode cX9_layLyndon 69 = .ok (.lload_n 3, 1) := by decide +kernel
theorem dX9_layLyndon_70 : decode cX9_layLyndon 70 = .ok (.lload 6, 2) := by decide +kernel
theorem dX9_layLyndon_72 : decode cX9_layLyndon 72 = .ok (.lsub, 1) := by decide +kernel
theorem dX9_layLyndon_73 : decode cX9_layLyndon 73 = .ok (.iload 5, 2) := by decide +kernel
theorem dX9_layLyndon_75 : decode cX9_layLyndon 75 = .ok (.i2l, 1) := by decide +kernel
theorem dX9_layLyndon_76 : decode cX9_layLyndon 76 = .ok (.ldiv, 1) := by decide +kernel
theorem dX9_layLyndon_77 : decode cX9_layLyndon 77 = .ok (.lastore, 1) := by decide +kernel
theorem dX9_layLyndon_78 : decode cX9_layLyndon 78 = .ok (.iinc 5 1, 3) := by decide +kernel
theorem dX9_layLyndon_81 : decode cX9_layLyndon 81 = .ok (.goto (-76), 3) := by decide +kernel
theorem dX9_layLyndon_84 : decode cX9_layLyndon 84 = .ok (.return_, 1) := by decide +kernel
set_option maxRecDepth 20000 in
theorem ggX9_necklaces_X9_in : GoodIn wsX9_necklaces wsX9_in := goodIn_r _ [5] (by decide +kernel) (by decide +kernel)
set_option maxRecDepth 20000 in
theorem gX9_necklaces_X9_in : GoodIn wsX9_necklaces (va_wsS RX9 42 yX9_in wsX9_in) := goodIn_app (goodIn_of _ (by decide +kernel)) ggX9_necklaces_X9_in
set_option maxRecDepth 20000 in
theorem ggX9_necklaces_X9_goesWell : GoodIn wsX9_necklaces wsX9_goesWell := goodIn_r _ [9, 10, 15, 16, 17, 18, 19, 20, 21, 22, 23, 24, 25] (by decide +kernel) (by decide +kernel)
set_option maxRecDepth 20000 in
theorem gX9_necklaces_X9_goesWell : GoodIn wsX9_necklaces (wsV RX9 46 RX9 yX9_goesWell wsX9_goesWell) := goodIn_app (goodIn_of _ (by decide +kernel)) ggX9_necklaces_X9_goesWell
set_option maxRecDepth 20000 in
theorem ggX9_necklaces_X9_layLyndon : GoodIn wsX9_necklaces wsX9_layLyndon := goodIn_r _ [14, 1, 15, 16, 17, 18, 19, 20, 21, 22, 23, 24, 25] (by decide +kernel) (by decide +kernel)
set_option maxRecDepth 20000 in
theorem gX9_necklaces_X9_layLyndon : GoodIn wsX9_necklaces (wsV RX9 142 RX9 yX9_layLyndon wsX9_layLyndon) := goodIn_app (goodIn_of _ (by decide +kernel)) ggX9_necklaces_X9_layLyndon
theorem dX9_necklaces_0 : decode cX9_necklaces 0 = .ok (.aload_n 0, 1) := by decide +kernel
theorem dX9_necklaces_1 : decode cX9_necklaces 1 = .ok (.iload_n 1, 1) := by decide +kernel
theorem dX9_necklaces_2 : decode cX9_necklaces 2 = .ok (.iconst 1, 1) := by decide +kernel
theorem dX9_necklaces_3 : decode cX9_necklaces 3 = .ok (.bipush 10, 2) := by decide +kernel
theorem dX9_necklaces_5 : decode cX9_necklaces 5 = .ok (.invokestatic 42, 3) := by decide +kernel
theorem dX9_necklaces_8 : decode cX9_necklaces 8 = .ok (.ifCond .eq 17, 3) := by decide +kernel
theorem dX9_necklaces_11 : decode cX9_necklaces 11 = .ok (.iload_n 2, 1) := by decide +kernel
theorem dX9_necklaces_12 : decode cX9_necklaces 12 = .ok (.iconst 1, 1) := by decide +kernel
theorem dX9_necklaces_13 : decode cX9_necklaces 13 = .ok (.bipush 12, 2) := by decide +kernel
theorem dX9_necklaces_15 : decode cX9_necklaces 15 = .ok (.invokestatic 42, 3) := by decide +kernel
theorem dX9_necklaces_18 : decode cX9_necklaces 18 = .ok (.ifCond .eq 7, 3) := by decide +kernel
theorem dX9_necklaces_21 : decode cX9_necklaces 21 = .ok (.iconst 0, 1) := by decide +kernel
theorem dX9_necklaces_22 : decode cX9_necklaces 22 = .ok (.goto 4, 3) := by decide +kernel
theorem dX9_necklaces_25 : decode cX9_necklaces 25 = .ok (.iconst 1, 1) := by decide +kernel
theorem dX9_necklaces_26 : decode cX9_necklaces 26 = .ok (.invokevirtual 46, 3) := by decide +kernel
theorem dX9_necklaces_29 : decode cX9_necklaces 29 = .ok (.ifCond .ne 5, 3) := by decide +kernel
theorem dX9_necklaces_32 : decode cX9_necklaces 32 = .ok (.lconst 0, 1) := by decide +kernel
theorem dX9_necklaces_33 : decode cX9_necklaces 33 = .ok (.lreturn, 1) := by decide +kernel
theorem dX9_necklaces_34 : decode cX9_necklaces 34 = .ok (.aload_n 0, 1) := by decide +kernel
theorem dX9_necklaces_35 : decode cX9_necklaces 35 = .ok (.iload_n 1, 1) := by decide +kernel
theorem dX9_necklaces_36 : decode cX9_necklaces 36 = .ok (.iload_n 2, 1) := by decide +kernel
theorem dX9_necklaces_37 : decode cX9_necklaces 37 = .ok (.invokevirtual 142, 3) := by decide +kernel
theorem dX9_necklaces_40 : decode cX9_necklaces 40 = .ok (.lconst 0, 1) := by decide +kernel
theorem dX9_necklaces_41 : decode cX9_necklaces 41 = .ok (.lstore_n 3, 1) := by decide +kernel
theorem dX9_necklaces_42 : decode cX9_necklaces 42 = .ok (.iconst 1, 1) := by decide +kernel
theorem dX9_necklaces_43 : decode cX9_necklaces 43 = .ok (.istore 5, 2) := by decide +kernel
theorem dX9_necklaces_45 : decode cX9_necklaces 45 = .ok (.iload 5, 2) := by decide +kernel
theorem dX9_necklaces_47 : decode cX9_necklaces 47 = .ok (.iload_n 2, 1) := by decide +kernel
theorem dX9_necklaces_48 : decode cX9_necklaces 48 = .ok (.if_icmp .gt 30, 3) := by decide +kernel
theorem dX9_necklaces_51 : decode cX9_necklaces 51 = .ok (.lload_n 3, 1) := by decide +kernel
theorem dX9_necklaces_52 : decode cX9_necklaces 52 = .ok (.iload_n 2, 1) := by decide +kernel
theorem dX9_necklaces_53 : decode cX9_necklaces 53 = .ok (.iload 5, 2) := by decide +kernel
theorem dX9_necklaces_55 : decode cX9_necklaces 55 = .ok (.irem, 1) := by decide +kernel
theorem dX9_necklaces_56 : decode cX9_necklaces 56 = .ok (.ifCond .ne 13, 3) := by decide +kernel
theorem dX9_necklaces_59 : decode cX9_necklaces 59 = .ok (.aload_n 0, 1) := by decide +kernel
theorem dX9_necklaces_60 : decode cX9_necklaces 60 = .ok (.getfield 31, 3) := by decide +kernel
theorem dX9_necklaces_63 : decode cX9_necklaces 63 = .ok (.iload 5, 2) := by decide +kernel
theorem dX9_necklaces_65 : decode cX9_necklaces 65 = .ok (.laload, 1) := by decide +kernel
theorem dX9_necklaces_66 : decode cX9_necklaces 66 = .ok (.goto 4, 3) := by decide +kernel
theorem dX9_necklaces_69 : decode cX9_necklaces 69 = .ok (.lconst 0, 1) := by decide +kernel
theorem dX9_necklaces_70 : decode cX9_necklaces 70 = .ok (.ladd, 1) := by decide +kernel
theorem dX9_necklaces_71 : decode cX9_necklaces 71 = .ok (.lstore_n 3, 1) := by decide +kernel
theorem dX9_necklaces_72 : decode cX9_necklaces 72 = .ok (.iinc 5 1, 3) := by decide +kernel
theorem dX9_necklaces_75 : decode cX9_necklaces 75 = .ok (.goto (-30), 3) := by decide +kernel
theorem dX9_necklaces_78 : decode cX9_necklaces 78 = .ok (.lload_n 3, 1) := by decide +kernel
theorem dX9_necklaces_79 : decode cX9_necklaces 79 = .ok (.lreturn, 1) := by decide +kernel
set_option maxRecDepth 20000 in
theorem ggX9_lyndonWords_X9_in : GoodIn wsX9_lyndonWords wsX9_in := goodIn_r _ [5] (by decide +kernel) (by decide +kernel)
set_option maxRecDepth 20000 in
theorem gX9_lyndonWords_X9_in : GoodIn wsX9_lyndonWords (va_wsS RX9 42 yX9_in wsX9_in) := goodIn_app (goodIn_of _ (by decide +kernel)) ggX9_lyndonWords_X9_in
set_option maxRecDepth 20000 in
theorem ggX9_lyndonWords_X9_goesWell : GoodIn wsX9_lyndonWords wsX9_goesWell := goodIn_r _ [9, 10, 15, 16, 17, 18, 19, 20, 21, 22, 23, 24, 25] (by decide +kernel) (by decide +kernel)
set_option maxRecDepth 20000 in
theorem gX9_lyndonWords_X9_goesWell : GoodIn wsX9_lyndonWords (wsV RX9 46 RX9 yX9_goesWell wsX9_goesWell) := goodIn_app (goodIn_of _ (by decide +kernel)) ggX9_lyndonWords_X9_goesWell
set_option maxRecDepth 20000 in
theorem ggX9_lyndonWords_X9_layLyndon : GoodIn wsX9_lyndonWords wsX9_layLyndon := goodIn_r _ [14, 1, 15, 16, 17, 18, 19, 20, 21, 22, 23, 24, 25] (by decide +kernel) (by decide +kernel)
set_option maxRecDepth 20000 in
theorem gX9_lyndonWords_X9_layLyndon : GoodIn wsX9_lyndonWords (wsV RX9 142 RX9 yX9_layLyndon wsX9_layLyndon) := goodIn_app (goodIn_of _ (by decide +kernel)) ggX9_lyndonWords_X9_layLyndon
theorem dX9_lyndonWords_0 : decode cX9_lyndonWords 0 = .ok (.aload_n 0, 1) := by decide +kernel
theorem dX9_lyndonWords_1 : decode cX9_lyndonWords 1 = .ok (.iload_n 1, 1) := by decide +kernel
theorem dX9_lyndonWords_2 : decode cX9_lyndonWords 2 = .ok (.iconst 1, 1) := by decide +kernel
theorem dX9_lyndonWords_3 : decode cX9_lyndonWords 3 = .ok (.bipush 10, 2) := by decide +kernel
theorem dX9_lyndonWords_5 : decode cX9_lyndonWords 5 = .ok (.invokestatic 42, 3) := by decide +kernel
theorem dX9_lyndonWords_8 : decode cX9_lyndonWords 8 = .ok (.ifCond .eq 17, 3) := by decide +kernel
theorem dX9_lyndonWords_11 : decode cX9_lyndonWords 11 = .ok (.iload_n 2, 1) := by decide +kernel
theorem dX9_lyndonWords_12 : decode cX9_lyndonWords 12 = .ok (.iconst 1, 1) := by decide +kernel
theorem dX9_lyndonWords_13 : decode cX9_lyndonWords 13 = .ok (.bipush 12, 2) := by decide +kernel
theorem dX9_lyndonWords_15 : decode cX9_lyndonWords 15 = .ok (.invokestatic 42, 3) := by decide +kernel
theorem dX9_lyndonWords_18 : decode cX9_lyndonWords 18 = .ok (.ifCond .eq 7, 3) := by decide +kernel
theorem dX9_lyndonWords_21 : decode cX9_lyndonWords 21 = .ok (.iconst 0, 1) := by decide +kernel
theorem dX9_lyndonWords_22 : decode cX9_lyndonWords 22 = .ok (.goto 4, 3) := by decide +kernel
theorem dX9_lyndonWords_25 : decode cX9_lyndonWords 25 = .ok (.iconst 1, 1) := by decide +kernel
theorem dX9_lyndonWords_26 : decode cX9_lyndonWords 26 = .ok (.invokevirtual 46, 3) := by decide +kernel
theorem dX9_lyndonWords_29 : decode cX9_lyndonWords 29 = .ok (.ifCond .ne 5, 3) := by decide +kernel
theorem dX9_lyndonWords_32 : decode cX9_lyndonWords 32 = .ok (.lconst 0, 1) := by decide +kernel
theorem dX9_lyndonWords_33 : decode cX9_lyndonWords 33 = .ok (.lreturn, 1) := by decide +kernel
theorem dX9_lyndonWords_34 : decode cX9_lyndonWords 34 = .ok (.aload_n 0, 1) := by decide +kernel
theorem dX9_lyndonWords_35 : decode cX9_lyndonWords 35 = .ok (.iload_n 1, 1) := by decide +kernel
theorem dX9_lyndonWords_36 : decode cX9_lyndonWords 36 = .ok (.iload_n 2, 1) := by decide +kernel
theorem dX9_lyndonWords_37 : decode cX9_lyndonWords 37 = .ok (.invokevirtual 142, 3) := by decide +kernel
theorem dX9_lyndonWords_40 : decode cX9_lyndonWords 40 = .ok (.aload_n 0, 1) := by decide +kernel
theorem dX9_lyndonWords_41 : decode cX9_lyndonWords 41 = .ok (.getfield 31, 3) := by decide +kernel
theorem dX9_lyndonWords_44 : decode cX9_lyndonWords 44 = .ok (.iload_n 2, 1) := by decide +kernel
theorem dX9_lyndonWords_45 : decode cX9_lyndonWords 45 = .ok (.laload, 1) := by decide +kernel
theorem dX9_lyndonWords_46 : decode cX9_lyndonWords 46 = .ok (.lreturn, 1) := by decide +kernel
theorem dX9_isOf_0 : decode cX9_isOf 0 = .ok (.iload_n 2, 1) := by decide +kernel
theorem dX9_isOf_1 : decode cX9_isOf 1 = .ok (.iload_n 1, 1) := by decide +kernel
theorem dX9_isOf_2 : decode cX9_isOf 2 = .ok (.isub, 1) := by decide +kernel
theorem dX9_isOf_3 : decode cX9_isOf 3 = .ok (.bipush 8, 2) := by decide +kernel
theorem dX9_isOf_5 : decode cX9_isOf 5 = .ok (.if_icmp .gt 7, 3) := by decide +kernel
theorem dX9_isOf_8 : decode cX9_isOf 8 = .ok (.iconst 1, 1) := by decide +kernel
theorem dX9_isOf_9 : decode cX9_isOf 9 = .ok (.goto 4, 3) := by decide +kernel
theorem dX9_isOf_12 : decode cX9_isOf 12 = .ok (.iconst 0, 1) := by decide +kernel
theorem dX9_isOf_13 : decode cX9_isOf 13 = .ok (.istore 4, 2) := by decide +kernel
theorem dX9_isOf_15 : decode cX9_isOf 15 = .ok (.iload_n 1, 1) := by decide +kernel
theorem dX9_isOf_16 : decode cX9_isOf 16 = .ok (.istore 5, 2) := by decide +kernel
theorem dX9_isOf_18 : decode cX9_isOf 18 = .ok (.iload 5, 2) := by decide +kernel
theorem dX9_isOf_20 : decode cX9_isOf 20 = .ok (.iload_n 2, 1) := by decide +kernel
theorem dX9_isOf_21 : decode cX9_isOf 21 = .ok (.if_icmp .ge 32, 3) := by decide +kernel
theorem dX9_isOf_24 : decode cX9_isOf 24 = .ok (.iload 4, 2) := by decide +kernel
theorem dX9_isOf_26 : decode cX9_isOf 26 = .ok (.ifCond .eq 18, 3) := by decide +kernel
theorem dX9_isOf_29 : decode cX9_isOf 29 = .ok (.aload_n 0, 1) := by decide +kernel
theorem dX9_isOf_30 : decode cX9_isOf 30 = .ok (.getfield 7, 3) := by decide +kernel
theorem dX9_isOf_33 : decode cX9_isOf 33 = .ok (.iload 5, 2) := by decide +kernel
theorem dX9_isOf_35 : decode cX9_isOf 35 = .ok (.iaload, 1) := by decide +kernel
theorem dX9_isOf_36 : decode cX9_isOf 36 = .ok (.iload_n 3, 1) := by decide +kernel
theorem dX9_isOf_37 : decode cX9_isOf 37 = .ok (.if_icmp .ge 7, 3) := by decide +kernel
theorem dX9_isOf_40 : decode cX9_isOf 40 = .ok (.iconst 1, 1) := by decide +kernel
theorem dX9_isOf_41 : decode cX9_isOf 41 = .ok (.goto 4, 3) := by decide +kernel
theorem dX9_isOf_44 : decode cX9_isOf 44 = .ok (.iconst 0, 1) := by decide +kernel
theorem dX9_isOf_45 : decode cX9_isOf 45 = .ok (.istore 4, 2) := by decide +kernel
theorem dX9_isOf_47 : decode cX9_isOf 47 = .ok (.iinc 5 1, 3) := by decide +kernel
theorem dX9_isOf_50 : decode cX9_isOf 50 = .ok (.goto (-32), 3) := by decide +kernel
theorem dX9_isOf_53 : decode cX9_isOf 53 = .ok (.iload 4, 2) := by decide +kernel
theorem dX9_isOf_55 : decode cX9_isOf 55 = .ok (.ireturn, 1) := by decide +kernel
set_option maxRecDepth 20000 in
theorem ggX9_necklaceNumber_X9_isPart : GoodIn wsX9_necklaceNumber wsX9_isPart := goodIn_r _ [6, 7, 37, 38, 39, 40, 41, 42, 43, 44, 45, 46, 47] (by decide +kernel) (by decide +kernel)
set_option maxRecDepth 20000 in
theorem gX9_necklaceNumber_X9_isPart : GoodIn wsX9_necklaceNumber (wsV RX9 56 RX9 yX9_isPart wsX9_isPart) := goodIn_app (goodIn_of _ (by decide +kernel)) ggX9_necklaceNumber_X9_isPart
set_option maxRecDepth 20000 in
theorem ggX9_necklaceNumber_X9_in : GoodIn wsX9_necklaceNumber wsX9_in := goodIn_r _ [10] (by decide +kernel) (by decide +kernel)
set_option maxRecDepth 20000 in
theorem gX9_necklaceNumber_X9_in : GoodIn wsX9_necklaceNumber (va_wsS RX9 42 yX9_in wsX9_in) := goodIn_app (goodIn_of _ (by decide +kernel)) ggX9_necklaceNumber_X9_in
set_option maxRecDepth 20000 in
theorem ggX9_necklaceNumber_X9_isOf : GoodIn wsX9_necklaceNumber wsX9_isOf := goodIn_r _ [14, 1, 37, 38, 39, 40, 41, 42, 43, 44, 45, 46, 47] (by decide +kernel) (by decide +kernel)
set_option maxRecDepth 20000 in
theorem gX9_necklaceNumber_X9_isOf : GoodIn wsX9_necklaceNumber (wsV RX9 146 RX9 yX9_isOf wsX9_isOf) := goodIn_app (goodIn_of _ (by decide +kernel)) ggX9_necklaceNumber_X9_isOf
set_option maxRecDepth 20000 in
theorem ggX9_necklaceNumber_X9_goesWell : GoodIn wsX9_necklaceNumber wsX9_goesWell := goodIn_r _ [18, 19, 37, 38, 39, 40, 41, 42, 43, 44, 45, 46, 47] (by decide +kernel) (by decide +kernel)
set_option maxRecDepth 20000 in
theorem gX9_necklaceNumber_X9_goesWell : GoodIn wsX9_necklaceNumber (wsV RX9 46 RX9 yX9_goesWell wsX9_goesWell) := goodIn_app (goodIn_of _ (by decide +kernel)) ggX9_necklaceNumber_X9_goesWell
set_option maxRecDepth 20000 in
theorem ggX9_necklaceNumber_X9_least : GoodIn wsX9_necklaceNumber wsX9_least := goodIn_r _ [23, 24, 25, 26, 5, 27, 1, 37, 38, 39, 40, 41, 42, 43, 44, 45, 46, 47] (by decide +kernel) (by decide +kernel)
set_option maxRecDepth 20000 in
theorem gX9_necklaceNumber_X9_least : GoodIn wsX9_necklaceNumber (wsV RX9 121 RX9 yX9_least wsX9_least) := goodIn_app (goodIn_of _ (by decide +kernel)) ggX9_necklaceNumber_X9_least
set_option maxRecDepth 20000 in
theorem ggX9_necklaceNumber_X9_layWord : GoodIn wsX9_necklaceNumber wsX9_layWord := goodIn_r _ [31, 32, 37, 38, 39, 40, 41, 42, 43, 44, 45, 46, 47] (by decide +kernel) (by decide +kernel)
set_option maxRecDepth 20000 in
theorem gX9_necklaceNumber_X9_layWord : GoodIn wsX9_necklaceNumber (wsV RX9 64 RX9 yX9_layWord wsX9_layWord) := goodIn_app (goodIn_of _ (by decide +kernel)) ggX9_necklaceNumber_X9_layWord
set_option maxRecDepth 20000 in
theorem ggX9_necklaceNumber_X9_isNecklaceWord : GoodIn wsX9_necklaceNumber wsX9_isNecklaceWord := goodIn_r _ [36, 32, 37, 38, 39, 40, 41, 42, 43, 44, 45, 46, 47] (by decide +kernel) (by decide +kernel)
set_option maxRecDepth 20000 in
theorem gX9_necklaceNumber_X9_isNecklaceWord : GoodIn wsX9_necklaceNumber (wsV RX9 85 RX9 yX9_isNecklaceWord wsX9_isNecklaceWord) := goodIn_app (goodIn_of _ (by decide +kernel)) ggX9_necklaceNumber_X9_isNecklaceWord
theorem dX9_necklaceNumber_0 : decode cX9_necklaceNumber 0 = .ok (.aload_n 0, 1) := by decide +kernel
theorem dX9_necklaceNumber_1 : decode cX9_necklaceNumber 1 = .ok (.aload_n 0, 1) := by decide +kernel
theorem dX9_necklaceNumber_2 : decode cX9_necklaceNumber 2 = .ok (.iload_n 1, 1) := by decide +kernel
theorem dX9_necklaceNumber_3 : decode cX9_necklaceNumber 3 = .ok (.iload_n 2, 1) := by decide +kernel
theorem dX9_necklaceNumber_4 : decode cX9_necklaceNumber 4 = .ok (.invokevirtual 56, 3) := by decide +kernel
theorem dX9_necklaceNumber_7 : decode cX9_necklaceNumber 7 = .ok (.ifCond .ne 7, 3) := by decide +kernel
theorem dX9_necklaceNumber_10 : decode cX9_necklaceNumber 10 = .ok (.iconst 1, 1) := by decide +kernel
theorem dX9_necklaceNumber_11 : decode cX9_necklaceNumber 11 = .ok (.goto 31, 3) := by decide +kernel
theorem dX9_necklaceNumber_14 : decode cX9_necklaceNumber 14 = .ok (.iload_n 3, 1) := by decide +kernel
theorem dX9_necklaceNumber_15 : decode cX9_necklaceNumber 15 = .ok (.iconst 1, 1) := by decide +kernel
theorem dX9_necklaceNumber_16 : decode cX9_necklaceNumber 16 = .ok (.iconst 4, 1) := by decide +kernel
theorem dX9_necklaceNumber_17 : decode cX9_necklaceNumber 17 = .ok (.invokestatic 42, 3) := by decide +kernel
theorem dX9_necklaceNumber_20 : decode cX9_necklaceNumber 20 = .ok (.ifCond .ne 7, 3) := by decide +kernel
theorem dX9_necklaceNumber_23 : decode cX9_necklaceNumber 23 = .ok (.iconst 2, 1) := by decide +kernel
theorem dX9_necklaceNumber_24 : decode cX9_necklaceNumber 24 = .ok (.goto 18, 3) := by decide +kernel
theorem dX9_necklaceNumber_27 : decode cX9_necklaceNumber 27 = .ok (.aload_n 0, 1) := by decide +kernel
theorem dX9_necklaceNumber_28 : decode cX9_necklaceNumber 28 = .ok (.iload_n 1, 1) := by decide +kernel
theorem dX9_necklaceNumber_29 : decode cX9_necklaceNumber 29 = .ok (.iload_n 2, 1) := by decide +kernel
theorem dX9_necklaceNumber_30 : decode cX9_necklaceNumber 30 = .ok (.iload_n 3, 1) := by decide +kernel
theorem dX9_necklaceNumber_31 : decode cX9_necklaceNumber 31 = .ok (.invokevirtual 146, 3) := by decide +kernel
theorem dX9_necklaceNumber_34 : decode cX9_necklaceNumber 34 = .ok (.ifCond .eq 7, 3) := by decide +kernel
theorem dX9_necklaceNumber_37 : decode cX9_necklaceNumber 37 = .ok (.iconst 0, 1) := by decide +kernel
theorem dX9_necklaceNumber_38 : decode cX9_necklaceNumber 38 = .ok (.goto 4, 3) := by decide +kernel
theorem dX9_necklaceNumber_41 : decode cX9_necklaceNumber 41 = .ok (.iconst 3, 1) := by decide +kernel
theorem dX9_necklaceNumber_42 : decode cX9_necklaceNumber 42 = .ok (.invokevirtual 46, 3) := by decide +kernel
theorem dX9_necklaceNumber_45 : decode cX9_necklaceNumber 45 = .ok (.ifCond .ne 5, 3) := by decide +kernel
theorem dX9_necklaceNumber_48 : decode cX9_necklaceNumber 48 = .ok (.iconst 0, 1) := by decide +kernel
theorem dX9_necklaceNumber_49 : decode cX9_necklaceNumber 49 = .ok (.ireturn, 1) := by decide +kernel
theorem dX9_necklaceNumber_50 : decode cX9_necklaceNumber 50 = .ok (.iload_n 2, 1) := by decide +kernel
theorem dX9_necklaceNumber_51 : decode cX9_necklaceNumber 51 = .ok (.iload_n 1, 1) := by decide +kernel
theorem dX9_necklaceNumber_52 : decode cX9_necklaceNumber 52 = .ok (.isub, 1) := by decide +kernel
theorem dX9_necklaceNumber_53 : decode cX9_necklaceNumber 53 = .ok (.istore 4, 2) := by decide +kernel
theorem dX9_necklaceNumber_55 : decode cX9_necklaceNumber 55 = .ok (.aload_n 0, 1) := by decide +kernel
theorem dX9_necklaceNumber_56 : decode cX9_necklaceNumber 56 = .ok (.iload_n 1, 1) := by decide +kernel
theorem dX9_necklaceNumber_57 : decode cX9_necklaceNumber 57 = .ok (.iload_n 2, 1) := by decide +kernel
theorem dX9_necklaceNumber_58 : decode cX9_necklaceNumber 58 = .ok (.invokevirtual 121, 3) := by decide +kernel
theorem dX9_necklaceNumber_61 : decode cX9_necklaceNumber 61 = .ok (.istore 5, 2) := by decide +kernel
theorem dX9_necklaceNumber_63 : decode cX9_necklaceNumber 63 = .ok (.iconst 0, 1) := by decide +kernel
theorem dX9_necklaceNumber_64 : decode cX9_necklaceNumber 64 = .ok (.istore 6, 2) := by decide +kernel
theorem dX9_necklaceNumber_66 : decode cX9_necklaceNumber 66 = .ok (.iconst 0, 1) := by decide +kernel
theorem dX9_necklaceNumber_67 : decode cX9_necklaceNumber 67 = .ok (.istore 7, 2) := by decide +kernel
theorem dX9_necklaceNumber_69 : decode cX9_necklaceNumber 69 = .ok (.iload 7, 2) := by decide +kernel
theorem dX9_necklaceNumber_71 : decode cX9_necklaceNumber 71 = .ok (.iload 4, 2) := by decide +kernel
theorem dX9_necklaceNumber_73 : decode cX9_necklaceNumber 73 = .ok (.if_icmp .ge 31, 3) := by decide +kernel
theorem dX9_necklaceNumber_76 : decode cX9_necklaceNumber 76 = .ok (.iload_n 3, 1) := by decide +kernel
theorem dX9_necklaceNumber_77 : decode cX9_necklaceNumber 77 = .ok (.iload 6, 2) := by decide +kernel
theorem dX9_necklaceNumber_79 : decode cX9_necklaceNumber 79 = .ok (.imul, 1) := by decide +kernel
theorem dX9_necklaceNumber_80 : decode cX9_necklaceNumber 80 = .ok (.aload_n 0, 1) := by decide +kernel
theorem dX9_necklaceNumber_81 : decode cX9_necklaceNumber 81 = .ok (.getfield 7, 3) := by decide +kernel
theorem dX9_necklaceNumber_84 : decode cX9_necklaceNumber 84 = .ok (.iload_n 1, 1) := by decide +kernel
theorem dX9_necklaceNumber_85 : decode cX9_necklaceNumber 85 = .ok (.iload 7, 2) := by decide +kernel
theorem dX9_necklaceNumber_87 : decode cX9_necklaceNumber 87 = .ok (.iload 5, 2) := by decide +kernel
theorem dX9_necklaceNumber_89 : decode cX9_necklaceNumber 89 = .ok (.iadd, 1) := by decide +kernel
theorem dX9_necklaceNumber_90 : decode cX9_necklaceNumber 90 = .ok (.iload 4, 2) := by decide +kernel
theorem dX9_necklaceNumber_92 : decode cX9_necklaceNumber 92 = .ok (.irem, 1) := by decide +kernel
theorem dX9_necklaceNumber_93 : decode cX9_necklaceNumber 93 = .ok (.iadd, 1) := by decide +kernel
theorem dX9_necklaceNumber_94 : decode cX9_necklaceNumber 94 = .ok (.iaload, 1) := by decide +kernel
theorem dX9_necklaceNumber_95 : decode cX9_necklaceNumber 95 = .ok (.iadd, 1) := by decide +kernel
theorem dX9_necklaceNumber_96 : decode cX9_necklaceNumber 96 = .ok (.istore 6, 2) := by decide +kernel
theorem dX9_necklaceNumber_98 : decode cX9_necklaceNumber 98 = .ok (.iinc 7 1, 3) := by decide +kernel
theorem dX9_necklaceNumber_101 : decode cX9_necklaceNumber 101 = .ok (.goto (-32), 3) := by decide +kernel
theorem dX9_necklaceNumber_104 : decode cX9_necklaceNumber 104 = .ok (.iconst 0, 1) := by decide +kernel
theorem dX9_necklaceNumber_105 : decode cX9_necklaceNumber 105 = .ok (.istore 7, 2) := by decide +kernel
theorem dX9_necklaceNumber_107 : decode cX9_necklaceNumber 107 = .ok (.iconst 0, 1) := by decide +kernel
theorem dX9_necklaceNumber_108 : decode cX9_necklaceNumber 108 = .ok (.istore 8, 2) := by decide +kernel
theorem dX9_necklaceNumber_110 : decode cX9_necklaceNumber 110 = .ok (.iload 8, 2) := by decide +kernel
theorem dX9_necklaceNumber_112 : decode cX9_necklaceNumber 112 = .ok (.iload 6, 2) := by decide +kernel
theorem dX9_necklaceNumber_114 : decode cX9_necklaceNumber 114 = .ok (.if_icmp .ge 37, 3) := by decide +kernel
theorem dX9_necklaceNumber_117 : decode cX9_necklaceNumber 117 = .ok (.aload_n 0, 1) := by decide +kernel
theorem dX9_necklaceNumber_118 : decode cX9_necklaceNumber 118 = .ok (.iload 8, 2) := by decide +kernel
theorem dX9_necklaceNumber_120 : decode cX9_necklaceNumber 120 = .ok (.iload_n 3, 1) := by decide +kernel
theorem dX9_necklaceNumber_121 : decode cX9_necklaceNumber 121 = .ok (.iload 4, 2) := by decide +kernel
theorem dX9_necklaceNumber_123 : decode cX9_necklaceNumber 123 = .ok (.invokevirtual 64, 3) := by decide +kernel
theorem dX9_necklaceNumber_126 : decode cX9_necklaceNumber 126 = .ok (.iload 7, 2) := by decide +kernel
theorem dX9_necklaceNumber_128 : decode cX9_necklaceNumber 128 = .ok (.aload_n 0, 1) := by decide +kernel
theorem dX9_necklaceNumber_129 : decode cX9_necklaceNumber 129 = .ok (.iload 4, 2) := by decide +kernel
theorem dX9_necklaceNumber_131 : decode cX9_necklaceNumber 131 = .ok (.invokevirtual 85, 3) := by decide +kernel
theorem dX9_necklaceNumber_134 : decode cX9_necklaceNumber 134 = .ok (.ifCond .eq 7, 3) := by decide +kernel
theorem dX9_necklaceNumber_137 : decode cX9_necklaceNumber 137 = .ok (.iconst 1, 1) := by decide +kernel
theorem dX9_necklaceNumber_138 : decode cX9_necklaceNumber 138 = .ok (.goto 4, 3) := by decide +kernel
theorem dX9_necklaceNumber_141 : decode cX9_necklaceNumber 141 = .ok (.iconst 0, 1) := by decide +kernel
theorem dX9_necklaceNumber_142 : decode cX9_necklaceNumber 142 = .ok (.iadd, 1) := by decide +kernel
theorem dX9_necklaceNumber_143 : decode cX9_necklaceNumber 143 = .ok (.istore 7, 2) := by decide +kernel
theorem dX9_necklaceNumber_145 : decode cX9_necklaceNumber 145 = .ok (.iinc 8 1, 3) := by decide +kernel
theorem dX9_necklaceNumber_148 : decode cX9_necklaceNumber 148 = .ok (.goto (-38), 3) := by decide +kernel
theorem dX9_necklaceNumber_151 : decode cX9_necklaceNumber 151 = .ok (.iload 7, 2) := by decide +kernel
theorem dX9_necklaceNumber_153 : decode cX9_necklaceNumber 153 = .ok (.ireturn, 1) := by decide +kernel
theorem dJ6_compare_7cf53_0 : decode cJ6_compare_7cf53 0 = .ok (.iload_n 0, 1) := by decide +kernel
theorem dJ6_compare_7cf53_1 : decode cJ6_compare_7cf53 1 = .ok (.iload_n 1, 1) := by decide +kernel
theorem dJ6_compare_7cf53_2 : decode cJ6_compare_7cf53 2 = .ok (.if_icmp .ge 7, 3) := by decide +kernel
theorem dJ6_compare_7cf53_5 : decode cJ6_compare_7cf53 5 = .ok (.iconst (-1), 1) := by decide +kernel
theorem dJ6_compare_7cf53_6 : decode cJ6_compare_7cf53 6 = .ok (.goto 13, 3) := by decide +kernel
theorem dJ6_compare_7cf53_9 : decode cJ6_compare_7cf53 9 = .ok (.iload_n 0, 1) := by decide +kernel
theorem dJ6_compare_7cf53_10 : decode cJ6_compare_7cf53 10 = .ok (.iload_n 1, 1) := by decide +kernel
theorem dJ6_compare_7cf53_11 : decode cJ6_compare_7cf53 11 = .ok (.if_icmp .ne 7, 3) := by decide +kernel
theorem dJ6_compare_7cf53_14 : decode cJ6_compare_7cf53 14 = .ok (.iconst 0, 1) := by decide +kernel
theorem dJ6_compare_7cf53_15 : decode cJ6_compare_7cf53 15 = .ok (.goto 4, 3) := by decide +kernel
theorem dJ6_compare_7cf53_18 : decode cJ6_compare_7cf53 18 = .ok (.iconst 1, 1) := by decide +kernel
theorem dJ6_compare_7cf53_19 : decode cJ6_compare_7cf53 19 = .ok (.ireturn, 1) := by decide +kernel
theorem dJ9_max_7cf53_0 : decode cJ9_max_7cf53 0 = .ok (.iload_n 0, 1) := by decide +kernel
theorem dJ9_max_7cf53_1 : decode cJ9_max_7cf53 1 = .ok (.iload_n 1, 1) := by decide +kernel
theorem dJ9_max_7cf53_2 : decode cJ9_max_7cf53 2 = .ok (.if_icmp .lt 7, 3) := by decide +kernel
theorem dJ9_max_7cf53_5 : decode cJ9_max_7cf53 5 = .ok (.iload_n 0, 1) := by decide +kernel
theorem dJ9_max_7cf53_6 : decode cJ9_max_7cf53 6 = .ok (.goto 4, 3) := by decide +kernel
theorem dJ9_max_7cf53_9 : decode cJ9_max_7cf53 9 = .ok (.iload_n 1, 1) := by decide +kernel
theorem dJ9_max_7cf53_10 : decode cJ9_max_7cf53 10 = .ok (.ireturn, 1) := by decide +kernel
theorem dJ9_min_7cf53_0 : decode cJ9_min_7cf53 0 = .ok (.iload_n 0, 1) := by decide +kernel
theorem dJ9_min_7cf53_1 : decode cJ9_min_7cf53 1 = .ok (.iload_n 1, 1) := by decide +kernel
theorem dJ9_min_7cf53_2 : decode cJ9_min_7cf53 2 = .ok (.if_icmp .gt 7, 3) := by decide +kernel
theorem dJ9_min_7cf53_5 : decode cJ9_min_7cf53 5 = .ok (.iload_n 0, 1) := by decide +kernel
theorem dJ9_min_7cf53_6 : decode cJ9_min_7cf53 6 = .ok (.goto 4, 3) := by decide +kernel
theorem dJ9_min_7cf53_9 : decode cJ9_min_7cf53 9 = .ok (.iload_n 1, 1) := by decide +kernel
theorem dJ9_min_7cf53_10 : decode cJ9_min_7cf53 10 = .ok (.ireturn, 1) := by decide +kernel
abbrev vwCl : List vw_C := [(RX0, TX0, 1), (RX1, TX1, 2), (RX2, TX2, 2), (RX3, TX3, 4), (RX6, TX6, 4), (RX7, TX7, 1), (RX8, TX8, 6), (RX9, TX9, 11)]
