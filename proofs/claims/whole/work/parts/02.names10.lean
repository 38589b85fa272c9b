set_option maxRecDepth 20000 in
theorem gX8_reaches_X3_firstDayOutOfBounds : GoodIn wsX8_reaches (wsV RX8 200 RX3 yX3_firstDayOutOfBounds wsX3_firstDayOutOfBounds) := goodIn_app (goodIn_of _ (by decide +kernel)) ggX8_reaches_X3_firstDayOutOfBounds
theorem dX8_reaches_0 : decode cX8_reaches 0 = .ok (.aload_n 0, 1) := by decide +kernel
theorem dX8_reaches_1 : decode cX8_reaches 1 = .ok (.iload_n 1, 1) := by decide +kernel
theorem dX8_reaches_2 : decode cX8_reaches 2 = .ok (.invokevirtual 186, 3) := by decide +kernel
theorem dX8_reaches_5 : decode cX8_reaches 5 = .ok (.ifCond .eq 15, 3) := by decide +kernel
theorem dX8_reaches_8 : decode cX8_reaches 8 = .ok (.iload_n 2, 1) := by decide +kernel
theorem dX8_reaches_9 : decode cX8_reaches 9 = .ok (.bipush (-96), 2) := by decide +kernel
theorem dX8_reaches_11 : decode cX8_reaches 11 = .ok (.if_icmp .lt 9, 3) := by decide +kernel
theorem dX8_reaches_14 : decode cX8_reaches 14 = .ok (.iload_n 2, 1) := by decide +kernel
theorem dX8_reaches_15 : decode cX8_reaches 15 = .ok (.bipush 96, 2) := by decide +kernel
theorem dX8_reaches_17 : decode cX8_reaches 17 = .ok (.if_icmp .le 5, 3) := by decide +kernel
theorem dX8_reaches_20 : decode cX8_reaches 20 = .ok (.iconst (-1), 1) := by decide +kernel
theorem dX8_reaches_21 : decode cX8_reaches 21 = .ok (.ireturn, 1) := by decide +kernel
theorem dX8_reaches_22 : decode cX8_reaches 22 = .ok (.aload_n 0, 1) := by decide +kernel
theorem dX8_reaches_23 : decode cX8_reaches 23 = .ok (.getfield 37, 3) := by decide +kernel
theorem dX8_reaches_26 : decode cX8_reaches 26 = .ok (.iload_n 1, 1) := by decide +kernel
theorem dX8_reaches_27 : decode cX8_reaches 27 = .ok (.aaload, 1) := by decide +kernel
theorem dX8_reaches_28 : decode cX8_reaches 28 = .ok (.aload_n 0, 1) := by decide +kernel
theorem dX8_reaches_29 : decode cX8_reaches 29 = .ok (.getfield 51, 3) := by decide +kernel
theorem dX8_reaches_32 : decode cX8_reaches 32 = .ok (.iload_n 2, 1) := by decide +kernel
theorem dX8_reaches_33 : decode cX8_reaches 33 = .ok (.invokevirtual 200, 3) := by decide +kernel
theorem dX8_reaches_36 : decode cX8_reaches 36 = .ok (.ireturn, 1) := by decide +kernel
set_option maxRecDepth 20000 in
theorem ggX8_cost_X8_canChange : GoodIn wsX8_cost wsX8_canChange := goodIn_r _ [5, 6, 7, 8, 9, 4, 10, 11, 12, 13, 14, 15, 16, 17, 18, 19, 20, 21, 22, 23, 24, 25, 26, 27, 28, 29, 30, 31, 32, 33, 34, 35, 36, 37, 38, 39, 40, 41, 42, 43, 44, 45, 46, 47, 48, 49, 50, 51, 84, 85, 86, 87, 88, 89, 90, 91, 92, 93, 94, 95, 96, 97, 98, 99, 100, 101, 102, 103, 104, 105, 106, 107, 108, 109, 110, 111] (by decide +kernel) (by decide +kernel)
set_option maxRecDepth 20000 in
theorem gX8_cost_X8_canChange : GoodIn wsX8_cost (wsV RX8 203 RX8 yX8_canChange wsX8_canChange) := goodIn_app (goodIn_of _ (by decide +kernel)) ggX8_cost_X8_canChange
set_option maxRecDepth 20000 in
theorem ggX8_cost_X8_priceOf : GoodIn wsX8_cost wsX8_priceOf := goodIn_r _ [55, 6, 56, 57, 58, 59, 21, 11, 60, 61, 62, 63, 43, 64, 65, 66, 67, 68, 69, 70, 71, 72, 73, 25, 74, 27, 75, 76, 77, 78, 79, 80, 81, 82, 83, 84, 85, 86, 87, 88, 89, 90, 91, 92, 93, 94, 95, 96, 97, 98, 99, 100, 101, 102] (by decide +kernel) (by decide +kernel)
set_option maxRecDepth 20000 in
theorem gX8_cost_X8_priceOf : GoodIn wsX8_cost (wsV RX8 207 RX8 yX8_priceOf wsX8_priceOf) := goodIn_app (goodIn_of _ (by decide +kernel)) ggX8_cost_X8_priceOf
theorem dX8_cost_0 : decode cX8_cost 0 = .ok (.aload_n 0, 1) := by decide +kernel
theorem dX8_cost_1 : decode cX8_cost 1 = .ok (.iload_n 1, 1) := by decide +kernel
theorem dX8_cost_2 : decode cX8_cost 2 = .ok (.iload_n 2, 1) := by decide +kernel
theorem dX8_cost_3 : decode cX8_cost 3 = .ok (.iload_n 3, 1) := by decide +kernel
theorem dX8_cost_4 : decode cX8_cost 4 = .ok (.invokevirtual 203, 3) := by decide +kernel
theorem dX8_cost_7 : decode cX8_cost 7 = .ok (.ifCond .eq 13, 3) := by decide +kernel
theorem dX8_cost_10 : decode cX8_cost 10 = .ok (.aload_n 0, 1) := by decide +kernel
theorem dX8_cost_11 : decode cX8_cost 11 = .ok (.iload_n 1, 1) := by decide +kernel
theorem dX8_cost_12 : decode cX8_cost 12 = .ok (.iload_n 2, 1) := by decide +kernel
theorem dX8_cost_13 : decode cX8_cost 13 = .ok (.iload_n 3, 1) := by decide +kernel
theorem dX8_cost_14 : decode cX8_cost 14 = .ok (.invokevirtual 207, 3) := by decide +kernel
theorem dX8_cost_17 : decode cX8_cost 17 = .ok (.goto 4, 3) := by decide +kernel
theorem dX8_cost_20 : decode cX8_cost 20 = .ok (.iconst (-1), 1) := by decide +kernel
theorem dX8_cost_21 : decode cX8_cost 21 = .ok (.ireturn, 1) := by decide +kernel
set_option maxRecDepth 20000 in
theorem ggX8_due_X8_isPresent : GoodIn wsX8_due wsX8_isPresent := goodIn_r _ [9, 3, 10, 11, 12, 13, 8, 14, 15, 16, 17, 18, 19, 20, 21, 22, 23, 24, 25, 26, 27, 66, 67, 68, 69, 70, 71, 72, 73, 74, 75, 76, 77, 78, 79, 80, 81, 82, 83, 84, 85, 86, 87, 88, 89, 90, 91, 92, 93] (by decide +kernel) (by decide +kernel)
set_option maxRecDepth 20000 in
theorem gX8_due_X8_isPresent : GoodIn wsX8_due (wsV RX8 186 RX8 yX8_isPresent wsX8_isPresent) := goodIn_app (goodIn_of _ (by decide +kernel)) ggX8_due_X8_isPresent
set_option maxRecDepth 20000 in
theorem ggX8_due_X3_settlementOn : GoodIn wsX8_due wsX3_settlementOn := goodIn_r _ [32, 33, 34, 35, 36, 37, 38, 39, 31, 40, 41, 42, 43, 44, 45, 46, 47, 48, 49, 50, 51, 52, 53, 54, 55, 56, 57, 58, 59, 60, 61, 62, 63, 19, 64, 21, 65, 73, 74, 75, 76, 77, 78, 79, 85, 86, 87, 88, 89, 90, 91, 92, 93, 80, 81, 82, 83, 84] (by decide +kernel) (by decide +kernel)
set_option maxRecDepth 20000 in
theorem gX8_due_X3_settlementOn : GoodIn wsX8_due (wsV RX8 211 RX3 yX3_settlementOn wsX3_settlementOn) := goodIn_app (goodIn_of _ (by decide +kernel)) ggX8_due_X3_settlementOn
theorem dX8_due_0 : decode cX8_due 0 = .ok (.aload_n 0, 1) := by decide +kernel
theorem dX8_due_1 : decode cX8_due 1 = .ok (.iload_n 1, 1) := by decide +kernel
theorem dX8_due_2 : decode cX8_due 2 = .ok (.invokevirtual 186, 3) := by decide +kernel
theorem dX8_due_5 : decode cX8_due 5 = .ok (.ifCond .ne 13, 3) := by decide +kernel
theorem dX8_due_8 : decode cX8_due 8 = .ok (.new 105, 3) := by decide +kernel
theorem dX8_due_11 : decode cX8_due 11 = .ok (.dup, 1) := by decide +kernel
theorem dX8_due_12 : decode cX8_due 12 = .ok (.ldc 107, 2) := by decide +kernel
theorem dX8_due_14 : decode cX8_due 14 = .ok (.invokespecial 109, 3) := by decide +kernel
theorem dX8_due_17 : decode cX8_due 17 = .ok (.athrow, 1) := by decide +kernel
theorem dX8_due_18 : decode cX8_due 18 = .ok (.aload_n 0, 1) := by decide +kernel
theorem dX8_due_19 : decode cX8_due 19 = .ok (.getfield 37, 3) := by decide +kernel
theorem dX8_due_22 : decode cX8_due 22 = .ok (.iload_n 1, 1) := by decide +kernel
theorem dX8_due_23 : decode cX8_due 23 = .ok (.aaload, 1) := by decide +kernel
theorem dX8_due_24 : decode cX8_due 24 = .ok (.aload_n 0, 1) := by decide +kernel
theorem dX8_due_25 : decode cX8_due 25 = .ok (.getfield 51, 3) := by decide +kernel
theorem dX8_due_28 : decode cX8_due 28 = .ok (.invokevirtual 211, 3) := by decide +kernel
theorem dX8_due_31 : decode cX8_due 31 = .ok (.ireturn, 1) := by decide +kernel
set_option maxRecDepth 20000 in
theorem ggX8_plan_X8_canChange : GoodIn wsX8_plan wsX8_canChange := goodIn_r _ [11, 3, 12, 13, 14, 10, 15, 2, 16, 17, 18, 19, 5, 20, 21, 22, 23, 24, 25, 26, 27, 28, 29, 30, 31, 32, 33, 34, 35, 36, 37, 38, 39, 40, 41, 42, 43, 44, 45, 46, 47, 48, 49, 50, 51, 52, 53, 54, 123, 124, 125, 126, 127, 128, 129, 130, 131, 132, 133, 134, 135, 136, 146, 147, 148, 149, 150, 137, 138, 139, 140, 141, 142, 143, 144, 145] (by decide +kernel) (by decide +kernel)
set_option maxRecDepth 20000 in
theorem gX8_plan_X8_canChange : GoodIn wsX8_plan (wsV RX8 203 RX8 yX8_canChange wsX8_canChange) := goodIn_app (goodIn_of _ (by decide +kernel)) ggX8_plan_X8_canChange
set_option maxRecDepth 20000 in
theorem ggX8_plan_X8_priceOf : GoodIn wsX8_plan wsX8_priceOf := goodIn_r _ [58, 3, 59, 60, 61, 62, 24, 2, 63, 64, 65, 66, 46, 67, 68, 69, 70, 71, 72, 73, 74, 75, 76, 28, 77, 30, 78, 79, 80, 81, 82, 83, 84, 85, 86, 123, 124, 125, 126, 127, 128, 129, 130, 131, 132, 133, 134, 135, 136, 146, 147, 148, 149, 150] (by decide +kernel) (by decide +kernel)
set_option maxRecDepth 20000 in
theorem gX8_plan_X8_priceOf : GoodIn wsX8_plan (wsV RX8 207 RX8 yX8_priceOf wsX8_priceOf) := goodIn_app (goodIn_of _ (by decide +kernel)) ggX8_plan_X8_priceOf
set_option maxRecDepth 20000 in
theorem ggX8_plan_X1_rememberDay : GoodIn wsX8_plan wsX1_rememberDay := goodIn_r _ [91, 92, 93, 94, 95, 96, 97, 98, 99, 100, 90, 101, 102, 103, 104, 105, 106, 107, 108, 109, 61, 110, 111, 112, 113, 34, 114, 115, 116, 117, 118, 119, 120, 121, 122, 36, 151, 152, 153, 154, 155, 156, 130, 131, 132, 133, 134, 135, 136, 157, 158, 159, 137, 138, 139, 140, 141, 142, 143, 144, 145] (by decide +kernel) (by decide +kernel)
set_option maxRecDepth 20000 in
theorem gX8_plan_X1_rememberDay : GoodIn wsX8_plan (wsV RX8 214 RX1 yX1_rememberDay wsX1_rememberDay) := goodIn_app (goodIn_of _ (by decide +kernel)) ggX8_plan_X1_rememberDay
theorem dX8_plan_0 : decode cX8_plan 0 = .ok (.aload_n 0, 1) := by decide +kernel
theorem dX8_plan_1 : decode cX8_plan 1 = .ok (.iload_n 1, 1) := by decide +kernel
theorem dX8_plan_2 : decode cX8_plan 2 = .ok (.iload_n 2, 1) := by decide +kernel
theorem dX8_plan_3 : decode cX8_plan 3 = .ok (.iload_n 3, 1) := by decide +kernel
theorem dX8_plan_4 : decode cX8_plan 4 = .ok (.invokevirtual 203, 3) := by decide +kernel
theorem dX8_plan_7 : decode cX8_plan 7 = .ok (.ifCond .ne 5, 3) := by decide +kernel
theorem dX8_plan_10 : decode cX8_plan 10 = .ok (.iconst (-1), 1) := by decide +kernel
theorem dX8_plan_11 : decode cX8_plan 11 = .ok (.ireturn, 1) := by decide +kernel
theorem dX8_plan_12 : decode cX8_plan 12 = .ok (.aload_n 0, 1) := by decide +kernel
theorem dX8_plan_13 : decode cX8_plan 13 = .ok (.iload_n 1, 1) := by decide +kernel
theorem dX8_plan_14 : decode cX8_plan 14 = .ok (.iload_n 2, 1) := by decide +kernel
theorem dX8_plan_15 : decode cX8_plan 15 = .ok (.iload_n 3, 1) := by decide +kernel
theorem dX8_plan_16 : decode cX8_plan 16 = .ok (.invokevirtual 207, 3) := by decide +kernel
theorem dX8_plan_19 : decode cX8_plan 19 = .ok (.istore 4, 2) := by decide +kernel
theorem dX8_plan_21 : decode cX8_plan 21 = .ok (.aload_n 0, 1) := by decide +kernel
theorem dX8_plan_22 : decode cX8_plan 22 = .ok (.getfield 47, 3) := by decide +kernel
theorem dX8_plan_25 : decode cX8_plan 25 = .ok (.aload_n 0, 1) := by decide +kernel
theorem dX8_plan_26 : decode cX8_plan 26 = .ok (.getfield 51, 3) := by decide +kernel
theorem dX8_plan_29 : decode cX8_plan 29 = .ok (.aload_n 0, 1) := by decide +kernel
theorem dX8_plan_30 : decode cX8_plan 30 = .ok (.getfield 37, 3) := by decide +kernel
theorem dX8_plan_33 : decode cX8_plan 33 = .ok (.iload_n 1, 1) := by decide +kernel
theorem dX8_plan_34 : decode cX8_plan 34 = .ok (.iload_n 2, 1) := by decide +kernel
theorem dX8_plan_35 : decode cX8_plan 35 = .ok (.invokevirtual 214, 3) := by decide +kernel
theorem dX8_plan_38 : decode cX8_plan 38 = .ok (.aload_n 0, 1) := by decide +kernel
theorem dX8_plan_39 : decode cX8_plan 39 = .ok (.getfield 37, 3) := by decide +kernel
theorem dX8_plan_42 : decode cX8_plan 42 = .ok (.iload_n 1, 1) := by decide +kernel
theorem dX8_plan_43 : decode cX8_plan 43 = .ok (.aaload, 1) := by decide +kernel
theorem dX8_plan_44 : decode cX8_plan 44 = .ok (.getfield 218, 3) := by decide +kernel
theorem dX8_plan_47 : decode cX8_plan 47 = .ok (.iload_n 2, 1) := by decide +kernel
theorem dX8_plan_48 : decode cX8_plan 48 = .ok (.iload_n 3, 1) := by decide +kernel
theorem dX8_plan_49 : decode cX8_plan 49 = .ok (.iastore, 1) := by decide +kernel
theorem dX8_plan_50 : decode cX8_plan 50 = .ok (.aload_n 0, 1) := by decide +kernel
theorem dX8_plan_51 : decode cX8_plan 51 = .ok (.getfield 37, 3) := by decide +kernel
theorem dX8_plan_54 : decode cX8_plan 54 = .ok (.iload_n 1, 1) := by decide +kernel
theorem dX8_plan_55 : decode cX8_plan 55 = .ok (.aaload, 1) := by decide +kernel
theorem dX8_plan_56 : decode cX8_plan 56 = .ok (.getfield 112, 3) := by decide +kernel
theorem dX8_plan_59 : decode cX8_plan 59 = .ok (.dup, 1) := by decide +kernel
theorem dX8_plan_60 : decode cX8_plan 60 = .ok (.getfield 133, 3) := by decide +kernel
theorem dX8_plan_63 : decode cX8_plan 63 = .ok (.iload 4, 2) := by decide +kernel
theorem dX8_plan_65 : decode cX8_plan 65 = .ok (.iadd, 1) := by decide +kernel
theorem dX8_plan_66 : decode cX8_plan 66 = .ok (.putfield 133, 3) := by decide +kernel
theorem dX8_plan_69 : decode cX8_plan 69 = .ok (.iload 4, 2) := by decide +kernel
theorem dX8_plan_71 : decode cX8_plan 71 = .ok (.ireturn, 1) := by decide +kernel
set_option maxRecDepth 20000 in
theorem ggX8_work_X8_isOpen : GoodIn wsX8_work wsX8_isOpen := goodIn_r _ [8, 1, 9, 10, 11, 7, 12, 2, 13, 14, 15, 16, 17, 18, 19, 20, 21, 22, 23, 24, 25, 26, 27, 28, 29, 30, 31, 32, 33, 79, 80, 81, 82, 83, 84, 85, 86, 87, 88, 89, 90, 91, 92, 93, 94, 95, 96, 97, 98, 99, 100, 101, 102, 103, 104, 105, 106] (by decide +kernel) (by decide +kernel)
set_option maxRecDepth 20000 in
theorem gX8_work_X8_isOpen : GoodIn wsX8_work (wsV RX8 222 RX8 yX8_isOpen wsX8_isOpen) := goodIn_app (goodIn_of _ (by decide +kernel)) ggX8_work_X8_isOpen
set_option maxRecDepth 20000 in
theorem ggX8_work_X8_isQuarters : GoodIn wsX8_work wsX8_isQuarters := goodIn_r _ [36] (by decide +kernel) (by decide +kernel)
set_option maxRecDepth 20000 in
theorem gX8_work_X8_isQuarters : GoodIn wsX8_work (va_wsS RX8 226 yX8_isQuarters wsX8_isQuarters) := goodIn_app (goodIn_of _ (by decide +kernel)) ggX8_work_X8_isQuarters
set_option maxRecDepth 20000 in
theorem ggX8_work_X8_tell : GoodIn wsX8_work wsX8_tell := goodIn_r _ [40, 41, 1, 2, 3, 42, 43, 44, 45, 46, 47, 48, 49, 50, 51, 52, 53, 54, 55, 56, 57, 58, 59, 60, 61, 62, 63, 64, 65, 66, 67, 68, 69, 28, 70, 71, 72, 73, 74, 75, 76, 77, 78, 30, 79, 80, 81, 82, 83, 84, 85, 86, 87, 88, 89, 90, 91, 92, 107, 108, 109, 110, 111, 112, 113, 114, 115, 98, 99, 100, 101, 102, 103, 104, 105, 106] (by decide +kernel) (by decide +kernel)
set_option maxRecDepth 20000 in
theorem gX8_work_X8_tell : GoodIn wsX8_work (wsV RX8 232 RX8 yX8_tell wsX8_tell) := goodIn_app (goodIn_of _ (by decide +kernel)) ggX8_work_X8_tell
theorem dX8_work_0 : decode cX8_work 0 = .ok (.aload_n 0, 1) := by decide +kernel
theorem dX8_work_1 : decode cX8_work 1 = .ok (.iload_n 1, 1) := by decide +kernel
theorem dX8_work_2 : decode cX8_work 2 = .ok (.aload_n 0, 1) := by decide +kernel
theorem dX8_work_3 : decode cX8_work 3 = .ok (.getfield 51, 3) := by decide +kernel
theorem dX8_work_6 : decode cX8_work 6 = .ok (.invokevirtual 222, 3) := by decide +kernel
theorem dX8_work_9 : decode cX8_work 9 = .ok (.ifCond .eq 27, 3) := by decide +kernel
theorem dX8_work_12 : decode cX8_work 12 = .ok (.iload_n 2, 1) := by decide +kernel
theorem dX8_work_13 : decode cX8_work 13 = .ok (.invokestatic 226, 3) := by decide +kernel
theorem dX8_work_16 : decode cX8_work 16 = .ok (.ifCond .eq 20, 3) := by decide +kernel
theorem dX8_work_19 : decode cX8_work 19 = .ok (.aload_n 0, 1) := by decide +kernel
theorem dX8_work_20 : decode cX8_work 20 = .ok (.getfield 37, 3) := by decide +kernel
theorem dX8_work_23 : decode cX8_work 23 = .ok (.iload_n 1, 1) := by decide +kernel
theorem dX8_work_24 : decode cX8_work 24 = .ok (.aaload, 1) := by decide +kernel
theorem dX8_work_25 : decode cX8_work 25 = .ok (.getfield 229, 3) := by decide +kernel
theorem dX8_work_28 : decode cX8_work 28 = .ok (.aload_n 0, 1) := by decide +kernel
theorem dX8_work_29 : decode cX8_work 29 = .ok (.getfield 51, 3) := by decide +kernel
theorem dX8_work_32 : decode cX8_work 32 = .ok (.iaload, 1) := by decide +kernel
theorem dX8_work_33 : decode cX8_work 33 = .ok (.ifCond .ge 5, 3) := by decide +kernel
theorem dX8_work_36 : decode cX8_work 36 = .ok (.iconst 0, 1) := by decide +kernel
theorem dX8_work_37 : decode cX8_work 37 = .ok (.ireturn, 1) := by decide +kernel
theorem dX8_work_38 : decode cX8_work 38 = .ok (.aload_n 0, 1) := by decide +kernel
theorem dX8_work_39 : decode cX8_work 39 = .ok (.iload_n 1, 1) := by decide +kernel
theorem dX8_work_40 : decode cX8_work 40 = .ok (.aload_n 0, 1) := by decide +kernel
theorem dX8_work_41 : decode cX8_work 41 = .ok (.getfield 51, 3) := by decide +kernel
theorem dX8_work_44 : decode cX8_work 44 = .ok (.iload_n 2, 1) := by decide +kernel
theorem dX8_work_45 : decode cX8_work 45 = .ok (.invokevirtual 232, 3) := by decide +kernel
theorem dX8_work_48 : decode cX8_work 48 = .ok (.iconst 1, 1) := by decide +kernel
theorem dX8_work_49 : decode cX8_work 49 = .ok (.ireturn, 1) := by decide +kernel
set_option maxRecDepth 20000 in
theorem ggX8_sick_X8_isOpen : GoodIn wsX8_sick wsX8_isOpen := goodIn_r _ [8, 1, 9, 10, 11, 7, 12, 2, 13, 14, 15, 16, 17, 18, 19, 20, 21, 22, 23, 24, 25, 26, 27, 28, 29, 30, 31, 32, 33, 76, 77, 78, 79, 80, 81, 82, 83, 84, 85, 86, 87, 88, 89, 90, 91, 92, 93, 94, 95, 96, 97, 98, 99, 100, 101, 102, 103] (by decide +kernel) (by decide +kernel)
set_option maxRecDepth 20000 in
theorem gX8_sick_X8_isOpen : GoodIn wsX8_sick (wsV RX8 222 RX8 yX8_isOpen wsX8_isOpen) := goodIn_app (goodIn_of _ (by decide +kernel)) ggX8_sick_X8_isOpen
set_option maxRecDepth 20000 in
theorem ggX8_sick_X8_tell : GoodIn wsX8_sick wsX8_tell := goodIn_r _ [37, 38, 1, 2, 3, 39, 40, 41, 42, 43, 44, 45, 46, 47, 48, 49, 50, 51, 52, 53, 54, 55, 56, 57, 58, 59, 60, 61, 62, 63, 64, 65, 66, 28, 67, 68, 69, 70, 71, 72, 73, 74, 75, 30, 76, 77, 78, 79, 80, 81, 82, 83, 84, 85, 86, 87, 88, 89, 104, 105, 106, 107, 108, 109, 110, 111, 112, 95, 96, 97, 98, 99, 100, 101, 102, 103] (by decide +kernel) (by decide +kernel)
set_option maxRecDepth 20000 in
theorem gX8_sick_X8_tell : GoodIn wsX8_sick (wsV RX8 232 RX8 yX8_tell wsX8_tell) := goodIn_app (goodIn_of _ (by decide +kernel)) ggX8_sick_X8_tell
theorem dX8_sick_0 : decode cX8_sick 0 = .ok (.iload_n 2, 1) := by decide +kernel
theorem dX8_sick_1 : decode cX8_sick 1 = .ok (.ifCond .eq 7, 3) := by decide +kernel
theorem dX8_sick_4 : decode cX8_sick 4 = .ok (.iconst 0, 1) := by decide +kernel
theorem dX8_sick_5 : decode cX8_sick 5 = .ok (.goto 4, 3) := by decide +kernel
theorem dX8_sick_8 : decode cX8_sick 8 = .ok (.iconst (-1), 1) := by decide +kernel
theorem dX8_sick_9 : decode cX8_sick 9 = .ok (.istore_n 3, 1) := by decide +kernel
theorem dX8_sick_10 : decode cX8_sick 10 = .ok (.aload_n 0, 1) := by decide +kernel
theorem dX8_sick_11 : decode cX8_sick 11 = .ok (.iload_n 1, 1) := by decide +kernel
theorem dX8_sick_12 : decode cX8_sick 12 = .ok (.aload_n 0, 1) := by decide +kernel
theorem dX8_sick_13 : decode cX8_sick 13 = .ok (.getfield 51, 3) := by decide +kernel
theorem dX8_sick_16 : decode cX8_sick 16 = .ok (.invokevirtual 222, 3) := by decide +kernel
theorem dX8_sick_19 : decode cX8_sick 19 = .ok (.ifCond .eq 21, 3) := by decide +kernel
theorem dX8_sick_22 : decode cX8_sick 22 = .ok (.aload_n 0, 1) := by decide +kernel
theorem dX8_sick_23 : decode cX8_sick 23 = .ok (.getfield 37, 3) := by decide +kernel
theorem dX8_sick_26 : decode cX8_sick 26 = .ok (.iload_n 1, 1) := by decide +kernel
theorem dX8_sick_27 : decode cX8_sick 27 = .ok (.aaload, 1) := by decide +kernel
theorem dX8_sick_28 : decode cX8_sick 28 = .ok (.getfield 229, 3) := by decide +kernel
theorem dX8_sick_31 : decode cX8_sick 31 = .ok (.aload_n 0, 1) := by decide +kernel
theorem dX8_sick_32 : decode cX8_sick 32 = .ok (.getfield 51, 3) := by decide +kernel
theorem dX8_sick_35 : decode cX8_sick 35 = .ok (.iaload, 1) := by decide +kernel
theorem dX8_sick_36 : decode cX8_sick 36 = .ok (.iload_n 3, 1) := by decide +kernel
theorem dX8_sick_37 : decode cX8_sick 37 = .ok (.if_icmp .eq 5, 3) := by decide +kernel
theorem dX8_sick_40 : decode cX8_sick 40 = .ok (.iconst 0, 1) := by decide +kernel
theorem dX8_sick_41 : decode cX8_sick 41 = .ok (.ireturn, 1) := by decide +kernel
theorem dX8_sick_42 : decode cX8_sick 42 = .ok (.aload_n 0, 1) := by decide +kernel
theorem dX8_sick_43 : decode cX8_sick 43 = .ok (.iload_n 1, 1) := by decide +kernel
theorem dX8_sick_44 : decode cX8_sick 44 = .ok (.aload_n 0, 1) := by decide +kernel
theorem dX8_sick_45 : decode cX8_sick 45 = .ok (.getfield 51, 3) := by decide +kernel
theorem dX8_sick_48 : decode cX8_sick 48 = .ok (.iload_n 2, 1) := by decide +kernel
theorem dX8_sick_49 : decode cX8_sick 49 = .ok (.ifCond .eq 7, 3) := by decide +kernel
theorem dX8_sick_52 : decode cX8_sick 52 = .ok (.iconst (-1), 1) := by decide +kernel
theorem dX8_sick_53 : decode cX8_sick 53 = .ok (.goto 4, 3) := by decide +kernel
theorem dX8_sick_56 : decode cX8_sick 56 = .ok (.iconst 0, 1) := by decide +kernel
theorem dX8_sick_57 : decode cX8_sick 57 = .ok (.invokevirtual 232, 3) := by decide +kernel
theorem dX8_sick_60 : decode cX8_sick 60 = .ok (.iconst 1, 1) := by decide +kernel
theorem dX8_sick_61 : decode cX8_sick 61 = .ok (.ireturn, 1) := by decide +kernel
set_option maxRecDepth 20000 in
theorem ggX8_book_X8_isOpen : GoodIn wsX8_book wsX8_isOpen := goodIn_r _ [7, 8, 9, 10, 11, 6, 12, 1, 13, 14, 15, 16, 17, 18, 19, 20, 21, 22, 23, 24, 25, 26, 27, 28, 29, 30, 31, 32, 33, 114, 115, 116, 117, 118, 119, 120, 121, 122, 123, 124, 125, 126, 127, 128, 129, 130, 131, 132, 133, 134, 135, 136, 137, 138, 139, 140, 141] (by decide +kernel) (by decide +kernel)
set_option maxRecDepth 20000 in
theorem gX8_book_X8_isOpen : GoodIn wsX8_book (wsV RX8 222 RX8 yX8_isOpen wsX8_isOpen) := goodIn_app (goodIn_of _ (by decide +kernel)) ggX8_book_X8_isOpen
set_option maxRecDepth 20000 in
theorem ggX8_book_X3_leaveLeft : GoodIn wsX8_book wsX3_leaveLeft := goodIn_r _ [38, 39, 40, 41, 26, 27, 28, 29, 30, 42, 43, 44, 37, 45, 46, 47, 48, 49, 50, 51, 52, 53, 54, 55, 56, 57, 58, 59, 60, 61, 62, 63, 64, 65, 66, 67, 68, 22, 69, 24, 70, 121, 122, 123, 124, 125, 126, 127, 133, 134, 135, 136, 137, 138, 139, 140, 141, 128, 129, 130, 131, 132] (by decide +kernel) (by decide +kernel)
set_option maxRecDepth 20000 in
theorem gX8_book_X3_leaveLeft : GoodIn wsX8_book (wsV RX8 121 RX3 yX3_leaveLeft wsX3_leaveLeft) := goodIn_app (goodIn_of _ (by decide +kernel)) ggX8_book_X3_leaveLeft
set_option maxRecDepth 20000 in
theorem ggX8_book_X3_planOn : GoodIn wsX8_book wsX3_planOn := goodIn_r _ [59, 60, 61, 62, 63, 64, 37, 65, 66, 67, 68, 22, 69, 24, 70, 121, 122, 123, 124, 125, 126, 127, 128, 129, 130, 131, 132] (by decide +kernel) (by decide +kernel)
set_option maxRecDepth 20000 in
theorem gX8_book_X3_planOn : GoodIn wsX8_book (wsV RX8 160 RX3 yX3_planOn wsX3_planOn) := goodIn_app (goodIn_of _ (by decide +kernel)) ggX8_book_X3_planOn
set_option maxRecDepth 20000 in
theorem ggX8_book_X8_tell : GoodIn wsX8_book wsX8_tell := goodIn_r _ [75, 76, 8, 1, 2, 77, 78, 79, 80, 81, 82, 83, 84, 85, 86, 87, 88, 89, 90, 91, 92, 93, 94, 95, 96, 97, 98, 99, 100, 101, 102, 103, 104, 28, 105, 106, 107, 108, 109, 110, 111, 112, 113, 30, 114, 115, 116, 117, 118, 119, 120, 121, 122, 123, 124, 125, 126, 127, 142, 143, 144, 145, 146, 147, 148, 149, 150, 133, 134, 135, 136, 137, 138, 139, 140, 141] (by decide +kernel) (by decide +kernel)
set_option maxRecDepth 20000 in
theorem gX8_book_X8_tell : GoodIn wsX8_book (wsV RX8 232 RX8 yX8_tell wsX8_tell) := goodIn_app (goodIn_of _ (by decide +kernel)) ggX8_book_X8_tell
theorem dX8_book_0 : decode cX8_book 0 = .ok (.iload_n 3, 1) := by decide +kernel
theorem dX8_book_1 : decode cX8_book 1 = .ok (.ifCond .eq 7, 3) := by decide +kernel
theorem dX8_book_4 : decode cX8_book 4 = .ok (.iconst 0, 1) := by decide +kernel
theorem dX8_book_5 : decode cX8_book 5 = .ok (.goto 5, 3) := by decide +kernel
theorem dX8_book_8 : decode cX8_book 8 = .ok (.bipush (-2), 2) := by decide +kernel
theorem dX8_book_10 : decode cX8_book 10 = .ok (.istore 4, 2) := by decide +kernel
theorem dX8_book_12 : decode cX8_book 12 = .ok (.aload_n 0, 1) := by decide +kernel
theorem dX8_book_13 : decode cX8_book 13 = .ok (.iload_n 1, 1) := by decide +kernel
theorem dX8_book_14 : decode cX8_book 14 = .ok (.iload_n 2, 1) := by decide +kernel
theorem dX8_book_15 : decode cX8_book 15 = .ok (.invokevirtual 222, 3) := by decide +kernel
theorem dX8_book_18 : decode cX8_book 18 = .ok (.ifCond .eq 19, 3) := by decide +kernel
theorem dX8_book_21 : decode cX8_book 21 = .ok (.aload_n 0, 1) := by decide +kernel
theorem dX8_book_22 : decode cX8_book 22 = .ok (.getfield 37, 3) := by decide +kernel
theorem dX8_book_25 : decode cX8_book 25 = .ok (.iload_n 1, 1) := by decide +kernel
theorem dX8_book_26 : decode cX8_book 26 = .ok (.aaload, 1) := by decide +kernel
theorem dX8_book_27 : decode cX8_book 27 = .ok (.getfield 229, 3) := by decide +kernel
theorem dX8_book_30 : decode cX8_book 30 = .ok (.iload_n 2, 1) := by decide +kernel
theorem dX8_book_31 : decode cX8_book 31 = .ok (.iaload, 1) := by decide +kernel
theorem dX8_book_32 : decode cX8_book 32 = .ok (.iload 4, 2) := by decide +kernel
theorem dX8_book_34 : decode cX8_book 34 = .ok (.if_icmp .eq 5, 3) := by decide +kernel
theorem dX8_book_37 : decode cX8_book 37 = .ok (.iconst (-1), 1) := by decide +kernel
theorem dX8_book_38 : decode cX8_book 38 = .ok (.ireturn, 1) := by decide +kernel
theorem dX8_book_39 : decode cX8_book 39 = .ok (.aload_n 0, 1) := by decide +kernel
theorem dX8_book_40 : decode cX8_book 40 = .ok (.getfield 37, 3) := by decide +kernel
theorem dX8_book_43 : decode cX8_book 43 = .ok (.iload_n 1, 1) := by decide +kernel
theorem dX8_book_44 : decode cX8_book 44 = .ok (.aaload, 1) := by decide +kernel
theorem dX8_book_45 : decode cX8_book 45 = .ok (.astore 5, 2) := by decide +kernel
theorem dX8_book_47 : decode cX8_book 47 = .ok (.iload_n 3, 1) := by decide +kernel
theorem dX8_book_48 : decode cX8_book 48 = .ok (.ifCond .eq 20, 3) := by decide +kernel
theorem dX8_book_51 : decode cX8_book 51 = .ok (.aload 5, 2) := by decide +kernel
theorem dX8_book_53 : decode cX8_book 53 = .ok (.invokevirtual 121, 3) := by decide +kernel
theorem dX8_book_56 : decode cX8_book 56 = .ok (.aload 5, 2) := by decide +kernel
theorem dX8_book_58 : decode cX8_book 58 = .ok (.iload_n 2, 1) := by decide +kernel
theorem dX8_book_59 : decode cX8_book 59 = .ok (.invokevirtual 160, 3) := by decide +kernel
theorem dX8_book_62 : decode cX8_book 62 = .ok (.if_icmp .ge 6, 3) := by decide +kernel
theorem dX8_book_65 : decode cX8_book 65 = .ok (.bipush (-2), 2) := by decide +kernel
theorem dX8_book_67 : decode cX8_book 67 = .ok (.ireturn, 1) := by decide +kernel
theorem dX8_book_68 : decode cX8_book 68 = .ok (.aload_n 0, 1) := by decide +kernel
theorem dX8_book_69 : decode cX8_book 69 = .ok (.iload_n 1, 1) := by decide +kernel
theorem dX8_book_70 : decode cX8_book 70 = .ok (.iload_n 2, 1) := by decide +kernel
theorem dX8_book_71 : decode cX8_book 71 = .ok (.iload_n 3, 1) := by decide +kernel
theorem dX8_book_72 : decode cX8_book 72 = .ok (.ifCond .eq 8, 3) := by decide +kernel
theorem dX8_book_75 : decode cX8_book 75 = .ok (.bipush (-2), 2) := by decide +kernel
theorem dX8_book_77 : decode cX8_book 77 = .ok (.goto 4, 3) := by decide +kernel
theorem dX8_book_80 : decode cX8_book 80 = .ok (.iconst 0, 1) := by decide +kernel
theorem dX8_book_81 : decode cX8_book 81 = .ok (.invokevirtual 232, 3) := by decide +kernel
theorem dX8_book_84 : decode cX8_book 84 = .ok (.aload 5, 2) := by decide +kernel
theorem dX8_book_86 : decode cX8_book 86 = .ok (.invokevirtual 121, 3) := by decide +kernel
theorem dX8_book_89 : decode cX8_book 89 = .ok (.ireturn, 1) := by decide +kernel
set_option maxRecDepth 20000 in
theorem ggX8_endDay_X8_isDay : GoodIn wsX8_endDay wsX8_isDay := goodIn_r _ [9] (by decide +kernel) (by decide +kernel)
set_option maxRecDepth 20000 in
theorem gX8_endDay_X8_isDay : GoodIn wsX8_endDay (va_wsS RX8 157 yX8_isDay wsX8_isDay) := goodIn_app (goodIn_of _ (by decide +kernel)) ggX8_endDay_X8_isDay
set_option maxRecDepth 20000 in
theorem ggX8_endDay_X1_remember : GoodIn wsX8_endDay wsX1_remember := goodIn_r _ [14, 15, 16, 17, 18, 19, 20, 21, 22, 23, 24, 25, 26, 27, 28, 29, 30, 31, 32, 33, 34, 35, 36, 37, 38, 39, 143, 144, 145, 146, 147, 148, 149, 150, 151, 136, 137, 138, 139, 140, 141, 142, 152, 153, 154, 155, 156, 157, 158, 159, 160] (by decide +kernel) (by decide +kernel)
set_option maxRecDepth 20000 in
theorem gX8_endDay_X1_remember : GoodIn wsX8_endDay (wsV RX8 236 RX1 yX1_remember wsX1_remember) := goodIn_app (goodIn_of _ (by decide +kernel)) ggX8_endDay_X1_remember
set_option maxRecDepth 20000 in
theorem ggX8_endDay_X2_workers : GoodIn wsX8_endDay wsX2_workers := goodIn_r _ [44, 45, 161, 162, 163, 164, 165] (by decide +kernel) (by decide +kernel)
set_option maxRecDepth 20000 in
theorem gX8_endDay_X2_workers : GoodIn wsX8_endDay (wsV RX8 78 RX2 yX2_workers wsX2_workers) := goodIn_app (goodIn_of _ (by decide +kernel)) ggX8_endDay_X2_workers
set_option maxRecDepth 20000 in
theorem ggX8_endDay_X0_isGone : GoodIn wsX8_endDay wsX0_isGone := goodIn_r _ [49, 39, 152, 153, 154, 155, 156, 157, 158, 159, 160] (by decide +kernel) (by decide +kernel)
set_option maxRecDepth 20000 in
theorem gX8_endDay_X0_isGone : GoodIn wsX8_endDay (wsV RX8 151 RX0 yX0_isGone wsX0_isGone) := goodIn_app (goodIn_of _ (by decide +kernel)) ggX8_endDay_X0_isGone
set_option maxRecDepth 20000 in
theorem ggX8_endDay_X3_closeDay : GoodIn wsX8_endDay wsX3_closeDay := goodIn_r _ [54, 55, 56, 57, 58, 59, 60, 61, 53, 62, 63, 64, 65, 66, 67, 68, 69, 70, 71, 72, 73, 74, 24, 75, 76, 77, 78, 79, 80, 81, 82, 83, 84, 85, 86, 87, 43, 88, 45, 89, 90, 91, 92, 93, 94, 95, 96, 97, 98, 99, 100, 101, 102, 103, 104, 105, 106, 107, 108, 109, 110, 111, 112, 113, 114, 115, 116, 117, 118, 119, 120, 121, 122, 123, 124, 125, 126, 127, 128, 136, 137, 138, 139, 140, 141, 142, 152, 153, 154, 155, 156, 157, 158, 159, 160, 161, 162, 163, 164, 165] (by decide +kernel) (by decide +kernel)
set_option maxRecDepth 20000 in
theorem gX8_endDay_X3_closeDay : GoodIn wsX8_endDay (wsV RX8 240 RX3 yX3_closeDay wsX3_closeDay) := goodIn_app (goodIn_of _ (by decide +kernel)) ggX8_endDay_X3_closeDay
theorem dX8_endDay_0 : decode cX8_endDay 0 = .ok (.aload_n 0, 1) := by decide +kernel
theorem dX8_endDay_1 : decode cX8_endDay 1 = .ok (.getfield 51, 3) := by decide +kernel
theorem dX8_endDay_4 : decode cX8_endDay 4 = .ok (.invokestatic 157, 3) := by decide +kernel
theorem dX8_endDay_7 : decode cX8_endDay 7 = .ok (.ifCond .ne 5, 3) := by decide +kernel
theorem dX8_endDay_10 : decode cX8_endDay 10 = .ok (.iconst (-1), 1) := by decide +kernel
theorem dX8_endDay_11 : decode cX8_endDay 11 = .ok (.ireturn, 1) := by decide +kernel
theorem dX8_endDay_12 : decode cX8_endDay 12 = .ok (.aload_n 0, 1) := by decide +kernel
theorem dX8_endDay_13 : decode cX8_endDay 13 = .ok (.getfield 47, 3) := by decide +kernel
theorem dX8_endDay_16 : decode cX8_endDay 16 = .ok (.aload_n 0, 1) := by decide +kernel
theorem dX8_endDay_17 : decode cX8_endDay 17 = .ok (.getfield 51, 3) := by decide +kernel
theorem dX8_endDay_20 : decode cX8_endDay 20 = .ok (.aload_n 0, 1) := by decide +kernel
theorem dX8_endDay_21 : decode cX8_endDay 21 = .ok (.getfield 37, 3) := by decide +kernel
theorem dX8_endDay_24 : decode cX8_endDay 24 = .ok (.invokevirtual 236, 3) := by decide +kernel
theorem dX8_endDay_27 : decode cX8_endDay 27 = .ok (.pop, 1) := by decide +kernel
theorem dX8_endDay_28 : decode cX8_endDay 28 = .ok (.iconst 0, 1) := by decide +kernel
theorem dX8_endDay_29 : decode cX8_endDay 29 = .ok (.istore_n 1, 1) := by decide +kernel
theorem dX8_endDay_30 : decode cX8_endDay 30 = .ok (.iconst 0, 1) := by decide +kernel
theorem dX8_endDay_31 : decode cX8_endDay 31 = .ok (.istore_n 2, 1) := by decide +kernel
theorem dX8_endDay_32 : decode cX8_endDay 32 = .ok (.iload_n 2, 1) := by decide +kernel
theorem dX8_endDay_33 : decode cX8_endDay 33 = .ok (.aload_n 0, 1) := by decide +kernel
theorem dX8_endDay_34 : decode cX8_endDay 34 = .ok (.getfield 28, 3) := by decide +kernel
theorem dX8_endDay_37 : decode cX8_endDay 37 = .ok (.invokevirtual 78, 3) := by decide +kernel
theorem dX8_endDay_40 : decode cX8_endDay 40 = .ok (.if_icmp .ge 43, 3) := by decide +kernel
theorem dX8_endDay_43 : decode cX8_endDay 43 = .ok (.aload_n 0, 1) := by decide +kernel
theorem dX8_endDay_44 : decode cX8_endDay 44 = .ok (.getfield 37, 3) := by decide +kernel
theorem dX8_endDay_47 : decode cX8_endDay 47 = .ok (.iload_n 2, 1) := by decide +kernel
theorem dX8_endDay_48 : decode cX8_endDay 48 = .ok (.aaload, 1) := by decide +kernel
theorem dX8_endDay_49 : decode cX8_endDay 49 = .ok (.getfield 112, 3) := by decide +kernel
theorem dX8_endDay_52 : decode cX8_endDay 52 = .ok (.invokevirtual 151, 3) := by decide +kernel
theorem dX8_endDay_55 : decode cX8_endDay 55 = .ok (.ifCond .ne 22, 3) := by decide +kernel
theorem dX8_endDay_58 : decode cX8_endDay 58 = .ok (.aload_n 0, 1) := by decide +kernel
theorem dX8_endDay_59 : decode cX8_endDay 59 = .ok (.getfield 37, 3) := by decide +kernel
theorem dX8_endDay_62 : decode cX8_endDay 62 = .ok (.iload_n 2, 1) := by decide +kernel
theorem dX8_endDay_63 : decode cX8_endDay 63 = .ok (.aaload, 1) := by decide +kernel
theorem dX8_endDay_64 : decode cX8_endDay 64 = .ok (.aload_n 0, 1) := by decide +kernel
theorem dX8_endDay_65 : decode cX8_endDay 65 = .ok (.getfield 51, 3) := by decide +kernel
theorem dX8_endDay_68 : decode cX8_endDay 68 = .ok (.invokevirtual 240, 3) := by decide +kernel
theorem dX8_endDay_71 : decode cX8_endDay 71 = .ok (.ifCond .eq 6, 3) := by decide +kernel
theorem dX8_endDay_74 : decode cX8_endDay 74 = .ok (.iinc 1 1, 3) := by decide +kernel
theorem dX8_endDay_77 : decode cX8_endDay 77 = .ok (.iinc 2 1, 3) := by decide +kernel
theorem dX8_endDay_80 : decode cX8_endDay 80 = .ok (.goto (-48), 3) := by decide +kernel
theorem dX8_endDay_83 : decode cX8_endDay 83 = .ok (.aload_n 0, 1) := by decide +kernel
theorem dX8_endDay_84 : decode cX8_endDay 84 = .ok (.dup, 1) := by decide +kernel
theorem dX8_endDay_85 : decode cX8_endDay 85 = .ok (.getfield 51, 3) := by decide +kernel
theorem dX8_endDay_88 : decode cX8_endDay 88 = .ok (.iconst 1, 1) := by decide +kernel
theorem dX8_endDay_89 : decode cX8_endDay 89 = .ok (.iadd, 1) := by decide +kernel
theorem dX8_endDay_90 : decode cX8_endDay 90 = .ok (.putfield 51, 3) := by decide +kernel
theorem dX8_endDay_93 : decode cX8_endDay 93 = .ok (.iload_n 1, 1) := by decide +kernel
theorem dX8_endDay_94 : decode cX8_endDay 94 = .ok (.ireturn, 1) := by decide +kernel
set_option maxRecDepth 20000 in
theorem ggX8_leave_X8_isPresent : GoodIn wsX8_leave wsX8_isPresent := goodIn_r _ [14, 5, 6, 15, 16, 17, 13, 18, 19, 20, 21, 22, 23, 24, 25, 26, 27, 28, 29, 30, 31, 98, 99, 100, 101, 102, 103, 104, 105, 106, 107, 108, 109, 110, 111, 121, 122, 123, 124, 125, 112, 113, 114, 115, 116, 117, 118, 119, 120] (by decide +kernel) (by decide +kernel)
set_option maxRecDepth 20000 in
theorem gX8_leave_X8_isPresent : GoodIn wsX8_leave (wsV RX8 186 RX8 yX8_isPresent wsX8_isPresent) := goodIn_app (goodIn_of _ (by decide +kernel)) ggX8_leave_X8_isPresent
set_option maxRecDepth 20000 in
theorem ggX8_leave_X1_remember : GoodIn wsX8_leave wsX1_remember := goodIn_r _ [36, 37, 38, 39, 40, 41, 42, 43, 44, 45, 46, 47, 48, 49, 50, 29, 51, 52, 53, 54, 55, 56, 57, 58, 59, 31, 126, 127, 128, 129, 130, 131, 132, 133, 134, 105, 106, 107, 108, 109, 110, 111, 112, 113, 114, 115, 116, 117, 118, 119, 120] (by decide +kernel) (by decide +kernel)
set_option maxRecDepth 20000 in
theorem gX8_leave_X1_remember : GoodIn wsX8_leave (wsV RX8 236 RX1 yX1_remember wsX1_remember) := goodIn_app (goodIn_of _ (by decide +kernel)) ggX8_leave_X1_remember
set_option maxRecDepth 20000 in
theorem ggX8_leave_X3_settlementOn : GoodIn wsX8_leave wsX3_settlementOn := goodIn_r _ [64, 65, 66, 67, 68, 69, 70, 71, 63, 72, 73, 74, 75, 76, 77, 78, 79, 80, 81, 82, 83, 84, 85, 86, 87, 88, 89, 90, 91, 92, 93, 94, 95, 23, 96, 25, 97, 105, 106, 107, 108, 109, 110, 111, 112, 113, 114, 115, 116, 117, 118, 119, 120, 121, 122, 123, 124, 125] (by decide +kernel) (by decide +kernel)
set_option maxRecDepth 20000 in
theorem gX8_leave_X3_settlementOn : GoodIn wsX8_leave (wsV RX8 211 RX3 yX3_settlementOn wsX3_settlementOn) := goodIn_app (goodIn_of _ (by decide +kernel)) ggX8_leave_X3_settlementOn
theorem dX8_leave_0 : decode cX8_leave 0 = .ok (.aload_n 0, 1) := by decide +kernel
theorem dX8_leave_1 : decode cX8_leave 1 = .ok (.iload_n 1, 1) := by decide +kernel
theorem dX8_leave_2 : decode cX8_leave 2 = .ok (.invokevirtual 186, 3) := by decide +kernel
theorem dX8_leave_5 : decode cX8_leave 5 = .ok (.ifCond .ne 13, 3) := by decide +kernel
theorem dX8_leave_8 : decode cX8_leave 8 = .ok (.new 105, 3) := by decide +kernel
theorem dX8_leave_11 : decode cX8_leave 11 = .ok (.dup, 1) := by decide +kernel
theorem dX8_leave_12 : decode cX8_leave 12 = .ok (.ldc 107, 2) := by decide +kernel
theorem dX8_leave_14 : decode cX8_leave 14 = .ok (.invokespecial 109, 3) := by decide +kernel
theorem dX8_leave_17 : decode cX8_leave 17 = .ok (.athrow, 1) := by decide +kernel
theorem dX8_leave_18 : decode cX8_leave 18 = .ok (.aload_n 0, 1) := by decide +kernel
theorem dX8_leave_19 : decode cX8_leave 19 = .ok (.getfield 47, 3) := by decide +kernel
theorem dX8_leave_22 : decode cX8_leave 22 = .ok (.aload_n 0, 1) := by decide +kernel
theorem dX8_leave_23 : decode cX8_leave 23 = .ok (.getfield 51, 3) := by decide +kernel
theorem dX8_leave_26 : decode cX8_leave 26 = .ok (.aload_n 0, 1) := by decide +kernel
theorem dX8_leave_27 : decode cX8_leave 27 = .ok (.getfield 37, 3) := by decide +kernel
theorem dX8_leave_30 : decode cX8_leave 30 = .ok (.invokevirtual 236, 3) := by decide +kernel
theorem dX8_leave_33 : decode cX8_leave 33 = .ok (.pop, 1) := by decide +kernel
theorem dX8_leave_34 : decode cX8_leave 34 = .ok (.aload_n 0, 1) := by decide +kernel
theorem dX8_leave_35 : decode cX8_leave 35 = .ok (.getfield 37, 3) := by decide +kernel
theorem dX8_leave_38 : decode cX8_leave 38 = .ok (.iload_n 1, 1) := by decide +kernel
theorem dX8_leave_39 : decode cX8_leave 39 = .ok (.aaload, 1) := by decide +kernel
theorem dX8_leave_40 : decode cX8_leave 40 = .ok (.getfield 112, 3) := by decide +kernel
theorem dX8_leave_43 : decode cX8_leave 43 = .ok (.astore_n 2, 1) := by decide +kernel
theorem dX8_leave_44 : decode cX8_leave 44 = .ok (.aload_n 2, 1) := by decide +kernel
theorem dX8_leave_45 : decode cX8_leave 45 = .ok (.aload_n 0, 1) := by decide +kernel
theorem dX8_leave_46 : decode cX8_leave 46 = .ok (.getfield 37, 3) := by decide +kernel
theorem dX8_leave_49 : decode cX8_leave 49 = .ok (.iload_n 1, 1) := by decide +kernel
theorem dX8_leave_50 : decode cX8_leave 50 = .ok (.aaload, 1) := by decide +kernel
theorem dX8_leave_51 : decode cX8_leave 51 = .ok (.aload_n 0, 1) := by decide +kernel
theorem dX8_leave_52 : decode cX8_leave 52 = .ok (.getfield 51, 3) := by decide +kernel
theorem dX8_leave_55 : decode cX8_leave 55 = .ok (.invokevirtual 211, 3) := by decide +kernel
theorem dX8_leave_58 : decode cX8_leave 58 = .ok (.putfield 139, 3) := by decide +kernel
theorem dX8_leave_61 : decode cX8_leave 61 = .ok (.aload_n 2, 1) := by decide +kernel
theorem dX8_leave_62 : decode cX8_leave 62 = .ok (.iconst 0, 1) := by decide +kernel
theorem dX8_leave_63 : decode cX8_leave 63 = .ok (.putfield 116, 3) := by decide +kernel
theorem dX8_leave_66 : decode cX8_leave 66 = .ok (.aload_n 2, 1) := by decide +kernel
theorem dX8_leave_67 : decode cX8_leave 67 = .ok (.aload_n 0, 1) := by decide +kernel
theorem dX8_leave_68 : decode cX8_leave 68 = .ok (.getfield 51, 3) := by decide +kernel
theorem dX8_leave_71 : decode cX8_leave 71 = .ok (.putfield 243, 3) := by decide +kernel
theorem dX8_leave_74 : decode cX8_leave 74 = .ok (.aload_n 2, 1) := by decide +kernel
theorem dX8_leave_75 : decode cX8_leave 75 = .ok (.getfield 139, 3) := by decide +kernel
theorem dX8_leave_78 : decode cX8_leave 78 = .ok (.ireturn, 1) := by decide +kernel
set_option maxRecDepth 20000 in
theorem ggX8_undo_X1_takeBack : GoodIn wsX8_undo wsX1_takeBack := goodIn_r _ [9, 10, 11, 12, 13, 14, 15, 16, 17, 18, 19, 20, 21, 22, 23, 24, 25, 26, 27, 28, 29, 30, 31, 32, 33, 34, 35, 36, 37, 38, 39, 47, 48, 49, 50, 51, 52, 53, 54, 55, 56, 57, 58, 59, 60, 61, 62, 63, 64, 65, 66, 67, 68, 69, 70, 71] (by decide +kernel) (by decide +kernel)
set_option maxRecDepth 20000 in
theorem gX8_undo_X1_takeBack : GoodIn wsX8_undo (wsV RX8 246 RX1 yX1_takeBack wsX1_takeBack) := goodIn_app (goodIn_of _ (by decide +kernel)) ggX8_undo_X1_takeBack
theorem dX8_undo_0 : decode cX8_undo 0 = .ok (.aload_n 0, 1) := by decide +kernel
theorem dX8_undo_1 : decode cX8_undo 1 = .ok (.getfield 47, 3) := by decide +kernel
theorem dX8_undo_4 : decode cX8_undo 4 = .ok (.getfield 72, 3) := by decide +kernel
theorem dX8_undo_7 : decode cX8_undo 7 = .ok (.ifCond .ne 5, 3) := by decide +kernel
theorem dX8_undo_10 : decode cX8_undo 10 = .ok (.iconst (-1), 1) := by decide +kernel
theorem dX8_undo_11 : decode cX8_undo 11 = .ok (.ireturn, 1) := by decide +kernel
theorem dX8_undo_12 : decode cX8_undo 12 = .ok (.aload_n 0, 1) := by decide +kernel
theorem dX8_undo_13 : decode cX8_undo 13 = .ok (.aload_n 0, 1) := by decide +kernel
theorem dX8_undo_14 : decode cX8_undo 14 = .ok (.getfield 47, 3) := by decide +kernel
theorem dX8_undo_17 : decode cX8_undo 17 = .ok (.aload_n 0, 1) := by decide +kernel
theorem dX8_undo_18 : decode cX8_undo 18 = .ok (.getfield 37, 3) := by decide +kernel
theorem dX8_undo_21 : decode cX8_undo 21 = .ok (.invokevirtual 246, 3) := by decide +kernel
theorem dX8_undo_24 : decode cX8_undo 24 = .ok (.putfield 51, 3) := by decide +kernel
theorem dX8_undo_27 : decode cX8_undo 27 = .ok (.aload_n 0, 1) := by decide +kernel
theorem dX8_undo_28 : decode cX8_undo 28 = .ok (.getfield 47, 3) := by decide +kernel
theorem dX8_undo_31 : decode cX8_undo 31 = .ok (.getfield 72, 3) := by decide +kernel
theorem dX8_undo_34 : decode cX8_undo 34 = .ok (.ireturn, 1) := by decide +kernel
set_option maxRecDepth 20000 in
theorem ggX8_tell_X1_rememberDay : GoodIn wsX8_tell wsX1_rememberDay := goodIn_r _ [9, 10, 11, 12, 13, 14, 15, 16, 17, 18, 8, 19, 20, 21, 22, 23, 24, 25, 26, 27, 28, 29, 30, 31, 32, 33, 34, 35, 36, 37, 38, 39, 40, 41, 42, 43, 58, 59, 60, 61, 62, 63, 51, 52, 53, 54, 55, 56, 57, 64, 65, 66, 67, 68, 69, 70, 71, 72, 73, 74, 75] (by decide +kernel) (by decide +kernel)
set_option maxRecDepth 20000 in
theorem gX8_tell_X1_rememberDay : GoodIn wsX8_tell (wsV RX8 214 RX1 yX1_rememberDay wsX1_rememberDay) := goodIn_app (goodIn_of _ (by decide +kernel)) ggX8_tell_X1_rememberDay
theorem dX8_tell_0 : decode cX8_tell 0 = .ok (.aload_n 0, 1) := by decide +kernel
theorem dX8_tell_1 : decode cX8_tell 1 = .ok (.getfield 47, 3) := by decide +kernel
theorem dX8_tell_4 : decode cX8_tell 4 = .ok (.aload_n 0, 1) := by decide +kernel
theorem dX8_tell_5 : decode cX8_tell 5 = .ok (.getfield 51, 3) := by decide +kernel
theorem dX8_tell_8 : decode cX8_tell 8 = .ok (.aload_n 0, 1) := by decide +kernel
theorem dX8_tell_9 : decode cX8_tell 9 = .ok (.getfield 37, 3) := by decide +kernel
theorem dX8_tell_12 : decode cX8_tell 12 = .ok (.iload_n 1, 1) := by decide +kernel
theorem dX8_tell_13 : decode cX8_tell 13 = .ok (.iload_n 2, 1) := by decide +kernel
theorem dX8_tell_14 : decode cX8_tell 14 = .ok (.invokevirtual 214, 3) := by decide +kernel
theorem dX8_tell_17 : decode cX8_tell 17 = .ok (.aload_n 0, 1) := by decide +kernel
theorem dX8_tell_18 : decode cX8_tell 18 = .ok (.getfield 37, 3) := by decide +kernel
theorem dX8_tell_21 : decode cX8_tell 21 = .ok (.iload_n 1, 1) := by decide +kernel
theorem dX8_tell_22 : decode cX8_tell 22 = .ok (.aaload, 1) := by decide +kernel
theorem dX8_tell_23 : decode cX8_tell 23 = .ok (.getfield 229, 3) := by decide +kernel
theorem dX8_tell_26 : decode cX8_tell 26 = .ok (.iload_n 2, 1) := by decide +kernel
theorem dX8_tell_27 : decode cX8_tell 27 = .ok (.iload_n 3, 1) := by decide +kernel
theorem dX8_tell_28 : decode cX8_tell 28 = .ok (.iastore, 1) := by decide +kernel
theorem dX8_tell_29 : decode cX8_tell 29 = .ok (.return_, 1) := by decide +kernel
theorem dX8_isDay_0 : decode cX8_isDay 0 = .ok (.iload_n 0, 1) := by decide +kernel
theorem dX8_isDay_1 : decode cX8_isDay 1 = .ok (.ifCond .lt 14, 3) := by decide +kernel
theorem dX8_isDay_4 : decode cX8_isDay 4 = .ok (.iload_n 0, 1) := by decide +kernel
theorem dX8_isDay_5 : decode cX8_isDay 5 = .ok (.sipush 364, 3) := by decide +kernel
theorem dX8_isDay_8 : decode cX8_isDay 8 = .ok (.if_icmp .ge 7, 3) := by decide +kernel
theorem dX8_isDay_11 : decode cX8_isDay 11 = .ok (.iconst 1, 1) := by decide +kernel
theorem dX8_isDay_12 : decode cX8_isDay 12 = .ok (.goto 4, 3) := by decide +kernel
theorem dX8_isDay_15 : decode cX8_isDay 15 = .ok (.iconst 0, 1) := by decide +kernel
theorem dX8_isDay_16 : decode cX8_isDay 16 = .ok (.ireturn, 1) := by decide +kernel
theorem dX8_isQuarters_0 : decode cX8_isQuarters 0 = .ok (.iload_n 0, 1) := by decide +kernel
theorem dX8_isQuarters_1 : decode cX8_isQuarters 1 = .ok (.ifCond .lt 13, 3) := by decide +kernel
theorem dX8_isQuarters_4 : decode cX8_isQuarters 4 = .ok (.iload_n 0, 1) := by decide +kernel
theorem dX8_isQuarters_5 : decode cX8_isQuarters 5 = .ok (.bipush 96, 2) := by decide +kernel
theorem dX8_isQuarters_7 : decode cX8_isQuarters 7 = .ok (.if_icmp .gt 7, 3) := by decide +kernel
theorem dX8_isQuarters_10 : decode cX8_isQuarters 10 = .ok (.iconst 1, 1) := by decide +kernel
theorem dX8_isQuarters_11 : decode cX8_isQuarters 11 = .ok (.goto 4, 3) := by decide +kernel
theorem dX8_isQuarters_14 : decode cX8_isQuarters 14 = .ok (.iconst 0, 1) := by decide +kernel
theorem dX8_isQuarters_15 : decode cX8_isQuarters 15 = .ok (.ireturn, 1) := by decide +kernel
set_option maxRecDepth 20000 in
theorem ggX8_isWorker_X2_workers : GoodIn wsX8_isWorker wsX2_workers := goodIn_r _ [6, 7, 15, 16, 17, 18, 19] (by decide +kernel) (by decide +kernel)
set_option maxRecDepth 20000 in
theorem gX8_isWorker_X2_workers : GoodIn wsX8_isWorker (wsV RX8 78 RX2 yX2_workers wsX2_workers) := goodIn_app (goodIn_of _ (by decide +kernel)) ggX8_isWorker_X2_workers
theorem dX8_isWorker_0 : decode cX8_isWorker 0 = .ok (.iload_n 1, 1) := by decide +kernel
theorem dX8_isWorker_1 : decode cX8_isWorker 1 = .ok (.ifCond .lt 18, 3) := by decide +kernel
theorem dX8_isWorker_4 : decode cX8_isWorker 4 = .ok (.iload_n 1, 1) := by decide +kernel
theorem dX8_isWorker_5 : decode cX8_isWorker 5 = .ok (.aload_n 0, 1) := by decide +kernel
theorem dX8_isWorker_6 : decode cX8_isWorker 6 = .ok (.getfield 28, 3) := by decide +kernel
theorem dX8_isWorker_9 : decode cX8_isWorker 9 = .ok (.invokevirtual 78, 3) := by decide +kernel
theorem dX8_isWorker_12 : decode cX8_isWorker 12 = .ok (.if_icmp .ge 7, 3) := by decide +kernel
theorem dX8_isWorker_15 : decode cX8_isWorker 15 = .ok (.iconst 1, 1) := by decide +kernel
theorem dX8_isWorker_16 : decode cX8_isWorker 16 = .ok (.goto 4, 3) := by decide +kernel
theorem dX8_isWorker_19 : decode cX8_isWorker 19 = .ok (.iconst 0, 1) := by decide +kernel
theorem dX8_isWorker_20 : decode cX8_isWorker 20 = .ok (.ireturn, 1) := by decide +kernel
set_option maxRecDepth 20000 in
theorem ggX8_isPresent_X8_isWorker : GoodIn wsX8_isPresent wsX8_isWorker := goodIn_r _ [7, 8, 9, 10, 11, 12, 13, 14, 21, 22, 23, 24, 25, 26, 27, 35, 36, 37, 38, 39] (by decide +kernel) (by decide +kernel)
set_option maxRecDepth 20000 in
theorem gX8_isPresent_X8_isWorker : GoodIn wsX8_isPresent (wsV RX8 101 RX8 yX8_isWorker wsX8_isWorker) := goodIn_app (goodIn_of _ (by decide +kernel)) ggX8_isPresent_X8_isWorker
set_option maxRecDepth 20000 in
theorem ggX8_isPresent_X0_isGone : GoodIn wsX8_isPresent wsX0_isGone := goodIn_r _ [19, 20, 40, 41, 42, 43, 44, 45, 46, 47, 48] (by decide +kernel) (by decide +kernel)
set_option maxRecDepth 20000 in
theorem gX8_isPresent_X0_isGone : GoodIn wsX8_isPresent (wsV RX8 151 RX0 yX0_isGone wsX0_isGone) := goodIn_app (goodIn_of _ (by decide +kernel)) ggX8_isPresent_X0_isGone
theorem dX8_isPresent_0 : decode cX8_isPresent 0 = .ok (.aload_n 0, 1) := by decide +kernel
theorem dX8_isPresent_1 : decode cX8_isPresent 1 = .ok (.iload_n 1, 1) := by decide +kernel
theorem dX8_isPresent_2 : decode cX8_isPresent 2 = .ok (.invokevirtual 101, 3) := by decide +kernel
theorem dX8_isPresent_5 : decode cX8_isPresent 5 = .ok (.ifCond .eq 22, 3) := by decide +kernel
theorem dX8_isPresent_8 : decode cX8_isPresent 8 = .ok (.aload_n 0, 1) := by decide +kernel
theorem dX8_isPresent_9 : decode cX8_isPresent 9 = .ok (.getfield 37, 3) := by decide +kernel
theorem dX8_isPresent_12 : decode cX8_isPresent 12 = .ok (.iload_n 1, 1) := by decide +kernel
theorem dX8_isPresent_13 : decode cX8_isPresent 13 = .ok (.aaload, 1) := by decide +kernel
theorem dX8_isPresent_14 : decode cX8_isPresent 14 = .ok (.getfield 112, 3) := by decide +kernel
theorem dX8_isPresent_17 : decode cX8_isPresent 17 = .ok (.invokevirtual 151, 3) := by decide +kernel
theorem dX8_isPresent_20 : decode cX8_isPresent 20 = .ok (.ifCond .ne 7, 3) := by decide +kernel
theorem dX8_isPresent_23 : decode cX8_isPresent 23 = .ok (.iconst 1, 1) := by decide +kernel
theorem dX8_isPresent_24 : decode cX8_isPresent 24 = .ok (.goto 4, 3) := by decide +kernel
theorem dX8_isPresent_27 : decode cX8_isPresent 27 = .ok (.iconst 0, 1) := by decide +kernel
theorem dX8_isPresent_28 : decode cX8_isPresent 28 = .ok (.ireturn, 1) := by decide +kernel
set_option maxRecDepth 20000 in
theorem ggX8_isOpen_X8_isPresent : GoodIn wsX8_isOpen wsX8_isPresent := goodIn_r _ [6, 7, 8, 9, 10, 11, 5, 12, 13, 14, 15, 16, 17, 18, 19, 20, 21, 22, 23, 24, 25, 29, 30, 31, 32, 33, 34, 35, 36, 37, 38, 39, 40, 41, 42, 43, 44, 45, 46, 47, 48, 49, 50, 51, 52, 53, 54, 55, 56] (by decide +kernel) (by decide +kernel)
set_option maxRecDepth 20000 in
theorem gX8_isOpen_X8_isPresent : GoodIn wsX8_isOpen (wsV RX8 186 RX8 yX8_isPresent wsX8_isPresent) := goodIn_app (goodIn_of _ (by decide +kernel)) ggX8_isOpen_X8_isPresent
set_option maxRecDepth 20000 in
theorem ggX8_isOpen_X8_isDay : GoodIn wsX8_isOpen wsX8_isDay := goodIn_r _ [28] (by decide +kernel) (by decide +kernel)
set_option maxRecDepth 20000 in
theorem gX8_isOpen_X8_isDay : GoodIn wsX8_isOpen (va_wsS RX8 157 yX8_isDay wsX8_isDay) := goodIn_app (goodIn_of _ (by decide +kernel)) ggX8_isOpen_X8_isDay
theorem dX8_isOpen_0 : decode cX8_isOpen 0 = .ok (.aload_n 0, 1) := by decide +kernel
theorem dX8_isOpen_1 : decode cX8_isOpen 1 = .ok (.iload_n 1, 1) := by decide +kernel
theorem dX8_isOpen_2 : decode cX8_isOpen 2 = .ok (.invokevirtual 186, 3) := by decide +kernel
theorem dX8_isOpen_5 : decode cX8_isOpen 5 = .ok (.ifCond .eq 22, 3) := by decide +kernel
theorem dX8_isOpen_8 : decode cX8_isOpen 8 = .ok (.iload_n 2, 1) := by decide +kernel
theorem dX8_isOpen_9 : decode cX8_isOpen 9 = .ok (.invokestatic 157, 3) := by decide +kernel
theorem dX8_isOpen_12 : decode cX8_isOpen 12 = .ok (.ifCond .eq 15, 3) := by decide +kernel
theorem dX8_isOpen_15 : decode cX8_isOpen 15 = .ok (.iload_n 2, 1) := by decide +kernel
theorem dX8_isOpen_16 : decode cX8_isOpen 16 = .ok (.aload_n 0, 1) := by decide +kernel
theorem dX8_isOpen_17 : decode cX8_isOpen 17 = .ok (.getfield 51, 3) := by decide +kernel
theorem dX8_isOpen_20 : decode cX8_isOpen 20 = .ok (.if_icmp .lt 7, 3) := by decide +kernel
theorem dX8_isOpen_23 : decode cX8_isOpen 23 = .ok (.iconst 1, 1) := by decide +kernel
theorem dX8_isOpen_24 : decode cX8_isOpen 24 = .ok (.goto 4, 3) := by decide +kernel
theorem dX8_isOpen_27 : decode cX8_isOpen 27 = .ok (.iconst 0, 1) := by decide +kernel
theorem dX8_isOpen_28 : decode cX8_isOpen 28 = .ok (.ireturn, 1) := by decide +kernel
set_option maxRecDepth 20000 in
theorem ggX8_canChange_X8_isOpen : GoodIn wsX8_canChange wsX8_isOpen := goodIn_r _ [6, 7, 8, 9, 10, 5, 11, 1, 12, 13, 14, 15, 16, 17, 18, 19, 20, 21, 22, 23, 24, 25, 26, 27, 28, 29, 30, 31, 32, 48, 49, 50, 51, 52, 53, 54, 55, 56, 57, 58, 59, 60, 61, 62, 63, 64, 65, 66, 67, 68, 69, 70, 71, 72, 73, 74, 75] (by decide +kernel) (by decide +kernel)
set_option maxRecDepth 20000 in
theorem gX8_canChange_X8_isOpen : GoodIn wsX8_canChange (wsV RX8 222 RX8 yX8_isOpen wsX8_isOpen) := goodIn_app (goodIn_of _ (by decide +kernel)) ggX8_canChange_X8_isOpen
set_option maxRecDepth 20000 in
theorem ggX8_canChange_X8_isQuarters : GoodIn wsX8_canChange wsX8_isQuarters := goodIn_r _ [35] (by decide +kernel) (by decide +kernel)
set_option maxRecDepth 20000 in
theorem gX8_canChange_X8_isQuarters : GoodIn wsX8_canChange (va_wsS RX8 226 yX8_isQuarters wsX8_isQuarters) := goodIn_app (goodIn_of _ (by decide +kernel)) ggX8_canChange_X8_isQuarters
set_option maxRecDepth 20000 in
theorem ggX8_canChange_X3_kindOn : GoodIn wsX8_canChange wsX3_kindOn := goodIn_r _ [40, 41, 42, 43, 44, 39, 45, 46, 47, 55, 56, 57, 58, 59, 60, 61, 67, 68, 69, 70, 71, 72, 73, 74, 75] (by decide +kernel) (by decide +kernel)
set_option maxRecDepth 20000 in
theorem gX8_canChange_X3_kindOn : GoodIn wsX8_canChange (wsV RX8 166 RX3 yX3_kindOn wsX3_kindOn) := goodIn_app (goodIn_of _ (by decide +kernel)) ggX8_canChange_X3_kindOn
theorem dX8_canChange_0 : decode cX8_canChange 0 = .ok (.aload_n 0, 1) := by decide +kernel
theorem dX8_canChange_1 : decode cX8_canChange 1 = .ok (.iload_n 1, 1) := by decide +kernel
theorem dX8_canChange_2 : decode cX8_canChange 2 = .ok (.iload_n 2, 1) := by decide +kernel
theorem dX8_canChange_3 : decode cX8_canChange 3 = .ok (.invokevirtual 222, 3) := by decide +kernel
theorem dX8_canChange_6 : decode cX8_canChange 6 = .ok (.ifCond .eq 28, 3) := by decide +kernel
theorem dX8_canChange_9 : decode cX8_canChange 9 = .ok (.iload_n 3, 1) := by decide +kernel
theorem dX8_canChange_10 : decode cX8_canChange 10 = .ok (.invokestatic 226, 3) := by decide +kernel
theorem dX8_canChange_13 : decode cX8_canChange 13 = .ok (.ifCond .eq 21, 3) := by decide +kernel
theorem dX8_canChange_16 : decode cX8_canChange 16 = .ok (.aload_n 0, 1) := by decide +kernel
theorem dX8_canChange_17 : decode cX8_canChange 17 = .ok (.getfield 37, 3) := by decide +kernel
theorem dX8_canChange_20 : decode cX8_canChange 20 = .ok (.iload_n 1, 1) := by decide +kernel
theorem dX8_canChange_21 : decode cX8_canChange 21 = .ok (.aaload, 1) := by decide +kernel
theorem dX8_canChange_22 : decode cX8_canChange 22 = .ok (.iload_n 2, 1) := by decide +kernel
theorem dX8_canChange_23 : decode cX8_canChange 23 = .ok (.invokevirtual 166, 3) := by decide +kernel
theorem dX8_canChange_26 : decode cX8_canChange 26 = .ok (.iconst 2, 1) := by decide +kernel
theorem dX8_canChange_27 : decode cX8_canChange 27 = .ok (.if_icmp .eq 7, 3) := by decide +kernel
theorem dX8_canChange_30 : decode cX8_canChange 30 = .ok (.iconst 1, 1) := by decide +kernel
theorem dX8_canChange_31 : decode cX8_canChange 31 = .ok (.goto 4, 3) := by decide +kernel
theorem dX8_canChange_34 : decode cX8_canChange 34 = .ok (.iconst 0, 1) := by decide +kernel
theorem dX8_canChange_35 : decode cX8_canChange 35 = .ok (.ireturn, 1) := by decide +kernel
set_option maxRecDepth 20000 in
theorem ggX8_priceOf_X3_planOn : GoodIn wsX8_priceOf wsX3_planOn := goodIn_r _ [13, 14, 15, 16, 17, 18, 12, 19, 20, 21, 22, 23, 24, 25, 26, 42, 43, 44, 45, 46, 47, 48, 49, 50, 51, 52, 53] (by decide +kernel) (by decide +kernel)
set_option maxRecDepth 20000 in
theorem gX8_priceOf_X3_planOn : GoodIn wsX8_priceOf (wsV RX8 160 RX3 yX3_planOn wsX3_planOn) := goodIn_app (goodIn_of _ (by decide +kernel)) ggX8_priceOf_X3_planOn
set_option maxRecDepth 20000 in
theorem ggX8_priceOf_X2_percentFor : GoodIn wsX8_priceOf wsX2_percentFor := goodIn_r _ [30, 25, 31, 32, 33, 4, 34, 49, 50, 51, 52, 53] (by decide +kernel) (by decide +kernel)
set_option maxRecDepth 20000 in
theorem gX8_priceOf_X2_percentFor : GoodIn wsX8_priceOf (wsV RX8 253 RX2 yX2_percentFor wsX2_percentFor) := goodIn_app (goodIn_of _ (by decide +kernel)) ggX8_priceOf_X2_percentFor
theorem dX8_priceOf_0 : decode cX8_priceOf 0 = .ok (.iload_n 3, 1) := by decide +kernel
theorem dX8_priceOf_1 : decode cX8_priceOf 1 = .ok (.aload_n 0, 1) := by decide +kernel
theorem dX8_priceOf_2 : decode cX8_priceOf 2 = .ok (.getfield 37, 3) := by decide +kernel
theorem dX8_priceOf_5 : decode cX8_priceOf 5 = .ok (.iload_n 1, 1) := by decide +kernel
theorem dX8_priceOf_6 : decode cX8_priceOf 6 = .ok (.aaload, 1) := by decide +kernel
theorem dX8_priceOf_7 : decode cX8_priceOf 7 = .ok (.iload_n 2, 1) := by decide +kernel
theorem dX8_priceOf_8 : decode cX8_priceOf 8 = .ok (.invokevirtual 160, 3) := by decide +kernel
theorem dX8_priceOf_11 : decode cX8_priceOf 11 = .ok (.isub, 1) := by decide +kernel
theorem dX8_priceOf_12 : decode cX8_priceOf 12 = .ok (.invokestatic 250, 3) := by decide +kernel
theorem dX8_priceOf_15 : decode cX8_priceOf 15 = .ok (.istore 4, 2) := by decide +kernel
theorem dX8_priceOf_17 : decode cX8_priceOf 17 = .ok (.aload_n 0, 1) := by decide +kernel
theorem dX8_priceOf_18 : decode cX8_priceOf 18 = .ok (.getfield 28, 3) := by decide +kernel
theorem dX8_priceOf_21 : decode cX8_priceOf 21 = .ok (.iload_n 2, 1) := by decide +kernel
theorem dX8_priceOf_22 : decode cX8_priceOf 22 = .ok (.aload_n 0, 1) := by decide +kernel
theorem dX8_priceOf_23 : decode cX8_priceOf 23 = .ok (.getfield 51, 3) := by decide +kernel
theorem dX8_priceOf_26 : decode cX8_priceOf 26 = .ok (.isub, 1) := by decide +kernel
theorem dX8_priceOf_27 : decode cX8_priceOf 27 = .ok (.invokevirtual 253, 3) := by decide +kernel
theorem dX8_priceOf_30 : decode cX8_priceOf 30 = .ok (.aload_n 0, 1) := by decide +kernel
theorem dX8_priceOf_31 : decode cX8_priceOf 31 = .ok (.getfield 37, 3) := by decide +kernel
theorem dX8_priceOf_34 : decode cX8_priceOf 34 = .ok (.iload_n 1, 1) := by decide +kernel
theorem dX8_priceOf_35 : decode cX8_priceOf 35 = .ok (.aaload, 1) := by decide +kernel
theorem dX8_priceOf_36 : decode cX8_priceOf 36 = .ok (.getfield 256, 3) := by decide +kernel
theorem dX8_priceOf_39 : decode cX8_priceOf 39 = .ok (.imul, 1) := by decide +kernel
theorem dX8_priceOf_40 : decode cX8_priceOf 40 = .ok (.iload 4, 2) := by decide +kernel
theorem dX8_priceOf_42 : decode cX8_priceOf 42 = .ok (.imul, 1) := by decide +kernel
theorem dX8_priceOf_43 : decode cX8_priceOf 43 = .ok (.bipush 100, 2) := by decide +kernel
theorem dX8_priceOf_45 : decode cX8_priceOf 45 = .ok (.idiv, 1) := by decide +kernel
theorem dX8_priceOf_46 : decode cX8_priceOf 46 = .ok (.ireturn, 1) := by decide +kernel
set_option maxRecDepth 20000 in
theorem ggX8_presentWorkers_X2_workers : GoodIn wsX8_presentWorkers wsX2_workers := goodIn_r _ [8, 9, 30, 31, 32, 33, 34] (by decide +kernel) (by decide +kernel)
set_option maxRecDepth 20000 in
theorem gX8_presentWorkers_X2_workers : GoodIn wsX8_presentWorkers (wsV RX8 78 RX2 yX2_workers wsX2_workers) := goodIn_app (goodIn_of _ (by decide +kernel)) ggX8_presentWorkers_X2_workers
set_option maxRecDepth 20000 in
theorem ggX8_presentWorkers_X0_isGone : GoodIn wsX8_presentWorkers wsX0_isGone := goodIn_r _ [14, 15, 35, 36, 37, 38, 39, 40, 41, 42, 43] (by decide +kernel) (by decide +kernel)
set_option maxRecDepth 20000 in
theorem gX8_presentWorkers_X0_isGone : GoodIn wsX8_presentWorkers (wsV RX8 151 RX0 yX0_isGone wsX0_isGone) := goodIn_app (goodIn_of _ (by decide +kernel)) ggX8_presentWorkers_X0_isGone
theorem dX8_presentWorkers_0 : decode cX8_presentWorkers 0 = .ok (.iconst 0, 1) := by decide +kernel
theorem dX8_presentWorkers_1 : decode cX8_presentWorkers 1 = .ok (.istore_n 1, 1) := by decide +kernel
theorem dX8_presentWorkers_2 : decode cX8_presentWorkers 2 = .ok (.iconst 0, 1) := by decide +kernel
theorem dX8_presentWorkers_3 : decode cX8_presentWorkers 3 = .ok (.istore_n 2, 1) := by decide +kernel
theorem dX8_presentWorkers_4 : decode cX8_presentWorkers 4 = .ok (.iload_n 2, 1) := by decide +kernel
theorem dX8_presentWorkers_5 : decode cX8_presentWorkers 5 = .ok (.aload_n 0, 1) := by decide +kernel
theorem dX8_presentWorkers_6 : decode cX8_presentWorkers 6 = .ok (.getfield 28, 3) := by decide +kernel
theorem dX8_presentWorkers_9 : decode cX8_presentWorkers 9 = .ok (.invokevirtual 78, 3) := by decide +kernel
theorem dX8_presentWorkers_12 : decode cX8_presentWorkers 12 = .ok (.if_icmp .ge 32, 3) := by decide +kernel
theorem dX8_presentWorkers_15 : decode cX8_presentWorkers 15 = .ok (.iload_n 1, 1) := by decide +kernel
theorem dX8_presentWorkers_16 : decode cX8_presentWorkers 16 = .ok (.aload_n 0, 1) := by decide +kernel
theorem dX8_presentWorkers_17 : decode cX8_presentWorkers 17 = .ok (.getfield 37, 3) := by decide +kernel
theorem dX8_presentWorkers_20 : decode cX8_presentWorkers 20 = .ok (.iload_n 2, 1) := by decide +kernel
theorem dX8_presentWorkers_21 : decode cX8_presentWorkers 21 = .ok (.aaload, 1) := by decide +kernel
theorem dX8_presentWorkers_22 : decode cX8_presentWorkers 22 = .ok (.getfield 112, 3) := by decide +kernel
theorem dX8_presentWorkers_25 : decode cX8_presentWorkers 25 = .ok (.invokevirtual 151, 3) := by decide +kernel
theorem dX8_presentWorkers_28 : decode cX8_presentWorkers 28 = .ok (.ifCond .eq 7, 3) := by decide +kernel
theorem dX8_presentWorkers_31 : decode cX8_presentWorkers 31 = .ok (.iconst 0, 1) := by decide +kernel
theorem dX8_presentWorkers_32 : decode cX8_presentWorkers 32 = .ok (.goto 4, 3) := by decide +kernel
theorem dX8_presentWorkers_35 : decode cX8_presentWorkers 35 = .ok (.iconst 1, 1) := by decide +kernel
theorem dX8_presentWorkers_36 : decode cX8_presentWorkers 36 = .ok (.iadd, 1) := by decide +kernel
theorem dX8_presentWorkers_37 : decode cX8_presentWorkers 37 = .ok (.istore_n 1, 1) := by decide +kernel
theorem dX8_presentWorkers_38 : decode cX8_presentWorkers 38 = .ok (.iinc 2 1, 3) := by decide +kernel
theorem dX8_presentWorkers_41 : decode cX8_presentWorkers 41 = .ok (.goto (-37), 3) := by decide +kernel
theorem dX8_presentWorkers_44 : decode cX8_presentWorkers 44 = .ok (.iload_n 1, 1) := by decide +kernel
theorem dX8_presentWorkers_45 : decode cX8_presentWorkers 45 = .ok (.ireturn, 1) := by decide +kernel
set_option maxRecDepth 20000 in
theorem ggX8_changedPlans_X2_workers : GoodIn wsX8_changedPlans wsX2_workers := goodIn_r _ [7, 8, 26, 27, 28, 29, 30] (by decide +kernel) (by decide +kernel)
set_option maxRecDepth 20000 in
theorem gX8_changedPlans_X2_workers : GoodIn wsX8_changedPlans (wsV RX8 78 RX2 yX2_workers wsX2_workers) := goodIn_app (goodIn_of _ (by decide +kernel)) ggX8_changedPlans_X2_workers
set_option maxRecDepth 20000 in
theorem ggX8_changedPlans_X3_changedDays : GoodIn wsX8_changedPlans wsX3_changedDays := goodIn_r _ [13, 14, 15, 16, 12, 17, 18, 31, 32, 33, 34, 35, 36, 37] (by decide +kernel) (by decide +kernel)
set_option maxRecDepth 20000 in
theorem gX8_changedPlans_X3_changedDays : GoodIn wsX8_changedPlans (wsV RX8 259 RX3 yX3_changedDays wsX3_changedDays) := goodIn_app (goodIn_of _ (by decide +kernel)) ggX8_changedPlans_X3_changedDays
theorem dX8_changedPlans_0 : decode cX8_changedPlans 0 = .ok (.iconst 0, 1) := by decide +kernel
theorem dX8_changedPlans_1 : decode cX8_changedPlans 1 = .ok (.istore_n 1, 1) := by decide +kernel
theorem dX8_changedPlans_2 : decode cX8_changedPlans 2 = .ok (.iconst 0, 1) := by decide +kernel
theorem dX8_changedPlans_3 : decode cX8_changedPlans 3 = .ok (.istore_n 2, 1) := by decide +kernel
theorem dX8_changedPlans_4 : decode cX8_changedPlans 4 = .ok (.iload_n 2, 1) := by decide +kernel
theorem dX8_changedPlans_5 : decode cX8_changedPlans 5 = .ok (.aload_n 0, 1) := by decide +kernel
