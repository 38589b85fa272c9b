set_option maxRecDepth 20000 in
theorem ggX9_costOf_X9_plannedOf : GoodIn wsX9_costOf wsX9_plannedOf := goodIn_r _ [10, 1, 11, 12, 13, 5, 14, 15, 16, 17, 18, 19, 20, 21, 26, 27, 28, 29, 30, 31, 32, 33, 34, 35, 36, 37, 38, 39, 40] (by decide +kernel) (by decide +kernel)
set_option maxRecDepth 20000 in
theorem gX9_costOf_X9_plannedOf : GoodIn wsX9_costOf (wsV RX9 145 RX9 yX9_plannedOf wsX9_plannedOf) := goodIn_app (goodIn_of _ (by decide +kernel)) ggX9_costOf_X9_plannedOf
set_option maxRecDepth 20000 in
theorem ggX9_costOf_X9_its : GoodIn wsX9_costOf wsX9_its := goodIn_r _ [25, 1, 26, 27, 28, 29, 30, 31, 32, 33, 34, 35, 36, 37, 38, 39, 40] (by decide +kernel) (by decide +kernel)
set_option maxRecDepth 20000 in
theorem gX9_costOf_X9_its : GoodIn wsX9_costOf (wsV RX9 128 RX9 yX9_its wsX9_its) := goodIn_app (goodIn_of _ (by decide +kernel)) ggX9_costOf_X9_its
theorem dX9_costOf_0 : decode cX9_costOf 0 = .ok (.iconst 0, 1) := by decide +kernel
theorem dX9_costOf_1 : decode cX9_costOf 1 = .ok (.istore 4, 2) := by decide +kernel
theorem dX9_costOf_3 : decode cX9_costOf 3 = .ok (.iconst 0, 1) := by decide +kernel
theorem dX9_costOf_4 : decode cX9_costOf 4 = .ok (.istore 5, 2) := by decide +kernel
theorem dX9_costOf_6 : decode cX9_costOf 6 = .ok (.iload 5, 2) := by decide +kernel
theorem dX9_costOf_8 : decode cX9_costOf 8 = .ok (.aload_n 0, 1) := by decide +kernel
theorem dX9_costOf_9 : decode cX9_costOf 9 = .ok (.getfield 70, 3) := by decide +kernel
theorem dX9_costOf_12 : decode cX9_costOf 12 = .ok (.bipush 50, 2) := by decide +kernel
theorem dX9_costOf_14 : decode cX9_costOf 14 = .ok (.iaload, 1) := by decide +kernel
theorem dX9_costOf_15 : decode cX9_costOf 15 = .ok (.if_icmp .ge 59, 3) := by decide +kernel
theorem dX9_costOf_18 : decode cX9_costOf 18 = .ok (.bipush 51, 2) := by decide +kernel
theorem dX9_costOf_20 : decode cX9_costOf 20 = .ok (.iconst 2, 1) := by decide +kernel
theorem dX9_costOf_21 : decode cX9_costOf 21 = .ok (.iload 5, 2) := by decide +kernel
theorem dX9_costOf_23 : decode cX9_costOf 23 = .ok (.imul, 1) := by decide +kernel
theorem dX9_costOf_24 : decode cX9_costOf 24 = .ok (.iadd, 1) := by decide +kernel
theorem dX9_costOf_25 : decode cX9_costOf 25 = .ok (.istore 6, 2) := by decide +kernel
theorem dX9_costOf_27 : decode cX9_costOf 27 = .ok (.aload_n 0, 1) := by decide +kernel
theorem dX9_costOf_28 : decode cX9_costOf 28 = .ok (.getfield 70, 3) := by decide +kernel
theorem dX9_costOf_31 : decode cX9_costOf 31 = .ok (.iload 6, 2) := by decide +kernel
theorem dX9_costOf_33 : decode cX9_costOf 33 = .ok (.iaload, 1) := by decide +kernel
theorem dX9_costOf_34 : decode cX9_costOf 34 = .ok (.iload_n 2, 1) := by decide +kernel
theorem dX9_costOf_35 : decode cX9_costOf 35 = .ok (.aload_n 0, 1) := by decide +kernel
theorem dX9_costOf_36 : decode cX9_costOf 36 = .ok (.invokevirtual 165, 3) := by decide +kernel
theorem dX9_costOf_39 : decode cX9_costOf 39 = .ok (.isub, 1) := by decide +kernel
theorem dX9_costOf_40 : decode cX9_costOf 40 = .ok (.if_icmp .le 28, 3) := by decide +kernel
theorem dX9_costOf_43 : decode cX9_costOf 43 = .ok (.aload_n 0, 1) := by decide +kernel
theorem dX9_costOf_44 : decode cX9_costOf 44 = .ok (.getfield 70, 3) := by decide +kernel
theorem dX9_costOf_47 : decode cX9_costOf 47 = .ok (.iload 6, 2) := by decide +kernel
theorem dX9_costOf_49 : decode cX9_costOf 49 = .ok (.iconst 1, 1) := by decide +kernel
theorem dX9_costOf_50 : decode cX9_costOf 50 = .ok (.iadd, 1) := by decide +kernel
theorem dX9_costOf_51 : decode cX9_costOf 51 = .ok (.iaload, 1) := by decide +kernel
theorem dX9_costOf_52 : decode cX9_costOf 52 = .ok (.iload 4, 2) := by decide +kernel
theorem dX9_costOf_54 : decode cX9_costOf 54 = .ok (.if_icmp .le 14, 3) := by decide +kernel
theorem dX9_costOf_57 : decode cX9_costOf 57 = .ok (.aload_n 0, 1) := by decide +kernel
theorem dX9_costOf_58 : decode cX9_costOf 58 = .ok (.getfield 70, 3) := by decide +kernel
theorem dX9_costOf_61 : decode cX9_costOf 61 = .ok (.iload 6, 2) := by decide +kernel
theorem dX9_costOf_63 : decode cX9_costOf 63 = .ok (.iconst 1, 1) := by decide +kernel
theorem dX9_costOf_64 : decode cX9_costOf 64 = .ok (.iadd, 1) := by decide +kernel
theorem dX9_costOf_65 : decode cX9_costOf 65 = .ok (.iaload, 1) := by decide +kernel
theorem dX9_costOf_66 : decode cX9_costOf 66 = .ok (.istore 4, 2) := by decide +kernel
theorem dX9_costOf_68 : decode cX9_costOf 68 = .ok (.iinc 5 1, 3) := by decide +kernel
theorem dX9_costOf_71 : decode cX9_costOf 71 = .ok (.goto (-65), 3) := by decide +kernel
theorem dX9_costOf_74 : decode cX9_costOf 74 = .ok (.iload_n 3, 1) := by decide +kernel
theorem dX9_costOf_75 : decode cX9_costOf 75 = .ok (.aload_n 0, 1) := by decide +kernel
theorem dX9_costOf_76 : decode cX9_costOf 76 = .ok (.iload_n 1, 1) := by decide +kernel
theorem dX9_costOf_77 : decode cX9_costOf 77 = .ok (.iload_n 2, 1) := by decide +kernel
theorem dX9_costOf_78 : decode cX9_costOf 78 = .ok (.invokevirtual 145, 3) := by decide +kernel
theorem dX9_costOf_81 : decode cX9_costOf 81 = .ok (.isub, 1) := by decide +kernel
theorem dX9_costOf_82 : decode cX9_costOf 82 = .ok (.istore 5, 2) := by decide +kernel
theorem dX9_costOf_84 : decode cX9_costOf 84 = .ok (.iload 4, 2) := by decide +kernel
theorem dX9_costOf_86 : decode cX9_costOf 86 = .ok (.aload_n 0, 1) := by decide +kernel
theorem dX9_costOf_87 : decode cX9_costOf 87 = .ok (.iload_n 1, 1) := by decide +kernel
theorem dX9_costOf_88 : decode cX9_costOf 88 = .ok (.iconst 0, 1) := by decide +kernel
theorem dX9_costOf_89 : decode cX9_costOf 89 = .ok (.invokevirtual 128, 3) := by decide +kernel
theorem dX9_costOf_92 : decode cX9_costOf 92 = .ok (.imul, 1) := by decide +kernel
theorem dX9_costOf_93 : decode cX9_costOf 93 = .ok (.iload 5, 2) := by decide +kernel
theorem dX9_costOf_95 : decode cX9_costOf 95 = .ok (.ifCond .ge 9, 3) := by decide +kernel
theorem dX9_costOf_98 : decode cX9_costOf 98 = .ok (.iload 5, 2) := by decide +kernel
theorem dX9_costOf_100 : decode cX9_costOf 100 = .ok (.ineg, 1) := by decide +kernel
theorem dX9_costOf_101 : decode cX9_costOf 101 = .ok (.goto 5, 3) := by decide +kernel
theorem dX9_costOf_104 : decode cX9_costOf 104 = .ok (.iload 5, 2) := by decide +kernel
theorem dX9_costOf_106 : decode cX9_costOf 106 = .ok (.imul, 1) := by decide +kernel
theorem dX9_costOf_107 : decode cX9_costOf 107 = .ok (.bipush 100, 2) := by decide +kernel
theorem dX9_costOf_109 : decode cX9_costOf 109 = .ok (.idiv, 1) := by decide +kernel
theorem dX9_costOf_110 : decode cX9_costOf 110 = .ok (.ireturn, 1) := by decide +kernel
set_option maxRecDepth 20000 in
theorem ggX9_cost_X9_canPlan : GoodIn wsX9_cost wsX9_canPlan := goodIn_r _ [6, 7, 8, 9, 5, 10, 11, 12, 13, 14, 15, 16, 17, 18, 19, 20, 21, 22, 23, 24, 25, 26, 27, 28, 29, 30, 31, 32, 33, 34, 47, 48, 49, 50, 51, 52, 53, 54, 55, 56, 57, 58, 59, 60, 61] (by decide +kernel) (by decide +kernel)
set_option maxRecDepth 20000 in
theorem gX9_cost_X9_canPlan : GoodIn wsX9_cost (wsV RX9 194 RX9 yX9_canPlan wsX9_canPlan) := goodIn_app (goodIn_of _ (by decide +kernel)) ggX9_cost_X9_canPlan
set_option maxRecDepth 20000 in
theorem ggX9_cost_X9_costOf : GoodIn wsX9_cost wsX9_costOf := goodIn_r _ [38, 15, 23, 24, 25, 5, 26, 39, 40, 41, 42, 43, 44, 45, 46, 31, 32, 33, 34, 16, 17, 18, 19, 20, 21, 22, 47, 48, 49, 50, 51, 52, 53, 54, 55, 56, 57, 58, 59, 60, 61] (by decide +kernel) (by decide +kernel)
set_option maxRecDepth 20000 in
theorem gX9_cost_X9_costOf : GoodIn wsX9_cost (wsV RX9 197 RX9 yX9_costOf wsX9_costOf) := goodIn_app (goodIn_of _ (by decide +kernel)) ggX9_cost_X9_costOf
theorem dX9_cost_0 : decode cX9_cost 0 = .ok (.aload_n 0, 1) := by decide +kernel
theorem dX9_cost_1 : decode cX9_cost 1 = .ok (.iconst 0, 1) := by decide +kernel
theorem dX9_cost_2 : decode cX9_cost 2 = .ok (.putfield 1, 3) := by decide +kernel
theorem dX9_cost_5 : decode cX9_cost 5 = .ok (.aload_n 0, 1) := by decide +kernel
theorem dX9_cost_6 : decode cX9_cost 6 = .ok (.iload_n 1, 1) := by decide +kernel
theorem dX9_cost_7 : decode cX9_cost 7 = .ok (.iload_n 2, 1) := by decide +kernel
theorem dX9_cost_8 : decode cX9_cost 8 = .ok (.iload_n 3, 1) := by decide +kernel
theorem dX9_cost_9 : decode cX9_cost 9 = .ok (.invokevirtual 194, 3) := by decide +kernel
theorem dX9_cost_12 : decode cX9_cost 12 = .ok (.ifCond .eq 13, 3) := by decide +kernel
theorem dX9_cost_15 : decode cX9_cost 15 = .ok (.aload_n 0, 1) := by decide +kernel
theorem dX9_cost_16 : decode cX9_cost 16 = .ok (.iload_n 1, 1) := by decide +kernel
theorem dX9_cost_17 : decode cX9_cost 17 = .ok (.iload_n 2, 1) := by decide +kernel
theorem dX9_cost_18 : decode cX9_cost 18 = .ok (.iload_n 3, 1) := by decide +kernel
theorem dX9_cost_19 : decode cX9_cost 19 = .ok (.invokevirtual 197, 3) := by decide +kernel
theorem dX9_cost_22 : decode cX9_cost 22 = .ok (.goto 4, 3) := by decide +kernel
theorem dX9_cost_25 : decode cX9_cost 25 = .ok (.iconst (-1), 1) := by decide +kernel
theorem dX9_cost_26 : decode cX9_cost 26 = .ok (.ireturn, 1) := by decide +kernel
set_option maxRecDepth 20000 in
theorem ggX9_plan_X9_canPlan : GoodIn wsX9_plan wsX9_canPlan := goodIn_r _ [6, 7, 8, 9, 5, 10, 11, 12, 13, 14, 15, 16, 17, 18, 19, 20, 21, 22, 23, 24, 25, 26, 27, 28, 29, 30, 31, 32, 33, 34, 66, 67, 68, 69, 70, 71, 72, 73, 74, 75, 76, 77, 78, 79, 80] (by decide +kernel) (by decide +kernel)
set_option maxRecDepth 20000 in
theorem gX9_plan_X9_canPlan : GoodIn wsX9_plan (wsV RX9 194 RX9 yX9_canPlan wsX9_canPlan) := goodIn_app (goodIn_of _ (by decide +kernel)) ggX9_plan_X9_canPlan
set_option maxRecDepth 20000 in
theorem ggX9_plan_X9_snap : GoodIn wsX9_plan wsX9_snap := goodIn_r _ [38, 39, 40, 15, 66, 67, 68, 69, 70, 71, 72, 73, 74, 75, 76, 77, 78, 79, 80] (by decide +kernel) (by decide +kernel)
set_option maxRecDepth 20000 in
theorem gX9_plan_X9_snap : GoodIn wsX9_plan (wsV RX9 200 RX9 yX9_snap wsX9_snap) := goodIn_app (goodIn_of _ (by decide +kernel)) ggX9_plan_X9_snap
set_option maxRecDepth 20000 in
theorem ggX9_plan_X9_costOf : GoodIn wsX9_plan wsX9_costOf := goodIn_r _ [44, 15, 23, 24, 25, 5, 26, 45, 46, 47, 48, 49, 50, 51, 52, 31, 32, 33, 34, 16, 17, 18, 19, 20, 21, 22, 66, 67, 68, 69, 70, 71, 72, 73, 74, 75, 76, 77, 78, 79, 80] (by decide +kernel) (by decide +kernel)
set_option maxRecDepth 20000 in
theorem gX9_plan_X9_costOf : GoodIn wsX9_plan (wsV RX9 197 RX9 yX9_costOf wsX9_costOf) := goodIn_app (goodIn_of _ (by decide +kernel)) ggX9_plan_X9_costOf
set_option maxRecDepth 20000 in
theorem ggX9_plan_X9_adds : GoodIn wsX9_plan wsX9_adds := goodIn_r _ [56, 15, 66, 67, 68, 69, 70, 71, 72, 73, 74, 75, 76, 77, 78, 79, 80] (by decide +kernel) (by decide +kernel)
set_option maxRecDepth 20000 in
theorem gX9_plan_X9_adds : GoodIn wsX9_plan (wsV RX9 203 RX9 yX9_adds wsX9_adds) := goodIn_app (goodIn_of _ (by decide +kernel)) ggX9_plan_X9_adds
set_option maxRecDepth 20000 in
theorem ggX9_plan_X9_workedOf : GoodIn wsX9_plan wsX9_workedOf := goodIn_r _ [60, 31, 32, 33, 5, 34, 15, 66, 67, 68, 69, 70, 71, 72, 73, 74, 75, 76, 77, 78, 79, 80] (by decide +kernel) (by decide +kernel)
set_option maxRecDepth 20000 in
theorem gX9_plan_X9_workedOf : GoodIn wsX9_plan (wsV RX9 142 RX9 yX9_workedOf wsX9_workedOf) := goodIn_app (goodIn_of _ (by decide +kernel)) ggX9_plan_X9_workedOf
set_option maxRecDepth 20000 in
theorem ggX9_plan_X9_kindOf : GoodIn wsX9_plan wsX9_kindOf := goodIn_r _ [30, 31, 32, 33, 5, 34, 15, 66, 67, 68, 69, 70, 71, 72, 73, 74, 75, 76, 77, 78, 79, 80] (by decide +kernel) (by decide +kernel)
set_option maxRecDepth 20000 in
theorem gX9_plan_X9_kindOf : GoodIn wsX9_plan (wsV RX9 139 RX9 yX9_kindOf wsX9_kindOf) := goodIn_app (goodIn_of _ (by decide +kernel)) ggX9_plan_X9_kindOf
set_option maxRecDepth 20000 in
theorem ggX9_plan_X9_putDay : GoodIn wsX9_plan wsX9_putDay := goodIn_r _ [64, 15, 65, 66, 67, 68, 69, 70, 71, 72, 73, 74, 75, 76, 77, 78, 79, 80] (by decide +kernel) (by decide +kernel)
set_option maxRecDepth 20000 in
theorem gX9_plan_X9_putDay : GoodIn wsX9_plan (wsV RX9 207 RX9 yX9_putDay wsX9_putDay) := goodIn_app (goodIn_of _ (by decide +kernel)) ggX9_plan_X9_putDay
theorem dX9_plan_0 : decode cX9_plan 0 = .ok (.aload_n 0, 1) := by decide +kernel
theorem dX9_plan_1 : decode cX9_plan 1 = .ok (.iconst 0, 1) := by decide +kernel
theorem dX9_plan_2 : decode cX9_plan 2 = .ok (.putfield 1, 3) := by decide +kernel
theorem dX9_plan_5 : decode cX9_plan 5 = .ok (.aload_n 0, 1) := by decide +kernel
theorem dX9_plan_6 : decode cX9_plan 6 = .ok (.iload_n 1, 1) := by decide +kernel
theorem dX9_plan_7 : decode cX9_plan 7 = .ok (.iload_n 2, 1) := by decide +kernel
theorem dX9_plan_8 : decode cX9_plan 8 = .ok (.iload_n 3, 1) := by decide +kernel
theorem dX9_plan_9 : decode cX9_plan 9 = .ok (.invokevirtual 194, 3) := by decide +kernel
theorem dX9_plan_12 : decode cX9_plan 12 = .ok (.ifCond .ne 5, 3) := by decide +kernel
theorem dX9_plan_15 : decode cX9_plan 15 = .ok (.iconst (-1), 1) := by decide +kernel
theorem dX9_plan_16 : decode cX9_plan 16 = .ok (.ireturn, 1) := by decide +kernel
theorem dX9_plan_17 : decode cX9_plan 17 = .ok (.aload_n 0, 1) := by decide +kernel
theorem dX9_plan_18 : decode cX9_plan 18 = .ok (.invokevirtual 200, 3) := by decide +kernel
theorem dX9_plan_21 : decode cX9_plan 21 = .ok (.aload_n 0, 1) := by decide +kernel
theorem dX9_plan_22 : decode cX9_plan 22 = .ok (.iload_n 1, 1) := by decide +kernel
theorem dX9_plan_23 : decode cX9_plan 23 = .ok (.iload_n 2, 1) := by decide +kernel
theorem dX9_plan_24 : decode cX9_plan 24 = .ok (.iload_n 3, 1) := by decide +kernel
theorem dX9_plan_25 : decode cX9_plan 25 = .ok (.invokevirtual 197, 3) := by decide +kernel
theorem dX9_plan_28 : decode cX9_plan 28 = .ok (.istore 4, 2) := by decide +kernel
theorem dX9_plan_30 : decode cX9_plan 30 = .ok (.aload_n 0, 1) := by decide +kernel
theorem dX9_plan_31 : decode cX9_plan 31 = .ok (.iload_n 1, 1) := by decide +kernel
theorem dX9_plan_32 : decode cX9_plan 32 = .ok (.bipush 6, 2) := by decide +kernel
theorem dX9_plan_34 : decode cX9_plan 34 = .ok (.iload 4, 2) := by decide +kernel
theorem dX9_plan_36 : decode cX9_plan 36 = .ok (.invokevirtual 203, 3) := by decide +kernel
theorem dX9_plan_39 : decode cX9_plan 39 = .ok (.aload_n 0, 1) := by decide +kernel
theorem dX9_plan_40 : decode cX9_plan 40 = .ok (.iload_n 1, 1) := by decide +kernel
theorem dX9_plan_41 : decode cX9_plan 41 = .ok (.iload_n 2, 1) := by decide +kernel
theorem dX9_plan_42 : decode cX9_plan 42 = .ok (.iload_n 3, 1) := by decide +kernel
theorem dX9_plan_43 : decode cX9_plan 43 = .ok (.aload_n 0, 1) := by decide +kernel
theorem dX9_plan_44 : decode cX9_plan 44 = .ok (.iload_n 1, 1) := by decide +kernel
theorem dX9_plan_45 : decode cX9_plan 45 = .ok (.iload_n 2, 1) := by decide +kernel
theorem dX9_plan_46 : decode cX9_plan 46 = .ok (.invokevirtual 142, 3) := by decide +kernel
theorem dX9_plan_49 : decode cX9_plan 49 = .ok (.aload_n 0, 1) := by decide +kernel
theorem dX9_plan_50 : decode cX9_plan 50 = .ok (.iload_n 1, 1) := by decide +kernel
theorem dX9_plan_51 : decode cX9_plan 51 = .ok (.iload_n 2, 1) := by decide +kernel
theorem dX9_plan_52 : decode cX9_plan 52 = .ok (.invokevirtual 139, 3) := by decide +kernel
theorem dX9_plan_55 : decode cX9_plan 55 = .ok (.iconst 0, 1) := by decide +kernel
theorem dX9_plan_56 : decode cX9_plan 56 = .ok (.invokevirtual 207, 3) := by decide +kernel
theorem dX9_plan_59 : decode cX9_plan 59 = .ok (.iload 4, 2) := by decide +kernel
theorem dX9_plan_61 : decode cX9_plan 61 = .ok (.ireturn, 1) := by decide +kernel
set_option maxRecDepth 20000 in
theorem ggX9_work_X9_isHere : GoodIn wsX9_work wsX9_isHere := goodIn_r _ [6, 7, 8, 9, 5, 10, 11, 12, 13, 14, 15, 16, 17, 18, 46, 47, 48, 49, 50, 51, 52, 53, 54, 55, 56, 57, 58, 59, 60] (by decide +kernel) (by decide +kernel)
set_option maxRecDepth 20000 in
theorem gX9_work_X9_isHere : GoodIn wsX9_work (wsV RX9 162 RX9 yX9_isHere wsX9_isHere) := goodIn_app (goodIn_of _ (by decide +kernel)) ggX9_work_X9_isHere
set_option maxRecDepth 20000 in
theorem ggX9_work_X9_isIn : GoodIn wsX9_work wsX9_isIn := goodIn_r _ [14] (by decide +kernel) (by decide +kernel)
set_option maxRecDepth 20000 in
theorem gX9_work_X9_isIn : GoodIn wsX9_work (va_wsS RX9 82 yX9_isIn wsX9_isIn) := goodIn_app (goodIn_of _ (by decide +kernel)) ggX9_work_X9_isIn
set_option maxRecDepth 20000 in
theorem ggX9_work_X9_today : GoodIn wsX9_work wsX9_today := goodIn_r _ [22, 11, 46, 47, 48, 49, 50, 51, 52, 53, 54, 55, 56, 57, 58, 59, 60] (by decide +kernel) (by decide +kernel)
set_option maxRecDepth 20000 in
theorem gX9_work_X9_today : GoodIn wsX9_work (wsV RX9 165 RX9 yX9_today wsX9_today) := goodIn_app (goodIn_of _ (by decide +kernel)) ggX9_work_X9_today
set_option maxRecDepth 20000 in
theorem ggX9_work_X9_kindOf : GoodIn wsX9_work wsX9_kindOf := goodIn_r _ [26, 27, 28, 29, 5, 30, 11, 46, 47, 48, 49, 50, 51, 52, 53, 54, 55, 56, 57, 58, 59, 60] (by decide +kernel) (by decide +kernel)
set_option maxRecDepth 20000 in
theorem gX9_work_X9_kindOf : GoodIn wsX9_work (wsV RX9 139 RX9 yX9_kindOf wsX9_kindOf) := goodIn_app (goodIn_of _ (by decide +kernel)) ggX9_work_X9_kindOf
set_option maxRecDepth 20000 in
theorem ggX9_work_X9_snap : GoodIn wsX9_work wsX9_snap := goodIn_r _ [34, 35, 36, 11, 46, 47, 48, 49, 50, 51, 52, 53, 54, 55, 56, 57, 58, 59, 60] (by decide +kernel) (by decide +kernel)
set_option maxRecDepth 20000 in
theorem gX9_work_X9_snap : GoodIn wsX9_work (wsV RX9 200 RX9 yX9_snap wsX9_snap) := goodIn_app (goodIn_of _ (by decide +kernel)) ggX9_work_X9_snap
set_option maxRecDepth 20000 in
theorem ggX9_work_X9_changedOf : GoodIn wsX9_work wsX9_changedOf := goodIn_r _ [40, 27, 28, 29, 5, 30, 11, 46, 47, 48, 49, 50, 51, 52, 53, 54, 55, 56, 57, 58, 59, 60] (by decide +kernel) (by decide +kernel)
set_option maxRecDepth 20000 in
theorem gX9_work_X9_changedOf : GoodIn wsX9_work (wsV RX9 136 RX9 yX9_changedOf wsX9_changedOf) := goodIn_app (goodIn_of _ (by decide +kernel)) ggX9_work_X9_changedOf
set_option maxRecDepth 20000 in
theorem ggX9_work_X9_putDay : GoodIn wsX9_work wsX9_putDay := goodIn_r _ [44, 11, 45, 46, 47, 48, 49, 50, 51, 52, 53, 54, 55, 56, 57, 58, 59, 60] (by decide +kernel) (by decide +kernel)
set_option maxRecDepth 20000 in
theorem gX9_work_X9_putDay : GoodIn wsX9_work (wsV RX9 207 RX9 yX9_putDay wsX9_putDay) := goodIn_app (goodIn_of _ (by decide +kernel)) ggX9_work_X9_putDay
theorem dX9_work_0 : decode cX9_work 0 = .ok (.aload_n 0, 1) := by decide +kernel
theorem dX9_work_1 : decode cX9_work 1 = .ok (.iconst 0, 1) := by decide +kernel
theorem dX9_work_2 : decode cX9_work 2 = .ok (.putfield 1, 3) := by decide +kernel
theorem dX9_work_5 : decode cX9_work 5 = .ok (.aload_n 0, 1) := by decide +kernel
theorem dX9_work_6 : decode cX9_work 6 = .ok (.iload_n 1, 1) := by decide +kernel
theorem dX9_work_7 : decode cX9_work 7 = .ok (.invokevirtual 162, 3) := by decide +kernel
theorem dX9_work_10 : decode cX9_work 10 = .ok (.ifCond .eq 35, 3) := by decide +kernel
theorem dX9_work_13 : decode cX9_work 13 = .ok (.iload_n 2, 1) := by decide +kernel
theorem dX9_work_14 : decode cX9_work 14 = .ok (.iconst 0, 1) := by decide +kernel
theorem dX9_work_15 : decode cX9_work 15 = .ok (.bipush 96, 2) := by decide +kernel
theorem dX9_work_17 : decode cX9_work 17 = .ok (.invokestatic 82, 3) := by decide +kernel
theorem dX9_work_20 : decode cX9_work 20 = .ok (.ifCond .eq 25, 3) := by decide +kernel
theorem dX9_work_23 : decode cX9_work 23 = .ok (.aload_n 0, 1) := by decide +kernel
theorem dX9_work_24 : decode cX9_work 24 = .ok (.invokevirtual 165, 3) := by decide +kernel
theorem dX9_work_27 : decode cX9_work 27 = .ok (.sipush 364, 3) := by decide +kernel
theorem dX9_work_30 : decode cX9_work 30 = .ok (.if_icmp .eq 15, 3) := by decide +kernel
theorem dX9_work_33 : decode cX9_work 33 = .ok (.aload_n 0, 1) := by decide +kernel
theorem dX9_work_34 : decode cX9_work 34 = .ok (.iload_n 1, 1) := by decide +kernel
theorem dX9_work_35 : decode cX9_work 35 = .ok (.aload_n 0, 1) := by decide +kernel
theorem dX9_work_36 : decode cX9_work 36 = .ok (.invokevirtual 165, 3) := by decide +kernel
theorem dX9_work_39 : decode cX9_work 39 = .ok (.invokevirtual 139, 3) := by decide +kernel
theorem dX9_work_42 : decode cX9_work 42 = .ok (.ifCond .eq 5, 3) := by decide +kernel
theorem dX9_work_45 : decode cX9_work 45 = .ok (.iconst 0, 1) := by decide +kernel
theorem dX9_work_46 : decode cX9_work 46 = .ok (.ireturn, 1) := by decide +kernel
theorem dX9_work_47 : decode cX9_work 47 = .ok (.aload_n 0, 1) := by decide +kernel
theorem dX9_work_48 : decode cX9_work 48 = .ok (.invokevirtual 200, 3) := by decide +kernel
theorem dX9_work_51 : decode cX9_work 51 = .ok (.aload_n 0, 1) := by decide +kernel
theorem dX9_work_52 : decode cX9_work 52 = .ok (.iload_n 1, 1) := by decide +kernel
theorem dX9_work_53 : decode cX9_work 53 = .ok (.aload_n 0, 1) := by decide +kernel
theorem dX9_work_54 : decode cX9_work 54 = .ok (.invokevirtual 165, 3) := by decide +kernel
theorem dX9_work_57 : decode cX9_work 57 = .ok (.aload_n 0, 1) := by decide +kernel
theorem dX9_work_58 : decode cX9_work 58 = .ok (.iload_n 1, 1) := by decide +kernel
theorem dX9_work_59 : decode cX9_work 59 = .ok (.aload_n 0, 1) := by decide +kernel
theorem dX9_work_60 : decode cX9_work 60 = .ok (.invokevirtual 165, 3) := by decide +kernel
theorem dX9_work_63 : decode cX9_work 63 = .ok (.invokevirtual 136, 3) := by decide +kernel
theorem dX9_work_66 : decode cX9_work 66 = .ok (.iload_n 2, 1) := by decide +kernel
theorem dX9_work_67 : decode cX9_work 67 = .ok (.iconst 0, 1) := by decide +kernel
theorem dX9_work_68 : decode cX9_work 68 = .ok (.iconst 0, 1) := by decide +kernel
theorem dX9_work_69 : decode cX9_work 69 = .ok (.invokevirtual 207, 3) := by decide +kernel
theorem dX9_work_72 : decode cX9_work 72 = .ok (.iconst 1, 1) := by decide +kernel
theorem dX9_work_73 : decode cX9_work 73 = .ok (.ireturn, 1) := by decide +kernel
set_option maxRecDepth 20000 in
theorem ggX9_sick_X9_isHere : GoodIn wsX9_sick wsX9_isHere := goodIn_r _ [6, 7, 8, 9, 5, 10, 11, 12, 13, 14, 15, 16, 17, 18, 50, 51, 52, 53, 54, 55, 56, 57, 58, 59, 60, 61, 62, 63, 64] (by decide +kernel) (by decide +kernel)
set_option maxRecDepth 20000 in
theorem gX9_sick_X9_isHere : GoodIn wsX9_sick (wsV RX9 162 RX9 yX9_isHere wsX9_isHere) := goodIn_app (goodIn_of _ (by decide +kernel)) ggX9_sick_X9_isHere
set_option maxRecDepth 20000 in
theorem ggX9_sick_X9_today : GoodIn wsX9_sick wsX9_today := goodIn_r _ [22, 11, 50, 51, 52, 53, 54, 55, 56, 57, 58, 59, 60, 61, 62, 63, 64] (by decide +kernel) (by decide +kernel)
set_option maxRecDepth 20000 in
theorem gX9_sick_X9_today : GoodIn wsX9_sick (wsV RX9 165 RX9 yX9_today wsX9_today) := goodIn_app (goodIn_of _ (by decide +kernel)) ggX9_sick_X9_today
set_option maxRecDepth 20000 in
theorem ggX9_sick_X9_kindOf : GoodIn wsX9_sick wsX9_kindOf := goodIn_r _ [26, 27, 28, 29, 5, 30, 11, 50, 51, 52, 53, 54, 55, 56, 57, 58, 59, 60, 61, 62, 63, 64] (by decide +kernel) (by decide +kernel)
set_option maxRecDepth 20000 in
theorem gX9_sick_X9_kindOf : GoodIn wsX9_sick (wsV RX9 139 RX9 yX9_kindOf wsX9_kindOf) := goodIn_app (goodIn_of _ (by decide +kernel)) ggX9_sick_X9_kindOf
set_option maxRecDepth 20000 in
theorem ggX9_sick_X9_workedOf : GoodIn wsX9_sick wsX9_workedOf := goodIn_r _ [34, 27, 28, 29, 5, 30, 11, 50, 51, 52, 53, 54, 55, 56, 57, 58, 59, 60, 61, 62, 63, 64] (by decide +kernel) (by decide +kernel)
set_option maxRecDepth 20000 in
theorem gX9_sick_X9_workedOf : GoodIn wsX9_sick (wsV RX9 142 RX9 yX9_workedOf wsX9_workedOf) := goodIn_app (goodIn_of _ (by decide +kernel)) ggX9_sick_X9_workedOf
set_option maxRecDepth 20000 in
theorem ggX9_sick_X9_snap : GoodIn wsX9_sick wsX9_snap := goodIn_r _ [38, 39, 40, 11, 50, 51, 52, 53, 54, 55, 56, 57, 58, 59, 60, 61, 62, 63, 64] (by decide +kernel) (by decide +kernel)
set_option maxRecDepth 20000 in
theorem gX9_sick_X9_snap : GoodIn wsX9_sick (wsV RX9 200 RX9 yX9_snap wsX9_snap) := goodIn_app (goodIn_of _ (by decide +kernel)) ggX9_sick_X9_snap
set_option maxRecDepth 20000 in
theorem ggX9_sick_X9_changedOf : GoodIn wsX9_sick wsX9_changedOf := goodIn_r _ [44, 27, 28, 29, 5, 30, 11, 50, 51, 52, 53, 54, 55, 56, 57, 58, 59, 60, 61, 62, 63, 64] (by decide +kernel) (by decide +kernel)
set_option maxRecDepth 20000 in
theorem gX9_sick_X9_changedOf : GoodIn wsX9_sick (wsV RX9 136 RX9 yX9_changedOf wsX9_changedOf) := goodIn_app (goodIn_of _ (by decide +kernel)) ggX9_sick_X9_changedOf
set_option maxRecDepth 20000 in
theorem ggX9_sick_X9_putDay : GoodIn wsX9_sick wsX9_putDay := goodIn_r _ [48, 11, 49, 50, 51, 52, 53, 54, 55, 56, 57, 58, 59, 60, 61, 62, 63, 64] (by decide +kernel) (by decide +kernel)
set_option maxRecDepth 20000 in
theorem gX9_sick_X9_putDay : GoodIn wsX9_sick (wsV RX9 207 RX9 yX9_putDay wsX9_putDay) := goodIn_app (goodIn_of _ (by decide +kernel)) ggX9_sick_X9_putDay
theorem dX9_sick_0 : decode cX9_sick 0 = .ok (.aload_n 0, 1) := by decide +kernel
theorem dX9_sick_1 : decode cX9_sick 1 = .ok (.iconst 0, 1) := by decide +kernel
theorem dX9_sick_2 : decode cX9_sick 2 = .ok (.putfield 1, 3) := by decide +kernel
theorem dX9_sick_5 : decode cX9_sick 5 = .ok (.aload_n 0, 1) := by decide +kernel
theorem dX9_sick_6 : decode cX9_sick 6 = .ok (.iload_n 1, 1) := by decide +kernel
theorem dX9_sick_7 : decode cX9_sick 7 = .ok (.invokevirtual 162, 3) := by decide +kernel
theorem dX9_sick_10 : decode cX9_sick 10 = .ok (.ifCond .eq 13, 3) := by decide +kernel
theorem dX9_sick_13 : decode cX9_sick 13 = .ok (.aload_n 0, 1) := by decide +kernel
theorem dX9_sick_14 : decode cX9_sick 14 = .ok (.invokevirtual 165, 3) := by decide +kernel
theorem dX9_sick_17 : decode cX9_sick 17 = .ok (.sipush 364, 3) := by decide +kernel
theorem dX9_sick_20 : decode cX9_sick 20 = .ok (.if_icmp .ne 5, 3) := by decide +kernel
theorem dX9_sick_23 : decode cX9_sick 23 = .ok (.iconst 0, 1) := by decide +kernel
theorem dX9_sick_24 : decode cX9_sick 24 = .ok (.ireturn, 1) := by decide +kernel
theorem dX9_sick_25 : decode cX9_sick 25 = .ok (.aload_n 0, 1) := by decide +kernel
theorem dX9_sick_26 : decode cX9_sick 26 = .ok (.invokevirtual 165, 3) := by decide +kernel
theorem dX9_sick_29 : decode cX9_sick 29 = .ok (.istore_n 3, 1) := by decide +kernel
theorem dX9_sick_30 : decode cX9_sick 30 = .ok (.aload_n 0, 1) := by decide +kernel
theorem dX9_sick_31 : decode cX9_sick 31 = .ok (.iload_n 1, 1) := by decide +kernel
theorem dX9_sick_32 : decode cX9_sick 32 = .ok (.iload_n 3, 1) := by decide +kernel
theorem dX9_sick_33 : decode cX9_sick 33 = .ok (.invokevirtual 139, 3) := by decide +kernel
theorem dX9_sick_36 : decode cX9_sick 36 = .ok (.iload_n 2, 1) := by decide +kernel
theorem dX9_sick_37 : decode cX9_sick 37 = .ok (.ifCond .eq 7, 3) := by decide +kernel
theorem dX9_sick_40 : decode cX9_sick 40 = .ok (.iconst 0, 1) := by decide +kernel
theorem dX9_sick_41 : decode cX9_sick 41 = .ok (.goto 4, 3) := by decide +kernel
theorem dX9_sick_44 : decode cX9_sick 44 = .ok (.iconst 1, 1) := by decide +kernel
theorem dX9_sick_45 : decode cX9_sick 45 = .ok (.if_icmp .ne 12, 3) := by decide +kernel
theorem dX9_sick_48 : decode cX9_sick 48 = .ok (.aload_n 0, 1) := by decide +kernel
theorem dX9_sick_49 : decode cX9_sick 49 = .ok (.iload_n 1, 1) := by decide +kernel
theorem dX9_sick_50 : decode cX9_sick 50 = .ok (.iload_n 3, 1) := by decide +kernel
theorem dX9_sick_51 : decode cX9_sick 51 = .ok (.invokevirtual 142, 3) := by decide +kernel
theorem dX9_sick_54 : decode cX9_sick 54 = .ok (.ifCond .le 5, 3) := by decide +kernel
theorem dX9_sick_57 : decode cX9_sick 57 = .ok (.iconst 0, 1) := by decide +kernel
theorem dX9_sick_58 : decode cX9_sick 58 = .ok (.ireturn, 1) := by decide +kernel
theorem dX9_sick_59 : decode cX9_sick 59 = .ok (.aload_n 0, 1) := by decide +kernel
theorem dX9_sick_60 : decode cX9_sick 60 = .ok (.invokevirtual 200, 3) := by decide +kernel
theorem dX9_sick_63 : decode cX9_sick 63 = .ok (.aload_n 0, 1) := by decide +kernel
theorem dX9_sick_64 : decode cX9_sick 64 = .ok (.iload_n 1, 1) := by decide +kernel
theorem dX9_sick_65 : decode cX9_sick 65 = .ok (.iload_n 3, 1) := by decide +kernel
theorem dX9_sick_66 : decode cX9_sick 66 = .ok (.aload_n 0, 1) := by decide +kernel
theorem dX9_sick_67 : decode cX9_sick 67 = .ok (.iload_n 1, 1) := by decide +kernel
theorem dX9_sick_68 : decode cX9_sick 68 = .ok (.iload_n 3, 1) := by decide +kernel
theorem dX9_sick_69 : decode cX9_sick 69 = .ok (.invokevirtual 136, 3) := by decide +kernel
theorem dX9_sick_72 : decode cX9_sick 72 = .ok (.iconst 0, 1) := by decide +kernel
theorem dX9_sick_73 : decode cX9_sick 73 = .ok (.iload_n 2, 1) := by decide +kernel
theorem dX9_sick_74 : decode cX9_sick 74 = .ok (.ifCond .eq 7, 3) := by decide +kernel
theorem dX9_sick_77 : decode cX9_sick 77 = .ok (.iconst 1, 1) := by decide +kernel
theorem dX9_sick_78 : decode cX9_sick 78 = .ok (.goto 4, 3) := by decide +kernel
theorem dX9_sick_81 : decode cX9_sick 81 = .ok (.iconst 0, 1) := by decide +kernel
theorem dX9_sick_82 : decode cX9_sick 82 = .ok (.iconst 0, 1) := by decide +kernel
theorem dX9_sick_83 : decode cX9_sick 83 = .ok (.invokevirtual 207, 3) := by decide +kernel
theorem dX9_sick_86 : decode cX9_sick 86 = .ok (.iconst 1, 1) := by decide +kernel
theorem dX9_sick_87 : decode cX9_sick 87 = .ok (.ireturn, 1) := by decide +kernel
set_option maxRecDepth 20000 in
theorem ggX9_book_X9_isHere : GoodIn wsX9_book wsX9_isHere := goodIn_r _ [6, 7, 8, 9, 5, 10, 11, 12, 13, 14, 15, 16, 17, 18, 62, 63, 64, 65, 66, 67, 68, 69, 70, 71, 72, 73, 74, 75, 76] (by decide +kernel) (by decide +kernel)
set_option maxRecDepth 20000 in
theorem gX9_book_X9_isHere : GoodIn wsX9_book (wsV RX9 162 RX9 yX9_isHere wsX9_isHere) := goodIn_app (goodIn_of _ (by decide +kernel)) ggX9_book_X9_isHere
set_option maxRecDepth 20000 in
theorem ggX9_book_X9_today : GoodIn wsX9_book wsX9_today := goodIn_r _ [22, 11, 62, 63, 64, 65, 66, 67, 68, 69, 70, 71, 72, 73, 74, 75, 76] (by decide +kernel) (by decide +kernel)
set_option maxRecDepth 20000 in
theorem gX9_book_X9_today : GoodIn wsX9_book (wsV RX9 165 RX9 yX9_today wsX9_today) := goodIn_app (goodIn_of _ (by decide +kernel)) ggX9_book_X9_today
set_option maxRecDepth 20000 in
theorem ggX9_book_X9_isIn : GoodIn wsX9_book wsX9_isIn := goodIn_r _ [14] (by decide +kernel) (by decide +kernel)
set_option maxRecDepth 20000 in
theorem gX9_book_X9_isIn : GoodIn wsX9_book (va_wsS RX9 82 yX9_isIn wsX9_isIn) := goodIn_app (goodIn_of _ (by decide +kernel)) ggX9_book_X9_isIn
set_option maxRecDepth 20000 in
theorem ggX9_book_X9_kindOf : GoodIn wsX9_book wsX9_kindOf := goodIn_r _ [26, 27, 28, 29, 5, 30, 11, 62, 63, 64, 65, 66, 67, 68, 69, 70, 71, 72, 73, 74, 75, 76] (by decide +kernel) (by decide +kernel)
set_option maxRecDepth 20000 in
theorem gX9_book_X9_kindOf : GoodIn wsX9_book (wsV RX9 139 RX9 yX9_kindOf wsX9_kindOf) := goodIn_app (goodIn_of _ (by decide +kernel)) ggX9_book_X9_kindOf
set_option maxRecDepth 20000 in
theorem ggX9_book_X9_workedOf : GoodIn wsX9_book wsX9_workedOf := goodIn_r _ [34, 27, 28, 29, 5, 30, 11, 62, 63, 64, 65, 66, 67, 68, 69, 70, 71, 72, 73, 74, 75, 76] (by decide +kernel) (by decide +kernel)
set_option maxRecDepth 20000 in
theorem gX9_book_X9_workedOf : GoodIn wsX9_book (wsV RX9 142 RX9 yX9_workedOf wsX9_workedOf) := goodIn_app (goodIn_of _ (by decide +kernel)) ggX9_book_X9_workedOf
set_option maxRecDepth 20000 in
theorem ggX9_book_X9_leftOf : GoodIn wsX9_book wsX9_leftOf := goodIn_r _ [38, 15, 16, 17, 5, 18, 11, 39, 40, 41, 42, 23, 24, 25, 26, 27, 28, 29, 30, 43, 44, 45, 46, 47, 48, 49, 50, 12, 13, 14, 62, 63, 64, 65, 66, 67, 68, 69, 70, 71, 72, 73, 74, 75, 76] (by decide +kernel) (by decide +kernel)
set_option maxRecDepth 20000 in
theorem gX9_book_X9_leftOf : GoodIn wsX9_book (wsV RX9 182 RX9 yX9_leftOf wsX9_leftOf) := goodIn_app (goodIn_of _ (by decide +kernel)) ggX9_book_X9_leftOf
set_option maxRecDepth 20000 in
theorem ggX9_book_X9_plannedOf : GoodIn wsX9_book wsX9_plannedOf := goodIn_r _ [46, 11, 47, 48, 49, 5, 50, 27, 28, 29, 30, 12, 13, 14, 62, 63, 64, 65, 66, 67, 68, 69, 70, 71, 72, 73, 74, 75, 76] (by decide +kernel) (by decide +kernel)
set_option maxRecDepth 20000 in
theorem gX9_book_X9_plannedOf : GoodIn wsX9_book (wsV RX9 145 RX9 yX9_plannedOf wsX9_plannedOf) := goodIn_app (goodIn_of _ (by decide +kernel)) ggX9_book_X9_plannedOf
set_option maxRecDepth 20000 in
theorem ggX9_book_X9_snap : GoodIn wsX9_book wsX9_snap := goodIn_r _ [54, 55, 56, 11, 62, 63, 64, 65, 66, 67, 68, 69, 70, 71, 72, 73, 74, 75, 76] (by decide +kernel) (by decide +kernel)
set_option maxRecDepth 20000 in
theorem gX9_book_X9_snap : GoodIn wsX9_book (wsV RX9 200 RX9 yX9_snap wsX9_snap) := goodIn_app (goodIn_of _ (by decide +kernel)) ggX9_book_X9_snap
set_option maxRecDepth 20000 in
theorem ggX9_book_X9_changedOf : GoodIn wsX9_book wsX9_changedOf := goodIn_r _ [50, 27, 28, 29, 5, 30, 11, 62, 63, 64, 65, 66, 67, 68, 69, 70, 71, 72, 73, 74, 75, 76] (by decide +kernel) (by decide +kernel)
set_option maxRecDepth 20000 in
theorem gX9_book_X9_changedOf : GoodIn wsX9_book (wsV RX9 136 RX9 yX9_changedOf wsX9_changedOf) := goodIn_app (goodIn_of _ (by decide +kernel)) ggX9_book_X9_changedOf
set_option maxRecDepth 20000 in
theorem ggX9_book_X9_putDay : GoodIn wsX9_book wsX9_putDay := goodIn_r _ [60, 11, 61, 62, 63, 64, 65, 66, 67, 68, 69, 70, 71, 72, 73, 74, 75, 76] (by decide +kernel) (by decide +kernel)
set_option maxRecDepth 20000 in
theorem gX9_book_X9_putDay : GoodIn wsX9_book (wsV RX9 207 RX9 yX9_putDay wsX9_putDay) := goodIn_app (goodIn_of _ (by decide +kernel)) ggX9_book_X9_putDay
theorem dX9_book_0 : decode cX9_book 0 = .ok (.aload_n 0, 1) := by decide +kernel
theorem dX9_book_1 : decode cX9_book 1 = .ok (.iconst 0, 1) := by decide +kernel
theorem dX9_book_2 : decode cX9_book 2 = .ok (.putfield 1, 3) := by decide +kernel
theorem dX9_book_5 : decode cX9_book 5 = .ok (.aload_n 0, 1) := by decide +kernel
theorem dX9_book_6 : decode cX9_book 6 = .ok (.iload_n 1, 1) := by decide +kernel
theorem dX9_book_7 : decode cX9_book 7 = .ok (.invokevirtual 162, 3) := by decide +kernel
theorem dX9_book_10 : decode cX9_book 10 = .ok (.ifCond .eq 44, 3) := by decide +kernel
theorem dX9_book_13 : decode cX9_book 13 = .ok (.iload_n 2, 1) := by decide +kernel
theorem dX9_book_14 : decode cX9_book 14 = .ok (.aload_n 0, 1) := by decide +kernel
theorem dX9_book_15 : decode cX9_book 15 = .ok (.invokevirtual 165, 3) := by decide +kernel
theorem dX9_book_18 : decode cX9_book 18 = .ok (.sipush 363, 3) := by decide +kernel
theorem dX9_book_21 : decode cX9_book 21 = .ok (.invokestatic 82, 3) := by decide +kernel
theorem dX9_book_24 : decode cX9_book 24 = .ok (.ifCond .eq 30, 3) := by decide +kernel
theorem dX9_book_27 : decode cX9_book 27 = .ok (.aload_n 0, 1) := by decide +kernel
theorem dX9_book_28 : decode cX9_book 28 = .ok (.iload_n 1, 1) := by decide +kernel
theorem dX9_book_29 : decode cX9_book 29 = .ok (.iload_n 2, 1) := by decide +kernel
theorem dX9_book_30 : decode cX9_book 30 = .ok (.invokevirtual 139, 3) := by decide +kernel
theorem dX9_book_33 : decode cX9_book 33 = .ok (.iload_n 3, 1) := by decide +kernel
theorem dX9_book_34 : decode cX9_book 34 = .ok (.ifCond .eq 7, 3) := by decide +kernel
theorem dX9_book_37 : decode cX9_book 37 = .ok (.iconst 0, 1) := by decide +kernel
theorem dX9_book_38 : decode cX9_book 38 = .ok (.goto 4, 3) := by decide +kernel
theorem dX9_book_41 : decode cX9_book 41 = .ok (.iconst 2, 1) := by decide +kernel
theorem dX9_book_42 : decode cX9_book 42 = .ok (.if_icmp .ne 12, 3) := by decide +kernel
theorem dX9_book_45 : decode cX9_book 45 = .ok (.aload_n 0, 1) := by decide +kernel
theorem dX9_book_46 : decode cX9_book 46 = .ok (.iload_n 1, 1) := by decide +kernel
theorem dX9_book_47 : decode cX9_book 47 = .ok (.iload_n 2, 1) := by decide +kernel
theorem dX9_book_48 : decode cX9_book 48 = .ok (.invokevirtual 142, 3) := by decide +kernel
theorem dX9_book_51 : decode cX9_book 51 = .ok (.ifCond .le 5, 3) := by decide +kernel
theorem dX9_book_54 : decode cX9_book 54 = .ok (.iconst (-1), 1) := by decide +kernel
theorem dX9_book_55 : decode cX9_book 55 = .ok (.ireturn, 1) := by decide +kernel
theorem dX9_book_56 : decode cX9_book 56 = .ok (.iload_n 3, 1) := by decide +kernel
theorem dX9_book_57 : decode cX9_book 57 = .ok (.ifCond .eq 20, 3) := by decide +kernel
theorem dX9_book_60 : decode cX9_book 60 = .ok (.aload_n 0, 1) := by decide +kernel
theorem dX9_book_61 : decode cX9_book 61 = .ok (.iload_n 1, 1) := by decide +kernel
theorem dX9_book_62 : decode cX9_book 62 = .ok (.invokevirtual 182, 3) := by decide +kernel
theorem dX9_book_65 : decode cX9_book 65 = .ok (.aload_n 0, 1) := by decide +kernel
theorem dX9_book_66 : decode cX9_book 66 = .ok (.iload_n 1, 1) := by decide +kernel
theorem dX9_book_67 : decode cX9_book 67 = .ok (.iload_n 2, 1) := by decide +kernel
theorem dX9_book_68 : decode cX9_book 68 = .ok (.invokevirtual 145, 3) := by decide +kernel
theorem dX9_book_71 : decode cX9_book 71 = .ok (.if_icmp .ge 6, 3) := by decide +kernel
theorem dX9_book_74 : decode cX9_book 74 = .ok (.bipush (-2), 2) := by decide +kernel
theorem dX9_book_76 : decode cX9_book 76 = .ok (.ireturn, 1) := by decide +kernel
theorem dX9_book_77 : decode cX9_book 77 = .ok (.aload_n 0, 1) := by decide +kernel
theorem dX9_book_78 : decode cX9_book 78 = .ok (.invokevirtual 200, 3) := by decide +kernel
theorem dX9_book_81 : decode cX9_book 81 = .ok (.aload_n 0, 1) := by decide +kernel
theorem dX9_book_82 : decode cX9_book 82 = .ok (.iload_n 1, 1) := by decide +kernel
theorem dX9_book_83 : decode cX9_book 83 = .ok (.iload_n 2, 1) := by decide +kernel
theorem dX9_book_84 : decode cX9_book 84 = .ok (.aload_n 0, 1) := by decide +kernel
theorem dX9_book_85 : decode cX9_book 85 = .ok (.iload_n 1, 1) := by decide +kernel
theorem dX9_book_86 : decode cX9_book 86 = .ok (.iload_n 2, 1) := by decide +kernel
theorem dX9_book_87 : decode cX9_book 87 = .ok (.invokevirtual 136, 3) := by decide +kernel
theorem dX9_book_90 : decode cX9_book 90 = .ok (.iconst 0, 1) := by decide +kernel
theorem dX9_book_91 : decode cX9_book 91 = .ok (.iload_n 3, 1) := by decide +kernel
theorem dX9_book_92 : decode cX9_book 92 = .ok (.ifCond .eq 7, 3) := by decide +kernel
theorem dX9_book_95 : decode cX9_book 95 = .ok (.iconst 2, 1) := by decide +kernel
theorem dX9_book_96 : decode cX9_book 96 = .ok (.goto 4, 3) := by decide +kernel
theorem dX9_book_99 : decode cX9_book 99 = .ok (.iconst 0, 1) := by decide +kernel
theorem dX9_book_100 : decode cX9_book 100 = .ok (.iconst 0, 1) := by decide +kernel
theorem dX9_book_101 : decode cX9_book 101 = .ok (.invokevirtual 207, 3) := by decide +kernel
theorem dX9_book_104 : decode cX9_book 104 = .ok (.aload_n 0, 1) := by decide +kernel
theorem dX9_book_105 : decode cX9_book 105 = .ok (.iload_n 1, 1) := by decide +kernel
theorem dX9_book_106 : decode cX9_book 106 = .ok (.invokevirtual 182, 3) := by decide +kernel
theorem dX9_book_109 : decode cX9_book 109 = .ok (.ireturn, 1) := by decide +kernel
set_option maxRecDepth 20000 in
theorem ggX9_closes_X9_today : GoodIn wsX9_closes wsX9_today := goodIn_r _ [6, 1, 51, 52, 53, 54, 55, 56, 57, 58, 59, 60, 61, 62, 63, 64, 65] (by decide +kernel) (by decide +kernel)
set_option maxRecDepth 20000 in
theorem gX9_closes_X9_today : GoodIn wsX9_closes (wsV RX9 165 RX9 yX9_today wsX9_today) := goodIn_app (goodIn_of _ (by decide +kernel)) ggX9_closes_X9_today
set_option maxRecDepth 20000 in
theorem ggX9_closes_X9_kindOf : GoodIn wsX9_closes wsX9_kindOf := goodIn_r _ [10, 11, 12, 13, 5, 14, 1, 51, 52, 53, 54, 55, 56, 57, 58, 59, 60, 61, 62, 63, 64, 65] (by decide +kernel) (by decide +kernel)
set_option maxRecDepth 20000 in
theorem gX9_closes_X9_kindOf : GoodIn wsX9_closes (wsV RX9 139 RX9 yX9_kindOf wsX9_kindOf) := goodIn_app (goodIn_of _ (by decide +kernel)) ggX9_closes_X9_kindOf
set_option maxRecDepth 20000 in
theorem ggX9_closes_X9_workedOf : GoodIn wsX9_closes wsX9_workedOf := goodIn_r _ [18, 11, 12, 13, 5, 14, 1, 51, 52, 53, 54, 55, 56, 57, 58, 59, 60, 61, 62, 63, 64, 65] (by decide +kernel) (by decide +kernel)
set_option maxRecDepth 20000 in
theorem gX9_closes_X9_workedOf : GoodIn wsX9_closes (wsV RX9 142 RX9 yX9_workedOf wsX9_workedOf) := goodIn_app (goodIn_of _ (by decide +kernel)) ggX9_closes_X9_workedOf
set_option maxRecDepth 20000 in
theorem ggX9_closes_X9_plannedOf : GoodIn wsX9_closes wsX9_plannedOf := goodIn_r _ [22, 1, 23, 24, 25, 5, 26, 11, 12, 13, 14, 27, 28, 29, 51, 52, 53, 54, 55, 56, 57, 58, 59, 60, 61, 62, 63, 64, 65] (by decide +kernel) (by decide +kernel)
set_option maxRecDepth 20000 in
theorem gX9_closes_X9_plannedOf : GoodIn wsX9_closes (wsV RX9 145 RX9 yX9_plannedOf wsX9_plannedOf) := goodIn_app (goodIn_of _ (by decide +kernel)) ggX9_closes_X9_plannedOf
set_option maxRecDepth 20000 in
theorem ggX9_closes_X9_adds : GoodIn wsX9_closes wsX9_adds := goodIn_r _ [33, 1, 51, 52, 53, 54, 55, 56, 57, 58, 59, 60, 61, 62, 63, 64, 65] (by decide +kernel) (by decide +kernel)
set_option maxRecDepth 20000 in
theorem gX9_closes_X9_adds : GoodIn wsX9_closes (wsV RX9 203 RX9 yX9_adds wsX9_adds) := goodIn_app (goodIn_of _ (by decide +kernel)) ggX9_closes_X9_adds
set_option maxRecDepth 20000 in
theorem ggX9_closes_X9_its : GoodIn wsX9_closes wsX9_its := goodIn_r _ [37, 1, 51, 52, 53, 54, 55, 56, 57, 58, 59, 60, 61, 62, 63, 64, 65] (by decide +kernel) (by decide +kernel)
set_option maxRecDepth 20000 in
theorem gX9_closes_X9_its : GoodIn wsX9_closes (wsV RX9 128 RX9 yX9_its wsX9_its) := goodIn_app (goodIn_of _ (by decide +kernel)) ggX9_closes_X9_its
set_option maxRecDepth 20000 in
theorem ggX9_closes_X9_loads : GoodIn wsX9_closes wsX9_loads := goodIn_r _ [41, 42, 43, 44, 5, 45, 7, 8, 9, 10, 11, 12, 13, 14, 1, 15, 16, 17, 18, 19, 20, 21, 22, 23, 24, 25, 26, 27, 28, 29, 51, 52, 53, 54, 55, 56, 57, 58, 59, 60, 61, 62, 63, 64, 65] (by decide +kernel) (by decide +kernel)
set_option maxRecDepth 20000 in
theorem gX9_closes_X9_loads : GoodIn wsX9_closes (wsV RX9 191 RX9 yX9_loads wsX9_loads) := goodIn_app (goodIn_of _ (by decide +kernel)) ggX9_closes_X9_loads
set_option maxRecDepth 20000 in
theorem ggX9_closes_X9_changedOf : GoodIn wsX9_closes wsX9_changedOf := goodIn_r _ [26, 11, 12, 13, 5, 14, 1, 51, 52, 53, 54, 55, 56, 57, 58, 59, 60, 61, 62, 63, 64, 65] (by decide +kernel) (by decide +kernel)
set_option maxRecDepth 20000 in
theorem gX9_closes_X9_changedOf : GoodIn wsX9_closes (wsV RX9 136 RX9 yX9_changedOf wsX9_changedOf) := goodIn_app (goodIn_of _ (by decide +kernel)) ggX9_closes_X9_changedOf
set_option maxRecDepth 20000 in
theorem ggX9_closes_X9_putDay : GoodIn wsX9_closes wsX9_putDay := goodIn_r _ [49, 1, 50, 51, 52, 53, 54, 55, 56, 57, 58, 59, 60, 61, 62, 63, 64, 65] (by decide +kernel) (by decide +kernel)
set_option maxRecDepth 20000 in
theorem gX9_closes_X9_putDay : GoodIn wsX9_closes (wsV RX9 207 RX9 yX9_putDay wsX9_putDay) := goodIn_app (goodIn_of _ (by decide +kernel)) ggX9_closes_X9_putDay
theorem dX9_closes_0 : decode cX9_closes 0 = .ok (.aload_n 0, 1) := by decide +kernel
theorem dX9_closes_1 : decode cX9_closes 1 = .ok (.invokevirtual 165, 3) := by decide +kernel
theorem dX9_closes_4 : decode cX9_closes 4 = .ok (.istore_n 2, 1) := by decide +kernel
theorem dX9_closes_5 : decode cX9_closes 5 = .ok (.aload_n 0, 1) := by decide +kernel
theorem dX9_closes_6 : decode cX9_closes 6 = .ok (.iload_n 1, 1) := by decide +kernel
theorem dX9_closes_7 : decode cX9_closes 7 = .ok (.iload_n 2, 1) := by decide +kernel
theorem dX9_closes_8 : decode cX9_closes 8 = .ok (.invokevirtual 139, 3) := by decide +kernel
theorem dX9_closes_11 : decode cX9_closes 11 = .ok (.ifCond .ne 129, 3) := by decide +kernel
theorem dX9_closes_14 : decode cX9_closes 14 = .ok (.aload_n 0, 1) := by decide +kernel
theorem dX9_closes_15 : decode cX9_closes 15 = .ok (.iload_n 1, 1) := by decide +kernel
theorem dX9_closes_16 : decode cX9_closes 16 = .ok (.iconst 2, 1) := by decide +kernel
theorem dX9_closes_17 : decode cX9_closes 17 = .ok (.aload_n 0, 1) := by decide +kernel
theorem dX9_closes_18 : decode cX9_closes 18 = .ok (.iload_n 1, 1) := by decide +kernel
theorem dX9_closes_19 : decode cX9_closes 19 = .ok (.iload_n 2, 1) := by decide +kernel
theorem dX9_closes_20 : decode cX9_closes 20 = .ok (.invokevirtual 142, 3) := by decide +kernel
theorem dX9_closes_23 : decode cX9_closes 23 = .ok (.aload_n 0, 1) := by decide +kernel
theorem dX9_closes_24 : decode cX9_closes 24 = .ok (.iload_n 1, 1) := by decide +kernel
theorem dX9_closes_25 : decode cX9_closes 25 = .ok (.iload_n 2, 1) := by decide +kernel
theorem dX9_closes_26 : decode cX9_closes 26 = .ok (.invokevirtual 145, 3) := by decide +kernel
theorem dX9_closes_29 : decode cX9_closes 29 = .ok (.isub, 1) := by decide +kernel
theorem dX9_closes_30 : decode cX9_closes 30 = .ok (.invokevirtual 203, 3) := by decide +kernel
theorem dX9_closes_33 : decode cX9_closes 33 = .ok (.aload_n 0, 1) := by decide +kernel
theorem dX9_closes_34 : decode cX9_closes 34 = .ok (.iload_n 1, 1) := by decide +kernel
theorem dX9_closes_35 : decode cX9_closes 35 = .ok (.iconst 2, 1) := by decide +kernel
theorem dX9_closes_36 : decode cX9_closes 36 = .ok (.invokevirtual 128, 3) := by decide +kernel
theorem dX9_closes_39 : decode cX9_closes 39 = .ok (.aload_n 0, 1) := by decide +kernel
theorem dX9_closes_40 : decode cX9_closes 40 = .ok (.getfield 70, 3) := by decide +kernel
theorem dX9_closes_43 : decode cX9_closes 43 = .ok (.iconst 1, 1) := by decide +kernel
theorem dX9_closes_44 : decode cX9_closes 44 = .ok (.iaload, 1) := by decide +kernel
theorem dX9_closes_45 : decode cX9_closes 45 = .ok (.isub, 1) := by decide +kernel
theorem dX9_closes_46 : decode cX9_closes 46 = .ok (.istore_n 3, 1) := by decide +kernel
theorem dX9_closes_47 : decode cX9_closes 47 = .ok (.aload_n 0, 1) := by decide +kernel
theorem dX9_closes_48 : decode cX9_closes 48 = .ok (.getfield 70, 3) := by decide +kernel
theorem dX9_closes_51 : decode cX9_closes 51 = .ok (.iconst 0, 1) := by decide +kernel
theorem dX9_closes_52 : decode cX9_closes 52 = .ok (.iaload, 1) := by decide +kernel
theorem dX9_closes_53 : decode cX9_closes 53 = .ok (.ineg, 1) := by decide +kernel
theorem dX9_closes_54 : decode cX9_closes 54 = .ok (.aload_n 0, 1) := by decide +kernel
theorem dX9_closes_55 : decode cX9_closes 55 = .ok (.iload_n 1, 1) := by decide +kernel
theorem dX9_closes_56 : decode cX9_closes 56 = .ok (.iconst 2, 1) := by decide +kernel
theorem dX9_closes_57 : decode cX9_closes 57 = .ok (.invokevirtual 128, 3) := by decide +kernel
theorem dX9_closes_60 : decode cX9_closes 60 = .ok (.isub, 1) := by decide +kernel
theorem dX9_closes_61 : decode cX9_closes 61 = .ok (.istore 4, 2) := by decide +kernel
theorem dX9_closes_63 : decode cX9_closes 63 = .ok (.iload_n 3, 1) := by decide +kernel
theorem dX9_closes_64 : decode cX9_closes 64 = .ok (.ifCond .le 39, 3) := by decide +kernel
theorem dX9_closes_67 : decode cX9_closes 67 = .ok (.aload_n 0, 1) := by decide +kernel
theorem dX9_closes_68 : decode cX9_closes 68 = .ok (.iload_n 1, 1) := by decide +kernel
theorem dX9_closes_69 : decode cX9_closes 69 = .ok (.iconst 2, 1) := by decide +kernel
theorem dX9_closes_70 : decode cX9_closes 70 = .ok (.iload_n 3, 1) := by decide +kernel
theorem dX9_closes_71 : decode cX9_closes 71 = .ok (.ineg, 1) := by decide +kernel
theorem dX9_closes_72 : decode cX9_closes 72 = .ok (.invokevirtual 203, 3) := by decide +kernel
theorem dX9_closes_75 : decode cX9_closes 75 = .ok (.aload_n 0, 1) := by decide +kernel
theorem dX9_closes_76 : decode cX9_closes 76 = .ok (.iload_n 1, 1) := by decide +kernel
theorem dX9_closes_77 : decode cX9_closes 77 = .ok (.iconst 3, 1) := by decide +kernel
theorem dX9_closes_78 : decode cX9_closes 78 = .ok (.iload_n 3, 1) := by decide +kernel
theorem dX9_closes_79 : decode cX9_closes 79 = .ok (.invokevirtual 203, 3) := by decide +kernel
theorem dX9_closes_82 : decode cX9_closes 82 = .ok (.aload_n 0, 1) := by decide +kernel
theorem dX9_closes_83 : decode cX9_closes 83 = .ok (.iload_n 1, 1) := by decide +kernel
theorem dX9_closes_84 : decode cX9_closes 84 = .ok (.iconst 5, 1) := by decide +kernel
theorem dX9_closes_85 : decode cX9_closes 85 = .ok (.iload_n 3, 1) := by decide +kernel
theorem dX9_closes_86 : decode cX9_closes 86 = .ok (.aload_n 0, 1) := by decide +kernel
theorem dX9_closes_87 : decode cX9_closes 87 = .ok (.iload_n 1, 1) := by decide +kernel
theorem dX9_closes_88 : decode cX9_closes 88 = .ok (.iconst 0, 1) := by decide +kernel
theorem dX9_closes_89 : decode cX9_closes 89 = .ok (.invokevirtual 128, 3) := by decide +kernel
theorem dX9_closes_92 : decode cX9_closes 92 = .ok (.imul, 1) := by decide +kernel
theorem dX9_closes_93 : decode cX9_closes 93 = .ok (.iconst 3, 1) := by decide +kernel
theorem dX9_closes_94 : decode cX9_closes 94 = .ok (.imul, 1) := by decide +kernel
theorem dX9_closes_95 : decode cX9_closes 95 = .ok (.iconst 2, 1) := by decide +kernel
theorem dX9_closes_96 : decode cX9_closes 96 = .ok (.idiv, 1) := by decide +kernel
theorem dX9_closes_97 : decode cX9_closes 97 = .ok (.invokevirtual 203, 3) := by decide +kernel
theorem dX9_closes_100 : decode cX9_closes 100 = .ok (.goto 40, 3) := by decide +kernel
theorem dX9_closes_103 : decode cX9_closes 103 = .ok (.iload 4, 2) := by decide +kernel
theorem dX9_closes_105 : decode cX9_closes 105 = .ok (.ifCond .le 35, 3) := by decide +kernel
theorem dX9_closes_108 : decode cX9_closes 108 = .ok (.aload_n 0, 1) := by decide +kernel
theorem dX9_closes_109 : decode cX9_closes 109 = .ok (.iload_n 1, 1) := by decide +kernel
theorem dX9_closes_110 : decode cX9_closes 110 = .ok (.iconst 2, 1) := by decide +kernel
theorem dX9_closes_111 : decode cX9_closes 111 = .ok (.iload 4, 2) := by decide +kernel
theorem dX9_closes_113 : decode cX9_closes 113 = .ok (.invokevirtual 203, 3) := by decide +kernel
theorem dX9_closes_116 : decode cX9_closes 116 = .ok (.aload_n 0, 1) := by decide +kernel
theorem dX9_closes_117 : decode cX9_closes 117 = .ok (.iload_n 1, 1) := by decide +kernel
theorem dX9_closes_118 : decode cX9_closes 118 = .ok (.iconst 4, 1) := by decide +kernel
theorem dX9_closes_119 : decode cX9_closes 119 = .ok (.iload 4, 2) := by decide +kernel
theorem dX9_closes_121 : decode cX9_closes 121 = .ok (.invokevirtual 203, 3) := by decide +kernel
theorem dX9_closes_124 : decode cX9_closes 124 = .ok (.aload_n 0, 1) := by decide +kernel
theorem dX9_closes_125 : decode cX9_closes 125 = .ok (.iload_n 1, 1) := by decide +kernel
theorem dX9_closes_126 : decode cX9_closes 126 = .ok (.bipush 7, 2) := by decide +kernel
theorem dX9_closes_128 : decode cX9_closes 128 = .ok (.iload 4, 2) := by decide +kernel
theorem dX9_closes_130 : decode cX9_closes 130 = .ok (.aload_n 0, 1) := by decide +kernel
theorem dX9_closes_131 : decode cX9_closes 131 = .ok (.iload_n 1, 1) := by decide +kernel
theorem dX9_closes_132 : decode cX9_closes 132 = .ok (.iconst 0, 1) := by decide +kernel
theorem dX9_closes_133 : decode cX9_closes 133 = .ok (.invokevirtual 128, 3) := by decide +kernel
theorem dX9_closes_136 : decode cX9_closes 136 = .ok (.imul, 1) := by decide +kernel
theorem dX9_closes_137 : decode cX9_closes 137 = .ok (.invokevirtual 203, 3) := by decide +kernel
theorem dX9_closes_140 : decode cX9_closes 140 = .ok (.aload_n 0, 1) := by decide +kernel
theorem dX9_closes_141 : decode cX9_closes 141 = .ok (.iload_n 1, 1) := by decide +kernel
theorem dX9_closes_142 : decode cX9_closes 142 = .ok (.iload_n 2, 1) := by decide +kernel
theorem dX9_closes_143 : decode cX9_closes 143 = .ok (.aload_n 0, 1) := by decide +kernel
theorem dX9_closes_144 : decode cX9_closes 144 = .ok (.getfield 70, 3) := by decide +kernel
theorem dX9_closes_147 : decode cX9_closes 147 = .ok (.iconst 2, 1) := by decide +kernel
theorem dX9_closes_148 : decode cX9_closes 148 = .ok (.iaload, 1) := by decide +kernel
theorem dX9_closes_149 : decode cX9_closes 149 = .ok (.isub, 1) := by decide +kernel
theorem dX9_closes_150 : decode cX9_closes 150 = .ok (.iconst 1, 1) := by decide +kernel
theorem dX9_closes_151 : decode cX9_closes 151 = .ok (.iadd, 1) := by decide +kernel
theorem dX9_closes_152 : decode cX9_closes 152 = .ok (.iload_n 2, 1) := by decide +kernel
theorem dX9_closes_153 : decode cX9_closes 153 = .ok (.invokevirtual 191, 3) := by decide +kernel
theorem dX9_closes_156 : decode cX9_closes 156 = .ok (.aload_n 0, 1) := by decide +kernel
theorem dX9_closes_157 : decode cX9_closes 157 = .ok (.getfield 70, 3) := by decide +kernel
theorem dX9_closes_160 : decode cX9_closes 160 = .ok (.iconst 3, 1) := by decide +kernel
theorem dX9_closes_161 : decode cX9_closes 161 = .ok (.iaload, 1) := by decide +kernel
theorem dX9_closes_162 : decode cX9_closes 162 = .ok (.if_icmp .le 7, 3) := by decide +kernel
theorem dX9_closes_165 : decode cX9_closes 165 = .ok (.iconst 1, 1) := by decide +kernel
theorem dX9_closes_166 : decode cX9_closes 166 = .ok (.goto 4, 3) := by decide +kernel
theorem dX9_closes_169 : decode cX9_closes 169 = .ok (.iconst 0, 1) := by decide +kernel
theorem dX9_closes_170 : decode cX9_closes 170 = .ok (.istore_n 3, 1) := by decide +kernel
theorem dX9_closes_171 : decode cX9_closes 171 = .ok (.iload_n 3, 1) := by decide +kernel
theorem dX9_closes_172 : decode cX9_closes 172 = .ok (.ifCond .eq 28, 3) := by decide +kernel
theorem dX9_closes_175 : decode cX9_closes 175 = .ok (.aload_n 0, 1) := by decide +kernel
theorem dX9_closes_176 : decode cX9_closes 176 = .ok (.iload_n 1, 1) := by decide +kernel
theorem dX9_closes_177 : decode cX9_closes 177 = .ok (.iload_n 2, 1) := by decide +kernel
theorem dX9_closes_178 : decode cX9_closes 178 = .ok (.aload_n 0, 1) := by decide +kernel
theorem dX9_closes_179 : decode cX9_closes 179 = .ok (.iload_n 1, 1) := by decide +kernel
theorem dX9_closes_180 : decode cX9_closes 180 = .ok (.iload_n 2, 1) := by decide +kernel
theorem dX9_closes_181 : decode cX9_closes 181 = .ok (.invokevirtual 136, 3) := by decide +kernel
theorem dX9_closes_184 : decode cX9_closes 184 = .ok (.aload_n 0, 1) := by decide +kernel
theorem dX9_closes_185 : decode cX9_closes 185 = .ok (.iload_n 1, 1) := by decide +kernel
theorem dX9_closes_186 : decode cX9_closes 186 = .ok (.iload_n 2, 1) := by decide +kernel
theorem dX9_closes_187 : decode cX9_closes 187 = .ok (.invokevirtual 142, 3) := by decide +kernel
theorem dX9_closes_190 : decode cX9_closes 190 = .ok (.aload_n 0, 1) := by decide +kernel
theorem dX9_closes_191 : decode cX9_closes 191 = .ok (.iload_n 1, 1) := by decide +kernel
theorem dX9_closes_192 : decode cX9_closes 192 = .ok (.iload_n 2, 1) := by decide +kernel
theorem dX9_closes_193 : decode cX9_closes 193 = .ok (.invokevirtual 139, 3) := by decide +kernel
theorem dX9_closes_196 : decode cX9_closes 196 = .ok (.iconst 1, 1) := by decide +kernel
theorem dX9_closes_197 : decode cX9_closes 197 = .ok (.invokevirtual 207, 3) := by decide +kernel
theorem dX9_closes_200 : decode cX9_closes 200 = .ok (.iload_n 3, 1) := by decide +kernel
theorem dX9_closes_201 : decode cX9_closes 201 = .ok (.ireturn, 1) := by decide +kernel
set_option maxRecDepth 20000 in
theorem ggX9_endDay_X9_today : GoodIn wsX9_endDay wsX9_today := goodIn_r _ [7, 2, 70, 71, 72, 73, 74, 75, 76, 77, 78, 79, 80, 81, 82, 83, 84] (by decide +kernel) (by decide +kernel)
set_option maxRecDepth 20000 in
theorem gX9_endDay_X9_today : GoodIn wsX9_endDay (wsV RX9 165 RX9 yX9_today wsX9_today) := goodIn_app (goodIn_of _ (by decide +kernel)) ggX9_endDay_X9_today
set_option maxRecDepth 20000 in
theorem ggX9_endDay_X9_snap : GoodIn wsX9_endDay wsX9_snap := goodIn_r _ [11, 12, 13, 2, 70, 71, 72, 73, 74, 75, 76, 77, 78, 79, 80, 81, 82, 83, 84] (by decide +kernel) (by decide +kernel)
set_option maxRecDepth 20000 in
theorem gX9_endDay_X9_snap : GoodIn wsX9_endDay (wsV RX9 200 RX9 yX9_snap wsX9_snap) := goodIn_app (goodIn_of _ (by decide +kernel)) ggX9_endDay_X9_snap
set_option maxRecDepth 20000 in
theorem ggX9_endDay_X9_isHere : GoodIn wsX9_endDay wsX9_isHere := goodIn_r _ [17, 18, 19, 20, 6, 21, 2, 22, 23, 24, 25, 26, 27, 28, 70, 71, 72, 73, 74, 75, 76, 77, 78, 79, 80, 81, 82, 83, 84] (by decide +kernel) (by decide +kernel)
set_option maxRecDepth 20000 in
theorem gX9_endDay_X9_isHere : GoodIn wsX9_endDay (wsV RX9 162 RX9 yX9_isHere wsX9_isHere) := goodIn_app (goodIn_of _ (by decide +kernel)) ggX9_endDay_X9_isHere
set_option maxRecDepth 20000 in
theorem ggX9_endDay_X9_closes : GoodIn wsX9_endDay wsX9_closes := goodIn_r _ [32, 2, 3, 4, 5, 6, 7, 33, 34, 35, 36, 37, 38, 39, 40, 41, 42, 43, 44, 45, 46, 47, 48, 49, 50, 51, 52, 22, 23, 24, 53, 54, 55, 56, 25, 26, 27, 28, 57, 58, 59, 60, 61, 62, 63, 64, 65, 66, 67, 68, 69, 70, 71, 72, 73, 74, 75, 76, 77, 78, 79, 80, 81, 82, 83, 84] (by decide +kernel) (by decide +kernel)
set_option maxRecDepth 20000 in
theorem gX9_endDay_X9_closes : GoodIn wsX9_endDay (wsV RX9 211 RX9 yX9_closes wsX9_closes) := goodIn_app (goodIn_of _ (by decide +kernel)) ggX9_endDay_X9_closes
theorem dX9_endDay_0 : decode cX9_endDay 0 = .ok (.aload_n 0, 1) := by decide +kernel
theorem dX9_endDay_1 : decode cX9_endDay 1 = .ok (.iconst 0, 1) := by decide +kernel
theorem dX9_endDay_2 : decode cX9_endDay 2 = .ok (.putfield 1, 3) := by decide +kernel
theorem dX9_endDay_5 : decode cX9_endDay 5 = .ok (.aload_n 0, 1) := by decide +kernel
theorem dX9_endDay_6 : decode cX9_endDay 6 = .ok (.invokevirtual 165, 3) := by decide +kernel
theorem dX9_endDay_9 : decode cX9_endDay 9 = .ok (.sipush 364, 3) := by decide +kernel
theorem dX9_endDay_12 : decode cX9_endDay 12 = .ok (.if_icmp .ne 5, 3) := by decide +kernel
theorem dX9_endDay_15 : decode cX9_endDay 15 = .ok (.iconst (-1), 1) := by decide +kernel
theorem dX9_endDay_16 : decode cX9_endDay 16 = .ok (.ireturn, 1) := by decide +kernel
theorem dX9_endDay_17 : decode cX9_endDay 17 = .ok (.aload_n 0, 1) := by decide +kernel
theorem dX9_endDay_18 : decode cX9_endDay 18 = .ok (.invokevirtual 200, 3) := by decide +kernel
theorem dX9_endDay_21 : decode cX9_endDay 21 = .ok (.iconst 0, 1) := by decide +kernel
theorem dX9_endDay_22 : decode cX9_endDay 22 = .ok (.istore_n 1, 1) := by decide +kernel
theorem dX9_endDay_23 : decode cX9_endDay 23 = .ok (.iconst 0, 1) := by decide +kernel
theorem dX9_endDay_24 : decode cX9_endDay 24 = .ok (.istore_n 2, 1) := by decide +kernel
theorem dX9_endDay_25 : decode cX9_endDay 25 = .ok (.iload_n 2, 1) := by decide +kernel
theorem dX9_endDay_26 : decode cX9_endDay 26 = .ok (.aload_n 0, 1) := by decide +kernel
theorem dX9_endDay_27 : decode cX9_endDay 27 = .ok (.getfield 70, 3) := by decide +kernel
theorem dX9_endDay_30 : decode cX9_endDay 30 = .ok (.bipush 57, 2) := by decide +kernel
theorem dX9_endDay_32 : decode cX9_endDay 32 = .ok (.iaload, 1) := by decide +kernel
theorem dX9_endDay_33 : decode cX9_endDay 33 = .ok (.if_icmp .ge 28, 3) := by decide +kernel
theorem dX9_endDay_36 : decode cX9_endDay 36 = .ok (.aload_n 0, 1) := by decide +kernel
theorem dX9_endDay_37 : decode cX9_endDay 37 = .ok (.iload_n 2, 1) := by decide +kernel
theorem dX9_endDay_38 : decode cX9_endDay 38 = .ok (.invokevirtual 162, 3) := by decide +kernel
theorem dX9_endDay_41 : decode cX9_endDay 41 = .ok (.ifCond .eq 14, 3) := by decide +kernel
theorem dX9_endDay_44 : decode cX9_endDay 44 = .ok (.aload_n 0, 1) := by decide +kernel
theorem dX9_endDay_45 : decode cX9_endDay 45 = .ok (.iload_n 2, 1) := by decide +kernel
theorem dX9_endDay_46 : decode cX9_endDay 46 = .ok (.invokevirtual 211, 3) := by decide +kernel
theorem dX9_endDay_49 : decode cX9_endDay 49 = .ok (.ifCond .eq 6, 3) := by decide +kernel
theorem dX9_endDay_52 : decode cX9_endDay 52 = .ok (.iinc 1 1, 3) := by decide +kernel
theorem dX9_endDay_55 : decode cX9_endDay 55 = .ok (.iinc 2 1, 3) := by decide +kernel
theorem dX9_endDay_58 : decode cX9_endDay 58 = .ok (.goto (-33), 3) := by decide +kernel
theorem dX9_endDay_61 : decode cX9_endDay 61 = .ok (.aload_n 0, 1) := by decide +kernel
theorem dX9_endDay_62 : decode cX9_endDay 62 = .ok (.getfield 70, 3) := by decide +kernel
theorem dX9_endDay_65 : decode cX9_endDay 65 = .ok (.bipush 110, 2) := by decide +kernel
theorem dX9_endDay_67 : decode cX9_endDay 67 = .ok (.dup2, 1) := by decide +kernel
theorem dX9_endDay_68 : decode cX9_endDay 68 = .ok (.iaload, 1) := by decide +kernel
theorem dX9_endDay_69 : decode cX9_endDay 69 = .ok (.iconst 1, 1) := by decide +kernel
theorem dX9_endDay_70 : decode cX9_endDay 70 = .ok (.iadd, 1) := by decide +kernel
theorem dX9_endDay_71 : decode cX9_endDay 71 = .ok (.iastore, 1) := by decide +kernel
theorem dX9_endDay_72 : decode cX9_endDay 72 = .ok (.iload_n 1, 1) := by decide +kernel
theorem dX9_endDay_73 : decode cX9_endDay 73 = .ok (.ireturn, 1) := by decide +kernel
set_option maxRecDepth 20000 in
theorem ggX9_dueOf_X9_its : GoodIn wsX9_dueOf wsX9_its := goodIn_r _ [5, 6, 34, 35, 36, 37, 38, 39, 40, 41, 42, 43, 44, 45, 46, 47, 48] (by decide +kernel) (by decide +kernel)
set_option maxRecDepth 20000 in
theorem gX9_dueOf_X9_its : GoodIn wsX9_dueOf (wsV RX9 128 RX9 yX9_its wsX9_its) := goodIn_app (goodIn_of _ (by decide +kernel)) ggX9_dueOf_X9_its
set_option maxRecDepth 20000 in
theorem ggX9_dueOf_X9_today : GoodIn wsX9_dueOf wsX9_today := goodIn_r _ [10, 6, 34, 35, 36, 37, 38, 39, 40, 41, 42, 43, 44, 45, 46, 47, 48] (by decide +kernel) (by decide +kernel)
set_option maxRecDepth 20000 in
theorem gX9_dueOf_X9_today : GoodIn wsX9_dueOf (wsV RX9 165 RX9 yX9_today wsX9_today) := goodIn_app (goodIn_of _ (by decide +kernel)) ggX9_dueOf_X9_today
set_option maxRecDepth 20000 in
theorem ggX9_dueOf_X9_onLeave : GoodIn wsX9_dueOf wsX9_onLeave := goodIn_r _ [14, 15, 16, 17, 4, 18, 19, 20, 21, 22, 6, 23, 24, 25, 26, 27, 28, 29, 30, 31, 32, 33, 34, 35, 36, 37, 38, 39, 40, 41, 42, 43, 44, 45, 46, 47, 48] (by decide +kernel) (by decide +kernel)
set_option maxRecDepth 20000 in
theorem gX9_dueOf_X9_onLeave : GoodIn wsX9_dueOf (wsV RX9 151 RX9 yX9_onLeave wsX9_onLeave) := goodIn_app (goodIn_of _ (by decide +kernel)) ggX9_dueOf_X9_onLeave
theorem dX9_dueOf_0 : decode cX9_dueOf 0 = .ok (.aload_n 0, 1) := by decide +kernel
theorem dX9_dueOf_1 : decode cX9_dueOf 1 = .ok (.iload_n 1, 1) := by decide +kernel
theorem dX9_dueOf_2 : decode cX9_dueOf 2 = .ok (.iconst 1, 1) := by decide +kernel
theorem dX9_dueOf_3 : decode cX9_dueOf 3 = .ok (.invokevirtual 128, 3) := by decide +kernel
theorem dX9_dueOf_6 : decode cX9_dueOf 6 = .ok (.aload_n 0, 1) := by decide +kernel
theorem dX9_dueOf_7 : decode cX9_dueOf 7 = .ok (.invokevirtual 165, 3) := by decide +kernel
theorem dX9_dueOf_10 : decode cX9_dueOf 10 = .ok (.imul, 1) := by decide +kernel
theorem dX9_dueOf_11 : decode cX9_dueOf 11 = .ok (.sipush 364, 3) := by decide +kernel
theorem dX9_dueOf_14 : decode cX9_dueOf 14 = .ok (.idiv, 1) := by decide +kernel
theorem dX9_dueOf_15 : decode cX9_dueOf 15 = .ok (.istore_n 2, 1) := by decide +kernel
theorem dX9_dueOf_16 : decode cX9_dueOf 16 = .ok (.aload_n 0, 1) := by decide +kernel
theorem dX9_dueOf_17 : decode cX9_dueOf 17 = .ok (.iload_n 1, 1) := by decide +kernel
theorem dX9_dueOf_18 : decode cX9_dueOf 18 = .ok (.iconst 2, 1) := by decide +kernel
theorem dX9_dueOf_19 : decode cX9_dueOf 19 = .ok (.invokevirtual 128, 3) := by decide +kernel
theorem dX9_dueOf_22 : decode cX9_dueOf 22 = .ok (.aload_n 0, 1) := by decide +kernel
theorem dX9_dueOf_23 : decode cX9_dueOf 23 = .ok (.iload_n 1, 1) := by decide +kernel
theorem dX9_dueOf_24 : decode cX9_dueOf 24 = .ok (.iconst 0, 1) := by decide +kernel
theorem dX9_dueOf_25 : decode cX9_dueOf 25 = .ok (.invokevirtual 128, 3) := by decide +kernel
