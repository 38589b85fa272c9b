theorem dX3_firstDayOutOfBounds_42 : decode cX3_firstDayOutOfBounds 42 = .ok (.bipush 96, 2) := by decide +kernel
theorem dX3_firstDayOutOfBounds_44 : decode cX3_firstDayOutOfBounds 44 = .ok (.invokestatic 104, 3) := by decide +kernel
theorem dX3_firstDayOutOfBounds_47 : decode cX3_firstDayOutOfBounds 47 = .ok (.invokestatic 69, 3) := by decide +kernel
theorem dX3_firstDayOutOfBounds_50 : decode cX3_firstDayOutOfBounds 50 = .ok (.iload 5, 2) := by decide +kernel
theorem dX3_firstDayOutOfBounds_52 : decode cX3_firstDayOutOfBounds 52 = .ok (.isub, 1) := by decide +kernel
theorem dX3_firstDayOutOfBounds_53 : decode cX3_firstDayOutOfBounds 53 = .ok (.iadd, 1) := by decide +kernel
theorem dX3_firstDayOutOfBounds_54 : decode cX3_firstDayOutOfBounds 54 = .ok (.istore_n 3, 1) := by decide +kernel
theorem dX3_firstDayOutOfBounds_55 : decode cX3_firstDayOutOfBounds 55 = .ok (.iload_n 3, 1) := by decide +kernel
theorem dX3_firstDayOutOfBounds_56 : decode cX3_firstDayOutOfBounds 56 = .ok (.aload_n 0, 1) := by decide +kernel
theorem dX3_firstDayOutOfBounds_57 : decode cX3_firstDayOutOfBounds 57 = .ok (.getfield 33, 3) := by decide +kernel
theorem dX3_firstDayOutOfBounds_60 : decode cX3_firstDayOutOfBounds 60 = .ok (.invokevirtual 107, 3) := by decide +kernel
theorem dX3_firstDayOutOfBounds_63 : decode cX3_firstDayOutOfBounds 63 = .ok (.if_icmp .gt 15, 3) := by decide +kernel
theorem dX3_firstDayOutOfBounds_66 : decode cX3_firstDayOutOfBounds 66 = .ok (.iload_n 3, 1) := by decide +kernel
theorem dX3_firstDayOutOfBounds_67 : decode cX3_firstDayOutOfBounds 67 = .ok (.aload_n 0, 1) := by decide +kernel
theorem dX3_firstDayOutOfBounds_68 : decode cX3_firstDayOutOfBounds 68 = .ok (.getfield 33, 3) := by decide +kernel
theorem dX3_firstDayOutOfBounds_71 : decode cX3_firstDayOutOfBounds 71 = .ok (.invokevirtual 110, 3) := by decide +kernel
theorem dX3_firstDayOutOfBounds_74 : decode cX3_firstDayOutOfBounds 74 = .ok (.ineg, 1) := by decide +kernel
theorem dX3_firstDayOutOfBounds_75 : decode cX3_firstDayOutOfBounds 75 = .ok (.if_icmp .ge 6, 3) := by decide +kernel
theorem dX3_firstDayOutOfBounds_78 : decode cX3_firstDayOutOfBounds 78 = .ok (.iload 4, 2) := by decide +kernel
theorem dX3_firstDayOutOfBounds_80 : decode cX3_firstDayOutOfBounds 80 = .ok (.ireturn, 1) := by decide +kernel
theorem dX3_firstDayOutOfBounds_81 : decode cX3_firstDayOutOfBounds 81 = .ok (.iinc 4 1, 3) := by decide +kernel
theorem dX3_firstDayOutOfBounds_84 : decode cX3_firstDayOutOfBounds 84 = .ok (.goto (-73), 3) := by decide +kernel
theorem dX3_firstDayOutOfBounds_87 : decode cX3_firstDayOutOfBounds 87 = .ok (.bipush (-2), 2) := by decide +kernel
theorem dX3_firstDayOutOfBounds_89 : decode cX3_firstDayOutOfBounds 89 = .ok (.ireturn, 1) := by decide +kernel
set_option maxRecDepth 20000 in
theorem ggX3_closeDay_X3_kindOn : GoodIn wsX3_closeDay wsX3_kindOn := goodIn_r _ [9, 10, 11, 12, 13, 8, 14, 3, 15, 79, 80, 81, 82, 83, 84, 85, 86, 87, 88, 89, 90, 91, 92, 93, 94] (by decide +kernel) (by decide +kernel)
set_option maxRecDepth 20000 in
theorem gX3_closeDay_X3_kindOn : GoodIn wsX3_closeDay (wsV RX3 75 RX3 yX3_kindOn wsX3_kindOn) := goodIn_app (goodIn_of _ (by decide +kernel)) ggX3_closeDay_X3_kindOn
set_option maxRecDepth 20000 in
theorem ggX3_closeDay_X3_workedOn : GoodIn wsX3_closeDay wsX3_workedOn := goodIn_r _ [19, 10, 20, 21, 22, 23, 79, 80, 81, 82, 83, 84, 85] (by decide +kernel) (by decide +kernel)
set_option maxRecDepth 20000 in
theorem gX3_closeDay_X3_workedOn : GoodIn wsX3_closeDay (wsV RX3 81 RX3 yX3_workedOn wsX3_workedOn) := goodIn_app (goodIn_of _ (by decide +kernel)) ggX3_closeDay_X3_workedOn
set_option maxRecDepth 20000 in
theorem ggX3_closeDay_X3_planOn : GoodIn wsX3_closeDay wsX3_planOn := goodIn_r _ [27, 28, 2, 29, 30, 31, 8, 32, 33, 34, 35, 36, 37, 38, 39, 79, 80, 81, 82, 83, 84, 85, 95, 96, 97, 98, 99] (by decide +kernel) (by decide +kernel)
set_option maxRecDepth 20000 in
theorem gX3_closeDay_X3_planOn : GoodIn wsX3_closeDay (wsV RX3 78 RX3 yX3_planOn wsX3_planOn) := goodIn_app (goodIn_of _ (by decide +kernel)) ggX3_closeDay_X3_planOn
set_option maxRecDepth 20000 in
theorem ggX3_closeDay_X3_addToBalance : GoodIn wsX3_closeDay wsX3_addToBalance := goodIn_r _ [43, 3, 44, 2, 20, 21, 22, 23, 45, 46, 47, 48, 49, 50, 51, 52, 36, 53, 54, 55, 56, 57, 58, 79, 80, 81, 82, 83, 84, 85, 86, 87, 88, 89, 90, 91, 92, 93, 94, 95, 96, 97, 98, 99] (by decide +kernel) (by decide +kernel)
set_option maxRecDepth 20000 in
theorem gX3_closeDay_X3_addToBalance : GoodIn wsX3_closeDay (wsV RX3 113 RX3 yX3_addToBalance wsX3_addToBalance) := goodIn_app (goodIn_of _ (by decide +kernel)) ggX3_closeDay_X3_addToBalance
set_option maxRecDepth 20000 in
theorem ggX3_closeDay_X3_windowLoad : GoodIn wsX3_closeDay wsX3_windowLoad := goodIn_r _ [62, 63, 64, 65, 8, 66, 2, 20, 21, 22, 23, 67, 68, 69, 36, 70, 54, 71, 72, 73, 74, 5, 6, 7, 9, 10, 11, 12, 13, 14, 3, 15, 24, 25, 26, 27, 28, 29, 30, 31, 32, 33, 34, 35, 37, 38, 39, 16, 17, 18, 19, 79, 80, 81, 82, 83, 84, 85, 95, 96, 97, 98, 99, 86, 87, 88, 89, 90, 91, 92, 93, 94] (by decide +kernel) (by decide +kernel)
set_option maxRecDepth 20000 in
theorem gX3_closeDay_X3_windowLoad : GoodIn wsX3_closeDay (wsV RX3 117 RX3 yX3_windowLoad wsX3_windowLoad) := goodIn_app (goodIn_of _ (by decide +kernel)) ggX3_closeDay_X3_windowLoad
set_option maxRecDepth 20000 in
theorem ggX3_closeDay_X2_limit : GoodIn wsX3_closeDay wsX2_limit := goodIn_r _ [78, 54, 95, 96, 97, 98, 99] (by decide +kernel) (by decide +kernel)
set_option maxRecDepth 20000 in
theorem gX3_closeDay_X2_limit : GoodIn wsX3_closeDay (wsV RX3 120 RX2 yX2_limit wsX2_limit) := goodIn_app (goodIn_of _ (by decide +kernel)) ggX3_closeDay_X2_limit
theorem dX3_closeDay_0 : decode cX3_closeDay 0 = .ok (.aload_n 0, 1) := by decide +kernel
theorem dX3_closeDay_1 : decode cX3_closeDay 1 = .ok (.iload_n 1, 1) := by decide +kernel
theorem dX3_closeDay_2 : decode cX3_closeDay 2 = .ok (.invokevirtual 75, 3) := by decide +kernel
theorem dX3_closeDay_5 : decode cX3_closeDay 5 = .ok (.ifCond .ne 18, 3) := by decide +kernel
theorem dX3_closeDay_8 : decode cX3_closeDay 8 = .ok (.aload_n 0, 1) := by decide +kernel
theorem dX3_closeDay_9 : decode cX3_closeDay 9 = .ok (.aload_n 0, 1) := by decide +kernel
theorem dX3_closeDay_10 : decode cX3_closeDay 10 = .ok (.iload_n 1, 1) := by decide +kernel
theorem dX3_closeDay_11 : decode cX3_closeDay 11 = .ok (.invokevirtual 81, 3) := by decide +kernel
theorem dX3_closeDay_14 : decode cX3_closeDay 14 = .ok (.aload_n 0, 1) := by decide +kernel
theorem dX3_closeDay_15 : decode cX3_closeDay 15 = .ok (.iload_n 1, 1) := by decide +kernel
theorem dX3_closeDay_16 : decode cX3_closeDay 16 = .ok (.invokevirtual 78, 3) := by decide +kernel
theorem dX3_closeDay_19 : decode cX3_closeDay 19 = .ok (.isub, 1) := by decide +kernel
theorem dX3_closeDay_20 : decode cX3_closeDay 20 = .ok (.invokevirtual 113, 3) := by decide +kernel
theorem dX3_closeDay_23 : decode cX3_closeDay 23 = .ok (.aload_n 0, 1) := by decide +kernel
theorem dX3_closeDay_24 : decode cX3_closeDay 24 = .ok (.getfield 18, 3) := by decide +kernel
theorem dX3_closeDay_27 : decode cX3_closeDay 27 = .ok (.iload_n 1, 1) := by decide +kernel
theorem dX3_closeDay_28 : decode cX3_closeDay 28 = .ok (.aload_n 0, 1) := by decide +kernel
theorem dX3_closeDay_29 : decode cX3_closeDay 29 = .ok (.iload_n 1, 1) := by decide +kernel
theorem dX3_closeDay_30 : decode cX3_closeDay 30 = .ok (.invokevirtual 117, 3) := by decide +kernel
theorem dX3_closeDay_33 : decode cX3_closeDay 33 = .ok (.aload_n 0, 1) := by decide +kernel
theorem dX3_closeDay_34 : decode cX3_closeDay 34 = .ok (.getfield 33, 3) := by decide +kernel
theorem dX3_closeDay_37 : decode cX3_closeDay 37 = .ok (.invokevirtual 120, 3) := by decide +kernel
theorem dX3_closeDay_40 : decode cX3_closeDay 40 = .ok (.if_icmp .le 7, 3) := by decide +kernel
theorem dX3_closeDay_43 : decode cX3_closeDay 43 = .ok (.iconst 1, 1) := by decide +kernel
theorem dX3_closeDay_44 : decode cX3_closeDay 44 = .ok (.goto 4, 3) := by decide +kernel
theorem dX3_closeDay_47 : decode cX3_closeDay 47 = .ok (.iconst 0, 1) := by decide +kernel
theorem dX3_closeDay_48 : decode cX3_closeDay 48 = .ok (.bastore, 1) := by decide +kernel
theorem dX3_closeDay_49 : decode cX3_closeDay 49 = .ok (.aload_n 0, 1) := by decide +kernel
theorem dX3_closeDay_50 : decode cX3_closeDay 50 = .ok (.getfield 18, 3) := by decide +kernel
theorem dX3_closeDay_53 : decode cX3_closeDay 53 = .ok (.iload_n 1, 1) := by decide +kernel
theorem dX3_closeDay_54 : decode cX3_closeDay 54 = .ok (.baload, 1) := by decide +kernel
theorem dX3_closeDay_55 : decode cX3_closeDay 55 = .ok (.ifCond .eq 16, 3) := by decide +kernel
theorem dX3_closeDay_58 : decode cX3_closeDay 58 = .ok (.aload_n 0, 1) := by decide +kernel
theorem dX3_closeDay_59 : decode cX3_closeDay 59 = .ok (.getfield 25, 3) := by decide +kernel
theorem dX3_closeDay_62 : decode cX3_closeDay 62 = .ok (.dup, 1) := by decide +kernel
theorem dX3_closeDay_63 : decode cX3_closeDay 63 = .ok (.getfield 123, 3) := by decide +kernel
theorem dX3_closeDay_66 : decode cX3_closeDay 66 = .ok (.iconst 1, 1) := by decide +kernel
theorem dX3_closeDay_67 : decode cX3_closeDay 67 = .ok (.iadd, 1) := by decide +kernel
theorem dX3_closeDay_68 : decode cX3_closeDay 68 = .ok (.putfield 123, 3) := by decide +kernel
theorem dX3_closeDay_71 : decode cX3_closeDay 71 = .ok (.aload_n 0, 1) := by decide +kernel
theorem dX3_closeDay_72 : decode cX3_closeDay 72 = .ok (.getfield 18, 3) := by decide +kernel
theorem dX3_closeDay_75 : decode cX3_closeDay 75 = .ok (.iload_n 1, 1) := by decide +kernel
theorem dX3_closeDay_76 : decode cX3_closeDay 76 = .ok (.baload, 1) := by decide +kernel
theorem dX3_closeDay_77 : decode cX3_closeDay 77 = .ok (.ireturn, 1) := by decide +kernel
set_option maxRecDepth 20000 in
theorem ggX3_addToBalance_X2_high : GoodIn wsX3_addToBalance wsX2_high := goodIn_r _ [17, 18, 39, 40, 41, 42, 43] (by decide +kernel) (by decide +kernel)
set_option maxRecDepth 20000 in
theorem gX3_addToBalance_X2_high : GoodIn wsX3_addToBalance (wsV RX3 107 RX2 yX2_high wsX2_high) := goodIn_app (goodIn_of _ (by decide +kernel)) ggX3_addToBalance_X2_high
set_option maxRecDepth 20000 in
theorem ggX3_addToBalance_X2_low : GoodIn wsX3_addToBalance wsX2_low := goodIn_r _ [22, 18, 39, 40, 41, 42, 43] (by decide +kernel) (by decide +kernel)
set_option maxRecDepth 20000 in
theorem gX3_addToBalance_X2_low : GoodIn wsX3_addToBalance (wsV RX3 110 RX2 yX2_low wsX2_low) := goodIn_app (goodIn_of _ (by decide +kernel)) ggX3_addToBalance_X2_low
theorem dX3_addToBalance_0 : decode cX3_addToBalance 0 = .ok (.aload_n 0, 1) := by decide +kernel
theorem dX3_addToBalance_1 : decode cX3_addToBalance 1 = .ok (.getfield 25, 3) := by decide +kernel
theorem dX3_addToBalance_4 : decode cX3_addToBalance 4 = .ok (.getfield 101, 3) := by decide +kernel
theorem dX3_addToBalance_7 : decode cX3_addToBalance 7 = .ok (.iload_n 1, 1) := by decide +kernel
theorem dX3_addToBalance_8 : decode cX3_addToBalance 8 = .ok (.iadd, 1) := by decide +kernel
theorem dX3_addToBalance_9 : decode cX3_addToBalance 9 = .ok (.istore_n 2, 1) := by decide +kernel
theorem dX3_addToBalance_10 : decode cX3_addToBalance 10 = .ok (.iconst 0, 1) := by decide +kernel
theorem dX3_addToBalance_11 : decode cX3_addToBalance 11 = .ok (.iload_n 2, 1) := by decide +kernel
theorem dX3_addToBalance_12 : decode cX3_addToBalance 12 = .ok (.aload_n 0, 1) := by decide +kernel
theorem dX3_addToBalance_13 : decode cX3_addToBalance 13 = .ok (.getfield 33, 3) := by decide +kernel
theorem dX3_addToBalance_16 : decode cX3_addToBalance 16 = .ok (.invokevirtual 107, 3) := by decide +kernel
theorem dX3_addToBalance_19 : decode cX3_addToBalance 19 = .ok (.isub, 1) := by decide +kernel
theorem dX3_addToBalance_20 : decode cX3_addToBalance 20 = .ok (.invokestatic 69, 3) := by decide +kernel
theorem dX3_addToBalance_23 : decode cX3_addToBalance 23 = .ok (.istore_n 3, 1) := by decide +kernel
theorem dX3_addToBalance_24 : decode cX3_addToBalance 24 = .ok (.iconst 0, 1) := by decide +kernel
theorem dX3_addToBalance_25 : decode cX3_addToBalance 25 = .ok (.aload_n 0, 1) := by decide +kernel
theorem dX3_addToBalance_26 : decode cX3_addToBalance 26 = .ok (.getfield 33, 3) := by decide +kernel
theorem dX3_addToBalance_29 : decode cX3_addToBalance 29 = .ok (.invokevirtual 110, 3) := by decide +kernel
theorem dX3_addToBalance_32 : decode cX3_addToBalance 32 = .ok (.ineg, 1) := by decide +kernel
theorem dX3_addToBalance_33 : decode cX3_addToBalance 33 = .ok (.iload_n 2, 1) := by decide +kernel
theorem dX3_addToBalance_34 : decode cX3_addToBalance 34 = .ok (.isub, 1) := by decide +kernel
theorem dX3_addToBalance_35 : decode cX3_addToBalance 35 = .ok (.invokestatic 69, 3) := by decide +kernel
theorem dX3_addToBalance_38 : decode cX3_addToBalance 38 = .ok (.istore 4, 2) := by decide +kernel
theorem dX3_addToBalance_40 : decode cX3_addToBalance 40 = .ok (.aload_n 0, 1) := by decide +kernel
theorem dX3_addToBalance_41 : decode cX3_addToBalance 41 = .ok (.getfield 25, 3) := by decide +kernel
theorem dX3_addToBalance_44 : decode cX3_addToBalance 44 = .ok (.iload_n 2, 1) := by decide +kernel
theorem dX3_addToBalance_45 : decode cX3_addToBalance 45 = .ok (.iload_n 3, 1) := by decide +kernel
theorem dX3_addToBalance_46 : decode cX3_addToBalance 46 = .ok (.isub, 1) := by decide +kernel
theorem dX3_addToBalance_47 : decode cX3_addToBalance 47 = .ok (.iload 4, 2) := by decide +kernel
theorem dX3_addToBalance_49 : decode cX3_addToBalance 49 = .ok (.iadd, 1) := by decide +kernel
theorem dX3_addToBalance_50 : decode cX3_addToBalance 50 = .ok (.putfield 101, 3) := by decide +kernel
theorem dX3_addToBalance_53 : decode cX3_addToBalance 53 = .ok (.aload_n 0, 1) := by decide +kernel
theorem dX3_addToBalance_54 : decode cX3_addToBalance 54 = .ok (.getfield 25, 3) := by decide +kernel
theorem dX3_addToBalance_57 : decode cX3_addToBalance 57 = .ok (.dup, 1) := by decide +kernel
theorem dX3_addToBalance_58 : decode cX3_addToBalance 58 = .ok (.getfield 126, 3) := by decide +kernel
theorem dX3_addToBalance_61 : decode cX3_addToBalance 61 = .ok (.iload_n 3, 1) := by decide +kernel
theorem dX3_addToBalance_62 : decode cX3_addToBalance 62 = .ok (.iadd, 1) := by decide +kernel
theorem dX3_addToBalance_63 : decode cX3_addToBalance 63 = .ok (.putfield 126, 3) := by decide +kernel
theorem dX3_addToBalance_66 : decode cX3_addToBalance 66 = .ok (.aload_n 0, 1) := by decide +kernel
theorem dX3_addToBalance_67 : decode cX3_addToBalance 67 = .ok (.getfield 25, 3) := by decide +kernel
theorem dX3_addToBalance_70 : decode cX3_addToBalance 70 = .ok (.dup, 1) := by decide +kernel
theorem dX3_addToBalance_71 : decode cX3_addToBalance 71 = .ok (.getfield 129, 3) := by decide +kernel
theorem dX3_addToBalance_74 : decode cX3_addToBalance 74 = .ok (.iload_n 3, 1) := by decide +kernel
theorem dX3_addToBalance_75 : decode cX3_addToBalance 75 = .ok (.aload_n 0, 1) := by decide +kernel
theorem dX3_addToBalance_76 : decode cX3_addToBalance 76 = .ok (.getfield 43, 3) := by decide +kernel
theorem dX3_addToBalance_79 : decode cX3_addToBalance 79 = .ok (.imul, 1) := by decide +kernel
theorem dX3_addToBalance_80 : decode cX3_addToBalance 80 = .ok (.iconst 3, 1) := by decide +kernel
theorem dX3_addToBalance_81 : decode cX3_addToBalance 81 = .ok (.imul, 1) := by decide +kernel
theorem dX3_addToBalance_82 : decode cX3_addToBalance 82 = .ok (.iconst 2, 1) := by decide +kernel
theorem dX3_addToBalance_83 : decode cX3_addToBalance 83 = .ok (.idiv, 1) := by decide +kernel
theorem dX3_addToBalance_84 : decode cX3_addToBalance 84 = .ok (.iadd, 1) := by decide +kernel
theorem dX3_addToBalance_85 : decode cX3_addToBalance 85 = .ok (.putfield 129, 3) := by decide +kernel
theorem dX3_addToBalance_88 : decode cX3_addToBalance 88 = .ok (.aload_n 0, 1) := by decide +kernel
theorem dX3_addToBalance_89 : decode cX3_addToBalance 89 = .ok (.getfield 25, 3) := by decide +kernel
theorem dX3_addToBalance_92 : decode cX3_addToBalance 92 = .ok (.dup, 1) := by decide +kernel
theorem dX3_addToBalance_93 : decode cX3_addToBalance 93 = .ok (.getfield 132, 3) := by decide +kernel
theorem dX3_addToBalance_96 : decode cX3_addToBalance 96 = .ok (.iload 4, 2) := by decide +kernel
theorem dX3_addToBalance_98 : decode cX3_addToBalance 98 = .ok (.iadd, 1) := by decide +kernel
theorem dX3_addToBalance_99 : decode cX3_addToBalance 99 = .ok (.putfield 132, 3) := by decide +kernel
theorem dX3_addToBalance_102 : decode cX3_addToBalance 102 = .ok (.aload_n 0, 1) := by decide +kernel
theorem dX3_addToBalance_103 : decode cX3_addToBalance 103 = .ok (.getfield 25, 3) := by decide +kernel
theorem dX3_addToBalance_106 : decode cX3_addToBalance 106 = .ok (.dup, 1) := by decide +kernel
theorem dX3_addToBalance_107 : decode cX3_addToBalance 107 = .ok (.getfield 135, 3) := by decide +kernel
theorem dX3_addToBalance_110 : decode cX3_addToBalance 110 = .ok (.iload 4, 2) := by decide +kernel
theorem dX3_addToBalance_112 : decode cX3_addToBalance 112 = .ok (.aload_n 0, 1) := by decide +kernel
theorem dX3_addToBalance_113 : decode cX3_addToBalance 113 = .ok (.getfield 43, 3) := by decide +kernel
theorem dX3_addToBalance_116 : decode cX3_addToBalance 116 = .ok (.imul, 1) := by decide +kernel
theorem dX3_addToBalance_117 : decode cX3_addToBalance 117 = .ok (.iadd, 1) := by decide +kernel
theorem dX3_addToBalance_118 : decode cX3_addToBalance 118 = .ok (.putfield 135, 3) := by decide +kernel
theorem dX3_addToBalance_121 : decode cX3_addToBalance 121 = .ok (.return_, 1) := by decide +kernel
set_option maxRecDepth 20000 in
theorem ggX4_init_X0_init : GoodIn wsX4_init wsX0_init := goodIn_r _ [9, 10, 2, 3, 11, 18, 19, 20, 21, 22, 23, 24, 25, 26] (by decide +kernel) (by decide +kernel)
set_option maxRecDepth 20000 in
theorem gX4_init_X0_init_n17 : GoodIn wsX4_init (wsX0_init) := ggX4_init_X0_init
theorem dX4_init_0 : decode cX4_init 0 = .ok (.aload_n 0, 1) := by decide +kernel
theorem dX4_init_1 : decode cX4_init 1 = .ok (.invokespecial 3, 3) := by decide +kernel
theorem dX4_init_4 : decode cX4_init 4 = .ok (.aload_n 0, 1) := by decide +kernel
theorem dX4_init_5 : decode cX4_init 5 = .ok (.iconst 4, 1) := by decide +kernel
theorem dX4_init_6 : decode cX4_init 6 = .ok (.anewarray 9, 3) := by decide +kernel
theorem dX4_init_9 : decode cX4_init 9 = .ok (.putfield 11, 3) := by decide +kernel
theorem dX4_init_12 : decode cX4_init 12 = .ok (.iconst 0, 1) := by decide +kernel
theorem dX4_init_13 : decode cX4_init 13 = .ok (.istore_n 1, 1) := by decide +kernel
theorem dX4_init_14 : decode cX4_init 14 = .ok (.iload_n 1, 1) := by decide +kernel
theorem dX4_init_15 : decode cX4_init 15 = .ok (.iconst 4, 1) := by decide +kernel
theorem dX4_init_16 : decode cX4_init 16 = .ok (.if_icmp .ge 22, 3) := by decide +kernel
theorem dX4_init_19 : decode cX4_init 19 = .ok (.aload_n 0, 1) := by decide +kernel
theorem dX4_init_20 : decode cX4_init 20 = .ok (.getfield 11, 3) := by decide +kernel
theorem dX4_init_23 : decode cX4_init 23 = .ok (.iload_n 1, 1) := by decide +kernel
theorem dX4_init_24 : decode cX4_init 24 = .ok (.new 9, 3) := by decide +kernel
theorem dX4_init_27 : decode cX4_init 27 = .ok (.dup, 1) := by decide +kernel
theorem dX4_init_28 : decode cX4_init 28 = .ok (.invokespecial 17, 3) := by decide +kernel
theorem dX4_init_31 : decode cX4_init 31 = .ok (.aastore, 1) := by decide +kernel
theorem dX4_init_32 : decode cX4_init 32 = .ok (.iinc 1 1, 3) := by decide +kernel
theorem dX4_init_35 : decode cX4_init 35 = .ok (.goto (-21), 3) := by decide +kernel
theorem dX4_init_38 : decode cX4_init 38 = .ok (.return_, 1) := by decide +kernel
theorem dX5_init_0 : decode cX5_init 0 = .ok (.aload_n 0, 1) := by decide +kernel
theorem dX5_init_1 : decode cX5_init 1 = .ok (.invokespecial 1, 3) := by decide +kernel
theorem dX5_init_4 : decode cX5_init 4 = .ok (.aload_n 0, 1) := by decide +kernel
theorem dX5_init_5 : decode cX5_init 5 = .ok (.sipush 740, 3) := by decide +kernel
theorem dX5_init_8 : decode cX5_init 8 = .ok (.newarray .byte, 2) := by decide +kernel
theorem dX5_init_10 : decode cX5_init 10 = .ok (.putfield 9, 3) := by decide +kernel
theorem dX5_init_13 : decode cX5_init 13 = .ok (.return_, 1) := by decide +kernel
theorem dX5_append_0 : decode cX5_append 0 = .ok (.bipush 24, 2) := by decide +kernel
theorem dX5_append_2 : decode cX5_append 2 = .ok (.istore_n 2, 1) := by decide +kernel
theorem dX5_append_3 : decode cX5_append 3 = .ok (.iload_n 2, 1) := by decide +kernel
theorem dX5_append_4 : decode cX5_append 4 = .ok (.ifCond .lt 42, 3) := by decide +kernel
theorem dX5_append_7 : decode cX5_append 7 = .ok (.aload_n 0, 1) := by decide +kernel
theorem dX5_append_8 : decode cX5_append 8 = .ok (.getfield 13, 3) := by decide +kernel
theorem dX5_append_11 : decode cX5_append 11 = .ok (.sipush 740, 3) := by decide +kernel
theorem dX5_append_14 : decode cX5_append 14 = .ok (.if_icmp .ge 32, 3) := by decide +kernel
theorem dX5_append_17 : decode cX5_append 17 = .ok (.aload_n 0, 1) := by decide +kernel
theorem dX5_append_18 : decode cX5_append 18 = .ok (.getfield 9, 3) := by decide +kernel
theorem dX5_append_21 : decode cX5_append 21 = .ok (.aload_n 0, 1) := by decide +kernel
theorem dX5_append_22 : decode cX5_append 22 = .ok (.getfield 13, 3) := by decide +kernel
theorem dX5_append_25 : decode cX5_append 25 = .ok (.iload_n 1, 1) := by decide +kernel
theorem dX5_append_26 : decode cX5_append 26 = .ok (.iload_n 2, 1) := by decide +kernel
theorem dX5_append_27 : decode cX5_append 27 = .ok (.ishr, 1) := by decide +kernel
theorem dX5_append_28 : decode cX5_append 28 = .ok (.i2b, 1) := by decide +kernel
theorem dX5_append_29 : decode cX5_append 29 = .ok (.bastore, 1) := by decide +kernel
theorem dX5_append_30 : decode cX5_append 30 = .ok (.aload_n 0, 1) := by decide +kernel
theorem dX5_append_31 : decode cX5_append 31 = .ok (.dup, 1) := by decide +kernel
theorem dX5_append_32 : decode cX5_append 32 = .ok (.getfield 13, 3) := by decide +kernel
theorem dX5_append_35 : decode cX5_append 35 = .ok (.iconst 1, 1) := by decide +kernel
theorem dX5_append_36 : decode cX5_append 36 = .ok (.iadd, 1) := by decide +kernel
theorem dX5_append_37 : decode cX5_append 37 = .ok (.putfield 13, 3) := by decide +kernel
theorem dX5_append_40 : decode cX5_append 40 = .ok (.iinc 2 (-8), 3) := by decide +kernel
theorem dX5_append_43 : decode cX5_append 43 = .ok (.goto (-40), 3) := by decide +kernel
theorem dX5_append_46 : decode cX5_append 46 = .ok (.return_, 1) := by decide +kernel
set_option maxRecDepth 20000 in
theorem ggX6_init_X7_init : GoodIn wsX6_init wsX7_init := goodIn_r _ [11, 12, 2, 3, 13, 18, 19, 20, 21, 22] (by decide +kernel) (by decide +kernel)
set_option maxRecDepth 20000 in
theorem gX6_init_X7_init : GoodIn wsX6_init (wsX7_init) := ggX6_init_X7_init
theorem dX6_init_0 : decode cX6_init 0 = .ok (.aload_n 0, 1) := by decide +kernel
theorem dX6_init_1 : decode cX6_init 1 = .ok (.invokespecial 3, 3) := by decide +kernel
theorem dX6_init_4 : decode cX6_init 4 = .ok (.aload_n 0, 1) := by decide +kernel
theorem dX6_init_5 : decode cX6_init 5 = .ok (.aload_n 1, 1) := by decide +kernel
theorem dX6_init_6 : decode cX6_init 6 = .ok (.putfield 9, 3) := by decide +kernel
theorem dX6_init_9 : decode cX6_init 9 = .ok (.aload_n 0, 1) := by decide +kernel
theorem dX6_init_10 : decode cX6_init 10 = .ok (.new 15, 3) := by decide +kernel
theorem dX6_init_13 : decode cX6_init 13 = .ok (.dup, 1) := by decide +kernel
theorem dX6_init_14 : decode cX6_init 14 = .ok (.aload_n 1, 1) := by decide +kernel
theorem dX6_init_15 : decode cX6_init 15 = .ok (.invokespecial 17, 3) := by decide +kernel
theorem dX6_init_18 : decode cX6_init 18 = .ok (.putfield 20, 3) := by decide +kernel
theorem dX6_init_21 : decode cX6_init 21 = .ok (.return_, 1) := by decide +kernel
set_option maxRecDepth 20000 in
theorem ggX6_readInto_X2_clear : GoodIn wsX6_readInto wsX2_clear := goodIn_r _ [11, 12, 13, 14, 15, 16, 17, 177, 178, 179, 180, 181] (by decide +kernel) (by decide +kernel)
set_option maxRecDepth 20000 in
theorem gX6_readInto_X2_clear : GoodIn wsX6_readInto (wsV RX6 24 RX2 yX2_clear wsX2_clear) := goodIn_app (goodIn_of _ (by decide +kernel)) ggX6_readInto_X2_clear
set_option maxRecDepth 20000 in
theorem ggX6_readInto_X7_restart : GoodIn wsX6_readInto wsX7_restart := goodIn_r _ [22, 23, 172, 173, 174, 175, 176] (by decide +kernel) (by decide +kernel)
set_option maxRecDepth 20000 in
theorem gX6_readInto_X7_restart : GoodIn wsX6_readInto (wsV RX6 29 RX7 yX7_restart wsX7_restart) := goodIn_app (goodIn_of _ (by decide +kernel)) ggX6_readInto_X7_restart
set_option maxRecDepth 20000 in
theorem ggX6_readInto_X7_advance : GoodIn wsX6_readInto wsX7_advance := goodIn_r _ [27, 28, 29, 30, 31, 32, 33, 23, 34, 35, 36, 37, 38, 21, 39, 40, 41, 42, 43, 44, 45, 46, 47, 48, 49, 50, 172, 173, 174, 175, 176, 170, 171] (by decide +kernel) (by decide +kernel)
set_option maxRecDepth 20000 in
theorem gX6_readInto_X7_advance : GoodIn wsX6_readInto (wsV RX6 41 RX7 yX7_advance wsX7_advance) := goodIn_app (goodIn_of _ (by decide +kernel)) ggX6_readInto_X7_advance
set_option maxRecDepth 20000 in
theorem ggX6_readInto_X6_readLine : GoodIn wsX6_readInto wsX6_readLine := goodIn_r _ [55, 56, 57, 58, 54, 59, 1, 60, 61, 10, 62, 63, 64, 65, 21, 66, 36, 23, 35, 28, 34, 67, 68, 69, 70, 71, 72, 73, 74, 75, 76, 77, 78, 79, 80, 81, 82, 83, 84, 85, 86, 87, 88, 89, 90, 91, 92, 93, 94, 95, 96, 97, 98, 99, 100, 101, 102, 103, 104, 105, 106, 107, 108, 109, 110, 111, 112, 113, 114, 115, 116, 117, 118, 119, 2, 120, 6, 121, 122, 123, 124, 12, 125, 126, 127, 128, 13, 129, 130, 131, 132, 133, 134, 135, 136, 137, 138, 139, 5, 140, 24, 25, 26, 27, 29, 30, 31, 32, 33, 37, 38, 39, 40, 41, 42, 43, 44, 45, 46, 47, 48, 49, 50, 141, 142, 143, 144, 145, 146, 147, 148, 149, 150, 151, 152, 153, 154, 155, 156, 157, 158, 159, 160, 161, 166, 167, 168, 169, 172, 173, 174, 175, 176, 170, 171, 177, 178, 179, 180, 181] (by decide +kernel) (by decide +kernel)
set_option maxRecDepth 20000 in
theorem gX6_readInto_X6_readLine : GoodIn wsX6_readInto (wsV RX6 47 RX6 yX6_readLine wsX6_readLine) := goodIn_app (goodIn_of _ (by decide +kernel)) ggX6_readInto_X6_readLine
set_option maxRecDepth 20000 in
theorem ggX6_readInto_X7_isTextTooLong : GoodIn wsX6_readInto wsX7_isTextTooLong := goodIn_r _ [165, 28, 29, 172, 173, 174, 175, 176, 170, 171] (by decide +kernel) (by decide +kernel)
set_option maxRecDepth 20000 in
theorem gX6_readInto_X7_isTextTooLong : GoodIn wsX6_readInto (wsV RX6 54 RX7 yX7_isTextTooLong wsX7_isTextTooLong) := goodIn_app (goodIn_of _ (by decide +kernel)) ggX6_readInto_X7_isTextTooLong
set_option maxRecDepth 20000 in
theorem ggX6_readInto_X6_fail : GoodIn wsX6_readInto wsX6_fail := goodIn_r _ [119, 2, 1, 120, 6, 166, 167, 168, 169, 172, 173, 174, 175, 176] (by decide +kernel) (by decide +kernel)
set_option maxRecDepth 20000 in
theorem gX6_readInto_X6_fail : GoodIn wsX6_readInto (wsV RX6 58 RX6 yX6_fail wsX6_fail) := goodIn_app (goodIn_of _ (by decide +kernel)) ggX6_readInto_X6_fail
theorem dX6_readInto_0 : decode cX6_readInto 0 = .ok (.aload_n 1, 1) := by decide +kernel
theorem dX6_readInto_1 : decode cX6_readInto 1 = .ok (.invokevirtual 24, 3) := by decide +kernel
theorem dX6_readInto_4 : decode cX6_readInto 4 = .ok (.aload_n 0, 1) := by decide +kernel
theorem dX6_readInto_5 : decode cX6_readInto 5 = .ok (.getfield 20, 3) := by decide +kernel
theorem dX6_readInto_8 : decode cX6_readInto 8 = .ok (.invokevirtual 29, 3) := by decide +kernel
theorem dX6_readInto_11 : decode cX6_readInto 11 = .ok (.aload_n 0, 1) := by decide +kernel
theorem dX6_readInto_12 : decode cX6_readInto 12 = .ok (.iconst 0, 1) := by decide +kernel
theorem dX6_readInto_13 : decode cX6_readInto 13 = .ok (.putfield 32, 3) := by decide +kernel
theorem dX6_readInto_16 : decode cX6_readInto 16 = .ok (.iconst 0, 1) := by decide +kernel
theorem dX6_readInto_17 : decode cX6_readInto 17 = .ok (.istore_n 2, 1) := by decide +kernel
theorem dX6_readInto_18 : decode cX6_readInto 18 = .ok (.iconst 0, 1) := by decide +kernel
theorem dX6_readInto_19 : decode cX6_readInto 19 = .ok (.istore_n 3, 1) := by decide +kernel
theorem dX6_readInto_20 : decode cX6_readInto 20 = .ok (.iload_n 3, 1) := by decide +kernel
theorem dX6_readInto_21 : decode cX6_readInto 21 = .ok (.aload_n 0, 1) := by decide +kernel
theorem dX6_readInto_22 : decode cX6_readInto 22 = .ok (.getfield 9, 3) := by decide +kernel
theorem dX6_readInto_25 : decode cX6_readInto 25 = .ok (.getfield 36, 3) := by decide +kernel
theorem dX6_readInto_28 : decode cX6_readInto 28 = .ok (.if_icmp .gt 60, 3) := by decide +kernel
theorem dX6_readInto_31 : decode cX6_readInto 31 = .ok (.aload_n 0, 1) := by decide +kernel
theorem dX6_readInto_32 : decode cX6_readInto 32 = .ok (.getfield 20, 3) := by decide +kernel
theorem dX6_readInto_35 : decode cX6_readInto 35 = .ok (.invokevirtual 41, 3) := by decide +kernel
theorem dX6_readInto_38 : decode cX6_readInto 38 = .ok (.aload_n 0, 1) := by decide +kernel
theorem dX6_readInto_39 : decode cX6_readInto 39 = .ok (.getfield 20, 3) := by decide +kernel
theorem dX6_readInto_42 : decode cX6_readInto 42 = .ok (.getfield 44, 3) := by decide +kernel
theorem dX6_readInto_45 : decode cX6_readInto 45 = .ok (.ifCond .ne 6, 3) := by decide +kernel
theorem dX6_readInto_48 : decode cX6_readInto 48 = .ok (.goto 40, 3) := by decide +kernel
theorem dX6_readInto_51 : decode cX6_readInto 51 = .ok (.aload_n 0, 1) := by decide +kernel
theorem dX6_readInto_52 : decode cX6_readInto 52 = .ok (.aload_n 1, 1) := by decide +kernel
theorem dX6_readInto_53 : decode cX6_readInto 53 = .ok (.iload_n 2, 1) := by decide +kernel
theorem dX6_readInto_54 : decode cX6_readInto 54 = .ok (.ifCond .ne 7, 3) := by decide +kernel
theorem dX6_readInto_57 : decode cX6_readInto 57 = .ok (.iconst 1, 1) := by decide +kernel
theorem dX6_readInto_58 : decode cX6_readInto 58 = .ok (.goto 4, 3) := by decide +kernel
theorem dX6_readInto_61 : decode cX6_readInto 61 = .ok (.iconst 0, 1) := by decide +kernel
theorem dX6_readInto_62 : decode cX6_readInto 62 = .ok (.invokevirtual 47, 3) := by decide +kernel
theorem dX6_readInto_65 : decode cX6_readInto 65 = .ok (.aload_n 0, 1) := by decide +kernel
theorem dX6_readInto_66 : decode cX6_readInto 66 = .ok (.getfield 32, 3) := by decide +kernel
theorem dX6_readInto_69 : decode cX6_readInto 69 = .ok (.ifCond .eq 10, 3) := by decide +kernel
theorem dX6_readInto_72 : decode cX6_readInto 72 = .ok (.iconst (-1), 1) := by decide +kernel
theorem dX6_readInto_73 : decode cX6_readInto 73 = .ok (.aload_n 0, 1) := by decide +kernel
theorem dX6_readInto_74 : decode cX6_readInto 74 = .ok (.getfield 51, 3) := by decide +kernel
theorem dX6_readInto_77 : decode cX6_readInto 77 = .ok (.isub, 1) := by decide +kernel
theorem dX6_readInto_78 : decode cX6_readInto 78 = .ok (.ireturn, 1) := by decide +kernel
theorem dX6_readInto_79 : decode cX6_readInto 79 = .ok (.iinc 2 1, 3) := by decide +kernel
theorem dX6_readInto_82 : decode cX6_readInto 82 = .ok (.iinc 3 1, 3) := by decide +kernel
theorem dX6_readInto_85 : decode cX6_readInto 85 = .ok (.goto (-65), 3) := by decide +kernel
theorem dX6_readInto_88 : decode cX6_readInto 88 = .ok (.aload_n 0, 1) := by decide +kernel
theorem dX6_readInto_89 : decode cX6_readInto 89 = .ok (.getfield 20, 3) := by decide +kernel
theorem dX6_readInto_92 : decode cX6_readInto 92 = .ok (.invokevirtual 54, 3) := by decide +kernel
theorem dX6_readInto_95 : decode cX6_readInto 95 = .ok (.ifCond .eq 15, 3) := by decide +kernel
theorem dX6_readInto_98 : decode cX6_readInto 98 = .ok (.aload_n 0, 1) := by decide +kernel
theorem dX6_readInto_99 : decode cX6_readInto 99 = .ok (.iconst 1, 1) := by decide +kernel
theorem dX6_readInto_100 : decode cX6_readInto 100 = .ok (.invokevirtual 58, 3) := by decide +kernel
theorem dX6_readInto_103 : decode cX6_readInto 103 = .ok (.iconst (-1), 1) := by decide +kernel
theorem dX6_readInto_104 : decode cX6_readInto 104 = .ok (.aload_n 0, 1) := by decide +kernel
theorem dX6_readInto_105 : decode cX6_readInto 105 = .ok (.getfield 51, 3) := by decide +kernel
theorem dX6_readInto_108 : decode cX6_readInto 108 = .ok (.isub, 1) := by decide +kernel
theorem dX6_readInto_109 : decode cX6_readInto 109 = .ok (.ireturn, 1) := by decide +kernel
theorem dX6_readInto_110 : decode cX6_readInto 110 = .ok (.iload_n 2, 1) := by decide +kernel
theorem dX6_readInto_111 : decode cX6_readInto 111 = .ok (.ireturn, 1) := by decide +kernel
set_option maxRecDepth 20000 in
theorem ggX6_readLine_X6_sortOfLine : GoodIn wsX6_readLine wsX6_sortOfLine := goodIn_r _ [5, 6, 7, 8, 9, 10, 11, 12, 13, 14, 15, 16, 17, 18, 19, 20, 21, 22, 23, 24, 25, 26, 27, 28, 29, 30, 31, 32, 33, 34, 35, 36, 37, 38, 39, 40, 41, 42, 43, 44, 45, 46, 47, 48, 49, 50, 51, 52, 53, 54, 55, 56, 57, 58, 59, 60, 61, 62, 63, 64, 65, 66, 67, 68, 69, 144, 145, 146, 147, 148, 149, 150, 151, 152, 153, 154] (by decide +kernel) (by decide +kernel)
set_option maxRecDepth 20000 in
theorem gX6_readLine_X6_sortOfLine : GoodIn wsX6_readLine (wsV RX6 62 RX6 yX6_sortOfLine wsX6_sortOfLine) := goodIn_app (goodIn_of _ (by decide +kernel)) ggX6_readLine_X6_sortOfLine
set_option maxRecDepth 20000 in
theorem ggX6_readLine_X6_fail : GoodIn wsX6_readLine wsX6_fail := goodIn_r _ [73, 74, 6, 75, 76, 144, 145, 146, 147, 148, 149, 150, 151, 152] (by decide +kernel) (by decide +kernel)
set_option maxRecDepth 20000 in
theorem gX6_readLine_X6_fail : GoodIn wsX6_readLine (wsV RX6 58 RX6 yX6_fail wsX6_fail) := goodIn_app (goodIn_of _ (by decide +kernel)) ggX6_readLine_X6_fail
set_option maxRecDepth 20000 in
theorem ggX6_readLine_X2_isFull : GoodIn wsX6_readLine wsX2_isFull := goodIn_r _ [80, 81, 82, 83, 84, 9, 85, 86, 87, 88, 89, 155, 156, 157, 158, 159] (by decide +kernel) (by decide +kernel)
set_option maxRecDepth 20000 in
theorem gX6_readLine_X2_isFull : GoodIn wsX6_readLine (wsV RX6 66 RX2 yX2_isFull wsX2_isFull) := goodIn_app (goodIn_of _ (by decide +kernel)) ggX6_readLine_X2_isFull
set_option maxRecDepth 20000 in
theorem ggX6_readLine_X2_openRow : GoodIn wsX6_readLine wsX2_openRow := goodIn_r _ [93, 81, 82, 83, 84, 9, 85, 86, 87, 88, 89, 155, 156, 157, 158, 159] (by decide +kernel) (by decide +kernel)
set_option maxRecDepth 20000 in
theorem gX6_readLine_X2_openRow : GoodIn wsX6_readLine (wsV RX6 70 RX2 yX2_openRow wsX2_openRow) := goodIn_app (goodIn_of _ (by decide +kernel)) ggX6_readLine_X2_openRow
set_option maxRecDepth 20000 in
theorem ggX6_readLine_X6_readNumbers : GoodIn wsX6_readLine wsX6_readNumbers := goodIn_r _ [97, 74, 6, 98, 99, 100, 101, 102, 14, 103, 19, 104, 105, 106, 107, 108, 17, 20, 18, 16, 109, 110, 111, 112, 113, 114, 115, 116, 117, 118, 119, 120, 121, 122, 70, 71, 72, 4, 73, 75, 76, 123, 124, 9, 125, 126, 127, 128, 129, 130, 131, 132, 133, 134, 135, 136, 137, 138, 139, 144, 145, 146, 147, 148, 149, 150, 151, 152, 153, 154] (by decide +kernel) (by decide +kernel)
set_option maxRecDepth 20000 in
theorem gX6_readLine_X6_readNumbers : GoodIn wsX6_readLine (wsV RX6 74 RX6 yX6_readNumbers wsX6_readNumbers) := goodIn_app (goodIn_of _ (by decide +kernel)) ggX6_readLine_X6_readNumbers
set_option maxRecDepth 20000 in
theorem ggX6_readLine_X6_readLineEnd : GoodIn wsX6_readLine wsX6_readLineEnd := goodIn_r _ [143, 74, 6, 98, 100, 101, 102, 14, 103, 19, 104, 105, 106, 107, 108, 17, 20, 18, 16, 109, 110, 111, 112, 113, 114, 115, 116, 117, 118, 119, 120, 121, 122, 70, 71, 72, 4, 73, 75, 76, 144, 145, 146, 147, 148, 149, 150, 151, 152, 153, 154] (by decide +kernel) (by decide +kernel)
set_option maxRecDepth 20000 in
theorem gX6_readLine_X6_readLineEnd : GoodIn wsX6_readLine (wsV RX6 78 RX6 yX6_readLineEnd wsX6_readLineEnd) := goodIn_app (goodIn_of _ (by decide +kernel)) ggX6_readLine_X6_readLineEnd
theorem dX6_readLine_0 : decode cX6_readLine 0 = .ok (.aload_n 0, 1) := by decide +kernel
theorem dX6_readLine_1 : decode cX6_readLine 1 = .ok (.invokevirtual 62, 3) := by decide +kernel
theorem dX6_readLine_4 : decode cX6_readLine 4 = .ok (.istore_n 3, 1) := by decide +kernel
theorem dX6_readLine_5 : decode cX6_readLine 5 = .ok (.iload_n 3, 1) := by decide +kernel
theorem dX6_readLine_6 : decode cX6_readLine 6 = .ok (.iconst (-1), 1) := by decide +kernel
theorem dX6_readLine_7 : decode cX6_readLine 7 = .ok (.if_icmp .eq 16, 3) := by decide +kernel
theorem dX6_readLine_10 : decode cX6_readLine 10 = .ok (.iload_n 3, 1) := by decide +kernel
theorem dX6_readLine_11 : decode cX6_readLine 11 = .ok (.ifCond .ne 7, 3) := by decide +kernel
theorem dX6_readLine_14 : decode cX6_readLine 14 = .ok (.iconst 1, 1) := by decide +kernel
theorem dX6_readLine_15 : decode cX6_readLine 15 = .ok (.goto 4, 3) := by decide +kernel
theorem dX6_readLine_18 : decode cX6_readLine 18 = .ok (.iconst 0, 1) := by decide +kernel
theorem dX6_readLine_19 : decode cX6_readLine 19 = .ok (.iload_n 2, 1) := by decide +kernel
theorem dX6_readLine_20 : decode cX6_readLine 20 = .ok (.if_icmp .eq 11, 3) := by decide +kernel
theorem dX6_readLine_23 : decode cX6_readLine 23 = .ok (.aload_n 0, 1) := by decide +kernel
theorem dX6_readLine_24 : decode cX6_readLine 24 = .ok (.iconst 1, 1) := by decide +kernel
theorem dX6_readLine_25 : decode cX6_readLine 25 = .ok (.invokevirtual 58, 3) := by decide +kernel
theorem dX6_readLine_28 : decode cX6_readLine 28 = .ok (.goto 33, 3) := by decide +kernel
theorem dX6_readLine_31 : decode cX6_readLine 31 = .ok (.aload_n 1, 1) := by decide +kernel
theorem dX6_readLine_32 : decode cX6_readLine 32 = .ok (.iload_n 3, 1) := by decide +kernel
theorem dX6_readLine_33 : decode cX6_readLine 33 = .ok (.invokevirtual 66, 3) := by decide +kernel
theorem dX6_readLine_36 : decode cX6_readLine 36 = .ok (.ifCond .eq 11, 3) := by decide +kernel
theorem dX6_readLine_39 : decode cX6_readLine 39 = .ok (.aload_n 0, 1) := by decide +kernel
theorem dX6_readLine_40 : decode cX6_readLine 40 = .ok (.iconst 3, 1) := by decide +kernel
theorem dX6_readLine_41 : decode cX6_readLine 41 = .ok (.invokevirtual 58, 3) := by decide +kernel
theorem dX6_readLine_44 : decode cX6_readLine 44 = .ok (.goto 17, 3) := by decide +kernel
theorem dX6_readLine_47 : decode cX6_readLine 47 = .ok (.aload_n 0, 1) := by decide +kernel
theorem dX6_readLine_48 : decode cX6_readLine 48 = .ok (.iload_n 3, 1) := by decide +kernel
theorem dX6_readLine_49 : decode cX6_readLine 49 = .ok (.aload_n 1, 1) := by decide +kernel
theorem dX6_readLine_50 : decode cX6_readLine 50 = .ok (.iload_n 3, 1) := by decide +kernel
theorem dX6_readLine_51 : decode cX6_readLine 51 = .ok (.invokevirtual 70, 3) := by decide +kernel
theorem dX6_readLine_54 : decode cX6_readLine 54 = .ok (.invokevirtual 74, 3) := by decide +kernel
theorem dX6_readLine_57 : decode cX6_readLine 57 = .ok (.aload_n 0, 1) := by decide +kernel
theorem dX6_readLine_58 : decode cX6_readLine 58 = .ok (.invokevirtual 78, 3) := by decide +kernel
theorem dX6_readLine_61 : decode cX6_readLine 61 = .ok (.return_, 1) := by decide +kernel
set_option maxRecDepth 20000 in
theorem ggX6_sortOfLine_X2_wordOf : GoodIn wsX6_sortOfLine wsX2_wordOf := goodIn_r _ [5] (by decide +kernel) (by decide +kernel)
set_option maxRecDepth 20000 in
theorem gX6_sortOfLine_X2_wordOf : GoodIn wsX6_sortOfLine (va_wsS RX6 81 yX2_wordOf wsX2_wordOf) := goodIn_app (goodIn_of _ (by decide +kernel)) ggX6_sortOfLine_X2_wordOf
set_option maxRecDepth 20000 in
theorem ggX6_sortOfLine_X7_isWord : GoodIn wsX6_sortOfLine wsX7_isWord := goodIn_r _ [10, 11, 12, 13, 14, 15, 16, 17, 18, 19, 20, 21, 22, 23, 24, 25, 26, 27, 28, 29, 30, 31, 32, 33, 34, 35, 36, 37, 38, 39, 40, 41, 42, 43, 44, 45, 46, 47, 48, 49, 50, 51, 52, 53, 54, 55, 56, 57, 58, 59, 60, 61, 62, 63, 64, 69, 70, 71, 72, 73, 74, 75] (by decide +kernel) (by decide +kernel)
set_option maxRecDepth 20000 in
theorem gX6_sortOfLine_X7_isWord : GoodIn wsX6_sortOfLine (wsV RX6 85 RX7 yX7_isWord wsX7_isWord) := goodIn_app (goodIn_of _ (by decide +kernel)) ggX6_sortOfLine_X7_isWord
theorem dX6_sortOfLine_0 : decode cX6_sortOfLine 0 = .ok (.iconst 0, 1) := by decide +kernel
theorem dX6_sortOfLine_1 : decode cX6_sortOfLine 1 = .ok (.istore_n 1, 1) := by decide +kernel
theorem dX6_sortOfLine_2 : decode cX6_sortOfLine 2 = .ok (.iload_n 1, 1) := by decide +kernel
theorem dX6_sortOfLine_3 : decode cX6_sortOfLine 3 = .ok (.iconst 4, 1) := by decide +kernel
theorem dX6_sortOfLine_4 : decode cX6_sortOfLine 4 = .ok (.if_icmp .ge 25, 3) := by decide +kernel
theorem dX6_sortOfLine_7 : decode cX6_sortOfLine 7 = .ok (.aload_n 0, 1) := by decide +kernel
theorem dX6_sortOfLine_8 : decode cX6_sortOfLine 8 = .ok (.getfield 20, 3) := by decide +kernel
theorem dX6_sortOfLine_11 : decode cX6_sortOfLine 11 = .ok (.iload_n 1, 1) := by decide +kernel
theorem dX6_sortOfLine_12 : decode cX6_sortOfLine 12 = .ok (.invokestatic 81, 3) := by decide +kernel
theorem dX6_sortOfLine_15 : decode cX6_sortOfLine 15 = .ok (.invokevirtual 85, 3) := by decide +kernel
theorem dX6_sortOfLine_18 : decode cX6_sortOfLine 18 = .ok (.ifCond .eq 5, 3) := by decide +kernel
theorem dX6_sortOfLine_21 : decode cX6_sortOfLine 21 = .ok (.iload_n 1, 1) := by decide +kernel
theorem dX6_sortOfLine_22 : decode cX6_sortOfLine 22 = .ok (.ireturn, 1) := by decide +kernel
theorem dX6_sortOfLine_23 : decode cX6_sortOfLine 23 = .ok (.iinc 1 1, 3) := by decide +kernel
theorem dX6_sortOfLine_26 : decode cX6_sortOfLine 26 = .ok (.goto (-24), 3) := by decide +kernel
theorem dX6_sortOfLine_29 : decode cX6_sortOfLine 29 = .ok (.iconst (-1), 1) := by decide +kernel
theorem dX6_sortOfLine_30 : decode cX6_sortOfLine 30 = .ok (.ireturn, 1) := by decide +kernel
set_option maxRecDepth 20000 in
theorem ggX6_readNumbers_X7_advance : GoodIn wsX6_readNumbers wsX7_advance := goodIn_r _ [9, 10, 11, 12, 13, 14, 15, 16, 17, 18, 19, 20, 21, 8, 22, 23, 24, 25, 26, 27, 28, 29, 30, 31, 32, 33, 63, 64, 65, 66, 67, 68, 69] (by decide +kernel) (by decide +kernel)
set_option maxRecDepth 20000 in
theorem gX6_readNumbers_X7_advance : GoodIn wsX6_readNumbers (wsV RX6 41 RX7 yX7_advance wsX7_advance) := goodIn_app (goodIn_of _ (by decide +kernel)) ggX6_readNumbers_X7_advance
set_option maxRecDepth 20000 in
theorem ggX6_readNumbers_X6_fail : GoodIn wsX6_readNumbers wsX6_fail := goodIn_r _ [38, 1, 2, 39, 40, 59, 60, 61, 62, 63, 64, 65, 66, 67] (by decide +kernel) (by decide +kernel)
set_option maxRecDepth 20000 in
theorem gX6_readNumbers_X6_fail : GoodIn wsX6_readNumbers (wsV RX6 58 RX6 yX6_fail wsX6_fail) := goodIn_app (goodIn_of _ (by decide +kernel)) ggX6_readNumbers_X6_fail
set_option maxRecDepth 20000 in
theorem ggX6_readNumbers_X2_isAsTold : GoodIn wsX6_readNumbers wsX2_isAsTold := goodIn_r _ [44, 45, 46, 43, 47, 48, 49, 50, 51, 52, 53, 54, 55, 56, 57, 58] (by decide +kernel) (by decide +kernel)
set_option maxRecDepth 20000 in
theorem gX6_readNumbers_X2_isAsTold : GoodIn wsX6_readNumbers (va_wsS RX6 92 yX2_isAsTold wsX2_isAsTold) := goodIn_app (goodIn_of _ (by decide +kernel)) ggX6_readNumbers_X2_isAsTold
theorem dX6_readNumbers_0 : decode cX6_readNumbers 0 = .ok (.iconst 0, 1) := by decide +kernel
theorem dX6_readNumbers_1 : decode cX6_readNumbers 1 = .ok (.istore_n 3, 1) := by decide +kernel
theorem dX6_readNumbers_2 : decode cX6_readNumbers 2 = .ok (.iload_n 3, 1) := by decide +kernel
theorem dX6_readNumbers_3 : decode cX6_readNumbers 3 = .ok (.aload_n 2, 1) := by decide +kernel
theorem dX6_readNumbers_4 : decode cX6_readNumbers 4 = .ok (.arraylength, 1) := by decide +kernel
theorem dX6_readNumbers_5 : decode cX6_readNumbers 5 = .ok (.if_icmp .ge 76, 3) := by decide +kernel
theorem dX6_readNumbers_8 : decode cX6_readNumbers 8 = .ok (.aload_n 0, 1) := by decide +kernel
theorem dX6_readNumbers_9 : decode cX6_readNumbers 9 = .ok (.getfield 32, 3) := by decide +kernel
theorem dX6_readNumbers_12 : decode cX6_readNumbers 12 = .ok (.ifCond .ne 69, 3) := by decide +kernel
theorem dX6_readNumbers_15 : decode cX6_readNumbers 15 = .ok (.aload_n 0, 1) := by decide +kernel
theorem dX6_readNumbers_16 : decode cX6_readNumbers 16 = .ok (.getfield 20, 3) := by decide +kernel
theorem dX6_readNumbers_19 : decode cX6_readNumbers 19 = .ok (.invokevirtual 41, 3) := by decide +kernel
theorem dX6_readNumbers_22 : decode cX6_readNumbers 22 = .ok (.aload_n 0, 1) := by decide +kernel
theorem dX6_readNumbers_23 : decode cX6_readNumbers 23 = .ok (.getfield 20, 3) := by decide +kernel
theorem dX6_readNumbers_26 : decode cX6_readNumbers 26 = .ok (.getfield 44, 3) := by decide +kernel
theorem dX6_readNumbers_29 : decode cX6_readNumbers 29 = .ok (.iconst 2, 1) := by decide +kernel
theorem dX6_readNumbers_30 : decode cX6_readNumbers 30 = .ok (.if_icmp .eq 11, 3) := by decide +kernel
theorem dX6_readNumbers_33 : decode cX6_readNumbers 33 = .ok (.aload_n 0, 1) := by decide +kernel
theorem dX6_readNumbers_34 : decode cX6_readNumbers 34 = .ok (.iconst 1, 1) := by decide +kernel
theorem dX6_readNumbers_35 : decode cX6_readNumbers 35 = .ok (.invokevirtual 58, 3) := by decide +kernel
theorem dX6_readNumbers_38 : decode cX6_readNumbers 38 = .ok (.goto 37, 3) := by decide +kernel
theorem dX6_readNumbers_41 : decode cX6_readNumbers 41 = .ok (.iload_n 1, 1) := by decide +kernel
theorem dX6_readNumbers_42 : decode cX6_readNumbers 42 = .ok (.aload_n 2, 1) := by decide +kernel
theorem dX6_readNumbers_43 : decode cX6_readNumbers 43 = .ok (.iload_n 3, 1) := by decide +kernel
theorem dX6_readNumbers_44 : decode cX6_readNumbers 44 = .ok (.aload_n 0, 1) := by decide +kernel
theorem dX6_readNumbers_45 : decode cX6_readNumbers 45 = .ok (.getfield 20, 3) := by decide +kernel
theorem dX6_readNumbers_48 : decode cX6_readNumbers 48 = .ok (.getfield 89, 3) := by decide +kernel
theorem dX6_readNumbers_51 : decode cX6_readNumbers 51 = .ok (.invokestatic 92, 3) := by decide +kernel
theorem dX6_readNumbers_54 : decode cX6_readNumbers 54 = .ok (.ifCond .ne 11, 3) := by decide +kernel
theorem dX6_readNumbers_57 : decode cX6_readNumbers 57 = .ok (.aload_n 0, 1) := by decide +kernel
theorem dX6_readNumbers_58 : decode cX6_readNumbers 58 = .ok (.iconst 2, 1) := by decide +kernel
theorem dX6_readNumbers_59 : decode cX6_readNumbers 59 = .ok (.invokevirtual 58, 3) := by decide +kernel
theorem dX6_readNumbers_62 : decode cX6_readNumbers 62 = .ok (.goto 13, 3) := by decide +kernel
theorem dX6_readNumbers_65 : decode cX6_readNumbers 65 = .ok (.aload_n 2, 1) := by decide +kernel
theorem dX6_readNumbers_66 : decode cX6_readNumbers 66 = .ok (.iload_n 3, 1) := by decide +kernel
theorem dX6_readNumbers_67 : decode cX6_readNumbers 67 = .ok (.aload_n 0, 1) := by decide +kernel
theorem dX6_readNumbers_68 : decode cX6_readNumbers 68 = .ok (.getfield 20, 3) := by decide +kernel
theorem dX6_readNumbers_71 : decode cX6_readNumbers 71 = .ok (.getfield 89, 3) := by decide +kernel
theorem dX6_readNumbers_74 : decode cX6_readNumbers 74 = .ok (.iastore, 1) := by decide +kernel
theorem dX6_readNumbers_75 : decode cX6_readNumbers 75 = .ok (.iinc 3 1, 3) := by decide +kernel
theorem dX6_readNumbers_78 : decode cX6_readNumbers 78 = .ok (.goto (-76), 3) := by decide +kernel
theorem dX6_readNumbers_81 : decode cX6_readNumbers 81 = .ok (.return_, 1) := by decide +kernel
set_option maxRecDepth 20000 in
theorem ggX6_readLineEnd_X7_advance : GoodIn wsX6_readLineEnd wsX7_advance := goodIn_r _ [8, 9, 10, 11, 12, 13, 14, 15, 16, 17, 18, 19, 20, 7, 21, 22, 23, 24, 25, 26, 27, 28, 29, 30, 31, 32, 44, 45, 46, 47, 48, 49, 50] (by decide +kernel) (by decide +kernel)
set_option maxRecDepth 20000 in
theorem gX6_readLineEnd_X7_advance : GoodIn wsX6_readLineEnd (wsV RX6 41 RX7 yX7_advance wsX7_advance) := goodIn_app (goodIn_of _ (by decide +kernel)) ggX6_readLineEnd_X7_advance
set_option maxRecDepth 20000 in
theorem ggX6_readLineEnd_X6_fail : GoodIn wsX6_readLineEnd wsX6_fail := goodIn_r _ [37, 1, 2, 38, 39, 40, 41, 42, 43, 44, 45, 46, 47, 48] (by decide +kernel) (by decide +kernel)
set_option maxRecDepth 20000 in
theorem gX6_readLineEnd_X6_fail : GoodIn wsX6_readLineEnd (wsV RX6 58 RX6 yX6_fail wsX6_fail) := goodIn_app (goodIn_of _ (by decide +kernel)) ggX6_readLineEnd_X6_fail
theorem dX6_readLineEnd_0 : decode cX6_readLineEnd 0 = .ok (.aload_n 0, 1) := by decide +kernel
theorem dX6_readLineEnd_1 : decode cX6_readLineEnd 1 = .ok (.getfield 32, 3) := by decide +kernel
theorem dX6_readLineEnd_4 : decode cX6_readLineEnd 4 = .ok (.ifCond .eq 4, 3) := by decide +kernel
theorem dX6_readLineEnd_7 : decode cX6_readLineEnd 7 = .ok (.return_, 1) := by decide +kernel
theorem dX6_readLineEnd_8 : decode cX6_readLineEnd 8 = .ok (.aload_n 0, 1) := by decide +kernel
theorem dX6_readLineEnd_9 : decode cX6_readLineEnd 9 = .ok (.getfield 20, 3) := by decide +kernel
theorem dX6_readLineEnd_12 : decode cX6_readLineEnd 12 = .ok (.invokevirtual 41, 3) := by decide +kernel
theorem dX6_readLineEnd_15 : decode cX6_readLineEnd 15 = .ok (.aload_n 0, 1) := by decide +kernel
theorem dX6_readLineEnd_16 : decode cX6_readLineEnd 16 = .ok (.getfield 20, 3) := by decide +kernel
theorem dX6_readLineEnd_19 : decode cX6_readLineEnd 19 = .ok (.getfield 44, 3) := by decide +kernel
theorem dX6_readLineEnd_22 : decode cX6_readLineEnd 22 = .ok (.iconst 3, 1) := by decide +kernel
theorem dX6_readLineEnd_23 : decode cX6_readLineEnd 23 = .ok (.if_icmp .eq 8, 3) := by decide +kernel
theorem dX6_readLineEnd_26 : decode cX6_readLineEnd 26 = .ok (.aload_n 0, 1) := by decide +kernel
theorem dX6_readLineEnd_27 : decode cX6_readLineEnd 27 = .ok (.iconst 1, 1) := by decide +kernel
theorem dX6_readLineEnd_28 : decode cX6_readLineEnd 28 = .ok (.invokevirtual 58, 3) := by decide +kernel
theorem dX6_readLineEnd_31 : decode cX6_readLineEnd 31 = .ok (.return_, 1) := by decide +kernel
theorem dX6_fail_0 : decode cX6_fail 0 = .ok (.aload_n 0, 1) := by decide +kernel
theorem dX6_fail_1 : decode cX6_fail 1 = .ok (.iload_n 1, 1) := by decide +kernel
theorem dX6_fail_2 : decode cX6_fail 2 = .ok (.putfield 32, 3) := by decide +kernel
theorem dX6_fail_5 : decode cX6_fail 5 = .ok (.aload_n 0, 1) := by decide +kernel
theorem dX6_fail_6 : decode cX6_fail 6 = .ok (.aload_n 0, 1) := by decide +kernel
theorem dX6_fail_7 : decode cX6_fail 7 = .ok (.getfield 20, 3) := by decide +kernel
theorem dX6_fail_10 : decode cX6_fail 10 = .ok (.getfield 96, 3) := by decide +kernel
theorem dX6_fail_13 : decode cX6_fail 13 = .ok (.putfield 51, 3) := by decide +kernel
theorem dX6_fail_16 : decode cX6_fail 16 = .ok (.return_, 1) := by decide +kernel
theorem dX7_init_0 : decode cX7_init 0 = .ok (.aload_n 0, 1) := by decide +kernel
theorem dX7_init_1 : decode cX7_init 1 = .ok (.invokespecial 1, 3) := by decide +kernel
theorem dX7_init_4 : decode cX7_init 4 = .ok (.aload_n 0, 1) := by decide +kernel
theorem dX7_init_5 : decode cX7_init 5 = .ok (.aload_n 1, 1) := by decide +kernel
theorem dX7_init_6 : decode cX7_init 6 = .ok (.putfield 7, 3) := by decide +kernel
theorem dX7_init_9 : decode cX7_init 9 = .ok (.return_, 1) := by decide +kernel
theorem dX7_restart_0 : decode cX7_restart 0 = .ok (.aload_n 0, 1) := by decide +kernel
theorem dX7_restart_1 : decode cX7_restart 1 = .ok (.iconst 0, 1) := by decide +kernel
theorem dX7_restart_2 : decode cX7_restart 2 = .ok (.putfield 13, 3) := by decide +kernel
theorem dX7_restart_5 : decode cX7_restart 5 = .ok (.return_, 1) := by decide +kernel
theorem dX7_isTextTooLong_0 : decode cX7_isTextTooLong 0 = .ok (.aload_n 0, 1) := by decide +kernel
theorem dX7_isTextTooLong_1 : decode cX7_isTextTooLong 1 = .ok (.getfield 7, 3) := by decide +kernel
theorem dX7_isTextTooLong_4 : decode cX7_isTextTooLong 4 = .ok (.getfield 17, 3) := by decide +kernel
theorem dX7_isTextTooLong_7 : decode cX7_isTextTooLong 7 = .ok (.sipush 700, 3) := by decide +kernel
theorem dX7_isTextTooLong_10 : decode cX7_isTextTooLong 10 = .ok (.if_icmp .le 7, 3) := by decide +kernel
theorem dX7_isTextTooLong_13 : decode cX7_isTextTooLong 13 = .ok (.iconst 1, 1) := by decide +kernel
theorem dX7_isTextTooLong_14 : decode cX7_isTextTooLong 14 = .ok (.goto 4, 3) := by decide +kernel
theorem dX7_isTextTooLong_17 : decode cX7_isTextTooLong 17 = .ok (.iconst 0, 1) := by decide +kernel
theorem dX7_isTextTooLong_18 : decode cX7_isTextTooLong 18 = .ok (.ireturn, 1) := by decide +kernel
set_option maxRecDepth 20000 in
theorem ggX7_advance_X7_isBlank : GoodIn wsX7_advance wsX7_isBlank := goodIn_r _ [14] (by decide +kernel) (by decide +kernel)
set_option maxRecDepth 20000 in
theorem gX7_advance_X7_isBlank : GoodIn wsX7_advance (va_wsS RX7 32 yX7_isBlank wsX7_isBlank) := goodIn_app (goodIn_of _ (by decide +kernel)) ggX7_advance_X7_isBlank
set_option maxRecDepth 20000 in
theorem ggX7_advance_X7_isLetter : GoodIn wsX7_advance wsX7_isLetter := goodIn_r _ [17] (by decide +kernel) (by decide +kernel)
set_option maxRecDepth 20000 in
theorem gX7_advance_X7_isLetter : GoodIn wsX7_advance (va_wsS RX7 42 yX7_isLetter wsX7_isLetter) := goodIn_app (goodIn_of _ (by decide +kernel)) ggX7_advance_X7_isLetter
set_option maxRecDepth 20000 in
theorem ggX7_advance_X7_isDigit : GoodIn wsX7_advance wsX7_isDigit := goodIn_r _ [20] (by decide +kernel) (by decide +kernel)
set_option maxRecDepth 20000 in
theorem gX7_advance_X7_isDigit : GoodIn wsX7_advance (va_wsS RX7 45 yX7_isDigit wsX7_isDigit) := goodIn_app (goodIn_of _ (by decide +kernel)) ggX7_advance_X7_isDigit
set_option maxRecDepth 20000 in
theorem ggX7_advance_X7_readRun : GoodIn wsX7_advance wsX7_readRun := goodIn_r _ [24, 25, 7, 1, 2, 8, 10, 15, 16, 13, 17, 18, 19, 20, 26, 27, 28, 29, 30, 31, 32] (by decide +kernel) (by decide +kernel)
set_option maxRecDepth 20000 in
theorem gX7_advance_X7_readRun : GoodIn wsX7_advance (wsV RX7 48 RX7 yX7_readRun wsX7_readRun) := goodIn_app (goodIn_of _ (by decide +kernel)) ggX7_advance_X7_readRun
theorem dX7_advance_0 : decode cX7_advance 0 = .ok (.aload_n 0, 1) := by decide +kernel
theorem dX7_advance_1 : decode cX7_advance 1 = .ok (.getfield 7, 3) := by decide +kernel
theorem dX7_advance_4 : decode cX7_advance 4 = .ok (.getfield 17, 3) := by decide +kernel
theorem dX7_advance_7 : decode cX7_advance 7 = .ok (.sipush 700, 3) := by decide +kernel
theorem dX7_advance_10 : decode cX7_advance 10 = .ok (.invokestatic 22, 3) := by decide +kernel
theorem dX7_advance_13 : decode cX7_advance 13 = .ok (.istore_n 1, 1) := by decide +kernel
theorem dX7_advance_14 : decode cX7_advance 14 = .ok (.aload_n 0, 1) := by decide +kernel
theorem dX7_advance_15 : decode cX7_advance 15 = .ok (.getfield 13, 3) := by decide +kernel
theorem dX7_advance_18 : decode cX7_advance 18 = .ok (.iload_n 1, 1) := by decide +kernel
theorem dX7_advance_19 : decode cX7_advance 19 = .ok (.if_icmp .ge 34, 3) := by decide +kernel
theorem dX7_advance_22 : decode cX7_advance 22 = .ok (.aload_n 0, 1) := by decide +kernel
theorem dX7_advance_23 : decode cX7_advance 23 = .ok (.getfield 7, 3) := by decide +kernel
theorem dX7_advance_26 : decode cX7_advance 26 = .ok (.getfield 28, 3) := by decide +kernel
theorem dX7_advance_29 : decode cX7_advance 29 = .ok (.aload_n 0, 1) := by decide +kernel
theorem dX7_advance_30 : decode cX7_advance 30 = .ok (.getfield 13, 3) := by decide +kernel
theorem dX7_advance_33 : decode cX7_advance 33 = .ok (.baload, 1) := by decide +kernel
theorem dX7_advance_34 : decode cX7_advance 34 = .ok (.invokestatic 32, 3) := by decide +kernel
theorem dX7_advance_37 : decode cX7_advance 37 = .ok (.ifCond .eq 16, 3) := by decide +kernel
theorem dX7_advance_40 : decode cX7_advance 40 = .ok (.aload_n 0, 1) := by decide +kernel
theorem dX7_advance_41 : decode cX7_advance 41 = .ok (.dup, 1) := by decide +kernel
theorem dX7_advance_42 : decode cX7_advance 42 = .ok (.getfield 13, 3) := by decide +kernel
theorem dX7_advance_45 : decode cX7_advance 45 = .ok (.iconst 1, 1) := by decide +kernel
theorem dX7_advance_46 : decode cX7_advance 46 = .ok (.iadd, 1) := by decide +kernel
theorem dX7_advance_47 : decode cX7_advance 47 = .ok (.putfield 13, 3) := by decide +kernel
theorem dX7_advance_50 : decode cX7_advance 50 = .ok (.goto (-36), 3) := by decide +kernel
theorem dX7_advance_53 : decode cX7_advance 53 = .ok (.aload_n 0, 1) := by decide +kernel
theorem dX7_advance_54 : decode cX7_advance 54 = .ok (.aload_n 0, 1) := by decide +kernel
theorem dX7_advance_55 : decode cX7_advance 55 = .ok (.getfield 13, 3) := by decide +kernel
theorem dX7_advance_58 : decode cX7_advance 58 = .ok (.iload_n 1, 1) := by decide +kernel
theorem dX7_advance_59 : decode cX7_advance 59 = .ok (.invokestatic 22, 3) := by decide +kernel
theorem dX7_advance_62 : decode cX7_advance 62 = .ok (.putfield 36, 3) := by decide +kernel
theorem dX7_advance_65 : decode cX7_advance 65 = .ok (.aload_n 0, 1) := by decide +kernel
theorem dX7_advance_66 : decode cX7_advance 66 = .ok (.getfield 13, 3) := by decide +kernel
theorem dX7_advance_69 : decode cX7_advance 69 = .ok (.iload_n 1, 1) := by decide +kernel
theorem dX7_advance_70 : decode cX7_advance 70 = .ok (.if_icmp .lt 11, 3) := by decide +kernel
theorem dX7_advance_73 : decode cX7_advance 73 = .ok (.aload_n 0, 1) := by decide +kernel
theorem dX7_advance_74 : decode cX7_advance 74 = .ok (.iconst 0, 1) := by decide +kernel
theorem dX7_advance_75 : decode cX7_advance 75 = .ok (.putfield 39, 3) := by decide +kernel
theorem dX7_advance_78 : decode cX7_advance 78 = .ok (.goto 82, 3) := by decide +kernel
theorem dX7_advance_81 : decode cX7_advance 81 = .ok (.aload_n 0, 1) := by decide +kernel
theorem dX7_advance_82 : decode cX7_advance 82 = .ok (.getfield 7, 3) := by decide +kernel
theorem dX7_advance_85 : decode cX7_advance 85 = .ok (.getfield 28, 3) := by decide +kernel
theorem dX7_advance_88 : decode cX7_advance 88 = .ok (.aload_n 0, 1) := by decide +kernel
theorem dX7_advance_89 : decode cX7_advance 89 = .ok (.getfield 13, 3) := by decide +kernel
theorem dX7_advance_92 : decode cX7_advance 92 = .ok (.baload, 1) := by decide +kernel
theorem dX7_advance_93 : decode cX7_advance 93 = .ok (.invokestatic 42, 3) := by decide +kernel
theorem dX7_advance_96 : decode cX7_advance 96 = .ok (.ifCond .ne 21, 3) := by decide +kernel
theorem dX7_advance_99 : decode cX7_advance 99 = .ok (.aload_n 0, 1) := by decide +kernel
theorem dX7_advance_100 : decode cX7_advance 100 = .ok (.getfield 7, 3) := by decide +kernel
theorem dX7_advance_103 : decode cX7_advance 103 = .ok (.getfield 28, 3) := by decide +kernel
theorem dX7_advance_106 : decode cX7_advance 106 = .ok (.aload_n 0, 1) := by decide +kernel
theorem dX7_advance_107 : decode cX7_advance 107 = .ok (.getfield 13, 3) := by decide +kernel
theorem dX7_advance_110 : decode cX7_advance 110 = .ok (.baload, 1) := by decide +kernel
theorem dX7_advance_111 : decode cX7_advance 111 = .ok (.invokestatic 45, 3) := by decide +kernel
theorem dX7_advance_114 : decode cX7_advance 114 = .ok (.ifCond .eq 10, 3) := by decide +kernel
theorem dX7_advance_117 : decode cX7_advance 117 = .ok (.aload_n 0, 1) := by decide +kernel
theorem dX7_advance_118 : decode cX7_advance 118 = .ok (.invokevirtual 48, 3) := by decide +kernel
theorem dX7_advance_121 : decode cX7_advance 121 = .ok (.goto 39, 3) := by decide +kernel
theorem dX7_advance_124 : decode cX7_advance 124 = .ok (.aload_n 0, 1) := by decide +kernel
theorem dX7_advance_125 : decode cX7_advance 125 = .ok (.aload_n 0, 1) := by decide +kernel
theorem dX7_advance_126 : decode cX7_advance 126 = .ok (.getfield 7, 3) := by decide +kernel
theorem dX7_advance_129 : decode cX7_advance 129 = .ok (.getfield 28, 3) := by decide +kernel
theorem dX7_advance_132 : decode cX7_advance 132 = .ok (.aload_n 0, 1) := by decide +kernel
theorem dX7_advance_133 : decode cX7_advance 133 = .ok (.getfield 13, 3) := by decide +kernel
theorem dX7_advance_136 : decode cX7_advance 136 = .ok (.baload, 1) := by decide +kernel
theorem dX7_advance_137 : decode cX7_advance 137 = .ok (.bipush 59, 2) := by decide +kernel
theorem dX7_advance_139 : decode cX7_advance 139 = .ok (.if_icmp .ne 7, 3) := by decide +kernel
theorem dX7_advance_142 : decode cX7_advance 142 = .ok (.iconst 3, 1) := by decide +kernel
theorem dX7_advance_143 : decode cX7_advance 143 = .ok (.goto 4, 3) := by decide +kernel
theorem dX7_advance_146 : decode cX7_advance 146 = .ok (.iconst 4, 1) := by decide +kernel
theorem dX7_advance_147 : decode cX7_advance 147 = .ok (.putfield 39, 3) := by decide +kernel
theorem dX7_advance_150 : decode cX7_advance 150 = .ok (.aload_n 0, 1) := by decide +kernel
theorem dX7_advance_151 : decode cX7_advance 151 = .ok (.dup, 1) := by decide +kernel
theorem dX7_advance_152 : decode cX7_advance 152 = .ok (.getfield 13, 3) := by decide +kernel
theorem dX7_advance_155 : decode cX7_advance 155 = .ok (.iconst 1, 1) := by decide +kernel
theorem dX7_advance_156 : decode cX7_advance 156 = .ok (.iadd, 1) := by decide +kernel
theorem dX7_advance_157 : decode cX7_advance 157 = .ok (.putfield 13, 3) := by decide +kernel
theorem dX7_advance_160 : decode cX7_advance 160 = .ok (.return_, 1) := by decide +kernel
set_option maxRecDepth 20000 in
theorem ggX7_readRun_X7_isLetter : GoodIn wsX7_readRun wsX7_isLetter := goodIn_r _ [10] (by decide +kernel) (by decide +kernel)
set_option maxRecDepth 20000 in
theorem gX7_readRun_X7_isLetter : GoodIn wsX7_readRun (va_wsS RX7 42 yX7_isLetter wsX7_isLetter) := goodIn_app (goodIn_of _ (by decide +kernel)) ggX7_readRun_X7_isLetter
set_option maxRecDepth 20000 in
theorem ggX7_readRun_X7_isDigit : GoodIn wsX7_readRun wsX7_isDigit := goodIn_r _ [13] (by decide +kernel) (by decide +kernel)
set_option maxRecDepth 20000 in
theorem gX7_readRun_X7_isDigit : GoodIn wsX7_readRun (va_wsS RX7 45 yX7_isDigit wsX7_isDigit) := goodIn_app (goodIn_of _ (by decide +kernel)) ggX7_readRun_X7_isDigit
theorem dX7_readRun_0 : decode cX7_readRun 0 = .ok (.iconst 0, 1) := by decide +kernel
theorem dX7_readRun_1 : decode cX7_readRun 1 = .ok (.istore_n 1, 1) := by decide +kernel
theorem dX7_readRun_2 : decode cX7_readRun 2 = .ok (.iconst 0, 1) := by decide +kernel
theorem dX7_readRun_3 : decode cX7_readRun 3 = .ok (.istore_n 2, 1) := by decide +kernel
theorem dX7_readRun_4 : decode cX7_readRun 4 = .ok (.aload_n 0, 1) := by decide +kernel
theorem dX7_readRun_5 : decode cX7_readRun 5 = .ok (.iconst 0, 1) := by decide +kernel
theorem dX7_readRun_6 : decode cX7_readRun 6 = .ok (.putfield 51, 3) := by decide +kernel
theorem dX7_readRun_9 : decode cX7_readRun 9 = .ok (.aload_n 0, 1) := by decide +kernel
theorem dX7_readRun_10 : decode cX7_readRun 10 = .ok (.getfield 13, 3) := by decide +kernel
theorem dX7_readRun_13 : decode cX7_readRun 13 = .ok (.aload_n 0, 1) := by decide +kernel
theorem dX7_readRun_14 : decode cX7_readRun 14 = .ok (.getfield 7, 3) := by decide +kernel
theorem dX7_readRun_17 : decode cX7_readRun 17 = .ok (.getfield 17, 3) := by decide +kernel
theorem dX7_readRun_20 : decode cX7_readRun 20 = .ok (.if_icmp .ge 68, 3) := by decide +kernel
theorem dX7_readRun_23 : decode cX7_readRun 23 = .ok (.aload_n 0, 1) := by decide +kernel
theorem dX7_readRun_24 : decode cX7_readRun 24 = .ok (.getfield 7, 3) := by decide +kernel
theorem dX7_readRun_27 : decode cX7_readRun 27 = .ok (.getfield 28, 3) := by decide +kernel
theorem dX7_readRun_30 : decode cX7_readRun 30 = .ok (.aload_n 0, 1) := by decide +kernel
theorem dX7_readRun_31 : decode cX7_readRun 31 = .ok (.getfield 13, 3) := by decide +kernel
theorem dX7_readRun_34 : decode cX7_readRun 34 = .ok (.baload, 1) := by decide +kernel
theorem dX7_readRun_35 : decode cX7_readRun 35 = .ok (.istore_n 3, 1) := by decide +kernel
