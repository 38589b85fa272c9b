theorem dX2_openRow_14 : decode cX2_openRow 14 = .ok (.getfield 25, 3) := by decide +kernel
theorem dX2_openRow_17 : decode cX2_openRow 17 = .ok (.iload_n 1, 1) := by decide +kernel
theorem dX2_openRow_18 : decode cX2_openRow 18 = .ok (.dup2, 1) := by decide +kernel
theorem dX2_openRow_19 : decode cX2_openRow 19 = .ok (.iaload, 1) := by decide +kernel
theorem dX2_openRow_20 : decode cX2_openRow 20 = .ok (.iconst 1, 1) := by decide +kernel
theorem dX2_openRow_21 : decode cX2_openRow 21 = .ok (.iadd, 1) := by decide +kernel
theorem dX2_openRow_22 : decode cX2_openRow 22 = .ok (.iastore, 1) := by decide +kernel
theorem dX2_openRow_23 : decode cX2_openRow 23 = .ok (.aload_n 2, 1) := by decide +kernel
theorem dX2_openRow_24 : decode cX2_openRow 24 = .ok (.areturn, 1) := by decide +kernel
set_option maxRecDepth 20000 in
theorem ggX2_isAsTold_X2_leastOf : GoodIn wsX2_isAsTold wsX2_leastOf := goodIn_r _ [4, 5, 6, 7, 8] (by decide +kernel) (by decide +kernel)
set_option maxRecDepth 20000 in
theorem gX2_isAsTold_X2_leastOf : GoodIn wsX2_isAsTold (va_wsS RX2 74 yX2_leastOf wsX2_leastOf) := goodIn_app (goodIn_of _ (by decide +kernel)) ggX2_isAsTold_X2_leastOf
set_option maxRecDepth 20000 in
theorem ggX2_isAsTold_X2_mostOf : GoodIn wsX2_isAsTold wsX2_mostOf := goodIn_r _ [11, 12, 13, 14, 15] (by decide +kernel) (by decide +kernel)
set_option maxRecDepth 20000 in
theorem gX2_isAsTold_X2_mostOf : GoodIn wsX2_isAsTold (va_wsS RX2 78 yX2_mostOf wsX2_mostOf) := goodIn_app (goodIn_of _ (by decide +kernel)) ggX2_isAsTold_X2_mostOf
theorem dX2_isAsTold_0 : decode cX2_isAsTold 0 = .ok (.iload_n 0, 1) := by decide +kernel
theorem dX2_isAsTold_1 : decode cX2_isAsTold 1 = .ok (.invokestatic 74, 3) := by decide +kernel
theorem dX2_isAsTold_4 : decode cX2_isAsTold 4 = .ok (.iload_n 2, 1) := by decide +kernel
theorem dX2_isAsTold_5 : decode cX2_isAsTold 5 = .ok (.iaload, 1) := by decide +kernel
theorem dX2_isAsTold_6 : decode cX2_isAsTold 6 = .ok (.istore 4, 2) := by decide +kernel
theorem dX2_isAsTold_8 : decode cX2_isAsTold 8 = .ok (.iload_n 0, 1) := by decide +kernel
theorem dX2_isAsTold_9 : decode cX2_isAsTold 9 = .ok (.iconst 1, 1) := by decide +kernel
theorem dX2_isAsTold_10 : decode cX2_isAsTold 10 = .ok (.if_icmp .ne 13, 3) := by decide +kernel
theorem dX2_isAsTold_13 : decode cX2_isAsTold 13 = .ok (.iload_n 2, 1) := by decide +kernel
theorem dX2_isAsTold_14 : decode cX2_isAsTold 14 = .ok (.iconst 1, 1) := by decide +kernel
theorem dX2_isAsTold_15 : decode cX2_isAsTold 15 = .ok (.if_icmp .ne 8, 3) := by decide +kernel
theorem dX2_isAsTold_18 : decode cX2_isAsTold 18 = .ok (.aload_n 1, 1) := by decide +kernel
theorem dX2_isAsTold_19 : decode cX2_isAsTold 19 = .ok (.iconst 0, 1) := by decide +kernel
theorem dX2_isAsTold_20 : decode cX2_isAsTold 20 = .ok (.iaload, 1) := by decide +kernel
theorem dX2_isAsTold_21 : decode cX2_isAsTold 21 = .ok (.istore 4, 2) := by decide +kernel
theorem dX2_isAsTold_23 : decode cX2_isAsTold 23 = .ok (.iload_n 3, 1) := by decide +kernel
theorem dX2_isAsTold_24 : decode cX2_isAsTold 24 = .ok (.iload 4, 2) := by decide +kernel
theorem dX2_isAsTold_26 : decode cX2_isAsTold 26 = .ok (.if_icmp .lt 17, 3) := by decide +kernel
theorem dX2_isAsTold_29 : decode cX2_isAsTold 29 = .ok (.iload_n 3, 1) := by decide +kernel
theorem dX2_isAsTold_30 : decode cX2_isAsTold 30 = .ok (.iload_n 0, 1) := by decide +kernel
theorem dX2_isAsTold_31 : decode cX2_isAsTold 31 = .ok (.invokestatic 78, 3) := by decide +kernel
theorem dX2_isAsTold_34 : decode cX2_isAsTold 34 = .ok (.iload_n 2, 1) := by decide +kernel
theorem dX2_isAsTold_35 : decode cX2_isAsTold 35 = .ok (.iaload, 1) := by decide +kernel
theorem dX2_isAsTold_36 : decode cX2_isAsTold 36 = .ok (.if_icmp .gt 7, 3) := by decide +kernel
theorem dX2_isAsTold_39 : decode cX2_isAsTold 39 = .ok (.iconst 1, 1) := by decide +kernel
theorem dX2_isAsTold_40 : decode cX2_isAsTold 40 = .ok (.goto 4, 3) := by decide +kernel
theorem dX2_isAsTold_43 : decode cX2_isAsTold 43 = .ok (.iconst 0, 1) := by decide +kernel
theorem dX2_isAsTold_44 : decode cX2_isAsTold 44 = .ok (.ireturn, 1) := by decide +kernel
theorem dX2_low_0 : decode cX2_low 0 = .ok (.aload_n 0, 1) := by decide +kernel
theorem dX2_low_1 : decode cX2_low 1 = .ok (.getfield 11, 3) := by decide +kernel
theorem dX2_low_4 : decode cX2_low 4 = .ok (.iconst 0, 1) := by decide +kernel
theorem dX2_low_5 : decode cX2_low 5 = .ok (.aaload, 1) := by decide +kernel
theorem dX2_low_6 : decode cX2_low 6 = .ok (.iconst 0, 1) := by decide +kernel
theorem dX2_low_7 : decode cX2_low 7 = .ok (.iaload, 1) := by decide +kernel
theorem dX2_low_8 : decode cX2_low 8 = .ok (.ireturn, 1) := by decide +kernel
theorem dX2_high_0 : decode cX2_high 0 = .ok (.aload_n 0, 1) := by decide +kernel
theorem dX2_high_1 : decode cX2_high 1 = .ok (.getfield 11, 3) := by decide +kernel
theorem dX2_high_4 : decode cX2_high 4 = .ok (.iconst 0, 1) := by decide +kernel
theorem dX2_high_5 : decode cX2_high 5 = .ok (.aaload, 1) := by decide +kernel
theorem dX2_high_6 : decode cX2_high 6 = .ok (.iconst 1, 1) := by decide +kernel
theorem dX2_high_7 : decode cX2_high 7 = .ok (.iaload, 1) := by decide +kernel
theorem dX2_high_8 : decode cX2_high 8 = .ok (.ireturn, 1) := by decide +kernel
theorem dX2_window_0 : decode cX2_window 0 = .ok (.aload_n 0, 1) := by decide +kernel
theorem dX2_window_1 : decode cX2_window 1 = .ok (.getfield 11, 3) := by decide +kernel
theorem dX2_window_4 : decode cX2_window 4 = .ok (.iconst 0, 1) := by decide +kernel
theorem dX2_window_5 : decode cX2_window 5 = .ok (.aaload, 1) := by decide +kernel
theorem dX2_window_6 : decode cX2_window 6 = .ok (.iconst 2, 1) := by decide +kernel
theorem dX2_window_7 : decode cX2_window 7 = .ok (.iaload, 1) := by decide +kernel
theorem dX2_window_8 : decode cX2_window 8 = .ok (.ireturn, 1) := by decide +kernel
theorem dX2_limit_0 : decode cX2_limit 0 = .ok (.aload_n 0, 1) := by decide +kernel
theorem dX2_limit_1 : decode cX2_limit 1 = .ok (.getfield 11, 3) := by decide +kernel
theorem dX2_limit_4 : decode cX2_limit 4 = .ok (.iconst 0, 1) := by decide +kernel
theorem dX2_limit_5 : decode cX2_limit 5 = .ok (.aaload, 1) := by decide +kernel
theorem dX2_limit_6 : decode cX2_limit 6 = .ok (.iconst 3, 1) := by decide +kernel
theorem dX2_limit_7 : decode cX2_limit 7 = .ok (.iaload, 1) := by decide +kernel
theorem dX2_limit_8 : decode cX2_limit 8 = .ok (.ireturn, 1) := by decide +kernel
theorem dX2_seasons_0 : decode cX2_seasons 0 = .ok (.aload_n 0, 1) := by decide +kernel
theorem dX2_seasons_1 : decode cX2_seasons 1 = .ok (.getfield 25, 3) := by decide +kernel
theorem dX2_seasons_4 : decode cX2_seasons 4 = .ok (.iconst 1, 1) := by decide +kernel
theorem dX2_seasons_5 : decode cX2_seasons 5 = .ok (.iaload, 1) := by decide +kernel
theorem dX2_seasons_6 : decode cX2_seasons 6 = .ok (.ireturn, 1) := by decide +kernel
theorem dX2_workers_0 : decode cX2_workers 0 = .ok (.aload_n 0, 1) := by decide +kernel
theorem dX2_workers_1 : decode cX2_workers 1 = .ok (.getfield 25, 3) := by decide +kernel
theorem dX2_workers_4 : decode cX2_workers 4 = .ok (.iconst 3, 1) := by decide +kernel
theorem dX2_workers_5 : decode cX2_workers 5 = .ok (.iaload, 1) := by decide +kernel
theorem dX2_workers_6 : decode cX2_workers 6 = .ok (.ireturn, 1) := by decide +kernel
theorem dX2_rateOf_0 : decode cX2_rateOf 0 = .ok (.aload_n 0, 1) := by decide +kernel
theorem dX2_rateOf_1 : decode cX2_rateOf 1 = .ok (.getfield 22, 3) := by decide +kernel
theorem dX2_rateOf_4 : decode cX2_rateOf 4 = .ok (.iload_n 1, 1) := by decide +kernel
theorem dX2_rateOf_5 : decode cX2_rateOf 5 = .ok (.aaload, 1) := by decide +kernel
theorem dX2_rateOf_6 : decode cX2_rateOf 6 = .ok (.iconst 0, 1) := by decide +kernel
theorem dX2_rateOf_7 : decode cX2_rateOf 7 = .ok (.iaload, 1) := by decide +kernel
theorem dX2_rateOf_8 : decode cX2_rateOf 8 = .ok (.ireturn, 1) := by decide +kernel
theorem dX2_leaveOf_0 : decode cX2_leaveOf 0 = .ok (.aload_n 0, 1) := by decide +kernel
theorem dX2_leaveOf_1 : decode cX2_leaveOf 1 = .ok (.getfield 22, 3) := by decide +kernel
theorem dX2_leaveOf_4 : decode cX2_leaveOf 4 = .ok (.iload_n 1, 1) := by decide +kernel
theorem dX2_leaveOf_5 : decode cX2_leaveOf 5 = .ok (.aaload, 1) := by decide +kernel
theorem dX2_leaveOf_6 : decode cX2_leaveOf 6 = .ok (.iconst 1, 1) := by decide +kernel
theorem dX2_leaveOf_7 : decode cX2_leaveOf 7 = .ok (.iaload, 1) := by decide +kernel
theorem dX2_leaveOf_8 : decode cX2_leaveOf 8 = .ok (.ireturn, 1) := by decide +kernel
theorem dX2_seasonPlan_0 : decode cX2_seasonPlan 0 = .ok (.aload_n 0, 1) := by decide +kernel
theorem dX2_seasonPlan_1 : decode cX2_seasonPlan 1 = .ok (.getfield 25, 3) := by decide +kernel
theorem dX2_seasonPlan_4 : decode cX2_seasonPlan 4 = .ok (.iconst 1, 1) := by decide +kernel
theorem dX2_seasonPlan_5 : decode cX2_seasonPlan 5 = .ok (.iaload, 1) := by decide +kernel
theorem dX2_seasonPlan_6 : decode cX2_seasonPlan 6 = .ok (.iconst 1, 1) := by decide +kernel
theorem dX2_seasonPlan_7 : decode cX2_seasonPlan 7 = .ok (.isub, 1) := by decide +kernel
theorem dX2_seasonPlan_8 : decode cX2_seasonPlan 8 = .ok (.istore_n 2, 1) := by decide +kernel
theorem dX2_seasonPlan_9 : decode cX2_seasonPlan 9 = .ok (.iload_n 2, 1) := by decide +kernel
theorem dX2_seasonPlan_10 : decode cX2_seasonPlan 10 = .ok (.ifCond .lt 47, 3) := by decide +kernel
theorem dX2_seasonPlan_13 : decode cX2_seasonPlan 13 = .ok (.aload_n 0, 1) := by decide +kernel
theorem dX2_seasonPlan_14 : decode cX2_seasonPlan 14 = .ok (.getfield 16, 3) := by decide +kernel
theorem dX2_seasonPlan_17 : decode cX2_seasonPlan 17 = .ok (.iload_n 2, 1) := by decide +kernel
theorem dX2_seasonPlan_18 : decode cX2_seasonPlan 18 = .ok (.aaload, 1) := by decide +kernel
theorem dX2_seasonPlan_19 : decode cX2_seasonPlan 19 = .ok (.iconst 0, 1) := by decide +kernel
theorem dX2_seasonPlan_20 : decode cX2_seasonPlan 20 = .ok (.iaload, 1) := by decide +kernel
theorem dX2_seasonPlan_21 : decode cX2_seasonPlan 21 = .ok (.iload_n 1, 1) := by decide +kernel
theorem dX2_seasonPlan_22 : decode cX2_seasonPlan 22 = .ok (.if_icmp .gt 29, 3) := by decide +kernel
theorem dX2_seasonPlan_25 : decode cX2_seasonPlan 25 = .ok (.iload_n 1, 1) := by decide +kernel
theorem dX2_seasonPlan_26 : decode cX2_seasonPlan 26 = .ok (.aload_n 0, 1) := by decide +kernel
theorem dX2_seasonPlan_27 : decode cX2_seasonPlan 27 = .ok (.getfield 16, 3) := by decide +kernel
theorem dX2_seasonPlan_30 : decode cX2_seasonPlan 30 = .ok (.iload_n 2, 1) := by decide +kernel
theorem dX2_seasonPlan_31 : decode cX2_seasonPlan 31 = .ok (.aaload, 1) := by decide +kernel
theorem dX2_seasonPlan_32 : decode cX2_seasonPlan 32 = .ok (.iconst 1, 1) := by decide +kernel
theorem dX2_seasonPlan_33 : decode cX2_seasonPlan 33 = .ok (.iaload, 1) := by decide +kernel
theorem dX2_seasonPlan_34 : decode cX2_seasonPlan 34 = .ok (.if_icmp .gt 17, 3) := by decide +kernel
theorem dX2_seasonPlan_37 : decode cX2_seasonPlan 37 = .ok (.aload_n 0, 1) := by decide +kernel
theorem dX2_seasonPlan_38 : decode cX2_seasonPlan 38 = .ok (.getfield 16, 3) := by decide +kernel
theorem dX2_seasonPlan_41 : decode cX2_seasonPlan 41 = .ok (.iload_n 2, 1) := by decide +kernel
theorem dX2_seasonPlan_42 : decode cX2_seasonPlan 42 = .ok (.aaload, 1) := by decide +kernel
theorem dX2_seasonPlan_43 : decode cX2_seasonPlan 43 = .ok (.iconst 2, 1) := by decide +kernel
theorem dX2_seasonPlan_44 : decode cX2_seasonPlan 44 = .ok (.iload_n 1, 1) := by decide +kernel
theorem dX2_seasonPlan_45 : decode cX2_seasonPlan 45 = .ok (.bipush 7, 2) := by decide +kernel
theorem dX2_seasonPlan_47 : decode cX2_seasonPlan 47 = .ok (.irem, 1) := by decide +kernel
theorem dX2_seasonPlan_48 : decode cX2_seasonPlan 48 = .ok (.iadd, 1) := by decide +kernel
theorem dX2_seasonPlan_49 : decode cX2_seasonPlan 49 = .ok (.iaload, 1) := by decide +kernel
theorem dX2_seasonPlan_50 : decode cX2_seasonPlan 50 = .ok (.ireturn, 1) := by decide +kernel
theorem dX2_seasonPlan_51 : decode cX2_seasonPlan 51 = .ok (.iinc 2 (-1), 3) := by decide +kernel
theorem dX2_seasonPlan_54 : decode cX2_seasonPlan 54 = .ok (.goto (-45), 3) := by decide +kernel
theorem dX2_seasonPlan_57 : decode cX2_seasonPlan 57 = .ok (.iconst 0, 1) := by decide +kernel
theorem dX2_seasonPlan_58 : decode cX2_seasonPlan 58 = .ok (.ireturn, 1) := by decide +kernel
theorem dX2_percentFor_0 : decode cX2_percentFor 0 = .ok (.iconst 0, 1) := by decide +kernel
theorem dX2_percentFor_1 : decode cX2_percentFor 1 = .ok (.istore_n 2, 1) := by decide +kernel
theorem dX2_percentFor_2 : decode cX2_percentFor 2 = .ok (.iconst 0, 1) := by decide +kernel
theorem dX2_percentFor_3 : decode cX2_percentFor 3 = .ok (.istore_n 3, 1) := by decide +kernel
theorem dX2_percentFor_4 : decode cX2_percentFor 4 = .ok (.iload_n 3, 1) := by decide +kernel
theorem dX2_percentFor_5 : decode cX2_percentFor 5 = .ok (.aload_n 0, 1) := by decide +kernel
theorem dX2_percentFor_6 : decode cX2_percentFor 6 = .ok (.getfield 25, 3) := by decide +kernel
theorem dX2_percentFor_9 : decode cX2_percentFor 9 = .ok (.iconst 2, 1) := by decide +kernel
theorem dX2_percentFor_10 : decode cX2_percentFor 10 = .ok (.iaload, 1) := by decide +kernel
theorem dX2_percentFor_11 : decode cX2_percentFor 11 = .ok (.if_icmp .ge 34, 3) := by decide +kernel
theorem dX2_percentFor_14 : decode cX2_percentFor 14 = .ok (.aload_n 0, 1) := by decide +kernel
theorem dX2_percentFor_15 : decode cX2_percentFor 15 = .ok (.getfield 19, 3) := by decide +kernel
theorem dX2_percentFor_18 : decode cX2_percentFor 18 = .ok (.iload_n 3, 1) := by decide +kernel
theorem dX2_percentFor_19 : decode cX2_percentFor 19 = .ok (.aaload, 1) := by decide +kernel
theorem dX2_percentFor_20 : decode cX2_percentFor 20 = .ok (.iconst 0, 1) := by decide +kernel
theorem dX2_percentFor_21 : decode cX2_percentFor 21 = .ok (.iaload, 1) := by decide +kernel
theorem dX2_percentFor_22 : decode cX2_percentFor 22 = .ok (.iload_n 1, 1) := by decide +kernel
theorem dX2_percentFor_23 : decode cX2_percentFor 23 = .ok (.if_icmp .le 16, 3) := by decide +kernel
theorem dX2_percentFor_26 : decode cX2_percentFor 26 = .ok (.iload_n 2, 1) := by decide +kernel
theorem dX2_percentFor_27 : decode cX2_percentFor 27 = .ok (.aload_n 0, 1) := by decide +kernel
theorem dX2_percentFor_28 : decode cX2_percentFor 28 = .ok (.getfield 19, 3) := by decide +kernel
theorem dX2_percentFor_31 : decode cX2_percentFor 31 = .ok (.iload_n 3, 1) := by decide +kernel
theorem dX2_percentFor_32 : decode cX2_percentFor 32 = .ok (.aaload, 1) := by decide +kernel
theorem dX2_percentFor_33 : decode cX2_percentFor 33 = .ok (.iconst 1, 1) := by decide +kernel
theorem dX2_percentFor_34 : decode cX2_percentFor 34 = .ok (.iaload, 1) := by decide +kernel
theorem dX2_percentFor_35 : decode cX2_percentFor 35 = .ok (.invokestatic 81, 3) := by decide +kernel
theorem dX2_percentFor_38 : decode cX2_percentFor 38 = .ok (.istore_n 2, 1) := by decide +kernel
theorem dX2_percentFor_39 : decode cX2_percentFor 39 = .ok (.iinc 3 1, 3) := by decide +kernel
theorem dX2_percentFor_42 : decode cX2_percentFor 42 = .ok (.goto (-38), 3) := by decide +kernel
theorem dX2_percentFor_45 : decode cX2_percentFor 45 = .ok (.iload_n 2, 1) := by decide +kernel
theorem dX2_percentFor_46 : decode cX2_percentFor 46 = .ok (.ireturn, 1) := by decide +kernel
set_option maxRecDepth 20000 in
theorem ggX3_init_X0_init : GoodIn wsX3_init wsX0_init := goodIn_r _ [14, 15, 2, 3, 16, 54, 55, 56, 57, 58, 59, 60, 61, 62] (by decide +kernel) (by decide +kernel)
set_option maxRecDepth 20000 in
theorem gX3_init_X0_init_n24 : GoodIn wsX3_init (wsX0_init) := ggX3_init_X0_init
set_option maxRecDepth 20000 in
theorem ggX3_init_X3_begin : GoodIn wsX3_init wsX3_begin := goodIn_r _ [21, 22, 23, 24, 12, 5, 6, 8, 25, 26, 27, 28, 29, 30, 31, 32, 33, 34, 35, 36, 37, 11, 38, 39, 40, 41, 42, 43, 44, 45, 46, 16, 47, 48, 49, 50, 51, 52, 53, 63, 64, 65, 66, 67, 54, 55, 56, 57, 58, 59, 60, 61, 62] (by decide +kernel) (by decide +kernel)
set_option maxRecDepth 20000 in
theorem gX3_init_X3_begin : GoodIn wsX3_init (wsV RX3 29 RX3 yX3_begin wsX3_begin) := goodIn_app (goodIn_of _ (by decide +kernel)) ggX3_init_X3_begin
theorem dX3_init_0 : decode cX3_init 0 = .ok (.aload_n 0, 1) := by decide +kernel
theorem dX3_init_1 : decode cX3_init 1 = .ok (.invokespecial 3, 3) := by decide +kernel
theorem dX3_init_4 : decode cX3_init 4 = .ok (.aload_n 0, 1) := by decide +kernel
theorem dX3_init_5 : decode cX3_init 5 = .ok (.sipush 364, 3) := by decide +kernel
theorem dX3_init_8 : decode cX3_init 8 = .ok (.newarray .int, 2) := by decide +kernel
theorem dX3_init_10 : decode cX3_init 10 = .ok (.putfield 9, 3) := by decide +kernel
theorem dX3_init_13 : decode cX3_init 13 = .ok (.aload_n 0, 1) := by decide +kernel
theorem dX3_init_14 : decode cX3_init 14 = .ok (.sipush 364, 3) := by decide +kernel
theorem dX3_init_17 : decode cX3_init 17 = .ok (.newarray .int, 2) := by decide +kernel
theorem dX3_init_19 : decode cX3_init 19 = .ok (.putfield 15, 3) := by decide +kernel
theorem dX3_init_22 : decode cX3_init 22 = .ok (.aload_n 0, 1) := by decide +kernel
theorem dX3_init_23 : decode cX3_init 23 = .ok (.sipush 364, 3) := by decide +kernel
theorem dX3_init_26 : decode cX3_init 26 = .ok (.newarray .boolean, 2) := by decide +kernel
theorem dX3_init_28 : decode cX3_init 28 = .ok (.putfield 18, 3) := by decide +kernel
theorem dX3_init_31 : decode cX3_init 31 = .ok (.aload_n 0, 1) := by decide +kernel
theorem dX3_init_32 : decode cX3_init 32 = .ok (.new 22, 3) := by decide +kernel
theorem dX3_init_35 : decode cX3_init 35 = .ok (.dup, 1) := by decide +kernel
theorem dX3_init_36 : decode cX3_init 36 = .ok (.invokespecial 24, 3) := by decide +kernel
theorem dX3_init_39 : decode cX3_init 39 = .ok (.putfield 25, 3) := by decide +kernel
theorem dX3_init_42 : decode cX3_init 42 = .ok (.aload_n 0, 1) := by decide +kernel
theorem dX3_init_43 : decode cX3_init 43 = .ok (.aload_n 1, 1) := by decide +kernel
theorem dX3_init_44 : decode cX3_init 44 = .ok (.iload_n 2, 1) := by decide +kernel
theorem dX3_init_45 : decode cX3_init 45 = .ok (.invokevirtual 29, 3) := by decide +kernel
theorem dX3_init_48 : decode cX3_init 48 = .ok (.return_, 1) := by decide +kernel
set_option maxRecDepth 20000 in
theorem ggX3_begin_X2_rateOf : GoodIn wsX3_begin wsX2_rateOf := goodIn_r _ [12, 13, 39, 40, 41, 42, 43] (by decide +kernel) (by decide +kernel)
set_option maxRecDepth 20000 in
theorem gX3_begin_X2_rateOf : GoodIn wsX3_begin (wsV RX3 37 RX2 yX2_rateOf wsX2_rateOf) := goodIn_app (goodIn_of _ (by decide +kernel)) ggX3_begin_X2_rateOf
set_option maxRecDepth 20000 in
theorem ggX3_begin_X2_leaveOf : GoodIn wsX3_begin wsX2_leaveOf := goodIn_r _ [17, 13, 39, 40, 41, 42, 43] (by decide +kernel) (by decide +kernel)
set_option maxRecDepth 20000 in
theorem gX3_begin_X2_leaveOf : GoodIn wsX3_begin (wsV RX3 47 RX2 yX2_leaveOf wsX2_leaveOf) := goodIn_app (goodIn_of _ (by decide +kernel)) ggX3_begin_X2_leaveOf
set_option maxRecDepth 20000 in
theorem ggX3_begin_X0_clear : GoodIn wsX3_begin wsX0_clear := goodIn_r _ [22, 23, 24, 25, 26, 27, 28, 29, 30, 31, 44, 45, 46, 47, 48, 49, 50, 51, 52] (by decide +kernel) (by decide +kernel)
set_option maxRecDepth 20000 in
theorem gX3_begin_X0_clear : GoodIn wsX3_begin (wsV RX3 53 RX0 yX0_clear wsX0_clear) := goodIn_app (goodIn_of _ (by decide +kernel)) ggX3_begin_X0_clear
theorem dX3_begin_0 : decode cX3_begin 0 = .ok (.aload_n 0, 1) := by decide +kernel
theorem dX3_begin_1 : decode cX3_begin 1 = .ok (.aload_n 1, 1) := by decide +kernel
theorem dX3_begin_2 : decode cX3_begin 2 = .ok (.putfield 33, 3) := by decide +kernel
theorem dX3_begin_5 : decode cX3_begin 5 = .ok (.aload_n 0, 1) := by decide +kernel
theorem dX3_begin_6 : decode cX3_begin 6 = .ok (.aload_n 1, 1) := by decide +kernel
theorem dX3_begin_7 : decode cX3_begin 7 = .ok (.iload_n 2, 1) := by decide +kernel
theorem dX3_begin_8 : decode cX3_begin 8 = .ok (.invokevirtual 37, 3) := by decide +kernel
theorem dX3_begin_11 : decode cX3_begin 11 = .ok (.putfield 43, 3) := by decide +kernel
theorem dX3_begin_14 : decode cX3_begin 14 = .ok (.aload_n 0, 1) := by decide +kernel
theorem dX3_begin_15 : decode cX3_begin 15 = .ok (.aload_n 1, 1) := by decide +kernel
theorem dX3_begin_16 : decode cX3_begin 16 = .ok (.iload_n 2, 1) := by decide +kernel
theorem dX3_begin_17 : decode cX3_begin 17 = .ok (.invokevirtual 47, 3) := by decide +kernel
theorem dX3_begin_20 : decode cX3_begin 20 = .ok (.putfield 50, 3) := by decide +kernel
theorem dX3_begin_23 : decode cX3_begin 23 = .ok (.aload_n 0, 1) := by decide +kernel
theorem dX3_begin_24 : decode cX3_begin 24 = .ok (.getfield 25, 3) := by decide +kernel
theorem dX3_begin_27 : decode cX3_begin 27 = .ok (.invokevirtual 53, 3) := by decide +kernel
theorem dX3_begin_30 : decode cX3_begin 30 = .ok (.iconst 0, 1) := by decide +kernel
theorem dX3_begin_31 : decode cX3_begin 31 = .ok (.istore_n 3, 1) := by decide +kernel
theorem dX3_begin_32 : decode cX3_begin 32 = .ok (.iload_n 3, 1) := by decide +kernel
theorem dX3_begin_33 : decode cX3_begin 33 = .ok (.sipush 364, 3) := by decide +kernel
theorem dX3_begin_36 : decode cX3_begin 36 = .ok (.if_icmp .ge 30, 3) := by decide +kernel
theorem dX3_begin_39 : decode cX3_begin 39 = .ok (.aload_n 0, 1) := by decide +kernel
theorem dX3_begin_40 : decode cX3_begin 40 = .ok (.getfield 9, 3) := by decide +kernel
theorem dX3_begin_43 : decode cX3_begin 43 = .ok (.iload_n 3, 1) := by decide +kernel
theorem dX3_begin_44 : decode cX3_begin 44 = .ok (.iconst (-1), 1) := by decide +kernel
theorem dX3_begin_45 : decode cX3_begin 45 = .ok (.iastore, 1) := by decide +kernel
theorem dX3_begin_46 : decode cX3_begin 46 = .ok (.aload_n 0, 1) := by decide +kernel
theorem dX3_begin_47 : decode cX3_begin 47 = .ok (.getfield 15, 3) := by decide +kernel
theorem dX3_begin_50 : decode cX3_begin 50 = .ok (.iload_n 3, 1) := by decide +kernel
theorem dX3_begin_51 : decode cX3_begin 51 = .ok (.iconst 0, 1) := by decide +kernel
theorem dX3_begin_52 : decode cX3_begin 52 = .ok (.iastore, 1) := by decide +kernel
theorem dX3_begin_53 : decode cX3_begin 53 = .ok (.aload_n 0, 1) := by decide +kernel
theorem dX3_begin_54 : decode cX3_begin 54 = .ok (.getfield 18, 3) := by decide +kernel
theorem dX3_begin_57 : decode cX3_begin 57 = .ok (.iload_n 3, 1) := by decide +kernel
theorem dX3_begin_58 : decode cX3_begin 58 = .ok (.iconst 0, 1) := by decide +kernel
theorem dX3_begin_59 : decode cX3_begin 59 = .ok (.bastore, 1) := by decide +kernel
theorem dX3_begin_60 : decode cX3_begin 60 = .ok (.iinc 3 1, 3) := by decide +kernel
theorem dX3_begin_63 : decode cX3_begin 63 = .ok (.goto (-31), 3) := by decide +kernel
theorem dX3_begin_66 : decode cX3_begin 66 = .ok (.return_, 1) := by decide +kernel
theorem dX3_isChanged_0 : decode cX3_isChanged 0 = .ok (.aload_n 0, 1) := by decide +kernel
theorem dX3_isChanged_1 : decode cX3_isChanged 1 = .ok (.getfield 9, 3) := by decide +kernel
theorem dX3_isChanged_4 : decode cX3_isChanged 4 = .ok (.iload_n 1, 1) := by decide +kernel
theorem dX3_isChanged_5 : decode cX3_isChanged 5 = .ok (.iaload, 1) := by decide +kernel
theorem dX3_isChanged_6 : decode cX3_isChanged 6 = .ok (.iconst (-1), 1) := by decide +kernel
theorem dX3_isChanged_7 : decode cX3_isChanged 7 = .ok (.if_icmp .eq 7, 3) := by decide +kernel
theorem dX3_isChanged_10 : decode cX3_isChanged 10 = .ok (.iconst 1, 1) := by decide +kernel
theorem dX3_isChanged_11 : decode cX3_isChanged 11 = .ok (.goto 4, 3) := by decide +kernel
theorem dX3_isChanged_14 : decode cX3_isChanged 14 = .ok (.iconst 0, 1) := by decide +kernel
theorem dX3_isChanged_15 : decode cX3_isChanged 15 = .ok (.ireturn, 1) := by decide +kernel
set_option maxRecDepth 20000 in
theorem ggX3_planOn_X3_isChanged : GoodIn wsX3_planOn wsX3_isChanged := goodIn_r _ [7, 1, 15, 16, 17, 18, 19, 20, 21] (by decide +kernel) (by decide +kernel)
set_option maxRecDepth 20000 in
theorem gX3_planOn_X3_isChanged : GoodIn wsX3_planOn (wsV RX3 56 RX3 yX3_isChanged wsX3_isChanged) := goodIn_app (goodIn_of _ (by decide +kernel)) ggX3_planOn_X3_isChanged
set_option maxRecDepth 20000 in
theorem ggX3_planOn_X2_seasonPlan : GoodIn wsX3_planOn wsX2_seasonPlan := goodIn_r _ [12, 13, 14, 22, 23, 24, 25, 26] (by decide +kernel) (by decide +kernel)
set_option maxRecDepth 20000 in
theorem gX3_planOn_X2_seasonPlan : GoodIn wsX3_planOn (wsV RX3 60 RX2 yX2_seasonPlan wsX2_seasonPlan) := goodIn_app (goodIn_of _ (by decide +kernel)) ggX3_planOn_X2_seasonPlan
theorem dX3_planOn_0 : decode cX3_planOn 0 = .ok (.aload_n 0, 1) := by decide +kernel
theorem dX3_planOn_1 : decode cX3_planOn 1 = .ok (.iload_n 1, 1) := by decide +kernel
theorem dX3_planOn_2 : decode cX3_planOn 2 = .ok (.invokevirtual 56, 3) := by decide +kernel
theorem dX3_planOn_5 : decode cX3_planOn 5 = .ok (.ifCond .eq 12, 3) := by decide +kernel
theorem dX3_planOn_8 : decode cX3_planOn 8 = .ok (.aload_n 0, 1) := by decide +kernel
theorem dX3_planOn_9 : decode cX3_planOn 9 = .ok (.getfield 9, 3) := by decide +kernel
theorem dX3_planOn_12 : decode cX3_planOn 12 = .ok (.iload_n 1, 1) := by decide +kernel
theorem dX3_planOn_13 : decode cX3_planOn 13 = .ok (.iaload, 1) := by decide +kernel
theorem dX3_planOn_14 : decode cX3_planOn 14 = .ok (.goto 11, 3) := by decide +kernel
theorem dX3_planOn_17 : decode cX3_planOn 17 = .ok (.aload_n 0, 1) := by decide +kernel
theorem dX3_planOn_18 : decode cX3_planOn 18 = .ok (.getfield 33, 3) := by decide +kernel
theorem dX3_planOn_21 : decode cX3_planOn 21 = .ok (.iload_n 1, 1) := by decide +kernel
theorem dX3_planOn_22 : decode cX3_planOn 22 = .ok (.invokevirtual 60, 3) := by decide +kernel
theorem dX3_planOn_25 : decode cX3_planOn 25 = .ok (.ireturn, 1) := by decide +kernel
theorem dX3_isBookingLost_0 : decode cX3_isBookingLost 0 = .ok (.aload_n 0, 1) := by decide +kernel
theorem dX3_isBookingLost_1 : decode cX3_isBookingLost 1 = .ok (.getfield 15, 3) := by decide +kernel
theorem dX3_isBookingLost_4 : decode cX3_isBookingLost 4 = .ok (.iload_n 1, 1) := by decide +kernel
theorem dX3_isBookingLost_5 : decode cX3_isBookingLost 5 = .ok (.iaload, 1) := by decide +kernel
theorem dX3_isBookingLost_6 : decode cX3_isBookingLost 6 = .ok (.bipush (-2), 2) := by decide +kernel
theorem dX3_isBookingLost_8 : decode cX3_isBookingLost 8 = .ok (.if_icmp .ne 18, 3) := by decide +kernel
theorem dX3_isBookingLost_11 : decode cX3_isBookingLost 11 = .ok (.iload_n 1, 1) := by decide +kernel
theorem dX3_isBookingLost_12 : decode cX3_isBookingLost 12 = .ok (.aload_n 0, 1) := by decide +kernel
theorem dX3_isBookingLost_13 : decode cX3_isBookingLost 13 = .ok (.getfield 25, 3) := by decide +kernel
theorem dX3_isBookingLost_16 : decode cX3_isBookingLost 16 = .ok (.getfield 63, 3) := by decide +kernel
theorem dX3_isBookingLost_19 : decode cX3_isBookingLost 19 = .ok (.if_icmp .lt 7, 3) := by decide +kernel
theorem dX3_isBookingLost_22 : decode cX3_isBookingLost 22 = .ok (.iconst 1, 1) := by decide +kernel
theorem dX3_isBookingLost_23 : decode cX3_isBookingLost 23 = .ok (.goto 4, 3) := by decide +kernel
theorem dX3_isBookingLost_26 : decode cX3_isBookingLost 26 = .ok (.iconst 0, 1) := by decide +kernel
theorem dX3_isBookingLost_27 : decode cX3_isBookingLost 27 = .ok (.ireturn, 1) := by decide +kernel
set_option maxRecDepth 20000 in
theorem ggX3_kindOn_X3_isBookingLost : GoodIn wsX3_kindOn wsX3_isBookingLost := goodIn_r _ [6, 1, 7, 8, 9, 10, 11, 12, 13, 14, 15, 16, 17, 18, 19, 20, 21, 22, 23, 24] (by decide +kernel) (by decide +kernel)
set_option maxRecDepth 20000 in
theorem gX3_kindOn_X3_isBookingLost : GoodIn wsX3_kindOn (wsV RX3 66 RX3 yX3_isBookingLost wsX3_isBookingLost) := goodIn_app (goodIn_of _ (by decide +kernel)) ggX3_kindOn_X3_isBookingLost
theorem dX3_kindOn_0 : decode cX3_kindOn 0 = .ok (.aload_n 0, 1) := by decide +kernel
theorem dX3_kindOn_1 : decode cX3_kindOn 1 = .ok (.getfield 15, 3) := by decide +kernel
theorem dX3_kindOn_4 : decode cX3_kindOn 4 = .ok (.iload_n 1, 1) := by decide +kernel
theorem dX3_kindOn_5 : decode cX3_kindOn 5 = .ok (.iaload, 1) := by decide +kernel
theorem dX3_kindOn_6 : decode cX3_kindOn 6 = .ok (.ifCond .ge 11, 3) := by decide +kernel
theorem dX3_kindOn_9 : decode cX3_kindOn 9 = .ok (.aload_n 0, 1) := by decide +kernel
theorem dX3_kindOn_10 : decode cX3_kindOn 10 = .ok (.iload_n 1, 1) := by decide +kernel
theorem dX3_kindOn_11 : decode cX3_kindOn 11 = .ok (.invokevirtual 66, 3) := by decide +kernel
theorem dX3_kindOn_14 : decode cX3_kindOn 14 = .ok (.ifCond .eq 7, 3) := by decide +kernel
theorem dX3_kindOn_17 : decode cX3_kindOn 17 = .ok (.iconst 0, 1) := by decide +kernel
theorem dX3_kindOn_18 : decode cX3_kindOn 18 = .ok (.goto 10, 3) := by decide +kernel
theorem dX3_kindOn_21 : decode cX3_kindOn 21 = .ok (.aload_n 0, 1) := by decide +kernel
theorem dX3_kindOn_22 : decode cX3_kindOn 22 = .ok (.getfield 15, 3) := by decide +kernel
theorem dX3_kindOn_25 : decode cX3_kindOn 25 = .ok (.iload_n 1, 1) := by decide +kernel
theorem dX3_kindOn_26 : decode cX3_kindOn 26 = .ok (.iaload, 1) := by decide +kernel
theorem dX3_kindOn_27 : decode cX3_kindOn 27 = .ok (.ineg, 1) := by decide +kernel
theorem dX3_kindOn_28 : decode cX3_kindOn 28 = .ok (.ireturn, 1) := by decide +kernel
theorem dX3_workedOn_0 : decode cX3_workedOn 0 = .ok (.aload_n 0, 1) := by decide +kernel
theorem dX3_workedOn_1 : decode cX3_workedOn 1 = .ok (.getfield 15, 3) := by decide +kernel
theorem dX3_workedOn_4 : decode cX3_workedOn 4 = .ok (.iload_n 1, 1) := by decide +kernel
theorem dX3_workedOn_5 : decode cX3_workedOn 5 = .ok (.iaload, 1) := by decide +kernel
theorem dX3_workedOn_6 : decode cX3_workedOn 6 = .ok (.iconst 0, 1) := by decide +kernel
theorem dX3_workedOn_7 : decode cX3_workedOn 7 = .ok (.invokestatic 69, 3) := by decide +kernel
theorem dX3_workedOn_10 : decode cX3_workedOn 10 = .ok (.ireturn, 1) := by decide +kernel
set_option maxRecDepth 20000 in
theorem ggX3_loadOn_X3_kindOn : GoodIn wsX3_loadOn wsX3_kindOn := goodIn_r _ [5, 6, 7, 8, 9, 4, 10, 11, 12, 38, 39, 40, 41, 42, 43, 44, 45, 46, 47, 48, 49, 50, 51, 52, 53] (by decide +kernel) (by decide +kernel)
set_option maxRecDepth 20000 in
theorem gX3_loadOn_X3_kindOn : GoodIn wsX3_loadOn (wsV RX3 75 RX3 yX3_kindOn wsX3_kindOn) := goodIn_app (goodIn_of _ (by decide +kernel)) ggX3_loadOn_X3_kindOn
set_option maxRecDepth 20000 in
theorem ggX3_loadOn_X3_planOn : GoodIn wsX3_loadOn wsX3_planOn := goodIn_r _ [16, 17, 18, 19, 20, 21, 4, 22, 23, 24, 25, 26, 27, 28, 29, 38, 39, 40, 41, 42, 43, 44, 54, 55, 56, 57, 58] (by decide +kernel) (by decide +kernel)
set_option maxRecDepth 20000 in
theorem gX3_loadOn_X3_planOn : GoodIn wsX3_loadOn (wsV RX3 78 RX3 yX3_planOn wsX3_planOn) := goodIn_app (goodIn_of _ (by decide +kernel)) ggX3_loadOn_X3_planOn
set_option maxRecDepth 20000 in
theorem ggX3_loadOn_X3_workedOn : GoodIn wsX3_loadOn wsX3_workedOn := goodIn_r _ [33, 6, 34, 35, 36, 37, 38, 39, 40, 41, 42, 43, 44] (by decide +kernel) (by decide +kernel)
set_option maxRecDepth 20000 in
theorem gX3_loadOn_X3_workedOn : GoodIn wsX3_loadOn (wsV RX3 81 RX3 yX3_workedOn wsX3_workedOn) := goodIn_app (goodIn_of _ (by decide +kernel)) ggX3_loadOn_X3_workedOn
theorem dX3_loadOn_0 : decode cX3_loadOn 0 = .ok (.aload_n 0, 1) := by decide +kernel
theorem dX3_loadOn_1 : decode cX3_loadOn 1 = .ok (.iload_n 1, 1) := by decide +kernel
theorem dX3_loadOn_2 : decode cX3_loadOn 2 = .ok (.invokevirtual 75, 3) := by decide +kernel
theorem dX3_loadOn_5 : decode cX3_loadOn 5 = .ok (.iconst 1, 1) := by decide +kernel
theorem dX3_loadOn_6 : decode cX3_loadOn 6 = .ok (.if_icmp .ne 11, 3) := by decide +kernel
theorem dX3_loadOn_9 : decode cX3_loadOn 9 = .ok (.aload_n 0, 1) := by decide +kernel
theorem dX3_loadOn_10 : decode cX3_loadOn 10 = .ok (.iload_n 1, 1) := by decide +kernel
theorem dX3_loadOn_11 : decode cX3_loadOn 11 = .ok (.invokevirtual 78, 3) := by decide +kernel
theorem dX3_loadOn_14 : decode cX3_loadOn 14 = .ok (.goto 8, 3) := by decide +kernel
theorem dX3_loadOn_17 : decode cX3_loadOn 17 = .ok (.aload_n 0, 1) := by decide +kernel
theorem dX3_loadOn_18 : decode cX3_loadOn 18 = .ok (.iload_n 1, 1) := by decide +kernel
theorem dX3_loadOn_19 : decode cX3_loadOn 19 = .ok (.invokevirtual 81, 3) := by decide +kernel
theorem dX3_loadOn_22 : decode cX3_loadOn 22 = .ok (.ireturn, 1) := by decide +kernel
set_option maxRecDepth 20000 in
theorem ggX3_windowLoadAhead_X2_window : GoodIn wsX3_windowLoadAhead wsX2_window := goodIn_r _ [10, 11, 54, 55, 56, 57, 58] (by decide +kernel) (by decide +kernel)
set_option maxRecDepth 20000 in
theorem gX3_windowLoadAhead_X2_window : GoodIn wsX3_windowLoadAhead (wsV RX3 84 RX2 yX2_window wsX2_window) := goodIn_app (goodIn_of _ (by decide +kernel)) ggX3_windowLoadAhead_X2_window
set_option maxRecDepth 20000 in
theorem ggX3_windowLoadAhead_X3_loadOn : GoodIn wsX3_windowLoadAhead wsX3_loadOn := goodIn_r _ [16, 17, 18, 19, 15, 20, 21, 22, 23, 24, 25, 26, 27, 28, 29, 30, 31, 32, 1, 33, 34, 35, 36, 37, 38, 39, 9, 40, 41, 42, 43, 44, 45, 46, 2, 3, 4, 5, 47, 48, 49, 50, 51, 52, 53, 59, 60, 61, 62, 63, 64, 65, 66, 67, 54, 55, 56, 57, 58] (by decide +kernel) (by decide +kernel)
set_option maxRecDepth 20000 in
theorem gX3_windowLoadAhead_X3_loadOn : GoodIn wsX3_windowLoadAhead (wsV RX3 88 RX3 yX3_loadOn wsX3_loadOn) := goodIn_app (goodIn_of _ (by decide +kernel)) ggX3_windowLoadAhead_X3_loadOn
theorem dX3_windowLoadAhead_0 : decode cX3_windowLoadAhead 0 = .ok (.iconst 0, 1) := by decide +kernel
theorem dX3_windowLoadAhead_1 : decode cX3_windowLoadAhead 1 = .ok (.istore_n 2, 1) := by decide +kernel
theorem dX3_windowLoadAhead_2 : decode cX3_windowLoadAhead 2 = .ok (.iconst 0, 1) := by decide +kernel
theorem dX3_windowLoadAhead_3 : decode cX3_windowLoadAhead 3 = .ok (.iload_n 1, 1) := by decide +kernel
theorem dX3_windowLoadAhead_4 : decode cX3_windowLoadAhead 4 = .ok (.aload_n 0, 1) := by decide +kernel
theorem dX3_windowLoadAhead_5 : decode cX3_windowLoadAhead 5 = .ok (.getfield 33, 3) := by decide +kernel
theorem dX3_windowLoadAhead_8 : decode cX3_windowLoadAhead 8 = .ok (.invokevirtual 84, 3) := by decide +kernel
theorem dX3_windowLoadAhead_11 : decode cX3_windowLoadAhead 11 = .ok (.isub, 1) := by decide +kernel
theorem dX3_windowLoadAhead_12 : decode cX3_windowLoadAhead 12 = .ok (.iconst 1, 1) := by decide +kernel
theorem dX3_windowLoadAhead_13 : decode cX3_windowLoadAhead 13 = .ok (.iadd, 1) := by decide +kernel
theorem dX3_windowLoadAhead_14 : decode cX3_windowLoadAhead 14 = .ok (.invokestatic 69, 3) := by decide +kernel
theorem dX3_windowLoadAhead_17 : decode cX3_windowLoadAhead 17 = .ok (.istore_n 3, 1) := by decide +kernel
theorem dX3_windowLoadAhead_18 : decode cX3_windowLoadAhead 18 = .ok (.iload_n 3, 1) := by decide +kernel
theorem dX3_windowLoadAhead_19 : decode cX3_windowLoadAhead 19 = .ok (.iload_n 1, 1) := by decide +kernel
theorem dX3_windowLoadAhead_20 : decode cX3_windowLoadAhead 20 = .ok (.if_icmp .ge 17, 3) := by decide +kernel
theorem dX3_windowLoadAhead_23 : decode cX3_windowLoadAhead 23 = .ok (.iload_n 2, 1) := by decide +kernel
theorem dX3_windowLoadAhead_24 : decode cX3_windowLoadAhead 24 = .ok (.aload_n 0, 1) := by decide +kernel
theorem dX3_windowLoadAhead_25 : decode cX3_windowLoadAhead 25 = .ok (.iload_n 3, 1) := by decide +kernel
theorem dX3_windowLoadAhead_26 : decode cX3_windowLoadAhead 26 = .ok (.invokevirtual 88, 3) := by decide +kernel
theorem dX3_windowLoadAhead_29 : decode cX3_windowLoadAhead 29 = .ok (.iadd, 1) := by decide +kernel
theorem dX3_windowLoadAhead_30 : decode cX3_windowLoadAhead 30 = .ok (.istore_n 2, 1) := by decide +kernel
theorem dX3_windowLoadAhead_31 : decode cX3_windowLoadAhead 31 = .ok (.iinc 3 1, 3) := by decide +kernel
theorem dX3_windowLoadAhead_34 : decode cX3_windowLoadAhead 34 = .ok (.goto (-16), 3) := by decide +kernel
theorem dX3_windowLoadAhead_37 : decode cX3_windowLoadAhead 37 = .ok (.iload_n 2, 1) := by decide +kernel
theorem dX3_windowLoadAhead_38 : decode cX3_windowLoadAhead 38 = .ok (.ireturn, 1) := by decide +kernel
set_option maxRecDepth 20000 in
theorem ggX3_windowLoad_X3_windowLoadAhead : GoodIn wsX3_windowLoad wsX3_windowLoadAhead := goodIn_r _ [5, 6, 7, 8, 9, 10, 11, 12, 13, 14, 15, 16, 17, 18, 19, 4, 20, 21, 22, 23, 24, 25, 26, 27, 28, 29, 30, 31, 32, 33, 34, 35, 36, 37, 38, 39, 40, 41, 42, 43, 44, 45, 46, 47, 48, 49, 50, 51, 52, 53, 54, 55, 56, 57, 58, 59, 60, 61, 62, 63, 64, 65, 66, 67, 68, 69, 70, 71] (by decide +kernel) (by decide +kernel)
set_option maxRecDepth 20000 in
theorem gX3_windowLoad_X3_windowLoadAhead : GoodIn wsX3_windowLoad (wsV RX3 91 RX3 yX3_windowLoadAhead wsX3_windowLoadAhead) := goodIn_app (goodIn_of _ (by decide +kernel)) ggX3_windowLoad_X3_windowLoadAhead
set_option maxRecDepth 20000 in
theorem ggX3_windowLoad_X3_loadOn : GoodIn wsX3_windowLoad wsX3_loadOn := goodIn_r _ [20, 21, 22, 23, 4, 24, 25, 26, 27, 28, 29, 30, 31, 32, 33, 34, 35, 36, 6, 37, 38, 39, 40, 41, 42, 43, 14, 44, 45, 46, 47, 48, 49, 50, 7, 8, 9, 10, 51, 52, 53, 54, 55, 56, 57, 63, 64, 65, 66, 67, 68, 69, 70, 71, 58, 59, 60, 61, 62] (by decide +kernel) (by decide +kernel)
set_option maxRecDepth 20000 in
theorem gX3_windowLoad_X3_loadOn : GoodIn wsX3_windowLoad (wsV RX3 88 RX3 yX3_loadOn wsX3_loadOn) := goodIn_app (goodIn_of _ (by decide +kernel)) ggX3_windowLoad_X3_loadOn
theorem dX3_windowLoad_0 : decode cX3_windowLoad 0 = .ok (.aload_n 0, 1) := by decide +kernel
theorem dX3_windowLoad_1 : decode cX3_windowLoad 1 = .ok (.iload_n 1, 1) := by decide +kernel
theorem dX3_windowLoad_2 : decode cX3_windowLoad 2 = .ok (.invokevirtual 91, 3) := by decide +kernel
theorem dX3_windowLoad_5 : decode cX3_windowLoad 5 = .ok (.aload_n 0, 1) := by decide +kernel
theorem dX3_windowLoad_6 : decode cX3_windowLoad 6 = .ok (.iload_n 1, 1) := by decide +kernel
theorem dX3_windowLoad_7 : decode cX3_windowLoad 7 = .ok (.invokevirtual 88, 3) := by decide +kernel
theorem dX3_windowLoad_10 : decode cX3_windowLoad 10 = .ok (.iadd, 1) := by decide +kernel
theorem dX3_windowLoad_11 : decode cX3_windowLoad 11 = .ok (.ireturn, 1) := by decide +kernel
set_option maxRecDepth 20000 in
theorem ggX3_plansBetween_X3_planOn : GoodIn wsX3_plansBetween wsX3_planOn := goodIn_r _ [5, 6, 7, 8, 9, 10, 4, 11, 12, 13, 14, 15, 16, 17, 18, 19, 20, 21, 22, 23, 24, 25, 26, 27, 28, 29, 30] (by decide +kernel) (by decide +kernel)
set_option maxRecDepth 20000 in
theorem gX3_plansBetween_X3_planOn : GoodIn wsX3_plansBetween (wsV RX3 78 RX3 yX3_planOn wsX3_planOn) := goodIn_app (goodIn_of _ (by decide +kernel)) ggX3_plansBetween_X3_planOn
theorem dX3_plansBetween_0 : decode cX3_plansBetween 0 = .ok (.iconst 0, 1) := by decide +kernel
theorem dX3_plansBetween_1 : decode cX3_plansBetween 1 = .ok (.istore_n 3, 1) := by decide +kernel
theorem dX3_plansBetween_2 : decode cX3_plansBetween 2 = .ok (.iload_n 1, 1) := by decide +kernel
theorem dX3_plansBetween_3 : decode cX3_plansBetween 3 = .ok (.istore 4, 2) := by decide +kernel
theorem dX3_plansBetween_5 : decode cX3_plansBetween 5 = .ok (.iload 4, 2) := by decide +kernel
theorem dX3_plansBetween_7 : decode cX3_plansBetween 7 = .ok (.iload_n 2, 1) := by decide +kernel
theorem dX3_plansBetween_8 : decode cX3_plansBetween 8 = .ok (.if_icmp .gt 18, 3) := by decide +kernel
theorem dX3_plansBetween_11 : decode cX3_plansBetween 11 = .ok (.iload_n 3, 1) := by decide +kernel
theorem dX3_plansBetween_12 : decode cX3_plansBetween 12 = .ok (.aload_n 0, 1) := by decide +kernel
theorem dX3_plansBetween_13 : decode cX3_plansBetween 13 = .ok (.iload 4, 2) := by decide +kernel
theorem dX3_plansBetween_15 : decode cX3_plansBetween 15 = .ok (.invokevirtual 78, 3) := by decide +kernel
theorem dX3_plansBetween_18 : decode cX3_plansBetween 18 = .ok (.iadd, 1) := by decide +kernel
theorem dX3_plansBetween_19 : decode cX3_plansBetween 19 = .ok (.istore_n 3, 1) := by decide +kernel
theorem dX3_plansBetween_20 : decode cX3_plansBetween 20 = .ok (.iinc 4 1, 3) := by decide +kernel
theorem dX3_plansBetween_23 : decode cX3_plansBetween 23 = .ok (.goto (-18), 3) := by decide +kernel
theorem dX3_plansBetween_26 : decode cX3_plansBetween 26 = .ok (.iload_n 3, 1) := by decide +kernel
theorem dX3_plansBetween_27 : decode cX3_plansBetween 27 = .ok (.ireturn, 1) := by decide +kernel
set_option maxRecDepth 20000 in
theorem ggX3_workedBefore_X3_workedOn : GoodIn wsX3_workedBefore wsX3_workedOn := goodIn_r _ [5, 6, 7, 8, 9, 10, 11, 12, 13, 14, 15, 16, 17] (by decide +kernel) (by decide +kernel)
set_option maxRecDepth 20000 in
theorem gX3_workedBefore_X3_workedOn : GoodIn wsX3_workedBefore (wsV RX3 81 RX3 yX3_workedOn wsX3_workedOn) := goodIn_app (goodIn_of _ (by decide +kernel)) ggX3_workedBefore_X3_workedOn
theorem dX3_workedBefore_0 : decode cX3_workedBefore 0 = .ok (.iconst 0, 1) := by decide +kernel
theorem dX3_workedBefore_1 : decode cX3_workedBefore 1 = .ok (.istore_n 2, 1) := by decide +kernel
theorem dX3_workedBefore_2 : decode cX3_workedBefore 2 = .ok (.iconst 0, 1) := by decide +kernel
theorem dX3_workedBefore_3 : decode cX3_workedBefore 3 = .ok (.istore_n 3, 1) := by decide +kernel
theorem dX3_workedBefore_4 : decode cX3_workedBefore 4 = .ok (.iload_n 3, 1) := by decide +kernel
theorem dX3_workedBefore_5 : decode cX3_workedBefore 5 = .ok (.iload_n 1, 1) := by decide +kernel
theorem dX3_workedBefore_6 : decode cX3_workedBefore 6 = .ok (.if_icmp .ge 17, 3) := by decide +kernel
theorem dX3_workedBefore_9 : decode cX3_workedBefore 9 = .ok (.iload_n 2, 1) := by decide +kernel
theorem dX3_workedBefore_10 : decode cX3_workedBefore 10 = .ok (.aload_n 0, 1) := by decide +kernel
theorem dX3_workedBefore_11 : decode cX3_workedBefore 11 = .ok (.iload_n 3, 1) := by decide +kernel
theorem dX3_workedBefore_12 : decode cX3_workedBefore 12 = .ok (.invokevirtual 81, 3) := by decide +kernel
theorem dX3_workedBefore_15 : decode cX3_workedBefore 15 = .ok (.iadd, 1) := by decide +kernel
theorem dX3_workedBefore_16 : decode cX3_workedBefore 16 = .ok (.istore_n 2, 1) := by decide +kernel
theorem dX3_workedBefore_17 : decode cX3_workedBefore 17 = .ok (.iinc 3 1, 3) := by decide +kernel
theorem dX3_workedBefore_20 : decode cX3_workedBefore 20 = .ok (.goto (-16), 3) := by decide +kernel
theorem dX3_workedBefore_23 : decode cX3_workedBefore 23 = .ok (.iload_n 2, 1) := by decide +kernel
theorem dX3_workedBefore_24 : decode cX3_workedBefore 24 = .ok (.ireturn, 1) := by decide +kernel
set_option maxRecDepth 20000 in
theorem ggX3_sickDaysBefore_X3_kindOn : GoodIn wsX3_sickDaysBefore wsX3_kindOn := goodIn_r _ [5, 6, 7, 8, 9, 4, 10, 11, 12, 13, 14, 15, 16, 17, 18, 19, 20, 21, 22, 23, 24, 25, 26, 27, 28] (by decide +kernel) (by decide +kernel)
set_option maxRecDepth 20000 in
theorem gX3_sickDaysBefore_X3_kindOn : GoodIn wsX3_sickDaysBefore (wsV RX3 75 RX3 yX3_kindOn wsX3_kindOn) := goodIn_app (goodIn_of _ (by decide +kernel)) ggX3_sickDaysBefore_X3_kindOn
theorem dX3_sickDaysBefore_0 : decode cX3_sickDaysBefore 0 = .ok (.iconst 0, 1) := by decide +kernel
theorem dX3_sickDaysBefore_1 : decode cX3_sickDaysBefore 1 = .ok (.istore_n 2, 1) := by decide +kernel
theorem dX3_sickDaysBefore_2 : decode cX3_sickDaysBefore 2 = .ok (.iconst 0, 1) := by decide +kernel
theorem dX3_sickDaysBefore_3 : decode cX3_sickDaysBefore 3 = .ok (.istore_n 3, 1) := by decide +kernel
theorem dX3_sickDaysBefore_4 : decode cX3_sickDaysBefore 4 = .ok (.iload_n 3, 1) := by decide +kernel
theorem dX3_sickDaysBefore_5 : decode cX3_sickDaysBefore 5 = .ok (.iload_n 1, 1) := by decide +kernel
theorem dX3_sickDaysBefore_6 : decode cX3_sickDaysBefore 6 = .ok (.if_icmp .ge 26, 3) := by decide +kernel
theorem dX3_sickDaysBefore_9 : decode cX3_sickDaysBefore 9 = .ok (.iload_n 2, 1) := by decide +kernel
theorem dX3_sickDaysBefore_10 : decode cX3_sickDaysBefore 10 = .ok (.aload_n 0, 1) := by decide +kernel
theorem dX3_sickDaysBefore_11 : decode cX3_sickDaysBefore 11 = .ok (.iload_n 3, 1) := by decide +kernel
theorem dX3_sickDaysBefore_12 : decode cX3_sickDaysBefore 12 = .ok (.invokevirtual 75, 3) := by decide +kernel
theorem dX3_sickDaysBefore_15 : decode cX3_sickDaysBefore 15 = .ok (.iconst 1, 1) := by decide +kernel
theorem dX3_sickDaysBefore_16 : decode cX3_sickDaysBefore 16 = .ok (.if_icmp .ne 7, 3) := by decide +kernel
theorem dX3_sickDaysBefore_19 : decode cX3_sickDaysBefore 19 = .ok (.iconst 1, 1) := by decide +kernel
theorem dX3_sickDaysBefore_20 : decode cX3_sickDaysBefore 20 = .ok (.goto 4, 3) := by decide +kernel
theorem dX3_sickDaysBefore_23 : decode cX3_sickDaysBefore 23 = .ok (.iconst 0, 1) := by decide +kernel
theorem dX3_sickDaysBefore_24 : decode cX3_sickDaysBefore 24 = .ok (.iadd, 1) := by decide +kernel
theorem dX3_sickDaysBefore_25 : decode cX3_sickDaysBefore 25 = .ok (.istore_n 2, 1) := by decide +kernel
theorem dX3_sickDaysBefore_26 : decode cX3_sickDaysBefore 26 = .ok (.iinc 3 1, 3) := by decide +kernel
theorem dX3_sickDaysBefore_29 : decode cX3_sickDaysBefore 29 = .ok (.goto (-25), 3) := by decide +kernel
theorem dX3_sickDaysBefore_32 : decode cX3_sickDaysBefore 32 = .ok (.iload_n 2, 1) := by decide +kernel
theorem dX3_sickDaysBefore_33 : decode cX3_sickDaysBefore 33 = .ok (.ireturn, 1) := by decide +kernel
set_option maxRecDepth 20000 in
theorem ggX3_changedDays_X3_isChanged : GoodIn wsX3_changedDays wsX3_isChanged := goodIn_r _ [5, 6, 7, 8, 9, 10, 11, 12, 13] (by decide +kernel) (by decide +kernel)
set_option maxRecDepth 20000 in
theorem gX3_changedDays_X3_isChanged : GoodIn wsX3_changedDays (wsV RX3 56 RX3 yX3_isChanged wsX3_isChanged) := goodIn_app (goodIn_of _ (by decide +kernel)) ggX3_changedDays_X3_isChanged
theorem dX3_changedDays_0 : decode cX3_changedDays 0 = .ok (.iconst 0, 1) := by decide +kernel
theorem dX3_changedDays_1 : decode cX3_changedDays 1 = .ok (.istore_n 1, 1) := by decide +kernel
theorem dX3_changedDays_2 : decode cX3_changedDays 2 = .ok (.iconst 0, 1) := by decide +kernel
theorem dX3_changedDays_3 : decode cX3_changedDays 3 = .ok (.istore_n 2, 1) := by decide +kernel
theorem dX3_changedDays_4 : decode cX3_changedDays 4 = .ok (.iload_n 2, 1) := by decide +kernel
theorem dX3_changedDays_5 : decode cX3_changedDays 5 = .ok (.sipush 364, 3) := by decide +kernel
theorem dX3_changedDays_8 : decode cX3_changedDays 8 = .ok (.if_icmp .ge 25, 3) := by decide +kernel
theorem dX3_changedDays_11 : decode cX3_changedDays 11 = .ok (.iload_n 1, 1) := by decide +kernel
theorem dX3_changedDays_12 : decode cX3_changedDays 12 = .ok (.aload_n 0, 1) := by decide +kernel
theorem dX3_changedDays_13 : decode cX3_changedDays 13 = .ok (.iload_n 2, 1) := by decide +kernel
theorem dX3_changedDays_14 : decode cX3_changedDays 14 = .ok (.invokevirtual 56, 3) := by decide +kernel
theorem dX3_changedDays_17 : decode cX3_changedDays 17 = .ok (.ifCond .eq 7, 3) := by decide +kernel
theorem dX3_changedDays_20 : decode cX3_changedDays 20 = .ok (.iconst 1, 1) := by decide +kernel
theorem dX3_changedDays_21 : decode cX3_changedDays 21 = .ok (.goto 4, 3) := by decide +kernel
theorem dX3_changedDays_24 : decode cX3_changedDays 24 = .ok (.iconst 0, 1) := by decide +kernel
theorem dX3_changedDays_25 : decode cX3_changedDays 25 = .ok (.iadd, 1) := by decide +kernel
theorem dX3_changedDays_26 : decode cX3_changedDays 26 = .ok (.istore_n 1, 1) := by decide +kernel
theorem dX3_changedDays_27 : decode cX3_changedDays 27 = .ok (.iinc 2 1, 3) := by decide +kernel
theorem dX3_changedDays_30 : decode cX3_changedDays 30 = .ok (.goto (-26), 3) := by decide +kernel
theorem dX3_changedDays_33 : decode cX3_changedDays 33 = .ok (.iload_n 1, 1) := by decide +kernel
theorem dX3_changedDays_34 : decode cX3_changedDays 34 = .ok (.ireturn, 1) := by decide +kernel
set_option maxRecDepth 20000 in
theorem ggX3_bookedFrom_X3_kindOn : GoodIn wsX3_bookedFrom wsX3_kindOn := goodIn_r _ [5, 6, 7, 8, 9, 4, 10, 11, 12, 13, 14, 15, 16, 17, 18, 19, 20, 21, 22, 23, 24, 25, 26, 27, 28] (by decide +kernel) (by decide +kernel)
set_option maxRecDepth 20000 in
theorem gX3_bookedFrom_X3_kindOn : GoodIn wsX3_bookedFrom (wsV RX3 75 RX3 yX3_kindOn wsX3_kindOn) := goodIn_app (goodIn_of _ (by decide +kernel)) ggX3_bookedFrom_X3_kindOn
theorem dX3_bookedFrom_0 : decode cX3_bookedFrom 0 = .ok (.iconst 0, 1) := by decide +kernel
theorem dX3_bookedFrom_1 : decode cX3_bookedFrom 1 = .ok (.istore_n 2, 1) := by decide +kernel
theorem dX3_bookedFrom_2 : decode cX3_bookedFrom 2 = .ok (.iload_n 1, 1) := by decide +kernel
theorem dX3_bookedFrom_3 : decode cX3_bookedFrom 3 = .ok (.istore_n 3, 1) := by decide +kernel
theorem dX3_bookedFrom_4 : decode cX3_bookedFrom 4 = .ok (.iload_n 3, 1) := by decide +kernel
theorem dX3_bookedFrom_5 : decode cX3_bookedFrom 5 = .ok (.sipush 364, 3) := by decide +kernel
theorem dX3_bookedFrom_8 : decode cX3_bookedFrom 8 = .ok (.if_icmp .ge 26, 3) := by decide +kernel
theorem dX3_bookedFrom_11 : decode cX3_bookedFrom 11 = .ok (.iload_n 2, 1) := by decide +kernel
theorem dX3_bookedFrom_12 : decode cX3_bookedFrom 12 = .ok (.aload_n 0, 1) := by decide +kernel
theorem dX3_bookedFrom_13 : decode cX3_bookedFrom 13 = .ok (.iload_n 3, 1) := by decide +kernel
theorem dX3_bookedFrom_14 : decode cX3_bookedFrom 14 = .ok (.invokevirtual 75, 3) := by decide +kernel
theorem dX3_bookedFrom_17 : decode cX3_bookedFrom 17 = .ok (.iconst 2, 1) := by decide +kernel
theorem dX3_bookedFrom_18 : decode cX3_bookedFrom 18 = .ok (.if_icmp .ne 7, 3) := by decide +kernel
theorem dX3_bookedFrom_21 : decode cX3_bookedFrom 21 = .ok (.iconst 1, 1) := by decide +kernel
theorem dX3_bookedFrom_22 : decode cX3_bookedFrom 22 = .ok (.goto 4, 3) := by decide +kernel
theorem dX3_bookedFrom_25 : decode cX3_bookedFrom 25 = .ok (.iconst 0, 1) := by decide +kernel
theorem dX3_bookedFrom_26 : decode cX3_bookedFrom 26 = .ok (.iadd, 1) := by decide +kernel
theorem dX3_bookedFrom_27 : decode cX3_bookedFrom 27 = .ok (.istore_n 2, 1) := by decide +kernel
theorem dX3_bookedFrom_28 : decode cX3_bookedFrom 28 = .ok (.iinc 3 1, 3) := by decide +kernel
theorem dX3_bookedFrom_31 : decode cX3_bookedFrom 31 = .ok (.goto (-27), 3) := by decide +kernel
theorem dX3_bookedFrom_34 : decode cX3_bookedFrom 34 = .ok (.iload_n 2, 1) := by decide +kernel
theorem dX3_bookedFrom_35 : decode cX3_bookedFrom 35 = .ok (.ireturn, 1) := by decide +kernel
set_option maxRecDepth 20000 in
theorem ggX3_leaveTakenBefore_X3_kindOn : GoodIn wsX3_leaveTakenBefore wsX3_kindOn := goodIn_r _ [5, 6, 7, 8, 9, 4, 10, 11, 12, 30, 31, 32, 33, 34, 35, 36, 37, 38, 39, 40, 41, 42, 43, 44, 45] (by decide +kernel) (by decide +kernel)
set_option maxRecDepth 20000 in
theorem gX3_leaveTakenBefore_X3_kindOn : GoodIn wsX3_leaveTakenBefore (wsV RX3 75 RX3 yX3_kindOn wsX3_kindOn) := goodIn_app (goodIn_of _ (by decide +kernel)) ggX3_leaveTakenBefore_X3_kindOn
set_option maxRecDepth 20000 in
theorem ggX3_leaveTakenBefore_X3_planOn : GoodIn wsX3_leaveTakenBefore wsX3_planOn := goodIn_r _ [16, 17, 18, 19, 20, 21, 4, 22, 23, 24, 25, 26, 27, 28, 29, 30, 31, 32, 33, 34, 35, 36, 46, 47, 48, 49, 50] (by decide +kernel) (by decide +kernel)
set_option maxRecDepth 20000 in
theorem gX3_leaveTakenBefore_X3_planOn : GoodIn wsX3_leaveTakenBefore (wsV RX3 78 RX3 yX3_planOn wsX3_planOn) := goodIn_app (goodIn_of _ (by decide +kernel)) ggX3_leaveTakenBefore_X3_planOn
theorem dX3_leaveTakenBefore_0 : decode cX3_leaveTakenBefore 0 = .ok (.iconst 0, 1) := by decide +kernel
theorem dX3_leaveTakenBefore_1 : decode cX3_leaveTakenBefore 1 = .ok (.istore_n 2, 1) := by decide +kernel
theorem dX3_leaveTakenBefore_2 : decode cX3_leaveTakenBefore 2 = .ok (.iconst 0, 1) := by decide +kernel
theorem dX3_leaveTakenBefore_3 : decode cX3_leaveTakenBefore 3 = .ok (.istore_n 3, 1) := by decide +kernel
theorem dX3_leaveTakenBefore_4 : decode cX3_leaveTakenBefore 4 = .ok (.iload_n 3, 1) := by decide +kernel
theorem dX3_leaveTakenBefore_5 : decode cX3_leaveTakenBefore 5 = .ok (.iload_n 1, 1) := by decide +kernel
theorem dX3_leaveTakenBefore_6 : decode cX3_leaveTakenBefore 6 = .ok (.if_icmp .ge 30, 3) := by decide +kernel
theorem dX3_leaveTakenBefore_9 : decode cX3_leaveTakenBefore 9 = .ok (.iload_n 2, 1) := by decide +kernel
theorem dX3_leaveTakenBefore_10 : decode cX3_leaveTakenBefore 10 = .ok (.aload_n 0, 1) := by decide +kernel
theorem dX3_leaveTakenBefore_11 : decode cX3_leaveTakenBefore 11 = .ok (.iload_n 3, 1) := by decide +kernel
theorem dX3_leaveTakenBefore_12 : decode cX3_leaveTakenBefore 12 = .ok (.invokevirtual 75, 3) := by decide +kernel
theorem dX3_leaveTakenBefore_15 : decode cX3_leaveTakenBefore 15 = .ok (.iconst 2, 1) := by decide +kernel
theorem dX3_leaveTakenBefore_16 : decode cX3_leaveTakenBefore 16 = .ok (.if_icmp .ne 11, 3) := by decide +kernel
theorem dX3_leaveTakenBefore_19 : decode cX3_leaveTakenBefore 19 = .ok (.aload_n 0, 1) := by decide +kernel
theorem dX3_leaveTakenBefore_20 : decode cX3_leaveTakenBefore 20 = .ok (.iload_n 3, 1) := by decide +kernel
theorem dX3_leaveTakenBefore_21 : decode cX3_leaveTakenBefore 21 = .ok (.invokevirtual 78, 3) := by decide +kernel
theorem dX3_leaveTakenBefore_24 : decode cX3_leaveTakenBefore 24 = .ok (.goto 4, 3) := by decide +kernel
theorem dX3_leaveTakenBefore_27 : decode cX3_leaveTakenBefore 27 = .ok (.iconst 0, 1) := by decide +kernel
theorem dX3_leaveTakenBefore_28 : decode cX3_leaveTakenBefore 28 = .ok (.iadd, 1) := by decide +kernel
theorem dX3_leaveTakenBefore_29 : decode cX3_leaveTakenBefore 29 = .ok (.istore_n 2, 1) := by decide +kernel
theorem dX3_leaveTakenBefore_30 : decode cX3_leaveTakenBefore 30 = .ok (.iinc 3 1, 3) := by decide +kernel
theorem dX3_leaveTakenBefore_33 : decode cX3_leaveTakenBefore 33 = .ok (.goto (-29), 3) := by decide +kernel
theorem dX3_leaveTakenBefore_36 : decode cX3_leaveTakenBefore 36 = .ok (.iload_n 2, 1) := by decide +kernel
theorem dX3_leaveTakenBefore_37 : decode cX3_leaveTakenBefore 37 = .ok (.ireturn, 1) := by decide +kernel
set_option maxRecDepth 20000 in
theorem ggX3_leaveLeft_X0_isGone : GoodIn wsX3_leaveLeft wsX0_isGone := goodIn_r _ [7, 8, 48, 49, 50, 51, 52, 53, 54, 55, 56] (by decide +kernel) (by decide +kernel)
set_option maxRecDepth 20000 in
theorem gX3_leaveLeft_X0_isGone : GoodIn wsX3_leaveLeft (wsV RX3 94 RX0 yX0_isGone wsX0_isGone) := goodIn_app (goodIn_of _ (by decide +kernel)) ggX3_leaveLeft_X0_isGone
set_option maxRecDepth 20000 in
theorem ggX3_leaveLeft_X3_leaveTakenBefore : GoodIn wsX3_leaveLeft wsX3_leaveTakenBefore := goodIn_r _ [13, 14, 15, 16, 12, 17, 18, 19, 20, 21, 22, 1, 23, 24, 25, 26, 27, 28, 29, 30, 31, 32, 33, 34, 35, 36, 37, 38, 39, 40, 41, 42, 43, 44, 45, 46, 47, 48, 49, 50, 51, 52, 53, 54, 55, 56, 57, 58, 59, 60, 61] (by decide +kernel) (by decide +kernel)
set_option maxRecDepth 20000 in
theorem gX3_leaveLeft_X3_leaveTakenBefore : GoodIn wsX3_leaveLeft (wsV RX3 98 RX3 yX3_leaveTakenBefore wsX3_leaveTakenBefore) := goodIn_app (goodIn_of _ (by decide +kernel)) ggX3_leaveLeft_X3_leaveTakenBefore
theorem dX3_leaveLeft_0 : decode cX3_leaveLeft 0 = .ok (.aload_n 0, 1) := by decide +kernel
theorem dX3_leaveLeft_1 : decode cX3_leaveLeft 1 = .ok (.getfield 25, 3) := by decide +kernel
theorem dX3_leaveLeft_4 : decode cX3_leaveLeft 4 = .ok (.invokevirtual 94, 3) := by decide +kernel
theorem dX3_leaveLeft_7 : decode cX3_leaveLeft 7 = .ok (.ifCond .eq 7, 3) := by decide +kernel
theorem dX3_leaveLeft_10 : decode cX3_leaveLeft 10 = .ok (.iconst 0, 1) := by decide +kernel
theorem dX3_leaveLeft_11 : decode cX3_leaveLeft 11 = .ok (.goto 15, 3) := by decide +kernel
theorem dX3_leaveLeft_14 : decode cX3_leaveLeft 14 = .ok (.aload_n 0, 1) := by decide +kernel
theorem dX3_leaveLeft_15 : decode cX3_leaveLeft 15 = .ok (.getfield 50, 3) := by decide +kernel
theorem dX3_leaveLeft_18 : decode cX3_leaveLeft 18 = .ok (.aload_n 0, 1) := by decide +kernel
theorem dX3_leaveLeft_19 : decode cX3_leaveLeft 19 = .ok (.sipush 364, 3) := by decide +kernel
theorem dX3_leaveLeft_22 : decode cX3_leaveLeft 22 = .ok (.invokevirtual 98, 3) := by decide +kernel
theorem dX3_leaveLeft_25 : decode cX3_leaveLeft 25 = .ok (.isub, 1) := by decide +kernel
theorem dX3_leaveLeft_26 : decode cX3_leaveLeft 26 = .ok (.ireturn, 1) := by decide +kernel
set_option maxRecDepth 20000 in
theorem ggX3_settlementOn_X3_leaveTakenBefore : GoodIn wsX3_settlementOn wsX3_leaveTakenBefore := goodIn_r _ [9, 10, 11, 12, 8, 13, 14, 15, 16, 17, 18, 3, 19, 20, 21, 22, 23, 24, 25, 26, 27, 28, 29, 30, 31, 32, 33, 34, 35, 36, 37, 38, 39, 40, 41, 42, 43, 44, 45, 46, 47, 48, 49, 50, 51, 52, 53, 54, 55, 56, 57] (by decide +kernel) (by decide +kernel)
set_option maxRecDepth 20000 in
theorem gX3_settlementOn_X3_leaveTakenBefore : GoodIn wsX3_settlementOn (wsV RX3 98 RX3 yX3_leaveTakenBefore wsX3_leaveTakenBefore) := goodIn_app (goodIn_of _ (by decide +kernel)) ggX3_settlementOn_X3_leaveTakenBefore
theorem dX3_settlementOn_0 : decode cX3_settlementOn 0 = .ok (.aload_n 0, 1) := by decide +kernel
theorem dX3_settlementOn_1 : decode cX3_settlementOn 1 = .ok (.getfield 50, 3) := by decide +kernel
theorem dX3_settlementOn_4 : decode cX3_settlementOn 4 = .ok (.iload_n 1, 1) := by decide +kernel
theorem dX3_settlementOn_5 : decode cX3_settlementOn 5 = .ok (.imul, 1) := by decide +kernel
theorem dX3_settlementOn_6 : decode cX3_settlementOn 6 = .ok (.sipush 364, 3) := by decide +kernel
theorem dX3_settlementOn_9 : decode cX3_settlementOn 9 = .ok (.idiv, 1) := by decide +kernel
theorem dX3_settlementOn_10 : decode cX3_settlementOn 10 = .ok (.istore_n 2, 1) := by decide +kernel
theorem dX3_settlementOn_11 : decode cX3_settlementOn 11 = .ok (.aload_n 0, 1) := by decide +kernel
theorem dX3_settlementOn_12 : decode cX3_settlementOn 12 = .ok (.getfield 43, 3) := by decide +kernel
theorem dX3_settlementOn_15 : decode cX3_settlementOn 15 = .ok (.aload_n 0, 1) := by decide +kernel
theorem dX3_settlementOn_16 : decode cX3_settlementOn 16 = .ok (.getfield 25, 3) := by decide +kernel
theorem dX3_settlementOn_19 : decode cX3_settlementOn 19 = .ok (.getfield 101, 3) := by decide +kernel
theorem dX3_settlementOn_22 : decode cX3_settlementOn 22 = .ok (.imul, 1) := by decide +kernel
theorem dX3_settlementOn_23 : decode cX3_settlementOn 23 = .ok (.aload_n 0, 1) := by decide +kernel
theorem dX3_settlementOn_24 : decode cX3_settlementOn 24 = .ok (.getfield 43, 3) := by decide +kernel
theorem dX3_settlementOn_27 : decode cX3_settlementOn 27 = .ok (.iload_n 2, 1) := by decide +kernel
theorem dX3_settlementOn_28 : decode cX3_settlementOn 28 = .ok (.aload_n 0, 1) := by decide +kernel
theorem dX3_settlementOn_29 : decode cX3_settlementOn 29 = .ok (.iload_n 1, 1) := by decide +kernel
theorem dX3_settlementOn_30 : decode cX3_settlementOn 30 = .ok (.invokevirtual 98, 3) := by decide +kernel
theorem dX3_settlementOn_33 : decode cX3_settlementOn 33 = .ok (.isub, 1) := by decide +kernel
theorem dX3_settlementOn_34 : decode cX3_settlementOn 34 = .ok (.imul, 1) := by decide +kernel
theorem dX3_settlementOn_35 : decode cX3_settlementOn 35 = .ok (.iadd, 1) := by decide +kernel
theorem dX3_settlementOn_36 : decode cX3_settlementOn 36 = .ok (.ireturn, 1) := by decide +kernel
set_option maxRecDepth 20000 in
theorem ggX3_firstDayOutOfBounds_X3_kindOn : GoodIn wsX3_firstDayOutOfBounds wsX3_kindOn := goodIn_r _ [15, 16, 17, 18, 19, 14, 20, 1, 21, 47, 48, 49, 50, 51, 52, 53, 54, 55, 56, 57, 58, 59, 60, 61, 62] (by decide +kernel) (by decide +kernel)
set_option maxRecDepth 20000 in
theorem gX3_firstDayOutOfBounds_X3_kindOn : GoodIn wsX3_firstDayOutOfBounds (wsV RX3 75 RX3 yX3_kindOn wsX3_kindOn) := goodIn_app (goodIn_of _ (by decide +kernel)) ggX3_firstDayOutOfBounds_X3_kindOn
set_option maxRecDepth 20000 in
theorem ggX3_firstDayOutOfBounds_X3_planOn : GoodIn wsX3_firstDayOutOfBounds wsX3_planOn := goodIn_r _ [25, 26, 10, 27, 28, 29, 14, 30, 31, 32, 33, 34, 35, 36, 37, 47, 48, 49, 50, 51, 52, 53, 63, 64, 65, 66, 67] (by decide +kernel) (by decide +kernel)
set_option maxRecDepth 20000 in
theorem gX3_firstDayOutOfBounds_X3_planOn : GoodIn wsX3_firstDayOutOfBounds (wsV RX3 78 RX3 yX3_planOn wsX3_planOn) := goodIn_app (goodIn_of _ (by decide +kernel)) ggX3_firstDayOutOfBounds_X3_planOn
set_option maxRecDepth 20000 in
theorem ggX3_firstDayOutOfBounds_X2_high : GoodIn wsX3_firstDayOutOfBounds wsX2_high := goodIn_r _ [41, 42, 63, 64, 65, 66, 67] (by decide +kernel) (by decide +kernel)
set_option maxRecDepth 20000 in
theorem gX3_firstDayOutOfBounds_X2_high : GoodIn wsX3_firstDayOutOfBounds (wsV RX3 107 RX2 yX2_high wsX2_high) := goodIn_app (goodIn_of _ (by decide +kernel)) ggX3_firstDayOutOfBounds_X2_high
set_option maxRecDepth 20000 in
theorem ggX3_firstDayOutOfBounds_X2_low : GoodIn wsX3_firstDayOutOfBounds wsX2_low := goodIn_r _ [46, 42, 63, 64, 65, 66, 67] (by decide +kernel) (by decide +kernel)
set_option maxRecDepth 20000 in
theorem gX3_firstDayOutOfBounds_X2_low : GoodIn wsX3_firstDayOutOfBounds (wsV RX3 110 RX2 yX2_low wsX2_low) := goodIn_app (goodIn_of _ (by decide +kernel)) ggX3_firstDayOutOfBounds_X2_low
theorem dX3_firstDayOutOfBounds_0 : decode cX3_firstDayOutOfBounds 0 = .ok (.aload_n 0, 1) := by decide +kernel
theorem dX3_firstDayOutOfBounds_1 : decode cX3_firstDayOutOfBounds 1 = .ok (.getfield 25, 3) := by decide +kernel
theorem dX3_firstDayOutOfBounds_4 : decode cX3_firstDayOutOfBounds 4 = .ok (.getfield 101, 3) := by decide +kernel
theorem dX3_firstDayOutOfBounds_7 : decode cX3_firstDayOutOfBounds 7 = .ok (.istore_n 3, 1) := by decide +kernel
theorem dX3_firstDayOutOfBounds_8 : decode cX3_firstDayOutOfBounds 8 = .ok (.iload_n 1, 1) := by decide +kernel
theorem dX3_firstDayOutOfBounds_9 : decode cX3_firstDayOutOfBounds 9 = .ok (.istore 4, 2) := by decide +kernel
theorem dX3_firstDayOutOfBounds_11 : decode cX3_firstDayOutOfBounds 11 = .ok (.iload 4, 2) := by decide +kernel
theorem dX3_firstDayOutOfBounds_13 : decode cX3_firstDayOutOfBounds 13 = .ok (.sipush 364, 3) := by decide +kernel
theorem dX3_firstDayOutOfBounds_16 : decode cX3_firstDayOutOfBounds 16 = .ok (.if_icmp .ge 71, 3) := by decide +kernel
theorem dX3_firstDayOutOfBounds_19 : decode cX3_firstDayOutOfBounds 19 = .ok (.aload_n 0, 1) := by decide +kernel
theorem dX3_firstDayOutOfBounds_20 : decode cX3_firstDayOutOfBounds 20 = .ok (.iload 4, 2) := by decide +kernel
theorem dX3_firstDayOutOfBounds_22 : decode cX3_firstDayOutOfBounds 22 = .ok (.invokevirtual 75, 3) := by decide +kernel
theorem dX3_firstDayOutOfBounds_25 : decode cX3_firstDayOutOfBounds 25 = .ok (.ifCond .ne 30, 3) := by decide +kernel
theorem dX3_firstDayOutOfBounds_28 : decode cX3_firstDayOutOfBounds 28 = .ok (.aload_n 0, 1) := by decide +kernel
theorem dX3_firstDayOutOfBounds_29 : decode cX3_firstDayOutOfBounds 29 = .ok (.iload 4, 2) := by decide +kernel
theorem dX3_firstDayOutOfBounds_31 : decode cX3_firstDayOutOfBounds 31 = .ok (.invokevirtual 78, 3) := by decide +kernel
theorem dX3_firstDayOutOfBounds_34 : decode cX3_firstDayOutOfBounds 34 = .ok (.istore 5, 2) := by decide +kernel
theorem dX3_firstDayOutOfBounds_36 : decode cX3_firstDayOutOfBounds 36 = .ok (.iload_n 3, 1) := by decide +kernel
theorem dX3_firstDayOutOfBounds_37 : decode cX3_firstDayOutOfBounds 37 = .ok (.iconst 0, 1) := by decide +kernel
theorem dX3_firstDayOutOfBounds_38 : decode cX3_firstDayOutOfBounds 38 = .ok (.iload 5, 2) := by decide +kernel
theorem dX3_firstDayOutOfBounds_40 : decode cX3_firstDayOutOfBounds 40 = .ok (.iload_n 2, 1) := by decide +kernel
theorem dX3_firstDayOutOfBounds_41 : decode cX3_firstDayOutOfBounds 41 = .ok (.iadd, 1) := by decide +kernel
