theorem dX8_changedPlans_6 : decode cX8_changedPlans 6 = .ok (.getfield 28, 3) := by decide +kernel
theorem dX8_changedPlans_9 : decode cX8_changedPlans 9 = .ok (.invokevirtual 78, 3) := by decide +kernel
theorem dX8_changedPlans_12 : decode cX8_changedPlans 12 = .ok (.if_icmp .ge 21, 3) := by decide +kernel
theorem dX8_changedPlans_15 : decode cX8_changedPlans 15 = .ok (.iload_n 1, 1) := by decide +kernel
theorem dX8_changedPlans_16 : decode cX8_changedPlans 16 = .ok (.aload_n 0, 1) := by decide +kernel
theorem dX8_changedPlans_17 : decode cX8_changedPlans 17 = .ok (.getfield 37, 3) := by decide +kernel
theorem dX8_changedPlans_20 : decode cX8_changedPlans 20 = .ok (.iload_n 2, 1) := by decide +kernel
theorem dX8_changedPlans_21 : decode cX8_changedPlans 21 = .ok (.aaload, 1) := by decide +kernel
theorem dX8_changedPlans_22 : decode cX8_changedPlans 22 = .ok (.invokevirtual 259, 3) := by decide +kernel
theorem dX8_changedPlans_25 : decode cX8_changedPlans 25 = .ok (.iadd, 1) := by decide +kernel
theorem dX8_changedPlans_26 : decode cX8_changedPlans 26 = .ok (.istore_n 1, 1) := by decide +kernel
theorem dX8_changedPlans_27 : decode cX8_changedPlans 27 = .ok (.iinc 2 1, 3) := by decide +kernel
theorem dX8_changedPlans_30 : decode cX8_changedPlans 30 = .ok (.goto (-26), 3) := by decide +kernel
theorem dX8_changedPlans_33 : decode cX8_changedPlans 33 = .ok (.iload_n 1, 1) := by decide +kernel
theorem dX8_changedPlans_34 : decode cX8_changedPlans 34 = .ok (.ireturn, 1) := by decide +kernel
set_option maxRecDepth 20000 in
theorem ggX8_bookedDays_X2_workers : GoodIn wsX8_bookedDays wsX2_workers := goodIn_r _ [8, 9, 33, 34, 35, 36, 37] (by decide +kernel) (by decide +kernel)
set_option maxRecDepth 20000 in
theorem gX8_bookedDays_X2_workers : GoodIn wsX8_bookedDays (wsV RX8 78 RX2 yX2_workers wsX2_workers) := goodIn_app (goodIn_of _ (by decide +kernel)) ggX8_bookedDays_X2_workers
set_option maxRecDepth 20000 in
theorem ggX8_bookedDays_X3_bookedFrom : GoodIn wsX8_bookedDays wsX3_bookedFrom := goodIn_r _ [14, 15, 16, 17, 13, 18, 19, 20, 21, 22, 23, 24, 25, 38, 39, 40, 41, 42, 43, 44, 45, 46, 47, 48, 49, 50, 51, 52, 53] (by decide +kernel) (by decide +kernel)
set_option maxRecDepth 20000 in
theorem gX8_bookedDays_X3_bookedFrom : GoodIn wsX8_bookedDays (wsV RX8 262 RX3 yX3_bookedFrom wsX3_bookedFrom) := goodIn_app (goodIn_of _ (by decide +kernel)) ggX8_bookedDays_X3_bookedFrom
theorem dX8_bookedDays_0 : decode cX8_bookedDays 0 = .ok (.iconst 0, 1) := by decide +kernel
theorem dX8_bookedDays_1 : decode cX8_bookedDays 1 = .ok (.istore_n 1, 1) := by decide +kernel
theorem dX8_bookedDays_2 : decode cX8_bookedDays 2 = .ok (.iconst 0, 1) := by decide +kernel
theorem dX8_bookedDays_3 : decode cX8_bookedDays 3 = .ok (.istore_n 2, 1) := by decide +kernel
theorem dX8_bookedDays_4 : decode cX8_bookedDays 4 = .ok (.iload_n 2, 1) := by decide +kernel
theorem dX8_bookedDays_5 : decode cX8_bookedDays 5 = .ok (.aload_n 0, 1) := by decide +kernel
theorem dX8_bookedDays_6 : decode cX8_bookedDays 6 = .ok (.getfield 28, 3) := by decide +kernel
theorem dX8_bookedDays_9 : decode cX8_bookedDays 9 = .ok (.invokevirtual 78, 3) := by decide +kernel
theorem dX8_bookedDays_12 : decode cX8_bookedDays 12 = .ok (.if_icmp .ge 25, 3) := by decide +kernel
theorem dX8_bookedDays_15 : decode cX8_bookedDays 15 = .ok (.iload_n 1, 1) := by decide +kernel
theorem dX8_bookedDays_16 : decode cX8_bookedDays 16 = .ok (.aload_n 0, 1) := by decide +kernel
theorem dX8_bookedDays_17 : decode cX8_bookedDays 17 = .ok (.getfield 37, 3) := by decide +kernel
theorem dX8_bookedDays_20 : decode cX8_bookedDays 20 = .ok (.iload_n 2, 1) := by decide +kernel
theorem dX8_bookedDays_21 : decode cX8_bookedDays 21 = .ok (.aaload, 1) := by decide +kernel
theorem dX8_bookedDays_22 : decode cX8_bookedDays 22 = .ok (.aload_n 0, 1) := by decide +kernel
theorem dX8_bookedDays_23 : decode cX8_bookedDays 23 = .ok (.getfield 51, 3) := by decide +kernel
theorem dX8_bookedDays_26 : decode cX8_bookedDays 26 = .ok (.invokevirtual 262, 3) := by decide +kernel
theorem dX8_bookedDays_29 : decode cX8_bookedDays 29 = .ok (.iadd, 1) := by decide +kernel
theorem dX8_bookedDays_30 : decode cX8_bookedDays 30 = .ok (.istore_n 1, 1) := by decide +kernel
theorem dX8_bookedDays_31 : decode cX8_bookedDays 31 = .ok (.iinc 2 1, 3) := by decide +kernel
theorem dX8_bookedDays_34 : decode cX8_bookedDays 34 = .ok (.goto (-30), 3) := by decide +kernel
theorem dX8_bookedDays_37 : decode cX8_bookedDays 37 = .ok (.iload_n 1, 1) := by decide +kernel
theorem dX8_bookedDays_38 : decode cX8_bookedDays 38 = .ok (.ireturn, 1) := by decide +kernel
set_option maxRecDepth 20000 in
theorem ggX8_flaggedDays_X2_workers : GoodIn wsX8_flaggedDays wsX2_workers := goodIn_r _ [9, 10, 34, 35, 36, 37, 38] (by decide +kernel) (by decide +kernel)
set_option maxRecDepth 20000 in
theorem gX8_flaggedDays_X2_workers : GoodIn wsX8_flaggedDays (wsV RX8 78 RX2 yX2_workers wsX2_workers) := goodIn_app (goodIn_of _ (by decide +kernel)) ggX8_flaggedDays_X2_workers
theorem dX8_flaggedDays_0 : decode cX8_flaggedDays 0 = .ok (.iconst 0, 1) := by decide +kernel
theorem dX8_flaggedDays_1 : decode cX8_flaggedDays 1 = .ok (.istore_n 1, 1) := by decide +kernel
theorem dX8_flaggedDays_2 : decode cX8_flaggedDays 2 = .ok (.iconst 0, 1) := by decide +kernel
theorem dX8_flaggedDays_3 : decode cX8_flaggedDays 3 = .ok (.istore_n 2, 1) := by decide +kernel
theorem dX8_flaggedDays_4 : decode cX8_flaggedDays 4 = .ok (.iload_n 2, 1) := by decide +kernel
theorem dX8_flaggedDays_5 : decode cX8_flaggedDays 5 = .ok (.aload_n 0, 1) := by decide +kernel
theorem dX8_flaggedDays_6 : decode cX8_flaggedDays 6 = .ok (.getfield 28, 3) := by decide +kernel
theorem dX8_flaggedDays_9 : decode cX8_flaggedDays 9 = .ok (.invokevirtual 78, 3) := by decide +kernel
theorem dX8_flaggedDays_12 : decode cX8_flaggedDays 12 = .ok (.if_icmp .ge 24, 3) := by decide +kernel
theorem dX8_flaggedDays_15 : decode cX8_flaggedDays 15 = .ok (.iload_n 1, 1) := by decide +kernel
theorem dX8_flaggedDays_16 : decode cX8_flaggedDays 16 = .ok (.aload_n 0, 1) := by decide +kernel
theorem dX8_flaggedDays_17 : decode cX8_flaggedDays 17 = .ok (.getfield 37, 3) := by decide +kernel
theorem dX8_flaggedDays_20 : decode cX8_flaggedDays 20 = .ok (.iload_n 2, 1) := by decide +kernel
theorem dX8_flaggedDays_21 : decode cX8_flaggedDays 21 = .ok (.aaload, 1) := by decide +kernel
theorem dX8_flaggedDays_22 : decode cX8_flaggedDays 22 = .ok (.getfield 112, 3) := by decide +kernel
theorem dX8_flaggedDays_25 : decode cX8_flaggedDays 25 = .ok (.getfield 149, 3) := by decide +kernel
theorem dX8_flaggedDays_28 : decode cX8_flaggedDays 28 = .ok (.iadd, 1) := by decide +kernel
theorem dX8_flaggedDays_29 : decode cX8_flaggedDays 29 = .ok (.istore_n 1, 1) := by decide +kernel
theorem dX8_flaggedDays_30 : decode cX8_flaggedDays 30 = .ok (.iinc 2 1, 3) := by decide +kernel
theorem dX8_flaggedDays_33 : decode cX8_flaggedDays 33 = .ok (.goto (-29), 3) := by decide +kernel
theorem dX8_flaggedDays_36 : decode cX8_flaggedDays 36 = .ok (.iload_n 1, 1) := by decide +kernel
theorem dX8_flaggedDays_37 : decode cX8_flaggedDays 37 = .ok (.ireturn, 1) := by decide +kernel
set_option maxRecDepth 20000 in
theorem ggX8_coinsPaid_X2_workers : GoodIn wsX8_coinsPaid wsX2_workers := goodIn_r _ [8, 9, 33, 34, 35, 36, 37] (by decide +kernel) (by decide +kernel)
set_option maxRecDepth 20000 in
theorem gX8_coinsPaid_X2_workers : GoodIn wsX8_coinsPaid (wsV RX8 78 RX2 yX2_workers wsX2_workers) := goodIn_app (goodIn_of _ (by decide +kernel)) ggX8_coinsPaid_X2_workers
set_option maxRecDepth 20000 in
theorem ggX8_coinsPaid_X0_coinsPaid : GoodIn wsX8_coinsPaid wsX0_coinsPaid := goodIn_r _ [14, 15, 16, 17, 18, 38, 39, 40, 41, 42, 43, 44, 45, 46] (by decide +kernel) (by decide +kernel)
set_option maxRecDepth 20000 in
theorem gX8_coinsPaid_X0_coinsPaid : GoodIn wsX8_coinsPaid (wsV RX8 265 RX0 yX0_coinsPaid wsX0_coinsPaid) := goodIn_app (goodIn_of _ (by decide +kernel)) ggX8_coinsPaid_X0_coinsPaid
theorem dX8_coinsPaid_0 : decode cX8_coinsPaid 0 = .ok (.iconst 0, 1) := by decide +kernel
theorem dX8_coinsPaid_1 : decode cX8_coinsPaid 1 = .ok (.istore_n 1, 1) := by decide +kernel
theorem dX8_coinsPaid_2 : decode cX8_coinsPaid 2 = .ok (.iconst 0, 1) := by decide +kernel
theorem dX8_coinsPaid_3 : decode cX8_coinsPaid 3 = .ok (.istore_n 2, 1) := by decide +kernel
theorem dX8_coinsPaid_4 : decode cX8_coinsPaid 4 = .ok (.iload_n 2, 1) := by decide +kernel
theorem dX8_coinsPaid_5 : decode cX8_coinsPaid 5 = .ok (.aload_n 0, 1) := by decide +kernel
theorem dX8_coinsPaid_6 : decode cX8_coinsPaid 6 = .ok (.getfield 28, 3) := by decide +kernel
theorem dX8_coinsPaid_9 : decode cX8_coinsPaid 9 = .ok (.invokevirtual 78, 3) := by decide +kernel
theorem dX8_coinsPaid_12 : decode cX8_coinsPaid 12 = .ok (.if_icmp .ge 24, 3) := by decide +kernel
theorem dX8_coinsPaid_15 : decode cX8_coinsPaid 15 = .ok (.iload_n 1, 1) := by decide +kernel
theorem dX8_coinsPaid_16 : decode cX8_coinsPaid 16 = .ok (.aload_n 0, 1) := by decide +kernel
theorem dX8_coinsPaid_17 : decode cX8_coinsPaid 17 = .ok (.getfield 37, 3) := by decide +kernel
theorem dX8_coinsPaid_20 : decode cX8_coinsPaid 20 = .ok (.iload_n 2, 1) := by decide +kernel
theorem dX8_coinsPaid_21 : decode cX8_coinsPaid 21 = .ok (.aaload, 1) := by decide +kernel
theorem dX8_coinsPaid_22 : decode cX8_coinsPaid 22 = .ok (.getfield 112, 3) := by decide +kernel
theorem dX8_coinsPaid_25 : decode cX8_coinsPaid 25 = .ok (.invokevirtual 265, 3) := by decide +kernel
theorem dX8_coinsPaid_28 : decode cX8_coinsPaid 28 = .ok (.iadd, 1) := by decide +kernel
theorem dX8_coinsPaid_29 : decode cX8_coinsPaid 29 = .ok (.istore_n 1, 1) := by decide +kernel
theorem dX8_coinsPaid_30 : decode cX8_coinsPaid 30 = .ok (.iinc 2 1, 3) := by decide +kernel
theorem dX8_coinsPaid_33 : decode cX8_coinsPaid 33 = .ok (.goto (-29), 3) := by decide +kernel
theorem dX8_coinsPaid_36 : decode cX8_coinsPaid 36 = .ok (.iload_n 1, 1) := by decide +kernel
theorem dX8_coinsPaid_37 : decode cX8_coinsPaid 37 = .ok (.ireturn, 1) := by decide +kernel
theorem dX9_thrown_0 : decode cX9_thrown 0 = .ok (.aload_n 0, 1) := by decide +kernel
theorem dX9_thrown_1 : decode cX9_thrown 1 = .ok (.getfield 1, 3) := by decide +kernel
theorem dX9_thrown_4 : decode cX9_thrown 4 = .ok (.ireturn, 1) := by decide +kernel
theorem dX9_refuse_0 : decode cX9_refuse 0 = .ok (.aload_n 0, 1) := by decide +kernel
theorem dX9_refuse_1 : decode cX9_refuse 1 = .ok (.iconst 1, 1) := by decide +kernel
theorem dX9_refuse_2 : decode cX9_refuse 2 = .ok (.putfield 1, 3) := by decide +kernel
theorem dX9_refuse_5 : decode cX9_refuse 5 = .ok (.iconst 0, 1) := by decide +kernel
theorem dX9_refuse_6 : decode cX9_refuse 6 = .ok (.ireturn, 1) := by decide +kernel
theorem dX9_isIn_0 : decode cX9_isIn 0 = .ok (.iload_n 0, 1) := by decide +kernel
theorem dX9_isIn_1 : decode cX9_isIn 1 = .ok (.iload_n 1, 1) := by decide +kernel
theorem dX9_isIn_2 : decode cX9_isIn 2 = .ok (.if_icmp .lt 12, 3) := by decide +kernel
theorem dX9_isIn_5 : decode cX9_isIn 5 = .ok (.iload_n 0, 1) := by decide +kernel
theorem dX9_isIn_6 : decode cX9_isIn 6 = .ok (.iload_n 2, 1) := by decide +kernel
theorem dX9_isIn_7 : decode cX9_isIn 7 = .ok (.if_icmp .gt 7, 3) := by decide +kernel
theorem dX9_isIn_10 : decode cX9_isIn 10 = .ok (.iconst 1, 1) := by decide +kernel
theorem dX9_isIn_11 : decode cX9_isIn 11 = .ok (.goto 4, 3) := by decide +kernel
theorem dX9_isIn_14 : decode cX9_isIn 14 = .ok (.iconst 0, 1) := by decide +kernel
theorem dX9_isIn_15 : decode cX9_isIn 15 = .ok (.ireturn, 1) := by decide +kernel
theorem dX9_lays_0 : decode cX9_lays 0 = .ok (.bipush 24, 2) := by decide +kernel
theorem dX9_lays_2 : decode cX9_lays 2 = .ok (.istore_n 2, 1) := by decide +kernel
theorem dX9_lays_3 : decode cX9_lays 3 = .ok (.iload_n 2, 1) := by decide +kernel
theorem dX9_lays_4 : decode cX9_lays 4 = .ok (.ifCond .lt 35, 3) := by decide +kernel
theorem dX9_lays_7 : decode cX9_lays 7 = .ok (.aload_n 0, 1) := by decide +kernel
theorem dX9_lays_8 : decode cX9_lays 8 = .ok (.getfield 7, 3) := by decide +kernel
theorem dX9_lays_11 : decode cX9_lays 11 = .ok (.aload_n 0, 1) := by decide +kernel
theorem dX9_lays_12 : decode cX9_lays 12 = .ok (.getfield 11, 3) := by decide +kernel
theorem dX9_lays_15 : decode cX9_lays 15 = .ok (.iload_n 1, 1) := by decide +kernel
theorem dX9_lays_16 : decode cX9_lays 16 = .ok (.iload_n 2, 1) := by decide +kernel
theorem dX9_lays_17 : decode cX9_lays 17 = .ok (.iushr, 1) := by decide +kernel
theorem dX9_lays_18 : decode cX9_lays 18 = .ok (.sipush 255, 3) := by decide +kernel
theorem dX9_lays_21 : decode cX9_lays 21 = .ok (.iand, 1) := by decide +kernel
theorem dX9_lays_22 : decode cX9_lays 22 = .ok (.iastore, 1) := by decide +kernel
theorem dX9_lays_23 : decode cX9_lays 23 = .ok (.aload_n 0, 1) := by decide +kernel
theorem dX9_lays_24 : decode cX9_lays 24 = .ok (.dup, 1) := by decide +kernel
theorem dX9_lays_25 : decode cX9_lays 25 = .ok (.getfield 11, 3) := by decide +kernel
theorem dX9_lays_28 : decode cX9_lays 28 = .ok (.iconst 1, 1) := by decide +kernel
theorem dX9_lays_29 : decode cX9_lays 29 = .ok (.iadd, 1) := by decide +kernel
theorem dX9_lays_30 : decode cX9_lays 30 = .ok (.putfield 11, 3) := by decide +kernel
theorem dX9_lays_33 : decode cX9_lays 33 = .ok (.iinc 2 (-8), 3) := by decide +kernel
theorem dX9_lays_36 : decode cX9_lays 36 = .ok (.goto (-33), 3) := by decide +kernel
theorem dX9_lays_39 : decode cX9_lays 39 = .ok (.return_, 1) := by decide +kernel
set_option maxRecDepth 20000 in
theorem ggX9_feed_X9_lays : GoodIn wsX9_feed wsX9_lays := goodIn_r _ [7, 8, 2, 9, 10, 11, 12, 13, 14, 15, 16, 17, 18, 19, 20, 21, 22, 23] (by decide +kernel) (by decide +kernel)
set_option maxRecDepth 20000 in
theorem gX9_feed_X9_lays : GoodIn wsX9_feed (wsV RX9 14 RX9 yX9_lays wsX9_lays) := goodIn_app (goodIn_of _ (by decide +kernel)) ggX9_feed_X9_lays
theorem dX9_feed_0 : decode cX9_feed 0 = .ok (.aload_n 0, 1) := by decide +kernel
theorem dX9_feed_1 : decode cX9_feed 1 = .ok (.iconst 0, 1) := by decide +kernel
theorem dX9_feed_2 : decode cX9_feed 2 = .ok (.putfield 1, 3) := by decide +kernel
theorem dX9_feed_5 : decode cX9_feed 5 = .ok (.aload_n 0, 1) := by decide +kernel
theorem dX9_feed_6 : decode cX9_feed 6 = .ok (.getfield 11, 3) := by decide +kernel
theorem dX9_feed_9 : decode cX9_feed 9 = .ok (.bipush 20, 2) := by decide +kernel
theorem dX9_feed_11 : decode cX9_feed 11 = .ok (.iadd, 1) := by decide +kernel
theorem dX9_feed_12 : decode cX9_feed 12 = .ok (.sipush 740, 3) := by decide +kernel
theorem dX9_feed_15 : decode cX9_feed 15 = .ok (.if_icmp .le 5, 3) := by decide +kernel
theorem dX9_feed_18 : decode cX9_feed 18 = .ok (.iconst (-1), 1) := by decide +kernel
theorem dX9_feed_19 : decode cX9_feed 19 = .ok (.ireturn, 1) := by decide +kernel
theorem dX9_feed_20 : decode cX9_feed 20 = .ok (.aload_n 0, 1) := by decide +kernel
theorem dX9_feed_21 : decode cX9_feed 21 = .ok (.iload_n 1, 1) := by decide +kernel
theorem dX9_feed_22 : decode cX9_feed 22 = .ok (.invokevirtual 14, 3) := by decide +kernel
theorem dX9_feed_25 : decode cX9_feed 25 = .ok (.aload_n 0, 1) := by decide +kernel
theorem dX9_feed_26 : decode cX9_feed 26 = .ok (.iload_n 2, 1) := by decide +kernel
theorem dX9_feed_27 : decode cX9_feed 27 = .ok (.invokevirtual 14, 3) := by decide +kernel
theorem dX9_feed_30 : decode cX9_feed 30 = .ok (.aload_n 0, 1) := by decide +kernel
theorem dX9_feed_31 : decode cX9_feed 31 = .ok (.iload_n 3, 1) := by decide +kernel
theorem dX9_feed_32 : decode cX9_feed 32 = .ok (.invokevirtual 14, 3) := by decide +kernel
theorem dX9_feed_35 : decode cX9_feed 35 = .ok (.aload_n 0, 1) := by decide +kernel
theorem dX9_feed_36 : decode cX9_feed 36 = .ok (.iload 4, 2) := by decide +kernel
theorem dX9_feed_38 : decode cX9_feed 38 = .ok (.invokevirtual 14, 3) := by decide +kernel
theorem dX9_feed_41 : decode cX9_feed 41 = .ok (.aload_n 0, 1) := by decide +kernel
theorem dX9_feed_42 : decode cX9_feed 42 = .ok (.iload 5, 2) := by decide +kernel
theorem dX9_feed_44 : decode cX9_feed 44 = .ok (.invokevirtual 14, 3) := by decide +kernel
theorem dX9_feed_47 : decode cX9_feed 47 = .ok (.aload_n 0, 1) := by decide +kernel
theorem dX9_feed_48 : decode cX9_feed 48 = .ok (.getfield 11, 3) := by decide +kernel
theorem dX9_feed_51 : decode cX9_feed 51 = .ok (.ireturn, 1) := by decide +kernel
theorem dX9_end_0 : decode cX9_end 0 = .ok (.aload_n 0, 1) := by decide +kernel
theorem dX9_end_1 : decode cX9_end 1 = .ok (.iconst 0, 1) := by decide +kernel
theorem dX9_end_2 : decode cX9_end 2 = .ok (.putfield 1, 3) := by decide +kernel
theorem dX9_end_5 : decode cX9_end 5 = .ok (.iload_n 1, 1) := by decide +kernel
theorem dX9_end_6 : decode cX9_end 6 = .ok (.ifCond .lt 11, 3) := by decide +kernel
theorem dX9_end_9 : decode cX9_end 9 = .ok (.iload_n 1, 1) := by decide +kernel
theorem dX9_end_10 : decode cX9_end 10 = .ok (.aload_n 0, 1) := by decide +kernel
theorem dX9_end_11 : decode cX9_end 11 = .ok (.getfield 11, 3) := by decide +kernel
theorem dX9_end_14 : decode cX9_end 14 = .ok (.if_icmp .le 5, 3) := by decide +kernel
theorem dX9_end_17 : decode cX9_end 17 = .ok (.iconst 0, 1) := by decide +kernel
theorem dX9_end_18 : decode cX9_end 18 = .ok (.ireturn, 1) := by decide +kernel
theorem dX9_end_19 : decode cX9_end 19 = .ok (.aload_n 0, 1) := by decide +kernel
theorem dX9_end_20 : decode cX9_end 20 = .ok (.iload_n 1, 1) := by decide +kernel
theorem dX9_end_21 : decode cX9_end 21 = .ok (.putfield 11, 3) := by decide +kernel
theorem dX9_end_24 : decode cX9_end 24 = .ok (.iconst 1, 1) := by decide +kernel
theorem dX9_end_25 : decode cX9_end 25 = .ok (.ireturn, 1) := by decide +kernel
theorem dX9_tapeAt_0 : decode cX9_tapeAt 0 = .ok (.iload_n 1, 1) := by decide +kernel
theorem dX9_tapeAt_1 : decode cX9_tapeAt 1 = .ok (.aload_n 0, 1) := by decide +kernel
theorem dX9_tapeAt_2 : decode cX9_tapeAt 2 = .ok (.getfield 18, 3) := by decide +kernel
theorem dX9_tapeAt_5 : decode cX9_tapeAt 5 = .ok (.if_icmp .ge 12, 3) := by decide +kernel
theorem dX9_tapeAt_8 : decode cX9_tapeAt 8 = .ok (.aload_n 0, 1) := by decide +kernel
theorem dX9_tapeAt_9 : decode cX9_tapeAt 9 = .ok (.getfield 7, 3) := by decide +kernel
theorem dX9_tapeAt_12 : decode cX9_tapeAt 12 = .ok (.iload_n 1, 1) := by decide +kernel
theorem dX9_tapeAt_13 : decode cX9_tapeAt 13 = .ok (.iaload, 1) := by decide +kernel
theorem dX9_tapeAt_14 : decode cX9_tapeAt 14 = .ok (.goto 4, 3) := by decide +kernel
theorem dX9_tapeAt_17 : decode cX9_tapeAt 17 = .ok (.iconst 0, 1) := by decide +kernel
theorem dX9_tapeAt_18 : decode cX9_tapeAt 18 = .ok (.ireturn, 1) := by decide +kernel
theorem dX9_isDigit_0 : decode cX9_isDigit 0 = .ok (.iload_n 0, 1) := by decide +kernel
theorem dX9_isDigit_1 : decode cX9_isDigit 1 = .ok (.bipush 48, 2) := by decide +kernel
theorem dX9_isDigit_3 : decode cX9_isDigit 3 = .ok (.if_icmp .lt 13, 3) := by decide +kernel
theorem dX9_isDigit_6 : decode cX9_isDigit 6 = .ok (.iload_n 0, 1) := by decide +kernel
theorem dX9_isDigit_7 : decode cX9_isDigit 7 = .ok (.bipush 57, 2) := by decide +kernel
theorem dX9_isDigit_9 : decode cX9_isDigit 9 = .ok (.if_icmp .gt 7, 3) := by decide +kernel
theorem dX9_isDigit_12 : decode cX9_isDigit 12 = .ok (.iconst 1, 1) := by decide +kernel
theorem dX9_isDigit_13 : decode cX9_isDigit 13 = .ok (.goto 4, 3) := by decide +kernel
theorem dX9_isDigit_16 : decode cX9_isDigit 16 = .ok (.iconst 0, 1) := by decide +kernel
theorem dX9_isDigit_17 : decode cX9_isDigit 17 = .ok (.ireturn, 1) := by decide +kernel
theorem dX9_isLetter_0 : decode cX9_isLetter 0 = .ok (.iload_n 0, 1) := by decide +kernel
theorem dX9_isLetter_1 : decode cX9_isLetter 1 = .ok (.bipush 97, 2) := by decide +kernel
theorem dX9_isLetter_3 : decode cX9_isLetter 3 = .ok (.if_icmp .lt 13, 3) := by decide +kernel
theorem dX9_isLetter_6 : decode cX9_isLetter 6 = .ok (.iload_n 0, 1) := by decide +kernel
theorem dX9_isLetter_7 : decode cX9_isLetter 7 = .ok (.bipush 122, 2) := by decide +kernel
theorem dX9_isLetter_9 : decode cX9_isLetter 9 = .ok (.if_icmp .gt 7, 3) := by decide +kernel
theorem dX9_isLetter_12 : decode cX9_isLetter 12 = .ok (.iconst 1, 1) := by decide +kernel
theorem dX9_isLetter_13 : decode cX9_isLetter 13 = .ok (.goto 4, 3) := by decide +kernel
theorem dX9_isLetter_16 : decode cX9_isLetter 16 = .ok (.iconst 0, 1) := by decide +kernel
theorem dX9_isLetter_17 : decode cX9_isLetter 17 = .ok (.ireturn, 1) := by decide +kernel
set_option maxRecDepth 20000 in
theorem ggX9_go_X9_isLetter : GoodIn wsX9_go wsX9_isLetter := goodIn_r _ [13] (by decide +kernel) (by decide +kernel)
set_option maxRecDepth 20000 in
theorem gX9_go_X9_isLetter : GoodIn wsX9_go (va_wsS RX9 30 yX9_isLetter wsX9_isLetter) := goodIn_app (goodIn_of _ (by decide +kernel)) ggX9_go_X9_isLetter
set_option maxRecDepth 20000 in
theorem ggX9_go_X9_isDigit : GoodIn wsX9_go wsX9_isDigit := goodIn_r _ [16] (by decide +kernel) (by decide +kernel)
set_option maxRecDepth 20000 in
theorem gX9_go_X9_isDigit : GoodIn wsX9_go (va_wsS RX9 34 yX9_isDigit wsX9_isDigit) := goodIn_app (goodIn_of _ (by decide +kernel)) ggX9_go_X9_isDigit
set_option maxRecDepth 20000 in
theorem ggX9_go_X9_tapeAt : GoodIn wsX9_go wsX9_tapeAt := goodIn_r _ [20, 2, 3, 21, 22, 23, 24, 25, 26, 27, 28, 29, 30, 31, 32, 33, 34, 35] (by decide +kernel) (by decide +kernel)
set_option maxRecDepth 20000 in
theorem gX9_go_X9_tapeAt : GoodIn wsX9_go (wsV RX9 44 RX9 yX9_tapeAt wsX9_tapeAt) := goodIn_app (goodIn_of _ (by decide +kernel)) ggX9_go_X9_tapeAt
theorem dX9_go_0 : decode cX9_go 0 = .ok (.aload_n 0, 1) := by decide +kernel
theorem dX9_go_1 : decode cX9_go 1 = .ok (.getfield 21, 3) := by decide +kernel
theorem dX9_go_4 : decode cX9_go 4 = .ok (.aload_n 0, 1) := by decide +kernel
theorem dX9_go_5 : decode cX9_go 5 = .ok (.getfield 18, 3) := by decide +kernel
theorem dX9_go_8 : decode cX9_go 8 = .ok (.if_icmp .ge 44, 3) := by decide +kernel
theorem dX9_go_11 : decode cX9_go 11 = .ok (.aload_n 0, 1) := by decide +kernel
theorem dX9_go_12 : decode cX9_go 12 = .ok (.getfield 7, 3) := by decide +kernel
theorem dX9_go_15 : decode cX9_go 15 = .ok (.aload_n 0, 1) := by decide +kernel
theorem dX9_go_16 : decode cX9_go 16 = .ok (.getfield 21, 3) := by decide +kernel
theorem dX9_go_19 : decode cX9_go 19 = .ok (.iaload, 1) := by decide +kernel
theorem dX9_go_20 : decode cX9_go 20 = .ok (.bipush 32, 2) := by decide +kernel
theorem dX9_go_22 : decode cX9_go 22 = .ok (.if_icmp .eq 17, 3) := by decide +kernel
theorem dX9_go_25 : decode cX9_go 25 = .ok (.aload_n 0, 1) := by decide +kernel
theorem dX9_go_26 : decode cX9_go 26 = .ok (.getfield 7, 3) := by decide +kernel
theorem dX9_go_29 : decode cX9_go 29 = .ok (.aload_n 0, 1) := by decide +kernel
theorem dX9_go_30 : decode cX9_go 30 = .ok (.getfield 21, 3) := by decide +kernel
theorem dX9_go_33 : decode cX9_go 33 = .ok (.iaload, 1) := by decide +kernel
theorem dX9_go_34 : decode cX9_go 34 = .ok (.bipush 10, 2) := by decide +kernel
theorem dX9_go_36 : decode cX9_go 36 = .ok (.if_icmp .ne 16, 3) := by decide +kernel
theorem dX9_go_39 : decode cX9_go 39 = .ok (.aload_n 0, 1) := by decide +kernel
theorem dX9_go_40 : decode cX9_go 40 = .ok (.dup, 1) := by decide +kernel
theorem dX9_go_41 : decode cX9_go 41 = .ok (.getfield 21, 3) := by decide +kernel
theorem dX9_go_44 : decode cX9_go 44 = .ok (.iconst 1, 1) := by decide +kernel
theorem dX9_go_45 : decode cX9_go 45 = .ok (.iadd, 1) := by decide +kernel
theorem dX9_go_46 : decode cX9_go 46 = .ok (.putfield 21, 3) := by decide +kernel
theorem dX9_go_49 : decode cX9_go 49 = .ok (.goto (-49), 3) := by decide +kernel
theorem dX9_go_52 : decode cX9_go 52 = .ok (.aload_n 0, 1) := by decide +kernel
theorem dX9_go_53 : decode cX9_go 53 = .ok (.aload_n 0, 1) := by decide +kernel
theorem dX9_go_54 : decode cX9_go 54 = .ok (.getfield 21, 3) := by decide +kernel
theorem dX9_go_57 : decode cX9_go 57 = .ok (.putfield 24, 3) := by decide +kernel
theorem dX9_go_60 : decode cX9_go 60 = .ok (.aload_n 0, 1) := by decide +kernel
theorem dX9_go_61 : decode cX9_go 61 = .ok (.getfield 18, 3) := by decide +kernel
theorem dX9_go_64 : decode cX9_go 64 = .ok (.sipush 700, 3) := by decide +kernel
theorem dX9_go_67 : decode cX9_go 67 = .ok (.if_icmp .le 26, 3) := by decide +kernel
theorem dX9_go_70 : decode cX9_go 70 = .ok (.aload_n 0, 1) := by decide +kernel
theorem dX9_go_71 : decode cX9_go 71 = .ok (.getfield 24, 3) := by decide +kernel
theorem dX9_go_74 : decode cX9_go 74 = .ok (.sipush 700, 3) := by decide +kernel
theorem dX9_go_77 : decode cX9_go 77 = .ok (.if_icmp .lt 16, 3) := by decide +kernel
theorem dX9_go_80 : decode cX9_go 80 = .ok (.aload_n 0, 1) := by decide +kernel
theorem dX9_go_81 : decode cX9_go 81 = .ok (.sipush 700, 3) := by decide +kernel
theorem dX9_go_84 : decode cX9_go 84 = .ok (.putfield 24, 3) := by decide +kernel
theorem dX9_go_87 : decode cX9_go 87 = .ok (.aload_n 0, 1) := by decide +kernel
theorem dX9_go_88 : decode cX9_go 88 = .ok (.iconst 1, 1) := by decide +kernel
theorem dX9_go_89 : decode cX9_go 89 = .ok (.putfield 27, 3) := by decide +kernel
theorem dX9_go_92 : decode cX9_go 92 = .ok (.return_, 1) := by decide +kernel
theorem dX9_go_93 : decode cX9_go 93 = .ok (.aload_n 0, 1) := by decide +kernel
theorem dX9_go_94 : decode cX9_go 94 = .ok (.getfield 21, 3) := by decide +kernel
theorem dX9_go_97 : decode cX9_go 97 = .ok (.aload_n 0, 1) := by decide +kernel
theorem dX9_go_98 : decode cX9_go 98 = .ok (.getfield 18, 3) := by decide +kernel
theorem dX9_go_101 : decode cX9_go 101 = .ok (.if_icmp .lt 9, 3) := by decide +kernel
theorem dX9_go_104 : decode cX9_go 104 = .ok (.aload_n 0, 1) := by decide +kernel
theorem dX9_go_105 : decode cX9_go 105 = .ok (.iconst 0, 1) := by decide +kernel
theorem dX9_go_106 : decode cX9_go 106 = .ok (.putfield 27, 3) := by decide +kernel
theorem dX9_go_109 : decode cX9_go 109 = .ok (.return_, 1) := by decide +kernel
theorem dX9_go_110 : decode cX9_go 110 = .ok (.aload_n 0, 1) := by decide +kernel
theorem dX9_go_111 : decode cX9_go 111 = .ok (.getfield 7, 3) := by decide +kernel
theorem dX9_go_114 : decode cX9_go 114 = .ok (.aload_n 0, 1) := by decide +kernel
theorem dX9_go_115 : decode cX9_go 115 = .ok (.getfield 21, 3) := by decide +kernel
theorem dX9_go_118 : decode cX9_go 118 = .ok (.iaload, 1) := by decide +kernel
theorem dX9_go_119 : decode cX9_go 119 = .ok (.istore_n 1, 1) := by decide +kernel
theorem dX9_go_120 : decode cX9_go 120 = .ok (.iload_n 1, 1) := by decide +kernel
theorem dX9_go_121 : decode cX9_go 121 = .ok (.invokestatic 30, 3) := by decide +kernel
theorem dX9_go_124 : decode cX9_go 124 = .ok (.ifCond .ne 36, 3) := by decide +kernel
theorem dX9_go_127 : decode cX9_go 127 = .ok (.iload_n 1, 1) := by decide +kernel
theorem dX9_go_128 : decode cX9_go 128 = .ok (.invokestatic 34, 3) := by decide +kernel
theorem dX9_go_131 : decode cX9_go 131 = .ok (.ifCond .ne 29, 3) := by decide +kernel
theorem dX9_go_134 : decode cX9_go 134 = .ok (.aload_n 0, 1) := by decide +kernel
theorem dX9_go_135 : decode cX9_go 135 = .ok (.iload_n 1, 1) := by decide +kernel
theorem dX9_go_136 : decode cX9_go 136 = .ok (.bipush 59, 2) := by decide +kernel
theorem dX9_go_138 : decode cX9_go 138 = .ok (.if_icmp .ne 7, 3) := by decide +kernel
theorem dX9_go_141 : decode cX9_go 141 = .ok (.iconst 4, 1) := by decide +kernel
theorem dX9_go_142 : decode cX9_go 142 = .ok (.goto 4, 3) := by decide +kernel
theorem dX9_go_145 : decode cX9_go 145 = .ok (.iconst 1, 1) := by decide +kernel
theorem dX9_go_146 : decode cX9_go 146 = .ok (.putfield 27, 3) := by decide +kernel
theorem dX9_go_149 : decode cX9_go 149 = .ok (.aload_n 0, 1) := by decide +kernel
theorem dX9_go_150 : decode cX9_go 150 = .ok (.dup, 1) := by decide +kernel
theorem dX9_go_151 : decode cX9_go 151 = .ok (.getfield 21, 3) := by decide +kernel
theorem dX9_go_154 : decode cX9_go 154 = .ok (.iconst 1, 1) := by decide +kernel
theorem dX9_go_155 : decode cX9_go 155 = .ok (.iadd, 1) := by decide +kernel
theorem dX9_go_156 : decode cX9_go 156 = .ok (.putfield 21, 3) := by decide +kernel
theorem dX9_go_159 : decode cX9_go 159 = .ok (.return_, 1) := by decide +kernel
theorem dX9_go_160 : decode cX9_go 160 = .ok (.iload_n 1, 1) := by decide +kernel
theorem dX9_go_161 : decode cX9_go 161 = .ok (.invokestatic 30, 3) := by decide +kernel
theorem dX9_go_164 : decode cX9_go 164 = .ok (.istore_n 2, 1) := by decide +kernel
theorem dX9_go_165 : decode cX9_go 165 = .ok (.iconst 1, 1) := by decide +kernel
theorem dX9_go_166 : decode cX9_go 166 = .ok (.istore_n 3, 1) := by decide +kernel
theorem dX9_go_167 : decode cX9_go 167 = .ok (.aload_n 0, 1) := by decide +kernel
theorem dX9_go_168 : decode cX9_go 168 = .ok (.lconst 0, 1) := by decide +kernel
theorem dX9_go_169 : decode cX9_go 169 = .ok (.putfield 37, 3) := by decide +kernel
theorem dX9_go_172 : decode cX9_go 172 = .ok (.aload_n 0, 1) := by decide +kernel
theorem dX9_go_173 : decode cX9_go 173 = .ok (.iconst 0, 1) := by decide +kernel
theorem dX9_go_174 : decode cX9_go 174 = .ok (.putfield 41, 3) := by decide +kernel
theorem dX9_go_177 : decode cX9_go 177 = .ok (.aload_n 0, 1) := by decide +kernel
theorem dX9_go_178 : decode cX9_go 178 = .ok (.aload_n 0, 1) := by decide +kernel
theorem dX9_go_179 : decode cX9_go 179 = .ok (.getfield 21, 3) := by decide +kernel
theorem dX9_go_182 : decode cX9_go 182 = .ok (.invokevirtual 44, 3) := by decide +kernel
theorem dX9_go_185 : decode cX9_go 185 = .ok (.invokestatic 30, 3) := by decide +kernel
theorem dX9_go_188 : decode cX9_go 188 = .ok (.ifCond .ne 17, 3) := by decide +kernel
theorem dX9_go_191 : decode cX9_go 191 = .ok (.aload_n 0, 1) := by decide +kernel
theorem dX9_go_192 : decode cX9_go 192 = .ok (.aload_n 0, 1) := by decide +kernel
theorem dX9_go_193 : decode cX9_go 193 = .ok (.getfield 21, 3) := by decide +kernel
theorem dX9_go_196 : decode cX9_go 196 = .ok (.invokevirtual 44, 3) := by decide +kernel
theorem dX9_go_199 : decode cX9_go 199 = .ok (.invokestatic 34, 3) := by decide +kernel
theorem dX9_go_202 : decode cX9_go 202 = .ok (.ifCond .eq 110, 3) := by decide +kernel
theorem dX9_go_205 : decode cX9_go 205 = .ok (.aload_n 0, 1) := by decide +kernel
theorem dX9_go_206 : decode cX9_go 206 = .ok (.getfield 7, 3) := by decide +kernel
theorem dX9_go_209 : decode cX9_go 209 = .ok (.aload_n 0, 1) := by decide +kernel
theorem dX9_go_210 : decode cX9_go 210 = .ok (.getfield 21, 3) := by decide +kernel
theorem dX9_go_213 : decode cX9_go 213 = .ok (.iaload, 1) := by decide +kernel
theorem dX9_go_214 : decode cX9_go 214 = .ok (.istore 4, 2) := by decide +kernel
theorem dX9_go_216 : decode cX9_go 216 = .ok (.iload_n 3, 1) := by decide +kernel
theorem dX9_go_217 : decode cX9_go 217 = .ok (.ifCond .eq 16, 3) := by decide +kernel
theorem dX9_go_220 : decode cX9_go 220 = .ok (.iload 4, 2) := by decide +kernel
theorem dX9_go_222 : decode cX9_go 222 = .ok (.invokestatic 30, 3) := by decide +kernel
theorem dX9_go_225 : decode cX9_go 225 = .ok (.iload_n 2, 1) := by decide +kernel
theorem dX9_go_226 : decode cX9_go 226 = .ok (.if_icmp .ne 7, 3) := by decide +kernel
theorem dX9_go_229 : decode cX9_go 229 = .ok (.iconst 1, 1) := by decide +kernel
theorem dX9_go_230 : decode cX9_go 230 = .ok (.goto 4, 3) := by decide +kernel
theorem dX9_go_233 : decode cX9_go 233 = .ok (.iconst 0, 1) := by decide +kernel
theorem dX9_go_234 : decode cX9_go 234 = .ok (.istore_n 3, 1) := by decide +kernel
theorem dX9_go_235 : decode cX9_go 235 = .ok (.aload_n 0, 1) := by decide +kernel
theorem dX9_go_236 : decode cX9_go 236 = .ok (.getfield 21, 3) := by decide +kernel
theorem dX9_go_239 : decode cX9_go 239 = .ok (.aload_n 0, 1) := by decide +kernel
theorem dX9_go_240 : decode cX9_go 240 = .ok (.getfield 24, 3) := by decide +kernel
theorem dX9_go_243 : decode cX9_go 243 = .ok (.isub, 1) := by decide +kernel
theorem dX9_go_244 : decode cX9_go 244 = .ok (.bipush 7, 2) := by decide +kernel
theorem dX9_go_246 : decode cX9_go 246 = .ok (.if_icmp .ge 23, 3) := by decide +kernel
theorem dX9_go_249 : decode cX9_go 249 = .ok (.aload_n 0, 1) := by decide +kernel
theorem dX9_go_250 : decode cX9_go 250 = .ok (.ldc2_w 48, 3) := by decide +kernel
theorem dX9_go_253 : decode cX9_go 253 = .ok (.aload_n 0, 1) := by decide +kernel
theorem dX9_go_254 : decode cX9_go 254 = .ok (.getfield 37, 3) := by decide +kernel
theorem dX9_go_257 : decode cX9_go 257 = .ok (.lmul, 1) := by decide +kernel
theorem dX9_go_258 : decode cX9_go 258 = .ok (.iload 4, 2) := by decide +kernel
theorem dX9_go_260 : decode cX9_go 260 = .ok (.i2l, 1) := by decide +kernel
theorem dX9_go_261 : decode cX9_go 261 = .ok (.ladd, 1) := by decide +kernel
theorem dX9_go_262 : decode cX9_go 262 = .ok (.ldc2_w 50, 3) := by decide +kernel
theorem dX9_go_265 : decode cX9_go 265 = .ok (.lsub, 1) := by decide +kernel
theorem dX9_go_266 : decode cX9_go 266 = .ok (.putfield 37, 3) := by decide +kernel
theorem dX9_go_269 : decode cX9_go 269 = .ok (.aload_n 0, 1) := by decide +kernel
theorem dX9_go_270 : decode cX9_go 270 = .ok (.getfield 21, 3) := by decide +kernel
theorem dX9_go_273 : decode cX9_go 273 = .ok (.aload_n 0, 1) := by decide +kernel
theorem dX9_go_274 : decode cX9_go 274 = .ok (.getfield 24, 3) := by decide +kernel
theorem dX9_go_277 : decode cX9_go 277 = .ok (.isub, 1) := by decide +kernel
theorem dX9_go_278 : decode cX9_go 278 = .ok (.iconst 4, 1) := by decide +kernel
theorem dX9_go_279 : decode cX9_go 279 = .ok (.if_icmp .ge 20, 3) := by decide +kernel
theorem dX9_go_282 : decode cX9_go 282 = .ok (.aload_n 0, 1) := by decide +kernel
theorem dX9_go_283 : decode cX9_go 283 = .ok (.bipush 10, 2) := by decide +kernel
theorem dX9_go_285 : decode cX9_go 285 = .ok (.aload_n 0, 1) := by decide +kernel
theorem dX9_go_286 : decode cX9_go 286 = .ok (.getfield 41, 3) := by decide +kernel
theorem dX9_go_289 : decode cX9_go 289 = .ok (.imul, 1) := by decide +kernel
theorem dX9_go_290 : decode cX9_go 290 = .ok (.iload 4, 2) := by decide +kernel
theorem dX9_go_292 : decode cX9_go 292 = .ok (.iadd, 1) := by decide +kernel
theorem dX9_go_293 : decode cX9_go 293 = .ok (.bipush 48, 2) := by decide +kernel
theorem dX9_go_295 : decode cX9_go 295 = .ok (.isub, 1) := by decide +kernel
theorem dX9_go_296 : decode cX9_go 296 = .ok (.putfield 41, 3) := by decide +kernel
theorem dX9_go_299 : decode cX9_go 299 = .ok (.aload_n 0, 1) := by decide +kernel
theorem dX9_go_300 : decode cX9_go 300 = .ok (.dup, 1) := by decide +kernel
theorem dX9_go_301 : decode cX9_go 301 = .ok (.getfield 21, 3) := by decide +kernel
theorem dX9_go_304 : decode cX9_go 304 = .ok (.iconst 1, 1) := by decide +kernel
theorem dX9_go_305 : decode cX9_go 305 = .ok (.iadd, 1) := by decide +kernel
theorem dX9_go_306 : decode cX9_go 306 = .ok (.putfield 21, 3) := by decide +kernel
theorem dX9_go_309 : decode cX9_go 309 = .ok (.goto (-132), 3) := by decide +kernel
theorem dX9_go_312 : decode cX9_go 312 = .ok (.aload_n 0, 1) := by decide +kernel
theorem dX9_go_313 : decode cX9_go 313 = .ok (.iload_n 3, 1) := by decide +kernel
theorem dX9_go_314 : decode cX9_go 314 = .ok (.ifCond .eq 20, 3) := by decide +kernel
theorem dX9_go_317 : decode cX9_go 317 = .ok (.iload_n 2, 1) := by decide +kernel
theorem dX9_go_318 : decode cX9_go 318 = .ok (.ifCond .ne 20, 3) := by decide +kernel
theorem dX9_go_321 : decode cX9_go 321 = .ok (.aload_n 0, 1) := by decide +kernel
theorem dX9_go_322 : decode cX9_go 322 = .ok (.getfield 21, 3) := by decide +kernel
theorem dX9_go_325 : decode cX9_go 325 = .ok (.aload_n 0, 1) := by decide +kernel
theorem dX9_go_326 : decode cX9_go 326 = .ok (.getfield 24, 3) := by decide +kernel
theorem dX9_go_329 : decode cX9_go 329 = .ok (.isub, 1) := by decide +kernel
theorem dX9_go_330 : decode cX9_go 330 = .ok (.iconst 4, 1) := by decide +kernel
theorem dX9_go_331 : decode cX9_go 331 = .ok (.if_icmp .le 7, 3) := by decide +kernel
theorem dX9_go_334 : decode cX9_go 334 = .ok (.iconst 1, 1) := by decide +kernel
theorem dX9_go_335 : decode cX9_go 335 = .ok (.goto 12, 3) := by decide +kernel
theorem dX9_go_338 : decode cX9_go 338 = .ok (.iload_n 2, 1) := by decide +kernel
theorem dX9_go_339 : decode cX9_go 339 = .ok (.ifCond .eq 7, 3) := by decide +kernel
theorem dX9_go_342 : decode cX9_go 342 = .ok (.iconst 2, 1) := by decide +kernel
theorem dX9_go_343 : decode cX9_go 343 = .ok (.goto 4, 3) := by decide +kernel
theorem dX9_go_346 : decode cX9_go 346 = .ok (.iconst 3, 1) := by decide +kernel
theorem dX9_go_347 : decode cX9_go 347 = .ok (.putfield 27, 3) := by decide +kernel
theorem dX9_go_350 : decode cX9_go 350 = .ok (.return_, 1) := by decide +kernel
theorem dX9_three_0 : decode cX9_three 0 = .ok (.ldc2_w 48, 3) := by decide +kernel
theorem dX9_three_3 : decode cX9_three 3 = .ok (.ldc2_w 48, 3) := by decide +kernel
theorem dX9_three_6 : decode cX9_three 6 = .ok (.iload_n 0, 1) := by decide +kernel
theorem dX9_three_7 : decode cX9_three 7 = .ok (.i2l, 1) := by decide +kernel
theorem dX9_three_8 : decode cX9_three 8 = .ok (.ldc2_w 50, 3) := by decide +kernel
theorem dX9_three_11 : decode cX9_three 11 = .ok (.lsub, 1) := by decide +kernel
theorem dX9_three_12 : decode cX9_three 12 = .ok (.lmul, 1) := by decide +kernel
theorem dX9_three_13 : decode cX9_three 13 = .ok (.iload_n 1, 1) := by decide +kernel
theorem dX9_three_14 : decode cX9_three 14 = .ok (.i2l, 1) := by decide +kernel
theorem dX9_three_15 : decode cX9_three 15 = .ok (.ladd, 1) := by decide +kernel
theorem dX9_three_16 : decode cX9_three 16 = .ok (.ldc2_w 50, 3) := by decide +kernel
theorem dX9_three_19 : decode cX9_three 19 = .ok (.lsub, 1) := by decide +kernel
theorem dX9_three_20 : decode cX9_three 20 = .ok (.lmul, 1) := by decide +kernel
theorem dX9_three_21 : decode cX9_three 21 = .ok (.iload_n 2, 1) := by decide +kernel
theorem dX9_three_22 : decode cX9_three 22 = .ok (.i2l, 1) := by decide +kernel
theorem dX9_three_23 : decode cX9_three 23 = .ok (.ladd, 1) := by decide +kernel
theorem dX9_three_24 : decode cX9_three 24 = .ok (.ldc2_w 50, 3) := by decide +kernel
theorem dX9_three_27 : decode cX9_three 27 = .ok (.lsub, 1) := by decide +kernel
theorem dX9_three_28 : decode cX9_three 28 = .ok (.lreturn, 1) := by decide +kernel
set_option maxRecDepth 20000 in
theorem ggX9_six_X9_three : GoodIn wsX9_six wsX9_three := goodIn_r _ [5, 6, 7] (by decide +kernel) (by decide +kernel)
set_option maxRecDepth 20000 in
theorem gX9_six_X9_three : GoodIn wsX9_six (va_wsS RX9 54 yX9_three wsX9_three) := goodIn_app (goodIn_of _ (by decide +kernel)) ggX9_six_X9_three
theorem dX9_six_0 : decode cX9_six 0 = .ok (.ldc2_w 52, 3) := by decide +kernel
theorem dX9_six_3 : decode cX9_six 3 = .ok (.iload_n 0, 1) := by decide +kernel
theorem dX9_six_4 : decode cX9_six 4 = .ok (.iload_n 1, 1) := by decide +kernel
theorem dX9_six_5 : decode cX9_six 5 = .ok (.iload_n 2, 1) := by decide +kernel
theorem dX9_six_6 : decode cX9_six 6 = .ok (.invokestatic 54, 3) := by decide +kernel
theorem dX9_six_9 : decode cX9_six 9 = .ok (.lmul, 1) := by decide +kernel
theorem dX9_six_10 : decode cX9_six 10 = .ok (.iload_n 3, 1) := by decide +kernel
theorem dX9_six_11 : decode cX9_six 11 = .ok (.iload 4, 2) := by decide +kernel
theorem dX9_six_13 : decode cX9_six 13 = .ok (.iload 5, 2) := by decide +kernel
theorem dX9_six_15 : decode cX9_six 15 = .ok (.invokestatic 54, 3) := by decide +kernel
theorem dX9_six_18 : decode cX9_six 18 = .ok (.ladd, 1) := by decide +kernel
theorem dX9_six_19 : decode cX9_six 19 = .ok (.lreturn, 1) := by decide +kernel
theorem dX9_isWord_0 : decode cX9_isWord 0 = .ok (.aload_n 0, 1) := by decide +kernel
theorem dX9_isWord_1 : decode cX9_isWord 1 = .ok (.getfield 27, 3) := by decide +kernel
theorem dX9_isWord_4 : decode cX9_isWord 4 = .ok (.iconst 2, 1) := by decide +kernel
theorem dX9_isWord_5 : decode cX9_isWord 5 = .ok (.if_icmp .ne 16, 3) := by decide +kernel
theorem dX9_isWord_8 : decode cX9_isWord 8 = .ok (.aload_n 0, 1) := by decide +kernel
theorem dX9_isWord_9 : decode cX9_isWord 9 = .ok (.getfield 37, 3) := by decide +kernel
theorem dX9_isWord_12 : decode cX9_isWord 12 = .ok (.lload_n 1, 1) := by decide +kernel
theorem dX9_isWord_13 : decode cX9_isWord 13 = .ok (.lcmp, 1) := by decide +kernel
theorem dX9_isWord_14 : decode cX9_isWord 14 = .ok (.ifCond .ne 7, 3) := by decide +kernel
theorem dX9_isWord_17 : decode cX9_isWord 17 = .ok (.iconst 1, 1) := by decide +kernel
theorem dX9_isWord_18 : decode cX9_isWord 18 = .ok (.goto 4, 3) := by decide +kernel
theorem dX9_isWord_21 : decode cX9_isWord 21 = .ok (.iconst 0, 1) := by decide +kernel
theorem dX9_isWord_22 : decode cX9_isWord 22 = .ok (.ireturn, 1) := by decide +kernel
theorem dX9_bad_0 : decode cX9_bad 0 = .ok (.aload_n 0, 1) := by decide +kernel
theorem dX9_bad_1 : decode cX9_bad 1 = .ok (.aload_n 0, 1) := by decide +kernel
theorem dX9_bad_2 : decode cX9_bad 2 = .ok (.getfield 27, 3) := by decide +kernel
theorem dX9_bad_5 : decode cX9_bad 5 = .ok (.iconst 1, 1) := by decide +kernel
theorem dX9_bad_6 : decode cX9_bad 6 = .ok (.if_icmp .ne 7, 3) := by decide +kernel
theorem dX9_bad_9 : decode cX9_bad 9 = .ok (.iconst 1, 1) := by decide +kernel
theorem dX9_bad_10 : decode cX9_bad 10 = .ok (.goto 4, 3) := by decide +kernel
theorem dX9_bad_13 : decode cX9_bad 13 = .ok (.iload_n 1, 1) := by decide +kernel
theorem dX9_bad_14 : decode cX9_bad 14 = .ok (.putfield 58, 3) := by decide +kernel
theorem dX9_bad_17 : decode cX9_bad 17 = .ok (.aload_n 0, 1) := by decide +kernel
theorem dX9_bad_18 : decode cX9_bad 18 = .ok (.aload_n 0, 1) := by decide +kernel
theorem dX9_bad_19 : decode cX9_bad 19 = .ok (.getfield 24, 3) := by decide +kernel
theorem dX9_bad_22 : decode cX9_bad 22 = .ok (.putfield 61, 3) := by decide +kernel
theorem dX9_bad_25 : decode cX9_bad 25 = .ok (.iconst 0, 1) := by decide +kernel
theorem dX9_bad_26 : decode cX9_bad 26 = .ok (.ireturn, 1) := by decide +kernel
theorem dX9_init_0 : decode cX9_init 0 = .ok (.aload_n 0, 1) := by decide +kernel
theorem dX9_init_1 : decode cX9_init 1 = .ok (.invokespecial 64, 3) := by decide +kernel
theorem dX9_init_4 : decode cX9_init 4 = .ok (.aload_n 0, 1) := by decide +kernel
theorem dX9_init_5 : decode cX9_init 5 = .ok (.sipush 740, 3) := by decide +kernel
theorem dX9_init_8 : decode cX9_init 8 = .ok (.newarray .int, 2) := by decide +kernel
theorem dX9_init_10 : decode cX9_init 10 = .ok (.putfield 7, 3) := by decide +kernel
theorem dX9_init_13 : decode cX9_init 13 = .ok (.aload_n 0, 1) := by decide +kernel
theorem dX9_init_14 : decode cX9_init 14 = .ok (.sipush 1567, 3) := by decide +kernel
theorem dX9_init_17 : decode cX9_init 17 = .ok (.newarray .int, 2) := by decide +kernel
theorem dX9_init_19 : decode cX9_init 19 = .ok (.putfield 70, 3) := by decide +kernel
theorem dX9_init_22 : decode cX9_init 22 = .ok (.aload_n 0, 1) := by decide +kernel
theorem dX9_init_23 : decode cX9_init 23 = .ok (.sipush 1567, 3) := by decide +kernel
theorem dX9_init_26 : decode cX9_init 26 = .ok (.newarray .int, 2) := by decide +kernel
theorem dX9_init_28 : decode cX9_init 28 = .ok (.putfield 73, 3) := by decide +kernel
theorem dX9_init_31 : decode cX9_init 31 = .ok (.aload_n 0, 1) := by decide +kernel
theorem dX9_init_32 : decode cX9_init 32 = .ok (.sipush 15670, 3) := by decide +kernel
theorem dX9_init_35 : decode cX9_init 35 = .ok (.newarray .int, 2) := by decide +kernel
theorem dX9_init_37 : decode cX9_init 37 = .ok (.putfield 76, 3) := by decide +kernel
theorem dX9_init_40 : decode cX9_init 40 = .ok (.aload_n 0, 1) := by decide +kernel
theorem dX9_init_41 : decode cX9_init 41 = .ok (.getfield 70, 3) := by decide +kernel
theorem dX9_init_44 : decode cX9_init 44 = .ok (.iconst 2, 1) := by decide +kernel
theorem dX9_init_45 : decode cX9_init 45 = .ok (.iconst 1, 1) := by decide +kernel
theorem dX9_init_46 : decode cX9_init 46 = .ok (.iastore, 1) := by decide +kernel
theorem dX9_init_47 : decode cX9_init 47 = .ok (.return_, 1) := by decide +kernel
set_option maxRecDepth 20000 in
theorem ggX9_told_X9_bad : GoodIn wsX9_told wsX9_bad := goodIn_r _ [8, 1, 9, 10, 11, 35, 36, 37, 38, 39, 40, 41, 42, 43, 44, 45, 46, 47, 48, 49] (by decide +kernel) (by decide +kernel)
set_option maxRecDepth 20000 in
theorem gX9_told_X9_bad : GoodIn wsX9_told (wsV RX9 79 RX9 yX9_bad wsX9_bad) := goodIn_app (goodIn_of _ (by decide +kernel)) ggX9_told_X9_bad
set_option maxRecDepth 20000 in
theorem ggX9_told_X9_isIn : GoodIn wsX9_told wsX9_isIn := goodIn_r _ [14] (by decide +kernel) (by decide +kernel)
set_option maxRecDepth 20000 in
theorem gX9_told_X9_isIn : GoodIn wsX9_told (va_wsS RX9 82 yX9_isIn wsX9_isIn) := goodIn_app (goodIn_of _ (by decide +kernel)) ggX9_told_X9_isIn
set_option maxRecDepth 20000 in
theorem ggX9_told_X9_go : GoodIn wsX9_told wsX9_go := goodIn_r _ [18, 19, 20, 21, 10, 1, 22, 2, 23, 24, 25, 26, 7, 27, 28, 29, 30, 31, 32, 33, 34, 35, 36, 37, 38, 39, 40, 41, 42, 43, 44, 45, 46, 47, 48, 49] (by decide +kernel) (by decide +kernel)
set_option maxRecDepth 20000 in
theorem gX9_told_X9_go : GoodIn wsX9_told (wsV RX9 86 RX9 yX9_go wsX9_go) := goodIn_app (goodIn_of _ (by decide +kernel)) ggX9_told_X9_go
theorem dX9_told_0 : decode cX9_told 0 = .ok (.aload_n 0, 1) := by decide +kernel
theorem dX9_told_1 : decode cX9_told 1 = .ok (.getfield 27, 3) := by decide +kernel
theorem dX9_told_4 : decode cX9_told 4 = .ok (.iconst 3, 1) := by decide +kernel
theorem dX9_told_5 : decode cX9_told 5 = .ok (.if_icmp .eq 9, 3) := by decide +kernel
theorem dX9_told_8 : decode cX9_told 8 = .ok (.aload_n 0, 1) := by decide +kernel
theorem dX9_told_9 : decode cX9_told 9 = .ok (.iconst 1, 1) := by decide +kernel
theorem dX9_told_10 : decode cX9_told 10 = .ok (.invokevirtual 79, 3) := by decide +kernel
theorem dX9_told_13 : decode cX9_told 13 = .ok (.ireturn, 1) := by decide +kernel
theorem dX9_told_14 : decode cX9_told 14 = .ok (.aload_n 0, 1) := by decide +kernel
theorem dX9_told_15 : decode cX9_told 15 = .ok (.getfield 41, 3) := by decide +kernel
theorem dX9_told_18 : decode cX9_told 18 = .ok (.iload_n 2, 1) := by decide +kernel
theorem dX9_told_19 : decode cX9_told 19 = .ok (.iload_n 3, 1) := by decide +kernel
theorem dX9_told_20 : decode cX9_told 20 = .ok (.invokestatic 82, 3) := by decide +kernel
theorem dX9_told_23 : decode cX9_told 23 = .ok (.ifCond .ne 9, 3) := by decide +kernel
theorem dX9_told_26 : decode cX9_told 26 = .ok (.aload_n 0, 1) := by decide +kernel
theorem dX9_told_27 : decode cX9_told 27 = .ok (.iconst 2, 1) := by decide +kernel
theorem dX9_told_28 : decode cX9_told 28 = .ok (.invokevirtual 79, 3) := by decide +kernel
theorem dX9_told_31 : decode cX9_told 31 = .ok (.ireturn, 1) := by decide +kernel
theorem dX9_told_32 : decode cX9_told 32 = .ok (.aload_n 0, 1) := by decide +kernel
theorem dX9_told_33 : decode cX9_told 33 = .ok (.getfield 73, 3) := by decide +kernel
theorem dX9_told_36 : decode cX9_told 36 = .ok (.iload_n 1, 1) := by decide +kernel
theorem dX9_told_37 : decode cX9_told 37 = .ok (.aload_n 0, 1) := by decide +kernel
theorem dX9_told_38 : decode cX9_told 38 = .ok (.getfield 41, 3) := by decide +kernel
theorem dX9_told_41 : decode cX9_told 41 = .ok (.iastore, 1) := by decide +kernel
theorem dX9_told_42 : decode cX9_told 42 = .ok (.aload_n 0, 1) := by decide +kernel
theorem dX9_told_43 : decode cX9_told 43 = .ok (.invokevirtual 86, 3) := by decide +kernel
theorem dX9_told_46 : decode cX9_told 46 = .ok (.iconst 1, 1) := by decide +kernel
theorem dX9_told_47 : decode cX9_told 47 = .ok (.ireturn, 1) := by decide +kernel
set_option maxRecDepth 20000 in
theorem ggX9_readBank_X9_three : GoodIn wsX9_readBank wsX9_three := goodIn_r _ [6, 1, 7] (by decide +kernel) (by decide +kernel)
set_option maxRecDepth 20000 in
theorem gX9_readBank_X9_three : GoodIn wsX9_readBank (va_wsS RX9 54 yX9_three wsX9_three) := goodIn_app (goodIn_of _ (by decide +kernel)) ggX9_readBank_X9_three
set_option maxRecDepth 20000 in
theorem ggX9_readBank_X9_isWord : GoodIn wsX9_readBank wsX9_isWord := goodIn_r _ [11, 12, 13, 47, 48, 49, 50, 51, 52, 53, 54, 55, 56, 57, 58, 59, 60, 61] (by decide +kernel) (by decide +kernel)
set_option maxRecDepth 20000 in
theorem gX9_readBank_X9_isWord : GoodIn wsX9_readBank (wsV RX9 91 RX9 yX9_isWord wsX9_isWord) := goodIn_app (goodIn_of _ (by decide +kernel)) ggX9_readBank_X9_isWord
set_option maxRecDepth 20000 in
theorem ggX9_readBank_X9_bad : GoodIn wsX9_readBank wsX9_bad := goodIn_r _ [17, 12, 18, 19, 20, 47, 48, 49, 50, 51, 52, 53, 54, 55, 56, 57, 58, 59, 60, 61] (by decide +kernel) (by decide +kernel)
set_option maxRecDepth 20000 in
theorem gX9_readBank_X9_bad : GoodIn wsX9_readBank (wsV RX9 79 RX9 yX9_bad wsX9_bad) := goodIn_app (goodIn_of _ (by decide +kernel)) ggX9_readBank_X9_bad
set_option maxRecDepth 20000 in
theorem ggX9_readBank_X9_go : GoodIn wsX9_readBank wsX9_go := goodIn_r _ [24, 25, 26, 27, 19, 12, 13, 28, 1, 7, 29, 30, 5, 31, 32, 33, 34, 35, 36, 37, 38, 47, 48, 49, 50, 51, 52, 53, 54, 55, 56, 57, 58, 59, 60, 61] (by decide +kernel) (by decide +kernel)
set_option maxRecDepth 20000 in
theorem gX9_readBank_X9_go : GoodIn wsX9_readBank (wsV RX9 86 RX9 yX9_go wsX9_go) := goodIn_app (goodIn_of _ (by decide +kernel)) ggX9_readBank_X9_go
set_option maxRecDepth 20000 in
theorem ggX9_readBank_X9_told : GoodIn wsX9_readBank wsX9_told := goodIn_r _ [42, 12, 28, 43, 14, 15, 16, 5, 17, 18, 19, 20, 44, 45, 46, 21, 22, 23, 24, 25, 26, 27, 13, 1, 7, 29, 30, 31, 32, 33, 34, 35, 36, 37, 38, 47, 48, 49, 50, 51, 52, 53, 54, 55, 56, 57, 58, 59, 60, 61] (by decide +kernel) (by decide +kernel)
set_option maxRecDepth 20000 in
theorem gX9_readBank_X9_told : GoodIn wsX9_readBank (wsV RX9 95 RX9 yX9_told wsX9_told) := goodIn_app (goodIn_of _ (by decide +kernel)) ggX9_readBank_X9_told
theorem dX9_readBank_0 : decode cX9_readBank 0 = .ok (.aload_n 0, 1) := by decide +kernel
theorem dX9_readBank_1 : decode cX9_readBank 1 = .ok (.ldc2_w 48, 3) := by decide +kernel
theorem dX9_readBank_4 : decode cX9_readBank 4 = .ok (.bipush 98, 2) := by decide +kernel
theorem dX9_readBank_6 : decode cX9_readBank 6 = .ok (.bipush 97, 2) := by decide +kernel
theorem dX9_readBank_8 : decode cX9_readBank 8 = .ok (.bipush 110, 2) := by decide +kernel
theorem dX9_readBank_10 : decode cX9_readBank 10 = .ok (.invokestatic 54, 3) := by decide +kernel
theorem dX9_readBank_13 : decode cX9_readBank 13 = .ok (.lmul, 1) := by decide +kernel
theorem dX9_readBank_14 : decode cX9_readBank 14 = .ok (.ldc2_w 89, 3) := by decide +kernel
theorem dX9_readBank_17 : decode cX9_readBank 17 = .ok (.ladd, 1) := by decide +kernel
theorem dX9_readBank_18 : decode cX9_readBank 18 = .ok (.invokevirtual 91, 3) := by decide +kernel
theorem dX9_readBank_21 : decode cX9_readBank 21 = .ok (.ifCond .ne 9, 3) := by decide +kernel
theorem dX9_readBank_24 : decode cX9_readBank 24 = .ok (.aload_n 0, 1) := by decide +kernel
theorem dX9_readBank_25 : decode cX9_readBank 25 = .ok (.iconst 1, 1) := by decide +kernel
theorem dX9_readBank_26 : decode cX9_readBank 26 = .ok (.invokevirtual 79, 3) := by decide +kernel
theorem dX9_readBank_29 : decode cX9_readBank 29 = .ok (.ireturn, 1) := by decide +kernel
theorem dX9_readBank_30 : decode cX9_readBank 30 = .ok (.aload_n 0, 1) := by decide +kernel
theorem dX9_readBank_31 : decode cX9_readBank 31 = .ok (.invokevirtual 86, 3) := by decide +kernel
theorem dX9_readBank_34 : decode cX9_readBank 34 = .ok (.aload_n 0, 1) := by decide +kernel
theorem dX9_readBank_35 : decode cX9_readBank 35 = .ok (.iconst 0, 1) := by decide +kernel
theorem dX9_readBank_36 : decode cX9_readBank 36 = .ok (.iconst 0, 1) := by decide +kernel
theorem dX9_readBank_37 : decode cX9_readBank 37 = .ok (.sipush 9999, 3) := by decide +kernel
theorem dX9_readBank_40 : decode cX9_readBank 40 = .ok (.invokevirtual 95, 3) := by decide +kernel
theorem dX9_readBank_43 : decode cX9_readBank 43 = .ok (.ifCond .eq 42, 3) := by decide +kernel
theorem dX9_readBank_46 : decode cX9_readBank 46 = .ok (.aload_n 0, 1) := by decide +kernel
theorem dX9_readBank_47 : decode cX9_readBank 47 = .ok (.iconst 1, 1) := by decide +kernel
theorem dX9_readBank_48 : decode cX9_readBank 48 = .ok (.iconst 0, 1) := by decide +kernel
theorem dX9_readBank_49 : decode cX9_readBank 49 = .ok (.sipush 9999, 3) := by decide +kernel
theorem dX9_readBank_52 : decode cX9_readBank 52 = .ok (.invokevirtual 95, 3) := by decide +kernel
theorem dX9_readBank_55 : decode cX9_readBank 55 = .ok (.ifCond .eq 30, 3) := by decide +kernel
theorem dX9_readBank_58 : decode cX9_readBank 58 = .ok (.aload_n 0, 1) := by decide +kernel
theorem dX9_readBank_59 : decode cX9_readBank 59 = .ok (.iconst 2, 1) := by decide +kernel
theorem dX9_readBank_60 : decode cX9_readBank 60 = .ok (.iconst 1, 1) := by decide +kernel
theorem dX9_readBank_61 : decode cX9_readBank 61 = .ok (.bipush 60, 2) := by decide +kernel
theorem dX9_readBank_63 : decode cX9_readBank 63 = .ok (.invokevirtual 95, 3) := by decide +kernel
theorem dX9_readBank_66 : decode cX9_readBank 66 = .ok (.ifCond .eq 19, 3) := by decide +kernel
theorem dX9_readBank_69 : decode cX9_readBank 69 = .ok (.aload_n 0, 1) := by decide +kernel
theorem dX9_readBank_70 : decode cX9_readBank 70 = .ok (.iconst 3, 1) := by decide +kernel
theorem dX9_readBank_71 : decode cX9_readBank 71 = .ok (.iconst 0, 1) := by decide +kernel
theorem dX9_readBank_72 : decode cX9_readBank 72 = .ok (.sipush 9999, 3) := by decide +kernel
theorem dX9_readBank_75 : decode cX9_readBank 75 = .ok (.invokevirtual 95, 3) := by decide +kernel
theorem dX9_readBank_78 : decode cX9_readBank 78 = .ok (.ifCond .eq 7, 3) := by decide +kernel
theorem dX9_readBank_81 : decode cX9_readBank 81 = .ok (.iconst 1, 1) := by decide +kernel
theorem dX9_readBank_82 : decode cX9_readBank 82 = .ok (.goto 4, 3) := by decide +kernel
theorem dX9_readBank_85 : decode cX9_readBank 85 = .ok (.iconst 0, 1) := by decide +kernel
theorem dX9_readBank_86 : decode cX9_readBank 86 = .ok (.ireturn, 1) := by decide +kernel
set_option maxRecDepth 20000 in
theorem ggX9_readSeason_X9_bad : GoodIn wsX9_readSeason wsX9_bad := goodIn_r _ [6, 7, 8, 9, 10, 39, 40, 41, 42, 43, 44, 45, 46, 47, 48, 49, 50, 51, 52, 53] (by decide +kernel) (by decide +kernel)
set_option maxRecDepth 20000 in
theorem gX9_readSeason_X9_bad : GoodIn wsX9_readSeason (wsV RX9 79 RX9 yX9_bad wsX9_bad) := goodIn_app (goodIn_of _ (by decide +kernel)) ggX9_readSeason_X9_bad
set_option maxRecDepth 20000 in
theorem ggX9_readSeason_X9_go : GoodIn wsX9_readSeason wsX9_go := goodIn_r _ [14, 15, 16, 17, 9, 7, 18, 19, 20, 21, 22, 23, 5, 24, 25, 26, 27, 28, 29, 30, 31, 39, 40, 41, 42, 43, 44, 45, 46, 47, 48, 49, 50, 51, 52, 53] (by decide +kernel) (by decide +kernel)
set_option maxRecDepth 20000 in
theorem gX9_readSeason_X9_go : GoodIn wsX9_readSeason (wsV RX9 86 RX9 yX9_go wsX9_go) := goodIn_app (goodIn_of _ (by decide +kernel)) ggX9_readSeason_X9_go
set_option maxRecDepth 20000 in
theorem ggX9_readSeason_X9_told : GoodIn wsX9_readSeason wsX9_told := goodIn_r _ [35, 7, 19, 1, 2, 3, 4, 5, 6, 8, 9, 10, 36, 37, 38, 11, 12, 13, 14, 15, 16, 17, 18, 20, 21, 22, 23, 24, 25, 26, 27, 28, 29, 30, 31, 39, 40, 41, 42, 43, 44, 45, 46, 47, 48, 49, 50, 51, 52, 53] (by decide +kernel) (by decide +kernel)
set_option maxRecDepth 20000 in
theorem gX9_readSeason_X9_told : GoodIn wsX9_readSeason (wsV RX9 95 RX9 yX9_told wsX9_told) := goodIn_app (goodIn_of _ (by decide +kernel)) ggX9_readSeason_X9_told
theorem dX9_readSeason_0 : decode cX9_readSeason 0 = .ok (.aload_n 0, 1) := by decide +kernel
theorem dX9_readSeason_1 : decode cX9_readSeason 1 = .ok (.getfield 73, 3) := by decide +kernel
theorem dX9_readSeason_4 : decode cX9_readSeason 4 = .ok (.iconst 4, 1) := by decide +kernel
theorem dX9_readSeason_5 : decode cX9_readSeason 5 = .ok (.iaload, 1) := by decide +kernel
theorem dX9_readSeason_6 : decode cX9_readSeason 6 = .ok (.iconst 5, 1) := by decide +kernel
theorem dX9_readSeason_7 : decode cX9_readSeason 7 = .ok (.if_icmp .ne 9, 3) := by decide +kernel
theorem dX9_readSeason_10 : decode cX9_readSeason 10 = .ok (.aload_n 0, 1) := by decide +kernel
theorem dX9_readSeason_11 : decode cX9_readSeason 11 = .ok (.iconst 3, 1) := by decide +kernel
theorem dX9_readSeason_12 : decode cX9_readSeason 12 = .ok (.invokevirtual 79, 3) := by decide +kernel
theorem dX9_readSeason_15 : decode cX9_readSeason 15 = .ok (.ireturn, 1) := by decide +kernel
theorem dX9_readSeason_16 : decode cX9_readSeason 16 = .ok (.aload_n 0, 1) := by decide +kernel
theorem dX9_readSeason_17 : decode cX9_readSeason 17 = .ok (.invokevirtual 86, 3) := by decide +kernel
theorem dX9_readSeason_20 : decode cX9_readSeason 20 = .ok (.iconst 5, 1) := by decide +kernel
theorem dX9_readSeason_21 : decode cX9_readSeason 21 = .ok (.bipush 9, 2) := by decide +kernel
theorem dX9_readSeason_23 : decode cX9_readSeason 23 = .ok (.aload_n 0, 1) := by decide +kernel
theorem dX9_readSeason_24 : decode cX9_readSeason 24 = .ok (.getfield 73, 3) := by decide +kernel
theorem dX9_readSeason_27 : decode cX9_readSeason 27 = .ok (.iconst 4, 1) := by decide +kernel
theorem dX9_readSeason_28 : decode cX9_readSeason 28 = .ok (.iaload, 1) := by decide +kernel
theorem dX9_readSeason_29 : decode cX9_readSeason 29 = .ok (.imul, 1) := by decide +kernel
theorem dX9_readSeason_30 : decode cX9_readSeason 30 = .ok (.iadd, 1) := by decide +kernel
theorem dX9_readSeason_31 : decode cX9_readSeason 31 = .ok (.istore_n 1, 1) := by decide +kernel
theorem dX9_readSeason_32 : decode cX9_readSeason 32 = .ok (.aload_n 0, 1) := by decide +kernel
theorem dX9_readSeason_33 : decode cX9_readSeason 33 = .ok (.iload_n 1, 1) := by decide +kernel
theorem dX9_readSeason_34 : decode cX9_readSeason 34 = .ok (.iconst 0, 1) := by decide +kernel
theorem dX9_readSeason_35 : decode cX9_readSeason 35 = .ok (.sipush 363, 3) := by decide +kernel
theorem dX9_readSeason_38 : decode cX9_readSeason 38 = .ok (.invokevirtual 95, 3) := by decide +kernel
theorem dX9_readSeason_41 : decode cX9_readSeason 41 = .ok (.ifCond .eq 22, 3) := by decide +kernel
theorem dX9_readSeason_44 : decode cX9_readSeason 44 = .ok (.aload_n 0, 1) := by decide +kernel
theorem dX9_readSeason_45 : decode cX9_readSeason 45 = .ok (.iload_n 1, 1) := by decide +kernel
theorem dX9_readSeason_46 : decode cX9_readSeason 46 = .ok (.iconst 1, 1) := by decide +kernel
theorem dX9_readSeason_47 : decode cX9_readSeason 47 = .ok (.iadd, 1) := by decide +kernel
theorem dX9_readSeason_48 : decode cX9_readSeason 48 = .ok (.aload_n 0, 1) := by decide +kernel
theorem dX9_readSeason_49 : decode cX9_readSeason 49 = .ok (.getfield 73, 3) := by decide +kernel
theorem dX9_readSeason_52 : decode cX9_readSeason 52 = .ok (.iload_n 1, 1) := by decide +kernel
theorem dX9_readSeason_53 : decode cX9_readSeason 53 = .ok (.iaload, 1) := by decide +kernel
theorem dX9_readSeason_54 : decode cX9_readSeason 54 = .ok (.sipush 363, 3) := by decide +kernel
theorem dX9_readSeason_57 : decode cX9_readSeason 57 = .ok (.invokevirtual 95, 3) := by decide +kernel
theorem dX9_readSeason_60 : decode cX9_readSeason 60 = .ok (.ifCond .ne 5, 3) := by decide +kernel
theorem dX9_readSeason_63 : decode cX9_readSeason 63 = .ok (.iconst 0, 1) := by decide +kernel
theorem dX9_readSeason_64 : decode cX9_readSeason 64 = .ok (.ireturn, 1) := by decide +kernel
theorem dX9_readSeason_65 : decode cX9_readSeason 65 = .ok (.iconst 2, 1) := by decide +kernel
theorem dX9_readSeason_66 : decode cX9_readSeason 66 = .ok (.istore_n 2, 1) := by decide +kernel
theorem dX9_readSeason_67 : decode cX9_readSeason 67 = .ok (.iload_n 2, 1) := by decide +kernel
theorem dX9_readSeason_68 : decode cX9_readSeason 68 = .ok (.bipush 9, 2) := by decide +kernel
theorem dX9_readSeason_70 : decode cX9_readSeason 70 = .ok (.if_icmp .ge 24, 3) := by decide +kernel
theorem dX9_readSeason_73 : decode cX9_readSeason 73 = .ok (.aload_n 0, 1) := by decide +kernel
theorem dX9_readSeason_74 : decode cX9_readSeason 74 = .ok (.iload_n 1, 1) := by decide +kernel
theorem dX9_readSeason_75 : decode cX9_readSeason 75 = .ok (.iload_n 2, 1) := by decide +kernel
theorem dX9_readSeason_76 : decode cX9_readSeason 76 = .ok (.iadd, 1) := by decide +kernel
theorem dX9_readSeason_77 : decode cX9_readSeason 77 = .ok (.iconst 0, 1) := by decide +kernel
theorem dX9_readSeason_78 : decode cX9_readSeason 78 = .ok (.bipush 96, 2) := by decide +kernel
theorem dX9_readSeason_80 : decode cX9_readSeason 80 = .ok (.invokevirtual 95, 3) := by decide +kernel
theorem dX9_readSeason_83 : decode cX9_readSeason 83 = .ok (.ifCond .ne 5, 3) := by decide +kernel
theorem dX9_readSeason_86 : decode cX9_readSeason 86 = .ok (.iconst 0, 1) := by decide +kernel
theorem dX9_readSeason_87 : decode cX9_readSeason 87 = .ok (.ireturn, 1) := by decide +kernel
theorem dX9_readSeason_88 : decode cX9_readSeason 88 = .ok (.iinc 2 1, 3) := by decide +kernel
theorem dX9_readSeason_91 : decode cX9_readSeason 91 = .ok (.goto (-24), 3) := by decide +kernel
theorem dX9_readSeason_94 : decode cX9_readSeason 94 = .ok (.aload_n 0, 1) := by decide +kernel
theorem dX9_readSeason_95 : decode cX9_readSeason 95 = .ok (.getfield 73, 3) := by decide +kernel
theorem dX9_readSeason_98 : decode cX9_readSeason 98 = .ok (.iconst 4, 1) := by decide +kernel
theorem dX9_readSeason_99 : decode cX9_readSeason 99 = .ok (.dup2, 1) := by decide +kernel
theorem dX9_readSeason_100 : decode cX9_readSeason 100 = .ok (.iaload, 1) := by decide +kernel
theorem dX9_readSeason_101 : decode cX9_readSeason 101 = .ok (.iconst 1, 1) := by decide +kernel
theorem dX9_readSeason_102 : decode cX9_readSeason 102 = .ok (.iadd, 1) := by decide +kernel
theorem dX9_readSeason_103 : decode cX9_readSeason 103 = .ok (.iastore, 1) := by decide +kernel
theorem dX9_readSeason_104 : decode cX9_readSeason 104 = .ok (.iconst 1, 1) := by decide +kernel
theorem dX9_readSeason_105 : decode cX9_readSeason 105 = .ok (.ireturn, 1) := by decide +kernel
set_option maxRecDepth 20000 in
theorem ggX9_readNotice_X9_bad : GoodIn wsX9_readNotice wsX9_bad := goodIn_r _ [6, 7, 8, 9, 10, 39, 40, 41, 42, 43, 44, 45, 46, 47, 48, 49, 50, 51, 52, 53] (by decide +kernel) (by decide +kernel)
set_option maxRecDepth 20000 in
theorem gX9_readNotice_X9_bad : GoodIn wsX9_readNotice (wsV RX9 79 RX9 yX9_bad wsX9_bad) := goodIn_app (goodIn_of _ (by decide +kernel)) ggX9_readNotice_X9_bad
set_option maxRecDepth 20000 in
theorem ggX9_readNotice_X9_go : GoodIn wsX9_readNotice wsX9_go := goodIn_r _ [14, 15, 16, 17, 9, 7, 18, 19, 20, 21, 22, 23, 5, 24, 25, 26, 27, 28, 29, 30, 31, 39, 40, 41, 42, 43, 44, 45, 46, 47, 48, 49, 50, 51, 52, 53] (by decide +kernel) (by decide +kernel)
set_option maxRecDepth 20000 in
theorem gX9_readNotice_X9_go : GoodIn wsX9_readNotice (wsV RX9 86 RX9 yX9_go wsX9_go) := goodIn_app (goodIn_of _ (by decide +kernel)) ggX9_readNotice_X9_go
set_option maxRecDepth 20000 in
theorem ggX9_readNotice_X9_told : GoodIn wsX9_readNotice wsX9_told := goodIn_r _ [35, 7, 19, 1, 2, 3, 4, 5, 6, 8, 9, 10, 36, 37, 38, 11, 12, 13, 14, 15, 16, 17, 18, 20, 21, 22, 23, 24, 25, 26, 27, 28, 29, 30, 31, 39, 40, 41, 42, 43, 44, 45, 46, 47, 48, 49, 50, 51, 52, 53] (by decide +kernel) (by decide +kernel)
set_option maxRecDepth 20000 in
theorem gX9_readNotice_X9_told : GoodIn wsX9_readNotice (wsV RX9 95 RX9 yX9_told wsX9_told) := goodIn_app (goodIn_of _ (by decide +kernel)) ggX9_readNotice_X9_told
theorem dX9_readNotice_0 : decode cX9_readNotice 0 = .ok (.aload_n 0, 1) := by decide +kernel
theorem dX9_readNotice_1 : decode cX9_readNotice 1 = .ok (.getfield 73, 3) := by decide +kernel
