theorem dX9_many_25 : decode cX9_many 25 = .ok (.iconst 1, 1) := by decide +kernel
theorem dX9_many_26 : decode cX9_many 26 = .ok (.if_icmp .ne 39, 3) := by decide +kernel
theorem dX9_many_29 : decode cX9_many 29 = .ok (.goto 33, 3) := by decide +kernel
theorem dX9_many_32 : decode cX9_many 32 = .ok (.iload_n 2, 1) := by decide +kernel
theorem dX9_many_33 : decode cX9_many 33 = .ok (.iconst 4, 1) := by decide +kernel
theorem dX9_many_34 : decode cX9_many 34 = .ok (.if_icmp .ne 17, 3) := by decide +kernel
theorem dX9_many_37 : decode cX9_many 37 = .ok (.aload_n 0, 1) := by decide +kernel
theorem dX9_many_38 : decode cX9_many 38 = .ok (.iload_n 1, 1) := by decide +kernel
theorem dX9_many_39 : decode cX9_many 39 = .ok (.iload 6, 2) := by decide +kernel
theorem dX9_many_41 : decode cX9_many 41 = .ok (.invokevirtual 136, 3) := by decide +kernel
theorem dX9_many_44 : decode cX9_many 44 = .ok (.iconst (-1), 1) := by decide +kernel
theorem dX9_many_45 : decode cX9_many 45 = .ok (.if_icmp .eq 20, 3) := by decide +kernel
theorem dX9_many_48 : decode cX9_many 48 = .ok (.goto 14, 3) := by decide +kernel
theorem dX9_many_51 : decode cX9_many 51 = .ok (.aload_n 0, 1) := by decide +kernel
theorem dX9_many_52 : decode cX9_many 52 = .ok (.iload_n 1, 1) := by decide +kernel
theorem dX9_many_53 : decode cX9_many 53 = .ok (.iload 6, 2) := by decide +kernel
theorem dX9_many_55 : decode cX9_many 55 = .ok (.invokevirtual 139, 3) := by decide +kernel
theorem dX9_many_58 : decode cX9_many 58 = .ok (.iload_n 2, 1) := by decide +kernel
theorem dX9_many_59 : decode cX9_many 59 = .ok (.if_icmp .ne 6, 3) := by decide +kernel
theorem dX9_many_62 : decode cX9_many 62 = .ok (.iinc 5 1, 3) := by decide +kernel
theorem dX9_many_65 : decode cX9_many 65 = .ok (.iinc 6 1, 3) := by decide +kernel
theorem dX9_many_68 : decode cX9_many 68 = .ok (.goto (-62), 3) := by decide +kernel
theorem dX9_many_71 : decode cX9_many 71 = .ok (.iload 5, 2) := by decide +kernel
theorem dX9_many_73 : decode cX9_many 73 = .ok (.ireturn, 1) := by decide +kernel
set_option maxRecDepth 20000 in
theorem ggX9_ofAll_X9_many : GoodIn wsX9_ofAll wsX9_many := goodIn_r _ [6, 7, 8, 9, 5, 10, 11, 12, 13, 14, 15, 1, 16, 17, 18, 19, 20, 21, 22, 23, 24, 25, 26, 27, 28, 29, 30, 31, 32, 33, 34, 35, 36, 37, 38] (by decide +kernel) (by decide +kernel)
set_option maxRecDepth 20000 in
theorem gX9_ofAll_X9_many : GoodIn wsX9_ofAll (wsV RX9 158 RX9 yX9_many wsX9_many) := goodIn_app (goodIn_of _ (by decide +kernel)) ggX9_ofAll_X9_many
theorem dX9_ofAll_0 : decode cX9_ofAll 0 = .ok (.iconst 0, 1) := by decide +kernel
theorem dX9_ofAll_1 : decode cX9_ofAll 1 = .ok (.istore_n 3, 1) := by decide +kernel
theorem dX9_ofAll_2 : decode cX9_ofAll 2 = .ok (.iconst 0, 1) := by decide +kernel
theorem dX9_ofAll_3 : decode cX9_ofAll 3 = .ok (.istore 4, 2) := by decide +kernel
theorem dX9_ofAll_5 : decode cX9_ofAll 5 = .ok (.iload 4, 2) := by decide +kernel
theorem dX9_ofAll_7 : decode cX9_ofAll 7 = .ok (.aload_n 0, 1) := by decide +kernel
theorem dX9_ofAll_8 : decode cX9_ofAll 8 = .ok (.getfield 70, 3) := by decide +kernel
theorem dX9_ofAll_11 : decode cX9_ofAll 11 = .ok (.bipush 57, 2) := by decide +kernel
theorem dX9_ofAll_13 : decode cX9_ofAll 13 = .ok (.iaload, 1) := by decide +kernel
theorem dX9_ofAll_14 : decode cX9_ofAll 14 = .ok (.if_icmp .ge 23, 3) := by decide +kernel
theorem dX9_ofAll_17 : decode cX9_ofAll 17 = .ok (.iload_n 3, 1) := by decide +kernel
theorem dX9_ofAll_18 : decode cX9_ofAll 18 = .ok (.aload_n 0, 1) := by decide +kernel
theorem dX9_ofAll_19 : decode cX9_ofAll 19 = .ok (.iload 4, 2) := by decide +kernel
theorem dX9_ofAll_21 : decode cX9_ofAll 21 = .ok (.iload_n 1, 1) := by decide +kernel
theorem dX9_ofAll_22 : decode cX9_ofAll 22 = .ok (.iload_n 2, 1) := by decide +kernel
theorem dX9_ofAll_23 : decode cX9_ofAll 23 = .ok (.sipush 364, 3) := by decide +kernel
theorem dX9_ofAll_26 : decode cX9_ofAll 26 = .ok (.invokevirtual 158, 3) := by decide +kernel
theorem dX9_ofAll_29 : decode cX9_ofAll 29 = .ok (.iadd, 1) := by decide +kernel
theorem dX9_ofAll_30 : decode cX9_ofAll 30 = .ok (.istore_n 3, 1) := by decide +kernel
theorem dX9_ofAll_31 : decode cX9_ofAll 31 = .ok (.iinc 4 1, 3) := by decide +kernel
theorem dX9_ofAll_34 : decode cX9_ofAll 34 = .ok (.goto (-29), 3) := by decide +kernel
theorem dX9_ofAll_37 : decode cX9_ofAll 37 = .ok (.iload_n 3, 1) := by decide +kernel
theorem dX9_ofAll_38 : decode cX9_ofAll 38 = .ok (.ireturn, 1) := by decide +kernel
set_option maxRecDepth 20000 in
theorem ggX9_coins_X9_its : GoodIn wsX9_coins wsX9_its := goodIn_r _ [6, 1, 7, 8, 9, 10, 11, 12, 13, 14, 15, 16, 17, 18, 19, 20, 21] (by decide +kernel) (by decide +kernel)
set_option maxRecDepth 20000 in
theorem gX9_coins_X9_its : GoodIn wsX9_coins (wsV RX9 128 RX9 yX9_its wsX9_its) := goodIn_app (goodIn_of _ (by decide +kernel)) ggX9_coins_X9_its
theorem dX9_coins_0 : decode cX9_coins 0 = .ok (.iconst 0, 1) := by decide +kernel
theorem dX9_coins_1 : decode cX9_coins 1 = .ok (.istore_n 1, 1) := by decide +kernel
theorem dX9_coins_2 : decode cX9_coins 2 = .ok (.iconst 0, 1) := by decide +kernel
theorem dX9_coins_3 : decode cX9_coins 3 = .ok (.istore_n 2, 1) := by decide +kernel
theorem dX9_coins_4 : decode cX9_coins 4 = .ok (.iload_n 2, 1) := by decide +kernel
theorem dX9_coins_5 : decode cX9_coins 5 = .ok (.aload_n 0, 1) := by decide +kernel
theorem dX9_coins_6 : decode cX9_coins 6 = .ok (.getfield 70, 3) := by decide +kernel
theorem dX9_coins_9 : decode cX9_coins 9 = .ok (.bipush 57, 2) := by decide +kernel
theorem dX9_coins_11 : decode cX9_coins 11 = .ok (.iaload, 1) := by decide +kernel
theorem dX9_coins_12 : decode cX9_coins 12 = .ok (.if_icmp .ge 42, 3) := by decide +kernel
theorem dX9_coins_15 : decode cX9_coins 15 = .ok (.iload_n 1, 1) := by decide +kernel
theorem dX9_coins_16 : decode cX9_coins 16 = .ok (.aload_n 0, 1) := by decide +kernel
theorem dX9_coins_17 : decode cX9_coins 17 = .ok (.iload_n 2, 1) := by decide +kernel
theorem dX9_coins_18 : decode cX9_coins 18 = .ok (.iconst 5, 1) := by decide +kernel
theorem dX9_coins_19 : decode cX9_coins 19 = .ok (.invokevirtual 128, 3) := by decide +kernel
theorem dX9_coins_22 : decode cX9_coins 22 = .ok (.aload_n 0, 1) := by decide +kernel
theorem dX9_coins_23 : decode cX9_coins 23 = .ok (.iload_n 2, 1) := by decide +kernel
theorem dX9_coins_24 : decode cX9_coins 24 = .ok (.bipush 6, 2) := by decide +kernel
theorem dX9_coins_26 : decode cX9_coins 26 = .ok (.invokevirtual 128, 3) := by decide +kernel
theorem dX9_coins_29 : decode cX9_coins 29 = .ok (.iadd, 1) := by decide +kernel
theorem dX9_coins_30 : decode cX9_coins 30 = .ok (.aload_n 0, 1) := by decide +kernel
theorem dX9_coins_31 : decode cX9_coins 31 = .ok (.iload_n 2, 1) := by decide +kernel
theorem dX9_coins_32 : decode cX9_coins 32 = .ok (.bipush 8, 2) := by decide +kernel
theorem dX9_coins_34 : decode cX9_coins 34 = .ok (.invokevirtual 128, 3) := by decide +kernel
theorem dX9_coins_37 : decode cX9_coins 37 = .ok (.iadd, 1) := by decide +kernel
theorem dX9_coins_38 : decode cX9_coins 38 = .ok (.aload_n 0, 1) := by decide +kernel
theorem dX9_coins_39 : decode cX9_coins 39 = .ok (.iload_n 2, 1) := by decide +kernel
theorem dX9_coins_40 : decode cX9_coins 40 = .ok (.bipush 7, 2) := by decide +kernel
theorem dX9_coins_42 : decode cX9_coins 42 = .ok (.invokevirtual 128, 3) := by decide +kernel
theorem dX9_coins_45 : decode cX9_coins 45 = .ok (.isub, 1) := by decide +kernel
theorem dX9_coins_46 : decode cX9_coins 46 = .ok (.iadd, 1) := by decide +kernel
theorem dX9_coins_47 : decode cX9_coins 47 = .ok (.istore_n 1, 1) := by decide +kernel
theorem dX9_coins_48 : decode cX9_coins 48 = .ok (.iinc 2 1, 3) := by decide +kernel
theorem dX9_coins_51 : decode cX9_coins 51 = .ok (.goto (-47), 3) := by decide +kernel
theorem dX9_coins_54 : decode cX9_coins 54 = .ok (.iload_n 1, 1) := by decide +kernel
theorem dX9_coins_55 : decode cX9_coins 55 = .ok (.ireturn, 1) := by decide +kernel
set_option maxRecDepth 20000 in
theorem ggX9_here_X9_isHere : GoodIn wsX9_here wsX9_isHere := goodIn_r _ [6, 7, 8, 9, 5, 10, 1, 11, 12, 13, 14, 15, 16, 17, 18, 19, 20, 21, 22, 23, 24, 25, 26, 27, 28, 29, 30, 31, 32] (by decide +kernel) (by decide +kernel)
set_option maxRecDepth 20000 in
theorem gX9_here_X9_isHere : GoodIn wsX9_here (wsV RX9 162 RX9 yX9_isHere wsX9_isHere) := goodIn_app (goodIn_of _ (by decide +kernel)) ggX9_here_X9_isHere
theorem dX9_here_0 : decode cX9_here 0 = .ok (.iconst 0, 1) := by decide +kernel
theorem dX9_here_1 : decode cX9_here 1 = .ok (.istore_n 1, 1) := by decide +kernel
theorem dX9_here_2 : decode cX9_here 2 = .ok (.iconst 0, 1) := by decide +kernel
theorem dX9_here_3 : decode cX9_here 3 = .ok (.istore_n 2, 1) := by decide +kernel
theorem dX9_here_4 : decode cX9_here 4 = .ok (.iload_n 2, 1) := by decide +kernel
theorem dX9_here_5 : decode cX9_here 5 = .ok (.aload_n 0, 1) := by decide +kernel
theorem dX9_here_6 : decode cX9_here 6 = .ok (.getfield 70, 3) := by decide +kernel
theorem dX9_here_9 : decode cX9_here 9 = .ok (.bipush 57, 2) := by decide +kernel
theorem dX9_here_11 : decode cX9_here 11 = .ok (.iaload, 1) := by decide +kernel
theorem dX9_here_12 : decode cX9_here 12 = .ok (.if_icmp .ge 20, 3) := by decide +kernel
theorem dX9_here_15 : decode cX9_here 15 = .ok (.aload_n 0, 1) := by decide +kernel
theorem dX9_here_16 : decode cX9_here 16 = .ok (.iload_n 2, 1) := by decide +kernel
theorem dX9_here_17 : decode cX9_here 17 = .ok (.invokevirtual 162, 3) := by decide +kernel
theorem dX9_here_20 : decode cX9_here 20 = .ok (.ifCond .eq 6, 3) := by decide +kernel
theorem dX9_here_23 : decode cX9_here 23 = .ok (.iinc 1 1, 3) := by decide +kernel
theorem dX9_here_26 : decode cX9_here 26 = .ok (.iinc 2 1, 3) := by decide +kernel
theorem dX9_here_29 : decode cX9_here 29 = .ok (.goto (-25), 3) := by decide +kernel
theorem dX9_here_32 : decode cX9_here 32 = .ok (.iload_n 1, 1) := by decide +kernel
theorem dX9_here_33 : decode cX9_here 33 = .ok (.ireturn, 1) := by decide +kernel
set_option maxRecDepth 20000 in
theorem ggX9_now_X9_today : GoodIn wsX9_now wsX9_today := goodIn_r _ [10, 2, 59, 60, 61, 62, 63, 64, 65, 66, 67, 68, 69, 70, 71, 72, 73] (by decide +kernel) (by decide +kernel)
set_option maxRecDepth 20000 in
theorem gX9_now_X9_today : GoodIn wsX9_now (wsV RX9 165 RX9 yX9_today wsX9_today) := goodIn_app (goodIn_of _ (by decide +kernel)) ggX9_now_X9_today
set_option maxRecDepth 20000 in
theorem ggX9_now_X9_here : GoodIn wsX9_now wsX9_here := goodIn_r _ [14, 2, 15, 16, 17, 9, 18, 19, 20, 21, 22, 23, 24, 25, 26, 27, 28, 29, 59, 60, 61, 62, 63, 64, 65, 66, 67, 68, 69, 70, 71, 72, 73] (by decide +kernel) (by decide +kernel)
set_option maxRecDepth 20000 in
theorem gX9_now_X9_here : GoodIn wsX9_now (wsV RX9 169 RX9 yX9_here wsX9_here) := goodIn_app (goodIn_of _ (by decide +kernel)) ggX9_now_X9_here
set_option maxRecDepth 20000 in
theorem ggX9_now_X9_ofAll : GoodIn wsX9_now wsX9_ofAll := goodIn_r _ [33, 2, 34, 35, 36, 9, 37, 38, 39, 40, 41, 42, 43, 44, 45, 46, 47, 48, 49, 50, 51, 52, 53, 54, 59, 60, 61, 62, 63, 64, 65, 66, 67, 68, 69, 70, 71, 72, 73] (by decide +kernel) (by decide +kernel)
set_option maxRecDepth 20000 in
theorem gX9_now_X9_ofAll : GoodIn wsX9_now (wsV RX9 172 RX9 yX9_ofAll wsX9_ofAll) := goodIn_app (goodIn_of _ (by decide +kernel)) ggX9_now_X9_ofAll
set_option maxRecDepth 20000 in
theorem ggX9_now_X9_coins : GoodIn wsX9_now wsX9_coins := goodIn_r _ [58, 2, 26, 27, 28, 9, 29, 59, 60, 61, 62, 63, 64, 65, 66, 67, 68, 69, 70, 71, 72, 73] (by decide +kernel) (by decide +kernel)
set_option maxRecDepth 20000 in
theorem gX9_now_X9_coins : GoodIn wsX9_now (wsV RX9 175 RX9 yX9_coins wsX9_coins) := goodIn_app (goodIn_of _ (by decide +kernel)) ggX9_now_X9_coins
theorem dX9_now_0 : decode cX9_now 0 = .ok (.aload_n 0, 1) := by decide +kernel
theorem dX9_now_1 : decode cX9_now 1 = .ok (.iconst 0, 1) := by decide +kernel
theorem dX9_now_2 : decode cX9_now 2 = .ok (.putfield 1, 3) := by decide +kernel
theorem dX9_now_5 : decode cX9_now 5 = .ok (.iload_n 1, 1) := by decide +kernel
theorem dX9_now_6 : decode cX9_now 6 = .ok (.tableswitch 118 0 9 #[54, 59, 67, 72, 79, 86, 96, 103, 108, 113], 54) := by decide +kernel
theorem dX9_now_60 : decode cX9_now 60 = .ok (.aload_n 0, 1) := by decide +kernel
theorem dX9_now_61 : decode cX9_now 61 = .ok (.invokevirtual 165, 3) := by decide +kernel
theorem dX9_now_64 : decode cX9_now 64 = .ok (.ireturn, 1) := by decide +kernel
theorem dX9_now_65 : decode cX9_now 65 = .ok (.aload_n 0, 1) := by decide +kernel
theorem dX9_now_66 : decode cX9_now 66 = .ok (.getfield 70, 3) := by decide +kernel
theorem dX9_now_69 : decode cX9_now 69 = .ok (.bipush 57, 2) := by decide +kernel
theorem dX9_now_71 : decode cX9_now 71 = .ok (.iaload, 1) := by decide +kernel
theorem dX9_now_72 : decode cX9_now 72 = .ok (.ireturn, 1) := by decide +kernel
theorem dX9_now_73 : decode cX9_now 73 = .ok (.aload_n 0, 1) := by decide +kernel
theorem dX9_now_74 : decode cX9_now 74 = .ok (.invokevirtual 169, 3) := by decide +kernel
theorem dX9_now_77 : decode cX9_now 77 = .ok (.ireturn, 1) := by decide +kernel
theorem dX9_now_78 : decode cX9_now 78 = .ok (.aload_n 0, 1) := by decide +kernel
theorem dX9_now_79 : decode cX9_now 79 = .ok (.getfield 70, 3) := by decide +kernel
theorem dX9_now_82 : decode cX9_now 82 = .ok (.iconst 4, 1) := by decide +kernel
theorem dX9_now_83 : decode cX9_now 83 = .ok (.iaload, 1) := by decide +kernel
theorem dX9_now_84 : decode cX9_now 84 = .ok (.ireturn, 1) := by decide +kernel
theorem dX9_now_85 : decode cX9_now 85 = .ok (.aload_n 0, 1) := by decide +kernel
theorem dX9_now_86 : decode cX9_now 86 = .ok (.iconst 4, 1) := by decide +kernel
theorem dX9_now_87 : decode cX9_now 87 = .ok (.iconst 0, 1) := by decide +kernel
theorem dX9_now_88 : decode cX9_now 88 = .ok (.invokevirtual 172, 3) := by decide +kernel
theorem dX9_now_91 : decode cX9_now 91 = .ok (.ireturn, 1) := by decide +kernel
theorem dX9_now_92 : decode cX9_now 92 = .ok (.aload_n 0, 1) := by decide +kernel
theorem dX9_now_93 : decode cX9_now 93 = .ok (.iconst 2, 1) := by decide +kernel
theorem dX9_now_94 : decode cX9_now 94 = .ok (.aload_n 0, 1) := by decide +kernel
theorem dX9_now_95 : decode cX9_now 95 = .ok (.invokevirtual 165, 3) := by decide +kernel
theorem dX9_now_98 : decode cX9_now 98 = .ok (.invokevirtual 172, 3) := by decide +kernel
theorem dX9_now_101 : decode cX9_now 101 = .ok (.ireturn, 1) := by decide +kernel
theorem dX9_now_102 : decode cX9_now 102 = .ok (.aload_n 0, 1) := by decide +kernel
theorem dX9_now_103 : decode cX9_now 103 = .ok (.iconst 3, 1) := by decide +kernel
theorem dX9_now_104 : decode cX9_now 104 = .ok (.iconst 0, 1) := by decide +kernel
theorem dX9_now_105 : decode cX9_now 105 = .ok (.invokevirtual 172, 3) := by decide +kernel
theorem dX9_now_108 : decode cX9_now 108 = .ok (.ireturn, 1) := by decide +kernel
theorem dX9_now_109 : decode cX9_now 109 = .ok (.aload_n 0, 1) := by decide +kernel
theorem dX9_now_110 : decode cX9_now 110 = .ok (.invokevirtual 175, 3) := by decide +kernel
theorem dX9_now_113 : decode cX9_now 113 = .ok (.ireturn, 1) := by decide +kernel
theorem dX9_now_114 : decode cX9_now 114 = .ok (.aload_n 0, 1) := by decide +kernel
theorem dX9_now_115 : decode cX9_now 115 = .ok (.getfield 122, 3) := by decide +kernel
theorem dX9_now_118 : decode cX9_now 118 = .ok (.ireturn, 1) := by decide +kernel
theorem dX9_now_119 : decode cX9_now 119 = .ok (.aload_n 0, 1) := by decide +kernel
theorem dX9_now_120 : decode cX9_now 120 = .ok (.getfield 11, 3) := by decide +kernel
theorem dX9_now_123 : decode cX9_now 123 = .ok (.ireturn, 1) := by decide +kernel
theorem dX9_now_124 : decode cX9_now 124 = .ok (.ldc 178, 2) := by decide +kernel
theorem dX9_now_126 : decode cX9_now 126 = .ok (.ireturn, 1) := by decide +kernel
set_option maxRecDepth 20000 in
theorem ggX9_workedTill_X9_today : GoodIn wsX9_workedTill wsX9_today := goodIn_r _ [5, 6, 15, 16, 17, 18, 19, 20, 21, 22, 23, 24, 25, 26, 27, 28, 29] (by decide +kernel) (by decide +kernel)
set_option maxRecDepth 20000 in
theorem gX9_workedTill_X9_today : GoodIn wsX9_workedTill (wsV RX9 165 RX9 yX9_today wsX9_today) := goodIn_app (goodIn_of _ (by decide +kernel)) ggX9_workedTill_X9_today
set_option maxRecDepth 20000 in
theorem ggX9_workedTill_X9_workedOf : GoodIn wsX9_workedTill wsX9_workedOf := goodIn_r _ [10, 11, 12, 13, 4, 14, 6, 15, 16, 17, 18, 19, 20, 21, 22, 23, 24, 25, 26, 27, 28, 29] (by decide +kernel) (by decide +kernel)
set_option maxRecDepth 20000 in
theorem gX9_workedTill_X9_workedOf : GoodIn wsX9_workedTill (wsV RX9 142 RX9 yX9_workedOf wsX9_workedOf) := goodIn_app (goodIn_of _ (by decide +kernel)) ggX9_workedTill_X9_workedOf
theorem dX9_workedTill_0 : decode cX9_workedTill 0 = .ok (.iconst 0, 1) := by decide +kernel
theorem dX9_workedTill_1 : decode cX9_workedTill 1 = .ok (.istore_n 2, 1) := by decide +kernel
theorem dX9_workedTill_2 : decode cX9_workedTill 2 = .ok (.iconst 0, 1) := by decide +kernel
theorem dX9_workedTill_3 : decode cX9_workedTill 3 = .ok (.istore_n 3, 1) := by decide +kernel
theorem dX9_workedTill_4 : decode cX9_workedTill 4 = .ok (.iload_n 3, 1) := by decide +kernel
theorem dX9_workedTill_5 : decode cX9_workedTill 5 = .ok (.aload_n 0, 1) := by decide +kernel
theorem dX9_workedTill_6 : decode cX9_workedTill 6 = .ok (.invokevirtual 165, 3) := by decide +kernel
theorem dX9_workedTill_9 : decode cX9_workedTill 9 = .ok (.if_icmp .ge 18, 3) := by decide +kernel
theorem dX9_workedTill_12 : decode cX9_workedTill 12 = .ok (.iload_n 2, 1) := by decide +kernel
theorem dX9_workedTill_13 : decode cX9_workedTill 13 = .ok (.aload_n 0, 1) := by decide +kernel
theorem dX9_workedTill_14 : decode cX9_workedTill 14 = .ok (.iload_n 1, 1) := by decide +kernel
theorem dX9_workedTill_15 : decode cX9_workedTill 15 = .ok (.iload_n 3, 1) := by decide +kernel
theorem dX9_workedTill_16 : decode cX9_workedTill 16 = .ok (.invokevirtual 142, 3) := by decide +kernel
theorem dX9_workedTill_19 : decode cX9_workedTill 19 = .ok (.iadd, 1) := by decide +kernel
theorem dX9_workedTill_20 : decode cX9_workedTill 20 = .ok (.istore_n 2, 1) := by decide +kernel
theorem dX9_workedTill_21 : decode cX9_workedTill 21 = .ok (.iinc 3 1, 3) := by decide +kernel
theorem dX9_workedTill_24 : decode cX9_workedTill 24 = .ok (.goto (-20), 3) := by decide +kernel
theorem dX9_workedTill_27 : decode cX9_workedTill 27 = .ok (.iload_n 2, 1) := by decide +kernel
theorem dX9_workedTill_28 : decode cX9_workedTill 28 = .ok (.ireturn, 1) := by decide +kernel
set_option maxRecDepth 20000 in
theorem ggX9_worker_X9_isWorker : GoodIn wsX9_worker wsX9_isWorker := goodIn_r _ [6, 7, 8, 9, 5, 10, 64, 65, 66, 67, 68, 69, 70, 71, 72, 73, 74, 75, 76, 77, 78] (by decide +kernel) (by decide +kernel)
set_option maxRecDepth 20000 in
theorem gX9_worker_X9_isWorker : GoodIn wsX9_worker (wsV RX9 125 RX9 yX9_isWorker wsX9_isWorker) := goodIn_app (goodIn_of _ (by decide +kernel)) ggX9_worker_X9_isWorker
set_option maxRecDepth 20000 in
theorem ggX9_worker_X9_refuse : GoodIn wsX9_worker wsX9_refuse := goodIn_r _ [14, 1, 64, 65, 66, 67, 68, 69, 70, 71, 72, 73, 74, 75, 76, 77, 78] (by decide +kernel) (by decide +kernel)
set_option maxRecDepth 20000 in
theorem gX9_worker_X9_refuse : GoodIn wsX9_worker (wsV RX9 179 RX9 yX9_refuse wsX9_refuse) := goodIn_app (goodIn_of _ (by decide +kernel)) ggX9_worker_X9_refuse
set_option maxRecDepth 20000 in
theorem ggX9_worker_X9_its : GoodIn wsX9_worker wsX9_its := goodIn_r _ [18, 7, 64, 65, 66, 67, 68, 69, 70, 71, 72, 73, 74, 75, 76, 77, 78] (by decide +kernel) (by decide +kernel)
set_option maxRecDepth 20000 in
theorem gX9_worker_X9_its : GoodIn wsX9_worker (wsV RX9 128 RX9 yX9_its wsX9_its) := goodIn_app (goodIn_of _ (by decide +kernel)) ggX9_worker_X9_its
set_option maxRecDepth 20000 in
theorem ggX9_worker_X9_leftOf : GoodIn wsX9_worker wsX9_leftOf := goodIn_r _ [22, 15, 16, 17, 5, 18, 7, 23, 24, 25, 26, 27, 28, 29, 30, 31, 32, 33, 34, 35, 36, 37, 38, 39, 40, 41, 42, 8, 9, 10, 64, 65, 66, 67, 68, 69, 70, 71, 72, 73, 74, 75, 76, 77, 78] (by decide +kernel) (by decide +kernel)
set_option maxRecDepth 20000 in
theorem gX9_worker_X9_leftOf : GoodIn wsX9_worker (wsV RX9 182 RX9 yX9_leftOf wsX9_leftOf) := goodIn_app (goodIn_of _ (by decide +kernel)) ggX9_worker_X9_leftOf
set_option maxRecDepth 20000 in
theorem ggX9_worker_X9_workedTill : GoodIn wsX9_worker wsX9_workedTill := goodIn_r _ [46, 47, 48, 49, 5, 50, 7, 51, 52, 53, 54, 31, 32, 33, 34, 64, 65, 66, 67, 68, 69, 70, 71, 72, 73, 74, 75, 76, 77, 78] (by decide +kernel) (by decide +kernel)
set_option maxRecDepth 20000 in
theorem gX9_worker_X9_workedTill : GoodIn wsX9_worker (wsV RX9 185 RX9 yX9_workedTill wsX9_workedTill) := goodIn_app (goodIn_of _ (by decide +kernel)) ggX9_worker_X9_workedTill
set_option maxRecDepth 20000 in
theorem ggX9_worker_X9_today : GoodIn wsX9_worker wsX9_today := goodIn_r _ [50, 7, 64, 65, 66, 67, 68, 69, 70, 71, 72, 73, 74, 75, 76, 77, 78] (by decide +kernel) (by decide +kernel)
set_option maxRecDepth 20000 in
theorem gX9_worker_X9_today : GoodIn wsX9_worker (wsV RX9 165 RX9 yX9_today wsX9_today) := goodIn_app (goodIn_of _ (by decide +kernel)) ggX9_worker_X9_today
set_option maxRecDepth 20000 in
theorem ggX9_worker_X9_many : GoodIn wsX9_worker wsX9_many := goodIn_r _ [58, 59, 60, 61, 5, 62, 63, 31, 32, 33, 34, 7, 39, 40, 41, 42, 27, 28, 29, 30, 64, 65, 66, 67, 68, 69, 70, 71, 72, 73, 74, 75, 76, 77, 78] (by decide +kernel) (by decide +kernel)
set_option maxRecDepth 20000 in
theorem gX9_worker_X9_many : GoodIn wsX9_worker (wsV RX9 158 RX9 yX9_many wsX9_many) := goodIn_app (goodIn_of _ (by decide +kernel)) ggX9_worker_X9_many
theorem dX9_worker_0 : decode cX9_worker 0 = .ok (.aload_n 0, 1) := by decide +kernel
theorem dX9_worker_1 : decode cX9_worker 1 = .ok (.iconst 0, 1) := by decide +kernel
theorem dX9_worker_2 : decode cX9_worker 2 = .ok (.putfield 1, 3) := by decide +kernel
theorem dX9_worker_5 : decode cX9_worker 5 = .ok (.aload_n 0, 1) := by decide +kernel
theorem dX9_worker_6 : decode cX9_worker 6 = .ok (.iload_n 1, 1) := by decide +kernel
theorem dX9_worker_7 : decode cX9_worker 7 = .ok (.invokevirtual 125, 3) := by decide +kernel
theorem dX9_worker_10 : decode cX9_worker 10 = .ok (.ifCond .ne 8, 3) := by decide +kernel
theorem dX9_worker_13 : decode cX9_worker 13 = .ok (.aload_n 0, 1) := by decide +kernel
theorem dX9_worker_14 : decode cX9_worker 14 = .ok (.invokevirtual 179, 3) := by decide +kernel
theorem dX9_worker_17 : decode cX9_worker 17 = .ok (.ireturn, 1) := by decide +kernel
theorem dX9_worker_18 : decode cX9_worker 18 = .ok (.iload_n 2, 1) := by decide +kernel
theorem dX9_worker_19 : decode cX9_worker 19 = .ok (.tableswitch 156 0 11 #[61, 68, 74, 81, 88, 95, 103, 111, 119, 125, 137, 148], 61) := by decide +kernel
theorem dX9_worker_80 : decode cX9_worker 80 = .ok (.aload_n 0, 1) := by decide +kernel
theorem dX9_worker_81 : decode cX9_worker 81 = .ok (.iload_n 1, 1) := by decide +kernel
theorem dX9_worker_82 : decode cX9_worker 82 = .ok (.iconst 2, 1) := by decide +kernel
theorem dX9_worker_83 : decode cX9_worker 83 = .ok (.invokevirtual 128, 3) := by decide +kernel
theorem dX9_worker_86 : decode cX9_worker 86 = .ok (.ireturn, 1) := by decide +kernel
theorem dX9_worker_87 : decode cX9_worker 87 = .ok (.aload_n 0, 1) := by decide +kernel
theorem dX9_worker_88 : decode cX9_worker 88 = .ok (.iload_n 1, 1) := by decide +kernel
theorem dX9_worker_89 : decode cX9_worker 89 = .ok (.invokevirtual 182, 3) := by decide +kernel
theorem dX9_worker_92 : decode cX9_worker 92 = .ok (.ireturn, 1) := by decide +kernel
theorem dX9_worker_93 : decode cX9_worker 93 = .ok (.aload_n 0, 1) := by decide +kernel
theorem dX9_worker_94 : decode cX9_worker 94 = .ok (.iload_n 1, 1) := by decide +kernel
theorem dX9_worker_95 : decode cX9_worker 95 = .ok (.iconst 3, 1) := by decide +kernel
theorem dX9_worker_96 : decode cX9_worker 96 = .ok (.invokevirtual 128, 3) := by decide +kernel
theorem dX9_worker_99 : decode cX9_worker 99 = .ok (.ireturn, 1) := by decide +kernel
theorem dX9_worker_100 : decode cX9_worker 100 = .ok (.aload_n 0, 1) := by decide +kernel
theorem dX9_worker_101 : decode cX9_worker 101 = .ok (.iload_n 1, 1) := by decide +kernel
theorem dX9_worker_102 : decode cX9_worker 102 = .ok (.iconst 4, 1) := by decide +kernel
theorem dX9_worker_103 : decode cX9_worker 103 = .ok (.invokevirtual 128, 3) := by decide +kernel
theorem dX9_worker_106 : decode cX9_worker 106 = .ok (.ireturn, 1) := by decide +kernel
theorem dX9_worker_107 : decode cX9_worker 107 = .ok (.aload_n 0, 1) := by decide +kernel
theorem dX9_worker_108 : decode cX9_worker 108 = .ok (.iload_n 1, 1) := by decide +kernel
theorem dX9_worker_109 : decode cX9_worker 109 = .ok (.iconst 5, 1) := by decide +kernel
theorem dX9_worker_110 : decode cX9_worker 110 = .ok (.invokevirtual 128, 3) := by decide +kernel
theorem dX9_worker_113 : decode cX9_worker 113 = .ok (.ireturn, 1) := by decide +kernel
theorem dX9_worker_114 : decode cX9_worker 114 = .ok (.aload_n 0, 1) := by decide +kernel
theorem dX9_worker_115 : decode cX9_worker 115 = .ok (.iload_n 1, 1) := by decide +kernel
theorem dX9_worker_116 : decode cX9_worker 116 = .ok (.bipush 6, 2) := by decide +kernel
theorem dX9_worker_118 : decode cX9_worker 118 = .ok (.invokevirtual 128, 3) := by decide +kernel
theorem dX9_worker_121 : decode cX9_worker 121 = .ok (.ireturn, 1) := by decide +kernel
theorem dX9_worker_122 : decode cX9_worker 122 = .ok (.aload_n 0, 1) := by decide +kernel
theorem dX9_worker_123 : decode cX9_worker 123 = .ok (.iload_n 1, 1) := by decide +kernel
theorem dX9_worker_124 : decode cX9_worker 124 = .ok (.bipush 7, 2) := by decide +kernel
theorem dX9_worker_126 : decode cX9_worker 126 = .ok (.invokevirtual 128, 3) := by decide +kernel
theorem dX9_worker_129 : decode cX9_worker 129 = .ok (.ireturn, 1) := by decide +kernel
theorem dX9_worker_130 : decode cX9_worker 130 = .ok (.aload_n 0, 1) := by decide +kernel
theorem dX9_worker_131 : decode cX9_worker 131 = .ok (.iload_n 1, 1) := by decide +kernel
theorem dX9_worker_132 : decode cX9_worker 132 = .ok (.bipush 8, 2) := by decide +kernel
theorem dX9_worker_134 : decode cX9_worker 134 = .ok (.invokevirtual 128, 3) := by decide +kernel
theorem dX9_worker_137 : decode cX9_worker 137 = .ok (.ireturn, 1) := by decide +kernel
theorem dX9_worker_138 : decode cX9_worker 138 = .ok (.aload_n 0, 1) := by decide +kernel
theorem dX9_worker_139 : decode cX9_worker 139 = .ok (.iload_n 1, 1) := by decide +kernel
theorem dX9_worker_140 : decode cX9_worker 140 = .ok (.invokevirtual 185, 3) := by decide +kernel
theorem dX9_worker_143 : decode cX9_worker 143 = .ok (.ireturn, 1) := by decide +kernel
theorem dX9_worker_144 : decode cX9_worker 144 = .ok (.aload_n 0, 1) := by decide +kernel
theorem dX9_worker_145 : decode cX9_worker 145 = .ok (.iload_n 1, 1) := by decide +kernel
theorem dX9_worker_146 : decode cX9_worker 146 = .ok (.iconst 1, 1) := by decide +kernel
theorem dX9_worker_147 : decode cX9_worker 147 = .ok (.iconst 0, 1) := by decide +kernel
theorem dX9_worker_148 : decode cX9_worker 148 = .ok (.aload_n 0, 1) := by decide +kernel
theorem dX9_worker_149 : decode cX9_worker 149 = .ok (.invokevirtual 165, 3) := by decide +kernel
theorem dX9_worker_152 : decode cX9_worker 152 = .ok (.invokevirtual 158, 3) := by decide +kernel
theorem dX9_worker_155 : decode cX9_worker 155 = .ok (.ireturn, 1) := by decide +kernel
theorem dX9_worker_156 : decode cX9_worker 156 = .ok (.aload_n 0, 1) := by decide +kernel
theorem dX9_worker_157 : decode cX9_worker 157 = .ok (.iload_n 1, 1) := by decide +kernel
theorem dX9_worker_158 : decode cX9_worker 158 = .ok (.iconst 3, 1) := by decide +kernel
theorem dX9_worker_159 : decode cX9_worker 159 = .ok (.iconst 0, 1) := by decide +kernel
theorem dX9_worker_160 : decode cX9_worker 160 = .ok (.sipush 364, 3) := by decide +kernel
theorem dX9_worker_163 : decode cX9_worker 163 = .ok (.invokevirtual 158, 3) := by decide +kernel
theorem dX9_worker_166 : decode cX9_worker 166 = .ok (.ireturn, 1) := by decide +kernel
theorem dX9_worker_167 : decode cX9_worker 167 = .ok (.aload_n 0, 1) := by decide +kernel
theorem dX9_worker_168 : decode cX9_worker 168 = .ok (.iload_n 1, 1) := by decide +kernel
theorem dX9_worker_169 : decode cX9_worker 169 = .ok (.bipush 9, 2) := by decide +kernel
theorem dX9_worker_171 : decode cX9_worker 171 = .ok (.invokevirtual 128, 3) := by decide +kernel
theorem dX9_worker_174 : decode cX9_worker 174 = .ok (.ireturn, 1) := by decide +kernel
theorem dX9_worker_175 : decode cX9_worker 175 = .ok (.aload_n 0, 1) := by decide +kernel
theorem dX9_worker_176 : decode cX9_worker 176 = .ok (.invokevirtual 179, 3) := by decide +kernel
theorem dX9_worker_179 : decode cX9_worker 179 = .ok (.ireturn, 1) := by decide +kernel
set_option maxRecDepth 20000 in
theorem ggX9_day_X9_isWorker : GoodIn wsX9_day wsX9_isWorker := goodIn_r _ [6, 7, 8, 9, 5, 10, 43, 44, 45, 46, 47, 48, 49, 50, 51, 52, 53, 54, 55, 56, 57] (by decide +kernel) (by decide +kernel)
set_option maxRecDepth 20000 in
theorem gX9_day_X9_isWorker : GoodIn wsX9_day (wsV RX9 125 RX9 yX9_isWorker wsX9_isWorker) := goodIn_app (goodIn_of _ (by decide +kernel)) ggX9_day_X9_isWorker
set_option maxRecDepth 20000 in
theorem ggX9_day_X9_isDay : GoodIn wsX9_day wsX9_isDay := goodIn_r _ [13, 8, 9, 5, 10] (by decide +kernel) (by decide +kernel)
set_option maxRecDepth 20000 in
theorem gX9_day_X9_isDay : GoodIn wsX9_day (va_wsS RX9 188 yX9_isDay wsX9_isDay) := goodIn_app (goodIn_of _ (by decide +kernel)) ggX9_day_X9_isDay
set_option maxRecDepth 20000 in
theorem ggX9_day_X9_plannedOf : GoodIn wsX9_day wsX9_plannedOf := goodIn_r _ [17, 7, 18, 19, 20, 5, 21, 22, 23, 24, 25, 8, 9, 10, 43, 44, 45, 46, 47, 48, 49, 50, 51, 52, 53, 54, 55, 56, 57] (by decide +kernel) (by decide +kernel)
set_option maxRecDepth 20000 in
theorem gX9_day_X9_plannedOf : GoodIn wsX9_day (wsV RX9 145 RX9 yX9_plannedOf wsX9_plannedOf) := goodIn_app (goodIn_of _ (by decide +kernel)) ggX9_day_X9_plannedOf
set_option maxRecDepth 20000 in
theorem ggX9_day_X9_workedOf : GoodIn wsX9_day wsX9_workedOf := goodIn_r _ [29, 22, 23, 24, 5, 25, 7, 43, 44, 45, 46, 47, 48, 49, 50, 51, 52, 53, 54, 55, 56, 57] (by decide +kernel) (by decide +kernel)
set_option maxRecDepth 20000 in
theorem gX9_day_X9_workedOf : GoodIn wsX9_day (wsV RX9 142 RX9 yX9_workedOf wsX9_workedOf) := goodIn_app (goodIn_of _ (by decide +kernel)) ggX9_day_X9_workedOf
set_option maxRecDepth 20000 in
theorem ggX9_day_X9_kindOf : GoodIn wsX9_day wsX9_kindOf := goodIn_r _ [33, 22, 23, 24, 5, 25, 7, 43, 44, 45, 46, 47, 48, 49, 50, 51, 52, 53, 54, 55, 56, 57] (by decide +kernel) (by decide +kernel)
set_option maxRecDepth 20000 in
theorem gX9_day_X9_kindOf : GoodIn wsX9_day (wsV RX9 139 RX9 yX9_kindOf wsX9_kindOf) := goodIn_app (goodIn_of _ (by decide +kernel)) ggX9_day_X9_kindOf
set_option maxRecDepth 20000 in
theorem ggX9_day_X9_loadOf : GoodIn wsX9_day wsX9_loadOf := goodIn_r _ [37, 30, 31, 32, 5, 33, 22, 23, 24, 25, 7, 26, 27, 28, 29, 14, 15, 16, 17, 18, 19, 20, 21, 8, 9, 10, 43, 44, 45, 46, 47, 48, 49, 50, 51, 52, 53, 54, 55, 56, 57] (by decide +kernel) (by decide +kernel)
set_option maxRecDepth 20000 in
theorem gX9_day_X9_loadOf : GoodIn wsX9_day (wsV RX9 148 RX9 yX9_loadOf wsX9_loadOf) := goodIn_app (goodIn_of _ (by decide +kernel)) ggX9_day_X9_loadOf
set_option maxRecDepth 20000 in
theorem ggX9_day_X9_flaggedOf : GoodIn wsX9_day wsX9_flaggedOf := goodIn_r _ [41, 42, 22, 23, 24, 5, 25, 7, 43, 44, 45, 46, 47, 48, 49, 50, 51, 52, 53, 54, 55, 56, 57] (by decide +kernel) (by decide +kernel)
set_option maxRecDepth 20000 in
theorem gX9_day_X9_flaggedOf : GoodIn wsX9_day (wsV RX9 155 RX9 yX9_flaggedOf wsX9_flaggedOf) := goodIn_app (goodIn_of _ (by decide +kernel)) ggX9_day_X9_flaggedOf
set_option maxRecDepth 20000 in
theorem ggX9_day_X9_changedOf : GoodIn wsX9_day wsX9_changedOf := goodIn_r _ [21, 22, 23, 24, 5, 25, 7, 43, 44, 45, 46, 47, 48, 49, 50, 51, 52, 53, 54, 55, 56, 57] (by decide +kernel) (by decide +kernel)
set_option maxRecDepth 20000 in
theorem gX9_day_X9_changedOf : GoodIn wsX9_day (wsV RX9 136 RX9 yX9_changedOf wsX9_changedOf) := goodIn_app (goodIn_of _ (by decide +kernel)) ggX9_day_X9_changedOf
theorem dX9_day_0 : decode cX9_day 0 = .ok (.aload_n 0, 1) := by decide +kernel
theorem dX9_day_1 : decode cX9_day 1 = .ok (.iconst 0, 1) := by decide +kernel
theorem dX9_day_2 : decode cX9_day 2 = .ok (.putfield 1, 3) := by decide +kernel
theorem dX9_day_5 : decode cX9_day 5 = .ok (.aload_n 0, 1) := by decide +kernel
theorem dX9_day_6 : decode cX9_day 6 = .ok (.iload_n 1, 1) := by decide +kernel
theorem dX9_day_7 : decode cX9_day 7 = .ok (.invokevirtual 125, 3) := by decide +kernel
theorem dX9_day_10 : decode cX9_day 10 = .ok (.ifCond .eq 10, 3) := by decide +kernel
theorem dX9_day_13 : decode cX9_day 13 = .ok (.iload_n 2, 1) := by decide +kernel
theorem dX9_day_14 : decode cX9_day 14 = .ok (.invokestatic 188, 3) := by decide +kernel
theorem dX9_day_17 : decode cX9_day 17 = .ok (.ifCond .ne 5, 3) := by decide +kernel
theorem dX9_day_20 : decode cX9_day 20 = .ok (.iconst (-1), 1) := by decide +kernel
theorem dX9_day_21 : decode cX9_day 21 = .ok (.ireturn, 1) := by decide +kernel
theorem dX9_day_22 : decode cX9_day 22 = .ok (.iload_n 3, 1) := by decide +kernel
theorem dX9_day_23 : decode cX9_day 23 = .ok (.tableswitch 88 0 5 #[37, 44, 51, 58, 65, 72], 37) := by decide +kernel
theorem dX9_day_60 : decode cX9_day 60 = .ok (.aload_n 0, 1) := by decide +kernel
theorem dX9_day_61 : decode cX9_day 61 = .ok (.iload_n 1, 1) := by decide +kernel
theorem dX9_day_62 : decode cX9_day 62 = .ok (.iload_n 2, 1) := by decide +kernel
theorem dX9_day_63 : decode cX9_day 63 = .ok (.invokevirtual 145, 3) := by decide +kernel
theorem dX9_day_66 : decode cX9_day 66 = .ok (.ireturn, 1) := by decide +kernel
theorem dX9_day_67 : decode cX9_day 67 = .ok (.aload_n 0, 1) := by decide +kernel
theorem dX9_day_68 : decode cX9_day 68 = .ok (.iload_n 1, 1) := by decide +kernel
theorem dX9_day_69 : decode cX9_day 69 = .ok (.iload_n 2, 1) := by decide +kernel
theorem dX9_day_70 : decode cX9_day 70 = .ok (.invokevirtual 142, 3) := by decide +kernel
theorem dX9_day_73 : decode cX9_day 73 = .ok (.ireturn, 1) := by decide +kernel
theorem dX9_day_74 : decode cX9_day 74 = .ok (.aload_n 0, 1) := by decide +kernel
theorem dX9_day_75 : decode cX9_day 75 = .ok (.iload_n 1, 1) := by decide +kernel
theorem dX9_day_76 : decode cX9_day 76 = .ok (.iload_n 2, 1) := by decide +kernel
theorem dX9_day_77 : decode cX9_day 77 = .ok (.invokevirtual 139, 3) := by decide +kernel
theorem dX9_day_80 : decode cX9_day 80 = .ok (.ireturn, 1) := by decide +kernel
theorem dX9_day_81 : decode cX9_day 81 = .ok (.aload_n 0, 1) := by decide +kernel
theorem dX9_day_82 : decode cX9_day 82 = .ok (.iload_n 1, 1) := by decide +kernel
theorem dX9_day_83 : decode cX9_day 83 = .ok (.iload_n 2, 1) := by decide +kernel
theorem dX9_day_84 : decode cX9_day 84 = .ok (.invokevirtual 148, 3) := by decide +kernel
theorem dX9_day_87 : decode cX9_day 87 = .ok (.ireturn, 1) := by decide +kernel
theorem dX9_day_88 : decode cX9_day 88 = .ok (.aload_n 0, 1) := by decide +kernel
theorem dX9_day_89 : decode cX9_day 89 = .ok (.iload_n 1, 1) := by decide +kernel
theorem dX9_day_90 : decode cX9_day 90 = .ok (.iload_n 2, 1) := by decide +kernel
theorem dX9_day_91 : decode cX9_day 91 = .ok (.invokevirtual 155, 3) := by decide +kernel
theorem dX9_day_94 : decode cX9_day 94 = .ok (.ireturn, 1) := by decide +kernel
theorem dX9_day_95 : decode cX9_day 95 = .ok (.aload_n 0, 1) := by decide +kernel
theorem dX9_day_96 : decode cX9_day 96 = .ok (.iload_n 1, 1) := by decide +kernel
theorem dX9_day_97 : decode cX9_day 97 = .ok (.iload_n 2, 1) := by decide +kernel
theorem dX9_day_98 : decode cX9_day 98 = .ok (.invokevirtual 136, 3) := by decide +kernel
theorem dX9_day_101 : decode cX9_day 101 = .ok (.iconst (-1), 1) := by decide +kernel
theorem dX9_day_102 : decode cX9_day 102 = .ok (.if_icmp .eq 7, 3) := by decide +kernel
theorem dX9_day_105 : decode cX9_day 105 = .ok (.iconst 1, 1) := by decide +kernel
theorem dX9_day_106 : decode cX9_day 106 = .ok (.goto 4, 3) := by decide +kernel
theorem dX9_day_109 : decode cX9_day 109 = .ok (.iconst 0, 1) := by decide +kernel
theorem dX9_day_110 : decode cX9_day 110 = .ok (.ireturn, 1) := by decide +kernel
theorem dX9_day_111 : decode cX9_day 111 = .ok (.iconst (-1), 1) := by decide +kernel
theorem dX9_day_112 : decode cX9_day 112 = .ok (.ireturn, 1) := by decide +kernel
set_option maxRecDepth 20000 in
theorem ggX9_load_X9_isWorker : GoodIn wsX9_load wsX9_isWorker := goodIn_r _ [7, 2, 8, 9, 6, 10, 42, 43, 44, 45, 46, 47, 48, 49, 50, 51, 52, 53, 54, 55, 56] (by decide +kernel) (by decide +kernel)
set_option maxRecDepth 20000 in
theorem gX9_load_X9_isWorker : GoodIn wsX9_load (wsV RX9 125 RX9 yX9_isWorker wsX9_isWorker) := goodIn_app (goodIn_of _ (by decide +kernel)) ggX9_load_X9_isWorker
set_option maxRecDepth 20000 in
theorem ggX9_load_X9_isDay : GoodIn wsX9_load wsX9_isDay := goodIn_r _ [13, 8, 9, 6, 10] (by decide +kernel) (by decide +kernel)
set_option maxRecDepth 20000 in
theorem gX9_load_X9_isDay : GoodIn wsX9_load (va_wsS RX9 188 yX9_isDay wsX9_isDay) := goodIn_app (goodIn_of _ (by decide +kernel)) ggX9_load_X9_isDay
set_option maxRecDepth 20000 in
theorem ggX9_load_X9_loads : GoodIn wsX9_load wsX9_loads := goodIn_r _ [17, 18, 19, 20, 6, 21, 22, 23, 24, 25, 26, 27, 28, 29, 2, 30, 31, 32, 33, 34, 35, 36, 37, 38, 39, 40, 41, 8, 9, 10, 42, 43, 44, 45, 46, 47, 48, 49, 50, 51, 52, 53, 54, 55, 56] (by decide +kernel) (by decide +kernel)
set_option maxRecDepth 20000 in
theorem gX9_load_X9_loads : GoodIn wsX9_load (wsV RX9 191 RX9 yX9_loads wsX9_loads) := goodIn_app (goodIn_of _ (by decide +kernel)) ggX9_load_X9_loads
theorem dX9_load_0 : decode cX9_load 0 = .ok (.aload_n 0, 1) := by decide +kernel
theorem dX9_load_1 : decode cX9_load 1 = .ok (.iconst 0, 1) := by decide +kernel
theorem dX9_load_2 : decode cX9_load 2 = .ok (.putfield 1, 3) := by decide +kernel
theorem dX9_load_5 : decode cX9_load 5 = .ok (.aload_n 0, 1) := by decide +kernel
theorem dX9_load_6 : decode cX9_load 6 = .ok (.iload_n 1, 1) := by decide +kernel
theorem dX9_load_7 : decode cX9_load 7 = .ok (.invokevirtual 125, 3) := by decide +kernel
theorem dX9_load_10 : decode cX9_load 10 = .ok (.ifCond .eq 29, 3) := by decide +kernel
theorem dX9_load_13 : decode cX9_load 13 = .ok (.iload_n 2, 1) := by decide +kernel
theorem dX9_load_14 : decode cX9_load 14 = .ok (.invokestatic 188, 3) := by decide +kernel
theorem dX9_load_17 : decode cX9_load 17 = .ok (.ifCond .eq 22, 3) := by decide +kernel
theorem dX9_load_20 : decode cX9_load 20 = .ok (.aload_n 0, 1) := by decide +kernel
theorem dX9_load_21 : decode cX9_load 21 = .ok (.iload_n 1, 1) := by decide +kernel
theorem dX9_load_22 : decode cX9_load 22 = .ok (.iload_n 2, 1) := by decide +kernel
theorem dX9_load_23 : decode cX9_load 23 = .ok (.aload_n 0, 1) := by decide +kernel
theorem dX9_load_24 : decode cX9_load 24 = .ok (.getfield 70, 3) := by decide +kernel
theorem dX9_load_27 : decode cX9_load 27 = .ok (.iconst 2, 1) := by decide +kernel
theorem dX9_load_28 : decode cX9_load 28 = .ok (.iaload, 1) := by decide +kernel
theorem dX9_load_29 : decode cX9_load 29 = .ok (.isub, 1) := by decide +kernel
theorem dX9_load_30 : decode cX9_load 30 = .ok (.iconst 1, 1) := by decide +kernel
theorem dX9_load_31 : decode cX9_load 31 = .ok (.iadd, 1) := by decide +kernel
theorem dX9_load_32 : decode cX9_load 32 = .ok (.iload_n 2, 1) := by decide +kernel
theorem dX9_load_33 : decode cX9_load 33 = .ok (.invokevirtual 191, 3) := by decide +kernel
theorem dX9_load_36 : decode cX9_load 36 = .ok (.goto 4, 3) := by decide +kernel
theorem dX9_load_39 : decode cX9_load 39 = .ok (.iconst (-1), 1) := by decide +kernel
theorem dX9_load_40 : decode cX9_load 40 = .ok (.ireturn, 1) := by decide +kernel
set_option maxRecDepth 20000 in
theorem ggX9_room_X9_isHere : GoodIn wsX9_room wsX9_isHere := goodIn_r _ [7, 8, 9, 10, 6, 11, 2, 12, 13, 14, 15, 16, 17, 18, 51, 52, 53, 54, 55, 56, 57, 58, 59, 60, 61, 62, 63, 64, 65] (by decide +kernel) (by decide +kernel)
set_option maxRecDepth 20000 in
theorem gX9_room_X9_isHere : GoodIn wsX9_room (wsV RX9 162 RX9 yX9_isHere wsX9_isHere) := goodIn_app (goodIn_of _ (by decide +kernel)) ggX9_room_X9_isHere
set_option maxRecDepth 20000 in
theorem ggX9_room_X9_today : GoodIn wsX9_room wsX9_today := goodIn_r _ [22, 2, 51, 52, 53, 54, 55, 56, 57, 58, 59, 60, 61, 62, 63, 64, 65] (by decide +kernel) (by decide +kernel)
set_option maxRecDepth 20000 in
theorem gX9_room_X9_today : GoodIn wsX9_room (wsV RX9 165 RX9 yX9_today wsX9_today) := goodIn_app (goodIn_of _ (by decide +kernel)) ggX9_room_X9_today
set_option maxRecDepth 20000 in
theorem ggX9_room_X9_loads : GoodIn wsX9_room wsX9_loads := goodIn_r _ [26, 27, 28, 29, 6, 30, 31, 32, 33, 34, 35, 36, 37, 38, 2, 39, 40, 41, 42, 43, 44, 45, 46, 47, 48, 49, 50, 12, 13, 14, 51, 52, 53, 54, 55, 56, 57, 58, 59, 60, 61, 62, 63, 64, 65] (by decide +kernel) (by decide +kernel)
set_option maxRecDepth 20000 in
theorem gX9_room_X9_loads : GoodIn wsX9_room (wsV RX9 191 RX9 yX9_loads wsX9_loads) := goodIn_app (goodIn_of _ (by decide +kernel)) ggX9_room_X9_loads
theorem dX9_room_0 : decode cX9_room 0 = .ok (.aload_n 0, 1) := by decide +kernel
theorem dX9_room_1 : decode cX9_room 1 = .ok (.iconst 0, 1) := by decide +kernel
theorem dX9_room_2 : decode cX9_room 2 = .ok (.putfield 1, 3) := by decide +kernel
theorem dX9_room_5 : decode cX9_room 5 = .ok (.aload_n 0, 1) := by decide +kernel
theorem dX9_room_6 : decode cX9_room 6 = .ok (.iload_n 1, 1) := by decide +kernel
theorem dX9_room_7 : decode cX9_room 7 = .ok (.invokevirtual 162, 3) := by decide +kernel
theorem dX9_room_10 : decode cX9_room 10 = .ok (.ifCond .eq 13, 3) := by decide +kernel
theorem dX9_room_13 : decode cX9_room 13 = .ok (.aload_n 0, 1) := by decide +kernel
theorem dX9_room_14 : decode cX9_room 14 = .ok (.invokevirtual 165, 3) := by decide +kernel
theorem dX9_room_17 : decode cX9_room 17 = .ok (.sipush 364, 3) := by decide +kernel
theorem dX9_room_20 : decode cX9_room 20 = .ok (.if_icmp .ne 5, 3) := by decide +kernel
theorem dX9_room_23 : decode cX9_room 23 = .ok (.iconst (-1), 1) := by decide +kernel
theorem dX9_room_24 : decode cX9_room 24 = .ok (.ireturn, 1) := by decide +kernel
theorem dX9_room_25 : decode cX9_room 25 = .ok (.aload_n 0, 1) := by decide +kernel
theorem dX9_room_26 : decode cX9_room 26 = .ok (.getfield 70, 3) := by decide +kernel
theorem dX9_room_29 : decode cX9_room 29 = .ok (.iconst 3, 1) := by decide +kernel
theorem dX9_room_30 : decode cX9_room 30 = .ok (.iaload, 1) := by decide +kernel
theorem dX9_room_31 : decode cX9_room 31 = .ok (.aload_n 0, 1) := by decide +kernel
theorem dX9_room_32 : decode cX9_room 32 = .ok (.iload_n 1, 1) := by decide +kernel
theorem dX9_room_33 : decode cX9_room 33 = .ok (.aload_n 0, 1) := by decide +kernel
theorem dX9_room_34 : decode cX9_room 34 = .ok (.invokevirtual 165, 3) := by decide +kernel
theorem dX9_room_37 : decode cX9_room 37 = .ok (.aload_n 0, 1) := by decide +kernel
theorem dX9_room_38 : decode cX9_room 38 = .ok (.getfield 70, 3) := by decide +kernel
theorem dX9_room_41 : decode cX9_room 41 = .ok (.iconst 2, 1) := by decide +kernel
theorem dX9_room_42 : decode cX9_room 42 = .ok (.iaload, 1) := by decide +kernel
theorem dX9_room_43 : decode cX9_room 43 = .ok (.isub, 1) := by decide +kernel
theorem dX9_room_44 : decode cX9_room 44 = .ok (.iconst 1, 1) := by decide +kernel
theorem dX9_room_45 : decode cX9_room 45 = .ok (.iadd, 1) := by decide +kernel
theorem dX9_room_46 : decode cX9_room 46 = .ok (.aload_n 0, 1) := by decide +kernel
theorem dX9_room_47 : decode cX9_room 47 = .ok (.invokevirtual 165, 3) := by decide +kernel
theorem dX9_room_50 : decode cX9_room 50 = .ok (.iconst 1, 1) := by decide +kernel
theorem dX9_room_51 : decode cX9_room 51 = .ok (.isub, 1) := by decide +kernel
theorem dX9_room_52 : decode cX9_room 52 = .ok (.invokevirtual 191, 3) := by decide +kernel
theorem dX9_room_55 : decode cX9_room 55 = .ok (.isub, 1) := by decide +kernel
theorem dX9_room_56 : decode cX9_room 56 = .ok (.istore_n 2, 1) := by decide +kernel
theorem dX9_room_57 : decode cX9_room 57 = .ok (.iload_n 2, 1) := by decide +kernel
theorem dX9_room_58 : decode cX9_room 58 = .ok (.ifCond .ge 8, 3) := by decide +kernel
theorem dX9_room_61 : decode cX9_room 61 = .ok (.bipush (-2), 2) := by decide +kernel
theorem dX9_room_63 : decode cX9_room 63 = .ok (.goto 15, 3) := by decide +kernel
theorem dX9_room_66 : decode cX9_room 66 = .ok (.iload_n 2, 1) := by decide +kernel
theorem dX9_room_67 : decode cX9_room 67 = .ok (.bipush 96, 2) := by decide +kernel
theorem dX9_room_69 : decode cX9_room 69 = .ok (.if_icmp .le 8, 3) := by decide +kernel
theorem dX9_room_72 : decode cX9_room 72 = .ok (.bipush 96, 2) := by decide +kernel
theorem dX9_room_74 : decode cX9_room 74 = .ok (.goto 4, 3) := by decide +kernel
theorem dX9_room_77 : decode cX9_room 77 = .ok (.iload_n 2, 1) := by decide +kernel
theorem dX9_room_78 : decode cX9_room 78 = .ok (.ireturn, 1) := by decide +kernel
set_option maxRecDepth 20000 in
theorem ggX9_planned_X9_isWorker : GoodIn wsX9_planned wsX9_isWorker := goodIn_r _ [6, 7, 8, 9, 5, 10, 26, 27, 28, 29, 30, 31, 32, 33, 34, 35, 36, 37, 38, 39, 40] (by decide +kernel) (by decide +kernel)
set_option maxRecDepth 20000 in
theorem gX9_planned_X9_isWorker : GoodIn wsX9_planned (wsV RX9 125 RX9 yX9_isWorker wsX9_isWorker) := goodIn_app (goodIn_of _ (by decide +kernel)) ggX9_planned_X9_isWorker
set_option maxRecDepth 20000 in
theorem ggX9_planned_X9_isDay : GoodIn wsX9_planned wsX9_isDay := goodIn_r _ [13, 8, 9, 5, 10] (by decide +kernel) (by decide +kernel)
set_option maxRecDepth 20000 in
theorem gX9_planned_X9_isDay : GoodIn wsX9_planned (va_wsS RX9 188 yX9_isDay wsX9_isDay) := goodIn_app (goodIn_of _ (by decide +kernel)) ggX9_planned_X9_isDay
set_option maxRecDepth 20000 in
theorem ggX9_planned_X9_plannedOf : GoodIn wsX9_planned wsX9_plannedOf := goodIn_r _ [17, 7, 18, 19, 20, 5, 21, 22, 23, 24, 25, 8, 9, 10, 26, 27, 28, 29, 30, 31, 32, 33, 34, 35, 36, 37, 38, 39, 40] (by decide +kernel) (by decide +kernel)
set_option maxRecDepth 20000 in
theorem gX9_planned_X9_plannedOf : GoodIn wsX9_planned (wsV RX9 145 RX9 yX9_plannedOf wsX9_plannedOf) := goodIn_app (goodIn_of _ (by decide +kernel)) ggX9_planned_X9_plannedOf
theorem dX9_planned_0 : decode cX9_planned 0 = .ok (.aload_n 0, 1) := by decide +kernel
theorem dX9_planned_1 : decode cX9_planned 1 = .ok (.iconst 0, 1) := by decide +kernel
theorem dX9_planned_2 : decode cX9_planned 2 = .ok (.putfield 1, 3) := by decide +kernel
theorem dX9_planned_5 : decode cX9_planned 5 = .ok (.aload_n 0, 1) := by decide +kernel
theorem dX9_planned_6 : decode cX9_planned 6 = .ok (.iload_n 1, 1) := by decide +kernel
theorem dX9_planned_7 : decode cX9_planned 7 = .ok (.invokevirtual 125, 3) := by decide +kernel
theorem dX9_planned_10 : decode cX9_planned 10 = .ok (.ifCond .eq 22, 3) := by decide +kernel
theorem dX9_planned_13 : decode cX9_planned 13 = .ok (.iload_n 2, 1) := by decide +kernel
theorem dX9_planned_14 : decode cX9_planned 14 = .ok (.invokestatic 188, 3) := by decide +kernel
theorem dX9_planned_17 : decode cX9_planned 17 = .ok (.ifCond .eq 15, 3) := by decide +kernel
theorem dX9_planned_20 : decode cX9_planned 20 = .ok (.iload_n 3, 1) := by decide +kernel
theorem dX9_planned_21 : decode cX9_planned 21 = .ok (.invokestatic 188, 3) := by decide +kernel
theorem dX9_planned_24 : decode cX9_planned 24 = .ok (.ifCond .eq 8, 3) := by decide +kernel
theorem dX9_planned_27 : decode cX9_planned 27 = .ok (.iload_n 2, 1) := by decide +kernel
theorem dX9_planned_28 : decode cX9_planned 28 = .ok (.iload_n 3, 1) := by decide +kernel
theorem dX9_planned_29 : decode cX9_planned 29 = .ok (.if_icmp .le 5, 3) := by decide +kernel
theorem dX9_planned_32 : decode cX9_planned 32 = .ok (.iconst (-1), 1) := by decide +kernel
theorem dX9_planned_33 : decode cX9_planned 33 = .ok (.ireturn, 1) := by decide +kernel
theorem dX9_planned_34 : decode cX9_planned 34 = .ok (.iconst 0, 1) := by decide +kernel
theorem dX9_planned_35 : decode cX9_planned 35 = .ok (.istore 4, 2) := by decide +kernel
theorem dX9_planned_37 : decode cX9_planned 37 = .ok (.iload_n 2, 1) := by decide +kernel
theorem dX9_planned_38 : decode cX9_planned 38 = .ok (.istore 5, 2) := by decide +kernel
theorem dX9_planned_40 : decode cX9_planned 40 = .ok (.iload 5, 2) := by decide +kernel
theorem dX9_planned_42 : decode cX9_planned 42 = .ok (.iload_n 3, 1) := by decide +kernel
theorem dX9_planned_43 : decode cX9_planned 43 = .ok (.if_icmp .gt 21, 3) := by decide +kernel
theorem dX9_planned_46 : decode cX9_planned 46 = .ok (.iload 4, 2) := by decide +kernel
theorem dX9_planned_48 : decode cX9_planned 48 = .ok (.aload_n 0, 1) := by decide +kernel
theorem dX9_planned_49 : decode cX9_planned 49 = .ok (.iload_n 1, 1) := by decide +kernel
theorem dX9_planned_50 : decode cX9_planned 50 = .ok (.iload 5, 2) := by decide +kernel
theorem dX9_planned_52 : decode cX9_planned 52 = .ok (.invokevirtual 145, 3) := by decide +kernel
theorem dX9_planned_55 : decode cX9_planned 55 = .ok (.iadd, 1) := by decide +kernel
theorem dX9_planned_56 : decode cX9_planned 56 = .ok (.istore 4, 2) := by decide +kernel
theorem dX9_planned_58 : decode cX9_planned 58 = .ok (.iinc 5 1, 3) := by decide +kernel
theorem dX9_planned_61 : decode cX9_planned 61 = .ok (.goto (-21), 3) := by decide +kernel
theorem dX9_planned_64 : decode cX9_planned 64 = .ok (.iload 4, 2) := by decide +kernel
theorem dX9_planned_66 : decode cX9_planned 66 = .ok (.ireturn, 1) := by decide +kernel
set_option maxRecDepth 20000 in
theorem ggX9_reaches_X9_isHere : GoodIn wsX9_reaches wsX9_isHere := goodIn_r _ [7, 8, 9, 10, 6, 11, 2, 12, 13, 14, 15, 16, 17, 18, 39, 40, 41, 42, 43, 44, 45, 46, 47, 48, 49, 50, 51, 52, 53] (by decide +kernel) (by decide +kernel)
set_option maxRecDepth 20000 in
theorem gX9_reaches_X9_isHere : GoodIn wsX9_reaches (wsV RX9 162 RX9 yX9_isHere wsX9_isHere) := goodIn_app (goodIn_of _ (by decide +kernel)) ggX9_reaches_X9_isHere
set_option maxRecDepth 20000 in
theorem ggX9_reaches_X9_isIn : GoodIn wsX9_reaches wsX9_isIn := goodIn_r _ [14] (by decide +kernel) (by decide +kernel)
set_option maxRecDepth 20000 in
theorem gX9_reaches_X9_isIn : GoodIn wsX9_reaches (va_wsS RX9 82 yX9_isIn wsX9_isIn) := goodIn_app (goodIn_of _ (by decide +kernel)) ggX9_reaches_X9_isIn
set_option maxRecDepth 20000 in
theorem ggX9_reaches_X9_its : GoodIn wsX9_reaches wsX9_its := goodIn_r _ [18, 2, 39, 40, 41, 42, 43, 44, 45, 46, 47, 48, 49, 50, 51, 52, 53] (by decide +kernel) (by decide +kernel)
set_option maxRecDepth 20000 in
theorem gX9_reaches_X9_its : GoodIn wsX9_reaches (wsV RX9 128 RX9 yX9_its wsX9_its) := goodIn_app (goodIn_of _ (by decide +kernel)) ggX9_reaches_X9_its
set_option maxRecDepth 20000 in
theorem ggX9_reaches_X9_today : GoodIn wsX9_reaches wsX9_today := goodIn_r _ [22, 2, 39, 40, 41, 42, 43, 44, 45, 46, 47, 48, 49, 50, 51, 52, 53] (by decide +kernel) (by decide +kernel)
set_option maxRecDepth 20000 in
theorem gX9_reaches_X9_today : GoodIn wsX9_reaches (wsV RX9 165 RX9 yX9_today wsX9_today) := goodIn_app (goodIn_of _ (by decide +kernel)) ggX9_reaches_X9_today
set_option maxRecDepth 20000 in
theorem ggX9_reaches_X9_kindOf : GoodIn wsX9_reaches wsX9_kindOf := goodIn_r _ [26, 27, 28, 29, 6, 30, 2, 39, 40, 41, 42, 43, 44, 45, 46, 47, 48, 49, 50, 51, 52, 53] (by decide +kernel) (by decide +kernel)
set_option maxRecDepth 20000 in
theorem gX9_reaches_X9_kindOf : GoodIn wsX9_reaches (wsV RX9 139 RX9 yX9_kindOf wsX9_kindOf) := goodIn_app (goodIn_of _ (by decide +kernel)) ggX9_reaches_X9_kindOf
set_option maxRecDepth 20000 in
theorem ggX9_reaches_X9_plannedOf : GoodIn wsX9_reaches wsX9_plannedOf := goodIn_r _ [34, 2, 35, 36, 37, 6, 38, 27, 28, 29, 30, 12, 13, 14, 39, 40, 41, 42, 43, 44, 45, 46, 47, 48, 49, 50, 51, 52, 53] (by decide +kernel) (by decide +kernel)
set_option maxRecDepth 20000 in
theorem gX9_reaches_X9_plannedOf : GoodIn wsX9_reaches (wsV RX9 145 RX9 yX9_plannedOf wsX9_plannedOf) := goodIn_app (goodIn_of _ (by decide +kernel)) ggX9_reaches_X9_plannedOf
theorem dX9_reaches_0 : decode cX9_reaches 0 = .ok (.aload_n 0, 1) := by decide +kernel
theorem dX9_reaches_1 : decode cX9_reaches 1 = .ok (.iconst 0, 1) := by decide +kernel
theorem dX9_reaches_2 : decode cX9_reaches 2 = .ok (.putfield 1, 3) := by decide +kernel
theorem dX9_reaches_5 : decode cX9_reaches 5 = .ok (.aload_n 0, 1) := by decide +kernel
theorem dX9_reaches_6 : decode cX9_reaches 6 = .ok (.iload_n 1, 1) := by decide +kernel
theorem dX9_reaches_7 : decode cX9_reaches 7 = .ok (.invokevirtual 162, 3) := by decide +kernel
theorem dX9_reaches_10 : decode cX9_reaches 10 = .ok (.ifCond .eq 14, 3) := by decide +kernel
theorem dX9_reaches_13 : decode cX9_reaches 13 = .ok (.iload_n 2, 1) := by decide +kernel
theorem dX9_reaches_14 : decode cX9_reaches 14 = .ok (.bipush (-96), 2) := by decide +kernel
theorem dX9_reaches_16 : decode cX9_reaches 16 = .ok (.bipush 96, 2) := by decide +kernel
theorem dX9_reaches_18 : decode cX9_reaches 18 = .ok (.invokestatic 82, 3) := by decide +kernel
theorem dX9_reaches_21 : decode cX9_reaches 21 = .ok (.ifCond .ne 5, 3) := by decide +kernel
theorem dX9_reaches_24 : decode cX9_reaches 24 = .ok (.iconst (-1), 1) := by decide +kernel
theorem dX9_reaches_25 : decode cX9_reaches 25 = .ok (.ireturn, 1) := by decide +kernel
theorem dX9_reaches_26 : decode cX9_reaches 26 = .ok (.aload_n 0, 1) := by decide +kernel
theorem dX9_reaches_27 : decode cX9_reaches 27 = .ok (.iload_n 1, 1) := by decide +kernel
theorem dX9_reaches_28 : decode cX9_reaches 28 = .ok (.iconst 2, 1) := by decide +kernel
theorem dX9_reaches_29 : decode cX9_reaches 29 = .ok (.invokevirtual 128, 3) := by decide +kernel
theorem dX9_reaches_32 : decode cX9_reaches 32 = .ok (.istore_n 3, 1) := by decide +kernel
theorem dX9_reaches_33 : decode cX9_reaches 33 = .ok (.aload_n 0, 1) := by decide +kernel
theorem dX9_reaches_34 : decode cX9_reaches 34 = .ok (.invokevirtual 165, 3) := by decide +kernel
theorem dX9_reaches_37 : decode cX9_reaches 37 = .ok (.istore 4, 2) := by decide +kernel
theorem dX9_reaches_39 : decode cX9_reaches 39 = .ok (.iload 4, 2) := by decide +kernel
theorem dX9_reaches_41 : decode cX9_reaches 41 = .ok (.sipush 364, 3) := by decide +kernel
theorem dX9_reaches_44 : decode cX9_reaches 44 = .ok (.if_icmp .ge 91, 3) := by decide +kernel
theorem dX9_reaches_47 : decode cX9_reaches 47 = .ok (.aload_n 0, 1) := by decide +kernel
theorem dX9_reaches_48 : decode cX9_reaches 48 = .ok (.iload_n 1, 1) := by decide +kernel
theorem dX9_reaches_49 : decode cX9_reaches 49 = .ok (.iload 4, 2) := by decide +kernel
theorem dX9_reaches_51 : decode cX9_reaches 51 = .ok (.invokevirtual 139, 3) := by decide +kernel
theorem dX9_reaches_54 : decode cX9_reaches 54 = .ok (.ifCond .eq 6, 3) := by decide +kernel
theorem dX9_reaches_57 : decode cX9_reaches 57 = .ok (.goto 72, 3) := by decide +kernel
theorem dX9_reaches_60 : decode cX9_reaches 60 = .ok (.aload_n 0, 1) := by decide +kernel
theorem dX9_reaches_61 : decode cX9_reaches 61 = .ok (.iload_n 1, 1) := by decide +kernel
theorem dX9_reaches_62 : decode cX9_reaches 62 = .ok (.iload 4, 2) := by decide +kernel
theorem dX9_reaches_64 : decode cX9_reaches 64 = .ok (.invokevirtual 145, 3) := by decide +kernel
theorem dX9_reaches_67 : decode cX9_reaches 67 = .ok (.iload_n 2, 1) := by decide +kernel
theorem dX9_reaches_68 : decode cX9_reaches 68 = .ok (.iadd, 1) := by decide +kernel
theorem dX9_reaches_69 : decode cX9_reaches 69 = .ok (.istore 5, 2) := by decide +kernel
theorem dX9_reaches_71 : decode cX9_reaches 71 = .ok (.iload_n 3, 1) := by decide +kernel
theorem dX9_reaches_72 : decode cX9_reaches 72 = .ok (.iload 5, 2) := by decide +kernel
theorem dX9_reaches_74 : decode cX9_reaches 74 = .ok (.ifCond .ge 7, 3) := by decide +kernel
theorem dX9_reaches_77 : decode cX9_reaches 77 = .ok (.iconst 0, 1) := by decide +kernel
theorem dX9_reaches_78 : decode cX9_reaches 78 = .ok (.goto 17, 3) := by decide +kernel
theorem dX9_reaches_81 : decode cX9_reaches 81 = .ok (.iload 5, 2) := by decide +kernel
theorem dX9_reaches_83 : decode cX9_reaches 83 = .ok (.bipush 96, 2) := by decide +kernel
theorem dX9_reaches_85 : decode cX9_reaches 85 = .ok (.if_icmp .le 8, 3) := by decide +kernel
theorem dX9_reaches_88 : decode cX9_reaches 88 = .ok (.bipush 96, 2) := by decide +kernel
theorem dX9_reaches_90 : decode cX9_reaches 90 = .ok (.goto 5, 3) := by decide +kernel
theorem dX9_reaches_93 : decode cX9_reaches 93 = .ok (.iload 5, 2) := by decide +kernel
theorem dX9_reaches_95 : decode cX9_reaches 95 = .ok (.aload_n 0, 1) := by decide +kernel
theorem dX9_reaches_96 : decode cX9_reaches 96 = .ok (.iload_n 1, 1) := by decide +kernel
theorem dX9_reaches_97 : decode cX9_reaches 97 = .ok (.iload 4, 2) := by decide +kernel
theorem dX9_reaches_99 : decode cX9_reaches 99 = .ok (.invokevirtual 145, 3) := by decide +kernel
theorem dX9_reaches_102 : decode cX9_reaches 102 = .ok (.isub, 1) := by decide +kernel
theorem dX9_reaches_103 : decode cX9_reaches 103 = .ok (.iadd, 1) := by decide +kernel
theorem dX9_reaches_104 : decode cX9_reaches 104 = .ok (.istore_n 3, 1) := by decide +kernel
theorem dX9_reaches_105 : decode cX9_reaches 105 = .ok (.iload_n 3, 1) := by decide +kernel
theorem dX9_reaches_106 : decode cX9_reaches 106 = .ok (.aload_n 0, 1) := by decide +kernel
theorem dX9_reaches_107 : decode cX9_reaches 107 = .ok (.getfield 70, 3) := by decide +kernel
theorem dX9_reaches_110 : decode cX9_reaches 110 = .ok (.iconst 1, 1) := by decide +kernel
theorem dX9_reaches_111 : decode cX9_reaches 111 = .ok (.iaload, 1) := by decide +kernel
theorem dX9_reaches_112 : decode cX9_reaches 112 = .ok (.if_icmp .gt 14, 3) := by decide +kernel
theorem dX9_reaches_115 : decode cX9_reaches 115 = .ok (.iload_n 3, 1) := by decide +kernel
theorem dX9_reaches_116 : decode cX9_reaches 116 = .ok (.aload_n 0, 1) := by decide +kernel
theorem dX9_reaches_117 : decode cX9_reaches 117 = .ok (.getfield 70, 3) := by decide +kernel
theorem dX9_reaches_120 : decode cX9_reaches 120 = .ok (.iconst 0, 1) := by decide +kernel
theorem dX9_reaches_121 : decode cX9_reaches 121 = .ok (.iaload, 1) := by decide +kernel
theorem dX9_reaches_122 : decode cX9_reaches 122 = .ok (.ineg, 1) := by decide +kernel
theorem dX9_reaches_123 : decode cX9_reaches 123 = .ok (.if_icmp .ge 6, 3) := by decide +kernel
theorem dX9_reaches_126 : decode cX9_reaches 126 = .ok (.iload 4, 2) := by decide +kernel
theorem dX9_reaches_128 : decode cX9_reaches 128 = .ok (.ireturn, 1) := by decide +kernel
theorem dX9_reaches_129 : decode cX9_reaches 129 = .ok (.iinc 4 1, 3) := by decide +kernel
theorem dX9_reaches_132 : decode cX9_reaches 132 = .ok (.goto (-93), 3) := by decide +kernel
theorem dX9_reaches_135 : decode cX9_reaches 135 = .ok (.bipush (-2), 2) := by decide +kernel
theorem dX9_reaches_137 : decode cX9_reaches 137 = .ok (.ireturn, 1) := by decide +kernel
set_option maxRecDepth 20000 in
theorem ggX9_canPlan_X9_isHere : GoodIn wsX9_canPlan wsX9_isHere := goodIn_r _ [5, 6, 7, 8, 4, 9, 10, 11, 12, 13, 14, 15, 16, 17, 30, 31, 32, 33, 34, 35, 36, 37, 38, 39, 40, 41, 42, 43, 44] (by decide +kernel) (by decide +kernel)
set_option maxRecDepth 20000 in
theorem gX9_canPlan_X9_isHere : GoodIn wsX9_canPlan (wsV RX9 162 RX9 yX9_isHere wsX9_isHere) := goodIn_app (goodIn_of _ (by decide +kernel)) ggX9_canPlan_X9_isHere
set_option maxRecDepth 20000 in
theorem ggX9_canPlan_X9_today : GoodIn wsX9_canPlan wsX9_today := goodIn_r _ [21, 10, 30, 31, 32, 33, 34, 35, 36, 37, 38, 39, 40, 41, 42, 43, 44] (by decide +kernel) (by decide +kernel)
set_option maxRecDepth 20000 in
theorem gX9_canPlan_X9_today : GoodIn wsX9_canPlan (wsV RX9 165 RX9 yX9_today wsX9_today) := goodIn_app (goodIn_of _ (by decide +kernel)) ggX9_canPlan_X9_today
set_option maxRecDepth 20000 in
theorem ggX9_canPlan_X9_isIn : GoodIn wsX9_canPlan wsX9_isIn := goodIn_r _ [13] (by decide +kernel) (by decide +kernel)
set_option maxRecDepth 20000 in
theorem gX9_canPlan_X9_isIn : GoodIn wsX9_canPlan (va_wsS RX9 82 yX9_isIn wsX9_isIn) := goodIn_app (goodIn_of _ (by decide +kernel)) ggX9_canPlan_X9_isIn
set_option maxRecDepth 20000 in
theorem ggX9_canPlan_X9_kindOf : GoodIn wsX9_canPlan wsX9_kindOf := goodIn_r _ [25, 26, 27, 28, 4, 29, 10, 30, 31, 32, 33, 34, 35, 36, 37, 38, 39, 40, 41, 42, 43, 44] (by decide +kernel) (by decide +kernel)
set_option maxRecDepth 20000 in
theorem gX9_canPlan_X9_kindOf : GoodIn wsX9_canPlan (wsV RX9 139 RX9 yX9_kindOf wsX9_kindOf) := goodIn_app (goodIn_of _ (by decide +kernel)) ggX9_canPlan_X9_kindOf
theorem dX9_canPlan_0 : decode cX9_canPlan 0 = .ok (.aload_n 0, 1) := by decide +kernel
theorem dX9_canPlan_1 : decode cX9_canPlan 1 = .ok (.iload_n 1, 1) := by decide +kernel
theorem dX9_canPlan_2 : decode cX9_canPlan 2 = .ok (.invokevirtual 162, 3) := by decide +kernel
theorem dX9_canPlan_5 : decode cX9_canPlan 5 = .ok (.ifCond .eq 41, 3) := by decide +kernel
theorem dX9_canPlan_8 : decode cX9_canPlan 8 = .ok (.iload_n 2, 1) := by decide +kernel
theorem dX9_canPlan_9 : decode cX9_canPlan 9 = .ok (.aload_n 0, 1) := by decide +kernel
theorem dX9_canPlan_10 : decode cX9_canPlan 10 = .ok (.invokevirtual 165, 3) := by decide +kernel
theorem dX9_canPlan_13 : decode cX9_canPlan 13 = .ok (.sipush 363, 3) := by decide +kernel
theorem dX9_canPlan_16 : decode cX9_canPlan 16 = .ok (.invokestatic 82, 3) := by decide +kernel
theorem dX9_canPlan_19 : decode cX9_canPlan 19 = .ok (.ifCond .eq 27, 3) := by decide +kernel
theorem dX9_canPlan_22 : decode cX9_canPlan 22 = .ok (.iload_n 3, 1) := by decide +kernel
theorem dX9_canPlan_23 : decode cX9_canPlan 23 = .ok (.iconst 0, 1) := by decide +kernel
theorem dX9_canPlan_24 : decode cX9_canPlan 24 = .ok (.bipush 96, 2) := by decide +kernel
theorem dX9_canPlan_26 : decode cX9_canPlan 26 = .ok (.invokestatic 82, 3) := by decide +kernel
theorem dX9_canPlan_29 : decode cX9_canPlan 29 = .ok (.ifCond .eq 17, 3) := by decide +kernel
theorem dX9_canPlan_32 : decode cX9_canPlan 32 = .ok (.aload_n 0, 1) := by decide +kernel
theorem dX9_canPlan_33 : decode cX9_canPlan 33 = .ok (.iload_n 1, 1) := by decide +kernel
theorem dX9_canPlan_34 : decode cX9_canPlan 34 = .ok (.iload_n 2, 1) := by decide +kernel
theorem dX9_canPlan_35 : decode cX9_canPlan 35 = .ok (.invokevirtual 139, 3) := by decide +kernel
theorem dX9_canPlan_38 : decode cX9_canPlan 38 = .ok (.iconst 2, 1) := by decide +kernel
theorem dX9_canPlan_39 : decode cX9_canPlan 39 = .ok (.if_icmp .eq 7, 3) := by decide +kernel
theorem dX9_canPlan_42 : decode cX9_canPlan 42 = .ok (.iconst 1, 1) := by decide +kernel
theorem dX9_canPlan_43 : decode cX9_canPlan 43 = .ok (.goto 4, 3) := by decide +kernel
theorem dX9_canPlan_46 : decode cX9_canPlan 46 = .ok (.iconst 0, 1) := by decide +kernel
theorem dX9_canPlan_47 : decode cX9_canPlan 47 = .ok (.ireturn, 1) := by decide +kernel
set_option maxRecDepth 20000 in
theorem ggX9_costOf_X9_today : GoodIn wsX9_costOf wsX9_today := goodIn_r _ [6, 1, 26, 27, 28, 29, 30, 31, 32, 33, 34, 35, 36, 37, 38, 39, 40] (by decide +kernel) (by decide +kernel)
set_option maxRecDepth 20000 in
theorem gX9_costOf_X9_today : GoodIn wsX9_costOf (wsV RX9 165 RX9 yX9_today wsX9_today) := goodIn_app (goodIn_of _ (by decide +kernel)) ggX9_costOf_X9_today
