theorem dX9_readNotice_4 : decode cX9_readNotice 4 = .ok (.bipush 50, 2) := by decide +kernel
theorem dX9_readNotice_6 : decode cX9_readNotice 6 = .ok (.iaload, 1) := by decide +kernel
theorem dX9_readNotice_7 : decode cX9_readNotice 7 = .ok (.iconst 3, 1) := by decide +kernel
theorem dX9_readNotice_8 : decode cX9_readNotice 8 = .ok (.if_icmp .ne 9, 3) := by decide +kernel
theorem dX9_readNotice_11 : decode cX9_readNotice 11 = .ok (.aload_n 0, 1) := by decide +kernel
theorem dX9_readNotice_12 : decode cX9_readNotice 12 = .ok (.iconst 3, 1) := by decide +kernel
theorem dX9_readNotice_13 : decode cX9_readNotice 13 = .ok (.invokevirtual 79, 3) := by decide +kernel
theorem dX9_readNotice_16 : decode cX9_readNotice 16 = .ok (.ireturn, 1) := by decide +kernel
theorem dX9_readNotice_17 : decode cX9_readNotice 17 = .ok (.aload_n 0, 1) := by decide +kernel
theorem dX9_readNotice_18 : decode cX9_readNotice 18 = .ok (.invokevirtual 86, 3) := by decide +kernel
theorem dX9_readNotice_21 : decode cX9_readNotice 21 = .ok (.bipush 51, 2) := by decide +kernel
theorem dX9_readNotice_23 : decode cX9_readNotice 23 = .ok (.iconst 2, 1) := by decide +kernel
theorem dX9_readNotice_24 : decode cX9_readNotice 24 = .ok (.aload_n 0, 1) := by decide +kernel
theorem dX9_readNotice_25 : decode cX9_readNotice 25 = .ok (.getfield 73, 3) := by decide +kernel
theorem dX9_readNotice_28 : decode cX9_readNotice 28 = .ok (.bipush 50, 2) := by decide +kernel
theorem dX9_readNotice_30 : decode cX9_readNotice 30 = .ok (.iaload, 1) := by decide +kernel
theorem dX9_readNotice_31 : decode cX9_readNotice 31 = .ok (.imul, 1) := by decide +kernel
theorem dX9_readNotice_32 : decode cX9_readNotice 32 = .ok (.iadd, 1) := by decide +kernel
theorem dX9_readNotice_33 : decode cX9_readNotice 33 = .ok (.istore_n 1, 1) := by decide +kernel
theorem dX9_readNotice_34 : decode cX9_readNotice 34 = .ok (.aload_n 0, 1) := by decide +kernel
theorem dX9_readNotice_35 : decode cX9_readNotice 35 = .ok (.iload_n 1, 1) := by decide +kernel
theorem dX9_readNotice_36 : decode cX9_readNotice 36 = .ok (.iconst 1, 1) := by decide +kernel
theorem dX9_readNotice_37 : decode cX9_readNotice 37 = .ok (.bipush 60, 2) := by decide +kernel
theorem dX9_readNotice_39 : decode cX9_readNotice 39 = .ok (.invokevirtual 95, 3) := by decide +kernel
theorem dX9_readNotice_42 : decode cX9_readNotice 42 = .ok (.ifCond .eq 17, 3) := by decide +kernel
theorem dX9_readNotice_45 : decode cX9_readNotice 45 = .ok (.aload_n 0, 1) := by decide +kernel
theorem dX9_readNotice_46 : decode cX9_readNotice 46 = .ok (.iload_n 1, 1) := by decide +kernel
theorem dX9_readNotice_47 : decode cX9_readNotice 47 = .ok (.iconst 1, 1) := by decide +kernel
theorem dX9_readNotice_48 : decode cX9_readNotice 48 = .ok (.iadd, 1) := by decide +kernel
theorem dX9_readNotice_49 : decode cX9_readNotice 49 = .ok (.iconst 0, 1) := by decide +kernel
theorem dX9_readNotice_50 : decode cX9_readNotice 50 = .ok (.sipush 300, 3) := by decide +kernel
theorem dX9_readNotice_53 : decode cX9_readNotice 53 = .ok (.invokevirtual 95, 3) := by decide +kernel
theorem dX9_readNotice_56 : decode cX9_readNotice 56 = .ok (.ifCond .ne 5, 3) := by decide +kernel
theorem dX9_readNotice_59 : decode cX9_readNotice 59 = .ok (.iconst 0, 1) := by decide +kernel
theorem dX9_readNotice_60 : decode cX9_readNotice 60 = .ok (.ireturn, 1) := by decide +kernel
theorem dX9_readNotice_61 : decode cX9_readNotice 61 = .ok (.aload_n 0, 1) := by decide +kernel
theorem dX9_readNotice_62 : decode cX9_readNotice 62 = .ok (.getfield 73, 3) := by decide +kernel
theorem dX9_readNotice_65 : decode cX9_readNotice 65 = .ok (.bipush 50, 2) := by decide +kernel
theorem dX9_readNotice_67 : decode cX9_readNotice 67 = .ok (.dup2, 1) := by decide +kernel
theorem dX9_readNotice_68 : decode cX9_readNotice 68 = .ok (.iaload, 1) := by decide +kernel
theorem dX9_readNotice_69 : decode cX9_readNotice 69 = .ok (.iconst 1, 1) := by decide +kernel
theorem dX9_readNotice_70 : decode cX9_readNotice 70 = .ok (.iadd, 1) := by decide +kernel
theorem dX9_readNotice_71 : decode cX9_readNotice 71 = .ok (.iastore, 1) := by decide +kernel
theorem dX9_readNotice_72 : decode cX9_readNotice 72 = .ok (.iconst 1, 1) := by decide +kernel
theorem dX9_readNotice_73 : decode cX9_readNotice 73 = .ok (.ireturn, 1) := by decide +kernel
set_option maxRecDepth 20000 in
theorem ggX9_readWorker_X9_bad : GoodIn wsX9_readWorker wsX9_bad := goodIn_r _ [6, 7, 8, 9, 10, 39, 40, 41, 42, 43, 44, 45, 46, 47, 48, 49, 50, 51, 52, 53] (by decide +kernel) (by decide +kernel)
set_option maxRecDepth 20000 in
theorem gX9_readWorker_X9_bad : GoodIn wsX9_readWorker (wsV RX9 79 RX9 yX9_bad wsX9_bad) := goodIn_app (goodIn_of _ (by decide +kernel)) ggX9_readWorker_X9_bad
set_option maxRecDepth 20000 in
theorem ggX9_readWorker_X9_go : GoodIn wsX9_readWorker wsX9_go := goodIn_r _ [14, 15, 16, 17, 9, 7, 18, 19, 20, 21, 22, 23, 5, 24, 25, 26, 27, 28, 29, 30, 31, 39, 40, 41, 42, 43, 44, 45, 46, 47, 48, 49, 50, 51, 52, 53] (by decide +kernel) (by decide +kernel)
set_option maxRecDepth 20000 in
theorem gX9_readWorker_X9_go : GoodIn wsX9_readWorker (wsV RX9 86 RX9 yX9_go wsX9_go) := goodIn_app (goodIn_of _ (by decide +kernel)) ggX9_readWorker_X9_go
set_option maxRecDepth 20000 in
theorem ggX9_readWorker_X9_told : GoodIn wsX9_readWorker wsX9_told := goodIn_r _ [35, 7, 19, 1, 2, 3, 4, 5, 6, 8, 9, 10, 36, 37, 38, 11, 12, 13, 14, 15, 16, 17, 18, 20, 21, 22, 23, 24, 25, 26, 27, 28, 29, 30, 31, 39, 40, 41, 42, 43, 44, 45, 46, 47, 48, 49, 50, 51, 52, 53] (by decide +kernel) (by decide +kernel)
set_option maxRecDepth 20000 in
theorem gX9_readWorker_X9_told : GoodIn wsX9_readWorker (wsV RX9 95 RX9 yX9_told wsX9_told) := goodIn_app (goodIn_of _ (by decide +kernel)) ggX9_readWorker_X9_told
theorem dX9_readWorker_0 : decode cX9_readWorker 0 = .ok (.aload_n 0, 1) := by decide +kernel
theorem dX9_readWorker_1 : decode cX9_readWorker 1 = .ok (.getfield 73, 3) := by decide +kernel
theorem dX9_readWorker_4 : decode cX9_readWorker 4 = .ok (.bipush 57, 2) := by decide +kernel
theorem dX9_readWorker_6 : decode cX9_readWorker 6 = .ok (.iaload, 1) := by decide +kernel
theorem dX9_readWorker_7 : decode cX9_readWorker 7 = .ok (.iconst 4, 1) := by decide +kernel
theorem dX9_readWorker_8 : decode cX9_readWorker 8 = .ok (.if_icmp .ne 9, 3) := by decide +kernel
theorem dX9_readWorker_11 : decode cX9_readWorker 11 = .ok (.aload_n 0, 1) := by decide +kernel
theorem dX9_readWorker_12 : decode cX9_readWorker 12 = .ok (.iconst 3, 1) := by decide +kernel
theorem dX9_readWorker_13 : decode cX9_readWorker 13 = .ok (.invokevirtual 79, 3) := by decide +kernel
theorem dX9_readWorker_16 : decode cX9_readWorker 16 = .ok (.ireturn, 1) := by decide +kernel
theorem dX9_readWorker_17 : decode cX9_readWorker 17 = .ok (.aload_n 0, 1) := by decide +kernel
theorem dX9_readWorker_18 : decode cX9_readWorker 18 = .ok (.invokevirtual 86, 3) := by decide +kernel
theorem dX9_readWorker_21 : decode cX9_readWorker 21 = .ok (.bipush 58, 2) := by decide +kernel
theorem dX9_readWorker_23 : decode cX9_readWorker 23 = .ok (.bipush 13, 2) := by decide +kernel
theorem dX9_readWorker_25 : decode cX9_readWorker 25 = .ok (.aload_n 0, 1) := by decide +kernel
theorem dX9_readWorker_26 : decode cX9_readWorker 26 = .ok (.getfield 73, 3) := by decide +kernel
theorem dX9_readWorker_29 : decode cX9_readWorker 29 = .ok (.bipush 57, 2) := by decide +kernel
theorem dX9_readWorker_31 : decode cX9_readWorker 31 = .ok (.iaload, 1) := by decide +kernel
theorem dX9_readWorker_32 : decode cX9_readWorker 32 = .ok (.imul, 1) := by decide +kernel
theorem dX9_readWorker_33 : decode cX9_readWorker 33 = .ok (.iadd, 1) := by decide +kernel
theorem dX9_readWorker_34 : decode cX9_readWorker 34 = .ok (.istore_n 1, 1) := by decide +kernel
theorem dX9_readWorker_35 : decode cX9_readWorker 35 = .ok (.aload_n 0, 1) := by decide +kernel
theorem dX9_readWorker_36 : decode cX9_readWorker 36 = .ok (.iload_n 1, 1) := by decide +kernel
theorem dX9_readWorker_37 : decode cX9_readWorker 37 = .ok (.iconst 0, 1) := by decide +kernel
theorem dX9_readWorker_38 : decode cX9_readWorker 38 = .ok (.iadd, 1) := by decide +kernel
theorem dX9_readWorker_39 : decode cX9_readWorker 39 = .ok (.iconst 1, 1) := by decide +kernel
theorem dX9_readWorker_40 : decode cX9_readWorker 40 = .ok (.sipush 999, 3) := by decide +kernel
theorem dX9_readWorker_43 : decode cX9_readWorker 43 = .ok (.invokevirtual 95, 3) := by decide +kernel
theorem dX9_readWorker_46 : decode cX9_readWorker 46 = .ok (.ifCond .eq 17, 3) := by decide +kernel
theorem dX9_readWorker_49 : decode cX9_readWorker 49 = .ok (.aload_n 0, 1) := by decide +kernel
theorem dX9_readWorker_50 : decode cX9_readWorker 50 = .ok (.iload_n 1, 1) := by decide +kernel
theorem dX9_readWorker_51 : decode cX9_readWorker 51 = .ok (.iconst 1, 1) := by decide +kernel
theorem dX9_readWorker_52 : decode cX9_readWorker 52 = .ok (.iadd, 1) := by decide +kernel
theorem dX9_readWorker_53 : decode cX9_readWorker 53 = .ok (.iconst 0, 1) := by decide +kernel
theorem dX9_readWorker_54 : decode cX9_readWorker 54 = .ok (.sipush 9999, 3) := by decide +kernel
theorem dX9_readWorker_57 : decode cX9_readWorker 57 = .ok (.invokevirtual 95, 3) := by decide +kernel
theorem dX9_readWorker_60 : decode cX9_readWorker 60 = .ok (.ifCond .ne 5, 3) := by decide +kernel
theorem dX9_readWorker_63 : decode cX9_readWorker 63 = .ok (.iconst 0, 1) := by decide +kernel
theorem dX9_readWorker_64 : decode cX9_readWorker 64 = .ok (.ireturn, 1) := by decide +kernel
theorem dX9_readWorker_65 : decode cX9_readWorker 65 = .ok (.aload_n 0, 1) := by decide +kernel
theorem dX9_readWorker_66 : decode cX9_readWorker 66 = .ok (.getfield 73, 3) := by decide +kernel
theorem dX9_readWorker_69 : decode cX9_readWorker 69 = .ok (.bipush 57, 2) := by decide +kernel
theorem dX9_readWorker_71 : decode cX9_readWorker 71 = .ok (.dup2, 1) := by decide +kernel
theorem dX9_readWorker_72 : decode cX9_readWorker 72 = .ok (.iaload, 1) := by decide +kernel
theorem dX9_readWorker_73 : decode cX9_readWorker 73 = .ok (.iconst 1, 1) := by decide +kernel
theorem dX9_readWorker_74 : decode cX9_readWorker 74 = .ok (.iadd, 1) := by decide +kernel
theorem dX9_readWorker_75 : decode cX9_readWorker 75 = .ok (.iastore, 1) := by decide +kernel
theorem dX9_readWorker_76 : decode cX9_readWorker 76 = .ok (.iconst 1, 1) := by decide +kernel
theorem dX9_readWorker_77 : decode cX9_readWorker 77 = .ok (.ireturn, 1) := by decide +kernel
set_option maxRecDepth 20000 in
theorem ggX9_readLine_X9_readBank : GoodIn wsX9_readLine wsX9_readBank := goodIn_r _ [5, 6, 7, 8, 9, 4, 10, 11, 12, 13, 14, 15, 16, 17, 18, 19, 20, 21, 22, 23, 24, 25, 26, 27, 28, 29, 30, 31, 32, 33, 34, 35, 36, 37, 38, 39, 40, 41, 42, 43, 44, 45, 46, 47, 48, 49, 50, 67, 68, 69, 70, 71, 72, 73, 74, 75, 76, 77, 78, 79, 80, 81] (by decide +kernel) (by decide +kernel)
set_option maxRecDepth 20000 in
theorem gX9_readLine_X9_readBank : GoodIn wsX9_readLine (wsV RX9 98 RX9 yX9_readBank wsX9_readBank) := goodIn_app (goodIn_of _ (by decide +kernel)) ggX9_readLine_X9_readBank
set_option maxRecDepth 20000 in
theorem ggX9_readLine_X9_six : GoodIn wsX9_readLine wsX9_six := goodIn_r _ [53, 54, 8, 9, 4, 10, 6, 11] (by decide +kernel) (by decide +kernel)
set_option maxRecDepth 20000 in
theorem gX9_readLine_X9_six : GoodIn wsX9_readLine (va_wsS RX9 102 yX9_six wsX9_six) := goodIn_app (goodIn_of _ (by decide +kernel)) ggX9_readLine_X9_six
set_option maxRecDepth 20000 in
theorem ggX9_readLine_X9_isWord : GoodIn wsX9_readLine wsX9_isWord := goodIn_r _ [15, 16, 17, 67, 68, 69, 70, 71, 72, 73, 74, 75, 76, 77, 78, 79, 80, 81] (by decide +kernel) (by decide +kernel)
set_option maxRecDepth 20000 in
theorem gX9_readLine_X9_isWord : GoodIn wsX9_readLine (wsV RX9 91 RX9 yX9_isWord wsX9_isWord) := goodIn_app (goodIn_of _ (by decide +kernel)) ggX9_readLine_X9_isWord
set_option maxRecDepth 20000 in
theorem ggX9_readLine_X9_readSeason : GoodIn wsX9_readLine wsX9_readSeason := goodIn_r _ [58, 47, 18, 19, 20, 4, 21, 16, 22, 23, 24, 25, 26, 27, 28, 29, 30, 31, 17, 32, 6, 11, 33, 34, 35, 36, 37, 38, 39, 40, 41, 42, 43, 44, 45, 46, 48, 49, 50, 67, 68, 69, 70, 71, 72, 73, 74, 75, 76, 77, 78, 79, 80, 81] (by decide +kernel) (by decide +kernel)
set_option maxRecDepth 20000 in
theorem gX9_readLine_X9_readSeason : GoodIn wsX9_readLine (wsV RX9 106 RX9 yX9_readSeason wsX9_readSeason) := goodIn_app (goodIn_of _ (by decide +kernel)) ggX9_readLine_X9_readSeason
set_option maxRecDepth 20000 in
theorem ggX9_readLine_X9_readNotice : GoodIn wsX9_readLine wsX9_readNotice := goodIn_r _ [62, 47, 18, 19, 20, 4, 21, 16, 22, 23, 24, 25, 26, 27, 28, 29, 30, 31, 17, 32, 6, 11, 33, 34, 35, 36, 37, 38, 39, 40, 41, 42, 43, 44, 45, 46, 48, 49, 50, 67, 68, 69, 70, 71, 72, 73, 74, 75, 76, 77, 78, 79, 80, 81] (by decide +kernel) (by decide +kernel)
set_option maxRecDepth 20000 in
theorem gX9_readLine_X9_readNotice : GoodIn wsX9_readLine (wsV RX9 109 RX9 yX9_readNotice wsX9_readNotice) := goodIn_app (goodIn_of _ (by decide +kernel)) ggX9_readLine_X9_readNotice
set_option maxRecDepth 20000 in
theorem ggX9_readLine_X9_readWorker : GoodIn wsX9_readLine wsX9_readWorker := goodIn_r _ [66, 47, 18, 19, 20, 4, 21, 16, 22, 23, 24, 25, 26, 27, 28, 29, 30, 31, 17, 32, 6, 11, 33, 34, 35, 36, 37, 38, 39, 40, 41, 42, 43, 44, 45, 46, 48, 49, 50, 67, 68, 69, 70, 71, 72, 73, 74, 75, 76, 77, 78, 79, 80, 81] (by decide +kernel) (by decide +kernel)
set_option maxRecDepth 20000 in
theorem gX9_readLine_X9_readWorker : GoodIn wsX9_readLine (wsV RX9 112 RX9 yX9_readWorker wsX9_readWorker) := goodIn_app (goodIn_of _ (by decide +kernel)) ggX9_readLine_X9_readWorker
set_option maxRecDepth 20000 in
theorem ggX9_readLine_X9_bad : GoodIn wsX9_readLine wsX9_bad := goodIn_r _ [21, 16, 22, 23, 24, 67, 68, 69, 70, 71, 72, 73, 74, 75, 76, 77, 78, 79, 80, 81] (by decide +kernel) (by decide +kernel)
set_option maxRecDepth 20000 in
theorem gX9_readLine_X9_bad : GoodIn wsX9_readLine (wsV RX9 79 RX9 yX9_bad wsX9_bad) := goodIn_app (goodIn_of _ (by decide +kernel)) ggX9_readLine_X9_bad
theorem dX9_readLine_0 : decode cX9_readLine 0 = .ok (.iload_n 1, 1) := by decide +kernel
theorem dX9_readLine_1 : decode cX9_readLine 1 = .ok (.ifCond .eq 8, 3) := by decide +kernel
theorem dX9_readLine_4 : decode cX9_readLine 4 = .ok (.aload_n 0, 1) := by decide +kernel
theorem dX9_readLine_5 : decode cX9_readLine 5 = .ok (.invokevirtual 98, 3) := by decide +kernel
theorem dX9_readLine_8 : decode cX9_readLine 8 = .ok (.ireturn, 1) := by decide +kernel
theorem dX9_readLine_9 : decode cX9_readLine 9 = .ok (.aload_n 0, 1) := by decide +kernel
theorem dX9_readLine_10 : decode cX9_readLine 10 = .ok (.bipush 115, 2) := by decide +kernel
theorem dX9_readLine_12 : decode cX9_readLine 12 = .ok (.bipush 101, 2) := by decide +kernel
theorem dX9_readLine_14 : decode cX9_readLine 14 = .ok (.bipush 97, 2) := by decide +kernel
theorem dX9_readLine_16 : decode cX9_readLine 16 = .ok (.bipush 115, 2) := by decide +kernel
theorem dX9_readLine_18 : decode cX9_readLine 18 = .ok (.bipush 111, 2) := by decide +kernel
theorem dX9_readLine_20 : decode cX9_readLine 20 = .ok (.bipush 110, 2) := by decide +kernel
theorem dX9_readLine_22 : decode cX9_readLine 22 = .ok (.invokestatic 102, 3) := by decide +kernel
theorem dX9_readLine_25 : decode cX9_readLine 25 = .ok (.invokevirtual 91, 3) := by decide +kernel
theorem dX9_readLine_28 : decode cX9_readLine 28 = .ok (.ifCond .eq 8, 3) := by decide +kernel
theorem dX9_readLine_31 : decode cX9_readLine 31 = .ok (.aload_n 0, 1) := by decide +kernel
theorem dX9_readLine_32 : decode cX9_readLine 32 = .ok (.invokevirtual 106, 3) := by decide +kernel
theorem dX9_readLine_35 : decode cX9_readLine 35 = .ok (.ireturn, 1) := by decide +kernel
theorem dX9_readLine_36 : decode cX9_readLine 36 = .ok (.aload_n 0, 1) := by decide +kernel
theorem dX9_readLine_37 : decode cX9_readLine 37 = .ok (.bipush 110, 2) := by decide +kernel
theorem dX9_readLine_39 : decode cX9_readLine 39 = .ok (.bipush 111, 2) := by decide +kernel
theorem dX9_readLine_41 : decode cX9_readLine 41 = .ok (.bipush 116, 2) := by decide +kernel
theorem dX9_readLine_43 : decode cX9_readLine 43 = .ok (.bipush 105, 2) := by decide +kernel
theorem dX9_readLine_45 : decode cX9_readLine 45 = .ok (.bipush 99, 2) := by decide +kernel
theorem dX9_readLine_47 : decode cX9_readLine 47 = .ok (.bipush 101, 2) := by decide +kernel
theorem dX9_readLine_49 : decode cX9_readLine 49 = .ok (.invokestatic 102, 3) := by decide +kernel
theorem dX9_readLine_52 : decode cX9_readLine 52 = .ok (.invokevirtual 91, 3) := by decide +kernel
theorem dX9_readLine_55 : decode cX9_readLine 55 = .ok (.ifCond .eq 8, 3) := by decide +kernel
theorem dX9_readLine_58 : decode cX9_readLine 58 = .ok (.aload_n 0, 1) := by decide +kernel
theorem dX9_readLine_59 : decode cX9_readLine 59 = .ok (.invokevirtual 109, 3) := by decide +kernel
theorem dX9_readLine_62 : decode cX9_readLine 62 = .ok (.ireturn, 1) := by decide +kernel
theorem dX9_readLine_63 : decode cX9_readLine 63 = .ok (.aload_n 0, 1) := by decide +kernel
theorem dX9_readLine_64 : decode cX9_readLine 64 = .ok (.bipush 119, 2) := by decide +kernel
theorem dX9_readLine_66 : decode cX9_readLine 66 = .ok (.bipush 111, 2) := by decide +kernel
theorem dX9_readLine_68 : decode cX9_readLine 68 = .ok (.bipush 114, 2) := by decide +kernel
theorem dX9_readLine_70 : decode cX9_readLine 70 = .ok (.bipush 107, 2) := by decide +kernel
theorem dX9_readLine_72 : decode cX9_readLine 72 = .ok (.bipush 101, 2) := by decide +kernel
theorem dX9_readLine_74 : decode cX9_readLine 74 = .ok (.bipush 114, 2) := by decide +kernel
theorem dX9_readLine_76 : decode cX9_readLine 76 = .ok (.invokestatic 102, 3) := by decide +kernel
theorem dX9_readLine_79 : decode cX9_readLine 79 = .ok (.invokevirtual 91, 3) := by decide +kernel
theorem dX9_readLine_82 : decode cX9_readLine 82 = .ok (.ifCond .eq 10, 3) := by decide +kernel
theorem dX9_readLine_85 : decode cX9_readLine 85 = .ok (.aload_n 0, 1) := by decide +kernel
theorem dX9_readLine_86 : decode cX9_readLine 86 = .ok (.invokevirtual 112, 3) := by decide +kernel
theorem dX9_readLine_89 : decode cX9_readLine 89 = .ok (.goto 8, 3) := by decide +kernel
theorem dX9_readLine_92 : decode cX9_readLine 92 = .ok (.aload_n 0, 1) := by decide +kernel
theorem dX9_readLine_93 : decode cX9_readLine 93 = .ok (.iconst 1, 1) := by decide +kernel
theorem dX9_readLine_94 : decode cX9_readLine 94 = .ok (.invokevirtual 79, 3) := by decide +kernel
theorem dX9_readLine_97 : decode cX9_readLine 97 = .ok (.ireturn, 1) := by decide +kernel
set_option maxRecDepth 20000 in
theorem ggX9_readEnd_X9_bad : GoodIn wsX9_readEnd wsX9_bad := goodIn_r _ [6, 1, 7, 8, 9, 31, 32, 33, 34, 35, 36, 37, 38, 39, 40, 41, 42, 43, 44, 45] (by decide +kernel) (by decide +kernel)
set_option maxRecDepth 20000 in
theorem gX9_readEnd_X9_bad : GoodIn wsX9_readEnd (wsV RX9 79 RX9 yX9_bad wsX9_bad) := goodIn_app (goodIn_of _ (by decide +kernel)) ggX9_readEnd_X9_bad
set_option maxRecDepth 20000 in
theorem ggX9_readEnd_X9_go : GoodIn wsX9_readEnd wsX9_go := goodIn_r _ [13, 14, 15, 16, 8, 1, 17, 18, 19, 20, 21, 22, 5, 23, 24, 25, 26, 27, 28, 29, 30, 31, 32, 33, 34, 35, 36, 37, 38, 39, 40, 41, 42, 43, 44, 45] (by decide +kernel) (by decide +kernel)
set_option maxRecDepth 20000 in
theorem gX9_readEnd_X9_go : GoodIn wsX9_readEnd (wsV RX9 86 RX9 yX9_go wsX9_go) := goodIn_app (goodIn_of _ (by decide +kernel)) ggX9_readEnd_X9_go
theorem dX9_readEnd_0 : decode cX9_readEnd 0 = .ok (.aload_n 0, 1) := by decide +kernel
theorem dX9_readEnd_1 : decode cX9_readEnd 1 = .ok (.getfield 27, 3) := by decide +kernel
theorem dX9_readEnd_4 : decode cX9_readEnd 4 = .ok (.iconst 4, 1) := by decide +kernel
theorem dX9_readEnd_5 : decode cX9_readEnd 5 = .ok (.if_icmp .eq 9, 3) := by decide +kernel
theorem dX9_readEnd_8 : decode cX9_readEnd 8 = .ok (.aload_n 0, 1) := by decide +kernel
theorem dX9_readEnd_9 : decode cX9_readEnd 9 = .ok (.iconst 1, 1) := by decide +kernel
theorem dX9_readEnd_10 : decode cX9_readEnd 10 = .ok (.invokevirtual 79, 3) := by decide +kernel
theorem dX9_readEnd_13 : decode cX9_readEnd 13 = .ok (.ireturn, 1) := by decide +kernel
theorem dX9_readEnd_14 : decode cX9_readEnd 14 = .ok (.aload_n 0, 1) := by decide +kernel
theorem dX9_readEnd_15 : decode cX9_readEnd 15 = .ok (.invokevirtual 86, 3) := by decide +kernel
theorem dX9_readEnd_18 : decode cX9_readEnd 18 = .ok (.iconst 1, 1) := by decide +kernel
theorem dX9_readEnd_19 : decode cX9_readEnd 19 = .ok (.ireturn, 1) := by decide +kernel
set_option maxRecDepth 20000 in
theorem ggX9_text_X9_go : GoodIn wsX9_text wsX9_go := goodIn_r _ [15, 5, 3, 16, 17, 7, 18, 19, 20, 21, 22, 23, 14, 24, 25, 26, 27, 28, 29, 30, 31, 79, 80, 81, 82, 83, 84, 85, 86, 87, 88, 89, 90, 91, 92, 93] (by decide +kernel) (by decide +kernel)
set_option maxRecDepth 20000 in
theorem gX9_text_X9_go : GoodIn wsX9_text (wsV RX9 86 RX9 yX9_go wsX9_go) := goodIn_app (goodIn_of _ (by decide +kernel)) ggX9_text_X9_go
set_option maxRecDepth 20000 in
theorem ggX9_text_X9_readLine : GoodIn wsX9_text wsX9_readLine := goodIn_r _ [35, 36, 37, 38, 14, 39, 20, 40, 41, 42, 43, 21, 44, 45, 46, 47, 7, 18, 48, 49, 50, 51, 4, 17, 8, 11, 12, 13, 15, 5, 3, 16, 19, 22, 23, 24, 25, 26, 27, 28, 29, 30, 31, 52, 53, 54, 55, 6, 56, 57, 58, 59, 60, 61, 62, 63, 64, 65, 66, 67, 68, 69, 70, 71, 72, 73, 74, 79, 80, 81, 82, 83, 84, 85, 86, 87, 88, 89, 90, 91, 92, 93] (by decide +kernel) (by decide +kernel)
set_option maxRecDepth 20000 in
theorem gX9_text_X9_readLine : GoodIn wsX9_text (wsV RX9 115 RX9 yX9_readLine wsX9_readLine) := goodIn_app (goodIn_of _ (by decide +kernel)) ggX9_text_X9_readLine
set_option maxRecDepth 20000 in
theorem ggX9_text_X9_readEnd : GoodIn wsX9_text wsX9_readEnd := goodIn_r _ [78, 7, 48, 49, 50, 14, 51, 4, 17, 8, 11, 12, 13, 15, 5, 3, 16, 18, 19, 20, 21, 22, 23, 24, 25, 26, 27, 28, 29, 30, 31, 79, 80, 81, 82, 83, 84, 85, 86, 87, 88, 89, 90, 91, 92, 93] (by decide +kernel) (by decide +kernel)
set_option maxRecDepth 20000 in
theorem gX9_text_X9_readEnd : GoodIn wsX9_text (wsV RX9 119 RX9 yX9_readEnd wsX9_readEnd) := goodIn_app (goodIn_of _ (by decide +kernel)) ggX9_text_X9_readEnd
theorem dX9_text_0 : decode cX9_text 0 = .ok (.aload_n 0, 1) := by decide +kernel
theorem dX9_text_1 : decode cX9_text 1 = .ok (.iconst 0, 1) := by decide +kernel
theorem dX9_text_2 : decode cX9_text 2 = .ok (.putfield 1, 3) := by decide +kernel
theorem dX9_text_5 : decode cX9_text 5 = .ok (.aload_n 0, 1) := by decide +kernel
theorem dX9_text_6 : decode cX9_text 6 = .ok (.aload_n 0, 1) := by decide +kernel
theorem dX9_text_7 : decode cX9_text 7 = .ok (.getfield 11, 3) := by decide +kernel
theorem dX9_text_10 : decode cX9_text 10 = .ok (.putfield 18, 3) := by decide +kernel
theorem dX9_text_13 : decode cX9_text 13 = .ok (.aload_n 0, 1) := by decide +kernel
theorem dX9_text_14 : decode cX9_text 14 = .ok (.iconst 0, 1) := by decide +kernel
theorem dX9_text_15 : decode cX9_text 15 = .ok (.putfield 11, 3) := by decide +kernel
theorem dX9_text_18 : decode cX9_text 18 = .ok (.aload_n 0, 1) := by decide +kernel
theorem dX9_text_19 : decode cX9_text 19 = .ok (.iconst 0, 1) := by decide +kernel
theorem dX9_text_20 : decode cX9_text 20 = .ok (.putfield 58, 3) := by decide +kernel
theorem dX9_text_23 : decode cX9_text 23 = .ok (.aload_n 0, 1) := by decide +kernel
theorem dX9_text_24 : decode cX9_text 24 = .ok (.iconst 0, 1) := by decide +kernel
theorem dX9_text_25 : decode cX9_text 25 = .ok (.putfield 21, 3) := by decide +kernel
theorem dX9_text_28 : decode cX9_text 28 = .ok (.iconst 0, 1) := by decide +kernel
theorem dX9_text_29 : decode cX9_text 29 = .ok (.istore_n 1, 1) := by decide +kernel
theorem dX9_text_30 : decode cX9_text 30 = .ok (.iconst 0, 1) := by decide +kernel
theorem dX9_text_31 : decode cX9_text 31 = .ok (.istore_n 2, 1) := by decide +kernel
theorem dX9_text_32 : decode cX9_text 32 = .ok (.iload_n 2, 1) := by decide +kernel
theorem dX9_text_33 : decode cX9_text 33 = .ok (.sipush 1567, 3) := by decide +kernel
theorem dX9_text_36 : decode cX9_text 36 = .ok (.if_icmp .ge 16, 3) := by decide +kernel
theorem dX9_text_39 : decode cX9_text 39 = .ok (.aload_n 0, 1) := by decide +kernel
theorem dX9_text_40 : decode cX9_text 40 = .ok (.getfield 73, 3) := by decide +kernel
theorem dX9_text_43 : decode cX9_text 43 = .ok (.iload_n 2, 1) := by decide +kernel
theorem dX9_text_44 : decode cX9_text 44 = .ok (.iconst 0, 1) := by decide +kernel
theorem dX9_text_45 : decode cX9_text 45 = .ok (.iastore, 1) := by decide +kernel
theorem dX9_text_46 : decode cX9_text 46 = .ok (.iinc 2 1, 3) := by decide +kernel
theorem dX9_text_49 : decode cX9_text 49 = .ok (.goto (-17), 3) := by decide +kernel
theorem dX9_text_52 : decode cX9_text 52 = .ok (.aload_n 0, 1) := by decide +kernel
theorem dX9_text_53 : decode cX9_text 53 = .ok (.getfield 73, 3) := by decide +kernel
theorem dX9_text_56 : decode cX9_text 56 = .ok (.iconst 2, 1) := by decide +kernel
theorem dX9_text_57 : decode cX9_text 57 = .ok (.iconst 1, 1) := by decide +kernel
theorem dX9_text_58 : decode cX9_text 58 = .ok (.iastore, 1) := by decide +kernel
theorem dX9_text_59 : decode cX9_text 59 = .ok (.aload_n 0, 1) := by decide +kernel
theorem dX9_text_60 : decode cX9_text 60 = .ok (.invokevirtual 86, 3) := by decide +kernel
theorem dX9_text_63 : decode cX9_text 63 = .ok (.aload_n 0, 1) := by decide +kernel
theorem dX9_text_64 : decode cX9_text 64 = .ok (.getfield 27, 3) := by decide +kernel
theorem dX9_text_67 : decode cX9_text 67 = .ok (.ifCond .eq 39, 3) := by decide +kernel
theorem dX9_text_70 : decode cX9_text 70 = .ok (.aload_n 0, 1) := by decide +kernel
theorem dX9_text_71 : decode cX9_text 71 = .ok (.iload_n 1, 1) := by decide +kernel
theorem dX9_text_72 : decode cX9_text 72 = .ok (.ifCond .ne 7, 3) := by decide +kernel
theorem dX9_text_75 : decode cX9_text 75 = .ok (.iconst 1, 1) := by decide +kernel
theorem dX9_text_76 : decode cX9_text 76 = .ok (.goto 4, 3) := by decide +kernel
theorem dX9_text_79 : decode cX9_text 79 = .ok (.iconst 0, 1) := by decide +kernel
theorem dX9_text_80 : decode cX9_text 80 = .ok (.invokevirtual 115, 3) := by decide +kernel
theorem dX9_text_83 : decode cX9_text 83 = .ok (.ifCond .eq 10, 3) := by decide +kernel
theorem dX9_text_86 : decode cX9_text 86 = .ok (.aload_n 0, 1) := by decide +kernel
theorem dX9_text_87 : decode cX9_text 87 = .ok (.invokevirtual 119, 3) := by decide +kernel
theorem dX9_text_90 : decode cX9_text 90 = .ok (.ifCond .ne 10, 3) := by decide +kernel
theorem dX9_text_93 : decode cX9_text 93 = .ok (.iconst (-1), 1) := by decide +kernel
theorem dX9_text_94 : decode cX9_text 94 = .ok (.aload_n 0, 1) := by decide +kernel
theorem dX9_text_95 : decode cX9_text 95 = .ok (.getfield 61, 3) := by decide +kernel
theorem dX9_text_98 : decode cX9_text 98 = .ok (.isub, 1) := by decide +kernel
theorem dX9_text_99 : decode cX9_text 99 = .ok (.ireturn, 1) := by decide +kernel
theorem dX9_text_100 : decode cX9_text 100 = .ok (.iinc 1 1, 3) := by decide +kernel
theorem dX9_text_103 : decode cX9_text 103 = .ok (.goto (-40), 3) := by decide +kernel
theorem dX9_text_106 : decode cX9_text 106 = .ok (.iconst 0, 1) := by decide +kernel
theorem dX9_text_107 : decode cX9_text 107 = .ok (.istore_n 2, 1) := by decide +kernel
theorem dX9_text_108 : decode cX9_text 108 = .ok (.iload_n 2, 1) := by decide +kernel
theorem dX9_text_109 : decode cX9_text 109 = .ok (.sipush 1567, 3) := by decide +kernel
theorem dX9_text_112 : decode cX9_text 112 = .ok (.if_icmp .ge 21, 3) := by decide +kernel
theorem dX9_text_115 : decode cX9_text 115 = .ok (.aload_n 0, 1) := by decide +kernel
theorem dX9_text_116 : decode cX9_text 116 = .ok (.getfield 70, 3) := by decide +kernel
theorem dX9_text_119 : decode cX9_text 119 = .ok (.iload_n 2, 1) := by decide +kernel
theorem dX9_text_120 : decode cX9_text 120 = .ok (.aload_n 0, 1) := by decide +kernel
theorem dX9_text_121 : decode cX9_text 121 = .ok (.getfield 73, 3) := by decide +kernel
theorem dX9_text_124 : decode cX9_text 124 = .ok (.iload_n 2, 1) := by decide +kernel
theorem dX9_text_125 : decode cX9_text 125 = .ok (.iaload, 1) := by decide +kernel
theorem dX9_text_126 : decode cX9_text 126 = .ok (.iastore, 1) := by decide +kernel
theorem dX9_text_127 : decode cX9_text 127 = .ok (.iinc 2 1, 3) := by decide +kernel
theorem dX9_text_130 : decode cX9_text 130 = .ok (.goto (-22), 3) := by decide +kernel
theorem dX9_text_133 : decode cX9_text 133 = .ok (.aload_n 0, 1) := by decide +kernel
theorem dX9_text_134 : decode cX9_text 134 = .ok (.iconst 0, 1) := by decide +kernel
theorem dX9_text_135 : decode cX9_text 135 = .ok (.putfield 122, 3) := by decide +kernel
theorem dX9_text_138 : decode cX9_text 138 = .ok (.iload_n 1, 1) := by decide +kernel
theorem dX9_text_139 : decode cX9_text 139 = .ok (.ireturn, 1) := by decide +kernel
theorem dX9_fault_0 : decode cX9_fault 0 = .ok (.aload_n 0, 1) := by decide +kernel
theorem dX9_fault_1 : decode cX9_fault 1 = .ok (.iconst 0, 1) := by decide +kernel
theorem dX9_fault_2 : decode cX9_fault 2 = .ok (.putfield 1, 3) := by decide +kernel
theorem dX9_fault_5 : decode cX9_fault 5 = .ok (.aload_n 0, 1) := by decide +kernel
theorem dX9_fault_6 : decode cX9_fault 6 = .ok (.getfield 58, 3) := by decide +kernel
theorem dX9_fault_9 : decode cX9_fault 9 = .ok (.ireturn, 1) := by decide +kernel
theorem dX9_today_0 : decode cX9_today 0 = .ok (.aload_n 0, 1) := by decide +kernel
theorem dX9_today_1 : decode cX9_today 1 = .ok (.getfield 70, 3) := by decide +kernel
theorem dX9_today_4 : decode cX9_today 4 = .ok (.bipush 110, 2) := by decide +kernel
theorem dX9_today_6 : decode cX9_today 6 = .ok (.iaload, 1) := by decide +kernel
theorem dX9_today_7 : decode cX9_today 7 = .ok (.ireturn, 1) := by decide +kernel
set_option maxRecDepth 20000 in
theorem ggX9_isWorker_X9_isIn : GoodIn wsX9_isWorker wsX9_isIn := goodIn_r _ [5] (by decide +kernel) (by decide +kernel)
set_option maxRecDepth 20000 in
theorem gX9_isWorker_X9_isIn : GoodIn wsX9_isWorker (va_wsS RX9 82 yX9_isIn wsX9_isIn) := goodIn_app (goodIn_of _ (by decide +kernel)) ggX9_isWorker_X9_isIn
theorem dX9_isWorker_0 : decode cX9_isWorker 0 = .ok (.iload_n 1, 1) := by decide +kernel
theorem dX9_isWorker_1 : decode cX9_isWorker 1 = .ok (.iconst 0, 1) := by decide +kernel
theorem dX9_isWorker_2 : decode cX9_isWorker 2 = .ok (.aload_n 0, 1) := by decide +kernel
theorem dX9_isWorker_3 : decode cX9_isWorker 3 = .ok (.getfield 70, 3) := by decide +kernel
theorem dX9_isWorker_6 : decode cX9_isWorker 6 = .ok (.bipush 57, 2) := by decide +kernel
theorem dX9_isWorker_8 : decode cX9_isWorker 8 = .ok (.iaload, 1) := by decide +kernel
theorem dX9_isWorker_9 : decode cX9_isWorker 9 = .ok (.iconst 1, 1) := by decide +kernel
theorem dX9_isWorker_10 : decode cX9_isWorker 10 = .ok (.isub, 1) := by decide +kernel
theorem dX9_isWorker_11 : decode cX9_isWorker 11 = .ok (.invokestatic 82, 3) := by decide +kernel
theorem dX9_isWorker_14 : decode cX9_isWorker 14 = .ok (.ireturn, 1) := by decide +kernel
set_option maxRecDepth 20000 in
theorem ggX9_isDay_X9_isIn : GoodIn wsX9_isDay wsX9_isIn := goodIn_r _ [4] (by decide +kernel) (by decide +kernel)
set_option maxRecDepth 20000 in
theorem gX9_isDay_X9_isIn : GoodIn wsX9_isDay (va_wsS RX9 82 yX9_isIn wsX9_isIn) := goodIn_app (goodIn_of _ (by decide +kernel)) ggX9_isDay_X9_isIn
theorem dX9_isDay_0 : decode cX9_isDay 0 = .ok (.iload_n 0, 1) := by decide +kernel
theorem dX9_isDay_1 : decode cX9_isDay 1 = .ok (.iconst 0, 1) := by decide +kernel
theorem dX9_isDay_2 : decode cX9_isDay 2 = .ok (.sipush 363, 3) := by decide +kernel
theorem dX9_isDay_5 : decode cX9_isDay 5 = .ok (.invokestatic 82, 3) := by decide +kernel
theorem dX9_isDay_8 : decode cX9_isDay 8 = .ok (.ireturn, 1) := by decide +kernel
theorem dX9_its_0 : decode cX9_its 0 = .ok (.aload_n 0, 1) := by decide +kernel
theorem dX9_its_1 : decode cX9_its 1 = .ok (.getfield 70, 3) := by decide +kernel
theorem dX9_its_4 : decode cX9_its 4 = .ok (.bipush 58, 2) := by decide +kernel
theorem dX9_its_6 : decode cX9_its 6 = .ok (.bipush 13, 2) := by decide +kernel
theorem dX9_its_8 : decode cX9_its 8 = .ok (.iload_n 1, 1) := by decide +kernel
theorem dX9_its_9 : decode cX9_its 9 = .ok (.imul, 1) := by decide +kernel
theorem dX9_its_10 : decode cX9_its 10 = .ok (.iadd, 1) := by decide +kernel
theorem dX9_its_11 : decode cX9_its 11 = .ok (.iload_n 2, 1) := by decide +kernel
theorem dX9_its_12 : decode cX9_its 12 = .ok (.iadd, 1) := by decide +kernel
theorem dX9_its_13 : decode cX9_its 13 = .ok (.iaload, 1) := by decide +kernel
theorem dX9_its_14 : decode cX9_its 14 = .ok (.ireturn, 1) := by decide +kernel
theorem dX9_adds_0 : decode cX9_adds 0 = .ok (.aload_n 0, 1) := by decide +kernel
theorem dX9_adds_1 : decode cX9_adds 1 = .ok (.getfield 70, 3) := by decide +kernel
theorem dX9_adds_4 : decode cX9_adds 4 = .ok (.bipush 58, 2) := by decide +kernel
theorem dX9_adds_6 : decode cX9_adds 6 = .ok (.bipush 13, 2) := by decide +kernel
theorem dX9_adds_8 : decode cX9_adds 8 = .ok (.iload_n 1, 1) := by decide +kernel
theorem dX9_adds_9 : decode cX9_adds 9 = .ok (.imul, 1) := by decide +kernel
theorem dX9_adds_10 : decode cX9_adds 10 = .ok (.iadd, 1) := by decide +kernel
theorem dX9_adds_11 : decode cX9_adds 11 = .ok (.iload_n 2, 1) := by decide +kernel
theorem dX9_adds_12 : decode cX9_adds 12 = .ok (.iadd, 1) := by decide +kernel
theorem dX9_adds_13 : decode cX9_adds 13 = .ok (.dup2, 1) := by decide +kernel
theorem dX9_adds_14 : decode cX9_adds 14 = .ok (.iaload, 1) := by decide +kernel
theorem dX9_adds_15 : decode cX9_adds 15 = .ok (.iload_n 3, 1) := by decide +kernel
theorem dX9_adds_16 : decode cX9_adds 16 = .ok (.iadd, 1) := by decide +kernel
theorem dX9_adds_17 : decode cX9_adds 17 = .ok (.iastore, 1) := by decide +kernel
theorem dX9_adds_18 : decode cX9_adds 18 = .ok (.return_, 1) := by decide +kernel
set_option maxRecDepth 20000 in
theorem ggX9_isHere_X9_isWorker : GoodIn wsX9_isHere wsX9_isWorker := goodIn_r _ [5, 6, 7, 8, 4, 9, 14, 15, 16, 17, 18, 19, 20, 21, 22, 23, 24, 25, 26, 27, 28] (by decide +kernel) (by decide +kernel)
set_option maxRecDepth 20000 in
theorem gX9_isHere_X9_isWorker : GoodIn wsX9_isHere (wsV RX9 125 RX9 yX9_isWorker wsX9_isWorker) := goodIn_app (goodIn_of _ (by decide +kernel)) ggX9_isHere_X9_isWorker
set_option maxRecDepth 20000 in
theorem ggX9_isHere_X9_its : GoodIn wsX9_isHere wsX9_its := goodIn_r _ [13, 6, 14, 15, 16, 17, 18, 19, 20, 21, 22, 23, 24, 25, 26, 27, 28] (by decide +kernel) (by decide +kernel)
set_option maxRecDepth 20000 in
theorem gX9_isHere_X9_its : GoodIn wsX9_isHere (wsV RX9 128 RX9 yX9_its wsX9_its) := goodIn_app (goodIn_of _ (by decide +kernel)) ggX9_isHere_X9_its
theorem dX9_isHere_0 : decode cX9_isHere 0 = .ok (.aload_n 0, 1) := by decide +kernel
theorem dX9_isHere_1 : decode cX9_isHere 1 = .ok (.iload_n 1, 1) := by decide +kernel
theorem dX9_isHere_2 : decode cX9_isHere 2 = .ok (.invokevirtual 125, 3) := by decide +kernel
theorem dX9_isHere_5 : decode cX9_isHere 5 = .ok (.ifCond .eq 17, 3) := by decide +kernel
theorem dX9_isHere_8 : decode cX9_isHere 8 = .ok (.aload_n 0, 1) := by decide +kernel
theorem dX9_isHere_9 : decode cX9_isHere 9 = .ok (.iload_n 1, 1) := by decide +kernel
theorem dX9_isHere_10 : decode cX9_isHere 10 = .ok (.bipush 9, 2) := by decide +kernel
theorem dX9_isHere_12 : decode cX9_isHere 12 = .ok (.invokevirtual 128, 3) := by decide +kernel
theorem dX9_isHere_15 : decode cX9_isHere 15 = .ok (.ifCond .ne 7, 3) := by decide +kernel
theorem dX9_isHere_18 : decode cX9_isHere 18 = .ok (.iconst 1, 1) := by decide +kernel
theorem dX9_isHere_19 : decode cX9_isHere 19 = .ok (.goto 4, 3) := by decide +kernel
theorem dX9_isHere_22 : decode cX9_isHere 22 = .ok (.iconst 0, 1) := by decide +kernel
theorem dX9_isHere_23 : decode cX9_isHere 23 = .ok (.ireturn, 1) := by decide +kernel
theorem dX9_cell_0 : decode cX9_cell 0 = .ok (.aload_n 0, 1) := by decide +kernel
theorem dX9_cell_1 : decode cX9_cell 1 = .ok (.getfield 70, 3) := by decide +kernel
theorem dX9_cell_4 : decode cX9_cell 4 = .ok (.bipush 111, 2) := by decide +kernel
theorem dX9_cell_6 : decode cX9_cell 6 = .ok (.sipush 364, 3) := by decide +kernel
theorem dX9_cell_9 : decode cX9_cell 9 = .ok (.iload_n 1, 1) := by decide +kernel
theorem dX9_cell_10 : decode cX9_cell 10 = .ok (.imul, 1) := by decide +kernel
theorem dX9_cell_11 : decode cX9_cell 11 = .ok (.iadd, 1) := by decide +kernel
theorem dX9_cell_12 : decode cX9_cell 12 = .ok (.iload_n 2, 1) := by decide +kernel
theorem dX9_cell_13 : decode cX9_cell 13 = .ok (.iadd, 1) := by decide +kernel
theorem dX9_cell_14 : decode cX9_cell 14 = .ok (.iaload, 1) := by decide +kernel
theorem dX9_cell_15 : decode cX9_cell 15 = .ok (.ireturn, 1) := by decide +kernel
set_option maxRecDepth 20000 in
theorem ggX9_changedOf_X9_cell : GoodIn wsX9_changedOf wsX9_cell := goodIn_r _ [5, 6, 7, 8, 9, 10, 11, 12, 13, 14, 15, 16, 17, 18, 19, 20, 21] (by decide +kernel) (by decide +kernel)
set_option maxRecDepth 20000 in
theorem gX9_changedOf_X9_cell : GoodIn wsX9_changedOf (wsV RX9 132 RX9 yX9_cell wsX9_cell) := goodIn_app (goodIn_of _ (by decide +kernel)) ggX9_changedOf_X9_cell
theorem dX9_changedOf_0 : decode cX9_changedOf 0 = .ok (.aload_n 0, 1) := by decide +kernel
theorem dX9_changedOf_1 : decode cX9_changedOf 1 = .ok (.iload_n 1, 1) := by decide +kernel
theorem dX9_changedOf_2 : decode cX9_changedOf 2 = .ok (.iload_n 2, 1) := by decide +kernel
theorem dX9_changedOf_3 : decode cX9_changedOf 3 = .ok (.invokevirtual 132, 3) := by decide +kernel
theorem dX9_changedOf_6 : decode cX9_changedOf 6 = .ok (.sipush 128, 3) := by decide +kernel
theorem dX9_changedOf_9 : decode cX9_changedOf 9 = .ok (.irem, 1) := by decide +kernel
theorem dX9_changedOf_10 : decode cX9_changedOf 10 = .ok (.iconst 1, 1) := by decide +kernel
theorem dX9_changedOf_11 : decode cX9_changedOf 11 = .ok (.isub, 1) := by decide +kernel
theorem dX9_changedOf_12 : decode cX9_changedOf 12 = .ok (.ireturn, 1) := by decide +kernel
set_option maxRecDepth 20000 in
theorem ggX9_workedOf_X9_cell : GoodIn wsX9_workedOf wsX9_cell := goodIn_r _ [5, 6, 7, 8, 9, 10, 11, 12, 13, 14, 15, 16, 17, 18, 19, 20, 21] (by decide +kernel) (by decide +kernel)
set_option maxRecDepth 20000 in
theorem gX9_workedOf_X9_cell : GoodIn wsX9_workedOf (wsV RX9 132 RX9 yX9_cell wsX9_cell) := goodIn_app (goodIn_of _ (by decide +kernel)) ggX9_workedOf_X9_cell
theorem dX9_workedOf_0 : decode cX9_workedOf 0 = .ok (.aload_n 0, 1) := by decide +kernel
theorem dX9_workedOf_1 : decode cX9_workedOf 1 = .ok (.iload_n 1, 1) := by decide +kernel
theorem dX9_workedOf_2 : decode cX9_workedOf 2 = .ok (.iload_n 2, 1) := by decide +kernel
theorem dX9_workedOf_3 : decode cX9_workedOf 3 = .ok (.invokevirtual 132, 3) := by decide +kernel
theorem dX9_workedOf_6 : decode cX9_workedOf 6 = .ok (.sipush 128, 3) := by decide +kernel
theorem dX9_workedOf_9 : decode cX9_workedOf 9 = .ok (.idiv, 1) := by decide +kernel
theorem dX9_workedOf_10 : decode cX9_workedOf 10 = .ok (.sipush 128, 3) := by decide +kernel
theorem dX9_workedOf_13 : decode cX9_workedOf 13 = .ok (.irem, 1) := by decide +kernel
theorem dX9_workedOf_14 : decode cX9_workedOf 14 = .ok (.ireturn, 1) := by decide +kernel
set_option maxRecDepth 20000 in
theorem ggX9_kindOf_X9_cell : GoodIn wsX9_kindOf wsX9_cell := goodIn_r _ [5, 6, 7, 8, 9, 10, 11, 12, 13, 14, 15, 16, 17, 18, 19, 20, 21] (by decide +kernel) (by decide +kernel)
set_option maxRecDepth 20000 in
theorem gX9_kindOf_X9_cell : GoodIn wsX9_kindOf (wsV RX9 132 RX9 yX9_cell wsX9_cell) := goodIn_app (goodIn_of _ (by decide +kernel)) ggX9_kindOf_X9_cell
theorem dX9_kindOf_0 : decode cX9_kindOf 0 = .ok (.aload_n 0, 1) := by decide +kernel
theorem dX9_kindOf_1 : decode cX9_kindOf 1 = .ok (.iload_n 1, 1) := by decide +kernel
theorem dX9_kindOf_2 : decode cX9_kindOf 2 = .ok (.iload_n 2, 1) := by decide +kernel
theorem dX9_kindOf_3 : decode cX9_kindOf 3 = .ok (.invokevirtual 132, 3) := by decide +kernel
theorem dX9_kindOf_6 : decode cX9_kindOf 6 = .ok (.sipush 16384, 3) := by decide +kernel
theorem dX9_kindOf_9 : decode cX9_kindOf 9 = .ok (.idiv, 1) := by decide +kernel
theorem dX9_kindOf_10 : decode cX9_kindOf 10 = .ok (.iconst 4, 1) := by decide +kernel
theorem dX9_kindOf_11 : decode cX9_kindOf 11 = .ok (.irem, 1) := by decide +kernel
theorem dX9_kindOf_12 : decode cX9_kindOf 12 = .ok (.ireturn, 1) := by decide +kernel
set_option maxRecDepth 20000 in
theorem ggX9_flaggedOf_X9_cell : GoodIn wsX9_flaggedOf wsX9_cell := goodIn_r _ [6, 7, 8, 9, 10, 11, 12, 13, 14, 15, 16, 17, 18, 19, 20, 21, 22] (by decide +kernel) (by decide +kernel)
set_option maxRecDepth 20000 in
theorem gX9_flaggedOf_X9_cell : GoodIn wsX9_flaggedOf (wsV RX9 132 RX9 yX9_cell wsX9_cell) := goodIn_app (goodIn_of _ (by decide +kernel)) ggX9_flaggedOf_X9_cell
theorem dX9_flaggedOf_0 : decode cX9_flaggedOf 0 = .ok (.aload_n 0, 1) := by decide +kernel
theorem dX9_flaggedOf_1 : decode cX9_flaggedOf 1 = .ok (.iload_n 1, 1) := by decide +kernel
theorem dX9_flaggedOf_2 : decode cX9_flaggedOf 2 = .ok (.iload_n 2, 1) := by decide +kernel
theorem dX9_flaggedOf_3 : decode cX9_flaggedOf 3 = .ok (.invokevirtual 132, 3) := by decide +kernel
theorem dX9_flaggedOf_6 : decode cX9_flaggedOf 6 = .ok (.ldc 135, 2) := by decide +kernel
theorem dX9_flaggedOf_8 : decode cX9_flaggedOf 8 = .ok (.idiv, 1) := by decide +kernel
theorem dX9_flaggedOf_9 : decode cX9_flaggedOf 9 = .ok (.ireturn, 1) := by decide +kernel
theorem dX9_putDay_0 : decode cX9_putDay 0 = .ok (.aload_n 0, 1) := by decide +kernel
theorem dX9_putDay_1 : decode cX9_putDay 1 = .ok (.getfield 70, 3) := by decide +kernel
theorem dX9_putDay_4 : decode cX9_putDay 4 = .ok (.bipush 111, 2) := by decide +kernel
theorem dX9_putDay_6 : decode cX9_putDay 6 = .ok (.sipush 364, 3) := by decide +kernel
theorem dX9_putDay_9 : decode cX9_putDay 9 = .ok (.iload_n 1, 1) := by decide +kernel
theorem dX9_putDay_10 : decode cX9_putDay 10 = .ok (.imul, 1) := by decide +kernel
theorem dX9_putDay_11 : decode cX9_putDay 11 = .ok (.iadd, 1) := by decide +kernel
theorem dX9_putDay_12 : decode cX9_putDay 12 = .ok (.iload_n 2, 1) := by decide +kernel
theorem dX9_putDay_13 : decode cX9_putDay 13 = .ok (.iadd, 1) := by decide +kernel
theorem dX9_putDay_14 : decode cX9_putDay 14 = .ok (.iload_n 3, 1) := by decide +kernel
theorem dX9_putDay_15 : decode cX9_putDay 15 = .ok (.iconst 1, 1) := by decide +kernel
theorem dX9_putDay_16 : decode cX9_putDay 16 = .ok (.iadd, 1) := by decide +kernel
theorem dX9_putDay_17 : decode cX9_putDay 17 = .ok (.sipush 128, 3) := by decide +kernel
theorem dX9_putDay_20 : decode cX9_putDay 20 = .ok (.iload 4, 2) := by decide +kernel
theorem dX9_putDay_22 : decode cX9_putDay 22 = .ok (.imul, 1) := by decide +kernel
theorem dX9_putDay_23 : decode cX9_putDay 23 = .ok (.iadd, 1) := by decide +kernel
theorem dX9_putDay_24 : decode cX9_putDay 24 = .ok (.sipush 16384, 3) := by decide +kernel
theorem dX9_putDay_27 : decode cX9_putDay 27 = .ok (.iload 5, 2) := by decide +kernel
theorem dX9_putDay_29 : decode cX9_putDay 29 = .ok (.imul, 1) := by decide +kernel
theorem dX9_putDay_30 : decode cX9_putDay 30 = .ok (.iadd, 1) := by decide +kernel
theorem dX9_putDay_31 : decode cX9_putDay 31 = .ok (.ldc 135, 2) := by decide +kernel
theorem dX9_putDay_33 : decode cX9_putDay 33 = .ok (.iload 6, 2) := by decide +kernel
theorem dX9_putDay_35 : decode cX9_putDay 35 = .ok (.imul, 1) := by decide +kernel
theorem dX9_putDay_36 : decode cX9_putDay 36 = .ok (.iadd, 1) := by decide +kernel
theorem dX9_putDay_37 : decode cX9_putDay 37 = .ok (.iastore, 1) := by decide +kernel
theorem dX9_putDay_38 : decode cX9_putDay 38 = .ok (.return_, 1) := by decide +kernel
set_option maxRecDepth 20000 in
theorem ggX9_plannedOf_X9_changedOf : GoodIn wsX9_plannedOf wsX9_changedOf := goodIn_r _ [6, 7, 8, 9, 5, 10, 1, 14, 15, 16, 17, 18, 19, 20, 21, 22, 23, 24, 25, 26, 27, 28] (by decide +kernel) (by decide +kernel)
set_option maxRecDepth 20000 in
theorem gX9_plannedOf_X9_changedOf : GoodIn wsX9_plannedOf (wsV RX9 136 RX9 yX9_changedOf wsX9_changedOf) := goodIn_app (goodIn_of _ (by decide +kernel)) ggX9_plannedOf_X9_changedOf
set_option maxRecDepth 20000 in
theorem ggX9_plannedOf_X9_isIn : GoodIn wsX9_plannedOf wsX9_isIn := goodIn_r _ [13] (by decide +kernel) (by decide +kernel)
set_option maxRecDepth 20000 in
theorem gX9_plannedOf_X9_isIn : GoodIn wsX9_plannedOf (va_wsS RX9 82 yX9_isIn wsX9_isIn) := goodIn_app (goodIn_of _ (by decide +kernel)) ggX9_plannedOf_X9_isIn
theorem dX9_plannedOf_0 : decode cX9_plannedOf 0 = .ok (.aload_n 0, 1) := by decide +kernel
theorem dX9_plannedOf_1 : decode cX9_plannedOf 1 = .ok (.iload_n 1, 1) := by decide +kernel
theorem dX9_plannedOf_2 : decode cX9_plannedOf 2 = .ok (.iload_n 2, 1) := by decide +kernel
theorem dX9_plannedOf_3 : decode cX9_plannedOf 3 = .ok (.invokevirtual 136, 3) := by decide +kernel
theorem dX9_plannedOf_6 : decode cX9_plannedOf 6 = .ok (.iconst (-1), 1) := by decide +kernel
theorem dX9_plannedOf_7 : decode cX9_plannedOf 7 = .ok (.if_icmp .eq 10, 3) := by decide +kernel
theorem dX9_plannedOf_10 : decode cX9_plannedOf 10 = .ok (.aload_n 0, 1) := by decide +kernel
theorem dX9_plannedOf_11 : decode cX9_plannedOf 11 = .ok (.iload_n 1, 1) := by decide +kernel
theorem dX9_plannedOf_12 : decode cX9_plannedOf 12 = .ok (.iload_n 2, 1) := by decide +kernel
theorem dX9_plannedOf_13 : decode cX9_plannedOf 13 = .ok (.invokevirtual 136, 3) := by decide +kernel
theorem dX9_plannedOf_16 : decode cX9_plannedOf 16 = .ok (.ireturn, 1) := by decide +kernel
theorem dX9_plannedOf_17 : decode cX9_plannedOf 17 = .ok (.aload_n 0, 1) := by decide +kernel
theorem dX9_plannedOf_18 : decode cX9_plannedOf 18 = .ok (.getfield 70, 3) := by decide +kernel
theorem dX9_plannedOf_21 : decode cX9_plannedOf 21 = .ok (.iconst 4, 1) := by decide +kernel
theorem dX9_plannedOf_22 : decode cX9_plannedOf 22 = .ok (.iaload, 1) := by decide +kernel
theorem dX9_plannedOf_23 : decode cX9_plannedOf 23 = .ok (.iconst 1, 1) := by decide +kernel
theorem dX9_plannedOf_24 : decode cX9_plannedOf 24 = .ok (.isub, 1) := by decide +kernel
theorem dX9_plannedOf_25 : decode cX9_plannedOf 25 = .ok (.istore_n 3, 1) := by decide +kernel
theorem dX9_plannedOf_26 : decode cX9_plannedOf 26 = .ok (.iload_n 3, 1) := by decide +kernel
theorem dX9_plannedOf_27 : decode cX9_plannedOf 27 = .ok (.ifCond .lt 55, 3) := by decide +kernel
theorem dX9_plannedOf_30 : decode cX9_plannedOf 30 = .ok (.iconst 5, 1) := by decide +kernel
theorem dX9_plannedOf_31 : decode cX9_plannedOf 31 = .ok (.bipush 9, 2) := by decide +kernel
theorem dX9_plannedOf_33 : decode cX9_plannedOf 33 = .ok (.iload_n 3, 1) := by decide +kernel
theorem dX9_plannedOf_34 : decode cX9_plannedOf 34 = .ok (.imul, 1) := by decide +kernel
theorem dX9_plannedOf_35 : decode cX9_plannedOf 35 = .ok (.iadd, 1) := by decide +kernel
theorem dX9_plannedOf_36 : decode cX9_plannedOf 36 = .ok (.istore 4, 2) := by decide +kernel
theorem dX9_plannedOf_38 : decode cX9_plannedOf 38 = .ok (.iload_n 2, 1) := by decide +kernel
theorem dX9_plannedOf_39 : decode cX9_plannedOf 39 = .ok (.aload_n 0, 1) := by decide +kernel
theorem dX9_plannedOf_40 : decode cX9_plannedOf 40 = .ok (.getfield 70, 3) := by decide +kernel
theorem dX9_plannedOf_43 : decode cX9_plannedOf 43 = .ok (.iload 4, 2) := by decide +kernel
theorem dX9_plannedOf_45 : decode cX9_plannedOf 45 = .ok (.iaload, 1) := by decide +kernel
theorem dX9_plannedOf_46 : decode cX9_plannedOf 46 = .ok (.aload_n 0, 1) := by decide +kernel
theorem dX9_plannedOf_47 : decode cX9_plannedOf 47 = .ok (.getfield 70, 3) := by decide +kernel
theorem dX9_plannedOf_50 : decode cX9_plannedOf 50 = .ok (.iload 4, 2) := by decide +kernel
theorem dX9_plannedOf_52 : decode cX9_plannedOf 52 = .ok (.iconst 1, 1) := by decide +kernel
theorem dX9_plannedOf_53 : decode cX9_plannedOf 53 = .ok (.iadd, 1) := by decide +kernel
theorem dX9_plannedOf_54 : decode cX9_plannedOf 54 = .ok (.iaload, 1) := by decide +kernel
theorem dX9_plannedOf_55 : decode cX9_plannedOf 55 = .ok (.invokestatic 82, 3) := by decide +kernel
theorem dX9_plannedOf_58 : decode cX9_plannedOf 58 = .ok (.ifCond .eq 18, 3) := by decide +kernel
theorem dX9_plannedOf_61 : decode cX9_plannedOf 61 = .ok (.aload_n 0, 1) := by decide +kernel
theorem dX9_plannedOf_62 : decode cX9_plannedOf 62 = .ok (.getfield 70, 3) := by decide +kernel
theorem dX9_plannedOf_65 : decode cX9_plannedOf 65 = .ok (.iload 4, 2) := by decide +kernel
theorem dX9_plannedOf_67 : decode cX9_plannedOf 67 = .ok (.iconst 2, 1) := by decide +kernel
theorem dX9_plannedOf_68 : decode cX9_plannedOf 68 = .ok (.iadd, 1) := by decide +kernel
theorem dX9_plannedOf_69 : decode cX9_plannedOf 69 = .ok (.iload_n 2, 1) := by decide +kernel
theorem dX9_plannedOf_70 : decode cX9_plannedOf 70 = .ok (.bipush 7, 2) := by decide +kernel
theorem dX9_plannedOf_72 : decode cX9_plannedOf 72 = .ok (.irem, 1) := by decide +kernel
theorem dX9_plannedOf_73 : decode cX9_plannedOf 73 = .ok (.iadd, 1) := by decide +kernel
theorem dX9_plannedOf_74 : decode cX9_plannedOf 74 = .ok (.iaload, 1) := by decide +kernel
theorem dX9_plannedOf_75 : decode cX9_plannedOf 75 = .ok (.ireturn, 1) := by decide +kernel
theorem dX9_plannedOf_76 : decode cX9_plannedOf 76 = .ok (.iinc 3 (-1), 3) := by decide +kernel
theorem dX9_plannedOf_79 : decode cX9_plannedOf 79 = .ok (.goto (-53), 3) := by decide +kernel
theorem dX9_plannedOf_82 : decode cX9_plannedOf 82 = .ok (.iconst 0, 1) := by decide +kernel
theorem dX9_plannedOf_83 : decode cX9_plannedOf 83 = .ok (.ireturn, 1) := by decide +kernel
set_option maxRecDepth 20000 in
theorem ggX9_loadOf_X9_kindOf : GoodIn wsX9_loadOf wsX9_kindOf := goodIn_r _ [5, 6, 7, 8, 4, 9, 10, 26, 27, 28, 29, 30, 31, 32, 33, 34, 35, 36, 37, 38, 39, 40] (by decide +kernel) (by decide +kernel)
set_option maxRecDepth 20000 in
theorem gX9_loadOf_X9_kindOf : GoodIn wsX9_loadOf (wsV RX9 139 RX9 yX9_kindOf wsX9_kindOf) := goodIn_app (goodIn_of _ (by decide +kernel)) ggX9_loadOf_X9_kindOf
set_option maxRecDepth 20000 in
theorem ggX9_loadOf_X9_workedOf : GoodIn wsX9_loadOf wsX9_workedOf := goodIn_r _ [14, 6, 7, 8, 4, 9, 10, 26, 27, 28, 29, 30, 31, 32, 33, 34, 35, 36, 37, 38, 39, 40] (by decide +kernel) (by decide +kernel)
set_option maxRecDepth 20000 in
theorem gX9_loadOf_X9_workedOf : GoodIn wsX9_loadOf (wsV RX9 142 RX9 yX9_workedOf wsX9_workedOf) := goodIn_app (goodIn_of _ (by decide +kernel)) ggX9_loadOf_X9_workedOf
set_option maxRecDepth 20000 in
theorem ggX9_loadOf_X9_plannedOf : GoodIn wsX9_loadOf wsX9_plannedOf := goodIn_r _ [18, 10, 19, 20, 21, 4, 22, 6, 7, 8, 9, 23, 24, 25, 26, 27, 28, 29, 30, 31, 32, 33, 34, 35, 36, 37, 38, 39, 40] (by decide +kernel) (by decide +kernel)
set_option maxRecDepth 20000 in
theorem gX9_loadOf_X9_plannedOf : GoodIn wsX9_loadOf (wsV RX9 145 RX9 yX9_plannedOf wsX9_plannedOf) := goodIn_app (goodIn_of _ (by decide +kernel)) ggX9_loadOf_X9_plannedOf
theorem dX9_loadOf_0 : decode cX9_loadOf 0 = .ok (.aload_n 0, 1) := by decide +kernel
theorem dX9_loadOf_1 : decode cX9_loadOf 1 = .ok (.iload_n 1, 1) := by decide +kernel
theorem dX9_loadOf_2 : decode cX9_loadOf 2 = .ok (.iload_n 2, 1) := by decide +kernel
theorem dX9_loadOf_3 : decode cX9_loadOf 3 = .ok (.invokevirtual 139, 3) := by decide +kernel
theorem dX9_loadOf_6 : decode cX9_loadOf 6 = .ok (.istore_n 3, 1) := by decide +kernel
theorem dX9_loadOf_7 : decode cX9_loadOf 7 = .ok (.iload_n 3, 1) := by decide +kernel
theorem dX9_loadOf_8 : decode cX9_loadOf 8 = .ok (.ifCond .ne 12, 3) := by decide +kernel
theorem dX9_loadOf_11 : decode cX9_loadOf 11 = .ok (.aload_n 0, 1) := by decide +kernel
theorem dX9_loadOf_12 : decode cX9_loadOf 12 = .ok (.iload_n 1, 1) := by decide +kernel
theorem dX9_loadOf_13 : decode cX9_loadOf 13 = .ok (.iload_n 2, 1) := by decide +kernel
theorem dX9_loadOf_14 : decode cX9_loadOf 14 = .ok (.invokevirtual 142, 3) := by decide +kernel
theorem dX9_loadOf_17 : decode cX9_loadOf 17 = .ok (.goto 18, 3) := by decide +kernel
theorem dX9_loadOf_20 : decode cX9_loadOf 20 = .ok (.iload_n 3, 1) := by decide +kernel
theorem dX9_loadOf_21 : decode cX9_loadOf 21 = .ok (.iconst 1, 1) := by decide +kernel
theorem dX9_loadOf_22 : decode cX9_loadOf 22 = .ok (.if_icmp .ne 12, 3) := by decide +kernel
theorem dX9_loadOf_25 : decode cX9_loadOf 25 = .ok (.aload_n 0, 1) := by decide +kernel
theorem dX9_loadOf_26 : decode cX9_loadOf 26 = .ok (.iload_n 1, 1) := by decide +kernel
theorem dX9_loadOf_27 : decode cX9_loadOf 27 = .ok (.iload_n 2, 1) := by decide +kernel
theorem dX9_loadOf_28 : decode cX9_loadOf 28 = .ok (.invokevirtual 145, 3) := by decide +kernel
theorem dX9_loadOf_31 : decode cX9_loadOf 31 = .ok (.goto 4, 3) := by decide +kernel
theorem dX9_loadOf_34 : decode cX9_loadOf 34 = .ok (.iconst 0, 1) := by decide +kernel
theorem dX9_loadOf_35 : decode cX9_loadOf 35 = .ok (.ireturn, 1) := by decide +kernel
set_option maxRecDepth 20000 in
theorem ggX9_loads_X9_loadOf : GoodIn wsX9_loads wsX9_loadOf := goodIn_r _ [5, 6, 7, 8, 4, 9, 10, 11, 12, 13, 14, 15, 16, 17, 18, 19, 20, 21, 22, 23, 24, 25, 26, 27, 28, 29, 30, 31, 32, 33, 34, 35, 36, 37, 38, 39, 40, 41, 42, 43, 44] (by decide +kernel) (by decide +kernel)
set_option maxRecDepth 20000 in
theorem gX9_loads_X9_loadOf : GoodIn wsX9_loads (wsV RX9 148 RX9 yX9_loadOf wsX9_loadOf) := goodIn_app (goodIn_of _ (by decide +kernel)) ggX9_loads_X9_loadOf
theorem dX9_loads_0 : decode cX9_loads 0 = .ok (.iconst 0, 1) := by decide +kernel
theorem dX9_loads_1 : decode cX9_loads 1 = .ok (.istore 4, 2) := by decide +kernel
theorem dX9_loads_3 : decode cX9_loads 3 = .ok (.iload_n 2, 1) := by decide +kernel
theorem dX9_loads_4 : decode cX9_loads 4 = .ok (.ifCond .ge 7, 3) := by decide +kernel
theorem dX9_loads_7 : decode cX9_loads 7 = .ok (.iconst 0, 1) := by decide +kernel
theorem dX9_loads_8 : decode cX9_loads 8 = .ok (.goto 4, 3) := by decide +kernel
theorem dX9_loads_11 : decode cX9_loads 11 = .ok (.iload_n 2, 1) := by decide +kernel
theorem dX9_loads_12 : decode cX9_loads 12 = .ok (.istore 5, 2) := by decide +kernel
theorem dX9_loads_14 : decode cX9_loads 14 = .ok (.iload 5, 2) := by decide +kernel
theorem dX9_loads_16 : decode cX9_loads 16 = .ok (.iload_n 3, 1) := by decide +kernel
theorem dX9_loads_17 : decode cX9_loads 17 = .ok (.if_icmp .gt 21, 3) := by decide +kernel
theorem dX9_loads_20 : decode cX9_loads 20 = .ok (.iload 4, 2) := by decide +kernel
theorem dX9_loads_22 : decode cX9_loads 22 = .ok (.aload_n 0, 1) := by decide +kernel
theorem dX9_loads_23 : decode cX9_loads 23 = .ok (.iload_n 1, 1) := by decide +kernel
theorem dX9_loads_24 : decode cX9_loads 24 = .ok (.iload 5, 2) := by decide +kernel
theorem dX9_loads_26 : decode cX9_loads 26 = .ok (.invokevirtual 148, 3) := by decide +kernel
theorem dX9_loads_29 : decode cX9_loads 29 = .ok (.iadd, 1) := by decide +kernel
theorem dX9_loads_30 : decode cX9_loads 30 = .ok (.istore 4, 2) := by decide +kernel
theorem dX9_loads_32 : decode cX9_loads 32 = .ok (.iinc 5 1, 3) := by decide +kernel
theorem dX9_loads_35 : decode cX9_loads 35 = .ok (.goto (-21), 3) := by decide +kernel
theorem dX9_loads_38 : decode cX9_loads 38 = .ok (.iload 4, 2) := by decide +kernel
theorem dX9_loads_40 : decode cX9_loads 40 = .ok (.ireturn, 1) := by decide +kernel
set_option maxRecDepth 20000 in
theorem ggX9_onLeave_X9_kindOf : GoodIn wsX9_onLeave wsX9_kindOf := goodIn_r _ [5, 6, 7, 8, 4, 9, 10, 22, 23, 24, 25, 26, 27, 28, 29, 30, 31, 32, 33, 34, 35, 36] (by decide +kernel) (by decide +kernel)
set_option maxRecDepth 20000 in
theorem gX9_onLeave_X9_kindOf : GoodIn wsX9_onLeave (wsV RX9 139 RX9 yX9_kindOf wsX9_kindOf) := goodIn_app (goodIn_of _ (by decide +kernel)) ggX9_onLeave_X9_kindOf
set_option maxRecDepth 20000 in
theorem ggX9_onLeave_X9_plannedOf : GoodIn wsX9_onLeave wsX9_plannedOf := goodIn_r _ [14, 10, 15, 16, 17, 4, 18, 6, 7, 8, 9, 19, 20, 21, 22, 23, 24, 25, 26, 27, 28, 29, 30, 31, 32, 33, 34, 35, 36] (by decide +kernel) (by decide +kernel)
set_option maxRecDepth 20000 in
theorem gX9_onLeave_X9_plannedOf : GoodIn wsX9_onLeave (wsV RX9 145 RX9 yX9_plannedOf wsX9_plannedOf) := goodIn_app (goodIn_of _ (by decide +kernel)) ggX9_onLeave_X9_plannedOf
theorem dX9_onLeave_0 : decode cX9_onLeave 0 = .ok (.iconst 0, 1) := by decide +kernel
theorem dX9_onLeave_1 : decode cX9_onLeave 1 = .ok (.istore 4, 2) := by decide +kernel
theorem dX9_onLeave_3 : decode cX9_onLeave 3 = .ok (.iload_n 2, 1) := by decide +kernel
theorem dX9_onLeave_4 : decode cX9_onLeave 4 = .ok (.istore 5, 2) := by decide +kernel
theorem dX9_onLeave_6 : decode cX9_onLeave 6 = .ok (.iload 5, 2) := by decide +kernel
theorem dX9_onLeave_8 : decode cX9_onLeave 8 = .ok (.iload_n 3, 1) := by decide +kernel
theorem dX9_onLeave_9 : decode cX9_onLeave 9 = .ok (.if_icmp .ge 32, 3) := by decide +kernel
theorem dX9_onLeave_12 : decode cX9_onLeave 12 = .ok (.aload_n 0, 1) := by decide +kernel
theorem dX9_onLeave_13 : decode cX9_onLeave 13 = .ok (.iload_n 1, 1) := by decide +kernel
theorem dX9_onLeave_14 : decode cX9_onLeave 14 = .ok (.iload 5, 2) := by decide +kernel
theorem dX9_onLeave_16 : decode cX9_onLeave 16 = .ok (.invokevirtual 139, 3) := by decide +kernel
theorem dX9_onLeave_19 : decode cX9_onLeave 19 = .ok (.iconst 2, 1) := by decide +kernel
theorem dX9_onLeave_20 : decode cX9_onLeave 20 = .ok (.if_icmp .ne 15, 3) := by decide +kernel
theorem dX9_onLeave_23 : decode cX9_onLeave 23 = .ok (.iload 4, 2) := by decide +kernel
theorem dX9_onLeave_25 : decode cX9_onLeave 25 = .ok (.aload_n 0, 1) := by decide +kernel
theorem dX9_onLeave_26 : decode cX9_onLeave 26 = .ok (.iload_n 1, 1) := by decide +kernel
theorem dX9_onLeave_27 : decode cX9_onLeave 27 = .ok (.iload 5, 2) := by decide +kernel
theorem dX9_onLeave_29 : decode cX9_onLeave 29 = .ok (.invokevirtual 145, 3) := by decide +kernel
theorem dX9_onLeave_32 : decode cX9_onLeave 32 = .ok (.iadd, 1) := by decide +kernel
theorem dX9_onLeave_33 : decode cX9_onLeave 33 = .ok (.istore 4, 2) := by decide +kernel
theorem dX9_onLeave_35 : decode cX9_onLeave 35 = .ok (.iinc 5 1, 3) := by decide +kernel
theorem dX9_onLeave_38 : decode cX9_onLeave 38 = .ok (.goto (-32), 3) := by decide +kernel
theorem dX9_onLeave_41 : decode cX9_onLeave 41 = .ok (.iload 4, 2) := by decide +kernel
theorem dX9_onLeave_43 : decode cX9_onLeave 43 = .ok (.ireturn, 1) := by decide +kernel
set_option maxRecDepth 20000 in
theorem ggX9_leftOf_X9_its : GoodIn wsX9_leftOf wsX9_its := goodIn_r _ [5, 6, 30, 31, 32, 33, 34, 35, 36, 37, 38, 39, 40, 41, 42, 43, 44] (by decide +kernel) (by decide +kernel)
set_option maxRecDepth 20000 in
theorem gX9_leftOf_X9_its : GoodIn wsX9_leftOf (wsV RX9 128 RX9 yX9_its wsX9_its) := goodIn_app (goodIn_of _ (by decide +kernel)) ggX9_leftOf_X9_its
set_option maxRecDepth 20000 in
theorem ggX9_leftOf_X9_onLeave : GoodIn wsX9_leftOf wsX9_onLeave := goodIn_r _ [10, 11, 12, 13, 4, 14, 15, 16, 17, 18, 6, 19, 20, 21, 22, 23, 24, 25, 26, 27, 28, 29, 30, 31, 32, 33, 34, 35, 36, 37, 38, 39, 40, 41, 42, 43, 44] (by decide +kernel) (by decide +kernel)
set_option maxRecDepth 20000 in
theorem gX9_leftOf_X9_onLeave : GoodIn wsX9_leftOf (wsV RX9 151 RX9 yX9_onLeave wsX9_onLeave) := goodIn_app (goodIn_of _ (by decide +kernel)) ggX9_leftOf_X9_onLeave
theorem dX9_leftOf_0 : decode cX9_leftOf 0 = .ok (.aload_n 0, 1) := by decide +kernel
theorem dX9_leftOf_1 : decode cX9_leftOf 1 = .ok (.iload_n 1, 1) := by decide +kernel
theorem dX9_leftOf_2 : decode cX9_leftOf 2 = .ok (.bipush 9, 2) := by decide +kernel
theorem dX9_leftOf_4 : decode cX9_leftOf 4 = .ok (.invokevirtual 128, 3) := by decide +kernel
theorem dX9_leftOf_7 : decode cX9_leftOf 7 = .ok (.iconst 1, 1) := by decide +kernel
theorem dX9_leftOf_8 : decode cX9_leftOf 8 = .ok (.if_icmp .ne 7, 3) := by decide +kernel
theorem dX9_leftOf_11 : decode cX9_leftOf 11 = .ok (.iconst 0, 1) := by decide +kernel
theorem dX9_leftOf_12 : decode cX9_leftOf 12 = .ok (.goto 19, 3) := by decide +kernel
theorem dX9_leftOf_15 : decode cX9_leftOf 15 = .ok (.aload_n 0, 1) := by decide +kernel
theorem dX9_leftOf_16 : decode cX9_leftOf 16 = .ok (.iload_n 1, 1) := by decide +kernel
theorem dX9_leftOf_17 : decode cX9_leftOf 17 = .ok (.iconst 1, 1) := by decide +kernel
theorem dX9_leftOf_18 : decode cX9_leftOf 18 = .ok (.invokevirtual 128, 3) := by decide +kernel
theorem dX9_leftOf_21 : decode cX9_leftOf 21 = .ok (.aload_n 0, 1) := by decide +kernel
theorem dX9_leftOf_22 : decode cX9_leftOf 22 = .ok (.iload_n 1, 1) := by decide +kernel
theorem dX9_leftOf_23 : decode cX9_leftOf 23 = .ok (.iconst 0, 1) := by decide +kernel
theorem dX9_leftOf_24 : decode cX9_leftOf 24 = .ok (.sipush 364, 3) := by decide +kernel
theorem dX9_leftOf_27 : decode cX9_leftOf 27 = .ok (.invokevirtual 151, 3) := by decide +kernel
theorem dX9_leftOf_30 : decode cX9_leftOf 30 = .ok (.isub, 1) := by decide +kernel
theorem dX9_leftOf_31 : decode cX9_leftOf 31 = .ok (.ireturn, 1) := by decide +kernel
set_option maxRecDepth 20000 in
theorem ggX9_many_X9_flaggedOf : GoodIn wsX9_many wsX9_flaggedOf := goodIn_r _ [5, 6, 7, 8, 9, 4, 10, 11, 20, 21, 22, 23, 24, 25, 26, 27, 28, 29, 30, 31, 32, 33, 34] (by decide +kernel) (by decide +kernel)
set_option maxRecDepth 20000 in
theorem gX9_many_X9_flaggedOf : GoodIn wsX9_many (wsV RX9 155 RX9 yX9_flaggedOf wsX9_flaggedOf) := goodIn_app (goodIn_of _ (by decide +kernel)) ggX9_many_X9_flaggedOf
set_option maxRecDepth 20000 in
theorem ggX9_many_X9_changedOf : GoodIn wsX9_many wsX9_changedOf := goodIn_r _ [15, 7, 8, 9, 4, 10, 11, 20, 21, 22, 23, 24, 25, 26, 27, 28, 29, 30, 31, 32, 33, 34] (by decide +kernel) (by decide +kernel)
set_option maxRecDepth 20000 in
theorem gX9_many_X9_changedOf : GoodIn wsX9_many (wsV RX9 136 RX9 yX9_changedOf wsX9_changedOf) := goodIn_app (goodIn_of _ (by decide +kernel)) ggX9_many_X9_changedOf
set_option maxRecDepth 20000 in
theorem ggX9_many_X9_kindOf : GoodIn wsX9_many wsX9_kindOf := goodIn_r _ [19, 7, 8, 9, 4, 10, 11, 20, 21, 22, 23, 24, 25, 26, 27, 28, 29, 30, 31, 32, 33, 34] (by decide +kernel) (by decide +kernel)
set_option maxRecDepth 20000 in
theorem gX9_many_X9_kindOf : GoodIn wsX9_many (wsV RX9 139 RX9 yX9_kindOf wsX9_kindOf) := goodIn_app (goodIn_of _ (by decide +kernel)) ggX9_many_X9_kindOf
theorem dX9_many_0 : decode cX9_many 0 = .ok (.iconst 0, 1) := by decide +kernel
theorem dX9_many_1 : decode cX9_many 1 = .ok (.istore 5, 2) := by decide +kernel
theorem dX9_many_3 : decode cX9_many 3 = .ok (.iload_n 3, 1) := by decide +kernel
theorem dX9_many_4 : decode cX9_many 4 = .ok (.istore 6, 2) := by decide +kernel
theorem dX9_many_6 : decode cX9_many 6 = .ok (.iload 6, 2) := by decide +kernel
theorem dX9_many_8 : decode cX9_many 8 = .ok (.iload 4, 2) := by decide +kernel
theorem dX9_many_10 : decode cX9_many 10 = .ok (.if_icmp .ge 61, 3) := by decide +kernel
theorem dX9_many_13 : decode cX9_many 13 = .ok (.iload_n 2, 1) := by decide +kernel
theorem dX9_many_14 : decode cX9_many 14 = .ok (.iconst 3, 1) := by decide +kernel
theorem dX9_many_15 : decode cX9_many 15 = .ok (.if_icmp .ne 17, 3) := by decide +kernel
theorem dX9_many_18 : decode cX9_many 18 = .ok (.aload_n 0, 1) := by decide +kernel
theorem dX9_many_19 : decode cX9_many 19 = .ok (.iload_n 1, 1) := by decide +kernel
theorem dX9_many_20 : decode cX9_many 20 = .ok (.iload 6, 2) := by decide +kernel
theorem dX9_many_22 : decode cX9_many 22 = .ok (.invokevirtual 155, 3) := by decide +kernel
