theorem dX7_readRun_36 : decode cX7_readRun 36 = .ok (.iload_n 3, 1) := by decide +kernel
theorem dX7_readRun_37 : decode cX7_readRun 37 = .ok (.invokestatic 42, 3) := by decide +kernel
theorem dX7_readRun_40 : decode cX7_readRun 40 = .ok (.ifCond .eq 9, 3) := by decide +kernel
theorem dX7_readRun_43 : decode cX7_readRun 43 = .ok (.iinc 1 1, 3) := by decide +kernel
theorem dX7_readRun_46 : decode cX7_readRun 46 = .ok (.goto 29, 3) := by decide +kernel
theorem dX7_readRun_49 : decode cX7_readRun 49 = .ok (.iload_n 3, 1) := by decide +kernel
theorem dX7_readRun_50 : decode cX7_readRun 50 = .ok (.invokestatic 45, 3) := by decide +kernel
theorem dX7_readRun_53 : decode cX7_readRun 53 = .ok (.ifCond .eq 35, 3) := by decide +kernel
theorem dX7_readRun_56 : decode cX7_readRun 56 = .ok (.iinc 2 1, 3) := by decide +kernel
theorem dX7_readRun_59 : decode cX7_readRun 59 = .ok (.aload_n 0, 1) := by decide +kernel
theorem dX7_readRun_60 : decode cX7_readRun 60 = .ok (.aload_n 0, 1) := by decide +kernel
theorem dX7_readRun_61 : decode cX7_readRun 61 = .ok (.getfield 51, 3) := by decide +kernel
theorem dX7_readRun_64 : decode cX7_readRun 64 = .ok (.bipush 10, 2) := by decide +kernel
theorem dX7_readRun_66 : decode cX7_readRun 66 = .ok (.imul, 1) := by decide +kernel
theorem dX7_readRun_67 : decode cX7_readRun 67 = .ok (.iload_n 3, 1) := by decide +kernel
theorem dX7_readRun_68 : decode cX7_readRun 68 = .ok (.iadd, 1) := by decide +kernel
theorem dX7_readRun_69 : decode cX7_readRun 69 = .ok (.bipush 48, 2) := by decide +kernel
theorem dX7_readRun_71 : decode cX7_readRun 71 = .ok (.isub, 1) := by decide +kernel
theorem dX7_readRun_72 : decode cX7_readRun 72 = .ok (.putfield 51, 3) := by decide +kernel
theorem dX7_readRun_75 : decode cX7_readRun 75 = .ok (.aload_n 0, 1) := by decide +kernel
theorem dX7_readRun_76 : decode cX7_readRun 76 = .ok (.dup, 1) := by decide +kernel
theorem dX7_readRun_77 : decode cX7_readRun 77 = .ok (.getfield 13, 3) := by decide +kernel
theorem dX7_readRun_80 : decode cX7_readRun 80 = .ok (.iconst 1, 1) := by decide +kernel
theorem dX7_readRun_81 : decode cX7_readRun 81 = .ok (.iadd, 1) := by decide +kernel
theorem dX7_readRun_82 : decode cX7_readRun 82 = .ok (.putfield 13, 3) := by decide +kernel
theorem dX7_readRun_85 : decode cX7_readRun 85 = .ok (.goto (-76), 3) := by decide +kernel
theorem dX7_readRun_88 : decode cX7_readRun 88 = .ok (.iload_n 2, 1) := by decide +kernel
theorem dX7_readRun_89 : decode cX7_readRun 89 = .ok (.ifCond .ne 11, 3) := by decide +kernel
theorem dX7_readRun_92 : decode cX7_readRun 92 = .ok (.aload_n 0, 1) := by decide +kernel
theorem dX7_readRun_93 : decode cX7_readRun 93 = .ok (.iconst 1, 1) := by decide +kernel
theorem dX7_readRun_94 : decode cX7_readRun 94 = .ok (.putfield 39, 3) := by decide +kernel
theorem dX7_readRun_97 : decode cX7_readRun 97 = .ok (.goto 21, 3) := by decide +kernel
theorem dX7_readRun_100 : decode cX7_readRun 100 = .ok (.aload_n 0, 1) := by decide +kernel
theorem dX7_readRun_101 : decode cX7_readRun 101 = .ok (.iload_n 1, 1) := by decide +kernel
theorem dX7_readRun_102 : decode cX7_readRun 102 = .ok (.ifCond .ne 12, 3) := by decide +kernel
theorem dX7_readRun_105 : decode cX7_readRun 105 = .ok (.iload_n 2, 1) := by decide +kernel
theorem dX7_readRun_106 : decode cX7_readRun 106 = .ok (.iconst 4, 1) := by decide +kernel
theorem dX7_readRun_107 : decode cX7_readRun 107 = .ok (.if_icmp .gt 7, 3) := by decide +kernel
theorem dX7_readRun_110 : decode cX7_readRun 110 = .ok (.iconst 2, 1) := by decide +kernel
theorem dX7_readRun_111 : decode cX7_readRun 111 = .ok (.goto 4, 3) := by decide +kernel
theorem dX7_readRun_114 : decode cX7_readRun 114 = .ok (.iconst 4, 1) := by decide +kernel
theorem dX7_readRun_115 : decode cX7_readRun 115 = .ok (.putfield 39, 3) := by decide +kernel
theorem dX7_readRun_118 : decode cX7_readRun 118 = .ok (.return_, 1) := by decide +kernel
set_option maxRecDepth 20000 in
theorem ggX7_isWord_J0_length_8abf5 : GoodIn wsX7_isWord wsJ0_length_8abf5 := goodIn_r _ [10, 11, 12, 13, 14, 9, 15, 16, 17] (by decide +kernel) (by decide +kernel)
set_option maxRecDepth 20000 in
theorem gX7_isWord_J0_length_8abf5 : GoodIn wsX7_isWord (wsV RX7 54 RJ0 yJ0_length_8abf5 wsJ0_length_8abf5) := goodIn_app (goodIn_of _ (by decide +kernel)) ggX7_isWord_J0_length_8abf5
set_option maxRecDepth 20000 in
theorem ggX7_isWord_J0_charAt_5068e : GoodIn wsX7_isWord wsJ0_charAt_5068e := goodIn_r _ [21, 11, 22, 23, 24, 9, 25, 16, 17, 26, 27, 28, 29, 30, 31, 32, 33, 34, 35, 36, 37, 38, 39, 40, 41, 42, 43, 44, 45, 46, 47, 48, 49, 50, 51, 52, 53, 54] (by decide +kernel) (by decide +kernel)
set_option maxRecDepth 20000 in
theorem gX7_isWord_J0_charAt_5068e : GoodIn wsX7_isWord (wsV RX7 60 RJ0 yJ0_charAt_5068e wsJ0_charAt_5068e) := goodIn_app (goodIn_of _ (by decide +kernel)) ggX7_isWord_J0_charAt_5068e
theorem dX7_isWord_0 : decode cX7_isWord 0 = .ok (.aload_n 0, 1) := by decide +kernel
theorem dX7_isWord_1 : decode cX7_isWord 1 = .ok (.getfield 39, 3) := by decide +kernel
theorem dX7_isWord_4 : decode cX7_isWord 4 = .ok (.iconst 1, 1) := by decide +kernel
theorem dX7_isWord_5 : decode cX7_isWord 5 = .ok (.if_icmp .ne 19, 3) := by decide +kernel
theorem dX7_isWord_8 : decode cX7_isWord 8 = .ok (.aload_n 0, 1) := by decide +kernel
theorem dX7_isWord_9 : decode cX7_isWord 9 = .ok (.getfield 13, 3) := by decide +kernel
theorem dX7_isWord_12 : decode cX7_isWord 12 = .ok (.aload_n 0, 1) := by decide +kernel
theorem dX7_isWord_13 : decode cX7_isWord 13 = .ok (.getfield 36, 3) := by decide +kernel
theorem dX7_isWord_16 : decode cX7_isWord 16 = .ok (.isub, 1) := by decide +kernel
theorem dX7_isWord_17 : decode cX7_isWord 17 = .ok (.aload_n 1, 1) := by decide +kernel
theorem dX7_isWord_18 : decode cX7_isWord 18 = .ok (.invokevirtual 54, 3) := by decide +kernel
theorem dX7_isWord_21 : decode cX7_isWord 21 = .ok (.if_icmp .eq 5, 3) := by decide +kernel
theorem dX7_isWord_24 : decode cX7_isWord 24 = .ok (.iconst 0, 1) := by decide +kernel
theorem dX7_isWord_25 : decode cX7_isWord 25 = .ok (.ireturn, 1) := by decide +kernel
theorem dX7_isWord_26 : decode cX7_isWord 26 = .ok (.iconst 0, 1) := by decide +kernel
theorem dX7_isWord_27 : decode cX7_isWord 27 = .ok (.istore_n 2, 1) := by decide +kernel
theorem dX7_isWord_28 : decode cX7_isWord 28 = .ok (.iload_n 2, 1) := by decide +kernel
theorem dX7_isWord_29 : decode cX7_isWord 29 = .ok (.aload_n 1, 1) := by decide +kernel
theorem dX7_isWord_30 : decode cX7_isWord 30 = .ok (.invokevirtual 54, 3) := by decide +kernel
theorem dX7_isWord_33 : decode cX7_isWord 33 = .ok (.if_icmp .ge 33, 3) := by decide +kernel
theorem dX7_isWord_36 : decode cX7_isWord 36 = .ok (.aload_n 0, 1) := by decide +kernel
theorem dX7_isWord_37 : decode cX7_isWord 37 = .ok (.getfield 7, 3) := by decide +kernel
theorem dX7_isWord_40 : decode cX7_isWord 40 = .ok (.getfield 28, 3) := by decide +kernel
theorem dX7_isWord_43 : decode cX7_isWord 43 = .ok (.aload_n 0, 1) := by decide +kernel
theorem dX7_isWord_44 : decode cX7_isWord 44 = .ok (.getfield 36, 3) := by decide +kernel
theorem dX7_isWord_47 : decode cX7_isWord 47 = .ok (.iload_n 2, 1) := by decide +kernel
theorem dX7_isWord_48 : decode cX7_isWord 48 = .ok (.iadd, 1) := by decide +kernel
theorem dX7_isWord_49 : decode cX7_isWord 49 = .ok (.baload, 1) := by decide +kernel
theorem dX7_isWord_50 : decode cX7_isWord 50 = .ok (.aload_n 1, 1) := by decide +kernel
theorem dX7_isWord_51 : decode cX7_isWord 51 = .ok (.iload_n 2, 1) := by decide +kernel
theorem dX7_isWord_52 : decode cX7_isWord 52 = .ok (.invokevirtual 60, 3) := by decide +kernel
theorem dX7_isWord_55 : decode cX7_isWord 55 = .ok (.if_icmp .eq 5, 3) := by decide +kernel
theorem dX7_isWord_58 : decode cX7_isWord 58 = .ok (.iconst 0, 1) := by decide +kernel
theorem dX7_isWord_59 : decode cX7_isWord 59 = .ok (.ireturn, 1) := by decide +kernel
theorem dX7_isWord_60 : decode cX7_isWord 60 = .ok (.iinc 2 1, 3) := by decide +kernel
theorem dX7_isWord_63 : decode cX7_isWord 63 = .ok (.goto (-35), 3) := by decide +kernel
theorem dX7_isWord_66 : decode cX7_isWord 66 = .ok (.iconst 1, 1) := by decide +kernel
theorem dX7_isWord_67 : decode cX7_isWord 67 = .ok (.ireturn, 1) := by decide +kernel
theorem dX7_isBlank_0 : decode cX7_isBlank 0 = .ok (.iload_n 0, 1) := by decide +kernel
theorem dX7_isBlank_1 : decode cX7_isBlank 1 = .ok (.bipush 32, 2) := by decide +kernel
theorem dX7_isBlank_3 : decode cX7_isBlank 3 = .ok (.if_icmp .eq 9, 3) := by decide +kernel
theorem dX7_isBlank_6 : decode cX7_isBlank 6 = .ok (.iload_n 0, 1) := by decide +kernel
theorem dX7_isBlank_7 : decode cX7_isBlank 7 = .ok (.bipush 10, 2) := by decide +kernel
theorem dX7_isBlank_9 : decode cX7_isBlank 9 = .ok (.if_icmp .ne 7, 3) := by decide +kernel
theorem dX7_isBlank_12 : decode cX7_isBlank 12 = .ok (.iconst 1, 1) := by decide +kernel
theorem dX7_isBlank_13 : decode cX7_isBlank 13 = .ok (.goto 4, 3) := by decide +kernel
theorem dX7_isBlank_16 : decode cX7_isBlank 16 = .ok (.iconst 0, 1) := by decide +kernel
theorem dX7_isBlank_17 : decode cX7_isBlank 17 = .ok (.ireturn, 1) := by decide +kernel
theorem dX7_isLetter_0 : decode cX7_isLetter 0 = .ok (.iload_n 0, 1) := by decide +kernel
theorem dX7_isLetter_1 : decode cX7_isLetter 1 = .ok (.bipush 97, 2) := by decide +kernel
theorem dX7_isLetter_3 : decode cX7_isLetter 3 = .ok (.if_icmp .lt 13, 3) := by decide +kernel
theorem dX7_isLetter_6 : decode cX7_isLetter 6 = .ok (.iload_n 0, 1) := by decide +kernel
theorem dX7_isLetter_7 : decode cX7_isLetter 7 = .ok (.bipush 122, 2) := by decide +kernel
theorem dX7_isLetter_9 : decode cX7_isLetter 9 = .ok (.if_icmp .gt 7, 3) := by decide +kernel
theorem dX7_isLetter_12 : decode cX7_isLetter 12 = .ok (.iconst 1, 1) := by decide +kernel
theorem dX7_isLetter_13 : decode cX7_isLetter 13 = .ok (.goto 4, 3) := by decide +kernel
theorem dX7_isLetter_16 : decode cX7_isLetter 16 = .ok (.iconst 0, 1) := by decide +kernel
theorem dX7_isLetter_17 : decode cX7_isLetter 17 = .ok (.ireturn, 1) := by decide +kernel
theorem dX7_isDigit_0 : decode cX7_isDigit 0 = .ok (.iload_n 0, 1) := by decide +kernel
theorem dX7_isDigit_1 : decode cX7_isDigit 1 = .ok (.bipush 48, 2) := by decide +kernel
theorem dX7_isDigit_3 : decode cX7_isDigit 3 = .ok (.if_icmp .lt 13, 3) := by decide +kernel
theorem dX7_isDigit_6 : decode cX7_isDigit 6 = .ok (.iload_n 0, 1) := by decide +kernel
theorem dX7_isDigit_7 : decode cX7_isDigit 7 = .ok (.bipush 57, 2) := by decide +kernel
theorem dX7_isDigit_9 : decode cX7_isDigit 9 = .ok (.if_icmp .gt 7, 3) := by decide +kernel
theorem dX7_isDigit_12 : decode cX7_isDigit 12 = .ok (.iconst 1, 1) := by decide +kernel
theorem dX7_isDigit_13 : decode cX7_isDigit 13 = .ok (.goto 4, 3) := by decide +kernel
theorem dX7_isDigit_16 : decode cX7_isDigit 16 = .ok (.iconst 0, 1) := by decide +kernel
theorem dX7_isDigit_17 : decode cX7_isDigit 17 = .ok (.ireturn, 1) := by decide +kernel
set_option maxRecDepth 20000 in
theorem ggX8_init_X5_init : GoodIn wsX8_init wsX5_init := goodIn_r _ [27, 28, 2, 3, 29, 30, 121, 122] (by decide +kernel) (by decide +kernel)
set_option maxRecDepth 20000 in
theorem gX8_init_X5_init_n11 : GoodIn wsX8_init (wsX5_init) := ggX8_init_X5_init
set_option maxRecDepth 20000 in
theorem ggX8_init_X6_init : GoodIn wsX8_init wsX6_init := goodIn_r _ [33, 34, 2, 3, 35, 36, 37, 38, 39, 40, 41, 42, 43, 44, 130, 131, 132, 133, 149, 150, 151, 152, 153] (by decide +kernel) (by decide +kernel)
set_option maxRecDepth 20000 in
theorem gX8_init_X6_init : GoodIn wsX8_init (wsX6_init) := ggX8_init_X6_init
set_option maxRecDepth 20000 in
theorem ggX8_init_X2_init : GoodIn wsX8_init wsX2_init := goodIn_r _ [47, 48, 2, 3, 49, 50, 51, 52, 53, 54, 55, 56, 57, 58, 14, 59, 60, 61, 62, 63, 134, 135, 136, 137, 138] (by decide +kernel) (by decide +kernel)
set_option maxRecDepth 20000 in
theorem gX8_init_X2_init : GoodIn wsX8_init (wsX2_init) := ggX8_init_X2_init
set_option maxRecDepth 20000 in
theorem ggX8_init_X3_init : GoodIn wsX8_init wsX3_init := goodIn_r _ [66, 67, 2, 3, 50, 68, 69, 70, 71, 72, 73, 74, 75, 76, 77, 78, 79, 80, 81, 82, 20, 83, 84, 85, 86, 87, 88, 89, 14, 90, 54, 91, 92, 93, 94, 95, 96, 97, 98, 99, 100, 101, 102, 103, 104, 105, 106, 139, 140, 141, 142, 143, 144, 145, 154, 155, 156, 157, 158, 159, 160, 161, 162, 134, 135, 136, 137, 138] (by decide +kernel) (by decide +kernel)
set_option maxRecDepth 20000 in
theorem gX8_init_X3_init : GoodIn wsX8_init (wsX3_init) := ggX8_init_X3_init
set_option maxRecDepth 20000 in
theorem ggX8_init_X1_init : GoodIn wsX8_init wsX1_init := goodIn_r _ [109, 110, 2, 3, 111, 112, 113, 114, 115, 116, 117, 118, 119, 120, 73, 74, 76, 77, 78, 79, 146, 147, 148, 163, 164, 165, 166, 167, 168, 154, 155, 156, 157, 158, 159, 160, 161, 162] (by decide +kernel) (by decide +kernel)
set_option maxRecDepth 20000 in
theorem gX8_init_X1_init : GoodIn wsX8_init (wsX1_init) := ggX8_init_X1_init
theorem dX8_init_0 : decode cX8_init 0 = .ok (.aload_n 0, 1) := by decide +kernel
theorem dX8_init_1 : decode cX8_init 1 = .ok (.invokespecial 3, 3) := by decide +kernel
theorem dX8_init_4 : decode cX8_init 4 = .ok (.aload_n 0, 1) := by decide +kernel
theorem dX8_init_5 : decode cX8_init 5 = .ok (.new 9, 3) := by decide +kernel
theorem dX8_init_8 : decode cX8_init 8 = .ok (.dup, 1) := by decide +kernel
theorem dX8_init_9 : decode cX8_init 9 = .ok (.invokespecial 11, 3) := by decide +kernel
theorem dX8_init_12 : decode cX8_init 12 = .ok (.putfield 12, 3) := by decide +kernel
theorem dX8_init_15 : decode cX8_init 15 = .ok (.aload_n 0, 1) := by decide +kernel
theorem dX8_init_16 : decode cX8_init 16 = .ok (.new 16, 3) := by decide +kernel
theorem dX8_init_19 : decode cX8_init 19 = .ok (.dup, 1) := by decide +kernel
theorem dX8_init_20 : decode cX8_init 20 = .ok (.aload_n 0, 1) := by decide +kernel
theorem dX8_init_21 : decode cX8_init 21 = .ok (.getfield 12, 3) := by decide +kernel
theorem dX8_init_24 : decode cX8_init 24 = .ok (.invokespecial 18, 3) := by decide +kernel
theorem dX8_init_27 : decode cX8_init 27 = .ok (.putfield 21, 3) := by decide +kernel
theorem dX8_init_30 : decode cX8_init 30 = .ok (.aload_n 0, 1) := by decide +kernel
theorem dX8_init_31 : decode cX8_init 31 = .ok (.new 25, 3) := by decide +kernel
theorem dX8_init_34 : decode cX8_init 34 = .ok (.dup, 1) := by decide +kernel
theorem dX8_init_35 : decode cX8_init 35 = .ok (.invokespecial 27, 3) := by decide +kernel
theorem dX8_init_38 : decode cX8_init 38 = .ok (.putfield 28, 3) := by decide +kernel
theorem dX8_init_41 : decode cX8_init 41 = .ok (.aload_n 0, 1) := by decide +kernel
theorem dX8_init_42 : decode cX8_init 42 = .ok (.new 25, 3) := by decide +kernel
theorem dX8_init_45 : decode cX8_init 45 = .ok (.dup, 1) := by decide +kernel
theorem dX8_init_46 : decode cX8_init 46 = .ok (.invokespecial 27, 3) := by decide +kernel
theorem dX8_init_49 : decode cX8_init 49 = .ok (.putfield 32, 3) := by decide +kernel
theorem dX8_init_52 : decode cX8_init 52 = .ok (.aload_n 0, 1) := by decide +kernel
theorem dX8_init_53 : decode cX8_init 53 = .ok (.iconst 4, 1) := by decide +kernel
theorem dX8_init_54 : decode cX8_init 54 = .ok (.anewarray 35, 3) := by decide +kernel
theorem dX8_init_57 : decode cX8_init 57 = .ok (.putfield 37, 3) := by decide +kernel
theorem dX8_init_60 : decode cX8_init 60 = .ok (.iconst 0, 1) := by decide +kernel
theorem dX8_init_61 : decode cX8_init 61 = .ok (.istore_n 1, 1) := by decide +kernel
theorem dX8_init_62 : decode cX8_init 62 = .ok (.iload_n 1, 1) := by decide +kernel
theorem dX8_init_63 : decode cX8_init 63 = .ok (.iconst 4, 1) := by decide +kernel
theorem dX8_init_64 : decode cX8_init 64 = .ok (.if_icmp .ge 27, 3) := by decide +kernel
theorem dX8_init_67 : decode cX8_init 67 = .ok (.aload_n 0, 1) := by decide +kernel
theorem dX8_init_68 : decode cX8_init 68 = .ok (.getfield 37, 3) := by decide +kernel
theorem dX8_init_71 : decode cX8_init 71 = .ok (.iload_n 1, 1) := by decide +kernel
theorem dX8_init_72 : decode cX8_init 72 = .ok (.new 35, 3) := by decide +kernel
theorem dX8_init_75 : decode cX8_init 75 = .ok (.dup, 1) := by decide +kernel
theorem dX8_init_76 : decode cX8_init 76 = .ok (.aload_n 0, 1) := by decide +kernel
theorem dX8_init_77 : decode cX8_init 77 = .ok (.getfield 28, 3) := by decide +kernel
theorem dX8_init_80 : decode cX8_init 80 = .ok (.iload_n 1, 1) := by decide +kernel
theorem dX8_init_81 : decode cX8_init 81 = .ok (.invokespecial 41, 3) := by decide +kernel
theorem dX8_init_84 : decode cX8_init 84 = .ok (.aastore, 1) := by decide +kernel
theorem dX8_init_85 : decode cX8_init 85 = .ok (.iinc 1 1, 3) := by decide +kernel
theorem dX8_init_88 : decode cX8_init 88 = .ok (.goto (-26), 3) := by decide +kernel
theorem dX8_init_91 : decode cX8_init 91 = .ok (.aload_n 0, 1) := by decide +kernel
theorem dX8_init_92 : decode cX8_init 92 = .ok (.new 44, 3) := by decide +kernel
theorem dX8_init_95 : decode cX8_init 95 = .ok (.dup, 1) := by decide +kernel
theorem dX8_init_96 : decode cX8_init 96 = .ok (.invokespecial 46, 3) := by decide +kernel
theorem dX8_init_99 : decode cX8_init 99 = .ok (.putfield 47, 3) := by decide +kernel
theorem dX8_init_102 : decode cX8_init 102 = .ok (.aload_n 0, 1) := by decide +kernel
theorem dX8_init_103 : decode cX8_init 103 = .ok (.iconst 0, 1) := by decide +kernel
theorem dX8_init_104 : decode cX8_init 104 = .ok (.putfield 51, 3) := by decide +kernel
theorem dX8_init_107 : decode cX8_init 107 = .ok (.return_, 1) := by decide +kernel
set_option maxRecDepth 20000 in
theorem ggX8_feed_X5_append : GoodIn wsX8_feed wsX5_append := goodIn_r _ [7, 8, 9, 17, 18] (by decide +kernel) (by decide +kernel)
set_option maxRecDepth 20000 in
theorem gX8_feed_X5_append : GoodIn wsX8_feed (wsV RX8 58 RX5 yX5_append wsX5_append) := goodIn_app (goodIn_of _ (by decide +kernel)) ggX8_feed_X5_append
theorem dX8_feed_0 : decode cX8_feed 0 = .ok (.aload_n 0, 1) := by decide +kernel
theorem dX8_feed_1 : decode cX8_feed 1 = .ok (.getfield 12, 3) := by decide +kernel
theorem dX8_feed_4 : decode cX8_feed 4 = .ok (.getfield 55, 3) := by decide +kernel
theorem dX8_feed_7 : decode cX8_feed 7 = .ok (.bipush 20, 2) := by decide +kernel
theorem dX8_feed_9 : decode cX8_feed 9 = .ok (.iadd, 1) := by decide +kernel
theorem dX8_feed_10 : decode cX8_feed 10 = .ok (.sipush 740, 3) := by decide +kernel
theorem dX8_feed_13 : decode cX8_feed 13 = .ok (.if_icmp .le 5, 3) := by decide +kernel
theorem dX8_feed_16 : decode cX8_feed 16 = .ok (.iconst (-1), 1) := by decide +kernel
theorem dX8_feed_17 : decode cX8_feed 17 = .ok (.ireturn, 1) := by decide +kernel
theorem dX8_feed_18 : decode cX8_feed 18 = .ok (.aload_n 0, 1) := by decide +kernel
theorem dX8_feed_19 : decode cX8_feed 19 = .ok (.getfield 12, 3) := by decide +kernel
theorem dX8_feed_22 : decode cX8_feed 22 = .ok (.iload_n 1, 1) := by decide +kernel
theorem dX8_feed_23 : decode cX8_feed 23 = .ok (.invokevirtual 58, 3) := by decide +kernel
theorem dX8_feed_26 : decode cX8_feed 26 = .ok (.aload_n 0, 1) := by decide +kernel
theorem dX8_feed_27 : decode cX8_feed 27 = .ok (.getfield 12, 3) := by decide +kernel
theorem dX8_feed_30 : decode cX8_feed 30 = .ok (.iload_n 2, 1) := by decide +kernel
theorem dX8_feed_31 : decode cX8_feed 31 = .ok (.invokevirtual 58, 3) := by decide +kernel
theorem dX8_feed_34 : decode cX8_feed 34 = .ok (.aload_n 0, 1) := by decide +kernel
theorem dX8_feed_35 : decode cX8_feed 35 = .ok (.getfield 12, 3) := by decide +kernel
theorem dX8_feed_38 : decode cX8_feed 38 = .ok (.iload_n 3, 1) := by decide +kernel
theorem dX8_feed_39 : decode cX8_feed 39 = .ok (.invokevirtual 58, 3) := by decide +kernel
theorem dX8_feed_42 : decode cX8_feed 42 = .ok (.aload_n 0, 1) := by decide +kernel
theorem dX8_feed_43 : decode cX8_feed 43 = .ok (.getfield 12, 3) := by decide +kernel
theorem dX8_feed_46 : decode cX8_feed 46 = .ok (.iload 4, 2) := by decide +kernel
theorem dX8_feed_48 : decode cX8_feed 48 = .ok (.invokevirtual 58, 3) := by decide +kernel
theorem dX8_feed_51 : decode cX8_feed 51 = .ok (.aload_n 0, 1) := by decide +kernel
theorem dX8_feed_52 : decode cX8_feed 52 = .ok (.getfield 12, 3) := by decide +kernel
theorem dX8_feed_55 : decode cX8_feed 55 = .ok (.iload 5, 2) := by decide +kernel
theorem dX8_feed_57 : decode cX8_feed 57 = .ok (.invokevirtual 58, 3) := by decide +kernel
theorem dX8_feed_60 : decode cX8_feed 60 = .ok (.aload_n 0, 1) := by decide +kernel
theorem dX8_feed_61 : decode cX8_feed 61 = .ok (.getfield 12, 3) := by decide +kernel
theorem dX8_feed_64 : decode cX8_feed 64 = .ok (.getfield 55, 3) := by decide +kernel
theorem dX8_feed_67 : decode cX8_feed 67 = .ok (.ireturn, 1) := by decide +kernel
theorem dX8_end_0 : decode cX8_end 0 = .ok (.iload_n 1, 1) := by decide +kernel
theorem dX8_end_1 : decode cX8_end 1 = .ok (.ifCond .lt 14, 3) := by decide +kernel
theorem dX8_end_4 : decode cX8_end 4 = .ok (.iload_n 1, 1) := by decide +kernel
theorem dX8_end_5 : decode cX8_end 5 = .ok (.aload_n 0, 1) := by decide +kernel
theorem dX8_end_6 : decode cX8_end 6 = .ok (.getfield 12, 3) := by decide +kernel
theorem dX8_end_9 : decode cX8_end 9 = .ok (.getfield 55, 3) := by decide +kernel
theorem dX8_end_12 : decode cX8_end 12 = .ok (.if_icmp .le 5, 3) := by decide +kernel
theorem dX8_end_15 : decode cX8_end 15 = .ok (.iconst 0, 1) := by decide +kernel
theorem dX8_end_16 : decode cX8_end 16 = .ok (.ireturn, 1) := by decide +kernel
theorem dX8_end_17 : decode cX8_end 17 = .ok (.aload_n 0, 1) := by decide +kernel
theorem dX8_end_18 : decode cX8_end 18 = .ok (.getfield 12, 3) := by decide +kernel
theorem dX8_end_21 : decode cX8_end 21 = .ok (.iload_n 1, 1) := by decide +kernel
theorem dX8_end_22 : decode cX8_end 22 = .ok (.putfield 55, 3) := by decide +kernel
theorem dX8_end_25 : decode cX8_end 25 = .ok (.iconst 1, 1) := by decide +kernel
theorem dX8_end_26 : decode cX8_end 26 = .ok (.ireturn, 1) := by decide +kernel
set_option maxRecDepth 20000 in
theorem ggX8_text_X6_readInto : GoodIn wsX8_text wsX6_readInto := goodIn_r _ [9, 10, 11, 12, 13, 14, 15, 16, 17, 18, 19, 20, 21, 22, 23, 24, 25, 26, 27, 28, 29, 30, 31, 32, 33, 34, 35, 36, 37, 38, 39, 40, 41, 42, 43, 44, 45, 46, 47, 48, 49, 50, 51, 52, 53, 54, 55, 56, 57, 58, 59, 60, 61, 62, 8, 63, 64, 65, 66, 67, 68, 69, 70, 71, 72, 73, 74, 75, 76, 77, 78, 79, 80, 81, 82, 83, 84, 85, 86, 87, 88, 89, 90, 91, 92, 93, 94, 95, 96, 97, 98, 99, 100, 101, 102, 103, 104, 105, 106, 107, 108, 109, 110, 111, 112, 113, 114, 115, 116, 117, 118, 119, 120, 121, 122, 123, 124, 125, 126, 127, 128, 129, 130, 131, 132, 133, 134, 135, 136, 137, 138, 139, 140, 141, 142, 143, 144, 145, 146, 147, 148, 149, 150, 151, 152, 153, 154, 155, 156, 157, 158, 159, 160, 161, 162, 163, 164, 165, 166, 167, 168, 169, 170, 171, 172, 173, 227, 228, 229, 230, 225, 226, 231, 232, 233, 234, 235, 236, 237, 238, 239, 240] (by decide +kernel) (by decide +kernel)
set_option maxRecDepth 20000 in
theorem gX8_text_X6_readInto : GoodIn wsX8_text (wsV RX8 62 RX6 yX6_readInto wsX6_readInto) := goodIn_app (goodIn_of _ (by decide +kernel)) ggX8_text_X6_readInto
set_option maxRecDepth 20000 in
theorem ggX8_text_X8_adoptDraft : GoodIn wsX8_text wsX8_adoptDraft := goodIn_r _ [178, 2, 179, 180, 181, 182, 183, 184, 185, 186, 187, 188, 189, 190, 191, 192, 193, 194, 195, 196, 197, 198, 19, 199, 139, 200, 201, 202, 203, 204, 205, 206, 207, 208, 209, 210, 211, 212, 213, 214, 215, 216, 217, 218, 219, 220, 221, 222, 223, 224, 241, 242, 243, 244, 245, 246, 247, 248, 249, 250, 236, 237, 238, 239, 240, 251, 252, 253, 254, 255, 256, 257, 258, 259] (by decide +kernel) (by decide +kernel)
set_option maxRecDepth 20000 in
theorem gX8_text_X8_adoptDraft : GoodIn wsX8_text (wsV RX8 66 RX8 yX8_adoptDraft wsX8_adoptDraft) := goodIn_app (goodIn_of _ (by decide +kernel)) ggX8_text_X8_adoptDraft
theorem dX8_text_0 : decode cX8_text 0 = .ok (.aload_n 0, 1) := by decide +kernel
theorem dX8_text_1 : decode cX8_text 1 = .ok (.getfield 21, 3) := by decide +kernel
theorem dX8_text_4 : decode cX8_text 4 = .ok (.aload_n 0, 1) := by decide +kernel
theorem dX8_text_5 : decode cX8_text 5 = .ok (.getfield 32, 3) := by decide +kernel
theorem dX8_text_8 : decode cX8_text 8 = .ok (.invokevirtual 62, 3) := by decide +kernel
theorem dX8_text_11 : decode cX8_text 11 = .ok (.istore_n 1, 1) := by decide +kernel
theorem dX8_text_12 : decode cX8_text 12 = .ok (.aload_n 0, 1) := by decide +kernel
theorem dX8_text_13 : decode cX8_text 13 = .ok (.getfield 12, 3) := by decide +kernel
theorem dX8_text_16 : decode cX8_text 16 = .ok (.iconst 0, 1) := by decide +kernel
theorem dX8_text_17 : decode cX8_text 17 = .ok (.putfield 55, 3) := by decide +kernel
theorem dX8_text_20 : decode cX8_text 20 = .ok (.iload_n 1, 1) := by decide +kernel
theorem dX8_text_21 : decode cX8_text 21 = .ok (.ifCond .lt 7, 3) := by decide +kernel
theorem dX8_text_24 : decode cX8_text 24 = .ok (.aload_n 0, 1) := by decide +kernel
theorem dX8_text_25 : decode cX8_text 25 = .ok (.invokevirtual 66, 3) := by decide +kernel
theorem dX8_text_28 : decode cX8_text 28 = .ok (.iload_n 1, 1) := by decide +kernel
theorem dX8_text_29 : decode cX8_text 29 = .ok (.ireturn, 1) := by decide +kernel
theorem dX8_fault_0 : decode cX8_fault 0 = .ok (.aload_n 0, 1) := by decide +kernel
theorem dX8_fault_1 : decode cX8_fault 1 = .ok (.getfield 21, 3) := by decide +kernel
theorem dX8_fault_4 : decode cX8_fault 4 = .ok (.getfield 69, 3) := by decide +kernel
theorem dX8_fault_7 : decode cX8_fault 7 = .ok (.ireturn, 1) := by decide +kernel
set_option maxRecDepth 20000 in
theorem ggX8_adoptDraft_X3_begin : GoodIn wsX8_adoptDraft wsX3_begin := goodIn_r _ [11, 12, 13, 14, 15, 16, 17, 18, 19, 20, 21, 22, 23, 24, 25, 26, 27, 28, 29, 30, 31, 32, 33, 34, 35, 36, 37, 38, 39, 40, 41, 42, 53, 54, 55, 56, 57, 58, 59, 60, 61, 62, 63, 64, 65, 66, 67, 68, 69, 70, 71, 72, 73] (by decide +kernel) (by decide +kernel)
set_option maxRecDepth 20000 in
theorem gX8_adoptDraft_X3_begin : GoodIn wsX8_adoptDraft (wsV RX8 75 RX3 yX3_begin wsX3_begin) := goodIn_app (goodIn_of _ (by decide +kernel)) ggX8_adoptDraft_X3_begin
theorem dX8_adoptDraft_0 : decode cX8_adoptDraft 0 = .ok (.aload_n 0, 1) := by decide +kernel
theorem dX8_adoptDraft_1 : decode cX8_adoptDraft 1 = .ok (.getfield 32, 3) := by decide +kernel
theorem dX8_adoptDraft_4 : decode cX8_adoptDraft 4 = .ok (.astore_n 1, 1) := by decide +kernel
theorem dX8_adoptDraft_5 : decode cX8_adoptDraft 5 = .ok (.aload_n 0, 1) := by decide +kernel
theorem dX8_adoptDraft_6 : decode cX8_adoptDraft 6 = .ok (.aload_n 0, 1) := by decide +kernel
theorem dX8_adoptDraft_7 : decode cX8_adoptDraft 7 = .ok (.getfield 28, 3) := by decide +kernel
theorem dX8_adoptDraft_10 : decode cX8_adoptDraft 10 = .ok (.putfield 32, 3) := by decide +kernel
theorem dX8_adoptDraft_13 : decode cX8_adoptDraft 13 = .ok (.aload_n 0, 1) := by decide +kernel
theorem dX8_adoptDraft_14 : decode cX8_adoptDraft 14 = .ok (.aload_n 1, 1) := by decide +kernel
theorem dX8_adoptDraft_15 : decode cX8_adoptDraft 15 = .ok (.putfield 28, 3) := by decide +kernel
theorem dX8_adoptDraft_18 : decode cX8_adoptDraft 18 = .ok (.aload_n 0, 1) := by decide +kernel
theorem dX8_adoptDraft_19 : decode cX8_adoptDraft 19 = .ok (.iconst 0, 1) := by decide +kernel
theorem dX8_adoptDraft_20 : decode cX8_adoptDraft 20 = .ok (.putfield 51, 3) := by decide +kernel
theorem dX8_adoptDraft_23 : decode cX8_adoptDraft 23 = .ok (.aload_n 0, 1) := by decide +kernel
theorem dX8_adoptDraft_24 : decode cX8_adoptDraft 24 = .ok (.getfield 47, 3) := by decide +kernel
theorem dX8_adoptDraft_27 : decode cX8_adoptDraft 27 = .ok (.iconst 0, 1) := by decide +kernel
theorem dX8_adoptDraft_28 : decode cX8_adoptDraft 28 = .ok (.putfield 72, 3) := by decide +kernel
theorem dX8_adoptDraft_31 : decode cX8_adoptDraft 31 = .ok (.iconst 0, 1) := by decide +kernel
theorem dX8_adoptDraft_32 : decode cX8_adoptDraft 32 = .ok (.istore_n 2, 1) := by decide +kernel
theorem dX8_adoptDraft_33 : decode cX8_adoptDraft 33 = .ok (.iload_n 2, 1) := by decide +kernel
theorem dX8_adoptDraft_34 : decode cX8_adoptDraft 34 = .ok (.iconst 4, 1) := by decide +kernel
theorem dX8_adoptDraft_35 : decode cX8_adoptDraft 35 = .ok (.if_icmp .ge 23, 3) := by decide +kernel
theorem dX8_adoptDraft_38 : decode cX8_adoptDraft 38 = .ok (.aload_n 0, 1) := by decide +kernel
theorem dX8_adoptDraft_39 : decode cX8_adoptDraft 39 = .ok (.getfield 37, 3) := by decide +kernel
theorem dX8_adoptDraft_42 : decode cX8_adoptDraft 42 = .ok (.iload_n 2, 1) := by decide +kernel
theorem dX8_adoptDraft_43 : decode cX8_adoptDraft 43 = .ok (.aaload, 1) := by decide +kernel
theorem dX8_adoptDraft_44 : decode cX8_adoptDraft 44 = .ok (.aload_n 0, 1) := by decide +kernel
theorem dX8_adoptDraft_45 : decode cX8_adoptDraft 45 = .ok (.getfield 28, 3) := by decide +kernel
theorem dX8_adoptDraft_48 : decode cX8_adoptDraft 48 = .ok (.iload_n 2, 1) := by decide +kernel
theorem dX8_adoptDraft_49 : decode cX8_adoptDraft 49 = .ok (.invokevirtual 75, 3) := by decide +kernel
theorem dX8_adoptDraft_52 : decode cX8_adoptDraft 52 = .ok (.iinc 2 1, 3) := by decide +kernel
theorem dX8_adoptDraft_55 : decode cX8_adoptDraft 55 = .ok (.goto (-22), 3) := by decide +kernel
theorem dX8_adoptDraft_58 : decode cX8_adoptDraft 58 = .ok (.return_, 1) := by decide +kernel
set_option maxRecDepth 20000 in
theorem ggX8_now_X2_workers : GoodIn wsX8_now wsX2_workers := goodIn_r _ [12, 13, 93, 94, 95, 96, 97] (by decide +kernel) (by decide +kernel)
set_option maxRecDepth 20000 in
theorem gX8_now_X2_workers : GoodIn wsX8_now (wsV RX8 78 RX2 yX2_workers wsX2_workers) := goodIn_app (goodIn_of _ (by decide +kernel)) ggX8_now_X2_workers
set_option maxRecDepth 20000 in
theorem ggX8_now_X8_presentWorkers : GoodIn wsX8_now wsX8_presentWorkers := goodIn_r _ [18, 2, 19, 20, 8, 9, 10, 11, 12, 13, 21, 22, 23, 24, 25, 26, 81, 82, 83, 84, 85, 86, 87, 98, 99, 100, 101, 102, 103, 104, 93, 94, 95, 96, 97, 105, 106, 107, 108, 109, 110, 111, 112, 113] (by decide +kernel) (by decide +kernel)
set_option maxRecDepth 20000 in
theorem gX8_now_X8_presentWorkers : GoodIn wsX8_now (wsV RX8 82 RX8 yX8_presentWorkers wsX8_presentWorkers) := goodIn_app (goodIn_of _ (by decide +kernel)) ggX8_now_X8_presentWorkers
set_option maxRecDepth 20000 in
theorem ggX8_now_X2_seasons : GoodIn wsX8_now wsX2_seasons := goodIn_r _ [30, 13, 93, 94, 95, 96, 97] (by decide +kernel) (by decide +kernel)
set_option maxRecDepth 20000 in
theorem gX8_now_X2_seasons : GoodIn wsX8_now (wsV RX8 85 RX2 yX2_seasons wsX2_seasons) := goodIn_app (goodIn_of _ (by decide +kernel)) ggX8_now_X2_seasons
set_option maxRecDepth 20000 in
theorem ggX8_now_X8_changedPlans : GoodIn wsX8_now wsX8_changedPlans := goodIn_r _ [34, 2, 19, 8, 9, 10, 11, 12, 13, 35, 36, 37, 38, 39, 40, 41, 42, 43, 44, 81, 82, 83, 84, 85, 86, 87, 93, 94, 95, 96, 97, 98, 99, 100, 101, 102, 103, 104] (by decide +kernel) (by decide +kernel)
set_option maxRecDepth 20000 in
theorem gX8_now_X8_changedPlans : GoodIn wsX8_now (wsV RX8 88 RX8 yX8_changedPlans wsX8_changedPlans) := goodIn_app (goodIn_of _ (by decide +kernel)) ggX8_now_X8_changedPlans
set_option maxRecDepth 20000 in
theorem ggX8_now_X8_bookedDays : GoodIn wsX8_now wsX8_bookedDays := goodIn_r _ [48, 2, 19, 1, 8, 9, 10, 11, 12, 13, 49, 50, 51, 38, 52, 53, 54, 55, 56, 57, 58, 59, 60, 61, 62, 63, 81, 82, 83, 84, 85, 86, 87, 93, 94, 95, 96, 97, 98, 99, 100, 101, 102, 103, 104, 105, 106, 107, 108, 109, 110, 111, 112, 113] (by decide +kernel) (by decide +kernel)
set_option maxRecDepth 20000 in
theorem gX8_now_X8_bookedDays : GoodIn wsX8_now (wsV RX8 91 RX8 yX8_bookedDays wsX8_bookedDays) := goodIn_app (goodIn_of _ (by decide +kernel)) ggX8_now_X8_bookedDays
set_option maxRecDepth 20000 in
theorem ggX8_now_X8_flaggedDays : GoodIn wsX8_now wsX8_flaggedDays := goodIn_r _ [67, 2, 19, 20, 68, 8, 9, 10, 11, 12, 13, 81, 82, 83, 84, 85, 86, 87, 98, 99, 100, 101, 102, 103, 104, 105, 106, 107, 108, 109, 110, 111, 112, 113, 93, 94, 95, 96, 97] (by decide +kernel) (by decide +kernel)
set_option maxRecDepth 20000 in
theorem gX8_now_X8_flaggedDays : GoodIn wsX8_now (wsV RX8 94 RX8 yX8_flaggedDays wsX8_flaggedDays) := goodIn_app (goodIn_of _ (by decide +kernel)) ggX8_now_X8_flaggedDays
set_option maxRecDepth 20000 in
theorem ggX8_now_X8_coinsPaid : GoodIn wsX8_now wsX8_coinsPaid := goodIn_r _ [72, 2, 19, 20, 8, 9, 10, 11, 12, 13, 73, 74, 75, 24, 76, 77, 78, 79, 80, 81, 82, 83, 84, 85, 86, 87, 98, 99, 100, 101, 102, 103, 104, 93, 94, 95, 96, 97, 105, 106, 107, 108, 109, 110, 111, 112, 113] (by decide +kernel) (by decide +kernel)
set_option maxRecDepth 20000 in
theorem gX8_now_X8_coinsPaid : GoodIn wsX8_now (wsV RX8 97 RX8 yX8_coinsPaid wsX8_coinsPaid) := goodIn_app (goodIn_of _ (by decide +kernel)) ggX8_now_X8_coinsPaid
theorem dX8_now_0 : decode cX8_now 0 = .ok (.iload_n 1, 1) := by decide +kernel
theorem dX8_now_1 : decode cX8_now 1 = .ok (.tableswitch 117 0 9 #[55, 60, 68, 73, 81, 86, 91, 96, 101, 109], 55) := by decide +kernel
theorem dX8_now_56 : decode cX8_now 56 = .ok (.aload_n 0, 1) := by decide +kernel
theorem dX8_now_57 : decode cX8_now 57 = .ok (.getfield 51, 3) := by decide +kernel
theorem dX8_now_60 : decode cX8_now 60 = .ok (.ireturn, 1) := by decide +kernel
theorem dX8_now_61 : decode cX8_now 61 = .ok (.aload_n 0, 1) := by decide +kernel
theorem dX8_now_62 : decode cX8_now 62 = .ok (.getfield 28, 3) := by decide +kernel
theorem dX8_now_65 : decode cX8_now 65 = .ok (.invokevirtual 78, 3) := by decide +kernel
theorem dX8_now_68 : decode cX8_now 68 = .ok (.ireturn, 1) := by decide +kernel
theorem dX8_now_69 : decode cX8_now 69 = .ok (.aload_n 0, 1) := by decide +kernel
theorem dX8_now_70 : decode cX8_now 70 = .ok (.invokevirtual 82, 3) := by decide +kernel
theorem dX8_now_73 : decode cX8_now 73 = .ok (.ireturn, 1) := by decide +kernel
theorem dX8_now_74 : decode cX8_now 74 = .ok (.aload_n 0, 1) := by decide +kernel
theorem dX8_now_75 : decode cX8_now 75 = .ok (.getfield 28, 3) := by decide +kernel
theorem dX8_now_78 : decode cX8_now 78 = .ok (.invokevirtual 85, 3) := by decide +kernel
theorem dX8_now_81 : decode cX8_now 81 = .ok (.ireturn, 1) := by decide +kernel
theorem dX8_now_82 : decode cX8_now 82 = .ok (.aload_n 0, 1) := by decide +kernel
theorem dX8_now_83 : decode cX8_now 83 = .ok (.invokevirtual 88, 3) := by decide +kernel
theorem dX8_now_86 : decode cX8_now 86 = .ok (.ireturn, 1) := by decide +kernel
theorem dX8_now_87 : decode cX8_now 87 = .ok (.aload_n 0, 1) := by decide +kernel
theorem dX8_now_88 : decode cX8_now 88 = .ok (.invokevirtual 91, 3) := by decide +kernel
theorem dX8_now_91 : decode cX8_now 91 = .ok (.ireturn, 1) := by decide +kernel
theorem dX8_now_92 : decode cX8_now 92 = .ok (.aload_n 0, 1) := by decide +kernel
theorem dX8_now_93 : decode cX8_now 93 = .ok (.invokevirtual 94, 3) := by decide +kernel
theorem dX8_now_96 : decode cX8_now 96 = .ok (.ireturn, 1) := by decide +kernel
theorem dX8_now_97 : decode cX8_now 97 = .ok (.aload_n 0, 1) := by decide +kernel
theorem dX8_now_98 : decode cX8_now 98 = .ok (.invokevirtual 97, 3) := by decide +kernel
theorem dX8_now_101 : decode cX8_now 101 = .ok (.ireturn, 1) := by decide +kernel
theorem dX8_now_102 : decode cX8_now 102 = .ok (.aload_n 0, 1) := by decide +kernel
theorem dX8_now_103 : decode cX8_now 103 = .ok (.getfield 47, 3) := by decide +kernel
theorem dX8_now_106 : decode cX8_now 106 = .ok (.getfield 72, 3) := by decide +kernel
theorem dX8_now_109 : decode cX8_now 109 = .ok (.ireturn, 1) := by decide +kernel
theorem dX8_now_110 : decode cX8_now 110 = .ok (.aload_n 0, 1) := by decide +kernel
theorem dX8_now_111 : decode cX8_now 111 = .ok (.getfield 12, 3) := by decide +kernel
theorem dX8_now_114 : decode cX8_now 114 = .ok (.getfield 55, 3) := by decide +kernel
theorem dX8_now_117 : decode cX8_now 117 = .ok (.ireturn, 1) := by decide +kernel
theorem dX8_now_118 : decode cX8_now 118 = .ok (.ldc 100, 2) := by decide +kernel
theorem dX8_now_120 : decode cX8_now 120 = .ok (.ireturn, 1) := by decide +kernel
set_option maxRecDepth 20000 in
theorem ggX8_worker_X8_isWorker : GoodIn wsX8_worker wsX8_isWorker := goodIn_r _ [18, 19, 20, 21, 22, 23, 24, 25, 85, 86, 87, 88, 89, 90, 91, 108, 109, 110, 111, 112] (by decide +kernel) (by decide +kernel)
set_option maxRecDepth 20000 in
theorem gX8_worker_X8_isWorker : GoodIn wsX8_worker (wsV RX8 101 RX8 yX8_isWorker wsX8_isWorker) := goodIn_app (goodIn_of _ (by decide +kernel)) ggX8_worker_X8_isWorker
set_option maxRecDepth 20000 in
theorem ggX8_worker_X3_leaveLeft : GoodIn wsX8_worker wsX3_leaveLeft := goodIn_r _ [30, 31, 32, 33, 34, 35, 36, 37, 38, 39, 40, 41, 29, 42, 43, 44, 45, 46, 47, 48, 49, 50, 51, 52, 53, 54, 55, 56, 57, 58, 59, 60, 61, 62, 63, 64, 65, 23, 66, 25, 67, 92, 93, 94, 95, 96, 97, 98, 99, 100, 101, 102, 103, 104, 105, 106, 107, 108, 109, 110, 111, 112] (by decide +kernel) (by decide +kernel)
set_option maxRecDepth 20000 in
theorem gX8_worker_X3_leaveLeft : GoodIn wsX8_worker (wsV RX8 121 RX3 yX3_leaveLeft wsX3_leaveLeft) := goodIn_app (goodIn_of _ (by decide +kernel)) ggX8_worker_X3_leaveLeft
set_option maxRecDepth 20000 in
theorem ggX8_worker_X3_workedBefore : GoodIn wsX8_worker wsX3_workedBefore := goodIn_r _ [71, 72, 73, 74, 29, 75, 47, 76, 77, 78, 79, 92, 93, 94, 95, 96, 97, 98] (by decide +kernel) (by decide +kernel)
set_option maxRecDepth 20000 in
theorem gX8_worker_X3_workedBefore : GoodIn wsX8_worker (wsV RX8 142 RX3 yX3_workedBefore wsX3_workedBefore) := goodIn_app (goodIn_of _ (by decide +kernel)) ggX8_worker_X3_workedBefore
set_option maxRecDepth 20000 in
theorem ggX8_worker_X3_sickDaysBefore : GoodIn wsX8_worker wsX3_sickDaysBefore := goodIn_r _ [83, 43, 44, 45, 29, 46, 47, 48, 49, 50, 51, 31, 52, 92, 93, 94, 95, 96, 97, 98, 99, 100, 101, 102, 103, 104, 105, 106, 107] (by decide +kernel) (by decide +kernel)
set_option maxRecDepth 20000 in
theorem gX8_worker_X3_sickDaysBefore : GoodIn wsX8_worker (wsV RX8 146 RX3 yX3_sickDaysBefore wsX3_sickDaysBefore) := goodIn_app (goodIn_of _ (by decide +kernel)) ggX8_worker_X3_sickDaysBefore
set_option maxRecDepth 20000 in
theorem ggX8_worker_X0_isGone : GoodIn wsX8_worker wsX0_isGone := goodIn_r _ [37, 38, 99, 100, 101, 102, 103, 104, 105, 106, 107] (by decide +kernel) (by decide +kernel)
set_option maxRecDepth 20000 in
theorem gX8_worker_X0_isGone : GoodIn wsX8_worker (wsV RX8 151 RX0 yX0_isGone wsX0_isGone) := goodIn_app (goodIn_of _ (by decide +kernel)) ggX8_worker_X0_isGone
theorem dX8_worker_0 : decode cX8_worker 0 = .ok (.aload_n 0, 1) := by decide +kernel
theorem dX8_worker_1 : decode cX8_worker 1 = .ok (.iload_n 1, 1) := by decide +kernel
theorem dX8_worker_2 : decode cX8_worker 2 = .ok (.invokevirtual 101, 3) := by decide +kernel
theorem dX8_worker_5 : decode cX8_worker 5 = .ok (.ifCond .ne 13, 3) := by decide +kernel
theorem dX8_worker_8 : decode cX8_worker 8 = .ok (.new 105, 3) := by decide +kernel
theorem dX8_worker_11 : decode cX8_worker 11 = .ok (.dup, 1) := by decide +kernel
theorem dX8_worker_12 : decode cX8_worker 12 = .ok (.ldc 107, 2) := by decide +kernel
theorem dX8_worker_14 : decode cX8_worker 14 = .ok (.invokespecial 109, 3) := by decide +kernel
theorem dX8_worker_17 : decode cX8_worker 17 = .ok (.athrow, 1) := by decide +kernel
theorem dX8_worker_18 : decode cX8_worker 18 = .ok (.aload_n 0, 1) := by decide +kernel
theorem dX8_worker_19 : decode cX8_worker 19 = .ok (.getfield 37, 3) := by decide +kernel
theorem dX8_worker_22 : decode cX8_worker 22 = .ok (.iload_n 1, 1) := by decide +kernel
theorem dX8_worker_23 : decode cX8_worker 23 = .ok (.aaload, 1) := by decide +kernel
theorem dX8_worker_24 : decode cX8_worker 24 = .ok (.astore_n 3, 1) := by decide +kernel
theorem dX8_worker_25 : decode cX8_worker 25 = .ok (.aload_n 3, 1) := by decide +kernel
theorem dX8_worker_26 : decode cX8_worker 26 = .ok (.getfield 112, 3) := by decide +kernel
theorem dX8_worker_29 : decode cX8_worker 29 = .ok (.astore 4, 2) := by decide +kernel
theorem dX8_worker_31 : decode cX8_worker 31 = .ok (.iload_n 2, 1) := by decide +kernel
theorem dX8_worker_32 : decode cX8_worker 32 = .ok (.tableswitch 149 0 11 #[64, 70, 75, 81, 87, 93, 99, 105, 111, 120, 129, 135], 64) := by decide +kernel
theorem dX8_worker_96 : decode cX8_worker 96 = .ok (.aload 4, 2) := by decide +kernel
theorem dX8_worker_98 : decode cX8_worker 98 = .ok (.getfield 116, 3) := by decide +kernel
theorem dX8_worker_101 : decode cX8_worker 101 = .ok (.ireturn, 1) := by decide +kernel
theorem dX8_worker_102 : decode cX8_worker 102 = .ok (.aload_n 3, 1) := by decide +kernel
theorem dX8_worker_103 : decode cX8_worker 103 = .ok (.invokevirtual 121, 3) := by decide +kernel
theorem dX8_worker_106 : decode cX8_worker 106 = .ok (.ireturn, 1) := by decide +kernel
theorem dX8_worker_107 : decode cX8_worker 107 = .ok (.aload 4, 2) := by decide +kernel
theorem dX8_worker_109 : decode cX8_worker 109 = .ok (.getfield 124, 3) := by decide +kernel
theorem dX8_worker_112 : decode cX8_worker 112 = .ok (.ireturn, 1) := by decide +kernel
theorem dX8_worker_113 : decode cX8_worker 113 = .ok (.aload 4, 2) := by decide +kernel
theorem dX8_worker_115 : decode cX8_worker 115 = .ok (.getfield 127, 3) := by decide +kernel
theorem dX8_worker_118 : decode cX8_worker 118 = .ok (.ireturn, 1) := by decide +kernel
theorem dX8_worker_119 : decode cX8_worker 119 = .ok (.aload 4, 2) := by decide +kernel
theorem dX8_worker_121 : decode cX8_worker 121 = .ok (.getfield 130, 3) := by decide +kernel
theorem dX8_worker_124 : decode cX8_worker 124 = .ok (.ireturn, 1) := by decide +kernel
theorem dX8_worker_125 : decode cX8_worker 125 = .ok (.aload 4, 2) := by decide +kernel
theorem dX8_worker_127 : decode cX8_worker 127 = .ok (.getfield 133, 3) := by decide +kernel
theorem dX8_worker_130 : decode cX8_worker 130 = .ok (.ireturn, 1) := by decide +kernel
theorem dX8_worker_131 : decode cX8_worker 131 = .ok (.aload 4, 2) := by decide +kernel
theorem dX8_worker_133 : decode cX8_worker 133 = .ok (.getfield 136, 3) := by decide +kernel
theorem dX8_worker_136 : decode cX8_worker 136 = .ok (.ireturn, 1) := by decide +kernel
theorem dX8_worker_137 : decode cX8_worker 137 = .ok (.aload 4, 2) := by decide +kernel
theorem dX8_worker_139 : decode cX8_worker 139 = .ok (.getfield 139, 3) := by decide +kernel
theorem dX8_worker_142 : decode cX8_worker 142 = .ok (.ireturn, 1) := by decide +kernel
theorem dX8_worker_143 : decode cX8_worker 143 = .ok (.aload_n 3, 1) := by decide +kernel
theorem dX8_worker_144 : decode cX8_worker 144 = .ok (.aload_n 0, 1) := by decide +kernel
theorem dX8_worker_145 : decode cX8_worker 145 = .ok (.getfield 51, 3) := by decide +kernel
theorem dX8_worker_148 : decode cX8_worker 148 = .ok (.invokevirtual 142, 3) := by decide +kernel
theorem dX8_worker_151 : decode cX8_worker 151 = .ok (.ireturn, 1) := by decide +kernel
theorem dX8_worker_152 : decode cX8_worker 152 = .ok (.aload_n 3, 1) := by decide +kernel
theorem dX8_worker_153 : decode cX8_worker 153 = .ok (.aload_n 0, 1) := by decide +kernel
theorem dX8_worker_154 : decode cX8_worker 154 = .ok (.getfield 51, 3) := by decide +kernel
theorem dX8_worker_157 : decode cX8_worker 157 = .ok (.invokevirtual 146, 3) := by decide +kernel
theorem dX8_worker_160 : decode cX8_worker 160 = .ok (.ireturn, 1) := by decide +kernel
theorem dX8_worker_161 : decode cX8_worker 161 = .ok (.aload 4, 2) := by decide +kernel
theorem dX8_worker_163 : decode cX8_worker 163 = .ok (.getfield 149, 3) := by decide +kernel
theorem dX8_worker_166 : decode cX8_worker 166 = .ok (.ireturn, 1) := by decide +kernel
theorem dX8_worker_167 : decode cX8_worker 167 = .ok (.aload 4, 2) := by decide +kernel
theorem dX8_worker_169 : decode cX8_worker 169 = .ok (.invokevirtual 151, 3) := by decide +kernel
theorem dX8_worker_172 : decode cX8_worker 172 = .ok (.ifCond .eq 7, 3) := by decide +kernel
theorem dX8_worker_175 : decode cX8_worker 175 = .ok (.iconst 1, 1) := by decide +kernel
theorem dX8_worker_176 : decode cX8_worker 176 = .ok (.goto 4, 3) := by decide +kernel
theorem dX8_worker_179 : decode cX8_worker 179 = .ok (.iconst 0, 1) := by decide +kernel
theorem dX8_worker_180 : decode cX8_worker 180 = .ok (.ireturn, 1) := by decide +kernel
theorem dX8_worker_181 : decode cX8_worker 181 = .ok (.new 105, 3) := by decide +kernel
theorem dX8_worker_184 : decode cX8_worker 184 = .ok (.dup, 1) := by decide +kernel
theorem dX8_worker_185 : decode cX8_worker 185 = .ok (.ldc 155, 2) := by decide +kernel
theorem dX8_worker_187 : decode cX8_worker 187 = .ok (.invokespecial 109, 3) := by decide +kernel
theorem dX8_worker_190 : decode cX8_worker 190 = .ok (.athrow, 1) := by decide +kernel
set_option maxRecDepth 20000 in
theorem ggX8_day_X8_isWorker : GoodIn wsX8_day wsX8_isWorker := goodIn_r _ [7, 8, 9, 10, 11, 12, 13, 14, 61, 62, 63, 64, 65, 66, 67, 75, 76, 77, 78, 79] (by decide +kernel) (by decide +kernel)
set_option maxRecDepth 20000 in
theorem gX8_day_X8_isWorker : GoodIn wsX8_day (wsV RX8 101 RX8 yX8_isWorker wsX8_isWorker) := goodIn_app (goodIn_of _ (by decide +kernel)) ggX8_day_X8_isWorker
set_option maxRecDepth 20000 in
theorem ggX8_day_X8_isDay : GoodIn wsX8_day wsX8_isDay := goodIn_r _ [17] (by decide +kernel) (by decide +kernel)
set_option maxRecDepth 20000 in
theorem gX8_day_X8_isDay : GoodIn wsX8_day (va_wsS RX8 157 yX8_isDay wsX8_isDay) := goodIn_app (goodIn_of _ (by decide +kernel)) ggX8_day_X8_isDay
set_option maxRecDepth 20000 in
theorem ggX8_day_X3_planOn : GoodIn wsX8_day wsX3_planOn := goodIn_r _ [22, 23, 24, 25, 26, 27, 21, 28, 29, 30, 31, 12, 32, 14, 33, 68, 69, 70, 71, 72, 73, 74, 75, 76, 77, 78, 79] (by decide +kernel) (by decide +kernel)
set_option maxRecDepth 20000 in
theorem gX8_day_X3_planOn : GoodIn wsX8_day (wsV RX8 160 RX3 yX3_planOn wsX3_planOn) := goodIn_app (goodIn_of _ (by decide +kernel)) ggX8_day_X3_planOn
set_option maxRecDepth 20000 in
theorem ggX8_day_X3_workedOn : GoodIn wsX8_day wsX3_workedOn := goodIn_r _ [37, 38, 39, 40, 41, 42, 68, 69, 70, 71, 72, 73, 74] (by decide +kernel) (by decide +kernel)
set_option maxRecDepth 20000 in
theorem gX8_day_X3_workedOn : GoodIn wsX8_day (wsV RX8 163 RX3 yX3_workedOn wsX3_workedOn) := goodIn_app (goodIn_of _ (by decide +kernel)) ggX8_day_X3_workedOn
set_option maxRecDepth 20000 in
theorem ggX8_day_X3_kindOn : GoodIn wsX8_day wsX3_kindOn := goodIn_r _ [46, 38, 47, 48, 49, 21, 50, 51, 52, 68, 69, 70, 71, 72, 73, 74, 80, 81, 82, 83, 84, 85, 86, 87, 88] (by decide +kernel) (by decide +kernel)
set_option maxRecDepth 20000 in
theorem gX8_day_X3_kindOn : GoodIn wsX8_day (wsV RX8 166 RX3 yX3_kindOn wsX3_kindOn) := goodIn_app (goodIn_of _ (by decide +kernel)) ggX8_day_X3_kindOn
set_option maxRecDepth 20000 in
theorem ggX8_day_X3_loadOn : GoodIn wsX8_day wsX3_loadOn := goodIn_r _ [56, 57, 44, 45, 21, 46, 38, 47, 48, 49, 50, 51, 52, 58, 19, 20, 22, 23, 24, 25, 26, 27, 28, 29, 30, 31, 12, 32, 14, 33, 59, 35, 36, 37, 39, 40, 41, 42, 68, 69, 70, 71, 72, 73, 74, 80, 81, 82, 83, 84, 85, 86, 87, 88, 75, 76, 77, 78, 79] (by decide +kernel) (by decide +kernel)
set_option maxRecDepth 20000 in
theorem gX8_day_X3_loadOn : GoodIn wsX8_day (wsV RX8 169 RX3 yX3_loadOn wsX3_loadOn) := goodIn_app (goodIn_of _ (by decide +kernel)) ggX8_day_X3_loadOn
set_option maxRecDepth 20000 in
theorem ggX8_day_X3_isChanged : GoodIn wsX8_day wsX3_isChanged := goodIn_r _ [28, 23, 68, 69, 70, 71, 72, 73, 74] (by decide +kernel) (by decide +kernel)
set_option maxRecDepth 20000 in
theorem gX8_day_X3_isChanged : GoodIn wsX8_day (wsV RX8 176 RX3 yX3_isChanged wsX3_isChanged) := goodIn_app (goodIn_of _ (by decide +kernel)) ggX8_day_X3_isChanged
theorem dX8_day_0 : decode cX8_day 0 = .ok (.aload_n 0, 1) := by decide +kernel
theorem dX8_day_1 : decode cX8_day 1 = .ok (.iload_n 1, 1) := by decide +kernel
theorem dX8_day_2 : decode cX8_day 2 = .ok (.invokevirtual 101, 3) := by decide +kernel
theorem dX8_day_5 : decode cX8_day 5 = .ok (.ifCond .eq 10, 3) := by decide +kernel
theorem dX8_day_8 : decode cX8_day 8 = .ok (.iload_n 2, 1) := by decide +kernel
theorem dX8_day_9 : decode cX8_day 9 = .ok (.invokestatic 157, 3) := by decide +kernel
theorem dX8_day_12 : decode cX8_day 12 = .ok (.ifCond .ne 5, 3) := by decide +kernel
theorem dX8_day_15 : decode cX8_day 15 = .ok (.iconst (-1), 1) := by decide +kernel
theorem dX8_day_16 : decode cX8_day 16 = .ok (.ireturn, 1) := by decide +kernel
theorem dX8_day_17 : decode cX8_day 17 = .ok (.aload_n 0, 1) := by decide +kernel
theorem dX8_day_18 : decode cX8_day 18 = .ok (.getfield 37, 3) := by decide +kernel
theorem dX8_day_21 : decode cX8_day 21 = .ok (.iload_n 1, 1) := by decide +kernel
theorem dX8_day_22 : decode cX8_day 22 = .ok (.aaload, 1) := by decide +kernel
theorem dX8_day_23 : decode cX8_day 23 = .ok (.astore 4, 2) := by decide +kernel
theorem dX8_day_25 : decode cX8_day 25 = .ok (.iload_n 3, 1) := by decide +kernel
theorem dX8_day_26 : decode cX8_day 26 = .ok (.tableswitch 97 0 5 #[38, 45, 52, 59, 66, 82], 38) := by decide +kernel
theorem dX8_day_64 : decode cX8_day 64 = .ok (.aload 4, 2) := by decide +kernel
theorem dX8_day_66 : decode cX8_day 66 = .ok (.iload_n 2, 1) := by decide +kernel
theorem dX8_day_67 : decode cX8_day 67 = .ok (.invokevirtual 160, 3) := by decide +kernel
theorem dX8_day_70 : decode cX8_day 70 = .ok (.ireturn, 1) := by decide +kernel
theorem dX8_day_71 : decode cX8_day 71 = .ok (.aload 4, 2) := by decide +kernel
theorem dX8_day_73 : decode cX8_day 73 = .ok (.iload_n 2, 1) := by decide +kernel
theorem dX8_day_74 : decode cX8_day 74 = .ok (.invokevirtual 163, 3) := by decide +kernel
theorem dX8_day_77 : decode cX8_day 77 = .ok (.ireturn, 1) := by decide +kernel
theorem dX8_day_78 : decode cX8_day 78 = .ok (.aload 4, 2) := by decide +kernel
theorem dX8_day_80 : decode cX8_day 80 = .ok (.iload_n 2, 1) := by decide +kernel
theorem dX8_day_81 : decode cX8_day 81 = .ok (.invokevirtual 166, 3) := by decide +kernel
theorem dX8_day_84 : decode cX8_day 84 = .ok (.ireturn, 1) := by decide +kernel
theorem dX8_day_85 : decode cX8_day 85 = .ok (.aload 4, 2) := by decide +kernel
theorem dX8_day_87 : decode cX8_day 87 = .ok (.iload_n 2, 1) := by decide +kernel
theorem dX8_day_88 : decode cX8_day 88 = .ok (.invokevirtual 169, 3) := by decide +kernel
theorem dX8_day_91 : decode cX8_day 91 = .ok (.ireturn, 1) := by decide +kernel
theorem dX8_day_92 : decode cX8_day 92 = .ok (.aload 4, 2) := by decide +kernel
theorem dX8_day_94 : decode cX8_day 94 = .ok (.getfield 172, 3) := by decide +kernel
theorem dX8_day_97 : decode cX8_day 97 = .ok (.iload_n 2, 1) := by decide +kernel
theorem dX8_day_98 : decode cX8_day 98 = .ok (.baload, 1) := by decide +kernel
theorem dX8_day_99 : decode cX8_day 99 = .ok (.ifCond .eq 7, 3) := by decide +kernel
theorem dX8_day_102 : decode cX8_day 102 = .ok (.iconst 1, 1) := by decide +kernel
theorem dX8_day_103 : decode cX8_day 103 = .ok (.goto 4, 3) := by decide +kernel
theorem dX8_day_106 : decode cX8_day 106 = .ok (.iconst 0, 1) := by decide +kernel
theorem dX8_day_107 : decode cX8_day 107 = .ok (.ireturn, 1) := by decide +kernel
theorem dX8_day_108 : decode cX8_day 108 = .ok (.aload 4, 2) := by decide +kernel
theorem dX8_day_110 : decode cX8_day 110 = .ok (.iload_n 2, 1) := by decide +kernel
theorem dX8_day_111 : decode cX8_day 111 = .ok (.invokevirtual 176, 3) := by decide +kernel
theorem dX8_day_114 : decode cX8_day 114 = .ok (.ifCond .eq 7, 3) := by decide +kernel
theorem dX8_day_117 : decode cX8_day 117 = .ok (.iconst 1, 1) := by decide +kernel
theorem dX8_day_118 : decode cX8_day 118 = .ok (.goto 4, 3) := by decide +kernel
theorem dX8_day_121 : decode cX8_day 121 = .ok (.iconst 0, 1) := by decide +kernel
theorem dX8_day_122 : decode cX8_day 122 = .ok (.ireturn, 1) := by decide +kernel
theorem dX8_day_123 : decode cX8_day 123 = .ok (.iconst (-1), 1) := by decide +kernel
theorem dX8_day_124 : decode cX8_day 124 = .ok (.ireturn, 1) := by decide +kernel
set_option maxRecDepth 20000 in
theorem ggX8_load_X8_isWorker : GoodIn wsX8_load wsX8_isWorker := goodIn_r _ [6, 7, 8, 9, 10, 11, 12, 13, 69, 70, 71, 72, 73, 74, 75, 76, 77, 78, 79, 80] (by decide +kernel) (by decide +kernel)
set_option maxRecDepth 20000 in
theorem gX8_load_X8_isWorker : GoodIn wsX8_load (wsV RX8 101 RX8 yX8_isWorker wsX8_isWorker) := goodIn_app (goodIn_of _ (by decide +kernel)) ggX8_load_X8_isWorker
set_option maxRecDepth 20000 in
theorem ggX8_load_X8_isDay : GoodIn wsX8_load wsX8_isDay := goodIn_r _ [16] (by decide +kernel) (by decide +kernel)
set_option maxRecDepth 20000 in
theorem gX8_load_X8_isDay : GoodIn wsX8_load (va_wsS RX8 157 yX8_isDay wsX8_isDay) := goodIn_app (goodIn_of _ (by decide +kernel)) ggX8_load_X8_isDay
set_option maxRecDepth 20000 in
theorem ggX8_load_X3_windowLoad : GoodIn wsX8_load wsX3_windowLoad := goodIn_r _ [21, 22, 23, 24, 20, 25, 26, 27, 28, 29, 30, 31, 32, 33, 11, 34, 35, 36, 37, 38, 39, 40, 41, 42, 43, 44, 45, 46, 47, 48, 49, 50, 51, 52, 53, 54, 55, 56, 57, 58, 59, 60, 61, 62, 63, 13, 64, 65, 66, 67, 68, 81, 82, 83, 84, 85, 86, 87, 76, 77, 78, 79, 80, 88, 89, 90, 91, 92, 93, 94, 95, 96] (by decide +kernel) (by decide +kernel)
set_option maxRecDepth 20000 in
theorem gX8_load_X3_windowLoad : GoodIn wsX8_load (wsV RX8 179 RX3 yX3_windowLoad wsX3_windowLoad) := goodIn_app (goodIn_of _ (by decide +kernel)) ggX8_load_X3_windowLoad
theorem dX8_load_0 : decode cX8_load 0 = .ok (.aload_n 0, 1) := by decide +kernel
theorem dX8_load_1 : decode cX8_load 1 = .ok (.iload_n 1, 1) := by decide +kernel
theorem dX8_load_2 : decode cX8_load 2 = .ok (.invokevirtual 101, 3) := by decide +kernel
theorem dX8_load_5 : decode cX8_load 5 = .ok (.ifCond .eq 23, 3) := by decide +kernel
theorem dX8_load_8 : decode cX8_load 8 = .ok (.iload_n 2, 1) := by decide +kernel
theorem dX8_load_9 : decode cX8_load 9 = .ok (.invokestatic 157, 3) := by decide +kernel
theorem dX8_load_12 : decode cX8_load 12 = .ok (.ifCond .eq 16, 3) := by decide +kernel
theorem dX8_load_15 : decode cX8_load 15 = .ok (.aload_n 0, 1) := by decide +kernel
theorem dX8_load_16 : decode cX8_load 16 = .ok (.getfield 37, 3) := by decide +kernel
theorem dX8_load_19 : decode cX8_load 19 = .ok (.iload_n 1, 1) := by decide +kernel
theorem dX8_load_20 : decode cX8_load 20 = .ok (.aaload, 1) := by decide +kernel
theorem dX8_load_21 : decode cX8_load 21 = .ok (.iload_n 2, 1) := by decide +kernel
theorem dX8_load_22 : decode cX8_load 22 = .ok (.invokevirtual 179, 3) := by decide +kernel
theorem dX8_load_25 : decode cX8_load 25 = .ok (.goto 4, 3) := by decide +kernel
theorem dX8_load_28 : decode cX8_load 28 = .ok (.iconst (-1), 1) := by decide +kernel
theorem dX8_load_29 : decode cX8_load 29 = .ok (.ireturn, 1) := by decide +kernel
set_option maxRecDepth 20000 in
theorem ggX8_planned_X8_isWorker : GoodIn wsX8_planned wsX8_isWorker := goodIn_r _ [6, 7, 8, 9, 10, 11, 12, 13, 37, 38, 39, 40, 41, 42, 43, 44, 45, 46, 47, 48] (by decide +kernel) (by decide +kernel)
set_option maxRecDepth 20000 in
theorem gX8_planned_X8_isWorker : GoodIn wsX8_planned (wsV RX8 101 RX8 yX8_isWorker wsX8_isWorker) := goodIn_app (goodIn_of _ (by decide +kernel)) ggX8_planned_X8_isWorker
set_option maxRecDepth 20000 in
theorem ggX8_planned_X8_isDay : GoodIn wsX8_planned wsX8_isDay := goodIn_r _ [16] (by decide +kernel) (by decide +kernel)
set_option maxRecDepth 20000 in
theorem gX8_planned_X8_isDay : GoodIn wsX8_planned (va_wsS RX8 157 yX8_isDay wsX8_isDay) := goodIn_app (goodIn_of _ (by decide +kernel)) ggX8_planned_X8_isDay
set_option maxRecDepth 20000 in
theorem ggX8_planned_X3_plansBetween : GoodIn wsX8_planned wsX3_plansBetween := goodIn_r _ [21, 22, 23, 24, 20, 25, 26, 27, 28, 29, 30, 31, 32, 33, 34, 11, 35, 13, 36, 49, 50, 51, 52, 53, 54, 55, 44, 45, 46, 47, 48] (by decide +kernel) (by decide +kernel)
set_option maxRecDepth 20000 in
theorem gX8_planned_X3_plansBetween : GoodIn wsX8_planned (wsV RX8 182 RX3 yX3_plansBetween wsX3_plansBetween) := goodIn_app (goodIn_of _ (by decide +kernel)) ggX8_planned_X3_plansBetween
theorem dX8_planned_0 : decode cX8_planned 0 = .ok (.aload_n 0, 1) := by decide +kernel
theorem dX8_planned_1 : decode cX8_planned 1 = .ok (.iload_n 1, 1) := by decide +kernel
theorem dX8_planned_2 : decode cX8_planned 2 = .ok (.invokevirtual 101, 3) := by decide +kernel
theorem dX8_planned_5 : decode cX8_planned 5 = .ok (.ifCond .eq 22, 3) := by decide +kernel
theorem dX8_planned_8 : decode cX8_planned 8 = .ok (.iload_n 2, 1) := by decide +kernel
theorem dX8_planned_9 : decode cX8_planned 9 = .ok (.invokestatic 157, 3) := by decide +kernel
theorem dX8_planned_12 : decode cX8_planned 12 = .ok (.ifCond .eq 15, 3) := by decide +kernel
theorem dX8_planned_15 : decode cX8_planned 15 = .ok (.iload_n 3, 1) := by decide +kernel
theorem dX8_planned_16 : decode cX8_planned 16 = .ok (.invokestatic 157, 3) := by decide +kernel
theorem dX8_planned_19 : decode cX8_planned 19 = .ok (.ifCond .eq 8, 3) := by decide +kernel
theorem dX8_planned_22 : decode cX8_planned 22 = .ok (.iload_n 2, 1) := by decide +kernel
theorem dX8_planned_23 : decode cX8_planned 23 = .ok (.iload_n 3, 1) := by decide +kernel
theorem dX8_planned_24 : decode cX8_planned 24 = .ok (.if_icmp .le 5, 3) := by decide +kernel
theorem dX8_planned_27 : decode cX8_planned 27 = .ok (.iconst (-1), 1) := by decide +kernel
theorem dX8_planned_28 : decode cX8_planned 28 = .ok (.ireturn, 1) := by decide +kernel
theorem dX8_planned_29 : decode cX8_planned 29 = .ok (.aload_n 0, 1) := by decide +kernel
theorem dX8_planned_30 : decode cX8_planned 30 = .ok (.getfield 37, 3) := by decide +kernel
theorem dX8_planned_33 : decode cX8_planned 33 = .ok (.iload_n 1, 1) := by decide +kernel
theorem dX8_planned_34 : decode cX8_planned 34 = .ok (.aaload, 1) := by decide +kernel
theorem dX8_planned_35 : decode cX8_planned 35 = .ok (.iload_n 2, 1) := by decide +kernel
theorem dX8_planned_36 : decode cX8_planned 36 = .ok (.iload_n 3, 1) := by decide +kernel
theorem dX8_planned_37 : decode cX8_planned 37 = .ok (.invokevirtual 182, 3) := by decide +kernel
theorem dX8_planned_40 : decode cX8_planned 40 = .ok (.ireturn, 1) := by decide +kernel
set_option maxRecDepth 20000 in
theorem ggX8_room_X8_isPresent : GoodIn wsX8_room wsX8_isPresent := goodIn_r _ [12, 3, 13, 14, 15, 16, 11, 17, 2, 18, 19, 20, 21, 22, 23, 24, 25, 26, 27, 28, 29, 84, 85, 86, 87, 88, 89, 90, 91, 92, 93, 94, 95, 96, 97, 98, 99, 100, 101, 102, 103, 104, 105, 106, 107, 108, 109, 110, 111] (by decide +kernel) (by decide +kernel)
set_option maxRecDepth 20000 in
theorem gX8_room_X8_isPresent : GoodIn wsX8_room (wsV RX8 186 RX8 yX8_isPresent wsX8_isPresent) := goodIn_app (goodIn_of _ (by decide +kernel)) ggX8_room_X8_isPresent
set_option maxRecDepth 20000 in
theorem ggX8_room_X8_isDay : GoodIn wsX8_room wsX8_isDay := goodIn_r _ [32] (by decide +kernel) (by decide +kernel)
set_option maxRecDepth 20000 in
theorem gX8_room_X8_isDay : GoodIn wsX8_room (va_wsS RX8 157 yX8_isDay wsX8_isDay) := goodIn_app (goodIn_of _ (by decide +kernel)) ggX8_room_X8_isDay
set_option maxRecDepth 20000 in
theorem ggX8_room_X2_limit : GoodIn wsX8_room wsX2_limit := goodIn_r _ [36, 37, 98, 99, 100, 101, 102] (by decide +kernel) (by decide +kernel)
set_option maxRecDepth 20000 in
theorem gX8_room_X2_limit : GoodIn wsX8_room (wsV RX8 189 RX2 yX2_limit wsX2_limit) := goodIn_app (goodIn_of _ (by decide +kernel)) ggX8_room_X2_limit
set_option maxRecDepth 20000 in
theorem ggX8_room_X3_windowLoadAhead : GoodIn wsX8_room wsX3_windowLoadAhead := goodIn_r _ [42, 43, 44, 45, 6, 46, 47, 48, 49, 21, 50, 37, 51, 52, 53, 41, 54, 55, 56, 57, 58, 59, 60, 61, 62, 63, 64, 65, 66, 67, 68, 69, 70, 71, 72, 73, 74, 75, 76, 77, 78, 23, 79, 80, 81, 82, 83, 91, 92, 93, 94, 95, 96, 97, 98, 99, 100, 101, 102, 103, 104, 105, 106, 107, 108, 109, 110, 111] (by decide +kernel) (by decide +kernel)
set_option maxRecDepth 20000 in
theorem gX8_room_X3_windowLoadAhead : GoodIn wsX8_room (wsV RX8 192 RX3 yX3_windowLoadAhead wsX3_windowLoadAhead) := goodIn_app (goodIn_of _ (by decide +kernel)) ggX8_room_X3_windowLoadAhead
theorem dX8_room_0 : decode cX8_room 0 = .ok (.aload_n 0, 1) := by decide +kernel
theorem dX8_room_1 : decode cX8_room 1 = .ok (.iload_n 1, 1) := by decide +kernel
theorem dX8_room_2 : decode cX8_room 2 = .ok (.invokevirtual 186, 3) := by decide +kernel
theorem dX8_room_5 : decode cX8_room 5 = .ok (.ifCond .eq 13, 3) := by decide +kernel
theorem dX8_room_8 : decode cX8_room 8 = .ok (.aload_n 0, 1) := by decide +kernel
theorem dX8_room_9 : decode cX8_room 9 = .ok (.getfield 51, 3) := by decide +kernel
theorem dX8_room_12 : decode cX8_room 12 = .ok (.invokestatic 157, 3) := by decide +kernel
theorem dX8_room_15 : decode cX8_room 15 = .ok (.ifCond .ne 5, 3) := by decide +kernel
theorem dX8_room_18 : decode cX8_room 18 = .ok (.iconst (-1), 1) := by decide +kernel
theorem dX8_room_19 : decode cX8_room 19 = .ok (.ireturn, 1) := by decide +kernel
theorem dX8_room_20 : decode cX8_room 20 = .ok (.aload_n 0, 1) := by decide +kernel
theorem dX8_room_21 : decode cX8_room 21 = .ok (.getfield 28, 3) := by decide +kernel
theorem dX8_room_24 : decode cX8_room 24 = .ok (.invokevirtual 189, 3) := by decide +kernel
theorem dX8_room_27 : decode cX8_room 27 = .ok (.aload_n 0, 1) := by decide +kernel
theorem dX8_room_28 : decode cX8_room 28 = .ok (.getfield 37, 3) := by decide +kernel
theorem dX8_room_31 : decode cX8_room 31 = .ok (.iload_n 1, 1) := by decide +kernel
theorem dX8_room_32 : decode cX8_room 32 = .ok (.aaload, 1) := by decide +kernel
theorem dX8_room_33 : decode cX8_room 33 = .ok (.aload_n 0, 1) := by decide +kernel
theorem dX8_room_34 : decode cX8_room 34 = .ok (.getfield 51, 3) := by decide +kernel
theorem dX8_room_37 : decode cX8_room 37 = .ok (.invokevirtual 192, 3) := by decide +kernel
theorem dX8_room_40 : decode cX8_room 40 = .ok (.isub, 1) := by decide +kernel
theorem dX8_room_41 : decode cX8_room 41 = .ok (.istore_n 2, 1) := by decide +kernel
theorem dX8_room_42 : decode cX8_room 42 = .ok (.iload_n 2, 1) := by decide +kernel
theorem dX8_room_43 : decode cX8_room 43 = .ok (.ifCond .ge 8, 3) := by decide +kernel
theorem dX8_room_46 : decode cX8_room 46 = .ok (.bipush (-2), 2) := by decide +kernel
theorem dX8_room_48 : decode cX8_room 48 = .ok (.goto 9, 3) := by decide +kernel
theorem dX8_room_51 : decode cX8_room 51 = .ok (.iload_n 2, 1) := by decide +kernel
theorem dX8_room_52 : decode cX8_room 52 = .ok (.bipush 96, 2) := by decide +kernel
theorem dX8_room_54 : decode cX8_room 54 = .ok (.invokestatic 195, 3) := by decide +kernel
theorem dX8_room_57 : decode cX8_room 57 = .ok (.ireturn, 1) := by decide +kernel
set_option maxRecDepth 20000 in
theorem ggX8_reaches_X8_isPresent : GoodIn wsX8_reaches wsX8_isPresent := goodIn_r _ [7, 1, 8, 9, 10, 11, 6, 12, 13, 14, 15, 16, 17, 18, 19, 20, 21, 22, 23, 24, 25, 74, 75, 76, 77, 78, 79, 80, 81, 82, 83, 84, 85, 86, 87, 88, 89, 90, 91, 92, 93, 94, 95, 96, 97, 98, 99, 100, 101] (by decide +kernel) (by decide +kernel)
set_option maxRecDepth 20000 in
theorem gX8_reaches_X8_isPresent : GoodIn wsX8_reaches (wsV RX8 186 RX8 yX8_isPresent wsX8_isPresent) := goodIn_app (goodIn_of _ (by decide +kernel)) ggX8_reaches_X8_isPresent
set_option maxRecDepth 20000 in
theorem ggX8_reaches_X3_firstDayOutOfBounds : GoodIn wsX8_reaches wsX3_firstDayOutOfBounds := goodIn_r _ [30, 31, 32, 33, 34, 35, 36, 37, 38, 39, 40, 41, 42, 43, 29, 44, 45, 46, 47, 48, 49, 50, 51, 52, 53, 54, 55, 56, 57, 58, 59, 60, 61, 62, 17, 63, 19, 64, 65, 66, 67, 68, 69, 70, 71, 72, 73, 81, 82, 83, 84, 85, 86, 87, 93, 94, 95, 96, 97, 98, 99, 100, 101, 88, 89, 90, 91, 92] (by decide +kernel) (by decide +kernel)
