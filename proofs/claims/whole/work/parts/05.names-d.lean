theorem dX0_init_0 : decode cX0_init 0 = .ok (.aload_n 0, 1) := by decide +kernel
theorem dX0_init_1 : decode cX0_init 1 = .ok (.invokespecial 3, 3) := by decide +kernel
theorem dX0_init_4 : decode cX0_init 4 = .ok (.aload_n 0, 1) := by decide +kernel
theorem dX0_init_5 : decode cX0_init 5 = .ok (.aload_n 1, 1) := by decide +kernel
theorem dX0_init_6 : decode cX0_init 6 = .ok (.putfield 9, 3) := by decide +kernel
theorem dX0_init_9 : decode cX0_init 9 = .ok (.aload_n 0, 1) := by decide +kernel
theorem dX0_init_10 : decode cX0_init 10 = .ok (.aload_n 2, 1) := by decide +kernel
theorem dX0_init_11 : decode cX0_init 11 = .ok (.putfield 15, 3) := by decide +kernel
theorem dX0_init_14 : decode cX0_init 14 = .ok (.aload_n 0, 1) := by decide +kernel
theorem dX0_init_15 : decode cX0_init 15 = .ok (.aload_n 3, 1) := by decide +kernel
theorem dX0_init_16 : decode cX0_init 16 = .ok (.putfield 18, 3) := by decide +kernel
theorem dX0_init_19 : decode cX0_init 19 = .ok (.return_, 1) := by decide +kernel
set_option maxRecDepth 20000 in
theorem ggX0_readBytes_X5_get : GoodIn wsX0_readBytes wsX5_get := goodIn_r _ [21, 22, 23, 97, 98] (by decide +kernel) (by decide +kernel)
set_option maxRecDepth 20000 in
theorem gX0_readBytes_X5_get : GoodIn wsX0_readBytes (wsV RX0 58 RX5 yX5_get wsX5_get) := goodIn_app (goodIn_of _ (by decide +kernel)) ggX0_readBytes_X5_get
set_option maxRecDepth 20000 in
theorem ggX0_readBytes_X0_readLiterals : GoodIn wsX0_readBytes wsX0_readLiterals := goodIn_r _ [28, 16, 29, 30, 15, 9, 2, 11, 3, 31, 32, 33, 27, 34, 17, 18, 19, 20, 21, 22, 23, 35, 36, 37, 38, 1, 39, 40, 41, 42, 43, 44, 45, 46, 47, 48, 49, 10, 4, 12, 50, 51, 52, 53, 54, 55, 56, 57, 58, 59, 60, 61, 62, 63, 64, 65, 66, 84, 85, 86, 87, 88, 89, 90, 91, 92, 93, 94, 95, 96, 97, 98, 99, 100] (by decide +kernel) (by decide +kernel)
set_option maxRecDepth 20000 in
theorem gX0_readBytes_X0_readLiterals : GoodIn wsX0_readBytes (wsV RX0 65 RX0 yX0_readLiterals wsX0_readLiterals) := goodIn_app (goodIn_of _ (by decide +kernel)) ggX0_readBytes_X0_readLiterals
set_option maxRecDepth 20000 in
theorem ggX0_readBytes_X0_endsByRules : GoodIn wsX0_readBytes wsX0_endsByRules := goodIn_r _ [70, 16, 14, 29, 11, 4, 84, 85, 86, 87, 88, 89, 90, 91, 92, 93, 94, 95, 96, 97, 98] (by decide +kernel) (by decide +kernel)
set_option maxRecDepth 20000 in
theorem gX0_readBytes_X0_endsByRules : GoodIn wsX0_readBytes (wsV RX0 69 RX0 yX0_endsByRules wsX0_endsByRules) := goodIn_app (goodIn_of _ (by decide +kernel)) ggX0_readBytes_X0_endsByRules
set_option maxRecDepth 20000 in
theorem ggX0_readBytes_X0_breaksRules : GoodIn wsX0_readBytes wsX0_breaksRules := goodIn_r _ [38, 30, 1, 39, 40, 41, 42, 43, 44, 45, 84, 85, 86, 87, 88, 89, 90, 91, 92, 93, 94, 95, 96, 99, 100] (by decide +kernel) (by decide +kernel)
set_option maxRecDepth 20000 in
theorem gX0_readBytes_X0_breaksRules : GoodIn wsX0_readBytes (wsV RX0 72 RX0 yX0_breaksRules wsX0_breaksRules) := goodIn_app (goodIn_of _ (by decide +kernel)) ggX0_readBytes_X0_breaksRules
set_option maxRecDepth 20000 in
theorem ggX0_readBytes_X0_readMatch : GoodIn wsX0_readBytes wsX0_readMatch := goodIn_r _ [74, 9, 2, 3, 11, 4, 13, 30, 16, 15, 14, 35, 36, 37, 27, 38, 1, 39, 40, 41, 42, 43, 44, 45, 75, 76, 77, 20, 78, 23, 79, 62, 63, 64, 65, 22, 31, 32, 33, 34, 17, 18, 19, 21, 46, 47, 48, 49, 10, 12, 50, 51, 52, 53, 80, 81, 82, 83, 66, 84, 85, 86, 87, 88, 89, 90, 91, 92, 93, 94, 95, 96, 97, 98, 99, 100] (by decide +kernel) (by decide +kernel)
set_option maxRecDepth 20000 in
theorem gX0_readBytes_X0_readMatch : GoodIn wsX0_readBytes (wsV RX0 75 RX0 yX0_readMatch wsX0_readMatch) := goodIn_app (goodIn_of _ (by decide +kernel)) ggX0_readBytes_X0_readMatch
theorem dX0_readBytes_0 : decode cX0_readBytes 0 = .ok (.aload_n 0, 1) := by decide +kernel
theorem dX0_readBytes_1 : decode cX0_readBytes 1 = .ok (.iload_n 1, 1) := by decide +kernel
theorem dX0_readBytes_2 : decode cX0_readBytes 2 = .ok (.putfield 22, 3) := by decide +kernel
theorem dX0_readBytes_5 : decode cX0_readBytes 5 = .ok (.aload_n 0, 1) := by decide +kernel
theorem dX0_readBytes_6 : decode cX0_readBytes 6 = .ok (.iload_n 1, 1) := by decide +kernel
theorem dX0_readBytes_7 : decode cX0_readBytes 7 = .ok (.iconst 4, 1) := by decide +kernel
theorem dX0_readBytes_8 : decode cX0_readBytes 8 = .ok (.iadd, 1) := by decide +kernel
theorem dX0_readBytes_9 : decode cX0_readBytes 9 = .ok (.putfield 26, 3) := by decide +kernel
theorem dX0_readBytes_12 : decode cX0_readBytes 12 = .ok (.aload_n 0, 1) := by decide +kernel
theorem dX0_readBytes_13 : decode cX0_readBytes 13 = .ok (.iload_n 2, 1) := by decide +kernel
theorem dX0_readBytes_14 : decode cX0_readBytes 14 = .ok (.aload_n 0, 1) := by decide +kernel
theorem dX0_readBytes_15 : decode cX0_readBytes 15 = .ok (.getfield 9, 3) := by decide +kernel
theorem dX0_readBytes_18 : decode cX0_readBytes 18 = .ok (.getfield 29, 3) := by decide +kernel
theorem dX0_readBytes_21 : decode cX0_readBytes 21 = .ok (.invokestatic 34, 3) := by decide +kernel
theorem dX0_readBytes_24 : decode cX0_readBytes 24 = .ok (.putfield 40, 3) := by decide +kernel
theorem dX0_readBytes_27 : decode cX0_readBytes 27 = .ok (.aload_n 0, 1) := by decide +kernel
theorem dX0_readBytes_28 : decode cX0_readBytes 28 = .ok (.iload_n 3, 1) := by decide +kernel
theorem dX0_readBytes_29 : decode cX0_readBytes 29 = .ok (.putfield 43, 3) := by decide +kernel
theorem dX0_readBytes_32 : decode cX0_readBytes 32 = .ok (.aload_n 0, 1) := by decide +kernel
theorem dX0_readBytes_33 : decode cX0_readBytes 33 = .ok (.aload_n 0, 1) := by decide +kernel
theorem dX0_readBytes_34 : decode cX0_readBytes 34 = .ok (.getfield 15, 3) := by decide +kernel
theorem dX0_readBytes_37 : decode cX0_readBytes 37 = .ok (.getfield 29, 3) := by decide +kernel
theorem dX0_readBytes_40 : decode cX0_readBytes 40 = .ok (.putfield 46, 3) := by decide +kernel
theorem dX0_readBytes_43 : decode cX0_readBytes 43 = .ok (.aload_n 0, 1) := by decide +kernel
theorem dX0_readBytes_44 : decode cX0_readBytes 44 = .ok (.iload 4, 2) := by decide +kernel
theorem dX0_readBytes_46 : decode cX0_readBytes 46 = .ok (.putfield 49, 3) := by decide +kernel
theorem dX0_readBytes_49 : decode cX0_readBytes 49 = .ok (.aload_n 0, 1) := by decide +kernel
theorem dX0_readBytes_50 : decode cX0_readBytes 50 = .ok (.iconst (-1), 1) := by decide +kernel
theorem dX0_readBytes_51 : decode cX0_readBytes 51 = .ok (.putfield 52, 3) := by decide +kernel
theorem dX0_readBytes_54 : decode cX0_readBytes 54 = .ok (.aload_n 0, 1) := by decide +kernel
theorem dX0_readBytes_55 : decode cX0_readBytes 55 = .ok (.getfield 26, 3) := by decide +kernel
theorem dX0_readBytes_58 : decode cX0_readBytes 58 = .ok (.aload_n 0, 1) := by decide +kernel
theorem dX0_readBytes_59 : decode cX0_readBytes 59 = .ok (.getfield 40, 3) := by decide +kernel
theorem dX0_readBytes_62 : decode cX0_readBytes 62 = .ok (.if_icmp .ge 85, 3) := by decide +kernel
theorem dX0_readBytes_65 : decode cX0_readBytes 65 = .ok (.aload_n 0, 1) := by decide +kernel
theorem dX0_readBytes_66 : decode cX0_readBytes 66 = .ok (.aload_n 0, 1) := by decide +kernel
theorem dX0_readBytes_67 : decode cX0_readBytes 67 = .ok (.getfield 26, 3) := by decide +kernel
theorem dX0_readBytes_70 : decode cX0_readBytes 70 = .ok (.putfield 55, 3) := by decide +kernel
theorem dX0_readBytes_73 : decode cX0_readBytes 73 = .ok (.aload_n 0, 1) := by decide +kernel
theorem dX0_readBytes_74 : decode cX0_readBytes 74 = .ok (.aload_n 0, 1) := by decide +kernel
theorem dX0_readBytes_75 : decode cX0_readBytes 75 = .ok (.getfield 9, 3) := by decide +kernel
theorem dX0_readBytes_78 : decode cX0_readBytes 78 = .ok (.aload_n 0, 1) := by decide +kernel
theorem dX0_readBytes_79 : decode cX0_readBytes 79 = .ok (.getfield 26, 3) := by decide +kernel
theorem dX0_readBytes_82 : decode cX0_readBytes 82 = .ok (.invokevirtual 58, 3) := by decide +kernel
theorem dX0_readBytes_85 : decode cX0_readBytes 85 = .ok (.putfield 62, 3) := by decide +kernel
theorem dX0_readBytes_88 : decode cX0_readBytes 88 = .ok (.aload_n 0, 1) := by decide +kernel
theorem dX0_readBytes_89 : decode cX0_readBytes 89 = .ok (.dup, 1) := by decide +kernel
theorem dX0_readBytes_90 : decode cX0_readBytes 90 = .ok (.getfield 26, 3) := by decide +kernel
theorem dX0_readBytes_93 : decode cX0_readBytes 93 = .ok (.iconst 1, 1) := by decide +kernel
theorem dX0_readBytes_94 : decode cX0_readBytes 94 = .ok (.iadd, 1) := by decide +kernel
theorem dX0_readBytes_95 : decode cX0_readBytes 95 = .ok (.putfield 26, 3) := by decide +kernel
theorem dX0_readBytes_98 : decode cX0_readBytes 98 = .ok (.aload_n 0, 1) := by decide +kernel
theorem dX0_readBytes_99 : decode cX0_readBytes 99 = .ok (.invokevirtual 65, 3) := by decide +kernel
theorem dX0_readBytes_102 : decode cX0_readBytes 102 = .ok (.ifCond .ne 5, 3) := by decide +kernel
theorem dX0_readBytes_105 : decode cX0_readBytes 105 = .ok (.iconst 0, 1) := by decide +kernel
theorem dX0_readBytes_106 : decode cX0_readBytes 106 = .ok (.ireturn, 1) := by decide +kernel
theorem dX0_readBytes_107 : decode cX0_readBytes 107 = .ok (.aload_n 0, 1) := by decide +kernel
theorem dX0_readBytes_108 : decode cX0_readBytes 108 = .ok (.getfield 26, 3) := by decide +kernel
theorem dX0_readBytes_111 : decode cX0_readBytes 111 = .ok (.aload_n 0, 1) := by decide +kernel
theorem dX0_readBytes_112 : decode cX0_readBytes 112 = .ok (.getfield 40, 3) := by decide +kernel
theorem dX0_readBytes_115 : decode cX0_readBytes 115 = .ok (.if_icmp .ne 23, 3) := by decide +kernel
theorem dX0_readBytes_118 : decode cX0_readBytes 118 = .ok (.aload_n 0, 1) := by decide +kernel
theorem dX0_readBytes_119 : decode cX0_readBytes 119 = .ok (.invokevirtual 69, 3) := by decide +kernel
theorem dX0_readBytes_122 : decode cX0_readBytes 122 = .ok (.ifCond .ne 10, 3) := by decide +kernel
theorem dX0_readBytes_125 : decode cX0_readBytes 125 = .ok (.aload_n 0, 1) := by decide +kernel
theorem dX0_readBytes_126 : decode cX0_readBytes 126 = .ok (.invokevirtual 72, 3) := by decide +kernel
theorem dX0_readBytes_129 : decode cX0_readBytes 129 = .ok (.ifCond .eq 7, 3) := by decide +kernel
theorem dX0_readBytes_132 : decode cX0_readBytes 132 = .ok (.iconst 1, 1) := by decide +kernel
theorem dX0_readBytes_133 : decode cX0_readBytes 133 = .ok (.goto 4, 3) := by decide +kernel
theorem dX0_readBytes_136 : decode cX0_readBytes 136 = .ok (.iconst 0, 1) := by decide +kernel
theorem dX0_readBytes_137 : decode cX0_readBytes 137 = .ok (.ireturn, 1) := by decide +kernel
theorem dX0_readBytes_138 : decode cX0_readBytes 138 = .ok (.aload_n 0, 1) := by decide +kernel
theorem dX0_readBytes_139 : decode cX0_readBytes 139 = .ok (.invokevirtual 75, 3) := by decide +kernel
theorem dX0_readBytes_142 : decode cX0_readBytes 142 = .ok (.ifCond .ne (-88), 3) := by decide +kernel
theorem dX0_readBytes_145 : decode cX0_readBytes 145 = .ok (.iconst 0, 1) := by decide +kernel
theorem dX0_readBytes_146 : decode cX0_readBytes 146 = .ok (.ireturn, 1) := by decide +kernel
theorem dX0_readBytes_147 : decode cX0_readBytes 147 = .ok (.aload_n 0, 1) := by decide +kernel
theorem dX0_readBytes_148 : decode cX0_readBytes 148 = .ok (.invokevirtual 72, 3) := by decide +kernel
theorem dX0_readBytes_151 : decode cX0_readBytes 151 = .ok (.ireturn, 1) := by decide +kernel
set_option maxRecDepth 20000 in
theorem ggX0_breaksRules_X1_refuse : GoodIn wsX0_breaksRules wsX1_refuse := goodIn_r _ [7, 8, 9, 23, 24] (by decide +kernel) (by decide +kernel)
set_option maxRecDepth 20000 in
theorem gX0_breaksRules_X1_refuse : GoodIn wsX0_breaksRules (wsV RX0 80 RX1 yX1_refuse wsX1_refuse) := goodIn_app (goodIn_of _ (by decide +kernel)) ggX0_breaksRules_X1_refuse
theorem dX0_breaksRules_0 : decode cX0_breaksRules 0 = .ok (.aload_n 0, 1) := by decide +kernel
theorem dX0_breaksRules_1 : decode cX0_breaksRules 1 = .ok (.getfield 18, 3) := by decide +kernel
theorem dX0_breaksRules_4 : decode cX0_breaksRules 4 = .ok (.bipush 9, 2) := by decide +kernel
theorem dX0_breaksRules_6 : decode cX0_breaksRules 6 = .ok (.aload_n 0, 1) := by decide +kernel
theorem dX0_breaksRules_7 : decode cX0_breaksRules 7 = .ok (.getfield 22, 3) := by decide +kernel
theorem dX0_breaksRules_10 : decode cX0_breaksRules 10 = .ok (.invokevirtual 80, 3) := by decide +kernel
theorem dX0_breaksRules_13 : decode cX0_breaksRules 13 = .ok (.ireturn, 1) := by decide +kernel
set_option maxRecDepth 20000 in
theorem ggX0_readLiterals_X0_readNumber : GoodIn wsX0_readLiterals wsX0_readNumber := goodIn_r _ [13, 6, 5, 8, 14, 15, 16, 17, 18, 19, 20, 57, 58, 59, 60, 61, 62, 63, 64, 65, 66, 67, 68, 69, 70, 71] (by decide +kernel) (by decide +kernel)
set_option maxRecDepth 20000 in
theorem gX0_readLiterals_X0_readNumber : GoodIn wsX0_readLiterals (wsV RX0 84 RX0 yX0_readNumber wsX0_readNumber) := goodIn_app (goodIn_of _ (by decide +kernel)) ggX0_readLiterals_X0_readNumber
set_option maxRecDepth 20000 in
theorem ggX0_readLiterals_X0_breaksRules : GoodIn wsX0_readLiterals wsX0_breaksRules := goodIn_r _ [24, 3, 25, 26, 27, 28, 29, 30, 31, 32, 57, 58, 59, 60, 61, 62, 63, 64, 65, 66, 67, 68, 69, 72, 73] (by decide +kernel) (by decide +kernel)
set_option maxRecDepth 20000 in
theorem gX0_readLiterals_X0_breaksRules : GoodIn wsX0_readLiterals (wsV RX0 72 RX0 yX0_breaksRules wsX0_breaksRules) := goodIn_app (goodIn_of _ (by decide +kernel)) ggX0_readLiterals_X0_breaksRules
set_option maxRecDepth 20000 in
theorem ggX0_readLiterals_X0_mayGrowBy : GoodIn wsX0_readLiterals wsX0_mayGrowBy := goodIn_r _ [36, 37, 7, 38, 39, 40, 41, 42, 17, 43, 20, 19, 57, 58, 59, 60, 61, 62, 63, 64, 65, 66, 67, 68, 69, 70, 71] (by decide +kernel) (by decide +kernel)
set_option maxRecDepth 20000 in
theorem gX0_readLiterals_X0_mayGrowBy : GoodIn wsX0_readLiterals (wsV RX0 90 RX0 yX0_mayGrowBy wsX0_mayGrowBy) := goodIn_app (goodIn_of _ (by decide +kernel)) ggX0_readLiterals_X0_mayGrowBy
set_option maxRecDepth 20000 in
theorem ggX0_readLiterals_X1_refuse : GoodIn wsX0_readLiterals wsX1_refuse := goodIn_r _ [30, 31, 32, 72, 73] (by decide +kernel) (by decide +kernel)
set_option maxRecDepth 20000 in
theorem gX0_readLiterals_X1_refuse : GoodIn wsX0_readLiterals (wsV RX0 80 RX1 yX1_refuse wsX1_refuse) := goodIn_app (goodIn_of _ (by decide +kernel)) ggX0_readLiterals_X1_refuse
set_option maxRecDepth 20000 in
theorem ggX0_readLiterals_X5_addPiece : GoodIn wsX0_readLiterals wsX5_addPiece := goodIn_r _ [47, 20, 19, 48, 49, 50, 51, 52, 53, 54, 17, 55, 56, 41, 42, 43, 70, 71] (by decide +kernel) (by decide +kernel)
set_option maxRecDepth 20000 in
theorem gX0_readLiterals_X5_addPiece : GoodIn wsX0_readLiterals (wsV RX0 94 RX5 yX5_addPiece wsX5_addPiece) := goodIn_app (goodIn_of _ (by decide +kernel)) ggX0_readLiterals_X5_addPiece
theorem dX0_readLiterals_0 : decode cX0_readLiterals 0 = .ok (.aload_n 0, 1) := by decide +kernel
theorem dX0_readLiterals_1 : decode cX0_readLiterals 1 = .ok (.aload_n 0, 1) := by decide +kernel
theorem dX0_readLiterals_2 : decode cX0_readLiterals 2 = .ok (.aload_n 0, 1) := by decide +kernel
theorem dX0_readLiterals_3 : decode cX0_readLiterals 3 = .ok (.getfield 62, 3) := by decide +kernel
theorem dX0_readLiterals_6 : decode cX0_readLiterals 6 = .ok (.iconst 4, 1) := by decide +kernel
theorem dX0_readLiterals_7 : decode cX0_readLiterals 7 = .ok (.ishr, 1) := by decide +kernel
theorem dX0_readLiterals_8 : decode cX0_readLiterals 8 = .ok (.invokevirtual 84, 3) := by decide +kernel
theorem dX0_readLiterals_11 : decode cX0_readLiterals 11 = .ok (.putfield 87, 3) := by decide +kernel
theorem dX0_readLiterals_14 : decode cX0_readLiterals 14 = .ok (.aload_n 0, 1) := by decide +kernel
theorem dX0_readLiterals_15 : decode cX0_readLiterals 15 = .ok (.getfield 87, 3) := by decide +kernel
theorem dX0_readLiterals_18 : decode cX0_readLiterals 18 = .ok (.iconst (-1), 1) := by decide +kernel
theorem dX0_readLiterals_19 : decode cX0_readLiterals 19 = .ok (.if_icmp .ne 8, 3) := by decide +kernel
theorem dX0_readLiterals_22 : decode cX0_readLiterals 22 = .ok (.aload_n 0, 1) := by decide +kernel
theorem dX0_readLiterals_23 : decode cX0_readLiterals 23 = .ok (.invokevirtual 72, 3) := by decide +kernel
theorem dX0_readLiterals_26 : decode cX0_readLiterals 26 = .ok (.ireturn, 1) := by decide +kernel
theorem dX0_readLiterals_27 : decode cX0_readLiterals 27 = .ok (.aload_n 0, 1) := by decide +kernel
theorem dX0_readLiterals_28 : decode cX0_readLiterals 28 = .ok (.aload_n 0, 1) := by decide +kernel
theorem dX0_readLiterals_29 : decode cX0_readLiterals 29 = .ok (.getfield 87, 3) := by decide +kernel
theorem dX0_readLiterals_32 : decode cX0_readLiterals 32 = .ok (.invokevirtual 90, 3) := by decide +kernel
theorem dX0_readLiterals_35 : decode cX0_readLiterals 35 = .ok (.ifCond .ne 17, 3) := by decide +kernel
theorem dX0_readLiterals_38 : decode cX0_readLiterals 38 = .ok (.aload_n 0, 1) := by decide +kernel
theorem dX0_readLiterals_39 : decode cX0_readLiterals 39 = .ok (.getfield 18, 3) := by decide +kernel
theorem dX0_readLiterals_42 : decode cX0_readLiterals 42 = .ok (.bipush 8, 2) := by decide +kernel
theorem dX0_readLiterals_44 : decode cX0_readLiterals 44 = .ok (.aload_n 0, 1) := by decide +kernel
theorem dX0_readLiterals_45 : decode cX0_readLiterals 45 = .ok (.getfield 55, 3) := by decide +kernel
theorem dX0_readLiterals_48 : decode cX0_readLiterals 48 = .ok (.invokevirtual 80, 3) := by decide +kernel
theorem dX0_readLiterals_51 : decode cX0_readLiterals 51 = .ok (.ireturn, 1) := by decide +kernel
theorem dX0_readLiterals_52 : decode cX0_readLiterals 52 = .ok (.aload_n 0, 1) := by decide +kernel
theorem dX0_readLiterals_53 : decode cX0_readLiterals 53 = .ok (.getfield 87, 3) := by decide +kernel
theorem dX0_readLiterals_56 : decode cX0_readLiterals 56 = .ok (.aload_n 0, 1) := by decide +kernel
theorem dX0_readLiterals_57 : decode cX0_readLiterals 57 = .ok (.getfield 40, 3) := by decide +kernel
theorem dX0_readLiterals_60 : decode cX0_readLiterals 60 = .ok (.aload_n 0, 1) := by decide +kernel
theorem dX0_readLiterals_61 : decode cX0_readLiterals 61 = .ok (.getfield 26, 3) := by decide +kernel
theorem dX0_readLiterals_64 : decode cX0_readLiterals 64 = .ok (.isub, 1) := by decide +kernel
theorem dX0_readLiterals_65 : decode cX0_readLiterals 65 = .ok (.if_icmp .le 8, 3) := by decide +kernel
theorem dX0_readLiterals_68 : decode cX0_readLiterals 68 = .ok (.aload_n 0, 1) := by decide +kernel
theorem dX0_readLiterals_69 : decode cX0_readLiterals 69 = .ok (.invokevirtual 72, 3) := by decide +kernel
theorem dX0_readLiterals_72 : decode cX0_readLiterals 72 = .ok (.ireturn, 1) := by decide +kernel
theorem dX0_readLiterals_73 : decode cX0_readLiterals 73 = .ok (.aload_n 0, 1) := by decide +kernel
theorem dX0_readLiterals_74 : decode cX0_readLiterals 74 = .ok (.getfield 15, 3) := by decide +kernel
theorem dX0_readLiterals_77 : decode cX0_readLiterals 77 = .ok (.aload_n 0, 1) := by decide +kernel
theorem dX0_readLiterals_78 : decode cX0_readLiterals 78 = .ok (.getfield 9, 3) := by decide +kernel
theorem dX0_readLiterals_81 : decode cX0_readLiterals 81 = .ok (.aload_n 0, 1) := by decide +kernel
theorem dX0_readLiterals_82 : decode cX0_readLiterals 82 = .ok (.getfield 26, 3) := by decide +kernel
theorem dX0_readLiterals_85 : decode cX0_readLiterals 85 = .ok (.aload_n 0, 1) := by decide +kernel
theorem dX0_readLiterals_86 : decode cX0_readLiterals 86 = .ok (.getfield 87, 3) := by decide +kernel
theorem dX0_readLiterals_89 : decode cX0_readLiterals 89 = .ok (.invokevirtual 94, 3) := by decide +kernel
theorem dX0_readLiterals_92 : decode cX0_readLiterals 92 = .ok (.aload_n 0, 1) := by decide +kernel
theorem dX0_readLiterals_93 : decode cX0_readLiterals 93 = .ok (.dup, 1) := by decide +kernel
theorem dX0_readLiterals_94 : decode cX0_readLiterals 94 = .ok (.getfield 26, 3) := by decide +kernel
theorem dX0_readLiterals_97 : decode cX0_readLiterals 97 = .ok (.aload_n 0, 1) := by decide +kernel
theorem dX0_readLiterals_98 : decode cX0_readLiterals 98 = .ok (.getfield 87, 3) := by decide +kernel
theorem dX0_readLiterals_101 : decode cX0_readLiterals 101 = .ok (.iadd, 1) := by decide +kernel
theorem dX0_readLiterals_102 : decode cX0_readLiterals 102 = .ok (.putfield 26, 3) := by decide +kernel
theorem dX0_readLiterals_105 : decode cX0_readLiterals 105 = .ok (.iconst 1, 1) := by decide +kernel
theorem dX0_readLiterals_106 : decode cX0_readLiterals 106 = .ok (.ireturn, 1) := by decide +kernel
set_option maxRecDepth 20000 in
theorem ggX0_readMatch_X0_breaksRules : GoodIn wsX0_readMatch wsX0_breaksRules := goodIn_r _ [15, 7, 16, 17, 18, 19, 20, 21, 22, 23, 59, 60, 61, 62, 63, 64, 65, 66, 67, 68, 69, 70, 71, 74, 75] (by decide +kernel) (by decide +kernel)
set_option maxRecDepth 20000 in
theorem gX0_readMatch_X0_breaksRules : GoodIn wsX0_readMatch (wsV RX0 72 RX0 yX0_breaksRules wsX0_breaksRules) := goodIn_app (goodIn_of _ (by decide +kernel)) ggX0_readMatch_X0_breaksRules
set_option maxRecDepth 20000 in
theorem ggX0_readMatch_X5_numberAt : GoodIn wsX0_readMatch wsX5_numberAt := goodIn_r _ [28, 29, 30, 31, 32, 33, 27, 34, 35, 72, 73] (by decide +kernel) (by decide +kernel)
set_option maxRecDepth 20000 in
theorem gX0_readMatch_X5_numberAt : GoodIn wsX0_readMatch (wsV RX0 98 RX5 yX5_numberAt wsX5_numberAt) := goodIn_app (goodIn_of _ (by decide +kernel)) ggX0_readMatch_X5_numberAt
set_option maxRecDepth 20000 in
theorem ggX0_readMatch_X1_refuse : GoodIn wsX0_readMatch wsX1_refuse := goodIn_r _ [21, 22, 23, 74, 75] (by decide +kernel) (by decide +kernel)
set_option maxRecDepth 20000 in
theorem gX0_readMatch_X1_refuse : GoodIn wsX0_readMatch (wsV RX0 80 RX1 yX1_refuse wsX1_refuse) := goodIn_app (goodIn_of _ (by decide +kernel)) ggX0_readMatch_X1_refuse
set_option maxRecDepth 20000 in
theorem ggX0_readMatch_X0_readNumber : GoodIn wsX0_readMatch wsX0_readNumber := goodIn_r _ [39, 2, 1, 3, 40, 41, 42, 27, 43, 35, 29, 59, 60, 61, 62, 63, 64, 65, 66, 67, 68, 69, 70, 71, 72, 73] (by decide +kernel) (by decide +kernel)
set_option maxRecDepth 20000 in
theorem gX0_readMatch_X0_readNumber : GoodIn wsX0_readMatch (wsV RX0 84 RX0 yX0_readNumber wsX0_readNumber) := goodIn_app (goodIn_of _ (by decide +kernel)) ggX0_readMatch_X0_readNumber
set_option maxRecDepth 20000 in
theorem ggX0_readMatch_X0_mayGrowBy : GoodIn wsX0_readMatch wsX0_mayGrowBy := goodIn_r _ [47, 48, 4, 5, 49, 50, 51, 52, 27, 53, 29, 35, 59, 60, 61, 62, 63, 64, 65, 66, 67, 68, 69, 70, 71, 72, 73] (by decide +kernel) (by decide +kernel)
set_option maxRecDepth 20000 in
theorem gX0_readMatch_X0_mayGrowBy : GoodIn wsX0_readMatch (wsV RX0 90 RX0 yX0_mayGrowBy wsX0_mayGrowBy) := goodIn_app (goodIn_of _ (by decide +kernel)) ggX0_readMatch_X0_mayGrowBy
set_option maxRecDepth 20000 in
theorem ggX0_readMatch_X5_addAgain : GoodIn wsX0_readMatch wsX5_addAgain := goodIn_r _ [57, 35, 29, 58, 51, 52, 27, 53, 72, 73] (by decide +kernel) (by decide +kernel)
set_option maxRecDepth 20000 in
theorem gX0_readMatch_X5_addAgain : GoodIn wsX0_readMatch (wsV RX0 102 RX5 yX5_addAgain wsX5_addAgain) := goodIn_app (goodIn_of _ (by decide +kernel)) ggX0_readMatch_X5_addAgain
theorem dX0_readMatch_0 : decode cX0_readMatch 0 = .ok (.aload_n 0, 1) := by decide +kernel
theorem dX0_readMatch_1 : decode cX0_readMatch 1 = .ok (.getfield 40, 3) := by decide +kernel
theorem dX0_readMatch_4 : decode cX0_readMatch 4 = .ok (.aload_n 0, 1) := by decide +kernel
theorem dX0_readMatch_5 : decode cX0_readMatch 5 = .ok (.getfield 26, 3) := by decide +kernel
theorem dX0_readMatch_8 : decode cX0_readMatch 8 = .ok (.isub, 1) := by decide +kernel
theorem dX0_readMatch_9 : decode cX0_readMatch 9 = .ok (.iconst 2, 1) := by decide +kernel
theorem dX0_readMatch_10 : decode cX0_readMatch 10 = .ok (.if_icmp .ge 8, 3) := by decide +kernel
theorem dX0_readMatch_13 : decode cX0_readMatch 13 = .ok (.aload_n 0, 1) := by decide +kernel
theorem dX0_readMatch_14 : decode cX0_readMatch 14 = .ok (.invokevirtual 72, 3) := by decide +kernel
theorem dX0_readMatch_17 : decode cX0_readMatch 17 = .ok (.ireturn, 1) := by decide +kernel
theorem dX0_readMatch_18 : decode cX0_readMatch 18 = .ok (.aload_n 0, 1) := by decide +kernel
theorem dX0_readMatch_19 : decode cX0_readMatch 19 = .ok (.getfield 9, 3) := by decide +kernel
theorem dX0_readMatch_22 : decode cX0_readMatch 22 = .ok (.aload_n 0, 1) := by decide +kernel
theorem dX0_readMatch_23 : decode cX0_readMatch 23 = .ok (.getfield 26, 3) := by decide +kernel
theorem dX0_readMatch_26 : decode cX0_readMatch 26 = .ok (.iconst 2, 1) := by decide +kernel
theorem dX0_readMatch_27 : decode cX0_readMatch 27 = .ok (.invokevirtual 98, 3) := by decide +kernel
theorem dX0_readMatch_30 : decode cX0_readMatch 30 = .ok (.l2i, 1) := by decide +kernel
theorem dX0_readMatch_31 : decode cX0_readMatch 31 = .ok (.istore_n 1, 1) := by decide +kernel
theorem dX0_readMatch_32 : decode cX0_readMatch 32 = .ok (.iload_n 1, 1) := by decide +kernel
theorem dX0_readMatch_33 : decode cX0_readMatch 33 = .ok (.iconst 1, 1) := by decide +kernel
theorem dX0_readMatch_34 : decode cX0_readMatch 34 = .ok (.if_icmp .lt 19, 3) := by decide +kernel
theorem dX0_readMatch_37 : decode cX0_readMatch 37 = .ok (.iload_n 1, 1) := by decide +kernel
theorem dX0_readMatch_38 : decode cX0_readMatch 38 = .ok (.aload_n 0, 1) := by decide +kernel
theorem dX0_readMatch_39 : decode cX0_readMatch 39 = .ok (.getfield 15, 3) := by decide +kernel
theorem dX0_readMatch_42 : decode cX0_readMatch 42 = .ok (.getfield 29, 3) := by decide +kernel
theorem dX0_readMatch_45 : decode cX0_readMatch 45 = .ok (.aload_n 0, 1) := by decide +kernel
theorem dX0_readMatch_46 : decode cX0_readMatch 46 = .ok (.getfield 49, 3) := by decide +kernel
theorem dX0_readMatch_49 : decode cX0_readMatch 49 = .ok (.isub, 1) := by decide +kernel
theorem dX0_readMatch_50 : decode cX0_readMatch 50 = .ok (.if_icmp .le 17, 3) := by decide +kernel
theorem dX0_readMatch_53 : decode cX0_readMatch 53 = .ok (.aload_n 0, 1) := by decide +kernel
theorem dX0_readMatch_54 : decode cX0_readMatch 54 = .ok (.getfield 18, 3) := by decide +kernel
theorem dX0_readMatch_57 : decode cX0_readMatch 57 = .ok (.bipush 7, 2) := by decide +kernel
theorem dX0_readMatch_59 : decode cX0_readMatch 59 = .ok (.aload_n 0, 1) := by decide +kernel
theorem dX0_readMatch_60 : decode cX0_readMatch 60 = .ok (.getfield 26, 3) := by decide +kernel
theorem dX0_readMatch_63 : decode cX0_readMatch 63 = .ok (.invokevirtual 80, 3) := by decide +kernel
theorem dX0_readMatch_66 : decode cX0_readMatch 66 = .ok (.ireturn, 1) := by decide +kernel
theorem dX0_readMatch_67 : decode cX0_readMatch 67 = .ok (.aload_n 0, 1) := by decide +kernel
theorem dX0_readMatch_68 : decode cX0_readMatch 68 = .ok (.dup, 1) := by decide +kernel
theorem dX0_readMatch_69 : decode cX0_readMatch 69 = .ok (.getfield 26, 3) := by decide +kernel
theorem dX0_readMatch_72 : decode cX0_readMatch 72 = .ok (.iconst 2, 1) := by decide +kernel
theorem dX0_readMatch_73 : decode cX0_readMatch 73 = .ok (.iadd, 1) := by decide +kernel
theorem dX0_readMatch_74 : decode cX0_readMatch 74 = .ok (.putfield 26, 3) := by decide +kernel
theorem dX0_readMatch_77 : decode cX0_readMatch 77 = .ok (.aload_n 0, 1) := by decide +kernel
theorem dX0_readMatch_78 : decode cX0_readMatch 78 = .ok (.aload_n 0, 1) := by decide +kernel
theorem dX0_readMatch_79 : decode cX0_readMatch 79 = .ok (.getfield 62, 3) := by decide +kernel
theorem dX0_readMatch_82 : decode cX0_readMatch 82 = .ok (.bipush 15, 2) := by decide +kernel
theorem dX0_readMatch_84 : decode cX0_readMatch 84 = .ok (.iand, 1) := by decide +kernel
theorem dX0_readMatch_85 : decode cX0_readMatch 85 = .ok (.invokevirtual 84, 3) := by decide +kernel
theorem dX0_readMatch_88 : decode cX0_readMatch 88 = .ok (.istore_n 2, 1) := by decide +kernel
theorem dX0_readMatch_89 : decode cX0_readMatch 89 = .ok (.iload_n 2, 1) := by decide +kernel
theorem dX0_readMatch_90 : decode cX0_readMatch 90 = .ok (.iconst (-1), 1) := by decide +kernel
theorem dX0_readMatch_91 : decode cX0_readMatch 91 = .ok (.if_icmp .ne 8, 3) := by decide +kernel
theorem dX0_readMatch_94 : decode cX0_readMatch 94 = .ok (.aload_n 0, 1) := by decide +kernel
theorem dX0_readMatch_95 : decode cX0_readMatch 95 = .ok (.invokevirtual 72, 3) := by decide +kernel
theorem dX0_readMatch_98 : decode cX0_readMatch 98 = .ok (.ireturn, 1) := by decide +kernel
theorem dX0_readMatch_99 : decode cX0_readMatch 99 = .ok (.aload_n 0, 1) := by decide +kernel
theorem dX0_readMatch_100 : decode cX0_readMatch 100 = .ok (.iload_n 2, 1) := by decide +kernel
theorem dX0_readMatch_101 : decode cX0_readMatch 101 = .ok (.iconst 4, 1) := by decide +kernel
theorem dX0_readMatch_102 : decode cX0_readMatch 102 = .ok (.iadd, 1) := by decide +kernel
theorem dX0_readMatch_103 : decode cX0_readMatch 103 = .ok (.invokevirtual 90, 3) := by decide +kernel
theorem dX0_readMatch_106 : decode cX0_readMatch 106 = .ok (.ifCond .ne 17, 3) := by decide +kernel
theorem dX0_readMatch_109 : decode cX0_readMatch 109 = .ok (.aload_n 0, 1) := by decide +kernel
theorem dX0_readMatch_110 : decode cX0_readMatch 110 = .ok (.getfield 18, 3) := by decide +kernel
theorem dX0_readMatch_113 : decode cX0_readMatch 113 = .ok (.bipush 8, 2) := by decide +kernel
theorem dX0_readMatch_115 : decode cX0_readMatch 115 = .ok (.aload_n 0, 1) := by decide +kernel
theorem dX0_readMatch_116 : decode cX0_readMatch 116 = .ok (.getfield 55, 3) := by decide +kernel
theorem dX0_readMatch_119 : decode cX0_readMatch 119 = .ok (.invokevirtual 80, 3) := by decide +kernel
theorem dX0_readMatch_122 : decode cX0_readMatch 122 = .ok (.ireturn, 1) := by decide +kernel
theorem dX0_readMatch_123 : decode cX0_readMatch 123 = .ok (.aload_n 0, 1) := by decide +kernel
theorem dX0_readMatch_124 : decode cX0_readMatch 124 = .ok (.aload_n 0, 1) := by decide +kernel
theorem dX0_readMatch_125 : decode cX0_readMatch 125 = .ok (.getfield 15, 3) := by decide +kernel
theorem dX0_readMatch_128 : decode cX0_readMatch 128 = .ok (.getfield 29, 3) := by decide +kernel
theorem dX0_readMatch_131 : decode cX0_readMatch 131 = .ok (.putfield 52, 3) := by decide +kernel
theorem dX0_readMatch_134 : decode cX0_readMatch 134 = .ok (.aload_n 0, 1) := by decide +kernel
theorem dX0_readMatch_135 : decode cX0_readMatch 135 = .ok (.getfield 15, 3) := by decide +kernel
theorem dX0_readMatch_138 : decode cX0_readMatch 138 = .ok (.iload_n 1, 1) := by decide +kernel
theorem dX0_readMatch_139 : decode cX0_readMatch 139 = .ok (.iload_n 2, 1) := by decide +kernel
theorem dX0_readMatch_140 : decode cX0_readMatch 140 = .ok (.iconst 4, 1) := by decide +kernel
theorem dX0_readMatch_141 : decode cX0_readMatch 141 = .ok (.iadd, 1) := by decide +kernel
theorem dX0_readMatch_142 : decode cX0_readMatch 142 = .ok (.invokevirtual 102, 3) := by decide +kernel
theorem dX0_readMatch_145 : decode cX0_readMatch 145 = .ok (.iconst 1, 1) := by decide +kernel
theorem dX0_readMatch_146 : decode cX0_readMatch 146 = .ok (.ireturn, 1) := by decide +kernel
set_option maxRecDepth 20000 in
theorem ggX0_readNumber_X5_get : GoodIn wsX0_readNumber wsX5_get := goodIn_r _ [8, 9, 10, 24, 25] (by decide +kernel) (by decide +kernel)
set_option maxRecDepth 20000 in
theorem gX0_readNumber_X5_get : GoodIn wsX0_readNumber (wsV RX0 58 RX5 yX5_get wsX5_get) := goodIn_app (goodIn_of _ (by decide +kernel)) ggX0_readNumber_X5_get
theorem dX0_readNumber_0 : decode cX0_readNumber 0 = .ok (.iload_n 1, 1) := by decide +kernel
theorem dX0_readNumber_1 : decode cX0_readNumber 1 = .ok (.bipush 15, 2) := by decide +kernel
theorem dX0_readNumber_3 : decode cX0_readNumber 3 = .ok (.if_icmp .eq 5, 3) := by decide +kernel
theorem dX0_readNumber_6 : decode cX0_readNumber 6 = .ok (.iload_n 1, 1) := by decide +kernel
theorem dX0_readNumber_7 : decode cX0_readNumber 7 = .ok (.ireturn, 1) := by decide +kernel
theorem dX0_readNumber_8 : decode cX0_readNumber 8 = .ok (.iload_n 1, 1) := by decide +kernel
theorem dX0_readNumber_9 : decode cX0_readNumber 9 = .ok (.istore_n 2, 1) := by decide +kernel
theorem dX0_readNumber_10 : decode cX0_readNumber 10 = .ok (.aload_n 0, 1) := by decide +kernel
theorem dX0_readNumber_11 : decode cX0_readNumber 11 = .ok (.getfield 26, 3) := by decide +kernel
theorem dX0_readNumber_14 : decode cX0_readNumber 14 = .ok (.aload_n 0, 1) := by decide +kernel
theorem dX0_readNumber_15 : decode cX0_readNumber 15 = .ok (.getfield 40, 3) := by decide +kernel
theorem dX0_readNumber_18 : decode cX0_readNumber 18 = .ok (.if_icmp .ge 41, 3) := by decide +kernel
theorem dX0_readNumber_21 : decode cX0_readNumber 21 = .ok (.aload_n 0, 1) := by decide +kernel
theorem dX0_readNumber_22 : decode cX0_readNumber 22 = .ok (.getfield 9, 3) := by decide +kernel
theorem dX0_readNumber_25 : decode cX0_readNumber 25 = .ok (.aload_n 0, 1) := by decide +kernel
theorem dX0_readNumber_26 : decode cX0_readNumber 26 = .ok (.getfield 26, 3) := by decide +kernel
theorem dX0_readNumber_29 : decode cX0_readNumber 29 = .ok (.invokevirtual 58, 3) := by decide +kernel
theorem dX0_readNumber_32 : decode cX0_readNumber 32 = .ok (.istore_n 3, 1) := by decide +kernel
theorem dX0_readNumber_33 : decode cX0_readNumber 33 = .ok (.aload_n 0, 1) := by decide +kernel
theorem dX0_readNumber_34 : decode cX0_readNumber 34 = .ok (.dup, 1) := by decide +kernel
theorem dX0_readNumber_35 : decode cX0_readNumber 35 = .ok (.getfield 26, 3) := by decide +kernel
theorem dX0_readNumber_38 : decode cX0_readNumber 38 = .ok (.iconst 1, 1) := by decide +kernel
theorem dX0_readNumber_39 : decode cX0_readNumber 39 = .ok (.iadd, 1) := by decide +kernel
theorem dX0_readNumber_40 : decode cX0_readNumber 40 = .ok (.putfield 26, 3) := by decide +kernel
theorem dX0_readNumber_43 : decode cX0_readNumber 43 = .ok (.iload_n 2, 1) := by decide +kernel
theorem dX0_readNumber_44 : decode cX0_readNumber 44 = .ok (.iload_n 3, 1) := by decide +kernel
theorem dX0_readNumber_45 : decode cX0_readNumber 45 = .ok (.iadd, 1) := by decide +kernel
theorem dX0_readNumber_46 : decode cX0_readNumber 46 = .ok (.istore_n 2, 1) := by decide +kernel
theorem dX0_readNumber_47 : decode cX0_readNumber 47 = .ok (.iload_n 3, 1) := by decide +kernel
theorem dX0_readNumber_48 : decode cX0_readNumber 48 = .ok (.sipush 255, 3) := by decide +kernel
theorem dX0_readNumber_51 : decode cX0_readNumber 51 = .ok (.if_icmp .eq 5, 3) := by decide +kernel
theorem dX0_readNumber_54 : decode cX0_readNumber 54 = .ok (.iload_n 2, 1) := by decide +kernel
theorem dX0_readNumber_55 : decode cX0_readNumber 55 = .ok (.ireturn, 1) := by decide +kernel
theorem dX0_readNumber_56 : decode cX0_readNumber 56 = .ok (.goto (-46), 3) := by decide +kernel
theorem dX0_readNumber_59 : decode cX0_readNumber 59 = .ok (.iconst (-1), 1) := by decide +kernel
theorem dX0_readNumber_60 : decode cX0_readNumber 60 = .ok (.ireturn, 1) := by decide +kernel
set_option maxRecDepth 20000 in
theorem ggX0_mayGrowBy_X5_room : GoodIn wsX0_mayGrowBy wsX5_room := goodIn_r _ [9, 10, 11, 25, 26] (by decide +kernel) (by decide +kernel)
set_option maxRecDepth 20000 in
theorem gX0_mayGrowBy_X5_room : GoodIn wsX0_mayGrowBy (wsV RX0 106 RX5 yX5_room wsX5_room) := goodIn_app (goodIn_of _ (by decide +kernel)) ggX0_mayGrowBy_X5_room
theorem dX0_mayGrowBy_0 : decode cX0_mayGrowBy 0 = .ok (.iload_n 1, 1) := by decide +kernel
theorem dX0_mayGrowBy_1 : decode cX0_mayGrowBy 1 = .ok (.aload_n 0, 1) := by decide +kernel
theorem dX0_mayGrowBy_2 : decode cX0_mayGrowBy 2 = .ok (.getfield 43, 3) := by decide +kernel
theorem dX0_mayGrowBy_5 : decode cX0_mayGrowBy 5 = .ok (.aload_n 0, 1) := by decide +kernel
theorem dX0_mayGrowBy_6 : decode cX0_mayGrowBy 6 = .ok (.getfield 15, 3) := by decide +kernel
theorem dX0_mayGrowBy_9 : decode cX0_mayGrowBy 9 = .ok (.getfield 29, 3) := by decide +kernel
theorem dX0_mayGrowBy_12 : decode cX0_mayGrowBy 12 = .ok (.aload_n 0, 1) := by decide +kernel
theorem dX0_mayGrowBy_13 : decode cX0_mayGrowBy 13 = .ok (.getfield 46, 3) := by decide +kernel
theorem dX0_mayGrowBy_16 : decode cX0_mayGrowBy 16 = .ok (.isub, 1) := by decide +kernel
theorem dX0_mayGrowBy_17 : decode cX0_mayGrowBy 17 = .ok (.isub, 1) := by decide +kernel
theorem dX0_mayGrowBy_18 : decode cX0_mayGrowBy 18 = .ok (.if_icmp .gt 18, 3) := by decide +kernel
theorem dX0_mayGrowBy_21 : decode cX0_mayGrowBy 21 = .ok (.iload_n 1, 1) := by decide +kernel
theorem dX0_mayGrowBy_22 : decode cX0_mayGrowBy 22 = .ok (.aload_n 0, 1) := by decide +kernel
theorem dX0_mayGrowBy_23 : decode cX0_mayGrowBy 23 = .ok (.getfield 15, 3) := by decide +kernel
theorem dX0_mayGrowBy_26 : decode cX0_mayGrowBy 26 = .ok (.invokevirtual 106, 3) := by decide +kernel
theorem dX0_mayGrowBy_29 : decode cX0_mayGrowBy 29 = .ok (.if_icmp .gt 7, 3) := by decide +kernel
theorem dX0_mayGrowBy_32 : decode cX0_mayGrowBy 32 = .ok (.iconst 1, 1) := by decide +kernel
theorem dX0_mayGrowBy_33 : decode cX0_mayGrowBy 33 = .ok (.goto 4, 3) := by decide +kernel
theorem dX0_mayGrowBy_36 : decode cX0_mayGrowBy 36 = .ok (.iconst 0, 1) := by decide +kernel
theorem dX0_mayGrowBy_37 : decode cX0_mayGrowBy 37 = .ok (.ireturn, 1) := by decide +kernel
theorem dX0_endsByRules_0 : decode cX0_endsByRules 0 = .ok (.aload_n 0, 1) := by decide +kernel
theorem dX0_endsByRules_1 : decode cX0_endsByRules 1 = .ok (.getfield 62, 3) := by decide +kernel
theorem dX0_endsByRules_4 : decode cX0_endsByRules 4 = .ok (.bipush 15, 2) := by decide +kernel
theorem dX0_endsByRules_6 : decode cX0_endsByRules 6 = .ok (.iand, 1) := by decide +kernel
theorem dX0_endsByRules_7 : decode cX0_endsByRules 7 = .ok (.ifCond .eq 5, 3) := by decide +kernel
theorem dX0_endsByRules_10 : decode cX0_endsByRules 10 = .ok (.iconst 0, 1) := by decide +kernel
theorem dX0_endsByRules_11 : decode cX0_endsByRules 11 = .ok (.ireturn, 1) := by decide +kernel
theorem dX0_endsByRules_12 : decode cX0_endsByRules 12 = .ok (.aload_n 0, 1) := by decide +kernel
theorem dX0_endsByRules_13 : decode cX0_endsByRules 13 = .ok (.getfield 52, 3) := by decide +kernel
theorem dX0_endsByRules_16 : decode cX0_endsByRules 16 = .ok (.iconst (-1), 1) := by decide +kernel
theorem dX0_endsByRules_17 : decode cX0_endsByRules 17 = .ok (.if_icmp .eq 28, 3) := by decide +kernel
theorem dX0_endsByRules_20 : decode cX0_endsByRules 20 = .ok (.aload_n 0, 1) := by decide +kernel
theorem dX0_endsByRules_21 : decode cX0_endsByRules 21 = .ok (.getfield 87, 3) := by decide +kernel
theorem dX0_endsByRules_24 : decode cX0_endsByRules 24 = .ok (.iconst 5, 1) := by decide +kernel
theorem dX0_endsByRules_25 : decode cX0_endsByRules 25 = .ok (.if_icmp .lt 24, 3) := by decide +kernel
theorem dX0_endsByRules_28 : decode cX0_endsByRules 28 = .ok (.aload_n 0, 1) := by decide +kernel
theorem dX0_endsByRules_29 : decode cX0_endsByRules 29 = .ok (.getfield 15, 3) := by decide +kernel
theorem dX0_endsByRules_32 : decode cX0_endsByRules 32 = .ok (.getfield 29, 3) := by decide +kernel
theorem dX0_endsByRules_35 : decode cX0_endsByRules 35 = .ok (.aload_n 0, 1) := by decide +kernel
theorem dX0_endsByRules_36 : decode cX0_endsByRules 36 = .ok (.getfield 52, 3) := by decide +kernel
theorem dX0_endsByRules_39 : decode cX0_endsByRules 39 = .ok (.isub, 1) := by decide +kernel
theorem dX0_endsByRules_40 : decode cX0_endsByRules 40 = .ok (.bipush 12, 2) := by decide +kernel
theorem dX0_endsByRules_42 : decode cX0_endsByRules 42 = .ok (.if_icmp .lt 7, 3) := by decide +kernel
theorem dX0_endsByRules_45 : decode cX0_endsByRules 45 = .ok (.iconst 1, 1) := by decide +kernel
theorem dX0_endsByRules_46 : decode cX0_endsByRules 46 = .ok (.goto 4, 3) := by decide +kernel
theorem dX0_endsByRules_49 : decode cX0_endsByRules 49 = .ok (.iconst 0, 1) := by decide +kernel
theorem dX0_endsByRules_50 : decode cX0_endsByRules 50 = .ok (.ireturn, 1) := by decide +kernel
set_option maxRecDepth 20000 in
theorem ggX2_init_X0_init : GoodIn wsX2_init wsX0_init := goodIn_r _ [13, 14, 2, 3, 15, 16, 17, 30, 31, 32, 33, 34, 35, 36, 37, 38, 39, 40, 41, 42] (by decide +kernel) (by decide +kernel)
set_option maxRecDepth 20000 in
theorem gX2_init_X0_init : GoodIn wsX2_init (wsX0_init) := ggX2_init_X0_init
theorem dX2_init_0 : decode cX2_init 0 = .ok (.aload_n 0, 1) := by decide +kernel
theorem dX2_init_1 : decode cX2_init 1 = .ok (.invokespecial 3, 3) := by decide +kernel
theorem dX2_init_4 : decode cX2_init 4 = .ok (.aload_n 0, 1) := by decide +kernel
theorem dX2_init_5 : decode cX2_init 5 = .ok (.aload_n 1, 1) := by decide +kernel
theorem dX2_init_6 : decode cX2_init 6 = .ok (.putfield 9, 3) := by decide +kernel
theorem dX2_init_9 : decode cX2_init 9 = .ok (.aload_n 0, 1) := by decide +kernel
theorem dX2_init_10 : decode cX2_init 10 = .ok (.aload_n 2, 1) := by decide +kernel
theorem dX2_init_11 : decode cX2_init 11 = .ok (.putfield 15, 3) := by decide +kernel
theorem dX2_init_14 : decode cX2_init 14 = .ok (.aload_n 0, 1) := by decide +kernel
theorem dX2_init_15 : decode cX2_init 15 = .ok (.aload_n 3, 1) := by decide +kernel
theorem dX2_init_16 : decode cX2_init 16 = .ok (.putfield 18, 3) := by decide +kernel
theorem dX2_init_19 : decode cX2_init 19 = .ok (.aload_n 0, 1) := by decide +kernel
theorem dX2_init_20 : decode cX2_init 20 = .ok (.new 22, 3) := by decide +kernel
theorem dX2_init_23 : decode cX2_init 23 = .ok (.dup, 1) := by decide +kernel
theorem dX2_init_24 : decode cX2_init 24 = .ok (.aload_n 1, 1) := by decide +kernel
theorem dX2_init_25 : decode cX2_init 25 = .ok (.aload_n 2, 1) := by decide +kernel
theorem dX2_init_26 : decode cX2_init 26 = .ok (.aload_n 3, 1) := by decide +kernel
theorem dX2_init_27 : decode cX2_init 27 = .ok (.invokespecial 24, 3) := by decide +kernel
theorem dX2_init_30 : decode cX2_init 30 = .ok (.putfield 27, 3) := by decide +kernel
theorem dX2_init_33 : decode cX2_init 33 = .ok (.return_, 1) := by decide +kernel
set_option maxRecDepth 20000 in
theorem ggX2_readAll_X2_isThere : GoodIn wsX2_readAll wsX2_isThere := goodIn_r _ [10, 1, 2, 4, 11, 12, 13, 14, 15, 16, 17, 18, 178, 179, 180, 181, 182, 183, 184, 185, 186, 187, 188, 189, 190, 191, 192, 193] (by decide +kernel) (by decide +kernel)
set_option maxRecDepth 20000 in
theorem gX2_readAll_X2_isThere : GoodIn wsX2_readAll (wsV RX2 46 RX2 yX2_isThere wsX2_isThere) := goodIn_app (goodIn_of _ (by decide +kernel)) ggX2_readAll_X2_isThere
set_option maxRecDepth 20000 in
theorem ggX2_readAll_X5_word : GoodIn wsX2_readAll wsX5_word := goodIn_r _ [23, 24, 25, 190, 191] (by decide +kernel) (by decide +kernel)
set_option maxRecDepth 20000 in
theorem gX2_readAll_X5_word : GoodIn wsX2_readAll (wsV RX2 50 RX5 yX5_word wsX5_word) := goodIn_app (goodIn_of _ (by decide +kernel)) ggX2_readAll_X5_word
set_option maxRecDepth 20000 in
theorem ggX2_readAll_X2_readBegin : GoodIn wsX2_readAll wsX2_readBegin := goodIn_r _ [29, 30, 4, 31, 11, 32, 33, 34, 9, 35, 1, 3, 36, 2, 37, 38, 39, 40, 41, 42, 6, 7, 8, 10, 12, 13, 14, 15, 16, 17, 18, 43, 44, 45, 22, 46, 24, 25, 47, 48, 49, 50, 51, 52, 53, 54, 55, 56, 57, 58, 59, 60, 61, 62, 63, 64, 65, 66, 67, 68, 69, 70, 71, 72, 73, 74, 75, 76, 77, 78, 79, 80, 20, 21, 23, 81, 82, 83, 84, 85, 86, 87, 5, 88, 178, 179, 180, 181, 182, 183, 184, 185, 186, 187, 188, 189, 190, 191, 192, 193] (by decide +kernel) (by decide +kernel)
set_option maxRecDepth 20000 in
theorem gX2_readAll_X2_readBegin : GoodIn wsX2_readAll (wsV RX2 54 RX2 yX2_readBegin wsX2_readBegin) := goodIn_app (goodIn_of _ (by decide +kernel)) ggX2_readAll_X2_readBegin
set_option maxRecDepth 20000 in
theorem ggX2_readAll_X2_readEnd : GoodIn wsX2_readAll wsX2_readEnd := goodIn_r _ [92, 36, 2, 37, 42, 57, 11, 4, 3, 88, 12, 13, 14, 15, 16, 17, 18, 93, 94, 95, 9, 96, 5, 1, 6, 7, 8, 10, 19, 20, 21, 22, 23, 24, 25, 67, 68, 69, 70, 71, 72, 73, 74, 75, 63, 64, 65, 66, 76, 77, 78, 79, 80, 81, 82, 83, 178, 179, 180, 181, 182, 183, 184, 185, 186, 187, 188, 189, 190, 191, 192, 193] (by decide +kernel) (by decide +kernel)
set_option maxRecDepth 20000 in
theorem gX2_readAll_X2_readEnd : GoodIn wsX2_readAll (wsV RX2 58 RX2 yX2_readEnd wsX2_readEnd) := goodIn_app (goodIn_of _ (by decide +kernel)) ggX2_readAll_X2_readEnd
set_option maxRecDepth 20000 in
theorem ggX2_readAll_X2_readBlock : GoodIn wsX2_readAll wsX2_readBlock := goodIn_r _ [100, 4, 101, 102, 51, 11, 42, 1, 103, 104, 37, 36, 2, 12, 13, 14, 15, 16, 17, 18, 6, 7, 8, 9, 10, 93, 94, 95, 96, 5, 19, 20, 21, 22, 23, 24, 25, 67, 68, 69, 70, 71, 72, 73, 74, 75, 63, 64, 65, 66, 76, 77, 78, 79, 80, 81, 82, 83, 105, 106, 107, 108, 109, 110, 111, 112, 113, 114, 115, 116, 117, 118, 119, 120, 121, 122, 123, 124, 125, 126, 127, 128, 129, 130, 131, 132, 133, 134, 135, 136, 137, 138, 139, 140, 141, 142, 143, 44, 45, 46, 144, 145, 146, 147, 148, 149, 150, 151, 152, 153, 154, 155, 156, 157, 158, 159, 160, 161, 162, 163, 164, 165, 166, 167, 168, 169, 170, 171, 172, 173, 59, 60, 61, 62, 174, 175, 176, 177, 178, 179, 180, 181, 182, 183, 184, 185, 186, 187, 188, 189, 190, 191, 192, 193, 194, 195, 196, 197, 198, 199, 200, 201, 202, 203, 204, 205, 206] (by decide +kernel) (by decide +kernel)
set_option maxRecDepth 20000 in
theorem gX2_readAll_X2_readBlock : GoodIn wsX2_readAll (wsV RX2 62 RX2 yX2_readBlock wsX2_readBlock) := goodIn_app (goodIn_of _ (by decide +kernel)) ggX2_readAll_X2_readBlock
theorem dX2_readAll_0 : decode cX2_readAll 0 = .ok (.iconst 1, 1) := by decide +kernel
theorem dX2_readAll_1 : decode cX2_readAll 1 = .ok (.istore_n 1, 1) := by decide +kernel
theorem dX2_readAll_2 : decode cX2_readAll 2 = .ok (.iconst 0, 1) := by decide +kernel
theorem dX2_readAll_3 : decode cX2_readAll 3 = .ok (.istore_n 2, 1) := by decide +kernel
theorem dX2_readAll_4 : decode cX2_readAll 4 = .ok (.iload_n 2, 1) := by decide +kernel
theorem dX2_readAll_5 : decode cX2_readAll 5 = .ok (.aload_n 0, 1) := by decide +kernel
theorem dX2_readAll_6 : decode cX2_readAll 6 = .ok (.getfield 9, 3) := by decide +kernel
theorem dX2_readAll_9 : decode cX2_readAll 9 = .ok (.getfield 31, 3) := by decide +kernel
theorem dX2_readAll_12 : decode cX2_readAll 12 = .ok (.if_icmp .gt 95, 3) := by decide +kernel
theorem dX2_readAll_15 : decode cX2_readAll 15 = .ok (.iload_n 1, 1) := by decide +kernel
theorem dX2_readAll_16 : decode cX2_readAll 16 = .ok (.ifCond .eq 91, 3) := by decide +kernel
theorem dX2_readAll_19 : decode cX2_readAll 19 = .ok (.aload_n 0, 1) := by decide +kernel
theorem dX2_readAll_20 : decode cX2_readAll 20 = .ok (.getfield 37, 3) := by decide +kernel
theorem dX2_readAll_23 : decode cX2_readAll 23 = .ok (.ifCond .ne 17, 3) := by decide +kernel
theorem dX2_readAll_26 : decode cX2_readAll 26 = .ok (.aload_n 0, 1) := by decide +kernel
theorem dX2_readAll_27 : decode cX2_readAll 27 = .ok (.getfield 41, 3) := by decide +kernel
theorem dX2_readAll_30 : decode cX2_readAll 30 = .ok (.aload_n 0, 1) := by decide +kernel
theorem dX2_readAll_31 : decode cX2_readAll 31 = .ok (.getfield 9, 3) := by decide +kernel
theorem dX2_readAll_34 : decode cX2_readAll 34 = .ok (.getfield 31, 3) := by decide +kernel
theorem dX2_readAll_37 : decode cX2_readAll 37 = .ok (.if_icmp .ge 70, 3) := by decide +kernel
theorem dX2_readAll_40 : decode cX2_readAll 40 = .ok (.aload_n 0, 1) := by decide +kernel
theorem dX2_readAll_41 : decode cX2_readAll 41 = .ok (.ldc2_w 44, 3) := by decide +kernel
theorem dX2_readAll_44 : decode cX2_readAll 44 = .ok (.invokevirtual 46, 3) := by decide +kernel
theorem dX2_readAll_47 : decode cX2_readAll 47 = .ok (.istore_n 1, 1) := by decide +kernel
theorem dX2_readAll_48 : decode cX2_readAll 48 = .ok (.aload_n 0, 1) := by decide +kernel
theorem dX2_readAll_49 : decode cX2_readAll 49 = .ok (.getfield 9, 3) := by decide +kernel
theorem dX2_readAll_52 : decode cX2_readAll 52 = .ok (.aload_n 0, 1) := by decide +kernel
theorem dX2_readAll_53 : decode cX2_readAll 53 = .ok (.getfield 41, 3) := by decide +kernel
theorem dX2_readAll_56 : decode cX2_readAll 56 = .ok (.invokevirtual 50, 3) := by decide +kernel
theorem dX2_readAll_59 : decode cX2_readAll 59 = .ok (.istore_n 3, 1) := by decide +kernel
theorem dX2_readAll_60 : decode cX2_readAll 60 = .ok (.iload_n 1, 1) := by decide +kernel
theorem dX2_readAll_61 : decode cX2_readAll 61 = .ok (.ifCond .eq 19, 3) := by decide +kernel
theorem dX2_readAll_64 : decode cX2_readAll 64 = .ok (.aload_n 0, 1) := by decide +kernel
theorem dX2_readAll_65 : decode cX2_readAll 65 = .ok (.getfield 37, 3) := by decide +kernel
theorem dX2_readAll_68 : decode cX2_readAll 68 = .ok (.ifCond .ne 12, 3) := by decide +kernel
theorem dX2_readAll_71 : decode cX2_readAll 71 = .ok (.aload_n 0, 1) := by decide +kernel
theorem dX2_readAll_72 : decode cX2_readAll 72 = .ok (.iload_n 3, 1) := by decide +kernel
theorem dX2_readAll_73 : decode cX2_readAll 73 = .ok (.invokevirtual 54, 3) := by decide +kernel
theorem dX2_readAll_76 : decode cX2_readAll 76 = .ok (.istore_n 1, 1) := by decide +kernel
theorem dX2_readAll_77 : decode cX2_readAll 77 = .ok (.goto 24, 3) := by decide +kernel
theorem dX2_readAll_80 : decode cX2_readAll 80 = .ok (.iload_n 1, 1) := by decide +kernel
theorem dX2_readAll_81 : decode cX2_readAll 81 = .ok (.ifCond .eq 20, 3) := by decide +kernel
theorem dX2_readAll_84 : decode cX2_readAll 84 = .ok (.iload_n 3, 1) := by decide +kernel
theorem dX2_readAll_85 : decode cX2_readAll 85 = .ok (.ifCond .ne 10, 3) := by decide +kernel
theorem dX2_readAll_88 : decode cX2_readAll 88 = .ok (.aload_n 0, 1) := by decide +kernel
theorem dX2_readAll_89 : decode cX2_readAll 89 = .ok (.invokevirtual 58, 3) := by decide +kernel
theorem dX2_readAll_92 : decode cX2_readAll 92 = .ok (.goto 8, 3) := by decide +kernel
theorem dX2_readAll_95 : decode cX2_readAll 95 = .ok (.aload_n 0, 1) := by decide +kernel
theorem dX2_readAll_96 : decode cX2_readAll 96 = .ok (.iload_n 3, 1) := by decide +kernel
theorem dX2_readAll_97 : decode cX2_readAll 97 = .ok (.invokevirtual 62, 3) := by decide +kernel
theorem dX2_readAll_100 : decode cX2_readAll 100 = .ok (.istore_n 1, 1) := by decide +kernel
theorem dX2_readAll_101 : decode cX2_readAll 101 = .ok (.iinc 2 1, 3) := by decide +kernel
theorem dX2_readAll_104 : decode cX2_readAll 104 = .ok (.goto (-100), 3) := by decide +kernel
theorem dX2_readAll_107 : decode cX2_readAll 107 = .ok (.iload_n 1, 1) := by decide +kernel
theorem dX2_readAll_108 : decode cX2_readAll 108 = .ok (.ireturn, 1) := by decide +kernel
set_option maxRecDepth 20000 in
theorem ggX2_isThere_X1_refuse : GoodIn wsX2_isThere wsX1_refuse := goodIn_r _ [9, 10, 11, 26, 27] (by decide +kernel) (by decide +kernel)
set_option maxRecDepth 20000 in
theorem gX2_isThere_X1_refuse : GoodIn wsX2_isThere (wsV RX2 67 RX1 yX1_refuse wsX1_refuse) := goodIn_app (goodIn_of _ (by decide +kernel)) ggX2_isThere_X1_refuse
theorem dX2_isThere_0 : decode cX2_isThere 0 = .ok (.lload_n 1, 1) := by decide +kernel
theorem dX2_isThere_1 : decode cX2_isThere 1 = .ok (.aload_n 0, 1) := by decide +kernel
theorem dX2_isThere_2 : decode cX2_isThere 2 = .ok (.getfield 9, 3) := by decide +kernel
theorem dX2_isThere_5 : decode cX2_isThere 5 = .ok (.getfield 31, 3) := by decide +kernel
theorem dX2_isThere_8 : decode cX2_isThere 8 = .ok (.aload_n 0, 1) := by decide +kernel
theorem dX2_isThere_9 : decode cX2_isThere 9 = .ok (.getfield 41, 3) := by decide +kernel
theorem dX2_isThere_12 : decode cX2_isThere 12 = .ok (.isub, 1) := by decide +kernel
theorem dX2_isThere_13 : decode cX2_isThere 13 = .ok (.i2l, 1) := by decide +kernel
theorem dX2_isThere_14 : decode cX2_isThere 14 = .ok (.lcmp, 1) := by decide +kernel
theorem dX2_isThere_15 : decode cX2_isThere 15 = .ok (.ifCond .le 21, 3) := by decide +kernel
theorem dX2_isThere_18 : decode cX2_isThere 18 = .ok (.aload_n 0, 1) := by decide +kernel
theorem dX2_isThere_19 : decode cX2_isThere 19 = .ok (.getfield 18, 3) := by decide +kernel
theorem dX2_isThere_22 : decode cX2_isThere 22 = .ok (.iconst 1, 1) := by decide +kernel
theorem dX2_isThere_23 : decode cX2_isThere 23 = .ok (.aload_n 0, 1) := by decide +kernel
theorem dX2_isThere_24 : decode cX2_isThere 24 = .ok (.getfield 9, 3) := by decide +kernel
theorem dX2_isThere_27 : decode cX2_isThere 27 = .ok (.getfield 31, 3) := by decide +kernel
theorem dX2_isThere_30 : decode cX2_isThere 30 = .ok (.invokevirtual 67, 3) := by decide +kernel
theorem dX2_isThere_33 : decode cX2_isThere 33 = .ok (.ifCond .eq 7, 3) := by decide +kernel
theorem dX2_isThere_36 : decode cX2_isThere 36 = .ok (.iconst 1, 1) := by decide +kernel
theorem dX2_isThere_37 : decode cX2_isThere 37 = .ok (.goto 4, 3) := by decide +kernel
theorem dX2_isThere_40 : decode cX2_isThere 40 = .ok (.iconst 0, 1) := by decide +kernel
theorem dX2_isThere_41 : decode cX2_isThere 41 = .ok (.ireturn, 1) := by decide +kernel
set_option maxRecDepth 20000 in
theorem ggX2_readBegin_X2_readHead : GoodIn wsX2_readBegin wsX2_readHead := goodIn_r _ [9, 2, 10, 4, 11, 12, 13, 14, 15, 16, 17, 8, 18, 19, 20, 21, 22, 23, 24, 25, 26, 27, 28, 29, 30, 31, 32, 33, 34, 35, 36, 37, 38, 39, 40, 41, 42, 43, 44, 45, 46, 47, 48, 49, 50, 51, 52, 53, 54, 55, 56, 57, 58, 59, 60, 61, 62, 63, 64, 65, 66, 67, 68, 69, 70, 71, 72, 73, 74, 75, 76, 77, 84, 85, 86, 87, 88, 89, 90, 91, 92, 93, 94, 95, 96, 97, 98, 99] (by decide +kernel) (by decide +kernel)
set_option maxRecDepth 20000 in
theorem gX2_readBegin_X2_readHead : GoodIn wsX2_readBegin (wsV RX2 72 RX2 yX2_readHead wsX2_readHead) := goodIn_app (goodIn_of _ (by decide +kernel)) ggX2_readBegin_X2_readHead
set_option maxRecDepth 20000 in
theorem ggX2_readBegin_X2_readSkipped : GoodIn wsX2_readBegin wsX2_readSkipped := goodIn_r _ [81, 82, 10, 2, 83, 20, 21, 22, 8, 23, 13, 4, 24, 25, 26, 27, 28, 29, 30, 49, 50, 51, 34, 52, 37, 53, 54, 55, 56, 57, 36, 84, 85, 86, 87, 88, 89, 90, 91, 92, 93, 94, 95, 96, 97, 98, 99] (by decide +kernel) (by decide +kernel)
set_option maxRecDepth 20000 in
theorem gX2_readBegin_X2_readSkipped : GoodIn wsX2_readBegin (wsV RX2 76 RX2 yX2_readSkipped wsX2_readSkipped) := goodIn_app (goodIn_of _ (by decide +kernel)) ggX2_readBegin_X2_readSkipped
set_option maxRecDepth 20000 in
theorem ggX2_readBegin_X1_refuse : GoodIn wsX2_readBegin wsX1_refuse := goodIn_r _ [28, 29, 30, 98, 99] (by decide +kernel) (by decide +kernel)
set_option maxRecDepth 20000 in
theorem gX2_readBegin_X1_refuse : GoodIn wsX2_readBegin (wsV RX2 67 RX1 yX1_refuse wsX1_refuse) := goodIn_app (goodIn_of _ (by decide +kernel)) ggX2_readBegin_X1_refuse
theorem dX2_readBegin_0 : decode cX2_readBegin 0 = .ok (.iload_n 1, 1) := by decide +kernel
theorem dX2_readBegin_1 : decode cX2_readBegin 1 = .ok (.ldc 71, 2) := by decide +kernel
theorem dX2_readBegin_3 : decode cX2_readBegin 3 = .ok (.if_icmp .ne 18, 3) := by decide +kernel
theorem dX2_readBegin_6 : decode cX2_readBegin 6 = .ok (.aload_n 0, 1) := by decide +kernel
theorem dX2_readBegin_7 : decode cX2_readBegin 7 = .ok (.dup, 1) := by decide +kernel
theorem dX2_readBegin_8 : decode cX2_readBegin 8 = .ok (.getfield 41, 3) := by decide +kernel
theorem dX2_readBegin_11 : decode cX2_readBegin 11 = .ok (.iconst 4, 1) := by decide +kernel
theorem dX2_readBegin_12 : decode cX2_readBegin 12 = .ok (.iadd, 1) := by decide +kernel
theorem dX2_readBegin_13 : decode cX2_readBegin 13 = .ok (.putfield 41, 3) := by decide +kernel
theorem dX2_readBegin_16 : decode cX2_readBegin 16 = .ok (.aload_n 0, 1) := by decide +kernel
theorem dX2_readBegin_17 : decode cX2_readBegin 17 = .ok (.invokevirtual 72, 3) := by decide +kernel
theorem dX2_readBegin_20 : decode cX2_readBegin 20 = .ok (.ireturn, 1) := by decide +kernel
theorem dX2_readBegin_21 : decode cX2_readBegin 21 = .ok (.iload_n 1, 1) := by decide +kernel
theorem dX2_readBegin_22 : decode cX2_readBegin 22 = .ok (.bipush (-16), 2) := by decide +kernel
theorem dX2_readBegin_24 : decode cX2_readBegin 24 = .ok (.iand, 1) := by decide +kernel
theorem dX2_readBegin_25 : decode cX2_readBegin 25 = .ok (.ldc 75, 2) := by decide +kernel
theorem dX2_readBegin_27 : decode cX2_readBegin 27 = .ok (.if_icmp .ne 18, 3) := by decide +kernel
theorem dX2_readBegin_30 : decode cX2_readBegin 30 = .ok (.aload_n 0, 1) := by decide +kernel
theorem dX2_readBegin_31 : decode cX2_readBegin 31 = .ok (.dup, 1) := by decide +kernel
theorem dX2_readBegin_32 : decode cX2_readBegin 32 = .ok (.getfield 41, 3) := by decide +kernel
theorem dX2_readBegin_35 : decode cX2_readBegin 35 = .ok (.iconst 4, 1) := by decide +kernel
theorem dX2_readBegin_36 : decode cX2_readBegin 36 = .ok (.iadd, 1) := by decide +kernel
theorem dX2_readBegin_37 : decode cX2_readBegin 37 = .ok (.putfield 41, 3) := by decide +kernel
theorem dX2_readBegin_40 : decode cX2_readBegin 40 = .ok (.aload_n 0, 1) := by decide +kernel
theorem dX2_readBegin_41 : decode cX2_readBegin 41 = .ok (.invokevirtual 76, 3) := by decide +kernel
theorem dX2_readBegin_44 : decode cX2_readBegin 44 = .ok (.ireturn, 1) := by decide +kernel
theorem dX2_readBegin_45 : decode cX2_readBegin 45 = .ok (.aload_n 0, 1) := by decide +kernel
theorem dX2_readBegin_46 : decode cX2_readBegin 46 = .ok (.getfield 18, 3) := by decide +kernel
theorem dX2_readBegin_49 : decode cX2_readBegin 49 = .ok (.iconst 2, 1) := by decide +kernel
theorem dX2_readBegin_50 : decode cX2_readBegin 50 = .ok (.aload_n 0, 1) := by decide +kernel
theorem dX2_readBegin_51 : decode cX2_readBegin 51 = .ok (.getfield 41, 3) := by decide +kernel
theorem dX2_readBegin_54 : decode cX2_readBegin 54 = .ok (.invokevirtual 67, 3) := by decide +kernel
theorem dX2_readBegin_57 : decode cX2_readBegin 57 = .ok (.ireturn, 1) := by decide +kernel
set_option maxRecDepth 20000 in
theorem ggX2_readSkipped_X2_isThere : GoodIn wsX2_readSkipped wsX2_isThere := goodIn_r _ [9, 2, 10, 3, 11, 12, 13, 14, 15, 16, 17, 18, 31, 32, 33, 34, 35, 36, 37, 38, 39, 40, 41, 42, 43, 44, 45, 46] (by decide +kernel) (by decide +kernel)
set_option maxRecDepth 20000 in
theorem gX2_readSkipped_X2_isThere : GoodIn wsX2_readSkipped (wsV RX2 46 RX2 yX2_isThere wsX2_isThere) := goodIn_app (goodIn_of _ (by decide +kernel)) ggX2_readSkipped_X2_isThere
set_option maxRecDepth 20000 in
theorem ggX2_readSkipped_X5_numberAt : GoodIn wsX2_readSkipped wsX5_numberAt := goodIn_r _ [23, 24, 25, 26, 27, 28, 22, 29, 30, 43, 44] (by decide +kernel) (by decide +kernel)
set_option maxRecDepth 20000 in
theorem gX2_readSkipped_X5_numberAt : GoodIn wsX2_readSkipped (wsV RX2 79 RX5 yX5_numberAt wsX5_numberAt) := goodIn_app (goodIn_of _ (by decide +kernel)) ggX2_readSkipped_X5_numberAt
theorem dX2_readSkipped_0 : decode cX2_readSkipped 0 = .ok (.aload_n 0, 1) := by decide +kernel
theorem dX2_readSkipped_1 : decode cX2_readSkipped 1 = .ok (.ldc2_w 44, 3) := by decide +kernel
theorem dX2_readSkipped_4 : decode cX2_readSkipped 4 = .ok (.invokevirtual 46, 3) := by decide +kernel
theorem dX2_readSkipped_7 : decode cX2_readSkipped 7 = .ok (.ifCond .ne 5, 3) := by decide +kernel
theorem dX2_readSkipped_10 : decode cX2_readSkipped 10 = .ok (.iconst 0, 1) := by decide +kernel
theorem dX2_readSkipped_11 : decode cX2_readSkipped 11 = .ok (.ireturn, 1) := by decide +kernel
theorem dX2_readSkipped_12 : decode cX2_readSkipped 12 = .ok (.aload_n 0, 1) := by decide +kernel
theorem dX2_readSkipped_13 : decode cX2_readSkipped 13 = .ok (.getfield 9, 3) := by decide +kernel
theorem dX2_readSkipped_16 : decode cX2_readSkipped 16 = .ok (.aload_n 0, 1) := by decide +kernel
theorem dX2_readSkipped_17 : decode cX2_readSkipped 17 = .ok (.getfield 41, 3) := by decide +kernel
theorem dX2_readSkipped_20 : decode cX2_readSkipped 20 = .ok (.iconst 4, 1) := by decide +kernel
theorem dX2_readSkipped_21 : decode cX2_readSkipped 21 = .ok (.invokevirtual 79, 3) := by decide +kernel
theorem dX2_readSkipped_24 : decode cX2_readSkipped 24 = .ok (.lstore_n 1, 1) := by decide +kernel
theorem dX2_readSkipped_25 : decode cX2_readSkipped 25 = .ok (.aload_n 0, 1) := by decide +kernel
theorem dX2_readSkipped_26 : decode cX2_readSkipped 26 = .ok (.dup, 1) := by decide +kernel
theorem dX2_readSkipped_27 : decode cX2_readSkipped 27 = .ok (.getfield 41, 3) := by decide +kernel
theorem dX2_readSkipped_30 : decode cX2_readSkipped 30 = .ok (.iconst 4, 1) := by decide +kernel
theorem dX2_readSkipped_31 : decode cX2_readSkipped 31 = .ok (.iadd, 1) := by decide +kernel
theorem dX2_readSkipped_32 : decode cX2_readSkipped 32 = .ok (.putfield 41, 3) := by decide +kernel
theorem dX2_readSkipped_35 : decode cX2_readSkipped 35 = .ok (.aload_n 0, 1) := by decide +kernel
theorem dX2_readSkipped_36 : decode cX2_readSkipped 36 = .ok (.lload_n 1, 1) := by decide +kernel
theorem dX2_readSkipped_37 : decode cX2_readSkipped 37 = .ok (.invokevirtual 46, 3) := by decide +kernel
theorem dX2_readSkipped_40 : decode cX2_readSkipped 40 = .ok (.ifCond .ne 5, 3) := by decide +kernel
theorem dX2_readSkipped_43 : decode cX2_readSkipped 43 = .ok (.iconst 0, 1) := by decide +kernel
theorem dX2_readSkipped_44 : decode cX2_readSkipped 44 = .ok (.ireturn, 1) := by decide +kernel
theorem dX2_readSkipped_45 : decode cX2_readSkipped 45 = .ok (.aload_n 0, 1) := by decide +kernel
theorem dX2_readSkipped_46 : decode cX2_readSkipped 46 = .ok (.dup, 1) := by decide +kernel
theorem dX2_readSkipped_47 : decode cX2_readSkipped 47 = .ok (.getfield 41, 3) := by decide +kernel
theorem dX2_readSkipped_50 : decode cX2_readSkipped 50 = .ok (.lload_n 1, 1) := by decide +kernel
theorem dX2_readSkipped_51 : decode cX2_readSkipped 51 = .ok (.l2i, 1) := by decide +kernel
theorem dX2_readSkipped_52 : decode cX2_readSkipped 52 = .ok (.iadd, 1) := by decide +kernel
theorem dX2_readSkipped_53 : decode cX2_readSkipped 53 = .ok (.putfield 41, 3) := by decide +kernel
theorem dX2_readSkipped_56 : decode cX2_readSkipped 56 = .ok (.aload_n 0, 1) := by decide +kernel
theorem dX2_readSkipped_57 : decode cX2_readSkipped 57 = .ok (.dup, 1) := by decide +kernel
theorem dX2_readSkipped_58 : decode cX2_readSkipped 58 = .ok (.getfield 83, 3) := by decide +kernel
theorem dX2_readSkipped_61 : decode cX2_readSkipped 61 = .ok (.iconst 1, 1) := by decide +kernel
theorem dX2_readSkipped_62 : decode cX2_readSkipped 62 = .ok (.iadd, 1) := by decide +kernel
theorem dX2_readSkipped_63 : decode cX2_readSkipped 63 = .ok (.putfield 83, 3) := by decide +kernel
theorem dX2_readSkipped_66 : decode cX2_readSkipped 66 = .ok (.iconst 1, 1) := by decide +kernel
theorem dX2_readSkipped_67 : decode cX2_readSkipped 67 = .ok (.ireturn, 1) := by decide +kernel
set_option maxRecDepth 20000 in
theorem ggX2_readHead_X2_readFlags : GoodIn wsX2_readHead wsX2_readFlags := goodIn_r _ [12, 2, 1, 13, 3, 14, 15, 16, 11, 17, 6, 18, 19, 20, 21, 22, 23, 24, 25, 26, 27, 28, 29, 30, 31, 72, 73, 74, 75, 76, 77, 78, 79, 80, 81, 82, 83, 84, 85, 86, 87] (by decide +kernel) (by decide +kernel)
set_option maxRecDepth 20000 in
theorem gX2_readHead_X2_readFlags : GoodIn wsX2_readHead (wsV RX2 86 RX2 yX2_readFlags wsX2_readFlags) := goodIn_app (goodIn_of _ (by decide +kernel)) ggX2_readHead_X2_readFlags
set_option maxRecDepth 20000 in
theorem ggX2_readHead_X2_readCode : GoodIn wsX2_readHead wsX2_readCode := goodIn_r _ [35, 2, 1, 3, 36, 14, 15, 16, 11, 17, 6, 18, 19, 20, 21, 22, 23, 24, 25, 26, 27, 28, 29, 30, 31, 72, 73, 74, 75, 76, 77, 78, 79, 80, 81, 82, 83, 84, 85, 86, 87] (by decide +kernel) (by decide +kernel)
set_option maxRecDepth 20000 in
theorem gX2_readHead_X2_readCode : GoodIn wsX2_readHead (wsV RX2 89 RX2 yX2_readCode wsX2_readCode) := goodIn_app (goodIn_of _ (by decide +kernel)) ggX2_readHead_X2_readCode
set_option maxRecDepth 20000 in
theorem ggX2_readHead_X2_readSize : GoodIn wsX2_readHead wsX2_readSize := goodIn_r _ [40, 13, 41, 2, 1, 42, 14, 15, 16, 11, 17, 6, 3, 18, 19, 20, 21, 22, 23, 24, 43, 44, 45, 28, 46, 31, 47, 48, 49, 50, 51, 30, 72, 73, 74, 75, 76, 77, 78, 79, 80, 81, 82, 83, 84, 85, 86, 87] (by decide +kernel) (by decide +kernel)
set_option maxRecDepth 20000 in
theorem gX2_readHead_X2_readSize : GoodIn wsX2_readHead (wsV RX2 92 RX2 yX2_readSize wsX2_readSize) := goodIn_app (goodIn_of _ (by decide +kernel)) ggX2_readHead_X2_readSize
set_option maxRecDepth 20000 in
theorem ggX2_readHead_X2_isThere : GoodIn wsX2_readHead wsX2_isThere := goodIn_r _ [17, 2, 6, 1, 3, 18, 19, 20, 21, 22, 23, 24, 72, 73, 74, 75, 76, 77, 78, 79, 80, 81, 82, 83, 84, 85, 86, 87] (by decide +kernel) (by decide +kernel)
set_option maxRecDepth 20000 in
theorem gX2_readHead_X2_isThere : GoodIn wsX2_readHead (wsV RX2 46 RX2 yX2_isThere wsX2_isThere) := goodIn_app (goodIn_of _ (by decide +kernel)) ggX2_readHead_X2_isThere
set_option maxRecDepth 20000 in
theorem ggX2_readHead_X5_hashOf : GoodIn wsX2_readHead wsX5_hashOf := goodIn_r _ [55, 56, 57, 58, 31, 59, 60, 48, 49, 50, 28, 51, 30, 61, 62, 63, 64, 65, 66, 67, 68, 69, 70, 71, 84, 85] (by decide +kernel) (by decide +kernel)
set_option maxRecDepth 20000 in
theorem gX2_readHead_X5_hashOf : GoodIn wsX2_readHead (wsV RX2 95 RX5 yX5_hashOf wsX5_hashOf) := goodIn_app (goodIn_of _ (by decide +kernel)) ggX2_readHead_X5_hashOf
set_option maxRecDepth 20000 in
theorem ggX2_readHead_X5_get : GoodIn wsX2_readHead wsX5_get := goodIn_r _ [29, 30, 31, 84, 85] (by decide +kernel) (by decide +kernel)
set_option maxRecDepth 20000 in
theorem gX2_readHead_X5_get : GoodIn wsX2_readHead (wsV RX2 99 RX5 yX5_get wsX5_get) := goodIn_app (goodIn_of _ (by decide +kernel)) ggX2_readHead_X5_get
set_option maxRecDepth 20000 in
theorem ggX2_readHead_X1_refuse : GoodIn wsX2_readHead wsX1_refuse := goodIn_r _ [22, 23, 24, 86, 87] (by decide +kernel) (by decide +kernel)
set_option maxRecDepth 20000 in
theorem gX2_readHead_X1_refuse : GoodIn wsX2_readHead (wsV RX2 67 RX1 yX1_refuse wsX1_refuse) := goodIn_app (goodIn_of _ (by decide +kernel)) ggX2_readHead_X1_refuse
theorem dX2_readHead_0 : decode cX2_readHead 0 = .ok (.aload_n 0, 1) := by decide +kernel
theorem dX2_readHead_1 : decode cX2_readHead 1 = .ok (.getfield 41, 3) := by decide +kernel
theorem dX2_readHead_4 : decode cX2_readHead 4 = .ok (.istore_n 1, 1) := by decide +kernel
theorem dX2_readHead_5 : decode cX2_readHead 5 = .ok (.aload_n 0, 1) := by decide +kernel
theorem dX2_readHead_6 : decode cX2_readHead 6 = .ok (.invokevirtual 86, 3) := by decide +kernel
theorem dX2_readHead_9 : decode cX2_readHead 9 = .ok (.ifCond .eq 25, 3) := by decide +kernel
theorem dX2_readHead_12 : decode cX2_readHead 12 = .ok (.aload_n 0, 1) := by decide +kernel
theorem dX2_readHead_13 : decode cX2_readHead 13 = .ok (.invokevirtual 89, 3) := by decide +kernel
theorem dX2_readHead_16 : decode cX2_readHead 16 = .ok (.ifCond .eq 18, 3) := by decide +kernel
theorem dX2_readHead_19 : decode cX2_readHead 19 = .ok (.aload_n 0, 1) := by decide +kernel
theorem dX2_readHead_20 : decode cX2_readHead 20 = .ok (.invokevirtual 92, 3) := by decide +kernel
theorem dX2_readHead_23 : decode cX2_readHead 23 = .ok (.ifCond .eq 11, 3) := by decide +kernel
theorem dX2_readHead_26 : decode cX2_readHead 26 = .ok (.aload_n 0, 1) := by decide +kernel
theorem dX2_readHead_27 : decode cX2_readHead 27 = .ok (.lconst 1, 1) := by decide +kernel
theorem dX2_readHead_28 : decode cX2_readHead 28 = .ok (.invokevirtual 46, 3) := by decide +kernel
theorem dX2_readHead_31 : decode cX2_readHead 31 = .ok (.ifCond .ne 5, 3) := by decide +kernel
theorem dX2_readHead_34 : decode cX2_readHead 34 = .ok (.iconst 0, 1) := by decide +kernel
theorem dX2_readHead_35 : decode cX2_readHead 35 = .ok (.ireturn, 1) := by decide +kernel
theorem dX2_readHead_36 : decode cX2_readHead 36 = .ok (.aload_n 0, 1) := by decide +kernel
theorem dX2_readHead_37 : decode cX2_readHead 37 = .ok (.getfield 9, 3) := by decide +kernel
theorem dX2_readHead_40 : decode cX2_readHead 40 = .ok (.iload_n 1, 1) := by decide +kernel
theorem dX2_readHead_41 : decode cX2_readHead 41 = .ok (.aload_n 0, 1) := by decide +kernel
theorem dX2_readHead_42 : decode cX2_readHead 42 = .ok (.getfield 41, 3) := by decide +kernel
theorem dX2_readHead_45 : decode cX2_readHead 45 = .ok (.iload_n 1, 1) := by decide +kernel
theorem dX2_readHead_46 : decode cX2_readHead 46 = .ok (.isub, 1) := by decide +kernel
theorem dX2_readHead_47 : decode cX2_readHead 47 = .ok (.iconst 0, 1) := by decide +kernel
theorem dX2_readHead_48 : decode cX2_readHead 48 = .ok (.invokevirtual 95, 3) := by decide +kernel
theorem dX2_readHead_51 : decode cX2_readHead 51 = .ok (.bipush 8, 2) := by decide +kernel
theorem dX2_readHead_53 : decode cX2_readHead 53 = .ok (.iushr, 1) := by decide +kernel
theorem dX2_readHead_54 : decode cX2_readHead 54 = .ok (.sipush 255, 3) := by decide +kernel
theorem dX2_readHead_57 : decode cX2_readHead 57 = .ok (.iand, 1) := by decide +kernel
theorem dX2_readHead_58 : decode cX2_readHead 58 = .ok (.istore_n 2, 1) := by decide +kernel
theorem dX2_readHead_59 : decode cX2_readHead 59 = .ok (.aload_n 0, 1) := by decide +kernel
theorem dX2_readHead_60 : decode cX2_readHead 60 = .ok (.getfield 9, 3) := by decide +kernel
theorem dX2_readHead_63 : decode cX2_readHead 63 = .ok (.aload_n 0, 1) := by decide +kernel
theorem dX2_readHead_64 : decode cX2_readHead 64 = .ok (.getfield 41, 3) := by decide +kernel
theorem dX2_readHead_67 : decode cX2_readHead 67 = .ok (.invokevirtual 99, 3) := by decide +kernel
theorem dX2_readHead_70 : decode cX2_readHead 70 = .ok (.iload_n 2, 1) := by decide +kernel
theorem dX2_readHead_71 : decode cX2_readHead 71 = .ok (.if_icmp .eq 16, 3) := by decide +kernel
theorem dX2_readHead_74 : decode cX2_readHead 74 = .ok (.aload_n 0, 1) := by decide +kernel
theorem dX2_readHead_75 : decode cX2_readHead 75 = .ok (.getfield 18, 3) := by decide +kernel
theorem dX2_readHead_78 : decode cX2_readHead 78 = .ok (.iconst 4, 1) := by decide +kernel
theorem dX2_readHead_79 : decode cX2_readHead 79 = .ok (.aload_n 0, 1) := by decide +kernel
theorem dX2_readHead_80 : decode cX2_readHead 80 = .ok (.getfield 41, 3) := by decide +kernel
theorem dX2_readHead_83 : decode cX2_readHead 83 = .ok (.invokevirtual 67, 3) := by decide +kernel
theorem dX2_readHead_86 : decode cX2_readHead 86 = .ok (.ireturn, 1) := by decide +kernel
theorem dX2_readHead_87 : decode cX2_readHead 87 = .ok (.aload_n 0, 1) := by decide +kernel
theorem dX2_readHead_88 : decode cX2_readHead 88 = .ok (.dup, 1) := by decide +kernel
theorem dX2_readHead_89 : decode cX2_readHead 89 = .ok (.getfield 41, 3) := by decide +kernel
theorem dX2_readHead_92 : decode cX2_readHead 92 = .ok (.iconst 1, 1) := by decide +kernel
theorem dX2_readHead_93 : decode cX2_readHead 93 = .ok (.iadd, 1) := by decide +kernel
theorem dX2_readHead_94 : decode cX2_readHead 94 = .ok (.putfield 41, 3) := by decide +kernel
theorem dX2_readHead_97 : decode cX2_readHead 97 = .ok (.aload_n 0, 1) := by decide +kernel
theorem dX2_readHead_98 : decode cX2_readHead 98 = .ok (.iconst 1, 1) := by decide +kernel
theorem dX2_readHead_99 : decode cX2_readHead 99 = .ok (.putfield 37, 3) := by decide +kernel
theorem dX2_readHead_102 : decode cX2_readHead 102 = .ok (.aload_n 0, 1) := by decide +kernel
theorem dX2_readHead_103 : decode cX2_readHead 103 = .ok (.aload_n 0, 1) := by decide +kernel
theorem dX2_readHead_104 : decode cX2_readHead 104 = .ok (.getfield 15, 3) := by decide +kernel
theorem dX2_readHead_107 : decode cX2_readHead 107 = .ok (.getfield 31, 3) := by decide +kernel
theorem dX2_readHead_110 : decode cX2_readHead 110 = .ok (.putfield 102, 3) := by decide +kernel
theorem dX2_readHead_113 : decode cX2_readHead 113 = .ok (.iconst 1, 1) := by decide +kernel
theorem dX2_readHead_114 : decode cX2_readHead 114 = .ok (.ireturn, 1) := by decide +kernel
set_option maxRecDepth 20000 in
theorem ggX2_readFlags_X2_isThere : GoodIn wsX2_readFlags wsX2_isThere := goodIn_r _ [9, 1, 10, 2, 4, 11, 12, 13, 14, 15, 16, 17, 25, 26, 27, 28, 29, 30, 31, 32, 33, 34, 35, 36, 37, 38, 39, 40] (by decide +kernel) (by decide +kernel)
set_option maxRecDepth 20000 in
theorem gX2_readFlags_X2_isThere : GoodIn wsX2_readFlags (wsV RX2 46 RX2 yX2_isThere wsX2_isThere) := goodIn_app (goodIn_of _ (by decide +kernel)) ggX2_readFlags_X2_isThere
set_option maxRecDepth 20000 in
theorem ggX2_readFlags_X5_get : GoodIn wsX2_readFlags wsX5_get := goodIn_r _ [22, 23, 24, 37, 38] (by decide +kernel) (by decide +kernel)
set_option maxRecDepth 20000 in
theorem gX2_readFlags_X5_get : GoodIn wsX2_readFlags (wsV RX2 99 RX5 yX5_get wsX5_get) := goodIn_app (goodIn_of _ (by decide +kernel)) ggX2_readFlags_X5_get
set_option maxRecDepth 20000 in
theorem ggX2_readFlags_X1_refuse : GoodIn wsX2_readFlags wsX1_refuse := goodIn_r _ [15, 16, 17, 39, 40] (by decide +kernel) (by decide +kernel)
set_option maxRecDepth 20000 in
theorem gX2_readFlags_X1_refuse : GoodIn wsX2_readFlags (wsV RX2 67 RX1 yX1_refuse wsX1_refuse) := goodIn_app (goodIn_of _ (by decide +kernel)) ggX2_readFlags_X1_refuse
theorem dX2_readFlags_0 : decode cX2_readFlags 0 = .ok (.aload_n 0, 1) := by decide +kernel
theorem dX2_readFlags_1 : decode cX2_readFlags 1 = .ok (.lconst 1, 1) := by decide +kernel
theorem dX2_readFlags_2 : decode cX2_readFlags 2 = .ok (.invokevirtual 46, 3) := by decide +kernel
theorem dX2_readFlags_5 : decode cX2_readFlags 5 = .ok (.ifCond .ne 5, 3) := by decide +kernel
theorem dX2_readFlags_8 : decode cX2_readFlags 8 = .ok (.iconst 0, 1) := by decide +kernel
theorem dX2_readFlags_9 : decode cX2_readFlags 9 = .ok (.ireturn, 1) := by decide +kernel
theorem dX2_readFlags_10 : decode cX2_readFlags 10 = .ok (.aload_n 0, 1) := by decide +kernel
theorem dX2_readFlags_11 : decode cX2_readFlags 11 = .ok (.aload_n 0, 1) := by decide +kernel
theorem dX2_readFlags_12 : decode cX2_readFlags 12 = .ok (.getfield 9, 3) := by decide +kernel
theorem dX2_readFlags_15 : decode cX2_readFlags 15 = .ok (.aload_n 0, 1) := by decide +kernel
theorem dX2_readFlags_16 : decode cX2_readFlags 16 = .ok (.getfield 41, 3) := by decide +kernel
theorem dX2_readFlags_19 : decode cX2_readFlags 19 = .ok (.invokevirtual 99, 3) := by decide +kernel
theorem dX2_readFlags_22 : decode cX2_readFlags 22 = .ok (.putfield 105, 3) := by decide +kernel
theorem dX2_readFlags_25 : decode cX2_readFlags 25 = .ok (.aload_n 0, 1) := by decide +kernel
theorem dX2_readFlags_26 : decode cX2_readFlags 26 = .ok (.getfield 105, 3) := by decide +kernel
theorem dX2_readFlags_29 : decode cX2_readFlags 29 = .ok (.sipush 195, 3) := by decide +kernel
theorem dX2_readFlags_32 : decode cX2_readFlags 32 = .ok (.iand, 1) := by decide +kernel
theorem dX2_readFlags_33 : decode cX2_readFlags 33 = .ok (.bipush 64, 2) := by decide +kernel
theorem dX2_readFlags_35 : decode cX2_readFlags 35 = .ok (.if_icmp .eq 16, 3) := by decide +kernel
theorem dX2_readFlags_38 : decode cX2_readFlags 38 = .ok (.aload_n 0, 1) := by decide +kernel
theorem dX2_readFlags_39 : decode cX2_readFlags 39 = .ok (.getfield 18, 3) := by decide +kernel
theorem dX2_readFlags_42 : decode cX2_readFlags 42 = .ok (.iconst 3, 1) := by decide +kernel
theorem dX2_readFlags_43 : decode cX2_readFlags 43 = .ok (.aload_n 0, 1) := by decide +kernel
theorem dX2_readFlags_44 : decode cX2_readFlags 44 = .ok (.getfield 41, 3) := by decide +kernel
theorem dX2_readFlags_47 : decode cX2_readFlags 47 = .ok (.invokevirtual 67, 3) := by decide +kernel
theorem dX2_readFlags_50 : decode cX2_readFlags 50 = .ok (.ireturn, 1) := by decide +kernel
theorem dX2_readFlags_51 : decode cX2_readFlags 51 = .ok (.aload_n 0, 1) := by decide +kernel
theorem dX2_readFlags_52 : decode cX2_readFlags 52 = .ok (.dup, 1) := by decide +kernel
theorem dX2_readFlags_53 : decode cX2_readFlags 53 = .ok (.getfield 41, 3) := by decide +kernel
theorem dX2_readFlags_56 : decode cX2_readFlags 56 = .ok (.iconst 1, 1) := by decide +kernel
theorem dX2_readFlags_57 : decode cX2_readFlags 57 = .ok (.iadd, 1) := by decide +kernel
theorem dX2_readFlags_58 : decode cX2_readFlags 58 = .ok (.putfield 41, 3) := by decide +kernel
theorem dX2_readFlags_61 : decode cX2_readFlags 61 = .ok (.iconst 1, 1) := by decide +kernel
theorem dX2_readFlags_62 : decode cX2_readFlags 62 = .ok (.ireturn, 1) := by decide +kernel
set_option maxRecDepth 20000 in
theorem ggX2_readCode_X2_isThere : GoodIn wsX2_readCode wsX2_isThere := goodIn_r _ [9, 1, 10, 2, 3, 11, 12, 13, 14, 15, 16, 17, 25, 26, 27, 28, 29, 30, 31, 32, 33, 34, 35, 36, 37, 38, 39, 40] (by decide +kernel) (by decide +kernel)
set_option maxRecDepth 20000 in
theorem gX2_readCode_X2_isThere : GoodIn wsX2_readCode (wsV RX2 46 RX2 yX2_isThere wsX2_isThere) := goodIn_app (goodIn_of _ (by decide +kernel)) ggX2_readCode_X2_isThere
set_option maxRecDepth 20000 in
theorem ggX2_readCode_X5_get : GoodIn wsX2_readCode wsX5_get := goodIn_r _ [22, 23, 24, 37, 38] (by decide +kernel) (by decide +kernel)
set_option maxRecDepth 20000 in
theorem gX2_readCode_X5_get : GoodIn wsX2_readCode (wsV RX2 99 RX5 yX5_get wsX5_get) := goodIn_app (goodIn_of _ (by decide +kernel)) ggX2_readCode_X5_get
set_option maxRecDepth 20000 in
theorem ggX2_readCode_X1_refuse : GoodIn wsX2_readCode wsX1_refuse := goodIn_r _ [15, 16, 17, 39, 40] (by decide +kernel) (by decide +kernel)
set_option maxRecDepth 20000 in
theorem gX2_readCode_X1_refuse : GoodIn wsX2_readCode (wsV RX2 67 RX1 yX1_refuse wsX1_refuse) := goodIn_app (goodIn_of _ (by decide +kernel)) ggX2_readCode_X1_refuse
theorem dX2_readCode_0 : decode cX2_readCode 0 = .ok (.aload_n 0, 1) := by decide +kernel
theorem dX2_readCode_1 : decode cX2_readCode 1 = .ok (.lconst 1, 1) := by decide +kernel
theorem dX2_readCode_2 : decode cX2_readCode 2 = .ok (.invokevirtual 46, 3) := by decide +kernel
theorem dX2_readCode_5 : decode cX2_readCode 5 = .ok (.ifCond .ne 5, 3) := by decide +kernel
theorem dX2_readCode_8 : decode cX2_readCode 8 = .ok (.iconst 0, 1) := by decide +kernel
theorem dX2_readCode_9 : decode cX2_readCode 9 = .ok (.ireturn, 1) := by decide +kernel
theorem dX2_readCode_10 : decode cX2_readCode 10 = .ok (.aload_n 0, 1) := by decide +kernel
theorem dX2_readCode_11 : decode cX2_readCode 11 = .ok (.getfield 9, 3) := by decide +kernel
theorem dX2_readCode_14 : decode cX2_readCode 14 = .ok (.aload_n 0, 1) := by decide +kernel
theorem dX2_readCode_15 : decode cX2_readCode 15 = .ok (.getfield 41, 3) := by decide +kernel
theorem dX2_readCode_18 : decode cX2_readCode 18 = .ok (.invokevirtual 99, 3) := by decide +kernel
theorem dX2_readCode_21 : decode cX2_readCode 21 = .ok (.istore_n 1, 1) := by decide +kernel
theorem dX2_readCode_22 : decode cX2_readCode 22 = .ok (.iload_n 1, 1) := by decide +kernel
theorem dX2_readCode_23 : decode cX2_readCode 23 = .ok (.iconst 4, 1) := by decide +kernel
theorem dX2_readCode_24 : decode cX2_readCode 24 = .ok (.ishr, 1) := by decide +kernel
theorem dX2_readCode_25 : decode cX2_readCode 25 = .ok (.istore_n 2, 1) := by decide +kernel
theorem dX2_readCode_26 : decode cX2_readCode 26 = .ok (.iload_n 1, 1) := by decide +kernel
theorem dX2_readCode_27 : decode cX2_readCode 27 = .ok (.sipush 143, 3) := by decide +kernel
theorem dX2_readCode_30 : decode cX2_readCode 30 = .ok (.iand, 1) := by decide +kernel
theorem dX2_readCode_31 : decode cX2_readCode 31 = .ok (.ifCond .ne 8, 3) := by decide +kernel
theorem dX2_readCode_34 : decode cX2_readCode 34 = .ok (.iload_n 2, 1) := by decide +kernel
theorem dX2_readCode_35 : decode cX2_readCode 35 = .ok (.iconst 4, 1) := by decide +kernel
theorem dX2_readCode_36 : decode cX2_readCode 36 = .ok (.if_icmp .ge 16, 3) := by decide +kernel
theorem dX2_readCode_39 : decode cX2_readCode 39 = .ok (.aload_n 0, 1) := by decide +kernel
theorem dX2_readCode_40 : decode cX2_readCode 40 = .ok (.getfield 18, 3) := by decide +kernel
theorem dX2_readCode_43 : decode cX2_readCode 43 = .ok (.iconst 3, 1) := by decide +kernel
theorem dX2_readCode_44 : decode cX2_readCode 44 = .ok (.aload_n 0, 1) := by decide +kernel
theorem dX2_readCode_45 : decode cX2_readCode 45 = .ok (.getfield 41, 3) := by decide +kernel
theorem dX2_readCode_48 : decode cX2_readCode 48 = .ok (.invokevirtual 67, 3) := by decide +kernel
theorem dX2_readCode_51 : decode cX2_readCode 51 = .ok (.ireturn, 1) := by decide +kernel
theorem dX2_readCode_52 : decode cX2_readCode 52 = .ok (.aload_n 0, 1) := by decide +kernel
theorem dX2_readCode_53 : decode cX2_readCode 53 = .ok (.iconst 1, 1) := by decide +kernel
theorem dX2_readCode_54 : decode cX2_readCode 54 = .ok (.bipush 8, 2) := by decide +kernel
theorem dX2_readCode_56 : decode cX2_readCode 56 = .ok (.iconst 2, 1) := by decide +kernel
theorem dX2_readCode_57 : decode cX2_readCode 57 = .ok (.iload_n 2, 1) := by decide +kernel
theorem dX2_readCode_58 : decode cX2_readCode 58 = .ok (.imul, 1) := by decide +kernel
theorem dX2_readCode_59 : decode cX2_readCode 59 = .ok (.iadd, 1) := by decide +kernel
theorem dX2_readCode_60 : decode cX2_readCode 60 = .ok (.ishl, 1) := by decide +kernel
theorem dX2_readCode_61 : decode cX2_readCode 61 = .ok (.putfield 108, 3) := by decide +kernel
theorem dX2_readCode_64 : decode cX2_readCode 64 = .ok (.aload_n 0, 1) := by decide +kernel
theorem dX2_readCode_65 : decode cX2_readCode 65 = .ok (.dup, 1) := by decide +kernel
theorem dX2_readCode_66 : decode cX2_readCode 66 = .ok (.getfield 41, 3) := by decide +kernel
theorem dX2_readCode_69 : decode cX2_readCode 69 = .ok (.iconst 1, 1) := by decide +kernel
theorem dX2_readCode_70 : decode cX2_readCode 70 = .ok (.iadd, 1) := by decide +kernel
theorem dX2_readCode_71 : decode cX2_readCode 71 = .ok (.putfield 41, 3) := by decide +kernel
theorem dX2_readCode_74 : decode cX2_readCode 74 = .ok (.iconst 1, 1) := by decide +kernel
theorem dX2_readCode_75 : decode cX2_readCode 75 = .ok (.ireturn, 1) := by decide +kernel
set_option maxRecDepth 20000 in
theorem ggX2_readSize_X2_isThere : GoodIn wsX2_readSize wsX2_isThere := goodIn_r _ [10, 3, 11, 4, 12, 13, 14, 15, 16, 17, 18, 19, 32, 33, 34, 35, 36, 37, 38, 39, 40, 41, 42, 43, 44, 45, 46, 47] (by decide +kernel) (by decide +kernel)
set_option maxRecDepth 20000 in
theorem gX2_readSize_X2_isThere : GoodIn wsX2_readSize (wsV RX2 46 RX2 yX2_isThere wsX2_isThere) := goodIn_app (goodIn_of _ (by decide +kernel)) ggX2_readSize_X2_isThere
set_option maxRecDepth 20000 in
theorem ggX2_readSize_X5_numberAt : GoodIn wsX2_readSize wsX5_numberAt := goodIn_r _ [24, 25, 26, 27, 28, 29, 23, 30, 31, 44, 45] (by decide +kernel) (by decide +kernel)
set_option maxRecDepth 20000 in
theorem gX2_readSize_X5_numberAt : GoodIn wsX2_readSize (wsV RX2 79 RX5 yX5_numberAt wsX5_numberAt) := goodIn_app (goodIn_of _ (by decide +kernel)) ggX2_readSize_X5_numberAt
theorem dX2_readSize_0 : decode cX2_readSize 0 = .ok (.aload_n 0, 1) := by decide +kernel
theorem dX2_readSize_1 : decode cX2_readSize 1 = .ok (.getfield 105, 3) := by decide +kernel
theorem dX2_readSize_4 : decode cX2_readSize 4 = .ok (.bipush 8, 2) := by decide +kernel
theorem dX2_readSize_6 : decode cX2_readSize 6 = .ok (.iand, 1) := by decide +kernel
theorem dX2_readSize_7 : decode cX2_readSize 7 = .ok (.ifCond .ne 5, 3) := by decide +kernel
theorem dX2_readSize_10 : decode cX2_readSize 10 = .ok (.iconst 1, 1) := by decide +kernel
theorem dX2_readSize_11 : decode cX2_readSize 11 = .ok (.ireturn, 1) := by decide +kernel
theorem dX2_readSize_12 : decode cX2_readSize 12 = .ok (.aload_n 0, 1) := by decide +kernel
theorem dX2_readSize_13 : decode cX2_readSize 13 = .ok (.ldc2_w 111, 3) := by decide +kernel
theorem dX2_readSize_16 : decode cX2_readSize 16 = .ok (.invokevirtual 46, 3) := by decide +kernel
theorem dX2_readSize_19 : decode cX2_readSize 19 = .ok (.ifCond .ne 5, 3) := by decide +kernel
theorem dX2_readSize_22 : decode cX2_readSize 22 = .ok (.iconst 0, 1) := by decide +kernel
theorem dX2_readSize_23 : decode cX2_readSize 23 = .ok (.ireturn, 1) := by decide +kernel
theorem dX2_readSize_24 : decode cX2_readSize 24 = .ok (.aload_n 0, 1) := by decide +kernel
theorem dX2_readSize_25 : decode cX2_readSize 25 = .ok (.aload_n 0, 1) := by decide +kernel
theorem dX2_readSize_26 : decode cX2_readSize 26 = .ok (.getfield 9, 3) := by decide +kernel
theorem dX2_readSize_29 : decode cX2_readSize 29 = .ok (.aload_n 0, 1) := by decide +kernel
theorem dX2_readSize_30 : decode cX2_readSize 30 = .ok (.getfield 41, 3) := by decide +kernel
theorem dX2_readSize_33 : decode cX2_readSize 33 = .ok (.bipush 8, 2) := by decide +kernel
theorem dX2_readSize_35 : decode cX2_readSize 35 = .ok (.invokevirtual 79, 3) := by decide +kernel
theorem dX2_readSize_38 : decode cX2_readSize 38 = .ok (.putfield 113, 3) := by decide +kernel
theorem dX2_readSize_41 : decode cX2_readSize 41 = .ok (.aload_n 0, 1) := by decide +kernel
theorem dX2_readSize_42 : decode cX2_readSize 42 = .ok (.dup, 1) := by decide +kernel
theorem dX2_readSize_43 : decode cX2_readSize 43 = .ok (.getfield 41, 3) := by decide +kernel
theorem dX2_readSize_46 : decode cX2_readSize 46 = .ok (.bipush 8, 2) := by decide +kernel
theorem dX2_readSize_48 : decode cX2_readSize 48 = .ok (.iadd, 1) := by decide +kernel
theorem dX2_readSize_49 : decode cX2_readSize 49 = .ok (.putfield 41, 3) := by decide +kernel
theorem dX2_readSize_52 : decode cX2_readSize 52 = .ok (.iconst 1, 1) := by decide +kernel
theorem dX2_readSize_53 : decode cX2_readSize 53 = .ok (.ireturn, 1) := by decide +kernel
set_option maxRecDepth 20000 in
theorem ggX2_readBlock_X1_refuse : GoodIn wsX2_readBlock wsX1_refuse := goodIn_r _ [17, 18, 19, 152, 153] (by decide +kernel) (by decide +kernel)
set_option maxRecDepth 20000 in
theorem gX2_readBlock_X1_refuse : GoodIn wsX2_readBlock (wsV RX2 67 RX1 yX1_refuse wsX1_refuse) := goodIn_app (goodIn_of _ (by decide +kernel)) ggX2_readBlock_X1_refuse
set_option maxRecDepth 20000 in
theorem ggX2_readBlock_X2_isThere : GoodIn wsX2_readBlock wsX2_isThere := goodIn_r _ [24, 7, 12, 1, 5, 13, 14, 15, 16, 17, 18, 19, 138, 139, 140, 141, 142, 143, 144, 145, 146, 147, 148, 149, 150, 151, 152, 153] (by decide +kernel) (by decide +kernel)
set_option maxRecDepth 20000 in
theorem gX2_readBlock_X2_isThere : GoodIn wsX2_readBlock (wsV RX2 46 RX2 yX2_isThere wsX2_isThere) := goodIn_app (goodIn_of _ (by decide +kernel)) ggX2_readBlock_X2_isThere
set_option maxRecDepth 20000 in
theorem ggX2_readBlock_X2_readCheck : GoodIn wsX2_readBlock wsX2_readCheck := goodIn_r _ [28, 29, 7, 1, 5, 20, 21, 22, 23, 24, 12, 13, 14, 15, 16, 17, 18, 19, 30, 31, 32, 33, 34, 35, 36, 37, 38, 39, 40, 41, 42, 43, 44, 45, 46, 47, 48, 49, 50, 51, 52, 53, 54, 55, 56, 57, 138, 139, 140, 141, 142, 143, 144, 145, 146, 147, 148, 149, 150, 151, 152, 153] (by decide +kernel) (by decide +kernel)
set_option maxRecDepth 20000 in
theorem gX2_readBlock_X2_readCheck : GoodIn wsX2_readBlock (wsV RX2 119 RX2 yX2_readCheck wsX2_readCheck) := goodIn_app (goodIn_of _ (by decide +kernel)) ggX2_readBlock_X2_readCheck
set_option maxRecDepth 20000 in
theorem ggX2_readBlock_X2_copyRaw : GoodIn wsX2_readBlock wsX2_copyRaw := goodIn_r _ [61, 11, 5, 7, 62, 63, 64, 33, 65, 36, 35, 13, 14, 15, 16, 17, 18, 19, 66, 67, 68, 69, 70, 71, 72, 73, 46, 47, 48, 49, 74, 138, 139, 140, 141, 142, 143, 144, 145, 146, 147, 148, 149, 150, 151, 152, 153] (by decide +kernel) (by decide +kernel)
set_option maxRecDepth 20000 in
theorem gX2_readBlock_X2_copyRaw : GoodIn wsX2_readBlock (wsV RX2 126 RX2 yX2_copyRaw wsX2_copyRaw) := goodIn_app (goodIn_of _ (by decide +kernel)) ggX2_readBlock_X2_copyRaw
set_option maxRecDepth 20000 in
theorem ggX2_readBlock_X0_readBytes : GoodIn wsX2_readBlock wsX0_readBytes := goodIn_r _ [79, 80, 81, 82, 83, 84, 85, 86, 87, 88, 89, 90, 91, 92, 93, 94, 95, 96, 97, 98, 33, 99, 35, 36, 100, 101, 102, 78, 103, 104, 105, 106, 107, 108, 109, 110, 111, 112, 113, 114, 14, 15, 16, 17, 18, 19, 115, 116, 117, 118, 119, 63, 64, 65, 120, 67, 68, 69, 70, 71, 72, 73, 46, 47, 48, 49, 74, 121, 122, 123, 124, 125, 126, 127, 128, 129, 130, 131, 132, 133, 134, 135, 136, 137, 154, 155, 156, 157, 158, 159, 160, 161, 162, 163, 164, 165, 166, 150, 151, 152, 153] (by decide +kernel) (by decide +kernel)
set_option maxRecDepth 20000 in
theorem gX2_readBlock_X0_readBytes : GoodIn wsX2_readBlock (wsV RX2 130 RX0 yX0_readBytes wsX0_readBytes) := goodIn_app (goodIn_of _ (by decide +kernel)) ggX2_readBlock_X0_readBytes
theorem dX2_readBlock_0 : decode cX2_readBlock 0 = .ok (.aload_n 0, 1) := by decide +kernel
theorem dX2_readBlock_1 : decode cX2_readBlock 1 = .ok (.getfield 41, 3) := by decide +kernel
theorem dX2_readBlock_4 : decode cX2_readBlock 4 = .ok (.istore_n 2, 1) := by decide +kernel
theorem dX2_readBlock_5 : decode cX2_readBlock 5 = .ok (.iload_n 1, 1) := by decide +kernel
theorem dX2_readBlock_6 : decode cX2_readBlock 6 = .ok (.ldc 117, 2) := by decide +kernel
theorem dX2_readBlock_8 : decode cX2_readBlock 8 = .ok (.iand, 1) := by decide +kernel
theorem dX2_readBlock_9 : decode cX2_readBlock 9 = .ok (.istore_n 3, 1) := by decide +kernel
theorem dX2_readBlock_10 : decode cX2_readBlock 10 = .ok (.iload_n 1, 1) := by decide +kernel
theorem dX2_readBlock_11 : decode cX2_readBlock 11 = .ok (.ldc 118, 2) := by decide +kernel
theorem dX2_readBlock_13 : decode cX2_readBlock 13 = .ok (.iand, 1) := by decide +kernel
theorem dX2_readBlock_14 : decode cX2_readBlock 14 = .ok (.ifCond .eq 7, 3) := by decide +kernel
theorem dX2_readBlock_17 : decode cX2_readBlock 17 = .ok (.iconst 1, 1) := by decide +kernel
theorem dX2_readBlock_18 : decode cX2_readBlock 18 = .ok (.goto 4, 3) := by decide +kernel
theorem dX2_readBlock_21 : decode cX2_readBlock 21 = .ok (.iconst 0, 1) := by decide +kernel
theorem dX2_readBlock_22 : decode cX2_readBlock 22 = .ok (.istore 4, 2) := by decide +kernel
theorem dX2_readBlock_24 : decode cX2_readBlock 24 = .ok (.iload_n 3, 1) := by decide +kernel
theorem dX2_readBlock_25 : decode cX2_readBlock 25 = .ok (.aload_n 0, 1) := by decide +kernel
theorem dX2_readBlock_26 : decode cX2_readBlock 26 = .ok (.getfield 108, 3) := by decide +kernel
theorem dX2_readBlock_29 : decode cX2_readBlock 29 = .ok (.if_icmp .le 16, 3) := by decide +kernel
theorem dX2_readBlock_32 : decode cX2_readBlock 32 = .ok (.aload_n 0, 1) := by decide +kernel
theorem dX2_readBlock_33 : decode cX2_readBlock 33 = .ok (.getfield 18, 3) := by decide +kernel
theorem dX2_readBlock_36 : decode cX2_readBlock 36 = .ok (.iconst 5, 1) := by decide +kernel
theorem dX2_readBlock_37 : decode cX2_readBlock 37 = .ok (.aload_n 0, 1) := by decide +kernel
theorem dX2_readBlock_38 : decode cX2_readBlock 38 = .ok (.getfield 41, 3) := by decide +kernel
theorem dX2_readBlock_41 : decode cX2_readBlock 41 = .ok (.invokevirtual 67, 3) := by decide +kernel
theorem dX2_readBlock_44 : decode cX2_readBlock 44 = .ok (.ireturn, 1) := by decide +kernel
theorem dX2_readBlock_45 : decode cX2_readBlock 45 = .ok (.aload_n 0, 1) := by decide +kernel
theorem dX2_readBlock_46 : decode cX2_readBlock 46 = .ok (.dup, 1) := by decide +kernel
theorem dX2_readBlock_47 : decode cX2_readBlock 47 = .ok (.getfield 41, 3) := by decide +kernel
theorem dX2_readBlock_50 : decode cX2_readBlock 50 = .ok (.iconst 4, 1) := by decide +kernel
theorem dX2_readBlock_51 : decode cX2_readBlock 51 = .ok (.iadd, 1) := by decide +kernel
theorem dX2_readBlock_52 : decode cX2_readBlock 52 = .ok (.putfield 41, 3) := by decide +kernel
theorem dX2_readBlock_55 : decode cX2_readBlock 55 = .ok (.aload_n 0, 1) := by decide +kernel
theorem dX2_readBlock_56 : decode cX2_readBlock 56 = .ok (.iload_n 3, 1) := by decide +kernel
theorem dX2_readBlock_57 : decode cX2_readBlock 57 = .ok (.i2l, 1) := by decide +kernel
theorem dX2_readBlock_58 : decode cX2_readBlock 58 = .ok (.invokevirtual 46, 3) := by decide +kernel
theorem dX2_readBlock_61 : decode cX2_readBlock 61 = .ok (.ifCond .ne 5, 3) := by decide +kernel
theorem dX2_readBlock_64 : decode cX2_readBlock 64 = .ok (.iconst 0, 1) := by decide +kernel
theorem dX2_readBlock_65 : decode cX2_readBlock 65 = .ok (.ireturn, 1) := by decide +kernel
theorem dX2_readBlock_66 : decode cX2_readBlock 66 = .ok (.aload_n 0, 1) := by decide +kernel
theorem dX2_readBlock_67 : decode cX2_readBlock 67 = .ok (.getfield 41, 3) := by decide +kernel
theorem dX2_readBlock_70 : decode cX2_readBlock 70 = .ok (.istore 5, 2) := by decide +kernel
theorem dX2_readBlock_72 : decode cX2_readBlock 72 = .ok (.aload_n 0, 1) := by decide +kernel
theorem dX2_readBlock_73 : decode cX2_readBlock 73 = .ok (.dup, 1) := by decide +kernel
theorem dX2_readBlock_74 : decode cX2_readBlock 74 = .ok (.getfield 41, 3) := by decide +kernel
theorem dX2_readBlock_77 : decode cX2_readBlock 77 = .ok (.iload_n 3, 1) := by decide +kernel
theorem dX2_readBlock_78 : decode cX2_readBlock 78 = .ok (.iadd, 1) := by decide +kernel
theorem dX2_readBlock_79 : decode cX2_readBlock 79 = .ok (.putfield 41, 3) := by decide +kernel
theorem dX2_readBlock_82 : decode cX2_readBlock 82 = .ok (.aload_n 0, 1) := by decide +kernel
theorem dX2_readBlock_83 : decode cX2_readBlock 83 = .ok (.getfield 105, 3) := by decide +kernel
theorem dX2_readBlock_86 : decode cX2_readBlock 86 = .ok (.bipush 16, 2) := by decide +kernel
theorem dX2_readBlock_88 : decode cX2_readBlock 88 = .ok (.iand, 1) := by decide +kernel
theorem dX2_readBlock_89 : decode cX2_readBlock 89 = .ok (.ifCond .eq 21, 3) := by decide +kernel
theorem dX2_readBlock_92 : decode cX2_readBlock 92 = .ok (.aload_n 0, 1) := by decide +kernel
theorem dX2_readBlock_93 : decode cX2_readBlock 93 = .ok (.aload_n 0, 1) := by decide +kernel
theorem dX2_readBlock_94 : decode cX2_readBlock 94 = .ok (.getfield 9, 3) := by decide +kernel
theorem dX2_readBlock_97 : decode cX2_readBlock 97 = .ok (.iload 5, 2) := by decide +kernel
theorem dX2_readBlock_99 : decode cX2_readBlock 99 = .ok (.iload_n 3, 1) := by decide +kernel
theorem dX2_readBlock_100 : decode cX2_readBlock 100 = .ok (.bipush 6, 2) := by decide +kernel
theorem dX2_readBlock_102 : decode cX2_readBlock 102 = .ok (.invokevirtual 119, 3) := by decide +kernel
theorem dX2_readBlock_105 : decode cX2_readBlock 105 = .ok (.ifCond .ne 5, 3) := by decide +kernel
theorem dX2_readBlock_108 : decode cX2_readBlock 108 = .ok (.iconst 0, 1) := by decide +kernel
theorem dX2_readBlock_109 : decode cX2_readBlock 109 = .ok (.ireturn, 1) := by decide +kernel
theorem dX2_readBlock_110 : decode cX2_readBlock 110 = .ok (.aload_n 0, 1) := by decide +kernel
theorem dX2_readBlock_111 : decode cX2_readBlock 111 = .ok (.dup, 1) := by decide +kernel
theorem dX2_readBlock_112 : decode cX2_readBlock 112 = .ok (.getfield 123, 3) := by decide +kernel
theorem dX2_readBlock_115 : decode cX2_readBlock 115 = .ok (.iconst 1, 1) := by decide +kernel
theorem dX2_readBlock_116 : decode cX2_readBlock 116 = .ok (.iadd, 1) := by decide +kernel
theorem dX2_readBlock_117 : decode cX2_readBlock 117 = .ok (.putfield 123, 3) := by decide +kernel
theorem dX2_readBlock_120 : decode cX2_readBlock 120 = .ok (.iload 4, 2) := by decide +kernel
theorem dX2_readBlock_122 : decode cX2_readBlock 122 = .ok (.ifCond .eq 12, 3) := by decide +kernel
theorem dX2_readBlock_125 : decode cX2_readBlock 125 = .ok (.aload_n 0, 1) := by decide +kernel
theorem dX2_readBlock_126 : decode cX2_readBlock 126 = .ok (.iload_n 2, 1) := by decide +kernel
theorem dX2_readBlock_127 : decode cX2_readBlock 127 = .ok (.iload 5, 2) := by decide +kernel
theorem dX2_readBlock_129 : decode cX2_readBlock 129 = .ok (.iload_n 3, 1) := by decide +kernel
theorem dX2_readBlock_130 : decode cX2_readBlock 130 = .ok (.invokevirtual 126, 3) := by decide +kernel
theorem dX2_readBlock_133 : decode cX2_readBlock 133 = .ok (.ireturn, 1) := by decide +kernel
theorem dX2_readBlock_134 : decode cX2_readBlock 134 = .ok (.aload_n 0, 1) := by decide +kernel
theorem dX2_readBlock_135 : decode cX2_readBlock 135 = .ok (.getfield 105, 3) := by decide +kernel
theorem dX2_readBlock_138 : decode cX2_readBlock 138 = .ok (.bipush 32, 2) := by decide +kernel
theorem dX2_readBlock_140 : decode cX2_readBlock 140 = .ok (.iand, 1) := by decide +kernel
theorem dX2_readBlock_141 : decode cX2_readBlock 141 = .ok (.ifCond .ne 7, 3) := by decide +kernel
theorem dX2_readBlock_144 : decode cX2_readBlock 144 = .ok (.iconst 1, 1) := by decide +kernel
theorem dX2_readBlock_145 : decode cX2_readBlock 145 = .ok (.goto 4, 3) := by decide +kernel
theorem dX2_readBlock_148 : decode cX2_readBlock 148 = .ok (.iconst 0, 1) := by decide +kernel
theorem dX2_readBlock_149 : decode cX2_readBlock 149 = .ok (.istore 6, 2) := by decide +kernel
theorem dX2_readBlock_151 : decode cX2_readBlock 151 = .ok (.aload_n 0, 1) := by decide +kernel
theorem dX2_readBlock_152 : decode cX2_readBlock 152 = .ok (.getfield 27, 3) := by decide +kernel
theorem dX2_readBlock_155 : decode cX2_readBlock 155 = .ok (.iload_n 2, 1) := by decide +kernel
theorem dX2_readBlock_156 : decode cX2_readBlock 156 = .ok (.iload 5, 2) := by decide +kernel
theorem dX2_readBlock_158 : decode cX2_readBlock 158 = .ok (.iload_n 3, 1) := by decide +kernel
theorem dX2_readBlock_159 : decode cX2_readBlock 159 = .ok (.iadd, 1) := by decide +kernel
theorem dX2_readBlock_160 : decode cX2_readBlock 160 = .ok (.aload_n 0, 1) := by decide +kernel
theorem dX2_readBlock_161 : decode cX2_readBlock 161 = .ok (.getfield 108, 3) := by decide +kernel
theorem dX2_readBlock_164 : decode cX2_readBlock 164 = .ok (.iload 6, 2) := by decide +kernel
theorem dX2_readBlock_166 : decode cX2_readBlock 166 = .ok (.ifCond .eq 10, 3) := by decide +kernel
theorem dX2_readBlock_169 : decode cX2_readBlock 169 = .ok (.aload_n 0, 1) := by decide +kernel
theorem dX2_readBlock_170 : decode cX2_readBlock 170 = .ok (.getfield 102, 3) := by decide +kernel
theorem dX2_readBlock_173 : decode cX2_readBlock 173 = .ok (.goto 10, 3) := by decide +kernel
theorem dX2_readBlock_176 : decode cX2_readBlock 176 = .ok (.aload_n 0, 1) := by decide +kernel
theorem dX2_readBlock_177 : decode cX2_readBlock 177 = .ok (.getfield 15, 3) := by decide +kernel
theorem dX2_readBlock_180 : decode cX2_readBlock 180 = .ok (.getfield 31, 3) := by decide +kernel
theorem dX2_readBlock_183 : decode cX2_readBlock 183 = .ok (.invokevirtual 130, 3) := by decide +kernel
theorem dX2_readBlock_186 : decode cX2_readBlock 186 = .ok (.ireturn, 1) := by decide +kernel
set_option maxRecDepth 20000 in
theorem ggX2_copyRaw_X5_room : GoodIn wsX2_copyRaw wsX5_room := goodIn_r _ [8, 9, 10, 43, 44] (by decide +kernel) (by decide +kernel)
set_option maxRecDepth 20000 in
theorem gX2_copyRaw_X5_room : GoodIn wsX2_copyRaw (wsV RX2 134 RX5 yX5_room wsX5_room) := goodIn_app (goodIn_of _ (by decide +kernel)) ggX2_copyRaw_X5_room
set_option maxRecDepth 20000 in
theorem ggX2_copyRaw_X1_refuse : GoodIn wsX2_copyRaw wsX1_refuse := goodIn_r _ [15, 16, 17, 45, 46] (by decide +kernel) (by decide +kernel)
set_option maxRecDepth 20000 in
theorem gX2_copyRaw_X1_refuse : GoodIn wsX2_copyRaw (wsV RX2 67 RX1 yX1_refuse wsX1_refuse) := goodIn_app (goodIn_of _ (by decide +kernel)) ggX2_copyRaw_X1_refuse
set_option maxRecDepth 20000 in
theorem ggX2_copyRaw_X5_addPiece : GoodIn wsX2_copyRaw wsX5_addPiece := goodIn_r _ [21, 9, 10, 22, 23, 24, 25, 26, 27, 28, 7, 29, 30, 5, 6, 8, 43, 44] (by decide +kernel) (by decide +kernel)
set_option maxRecDepth 20000 in
theorem gX2_copyRaw_X5_addPiece : GoodIn wsX2_copyRaw (wsV RX2 138 RX5 yX5_addPiece wsX5_addPiece) := goodIn_app (goodIn_of _ (by decide +kernel)) ggX2_copyRaw_X5_addPiece
theorem dX2_copyRaw_0 : decode cX2_copyRaw 0 = .ok (.iload_n 3, 1) := by decide +kernel
theorem dX2_copyRaw_1 : decode cX2_copyRaw 1 = .ok (.aload_n 0, 1) := by decide +kernel
theorem dX2_copyRaw_2 : decode cX2_copyRaw 2 = .ok (.getfield 15, 3) := by decide +kernel
theorem dX2_copyRaw_5 : decode cX2_copyRaw 5 = .ok (.invokevirtual 134, 3) := by decide +kernel
theorem dX2_copyRaw_8 : decode cX2_copyRaw 8 = .ok (.if_icmp .le 14, 3) := by decide +kernel
theorem dX2_copyRaw_11 : decode cX2_copyRaw 11 = .ok (.aload_n 0, 1) := by decide +kernel
theorem dX2_copyRaw_12 : decode cX2_copyRaw 12 = .ok (.getfield 18, 3) := by decide +kernel
theorem dX2_copyRaw_15 : decode cX2_copyRaw 15 = .ok (.bipush 8, 2) := by decide +kernel
theorem dX2_copyRaw_17 : decode cX2_copyRaw 17 = .ok (.iload_n 1, 1) := by decide +kernel
theorem dX2_copyRaw_18 : decode cX2_copyRaw 18 = .ok (.invokevirtual 67, 3) := by decide +kernel
theorem dX2_copyRaw_21 : decode cX2_copyRaw 21 = .ok (.ireturn, 1) := by decide +kernel
theorem dX2_copyRaw_22 : decode cX2_copyRaw 22 = .ok (.aload_n 0, 1) := by decide +kernel
theorem dX2_copyRaw_23 : decode cX2_copyRaw 23 = .ok (.getfield 15, 3) := by decide +kernel
theorem dX2_copyRaw_26 : decode cX2_copyRaw 26 = .ok (.aload_n 0, 1) := by decide +kernel
theorem dX2_copyRaw_27 : decode cX2_copyRaw 27 = .ok (.getfield 9, 3) := by decide +kernel
theorem dX2_copyRaw_30 : decode cX2_copyRaw 30 = .ok (.iload_n 2, 1) := by decide +kernel
theorem dX2_copyRaw_31 : decode cX2_copyRaw 31 = .ok (.iload_n 3, 1) := by decide +kernel
theorem dX2_copyRaw_32 : decode cX2_copyRaw 32 = .ok (.invokevirtual 138, 3) := by decide +kernel
theorem dX2_copyRaw_35 : decode cX2_copyRaw 35 = .ok (.iconst 1, 1) := by decide +kernel
theorem dX2_copyRaw_36 : decode cX2_copyRaw 36 = .ok (.ireturn, 1) := by decide +kernel
set_option maxRecDepth 20000 in
theorem ggX2_readEnd_X1_refuse : GoodIn wsX2_readEnd wsX1_refuse := goodIn_r _ [14, 15, 16, 70, 71] (by decide +kernel) (by decide +kernel)
set_option maxRecDepth 20000 in
theorem gX2_readEnd_X1_refuse : GoodIn wsX2_readEnd (wsV RX2 67 RX1 yX1_refuse wsX1_refuse) := goodIn_app (goodIn_of _ (by decide +kernel)) ggX2_readEnd_X1_refuse
set_option maxRecDepth 20000 in
theorem ggX2_readEnd_X2_readCheck : GoodIn wsX2_readEnd wsX2_readCheck := goodIn_r _ [21, 22, 23, 7, 6, 24, 25, 26, 20, 27, 2, 10, 11, 12, 13, 14, 15, 16, 28, 29, 30, 31, 32, 33, 34, 35, 36, 37, 38, 39, 40, 41, 42, 43, 44, 45, 46, 47, 48, 49, 50, 51, 52, 53, 54, 55, 56, 57, 58, 59, 60, 61, 62, 63, 64, 65, 66, 67, 68, 69, 70, 71] (by decide +kernel) (by decide +kernel)
set_option maxRecDepth 20000 in
theorem gX2_readEnd_X2_readCheck : GoodIn wsX2_readEnd (wsV RX2 119 RX2 yX2_readCheck wsX2_readCheck) := goodIn_app (goodIn_of _ (by decide +kernel)) ggX2_readEnd_X2_readCheck
theorem dX2_readEnd_0 : decode cX2_readEnd 0 = .ok (.aload_n 0, 1) := by decide +kernel
theorem dX2_readEnd_1 : decode cX2_readEnd 1 = .ok (.getfield 15, 3) := by decide +kernel
theorem dX2_readEnd_4 : decode cX2_readEnd 4 = .ok (.getfield 31, 3) := by decide +kernel
theorem dX2_readEnd_7 : decode cX2_readEnd 7 = .ok (.aload_n 0, 1) := by decide +kernel
theorem dX2_readEnd_8 : decode cX2_readEnd 8 = .ok (.getfield 102, 3) := by decide +kernel
theorem dX2_readEnd_11 : decode cX2_readEnd 11 = .ok (.isub, 1) := by decide +kernel
theorem dX2_readEnd_12 : decode cX2_readEnd 12 = .ok (.istore_n 1, 1) := by decide +kernel
theorem dX2_readEnd_13 : decode cX2_readEnd 13 = .ok (.aload_n 0, 1) := by decide +kernel
theorem dX2_readEnd_14 : decode cX2_readEnd 14 = .ok (.getfield 105, 3) := by decide +kernel
theorem dX2_readEnd_17 : decode cX2_readEnd 17 = .ok (.bipush 8, 2) := by decide +kernel
theorem dX2_readEnd_19 : decode cX2_readEnd 19 = .ok (.iand, 1) := by decide +kernel
theorem dX2_readEnd_20 : decode cX2_readEnd 20 = .ok (.ifCond .eq 27, 3) := by decide +kernel
theorem dX2_readEnd_23 : decode cX2_readEnd 23 = .ok (.aload_n 0, 1) := by decide +kernel
theorem dX2_readEnd_24 : decode cX2_readEnd 24 = .ok (.getfield 113, 3) := by decide +kernel
theorem dX2_readEnd_27 : decode cX2_readEnd 27 = .ok (.iload_n 1, 1) := by decide +kernel
theorem dX2_readEnd_28 : decode cX2_readEnd 28 = .ok (.i2l, 1) := by decide +kernel
theorem dX2_readEnd_29 : decode cX2_readEnd 29 = .ok (.lcmp, 1) := by decide +kernel
theorem dX2_readEnd_30 : decode cX2_readEnd 30 = .ok (.ifCond .eq 17, 3) := by decide +kernel
theorem dX2_readEnd_33 : decode cX2_readEnd 33 = .ok (.aload_n 0, 1) := by decide +kernel
theorem dX2_readEnd_34 : decode cX2_readEnd 34 = .ok (.getfield 18, 3) := by decide +kernel
theorem dX2_readEnd_37 : decode cX2_readEnd 37 = .ok (.bipush 10, 2) := by decide +kernel
theorem dX2_readEnd_39 : decode cX2_readEnd 39 = .ok (.aload_n 0, 1) := by decide +kernel
theorem dX2_readEnd_40 : decode cX2_readEnd 40 = .ok (.getfield 41, 3) := by decide +kernel
theorem dX2_readEnd_43 : decode cX2_readEnd 43 = .ok (.invokevirtual 67, 3) := by decide +kernel
theorem dX2_readEnd_46 : decode cX2_readEnd 46 = .ok (.ireturn, 1) := by decide +kernel
theorem dX2_readEnd_47 : decode cX2_readEnd 47 = .ok (.aload_n 0, 1) := by decide +kernel
theorem dX2_readEnd_48 : decode cX2_readEnd 48 = .ok (.dup, 1) := by decide +kernel
theorem dX2_readEnd_49 : decode cX2_readEnd 49 = .ok (.getfield 41, 3) := by decide +kernel
theorem dX2_readEnd_52 : decode cX2_readEnd 52 = .ok (.iconst 4, 1) := by decide +kernel
theorem dX2_readEnd_53 : decode cX2_readEnd 53 = .ok (.iadd, 1) := by decide +kernel
theorem dX2_readEnd_54 : decode cX2_readEnd 54 = .ok (.putfield 41, 3) := by decide +kernel
theorem dX2_readEnd_57 : decode cX2_readEnd 57 = .ok (.aload_n 0, 1) := by decide +kernel
theorem dX2_readEnd_58 : decode cX2_readEnd 58 = .ok (.getfield 105, 3) := by decide +kernel
theorem dX2_readEnd_61 : decode cX2_readEnd 61 = .ok (.iconst 4, 1) := by decide +kernel
theorem dX2_readEnd_62 : decode cX2_readEnd 62 = .ok (.iand, 1) := by decide +kernel
theorem dX2_readEnd_63 : decode cX2_readEnd 63 = .ok (.ifCond .eq 23, 3) := by decide +kernel
theorem dX2_readEnd_66 : decode cX2_readEnd 66 = .ok (.aload_n 0, 1) := by decide +kernel
theorem dX2_readEnd_67 : decode cX2_readEnd 67 = .ok (.aload_n 0, 1) := by decide +kernel
theorem dX2_readEnd_68 : decode cX2_readEnd 68 = .ok (.getfield 15, 3) := by decide +kernel
theorem dX2_readEnd_71 : decode cX2_readEnd 71 = .ok (.aload_n 0, 1) := by decide +kernel
theorem dX2_readEnd_72 : decode cX2_readEnd 72 = .ok (.getfield 102, 3) := by decide +kernel
theorem dX2_readEnd_75 : decode cX2_readEnd 75 = .ok (.iload_n 1, 1) := by decide +kernel
theorem dX2_readEnd_76 : decode cX2_readEnd 76 = .ok (.bipush 11, 2) := by decide +kernel
theorem dX2_readEnd_78 : decode cX2_readEnd 78 = .ok (.invokevirtual 119, 3) := by decide +kernel
theorem dX2_readEnd_81 : decode cX2_readEnd 81 = .ok (.ifCond .ne 5, 3) := by decide +kernel
theorem dX2_readEnd_84 : decode cX2_readEnd 84 = .ok (.iconst 0, 1) := by decide +kernel
theorem dX2_readEnd_85 : decode cX2_readEnd 85 = .ok (.ireturn, 1) := by decide +kernel
theorem dX2_readEnd_86 : decode cX2_readEnd 86 = .ok (.aload_n 0, 1) := by decide +kernel
theorem dX2_readEnd_87 : decode cX2_readEnd 87 = .ok (.iconst 0, 1) := by decide +kernel
theorem dX2_readEnd_88 : decode cX2_readEnd 88 = .ok (.putfield 37, 3) := by decide +kernel
theorem dX2_readEnd_91 : decode cX2_readEnd 91 = .ok (.aload_n 0, 1) := by decide +kernel
theorem dX2_readEnd_92 : decode cX2_readEnd 92 = .ok (.dup, 1) := by decide +kernel
theorem dX2_readEnd_93 : decode cX2_readEnd 93 = .ok (.getfield 83, 3) := by decide +kernel
theorem dX2_readEnd_96 : decode cX2_readEnd 96 = .ok (.iconst 1, 1) := by decide +kernel
theorem dX2_readEnd_97 : decode cX2_readEnd 97 = .ok (.iadd, 1) := by decide +kernel
theorem dX2_readEnd_98 : decode cX2_readEnd 98 = .ok (.putfield 83, 3) := by decide +kernel
theorem dX2_readEnd_101 : decode cX2_readEnd 101 = .ok (.iconst 1, 1) := by decide +kernel
theorem dX2_readEnd_102 : decode cX2_readEnd 102 = .ok (.ireturn, 1) := by decide +kernel
set_option maxRecDepth 20000 in
theorem ggX2_readCheck_X2_isThere : GoodIn wsX2_readCheck wsX2_isThere := goodIn_r _ [9, 2, 10, 3, 4, 11, 12, 13, 14, 15, 16, 17, 46, 47, 48, 49, 50, 51, 52, 53, 54, 55, 56, 57, 58, 59, 60, 61] (by decide +kernel) (by decide +kernel)
set_option maxRecDepth 20000 in
theorem gX2_readCheck_X2_isThere : GoodIn wsX2_readCheck (wsV RX2 46 RX2 yX2_isThere wsX2_isThere) := goodIn_app (goodIn_of _ (by decide +kernel)) ggX2_readCheck_X2_isThere
set_option maxRecDepth 20000 in
theorem ggX2_readCheck_X5_word : GoodIn wsX2_readCheck wsX5_word := goodIn_r _ [22, 23, 24, 58, 59] (by decide +kernel) (by decide +kernel)
set_option maxRecDepth 20000 in
theorem gX2_readCheck_X5_word : GoodIn wsX2_readCheck (wsV RX2 50 RX5 yX5_word wsX5_word) := goodIn_app (goodIn_of _ (by decide +kernel)) ggX2_readCheck_X5_word
set_option maxRecDepth 20000 in
theorem ggX2_readCheck_X5_hashOf : GoodIn wsX2_readCheck wsX5_hashOf := goodIn_r _ [28, 29, 30, 31, 24, 32, 33, 34, 35, 36, 21, 37, 23, 38, 39, 40, 41, 42, 19, 20, 22, 43, 44, 45, 58, 59] (by decide +kernel) (by decide +kernel)
set_option maxRecDepth 20000 in
theorem gX2_readCheck_X5_hashOf : GoodIn wsX2_readCheck (wsV RX2 95 RX5 yX5_hashOf wsX5_hashOf) := goodIn_app (goodIn_of _ (by decide +kernel)) ggX2_readCheck_X5_hashOf
set_option maxRecDepth 20000 in
theorem ggX2_readCheck_X1_refuse : GoodIn wsX2_readCheck wsX1_refuse := goodIn_r _ [15, 16, 17, 60, 61] (by decide +kernel) (by decide +kernel)
set_option maxRecDepth 20000 in
theorem gX2_readCheck_X1_refuse : GoodIn wsX2_readCheck (wsV RX2 67 RX1 yX1_refuse wsX1_refuse) := goodIn_app (goodIn_of _ (by decide +kernel)) ggX2_readCheck_X1_refuse
theorem dX2_readCheck_0 : decode cX2_readCheck 0 = .ok (.aload_n 0, 1) := by decide +kernel
theorem dX2_readCheck_1 : decode cX2_readCheck 1 = .ok (.ldc2_w 44, 3) := by decide +kernel
theorem dX2_readCheck_4 : decode cX2_readCheck 4 = .ok (.invokevirtual 46, 3) := by decide +kernel
theorem dX2_readCheck_7 : decode cX2_readCheck 7 = .ok (.ifCond .ne 5, 3) := by decide +kernel
theorem dX2_readCheck_10 : decode cX2_readCheck 10 = .ok (.iconst 0, 1) := by decide +kernel
theorem dX2_readCheck_11 : decode cX2_readCheck 11 = .ok (.ireturn, 1) := by decide +kernel
theorem dX2_readCheck_12 : decode cX2_readCheck 12 = .ok (.aload_n 0, 1) := by decide +kernel
theorem dX2_readCheck_13 : decode cX2_readCheck 13 = .ok (.getfield 9, 3) := by decide +kernel
theorem dX2_readCheck_16 : decode cX2_readCheck 16 = .ok (.aload_n 0, 1) := by decide +kernel
theorem dX2_readCheck_17 : decode cX2_readCheck 17 = .ok (.getfield 41, 3) := by decide +kernel
theorem dX2_readCheck_20 : decode cX2_readCheck 20 = .ok (.invokevirtual 50, 3) := by decide +kernel
theorem dX2_readCheck_23 : decode cX2_readCheck 23 = .ok (.aload_n 1, 1) := by decide +kernel
theorem dX2_readCheck_24 : decode cX2_readCheck 24 = .ok (.iload_n 2, 1) := by decide +kernel
theorem dX2_readCheck_25 : decode cX2_readCheck 25 = .ok (.iload_n 3, 1) := by decide +kernel
theorem dX2_readCheck_26 : decode cX2_readCheck 26 = .ok (.iconst 0, 1) := by decide +kernel
theorem dX2_readCheck_27 : decode cX2_readCheck 27 = .ok (.invokevirtual 95, 3) := by decide +kernel
theorem dX2_readCheck_30 : decode cX2_readCheck 30 = .ok (.if_icmp .eq 17, 3) := by decide +kernel
theorem dX2_readCheck_33 : decode cX2_readCheck 33 = .ok (.aload_n 0, 1) := by decide +kernel
theorem dX2_readCheck_34 : decode cX2_readCheck 34 = .ok (.getfield 18, 3) := by decide +kernel
theorem dX2_readCheck_37 : decode cX2_readCheck 37 = .ok (.iload 4, 2) := by decide +kernel
theorem dX2_readCheck_39 : decode cX2_readCheck 39 = .ok (.aload_n 0, 1) := by decide +kernel
theorem dX2_readCheck_40 : decode cX2_readCheck 40 = .ok (.getfield 41, 3) := by decide +kernel
theorem dX2_readCheck_43 : decode cX2_readCheck 43 = .ok (.invokevirtual 67, 3) := by decide +kernel
theorem dX2_readCheck_46 : decode cX2_readCheck 46 = .ok (.ireturn, 1) := by decide +kernel
theorem dX2_readCheck_47 : decode cX2_readCheck 47 = .ok (.aload_n 0, 1) := by decide +kernel
theorem dX2_readCheck_48 : decode cX2_readCheck 48 = .ok (.dup, 1) := by decide +kernel
theorem dX2_readCheck_49 : decode cX2_readCheck 49 = .ok (.getfield 41, 3) := by decide +kernel
theorem dX2_readCheck_52 : decode cX2_readCheck 52 = .ok (.iconst 4, 1) := by decide +kernel
theorem dX2_readCheck_53 : decode cX2_readCheck 53 = .ok (.iadd, 1) := by decide +kernel
theorem dX2_readCheck_54 : decode cX2_readCheck 54 = .ok (.putfield 41, 3) := by decide +kernel
theorem dX2_readCheck_57 : decode cX2_readCheck 57 = .ok (.iconst 1, 1) := by decide +kernel
theorem dX2_readCheck_58 : decode cX2_readCheck 58 = .ok (.ireturn, 1) := by decide +kernel
theorem dX4_init_0 : decode cX4_init 0 = .ok (.aload_n 0, 1) := by decide +kernel
theorem dX4_init_1 : decode cX4_init 1 = .ok (.invokespecial 3, 3) := by decide +kernel
theorem dX4_init_4 : decode cX4_init 4 = .ok (.aload_n 0, 1) := by decide +kernel
theorem dX4_init_5 : decode cX4_init 5 = .ok (.sipush 4096, 3) := by decide +kernel
theorem dX4_init_8 : decode cX4_init 8 = .ok (.newarray .int, 2) := by decide +kernel
theorem dX4_init_10 : decode cX4_init 10 = .ok (.putfield 11, 3) := by decide +kernel
theorem dX4_init_13 : decode cX4_init 13 = .ok (.aload_n 0, 1) := by decide +kernel
theorem dX4_init_14 : decode cX4_init 14 = .ok (.aload_n 1, 1) := by decide +kernel
theorem dX4_init_15 : decode cX4_init 15 = .ok (.putfield 15, 3) := by decide +kernel
theorem dX4_init_18 : decode cX4_init 18 = .ok (.aload_n 0, 1) := by decide +kernel
theorem dX4_init_19 : decode cX4_init 19 = .ok (.aload_n 2, 1) := by decide +kernel
theorem dX4_init_20 : decode cX4_init 20 = .ok (.putfield 19, 3) := by decide +kernel
theorem dX4_init_23 : decode cX4_init 23 = .ok (.aload_n 0, 1) := by decide +kernel
theorem dX4_init_24 : decode cX4_init 24 = .ok (.aload_n 3, 1) := by decide +kernel
theorem dX4_init_25 : decode cX4_init 25 = .ok (.putfield 22, 3) := by decide +kernel
theorem dX4_init_28 : decode cX4_init 28 = .ok (.aload_n 0, 1) := by decide +kernel
theorem dX4_init_29 : decode cX4_init 29 = .ok (.aload 4, 2) := by decide +kernel
theorem dX4_init_31 : decode cX4_init 31 = .ok (.putfield 26, 3) := by decide +kernel
theorem dX4_init_34 : decode cX4_init 34 = .ok (.return_, 1) := by decide +kernel
set_option maxRecDepth 20000 in
theorem ggX4_packAll_X3_flags : GoodIn wsX4_packAll wsX3_flags := goodIn_r _ [8, 9, 195] (by decide +kernel) (by decide +kernel)
set_option maxRecDepth 20000 in
theorem gX4_packAll_X3_flags : GoodIn wsX4_packAll (wsV RX4 30 RX3 yX3_flags wsX3_flags) := goodIn_app (goodIn_of _ (by decide +kernel)) ggX4_packAll_X3_flags
set_option maxRecDepth 20000 in
theorem ggX4_packAll_X4_headSize : GoodIn wsX4_packAll wsX4_headSize := goodIn_r _ [13] (by decide +kernel) (by decide +kernel)
set_option maxRecDepth 20000 in
theorem gX4_packAll_X4_headSize : GoodIn wsX4_packAll (va_wsS RX4 36 yX4_headSize wsX4_headSize) := goodIn_app (goodIn_of _ (by decide +kernel)) ggX4_packAll_X4_headSize
set_option maxRecDepth 20000 in
theorem ggX4_packAll_X4_findAll : GoodIn wsX4_packAll wsX4_findAll := goodIn_r _ [17, 1, 18, 19, 20, 21, 22, 23, 24, 25, 26, 3, 27, 28, 29, 30, 31, 32, 33, 7, 34, 9, 35, 36, 37, 38, 39, 40, 41, 42, 43, 44, 45, 46, 47, 48, 49, 50, 51, 52, 53, 54, 12, 55, 56, 57, 58, 59, 60, 61, 62, 63, 64, 65, 66, 67, 68, 69, 70, 71, 72, 73, 74, 75, 76, 77, 78, 79, 80, 81, 82, 83, 84, 85, 86, 87, 88, 89, 90, 91, 92, 93, 94, 95, 96, 97, 98, 99, 100, 101, 102, 186, 187, 188, 189, 190, 191, 192, 193, 194, 196, 197, 198, 199, 200, 201, 195] (by decide +kernel) (by decide +kernel)
set_option maxRecDepth 20000 in
theorem gX4_packAll_X4_findAll : GoodIn wsX4_packAll (wsV RX4 40 RX4 yX4_findAll wsX4_findAll) := goodIn_app (goodIn_of _ (by decide +kernel)) ggX4_packAll_X4_findAll
set_option maxRecDepth 20000 in
theorem ggX4_packAll_X4_endSize : GoodIn wsX4_packAll wsX4_endSize := goodIn_r _ [105] (by decide +kernel) (by decide +kernel)
set_option maxRecDepth 20000 in
theorem gX4_packAll_X4_endSize : GoodIn wsX4_packAll (va_wsS RX4 43 yX4_endSize wsX4_endSize) := goodIn_app (goodIn_of _ (by decide +kernel)) ggX4_packAll_X4_endSize
set_option maxRecDepth 20000 in
theorem ggX4_packAll_X5_room : GoodIn wsX4_packAll wsX5_room := goodIn_r _ [109, 64, 63, 193, 194] (by decide +kernel) (by decide +kernel)
set_option maxRecDepth 20000 in
theorem gX4_packAll_X5_room : GoodIn wsX4_packAll (wsV RX4 46 RX5 yX5_room wsX5_room) := goodIn_app (goodIn_of _ (by decide +kernel)) ggX4_packAll_X5_room
set_option maxRecDepth 20000 in
theorem ggX4_packAll_X4_writeHead : GoodIn wsX4_packAll wsX4_writeHead := goodIn_r _ [113, 2, 114, 3, 1, 26, 115, 116, 117, 61, 118, 119, 120, 121, 122, 63, 64, 123, 124, 125, 126, 7, 127, 9, 128, 129, 130, 131, 132, 133, 134, 135, 136, 137, 138, 139, 140, 141, 142, 143, 144, 145, 59, 60, 62, 146, 147, 148, 186, 187, 188, 189, 190, 191, 192, 193, 194, 195] (by decide +kernel) (by decide +kernel)
set_option maxRecDepth 20000 in
theorem gX4_packAll_X4_writeHead : GoodIn wsX4_packAll (wsV RX4 51 RX4 yX4_writeHead wsX4_writeHead) := goodIn_app (goodIn_of _ (by decide +kernel)) ggX4_packAll_X4_writeHead
set_option maxRecDepth 20000 in
theorem ggX4_packAll_X4_writeBlocks : GoodIn wsX4_packAll wsX4_writeBlocks := goodIn_r _ [152, 1, 18, 19, 20, 21, 26, 3, 27, 28, 29, 22, 30, 2, 31, 32, 33, 7, 34, 9, 153, 154, 155, 38, 156, 43, 88, 89, 90, 91, 41, 77, 157, 158, 159, 12, 160, 161, 80, 81, 82, 83, 84, 85, 86, 87, 78, 92, 93, 94, 95, 96, 97, 98, 79, 99, 100, 101, 102, 115, 116, 117, 61, 118, 119, 120, 121, 122, 63, 64, 162, 163, 164, 165, 166, 167, 168, 169, 137, 138, 139, 140, 170, 107, 108, 109, 171, 172, 173, 174, 175, 176, 177, 123, 178, 179, 180, 181, 128, 129, 130, 131, 132, 133, 134, 135, 136, 141, 142, 143, 144, 145, 59, 60, 62, 146, 147, 148, 186, 187, 188, 189, 190, 191, 192, 193, 194, 196, 197, 198, 199, 200, 201, 195] (by decide +kernel) (by decide +kernel)
set_option maxRecDepth 20000 in
theorem gX4_packAll_X4_writeBlocks : GoodIn wsX4_packAll (wsV RX4 55 RX4 yX4_writeBlocks wsX4_writeBlocks) := goodIn_app (goodIn_of _ (by decide +kernel)) ggX4_packAll_X4_writeBlocks
set_option maxRecDepth 20000 in
theorem ggX4_packAll_X4_writeEnd : GoodIn wsX4_packAll wsX4_writeEnd := goodIn_r _ [185, 2, 26, 3, 115, 116, 117, 61, 118, 119, 120, 121, 122, 63, 64, 128, 129, 130, 131, 132, 133, 134, 135, 136, 137, 138, 139, 140, 141, 142, 143, 144, 145, 59, 60, 62, 146, 147, 148, 186, 187, 188, 189, 190, 191, 192, 193, 194] (by decide +kernel) (by decide +kernel)
set_option maxRecDepth 20000 in
theorem gX4_packAll_X4_writeEnd : GoodIn wsX4_packAll (wsV RX4 58 RX4 yX4_writeEnd wsX4_writeEnd) := goodIn_app (goodIn_of _ (by decide +kernel)) ggX4_packAll_X4_writeEnd
theorem dX4_packAll_0 : decode cX4_packAll 0 = .ok (.aload_n 0, 1) := by decide +kernel
theorem dX4_packAll_1 : decode cX4_packAll 1 = .ok (.getfield 22, 3) := by decide +kernel
theorem dX4_packAll_4 : decode cX4_packAll 4 = .ok (.invokevirtual 30, 3) := by decide +kernel
theorem dX4_packAll_7 : decode cX4_packAll 7 = .ok (.istore_n 1, 1) := by decide +kernel
theorem dX4_packAll_8 : decode cX4_packAll 8 = .ok (.iload_n 1, 1) := by decide +kernel
theorem dX4_packAll_9 : decode cX4_packAll 9 = .ok (.invokestatic 36, 3) := by decide +kernel
theorem dX4_packAll_12 : decode cX4_packAll 12 = .ok (.aload_n 0, 1) := by decide +kernel
theorem dX4_packAll_13 : decode cX4_packAll 13 = .ok (.iload_n 1, 1) := by decide +kernel
theorem dX4_packAll_14 : decode cX4_packAll 14 = .ok (.invokevirtual 40, 3) := by decide +kernel
theorem dX4_packAll_17 : decode cX4_packAll 17 = .ok (.iadd, 1) := by decide +kernel
theorem dX4_packAll_18 : decode cX4_packAll 18 = .ok (.iload_n 1, 1) := by decide +kernel
theorem dX4_packAll_19 : decode cX4_packAll 19 = .ok (.invokestatic 43, 3) := by decide +kernel
theorem dX4_packAll_22 : decode cX4_packAll 22 = .ok (.iadd, 1) := by decide +kernel
theorem dX4_packAll_23 : decode cX4_packAll 23 = .ok (.istore_n 2, 1) := by decide +kernel
theorem dX4_packAll_24 : decode cX4_packAll 24 = .ok (.iload_n 2, 1) := by decide +kernel
theorem dX4_packAll_25 : decode cX4_packAll 25 = .ok (.aload_n 0, 1) := by decide +kernel
theorem dX4_packAll_26 : decode cX4_packAll 26 = .ok (.getfield 19, 3) := by decide +kernel
theorem dX4_packAll_29 : decode cX4_packAll 29 = .ok (.invokevirtual 46, 3) := by decide +kernel
theorem dX4_packAll_32 : decode cX4_packAll 32 = .ok (.if_icmp .le 6, 3) := by decide +kernel
theorem dX4_packAll_35 : decode cX4_packAll 35 = .ok (.bipush (-2), 2) := by decide +kernel
theorem dX4_packAll_37 : decode cX4_packAll 37 = .ok (.ireturn, 1) := by decide +kernel
theorem dX4_packAll_38 : decode cX4_packAll 38 = .ok (.aload_n 0, 1) := by decide +kernel
theorem dX4_packAll_39 : decode cX4_packAll 39 = .ok (.iload_n 1, 1) := by decide +kernel
theorem dX4_packAll_40 : decode cX4_packAll 40 = .ok (.invokevirtual 51, 3) := by decide +kernel
theorem dX4_packAll_43 : decode cX4_packAll 43 = .ok (.aload_n 0, 1) := by decide +kernel
theorem dX4_packAll_44 : decode cX4_packAll 44 = .ok (.iload_n 1, 1) := by decide +kernel
theorem dX4_packAll_45 : decode cX4_packAll 45 = .ok (.invokevirtual 55, 3) := by decide +kernel
theorem dX4_packAll_48 : decode cX4_packAll 48 = .ok (.aload_n 0, 1) := by decide +kernel
theorem dX4_packAll_49 : decode cX4_packAll 49 = .ok (.iload_n 1, 1) := by decide +kernel
theorem dX4_packAll_50 : decode cX4_packAll 50 = .ok (.invokevirtual 58, 3) := by decide +kernel
theorem dX4_packAll_53 : decode cX4_packAll 53 = .ok (.aload_n 0, 1) := by decide +kernel
theorem dX4_packAll_54 : decode cX4_packAll 54 = .ok (.getfield 19, 3) := by decide +kernel
theorem dX4_packAll_57 : decode cX4_packAll 57 = .ok (.getfield 61, 3) := by decide +kernel
theorem dX4_packAll_60 : decode cX4_packAll 60 = .ok (.ireturn, 1) := by decide +kernel
theorem dX4_headSize_0 : decode cX4_headSize 0 = .ok (.iload_n 0, 1) := by decide +kernel
theorem dX4_headSize_1 : decode cX4_headSize 1 = .ok (.bipush 8, 2) := by decide +kernel
theorem dX4_headSize_3 : decode cX4_headSize 3 = .ok (.iand, 1) := by decide +kernel
theorem dX4_headSize_4 : decode cX4_headSize 4 = .ok (.ifCond .eq 8, 3) := by decide +kernel
theorem dX4_headSize_7 : decode cX4_headSize 7 = .ok (.bipush 15, 2) := by decide +kernel
theorem dX4_headSize_9 : decode cX4_headSize 9 = .ok (.goto 5, 3) := by decide +kernel
theorem dX4_headSize_12 : decode cX4_headSize 12 = .ok (.bipush 7, 2) := by decide +kernel
theorem dX4_headSize_14 : decode cX4_headSize 14 = .ok (.ireturn, 1) := by decide +kernel
theorem dX4_endSize_0 : decode cX4_endSize 0 = .ok (.iload_n 0, 1) := by decide +kernel
theorem dX4_endSize_1 : decode cX4_endSize 1 = .ok (.iconst 4, 1) := by decide +kernel
theorem dX4_endSize_2 : decode cX4_endSize 2 = .ok (.iand, 1) := by decide +kernel
theorem dX4_endSize_3 : decode cX4_endSize 3 = .ok (.ifCond .eq 8, 3) := by decide +kernel
theorem dX4_endSize_6 : decode cX4_endSize 6 = .ok (.bipush 8, 2) := by decide +kernel
theorem dX4_endSize_8 : decode cX4_endSize 8 = .ok (.goto 4, 3) := by decide +kernel
theorem dX4_endSize_11 : decode cX4_endSize 11 = .ok (.iconst 4, 1) := by decide +kernel
theorem dX4_endSize_12 : decode cX4_endSize 12 = .ok (.ireturn, 1) := by decide +kernel
set_option maxRecDepth 20000 in
theorem ggX4_findAll_X3_part : GoodIn wsX4_findAll wsX3_part := goodIn_r _ [20, 21, 106] (by decide +kernel) (by decide +kernel)
set_option maxRecDepth 20000 in
theorem gX4_findAll_X3_part : GoodIn wsX4_findAll (wsV RX4 65 RX3 yX3_part wsX3_part) := goodIn_app (goodIn_of _ (by decide +kernel)) ggX4_findAll_X3_part
set_option maxRecDepth 20000 in
theorem ggX4_findAll_X6_clear : GoodIn wsX4_findAll wsX6_clear := goodIn_r _ [26, 27, 28, 29, 30, 100, 101, 102, 103, 104, 105] (by decide +kernel) (by decide +kernel)
set_option maxRecDepth 20000 in
theorem gX4_findAll_X6_clear : GoodIn wsX4_findAll (wsV RX4 74 RX6 yX6_clear wsX6_clear) := goodIn_app (goodIn_of _ (by decide +kernel)) ggX4_findAll_X6_clear
set_option maxRecDepth 20000 in
theorem ggX4_findAll_J7_fill_53178 : GoodIn wsX4_findAll wsJ7_fill_53178 := goodIn_r _ [34] (by decide +kernel) (by decide +kernel)
set_option maxRecDepth 20000 in
theorem gX4_findAll_J7_fill_53178 : GoodIn wsX4_findAll (va_wsS RX4 85 yJ7_fill_53178 wsJ7_fill_53178) := goodIn_app (goodIn_of _ (by decide +kernel)) ggX4_findAll_J7_fill_53178
set_option maxRecDepth 20000 in
theorem ggX4_findAll_X3_linked : GoodIn wsX4_findAll wsX3_linked := goodIn_r _ [38, 21, 106] (by decide +kernel) (by decide +kernel)
set_option maxRecDepth 20000 in
theorem gX4_findAll_X3_linked : GoodIn wsX4_findAll (wsV RX4 97 RX3 yX3_linked wsX3_linked) := goodIn_app (goodIn_of _ (by decide +kernel)) ggX4_findAll_X3_linked
set_option maxRecDepth 20000 in
theorem ggX4_findAll_X4_findBlock : GoodIn wsX4_findAll wsX4_findBlock := goodIn_r _ [43, 10, 44, 9, 45, 6, 2, 3, 4, 5, 46, 47, 48, 49, 50, 51, 52, 53, 54, 55, 42, 56, 57, 58, 59, 60, 61, 62, 63, 25, 64, 28, 65, 66, 67, 30, 29, 91, 92, 93, 94, 95, 96, 97, 98, 99, 100, 101, 102, 103, 104, 105] (by decide +kernel) (by decide +kernel)
set_option maxRecDepth 20000 in
theorem gX4_findAll_X4_findBlock : GoodIn wsX4_findAll (wsV RX4 101 RX4 yX4_findBlock wsX4_findBlock) := goodIn_app (goodIn_of _ (by decide +kernel)) ggX4_findAll_X4_findBlock
set_option maxRecDepth 20000 in
theorem ggX4_findAll_X6_packedSize : GoodIn wsX4_findAll wsX6_packedSize := goodIn_r _ [71, 72, 73, 74, 25, 75, 66, 76, 77, 78, 79, 28, 65, 80, 81, 82, 83, 84, 85, 86, 67, 87, 88, 89, 90, 30, 100, 101, 102, 103, 104, 105] (by decide +kernel) (by decide +kernel)
set_option maxRecDepth 20000 in
theorem gX4_findAll_X6_packedSize : GoodIn wsX4_findAll (wsV RX4 105 RX6 yX6_packedSize wsX6_packedSize) := goodIn_app (goodIn_of _ (by decide +kernel)) ggX4_findAll_X6_packedSize
theorem dX4_findAll_0 : decode cX4_findAll 0 = .ok (.iconst 1, 1) := by decide +kernel
theorem dX4_findAll_1 : decode cX4_findAll 1 = .ok (.aload_n 0, 1) := by decide +kernel
theorem dX4_findAll_2 : decode cX4_findAll 2 = .ok (.getfield 22, 3) := by decide +kernel
theorem dX4_findAll_5 : decode cX4_findAll 5 = .ok (.invokevirtual 65, 3) := by decide +kernel
theorem dX4_findAll_8 : decode cX4_findAll 8 = .ok (.invokestatic 68, 3) := by decide +kernel
theorem dX4_findAll_11 : decode cX4_findAll 11 = .ok (.istore_n 2, 1) := by decide +kernel
theorem dX4_findAll_12 : decode cX4_findAll 12 = .ok (.iload_n 1, 1) := by decide +kernel
theorem dX4_findAll_13 : decode cX4_findAll 13 = .ok (.bipush 16, 2) := by decide +kernel
theorem dX4_findAll_15 : decode cX4_findAll 15 = .ok (.iand, 1) := by decide +kernel
theorem dX4_findAll_16 : decode cX4_findAll 16 = .ok (.ifCond .eq 8, 3) := by decide +kernel
theorem dX4_findAll_19 : decode cX4_findAll 19 = .ok (.bipush 8, 2) := by decide +kernel
theorem dX4_findAll_21 : decode cX4_findAll 21 = .ok (.goto 4, 3) := by decide +kernel
theorem dX4_findAll_24 : decode cX4_findAll 24 = .ok (.iconst 4, 1) := by decide +kernel
theorem dX4_findAll_25 : decode cX4_findAll 25 = .ok (.istore_n 3, 1) := by decide +kernel
theorem dX4_findAll_26 : decode cX4_findAll 26 = .ok (.iconst 0, 1) := by decide +kernel
theorem dX4_findAll_27 : decode cX4_findAll 27 = .ok (.istore 4, 2) := by decide +kernel
theorem dX4_findAll_29 : decode cX4_findAll 29 = .ok (.aload_n 0, 1) := by decide +kernel
theorem dX4_findAll_30 : decode cX4_findAll 30 = .ok (.getfield 26, 3) := by decide +kernel
theorem dX4_findAll_33 : decode cX4_findAll 33 = .ok (.iload_n 2, 1) := by decide +kernel
theorem dX4_findAll_34 : decode cX4_findAll 34 = .ok (.invokevirtual 74, 3) := by decide +kernel
theorem dX4_findAll_37 : decode cX4_findAll 37 = .ok (.aload_n 0, 1) := by decide +kernel
theorem dX4_findAll_38 : decode cX4_findAll 38 = .ok (.iconst 0, 1) := by decide +kernel
theorem dX4_findAll_39 : decode cX4_findAll 39 = .ok (.putfield 79, 3) := by decide +kernel
theorem dX4_findAll_42 : decode cX4_findAll 42 = .ok (.aload_n 0, 1) := by decide +kernel
theorem dX4_findAll_43 : decode cX4_findAll 43 = .ok (.iconst 0, 1) := by decide +kernel
theorem dX4_findAll_44 : decode cX4_findAll 44 = .ok (.putfield 82, 3) := by decide +kernel
theorem dX4_findAll_47 : decode cX4_findAll 47 = .ok (.aload_n 0, 1) := by decide +kernel
theorem dX4_findAll_48 : decode cX4_findAll 48 = .ok (.getfield 11, 3) := by decide +kernel
theorem dX4_findAll_51 : decode cX4_findAll 51 = .ok (.iconst (-1), 1) := by decide +kernel
theorem dX4_findAll_52 : decode cX4_findAll 52 = .ok (.invokestatic 85, 3) := by decide +kernel
theorem dX4_findAll_55 : decode cX4_findAll 55 = .ok (.iconst 0, 1) := by decide +kernel
theorem dX4_findAll_56 : decode cX4_findAll 56 = .ok (.istore 5, 2) := by decide +kernel
theorem dX4_findAll_58 : decode cX4_findAll 58 = .ok (.iload 5, 2) := by decide +kernel
theorem dX4_findAll_60 : decode cX4_findAll 60 = .ok (.aload_n 0, 1) := by decide +kernel
theorem dX4_findAll_61 : decode cX4_findAll 61 = .ok (.getfield 15, 3) := by decide +kernel
theorem dX4_findAll_64 : decode cX4_findAll 64 = .ok (.getfield 61, 3) := by decide +kernel
theorem dX4_findAll_67 : decode cX4_findAll 67 = .ok (.if_icmp .ge 126, 3) := by decide +kernel
theorem dX4_findAll_70 : decode cX4_findAll 70 = .ok (.iload 5, 2) := by decide +kernel
theorem dX4_findAll_72 : decode cX4_findAll 72 = .ok (.iload_n 2, 1) := by decide +kernel
theorem dX4_findAll_73 : decode cX4_findAll 73 = .ok (.iadd, 1) := by decide +kernel
theorem dX4_findAll_74 : decode cX4_findAll 74 = .ok (.aload_n 0, 1) := by decide +kernel
theorem dX4_findAll_75 : decode cX4_findAll 75 = .ok (.getfield 15, 3) := by decide +kernel
theorem dX4_findAll_78 : decode cX4_findAll 78 = .ok (.getfield 61, 3) := by decide +kernel
theorem dX4_findAll_81 : decode cX4_findAll 81 = .ok (.invokestatic 91, 3) := by decide +kernel
theorem dX4_findAll_84 : decode cX4_findAll 84 = .ok (.istore 6, 2) := by decide +kernel
theorem dX4_findAll_86 : decode cX4_findAll 86 = .ok (.aload_n 0, 1) := by decide +kernel
theorem dX4_findAll_87 : decode cX4_findAll 87 = .ok (.getfield 26, 3) := by decide +kernel
theorem dX4_findAll_90 : decode cX4_findAll 90 = .ok (.getfield 94, 3) := by decide +kernel
theorem dX4_findAll_93 : decode cX4_findAll 93 = .ok (.istore 7, 2) := by decide +kernel
theorem dX4_findAll_95 : decode cX4_findAll 95 = .ok (.aload_n 0, 1) := by decide +kernel
theorem dX4_findAll_96 : decode cX4_findAll 96 = .ok (.iload 5, 2) := by decide +kernel
theorem dX4_findAll_98 : decode cX4_findAll 98 = .ok (.iload 6, 2) := by decide +kernel
theorem dX4_findAll_100 : decode cX4_findAll 100 = .ok (.aload_n 0, 1) := by decide +kernel
theorem dX4_findAll_101 : decode cX4_findAll 101 = .ok (.getfield 22, 3) := by decide +kernel
theorem dX4_findAll_104 : decode cX4_findAll 104 = .ok (.invokevirtual 97, 3) := by decide +kernel
theorem dX4_findAll_107 : decode cX4_findAll 107 = .ok (.ifCond .eq 7, 3) := by decide +kernel
theorem dX4_findAll_110 : decode cX4_findAll 110 = .ok (.iconst 0, 1) := by decide +kernel
theorem dX4_findAll_111 : decode cX4_findAll 111 = .ok (.goto 5, 3) := by decide +kernel
theorem dX4_findAll_114 : decode cX4_findAll 114 = .ok (.iload 5, 2) := by decide +kernel
theorem dX4_findAll_116 : decode cX4_findAll 116 = .ok (.invokevirtual 101, 3) := by decide +kernel
theorem dX4_findAll_119 : decode cX4_findAll 119 = .ok (.aload_n 0, 1) := by decide +kernel
theorem dX4_findAll_120 : decode cX4_findAll 120 = .ok (.getfield 26, 3) := by decide +kernel
theorem dX4_findAll_123 : decode cX4_findAll 123 = .ok (.iload 7, 2) := by decide +kernel
theorem dX4_findAll_125 : decode cX4_findAll 125 = .ok (.aload_n 0, 1) := by decide +kernel
theorem dX4_findAll_126 : decode cX4_findAll 126 = .ok (.getfield 26, 3) := by decide +kernel
theorem dX4_findAll_129 : decode cX4_findAll 129 = .ok (.getfield 94, 3) := by decide +kernel
theorem dX4_findAll_132 : decode cX4_findAll 132 = .ok (.invokevirtual 105, 3) := by decide +kernel
theorem dX4_findAll_135 : decode cX4_findAll 135 = .ok (.istore 8, 2) := by decide +kernel
theorem dX4_findAll_137 : decode cX4_findAll 137 = .ok (.aload_n 0, 1) := by decide +kernel
theorem dX4_findAll_138 : decode cX4_findAll 138 = .ok (.dup, 1) := by decide +kernel
theorem dX4_findAll_139 : decode cX4_findAll 139 = .ok (.getfield 79, 3) := by decide +kernel
theorem dX4_findAll_142 : decode cX4_findAll 142 = .ok (.iconst 1, 1) := by decide +kernel
theorem dX4_findAll_143 : decode cX4_findAll 143 = .ok (.iadd, 1) := by decide +kernel
theorem dX4_findAll_144 : decode cX4_findAll 144 = .ok (.putfield 79, 3) := by decide +kernel
theorem dX4_findAll_147 : decode cX4_findAll 147 = .ok (.iload 8, 2) := by decide +kernel
theorem dX4_findAll_149 : decode cX4_findAll 149 = .ok (.iload 6, 2) := by decide +kernel
theorem dX4_findAll_151 : decode cX4_findAll 151 = .ok (.iload 5, 2) := by decide +kernel
theorem dX4_findAll_153 : decode cX4_findAll 153 = .ok (.isub, 1) := by decide +kernel
theorem dX4_findAll_154 : decode cX4_findAll 154 = .ok (.if_icmp .lt 13, 3) := by decide +kernel
theorem dX4_findAll_157 : decode cX4_findAll 157 = .ok (.aload_n 0, 1) := by decide +kernel
theorem dX4_findAll_158 : decode cX4_findAll 158 = .ok (.dup, 1) := by decide +kernel
theorem dX4_findAll_159 : decode cX4_findAll 159 = .ok (.getfield 82, 3) := by decide +kernel
theorem dX4_findAll_162 : decode cX4_findAll 162 = .ok (.iconst 1, 1) := by decide +kernel
theorem dX4_findAll_163 : decode cX4_findAll 163 = .ok (.iadd, 1) := by decide +kernel
theorem dX4_findAll_164 : decode cX4_findAll 164 = .ok (.putfield 82, 3) := by decide +kernel
theorem dX4_findAll_167 : decode cX4_findAll 167 = .ok (.iload 4, 2) := by decide +kernel
theorem dX4_findAll_169 : decode cX4_findAll 169 = .ok (.iload_n 3, 1) := by decide +kernel
theorem dX4_findAll_170 : decode cX4_findAll 170 = .ok (.iload 8, 2) := by decide +kernel
theorem dX4_findAll_172 : decode cX4_findAll 172 = .ok (.iload 6, 2) := by decide +kernel
theorem dX4_findAll_174 : decode cX4_findAll 174 = .ok (.iload 5, 2) := by decide +kernel
theorem dX4_findAll_176 : decode cX4_findAll 176 = .ok (.isub, 1) := by decide +kernel
theorem dX4_findAll_177 : decode cX4_findAll 177 = .ok (.invokestatic 91, 3) := by decide +kernel
theorem dX4_findAll_180 : decode cX4_findAll 180 = .ok (.iadd, 1) := by decide +kernel
theorem dX4_findAll_181 : decode cX4_findAll 181 = .ok (.iadd, 1) := by decide +kernel
theorem dX4_findAll_182 : decode cX4_findAll 182 = .ok (.istore 4, 2) := by decide +kernel
theorem dX4_findAll_184 : decode cX4_findAll 184 = .ok (.iload 5, 2) := by decide +kernel
theorem dX4_findAll_186 : decode cX4_findAll 186 = .ok (.iload_n 2, 1) := by decide +kernel
theorem dX4_findAll_187 : decode cX4_findAll 187 = .ok (.iadd, 1) := by decide +kernel
theorem dX4_findAll_188 : decode cX4_findAll 188 = .ok (.istore 5, 2) := by decide +kernel
theorem dX4_findAll_190 : decode cX4_findAll 190 = .ok (.goto (-132), 3) := by decide +kernel
theorem dX4_findAll_193 : decode cX4_findAll 193 = .ok (.iload 4, 2) := by decide +kernel
theorem dX4_findAll_195 : decode cX4_findAll 195 = .ok (.ireturn, 1) := by decide +kernel
set_option maxRecDepth 20000 in
theorem ggX4_findBlock_X5_word : GoodIn wsX4_findBlock wsX5_word := goodIn_r _ [14, 15, 16, 44, 45] (by decide +kernel) (by decide +kernel)
set_option maxRecDepth 20000 in
theorem gX4_findBlock_X5_word : GoodIn wsX4_findBlock (wsV RX4 108 RX5 yX5_word wsX5_word) := goodIn_app (goodIn_of _ (by decide +kernel)) ggX4_findBlock_X5_word
set_option maxRecDepth 20000 in
theorem ggX4_findBlock_X4_matchLength : GoodIn wsX4_findBlock wsX4_matchLength := goodIn_r _ [21, 1, 22, 23, 24, 13, 25, 15, 16, 37, 38, 39, 40, 41, 42, 43, 44, 45] (by decide +kernel) (by decide +kernel)
set_option maxRecDepth 20000 in
theorem gX4_findBlock_X4_matchLength : GoodIn wsX4_findBlock (wsV RX4 113 RX4 yX4_matchLength wsX4_matchLength) := goodIn_app (goodIn_of _ (by decide +kernel)) ggX4_findBlock_X4_matchLength
set_option maxRecDepth 20000 in
theorem ggX4_findBlock_X6_add : GoodIn wsX4_findBlock wsX6_add := goodIn_r _ [30, 31, 32, 33, 34, 35, 36, 46, 47, 48, 49, 50, 51] (by decide +kernel) (by decide +kernel)
set_option maxRecDepth 20000 in
theorem gX4_findBlock_X6_add : GoodIn wsX4_findBlock (wsV RX4 117 RX6 yX6_add wsX6_add) := goodIn_app (goodIn_of _ (by decide +kernel)) ggX4_findBlock_X6_add
theorem dX4_findBlock_0 : decode cX4_findBlock 0 = .ok (.iload_n 1, 1) := by decide +kernel
theorem dX4_findBlock_1 : decode cX4_findBlock 1 = .ok (.istore 4, 2) := by decide +kernel
theorem dX4_findBlock_3 : decode cX4_findBlock 3 = .ok (.iload_n 1, 1) := by decide +kernel
theorem dX4_findBlock_4 : decode cX4_findBlock 4 = .ok (.istore 5, 2) := by decide +kernel
theorem dX4_findBlock_6 : decode cX4_findBlock 6 = .ok (.iload 5, 2) := by decide +kernel
theorem dX4_findBlock_8 : decode cX4_findBlock 8 = .ok (.iload_n 2, 1) := by decide +kernel
theorem dX4_findBlock_9 : decode cX4_findBlock 9 = .ok (.bipush 12, 2) := by decide +kernel
theorem dX4_findBlock_11 : decode cX4_findBlock 11 = .ok (.isub, 1) := by decide +kernel
theorem dX4_findBlock_12 : decode cX4_findBlock 12 = .ok (.if_icmp .gt 128, 3) := by decide +kernel
theorem dX4_findBlock_15 : decode cX4_findBlock 15 = .ok (.aload_n 0, 1) := by decide +kernel
theorem dX4_findBlock_16 : decode cX4_findBlock 16 = .ok (.getfield 15, 3) := by decide +kernel
theorem dX4_findBlock_19 : decode cX4_findBlock 19 = .ok (.iload 5, 2) := by decide +kernel
theorem dX4_findBlock_21 : decode cX4_findBlock 21 = .ok (.invokevirtual 108, 3) := by decide +kernel
theorem dX4_findBlock_24 : decode cX4_findBlock 24 = .ok (.istore 6, 2) := by decide +kernel
theorem dX4_findBlock_26 : decode cX4_findBlock 26 = .ok (.iload 6, 2) := by decide +kernel
theorem dX4_findBlock_28 : decode cX4_findBlock 28 = .ok (.ldc 111, 2) := by decide +kernel
theorem dX4_findBlock_30 : decode cX4_findBlock 30 = .ok (.imul, 1) := by decide +kernel
theorem dX4_findBlock_31 : decode cX4_findBlock 31 = .ok (.bipush 20, 2) := by decide +kernel
theorem dX4_findBlock_33 : decode cX4_findBlock 33 = .ok (.iushr, 1) := by decide +kernel
theorem dX4_findBlock_34 : decode cX4_findBlock 34 = .ok (.istore 7, 2) := by decide +kernel
theorem dX4_findBlock_36 : decode cX4_findBlock 36 = .ok (.aload_n 0, 1) := by decide +kernel
theorem dX4_findBlock_37 : decode cX4_findBlock 37 = .ok (.getfield 11, 3) := by decide +kernel
theorem dX4_findBlock_40 : decode cX4_findBlock 40 = .ok (.iload 7, 2) := by decide +kernel
theorem dX4_findBlock_42 : decode cX4_findBlock 42 = .ok (.iaload, 1) := by decide +kernel
theorem dX4_findBlock_43 : decode cX4_findBlock 43 = .ok (.istore 8, 2) := by decide +kernel
theorem dX4_findBlock_45 : decode cX4_findBlock 45 = .ok (.aload_n 0, 1) := by decide +kernel
theorem dX4_findBlock_46 : decode cX4_findBlock 46 = .ok (.getfield 11, 3) := by decide +kernel
theorem dX4_findBlock_49 : decode cX4_findBlock 49 = .ok (.iload 7, 2) := by decide +kernel
theorem dX4_findBlock_51 : decode cX4_findBlock 51 = .ok (.iload 5, 2) := by decide +kernel
theorem dX4_findBlock_53 : decode cX4_findBlock 53 = .ok (.iastore, 1) := by decide +kernel
theorem dX4_findBlock_54 : decode cX4_findBlock 54 = .ok (.iconst 0, 1) := by decide +kernel
theorem dX4_findBlock_55 : decode cX4_findBlock 55 = .ok (.istore 9, 2) := by decide +kernel
theorem dX4_findBlock_57 : decode cX4_findBlock 57 = .ok (.iload 8, 2) := by decide +kernel
theorem dX4_findBlock_59 : decode cX4_findBlock 59 = .ok (.iload_n 3, 1) := by decide +kernel
theorem dX4_findBlock_60 : decode cX4_findBlock 60 = .ok (.if_icmp .lt 66, 3) := by decide +kernel
theorem dX4_findBlock_63 : decode cX4_findBlock 63 = .ok (.iload 5, 2) := by decide +kernel
theorem dX4_findBlock_65 : decode cX4_findBlock 65 = .ok (.iload 8, 2) := by decide +kernel
theorem dX4_findBlock_67 : decode cX4_findBlock 67 = .ok (.isub, 1) := by decide +kernel
theorem dX4_findBlock_68 : decode cX4_findBlock 68 = .ok (.ldc 112, 2) := by decide +kernel
theorem dX4_findBlock_70 : decode cX4_findBlock 70 = .ok (.if_icmp .gt 56, 3) := by decide +kernel
theorem dX4_findBlock_73 : decode cX4_findBlock 73 = .ok (.aload_n 0, 1) := by decide +kernel
theorem dX4_findBlock_74 : decode cX4_findBlock 74 = .ok (.getfield 15, 3) := by decide +kernel
theorem dX4_findBlock_77 : decode cX4_findBlock 77 = .ok (.iload 8, 2) := by decide +kernel
theorem dX4_findBlock_79 : decode cX4_findBlock 79 = .ok (.invokevirtual 108, 3) := by decide +kernel
theorem dX4_findBlock_82 : decode cX4_findBlock 82 = .ok (.iload 6, 2) := by decide +kernel
theorem dX4_findBlock_84 : decode cX4_findBlock 84 = .ok (.if_icmp .ne 42, 3) := by decide +kernel
theorem dX4_findBlock_87 : decode cX4_findBlock 87 = .ok (.aload_n 0, 1) := by decide +kernel
theorem dX4_findBlock_88 : decode cX4_findBlock 88 = .ok (.iload 8, 2) := by decide +kernel
theorem dX4_findBlock_90 : decode cX4_findBlock 90 = .ok (.iload 5, 2) := by decide +kernel
theorem dX4_findBlock_92 : decode cX4_findBlock 92 = .ok (.iload_n 2, 1) := by decide +kernel
theorem dX4_findBlock_93 : decode cX4_findBlock 93 = .ok (.iconst 5, 1) := by decide +kernel
theorem dX4_findBlock_94 : decode cX4_findBlock 94 = .ok (.isub, 1) := by decide +kernel
theorem dX4_findBlock_95 : decode cX4_findBlock 95 = .ok (.invokevirtual 113, 3) := by decide +kernel
theorem dX4_findBlock_98 : decode cX4_findBlock 98 = .ok (.istore 9, 2) := by decide +kernel
theorem dX4_findBlock_100 : decode cX4_findBlock 100 = .ok (.aload_n 0, 1) := by decide +kernel
theorem dX4_findBlock_101 : decode cX4_findBlock 101 = .ok (.getfield 26, 3) := by decide +kernel
theorem dX4_findBlock_104 : decode cX4_findBlock 104 = .ok (.iload 5, 2) := by decide +kernel
theorem dX4_findBlock_106 : decode cX4_findBlock 106 = .ok (.iload 4, 2) := by decide +kernel
theorem dX4_findBlock_108 : decode cX4_findBlock 108 = .ok (.isub, 1) := by decide +kernel
theorem dX4_findBlock_109 : decode cX4_findBlock 109 = .ok (.iload 5, 2) := by decide +kernel
theorem dX4_findBlock_111 : decode cX4_findBlock 111 = .ok (.iload 8, 2) := by decide +kernel
theorem dX4_findBlock_113 : decode cX4_findBlock 113 = .ok (.isub, 1) := by decide +kernel
theorem dX4_findBlock_114 : decode cX4_findBlock 114 = .ok (.iload 9, 2) := by decide +kernel
theorem dX4_findBlock_116 : decode cX4_findBlock 116 = .ok (.invokevirtual 117, 3) := by decide +kernel
theorem dX4_findBlock_119 : decode cX4_findBlock 119 = .ok (.iload 5, 2) := by decide +kernel
theorem dX4_findBlock_121 : decode cX4_findBlock 121 = .ok (.iload 9, 2) := by decide +kernel
theorem dX4_findBlock_123 : decode cX4_findBlock 123 = .ok (.iadd, 1) := by decide +kernel
theorem dX4_findBlock_124 : decode cX4_findBlock 124 = .ok (.istore 4, 2) := by decide +kernel
theorem dX4_findBlock_126 : decode cX4_findBlock 126 = .ok (.iload 5, 2) := by decide +kernel
theorem dX4_findBlock_128 : decode cX4_findBlock 128 = .ok (.iconst 1, 1) := by decide +kernel
theorem dX4_findBlock_129 : decode cX4_findBlock 129 = .ok (.iload 9, 2) := by decide +kernel
theorem dX4_findBlock_131 : decode cX4_findBlock 131 = .ok (.invokestatic 68, 3) := by decide +kernel
theorem dX4_findBlock_134 : decode cX4_findBlock 134 = .ok (.iadd, 1) := by decide +kernel
theorem dX4_findBlock_135 : decode cX4_findBlock 135 = .ok (.istore 5, 2) := by decide +kernel
theorem dX4_findBlock_137 : decode cX4_findBlock 137 = .ok (.goto (-131), 3) := by decide +kernel
theorem dX4_findBlock_140 : decode cX4_findBlock 140 = .ok (.aload_n 0, 1) := by decide +kernel
theorem dX4_findBlock_141 : decode cX4_findBlock 141 = .ok (.getfield 26, 3) := by decide +kernel
theorem dX4_findBlock_144 : decode cX4_findBlock 144 = .ok (.iload_n 2, 1) := by decide +kernel
theorem dX4_findBlock_145 : decode cX4_findBlock 145 = .ok (.iload 4, 2) := by decide +kernel
theorem dX4_findBlock_147 : decode cX4_findBlock 147 = .ok (.isub, 1) := by decide +kernel
theorem dX4_findBlock_148 : decode cX4_findBlock 148 = .ok (.iconst 0, 1) := by decide +kernel
theorem dX4_findBlock_149 : decode cX4_findBlock 149 = .ok (.iconst 0, 1) := by decide +kernel
theorem dX4_findBlock_150 : decode cX4_findBlock 150 = .ok (.invokevirtual 117, 3) := by decide +kernel
theorem dX4_findBlock_153 : decode cX4_findBlock 153 = .ok (.return_, 1) := by decide +kernel
set_option maxRecDepth 20000 in
theorem ggX4_matchLength_X5_get : GoodIn wsX4_matchLength wsX5_get := goodIn_r _ [6, 7, 8, 16, 17] (by decide +kernel) (by decide +kernel)
set_option maxRecDepth 20000 in
theorem gX4_matchLength_X5_get : GoodIn wsX4_matchLength (wsV RX4 120 RX5 yX5_get wsX5_get) := goodIn_app (goodIn_of _ (by decide +kernel)) ggX4_matchLength_X5_get
theorem dX4_matchLength_0 : decode cX4_matchLength 0 = .ok (.iload_n 2, 1) := by decide +kernel
theorem dX4_matchLength_1 : decode cX4_matchLength 1 = .ok (.istore 4, 2) := by decide +kernel
theorem dX4_matchLength_3 : decode cX4_matchLength 3 = .ok (.iload 4, 2) := by decide +kernel
theorem dX4_matchLength_5 : decode cX4_matchLength 5 = .ok (.iload_n 3, 1) := by decide +kernel
theorem dX4_matchLength_6 : decode cX4_matchLength 6 = .ok (.if_icmp .ge 34, 3) := by decide +kernel
theorem dX4_matchLength_9 : decode cX4_matchLength 9 = .ok (.aload_n 0, 1) := by decide +kernel
theorem dX4_matchLength_10 : decode cX4_matchLength 10 = .ok (.getfield 15, 3) := by decide +kernel
theorem dX4_matchLength_13 : decode cX4_matchLength 13 = .ok (.iload 4, 2) := by decide +kernel
theorem dX4_matchLength_15 : decode cX4_matchLength 15 = .ok (.invokevirtual 120, 3) := by decide +kernel
theorem dX4_matchLength_18 : decode cX4_matchLength 18 = .ok (.aload_n 0, 1) := by decide +kernel
theorem dX4_matchLength_19 : decode cX4_matchLength 19 = .ok (.getfield 15, 3) := by decide +kernel
theorem dX4_matchLength_22 : decode cX4_matchLength 22 = .ok (.iload 4, 2) := by decide +kernel
theorem dX4_matchLength_24 : decode cX4_matchLength 24 = .ok (.iload_n 2, 1) := by decide +kernel
theorem dX4_matchLength_25 : decode cX4_matchLength 25 = .ok (.isub, 1) := by decide +kernel
theorem dX4_matchLength_26 : decode cX4_matchLength 26 = .ok (.iload_n 1, 1) := by decide +kernel
theorem dX4_matchLength_27 : decode cX4_matchLength 27 = .ok (.iadd, 1) := by decide +kernel
theorem dX4_matchLength_28 : decode cX4_matchLength 28 = .ok (.invokevirtual 120, 3) := by decide +kernel
theorem dX4_matchLength_31 : decode cX4_matchLength 31 = .ok (.if_icmp .ne 9, 3) := by decide +kernel
theorem dX4_matchLength_34 : decode cX4_matchLength 34 = .ok (.iinc 4 1, 3) := by decide +kernel
theorem dX4_matchLength_37 : decode cX4_matchLength 37 = .ok (.goto (-34), 3) := by decide +kernel
theorem dX4_matchLength_40 : decode cX4_matchLength 40 = .ok (.iload 4, 2) := by decide +kernel
theorem dX4_matchLength_42 : decode cX4_matchLength 42 = .ok (.iload_n 2, 1) := by decide +kernel
theorem dX4_matchLength_43 : decode cX4_matchLength 43 = .ok (.isub, 1) := by decide +kernel
theorem dX4_matchLength_44 : decode cX4_matchLength 44 = .ok (.ireturn, 1) := by decide +kernel
set_option maxRecDepth 20000 in
theorem ggX4_writeHead_X5_addNumber : GoodIn wsX4_writeHead wsX5_addNumber := goodIn_r _ [10, 11, 12, 13, 9, 14, 15, 16, 55, 56] (by decide +kernel) (by decide +kernel)
set_option maxRecDepth 20000 in
theorem gX4_writeHead_X5_addNumber : GoodIn wsX4_writeHead (wsV RX4 125 RX5 yX5_addNumber wsX5_addNumber) := goodIn_app (goodIn_of _ (by decide +kernel)) ggX4_writeHead_X5_addNumber
set_option maxRecDepth 20000 in
theorem ggX4_writeHead_X5_add : GoodIn wsX4_writeHead wsX5_add := goodIn_r _ [14, 15, 16, 55, 56] (by decide +kernel) (by decide +kernel)
set_option maxRecDepth 20000 in
theorem gX4_writeHead_X5_add : GoodIn wsX4_writeHead (wsV RX4 129 RX5 yX5_add wsX5_add) := goodIn_app (goodIn_of _ (by decide +kernel)) ggX4_writeHead_X5_add
set_option maxRecDepth 20000 in
theorem ggX4_writeHead_X3_code : GoodIn wsX4_writeHead wsX3_code := goodIn_r _ [22, 23, 57] (by decide +kernel) (by decide +kernel)
set_option maxRecDepth 20000 in
theorem gX4_writeHead_X3_code : GoodIn wsX4_writeHead (wsV RX4 131 RX3 yX3_code wsX3_code) := goodIn_app (goodIn_of _ (by decide +kernel)) ggX4_writeHead_X3_code
set_option maxRecDepth 20000 in
theorem ggX4_writeHead_X5_hashOf : GoodIn wsX4_writeHead wsX5_hashOf := goodIn_r _ [27, 28, 29, 30, 16, 31, 32, 33, 34, 35, 9, 36, 15, 37, 38, 39, 40, 41, 42, 43, 44, 45, 46, 47, 55, 56] (by decide +kernel) (by decide +kernel)
set_option maxRecDepth 20000 in
theorem gX4_writeHead_X5_hashOf : GoodIn wsX4_writeHead (wsV RX4 134 RX5 yX5_hashOf wsX5_hashOf) := goodIn_app (goodIn_of _ (by decide +kernel)) ggX4_writeHead_X5_hashOf
theorem dX4_writeHead_0 : decode cX4_writeHead 0 = .ok (.aload_n 0, 1) := by decide +kernel
theorem dX4_writeHead_1 : decode cX4_writeHead 1 = .ok (.getfield 19, 3) := by decide +kernel
theorem dX4_writeHead_4 : decode cX4_writeHead 4 = .ok (.ldc2_w 123, 3) := by decide +kernel
theorem dX4_writeHead_7 : decode cX4_writeHead 7 = .ok (.iconst 4, 1) := by decide +kernel
theorem dX4_writeHead_8 : decode cX4_writeHead 8 = .ok (.invokevirtual 125, 3) := by decide +kernel
theorem dX4_writeHead_11 : decode cX4_writeHead 11 = .ok (.aload_n 0, 1) := by decide +kernel
theorem dX4_writeHead_12 : decode cX4_writeHead 12 = .ok (.getfield 19, 3) := by decide +kernel
theorem dX4_writeHead_15 : decode cX4_writeHead 15 = .ok (.getfield 61, 3) := by decide +kernel
theorem dX4_writeHead_18 : decode cX4_writeHead 18 = .ok (.istore_n 2, 1) := by decide +kernel
theorem dX4_writeHead_19 : decode cX4_writeHead 19 = .ok (.aload_n 0, 1) := by decide +kernel
theorem dX4_writeHead_20 : decode cX4_writeHead 20 = .ok (.getfield 19, 3) := by decide +kernel
theorem dX4_writeHead_23 : decode cX4_writeHead 23 = .ok (.iload_n 1, 1) := by decide +kernel
theorem dX4_writeHead_24 : decode cX4_writeHead 24 = .ok (.invokevirtual 129, 3) := by decide +kernel
theorem dX4_writeHead_27 : decode cX4_writeHead 27 = .ok (.aload_n 0, 1) := by decide +kernel
theorem dX4_writeHead_28 : decode cX4_writeHead 28 = .ok (.getfield 19, 3) := by decide +kernel
theorem dX4_writeHead_31 : decode cX4_writeHead 31 = .ok (.bipush 16, 2) := by decide +kernel
theorem dX4_writeHead_33 : decode cX4_writeHead 33 = .ok (.aload_n 0, 1) := by decide +kernel
theorem dX4_writeHead_34 : decode cX4_writeHead 34 = .ok (.getfield 22, 3) := by decide +kernel
theorem dX4_writeHead_37 : decode cX4_writeHead 37 = .ok (.invokevirtual 131, 3) := by decide +kernel
theorem dX4_writeHead_40 : decode cX4_writeHead 40 = .ok (.imul, 1) := by decide +kernel
theorem dX4_writeHead_41 : decode cX4_writeHead 41 = .ok (.invokevirtual 129, 3) := by decide +kernel
theorem dX4_writeHead_44 : decode cX4_writeHead 44 = .ok (.iload_n 1, 1) := by decide +kernel
theorem dX4_writeHead_45 : decode cX4_writeHead 45 = .ok (.bipush 8, 2) := by decide +kernel
theorem dX4_writeHead_47 : decode cX4_writeHead 47 = .ok (.iand, 1) := by decide +kernel
theorem dX4_writeHead_48 : decode cX4_writeHead 48 = .ok (.ifCond .eq 20, 3) := by decide +kernel
theorem dX4_writeHead_51 : decode cX4_writeHead 51 = .ok (.aload_n 0, 1) := by decide +kernel
theorem dX4_writeHead_52 : decode cX4_writeHead 52 = .ok (.getfield 19, 3) := by decide +kernel
theorem dX4_writeHead_55 : decode cX4_writeHead 55 = .ok (.aload_n 0, 1) := by decide +kernel
theorem dX4_writeHead_56 : decode cX4_writeHead 56 = .ok (.getfield 15, 3) := by decide +kernel
theorem dX4_writeHead_59 : decode cX4_writeHead 59 = .ok (.getfield 61, 3) := by decide +kernel
theorem dX4_writeHead_62 : decode cX4_writeHead 62 = .ok (.i2l, 1) := by decide +kernel
theorem dX4_writeHead_63 : decode cX4_writeHead 63 = .ok (.bipush 8, 2) := by decide +kernel
theorem dX4_writeHead_65 : decode cX4_writeHead 65 = .ok (.invokevirtual 125, 3) := by decide +kernel
theorem dX4_writeHead_68 : decode cX4_writeHead 68 = .ok (.aload_n 0, 1) := by decide +kernel
theorem dX4_writeHead_69 : decode cX4_writeHead 69 = .ok (.getfield 19, 3) := by decide +kernel
theorem dX4_writeHead_72 : decode cX4_writeHead 72 = .ok (.aload_n 0, 1) := by decide +kernel
theorem dX4_writeHead_73 : decode cX4_writeHead 73 = .ok (.getfield 19, 3) := by decide +kernel
theorem dX4_writeHead_76 : decode cX4_writeHead 76 = .ok (.iload_n 2, 1) := by decide +kernel
theorem dX4_writeHead_77 : decode cX4_writeHead 77 = .ok (.aload_n 0, 1) := by decide +kernel
theorem dX4_writeHead_78 : decode cX4_writeHead 78 = .ok (.getfield 19, 3) := by decide +kernel
theorem dX4_writeHead_81 : decode cX4_writeHead 81 = .ok (.getfield 61, 3) := by decide +kernel
theorem dX4_writeHead_84 : decode cX4_writeHead 84 = .ok (.iload_n 2, 1) := by decide +kernel
theorem dX4_writeHead_85 : decode cX4_writeHead 85 = .ok (.isub, 1) := by decide +kernel
theorem dX4_writeHead_86 : decode cX4_writeHead 86 = .ok (.iconst 0, 1) := by decide +kernel
theorem dX4_writeHead_87 : decode cX4_writeHead 87 = .ok (.invokevirtual 134, 3) := by decide +kernel
theorem dX4_writeHead_90 : decode cX4_writeHead 90 = .ok (.bipush 8, 2) := by decide +kernel
theorem dX4_writeHead_92 : decode cX4_writeHead 92 = .ok (.iushr, 1) := by decide +kernel
theorem dX4_writeHead_93 : decode cX4_writeHead 93 = .ok (.invokevirtual 129, 3) := by decide +kernel
theorem dX4_writeHead_96 : decode cX4_writeHead 96 = .ok (.return_, 1) := by decide +kernel
set_option maxRecDepth 20000 in
theorem ggX4_writeBlocks_X3_part : GoodIn wsX4_writeBlocks wsX3_part := goodIn_r _ [18, 19, 133] (by decide +kernel) (by decide +kernel)
set_option maxRecDepth 20000 in
theorem gX4_writeBlocks_X3_part : GoodIn wsX4_writeBlocks (wsV RX4 65 RX3 yX3_part wsX3_part) := goodIn_app (goodIn_of _ (by decide +kernel)) ggX4_writeBlocks_X3_part
set_option maxRecDepth 20000 in
theorem ggX4_writeBlocks_X6_startOf : GoodIn wsX4_writeBlocks wsX6_startOf := goodIn_r _ [24, 25, 26, 27, 28, 23, 29, 30, 31, 127, 128, 129, 130, 131, 132] (by decide +kernel) (by decide +kernel)
set_option maxRecDepth 20000 in
theorem gX4_writeBlocks_X6_startOf : GoodIn wsX4_writeBlocks (wsV RX4 137 RX6 yX6_startOf wsX6_startOf) := goodIn_app (goodIn_of _ (by decide +kernel)) ggX4_writeBlocks_X6_startOf
set_option maxRecDepth 20000 in
theorem ggX4_writeBlocks_X4_writeBlock : GoodIn wsX4_writeBlocks wsX4_writeBlock := goodIn_r _ [36, 11, 13, 37, 6, 38, 39, 40, 23, 41, 42, 43, 44, 45, 46, 26, 27, 28, 29, 30, 31, 47, 48, 49, 50, 51, 52, 53, 54, 55, 56, 57, 58, 25, 59, 60, 61, 62, 63, 64, 65, 66, 67, 68, 69, 70, 71, 72, 73, 74, 75, 76, 77, 78, 79, 80, 81, 82, 83, 84, 85, 86, 87, 88, 35, 89, 8, 9, 4, 10, 90, 91, 92, 93, 94, 95, 96, 97, 20, 21, 22, 24, 118, 119, 120, 121, 122, 123, 124, 127, 128, 129, 130, 131, 132, 125, 126] (by decide +kernel) (by decide +kernel)
set_option maxRecDepth 20000 in
theorem gX4_writeBlocks_X4_writeBlock : GoodIn wsX4_writeBlocks (wsV RX4 140 RX4 yX4_writeBlock wsX4_writeBlock) := goodIn_app (goodIn_of _ (by decide +kernel)) ggX4_writeBlocks_X4_writeBlock
set_option maxRecDepth 20000 in
theorem ggX4_writeBlocks_X5_hashOf : GoodIn wsX4_writeBlocks wsX5_hashOf := goodIn_r _ [101, 102, 103, 104, 69, 105, 106, 78, 79, 80, 62, 81, 68, 107, 108, 109, 110, 111, 112, 113, 114, 115, 116, 117, 125, 126] (by decide +kernel) (by decide +kernel)
set_option maxRecDepth 20000 in
theorem gX4_writeBlocks_X5_hashOf : GoodIn wsX4_writeBlocks (wsV RX4 134 RX5 yX5_hashOf wsX5_hashOf) := goodIn_app (goodIn_of _ (by decide +kernel)) ggX4_writeBlocks_X5_hashOf
set_option maxRecDepth 20000 in
theorem ggX4_writeBlocks_X5_addNumber : GoodIn wsX4_writeBlocks wsX5_addNumber := goodIn_r _ [63, 64, 65, 66, 62, 67, 68, 69, 125, 126] (by decide +kernel) (by decide +kernel)
set_option maxRecDepth 20000 in
theorem gX4_writeBlocks_X5_addNumber : GoodIn wsX4_writeBlocks (wsV RX4 125 RX5 yX5_addNumber wsX5_addNumber) := goodIn_app (goodIn_of _ (by decide +kernel)) ggX4_writeBlocks_X5_addNumber
theorem dX4_writeBlocks_0 : decode cX4_writeBlocks 0 = .ok (.iconst 1, 1) := by decide +kernel
theorem dX4_writeBlocks_1 : decode cX4_writeBlocks 1 = .ok (.aload_n 0, 1) := by decide +kernel
theorem dX4_writeBlocks_2 : decode cX4_writeBlocks 2 = .ok (.getfield 22, 3) := by decide +kernel
theorem dX4_writeBlocks_5 : decode cX4_writeBlocks 5 = .ok (.invokevirtual 65, 3) := by decide +kernel
theorem dX4_writeBlocks_8 : decode cX4_writeBlocks 8 = .ok (.invokestatic 68, 3) := by decide +kernel
theorem dX4_writeBlocks_11 : decode cX4_writeBlocks 11 = .ok (.istore_n 2, 1) := by decide +kernel
theorem dX4_writeBlocks_12 : decode cX4_writeBlocks 12 = .ok (.iconst 0, 1) := by decide +kernel
theorem dX4_writeBlocks_13 : decode cX4_writeBlocks 13 = .ok (.istore_n 3, 1) := by decide +kernel
theorem dX4_writeBlocks_14 : decode cX4_writeBlocks 14 = .ok (.iconst 0, 1) := by decide +kernel
theorem dX4_writeBlocks_15 : decode cX4_writeBlocks 15 = .ok (.istore 4, 2) := by decide +kernel
theorem dX4_writeBlocks_17 : decode cX4_writeBlocks 17 = .ok (.iload 4, 2) := by decide +kernel
theorem dX4_writeBlocks_19 : decode cX4_writeBlocks 19 = .ok (.aload_n 0, 1) := by decide +kernel
theorem dX4_writeBlocks_20 : decode cX4_writeBlocks 20 = .ok (.getfield 15, 3) := by decide +kernel
theorem dX4_writeBlocks_23 : decode cX4_writeBlocks 23 = .ok (.getfield 61, 3) := by decide +kernel
theorem dX4_writeBlocks_26 : decode cX4_writeBlocks 26 = .ok (.if_icmp .ge 124, 3) := by decide +kernel
theorem dX4_writeBlocks_29 : decode cX4_writeBlocks 29 = .ok (.iload 4, 2) := by decide +kernel
theorem dX4_writeBlocks_31 : decode cX4_writeBlocks 31 = .ok (.iload_n 2, 1) := by decide +kernel
theorem dX4_writeBlocks_32 : decode cX4_writeBlocks 32 = .ok (.iadd, 1) := by decide +kernel
theorem dX4_writeBlocks_33 : decode cX4_writeBlocks 33 = .ok (.aload_n 0, 1) := by decide +kernel
theorem dX4_writeBlocks_34 : decode cX4_writeBlocks 34 = .ok (.getfield 15, 3) := by decide +kernel
theorem dX4_writeBlocks_37 : decode cX4_writeBlocks 37 = .ok (.getfield 61, 3) := by decide +kernel
theorem dX4_writeBlocks_40 : decode cX4_writeBlocks 40 = .ok (.invokestatic 91, 3) := by decide +kernel
theorem dX4_writeBlocks_43 : decode cX4_writeBlocks 43 = .ok (.istore 5, 2) := by decide +kernel
theorem dX4_writeBlocks_45 : decode cX4_writeBlocks 45 = .ok (.iload_n 3, 1) := by decide +kernel
theorem dX4_writeBlocks_46 : decode cX4_writeBlocks 46 = .ok (.istore 6, 2) := by decide +kernel
theorem dX4_writeBlocks_48 : decode cX4_writeBlocks 48 = .ok (.iload 6, 2) := by decide +kernel
theorem dX4_writeBlocks_50 : decode cX4_writeBlocks 50 = .ok (.aload_n 0, 1) := by decide +kernel
theorem dX4_writeBlocks_51 : decode cX4_writeBlocks 51 = .ok (.getfield 26, 3) := by decide +kernel
theorem dX4_writeBlocks_54 : decode cX4_writeBlocks 54 = .ok (.getfield 94, 3) := by decide +kernel
theorem dX4_writeBlocks_57 : decode cX4_writeBlocks 57 = .ok (.if_icmp .ge 23, 3) := by decide +kernel
theorem dX4_writeBlocks_60 : decode cX4_writeBlocks 60 = .ok (.aload_n 0, 1) := by decide +kernel
theorem dX4_writeBlocks_61 : decode cX4_writeBlocks 61 = .ok (.getfield 26, 3) := by decide +kernel
theorem dX4_writeBlocks_64 : decode cX4_writeBlocks 64 = .ok (.iload 6, 2) := by decide +kernel
theorem dX4_writeBlocks_66 : decode cX4_writeBlocks 66 = .ok (.invokevirtual 137, 3) := by decide +kernel
theorem dX4_writeBlocks_69 : decode cX4_writeBlocks 69 = .ok (.iload 5, 2) := by decide +kernel
theorem dX4_writeBlocks_71 : decode cX4_writeBlocks 71 = .ok (.if_icmp .ge 9, 3) := by decide +kernel
theorem dX4_writeBlocks_74 : decode cX4_writeBlocks 74 = .ok (.iinc 6 1, 3) := by decide +kernel
theorem dX4_writeBlocks_77 : decode cX4_writeBlocks 77 = .ok (.goto (-29), 3) := by decide +kernel
theorem dX4_writeBlocks_80 : decode cX4_writeBlocks 80 = .ok (.aload_n 0, 1) := by decide +kernel
theorem dX4_writeBlocks_81 : decode cX4_writeBlocks 81 = .ok (.getfield 19, 3) := by decide +kernel
theorem dX4_writeBlocks_84 : decode cX4_writeBlocks 84 = .ok (.getfield 61, 3) := by decide +kernel
theorem dX4_writeBlocks_87 : decode cX4_writeBlocks 87 = .ok (.iconst 4, 1) := by decide +kernel
theorem dX4_writeBlocks_88 : decode cX4_writeBlocks 88 = .ok (.iadd, 1) := by decide +kernel
theorem dX4_writeBlocks_89 : decode cX4_writeBlocks 89 = .ok (.istore 7, 2) := by decide +kernel
theorem dX4_writeBlocks_91 : decode cX4_writeBlocks 91 = .ok (.aload_n 0, 1) := by decide +kernel
theorem dX4_writeBlocks_92 : decode cX4_writeBlocks 92 = .ok (.iload 4, 2) := by decide +kernel
theorem dX4_writeBlocks_94 : decode cX4_writeBlocks 94 = .ok (.iload 5, 2) := by decide +kernel
theorem dX4_writeBlocks_96 : decode cX4_writeBlocks 96 = .ok (.iload_n 3, 1) := by decide +kernel
theorem dX4_writeBlocks_97 : decode cX4_writeBlocks 97 = .ok (.iload 6, 2) := by decide +kernel
theorem dX4_writeBlocks_99 : decode cX4_writeBlocks 99 = .ok (.invokevirtual 140, 3) := by decide +kernel
theorem dX4_writeBlocks_102 : decode cX4_writeBlocks 102 = .ok (.iload_n 1, 1) := by decide +kernel
theorem dX4_writeBlocks_103 : decode cX4_writeBlocks 103 = .ok (.bipush 16, 2) := by decide +kernel
theorem dX4_writeBlocks_105 : decode cX4_writeBlocks 105 = .ok (.iand, 1) := by decide +kernel
theorem dX4_writeBlocks_106 : decode cX4_writeBlocks 106 = .ok (.ifCond .eq 32, 3) := by decide +kernel
theorem dX4_writeBlocks_109 : decode cX4_writeBlocks 109 = .ok (.aload_n 0, 1) := by decide +kernel
theorem dX4_writeBlocks_110 : decode cX4_writeBlocks 110 = .ok (.getfield 19, 3) := by decide +kernel
theorem dX4_writeBlocks_113 : decode cX4_writeBlocks 113 = .ok (.aload_n 0, 1) := by decide +kernel
theorem dX4_writeBlocks_114 : decode cX4_writeBlocks 114 = .ok (.getfield 19, 3) := by decide +kernel
theorem dX4_writeBlocks_117 : decode cX4_writeBlocks 117 = .ok (.iload 7, 2) := by decide +kernel
theorem dX4_writeBlocks_119 : decode cX4_writeBlocks 119 = .ok (.aload_n 0, 1) := by decide +kernel
theorem dX4_writeBlocks_120 : decode cX4_writeBlocks 120 = .ok (.getfield 19, 3) := by decide +kernel
theorem dX4_writeBlocks_123 : decode cX4_writeBlocks 123 = .ok (.getfield 61, 3) := by decide +kernel
theorem dX4_writeBlocks_126 : decode cX4_writeBlocks 126 = .ok (.iload 7, 2) := by decide +kernel
theorem dX4_writeBlocks_128 : decode cX4_writeBlocks 128 = .ok (.isub, 1) := by decide +kernel
theorem dX4_writeBlocks_129 : decode cX4_writeBlocks 129 = .ok (.iconst 0, 1) := by decide +kernel
theorem dX4_writeBlocks_130 : decode cX4_writeBlocks 130 = .ok (.invokevirtual 134, 3) := by decide +kernel
theorem dX4_writeBlocks_133 : decode cX4_writeBlocks 133 = .ok (.i2l, 1) := by decide +kernel
theorem dX4_writeBlocks_134 : decode cX4_writeBlocks 134 = .ok (.iconst 4, 1) := by decide +kernel
theorem dX4_writeBlocks_135 : decode cX4_writeBlocks 135 = .ok (.invokevirtual 125, 3) := by decide +kernel
theorem dX4_writeBlocks_138 : decode cX4_writeBlocks 138 = .ok (.iload 6, 2) := by decide +kernel
theorem dX4_writeBlocks_140 : decode cX4_writeBlocks 140 = .ok (.istore_n 3, 1) := by decide +kernel
theorem dX4_writeBlocks_141 : decode cX4_writeBlocks 141 = .ok (.iload 4, 2) := by decide +kernel
theorem dX4_writeBlocks_143 : decode cX4_writeBlocks 143 = .ok (.iload_n 2, 1) := by decide +kernel
theorem dX4_writeBlocks_144 : decode cX4_writeBlocks 144 = .ok (.iadd, 1) := by decide +kernel
theorem dX4_writeBlocks_145 : decode cX4_writeBlocks 145 = .ok (.istore 4, 2) := by decide +kernel
theorem dX4_writeBlocks_147 : decode cX4_writeBlocks 147 = .ok (.goto (-130), 3) := by decide +kernel
theorem dX4_writeBlocks_150 : decode cX4_writeBlocks 150 = .ok (.return_, 1) := by decide +kernel
set_option maxRecDepth 20000 in
theorem ggX4_writeBlock_X6_packedSize : GoodIn wsX4_writeBlock wsX6_packedSize := goodIn_r _ [9, 10, 11, 12, 8, 13, 14, 15, 16, 17, 18, 19, 20, 21, 22, 23, 24, 25, 26, 27, 28, 29, 30, 31, 32, 33, 89, 90, 91, 92, 93, 94] (by decide +kernel) (by decide +kernel)
set_option maxRecDepth 20000 in
theorem gX4_writeBlock_X6_packedSize : GoodIn wsX4_writeBlock (wsV RX4 105 RX6 yX6_packedSize wsX6_packedSize) := goodIn_app (goodIn_of _ (by decide +kernel)) ggX4_writeBlock_X6_packedSize
set_option maxRecDepth 20000 in
theorem ggX4_writeBlock_X5_addNumber : GoodIn wsX4_writeBlock wsX5_addNumber := goodIn_r _ [38, 39, 40, 41, 37, 42, 43, 44, 95, 96] (by decide +kernel) (by decide +kernel)
set_option maxRecDepth 20000 in
theorem gX4_writeBlock_X5_addNumber : GoodIn wsX4_writeBlock (wsV RX4 125 RX5 yX5_addNumber wsX5_addNumber) := goodIn_app (goodIn_of _ (by decide +kernel)) ggX4_writeBlock_X5_addNumber
set_option maxRecDepth 20000 in
theorem ggX4_writeBlock_X5_addPiece : GoodIn wsX4_writeBlock wsX5_addPiece := goodIn_r _ [48, 44, 43, 49, 50, 51, 52, 53, 54, 55, 37, 56, 57, 58, 59, 60, 95, 96] (by decide +kernel) (by decide +kernel)
set_option maxRecDepth 20000 in
theorem gX4_writeBlock_X5_addPiece : GoodIn wsX4_writeBlock (wsV RX4 145 RX5 yX5_addPiece wsX5_addPiece) := goodIn_app (goodIn_of _ (by decide +kernel)) ggX4_writeBlock_X5_addPiece
set_option maxRecDepth 20000 in
theorem ggX4_writeBlock_X4_writeSequence : GoodIn wsX4_writeBlock wsX4_writeSequence := goodIn_r _ [65, 1, 2, 66, 67, 68, 69, 4, 70, 11, 12, 8, 13, 14, 15, 16, 17, 18, 19, 20, 71, 25, 26, 27, 28, 72, 30, 31, 32, 33, 73, 40, 41, 37, 42, 43, 44, 74, 75, 76, 64, 77, 78, 79, 80, 81, 45, 46, 47, 48, 49, 50, 51, 52, 53, 54, 55, 56, 57, 58, 59, 60, 34, 35, 36, 38, 39, 82, 83, 84, 85, 86, 87, 88, 89, 90, 91, 92, 93, 94, 95, 96] (by decide +kernel) (by decide +kernel)
set_option maxRecDepth 20000 in
theorem gX4_writeBlock_X4_writeSequence : GoodIn wsX4_writeBlock (wsV RX4 149 RX4 yX4_writeSequence wsX4_writeSequence) := goodIn_app (goodIn_of _ (by decide +kernel)) ggX4_writeBlock_X4_writeSequence
theorem dX4_writeBlock_0 : decode cX4_writeBlock 0 = .ok (.aload_n 0, 1) := by decide +kernel
theorem dX4_writeBlock_1 : decode cX4_writeBlock 1 = .ok (.getfield 26, 3) := by decide +kernel
theorem dX4_writeBlock_4 : decode cX4_writeBlock 4 = .ok (.iload_n 3, 1) := by decide +kernel
theorem dX4_writeBlock_5 : decode cX4_writeBlock 5 = .ok (.iload 4, 2) := by decide +kernel
theorem dX4_writeBlock_7 : decode cX4_writeBlock 7 = .ok (.invokevirtual 105, 3) := by decide +kernel
theorem dX4_writeBlock_10 : decode cX4_writeBlock 10 = .ok (.istore 5, 2) := by decide +kernel
theorem dX4_writeBlock_12 : decode cX4_writeBlock 12 = .ok (.iload 5, 2) := by decide +kernel
theorem dX4_writeBlock_14 : decode cX4_writeBlock 14 = .ok (.iload_n 2, 1) := by decide +kernel
theorem dX4_writeBlock_15 : decode cX4_writeBlock 15 = .ok (.iload_n 1, 1) := by decide +kernel
theorem dX4_writeBlock_16 : decode cX4_writeBlock 16 = .ok (.isub, 1) := by decide +kernel
theorem dX4_writeBlock_17 : decode cX4_writeBlock 17 = .ok (.if_icmp .lt 34, 3) := by decide +kernel
theorem dX4_writeBlock_20 : decode cX4_writeBlock 20 = .ok (.aload_n 0, 1) := by decide +kernel
theorem dX4_writeBlock_21 : decode cX4_writeBlock 21 = .ok (.getfield 19, 3) := by decide +kernel
theorem dX4_writeBlock_24 : decode cX4_writeBlock 24 = .ok (.iload_n 2, 1) := by decide +kernel
theorem dX4_writeBlock_25 : decode cX4_writeBlock 25 = .ok (.iload_n 1, 1) := by decide +kernel
theorem dX4_writeBlock_26 : decode cX4_writeBlock 26 = .ok (.isub, 1) := by decide +kernel
theorem dX4_writeBlock_27 : decode cX4_writeBlock 27 = .ok (.ldc 144, 2) := by decide +kernel
theorem dX4_writeBlock_29 : decode cX4_writeBlock 29 = .ok (.ior, 1) := by decide +kernel
theorem dX4_writeBlock_30 : decode cX4_writeBlock 30 = .ok (.i2l, 1) := by decide +kernel
theorem dX4_writeBlock_31 : decode cX4_writeBlock 31 = .ok (.iconst 4, 1) := by decide +kernel
theorem dX4_writeBlock_32 : decode cX4_writeBlock 32 = .ok (.invokevirtual 125, 3) := by decide +kernel
theorem dX4_writeBlock_35 : decode cX4_writeBlock 35 = .ok (.aload_n 0, 1) := by decide +kernel
theorem dX4_writeBlock_36 : decode cX4_writeBlock 36 = .ok (.getfield 19, 3) := by decide +kernel
theorem dX4_writeBlock_39 : decode cX4_writeBlock 39 = .ok (.aload_n 0, 1) := by decide +kernel
theorem dX4_writeBlock_40 : decode cX4_writeBlock 40 = .ok (.getfield 15, 3) := by decide +kernel
theorem dX4_writeBlock_43 : decode cX4_writeBlock 43 = .ok (.iload_n 1, 1) := by decide +kernel
theorem dX4_writeBlock_44 : decode cX4_writeBlock 44 = .ok (.iload_n 2, 1) := by decide +kernel
theorem dX4_writeBlock_45 : decode cX4_writeBlock 45 = .ok (.iload_n 1, 1) := by decide +kernel
theorem dX4_writeBlock_46 : decode cX4_writeBlock 46 = .ok (.isub, 1) := by decide +kernel
theorem dX4_writeBlock_47 : decode cX4_writeBlock 47 = .ok (.invokevirtual 145, 3) := by decide +kernel
theorem dX4_writeBlock_50 : decode cX4_writeBlock 50 = .ok (.return_, 1) := by decide +kernel
theorem dX4_writeBlock_51 : decode cX4_writeBlock 51 = .ok (.aload_n 0, 1) := by decide +kernel
theorem dX4_writeBlock_52 : decode cX4_writeBlock 52 = .ok (.getfield 19, 3) := by decide +kernel
theorem dX4_writeBlock_55 : decode cX4_writeBlock 55 = .ok (.iload 5, 2) := by decide +kernel
theorem dX4_writeBlock_57 : decode cX4_writeBlock 57 = .ok (.i2l, 1) := by decide +kernel
theorem dX4_writeBlock_58 : decode cX4_writeBlock 58 = .ok (.iconst 4, 1) := by decide +kernel
theorem dX4_writeBlock_59 : decode cX4_writeBlock 59 = .ok (.invokevirtual 125, 3) := by decide +kernel
theorem dX4_writeBlock_62 : decode cX4_writeBlock 62 = .ok (.iload_n 3, 1) := by decide +kernel
theorem dX4_writeBlock_63 : decode cX4_writeBlock 63 = .ok (.istore 6, 2) := by decide +kernel
theorem dX4_writeBlock_65 : decode cX4_writeBlock 65 = .ok (.iload 6, 2) := by decide +kernel
theorem dX4_writeBlock_67 : decode cX4_writeBlock 67 = .ok (.iload 4, 2) := by decide +kernel
theorem dX4_writeBlock_69 : decode cX4_writeBlock 69 = .ok (.if_icmp .ge 15, 3) := by decide +kernel
theorem dX4_writeBlock_72 : decode cX4_writeBlock 72 = .ok (.aload_n 0, 1) := by decide +kernel
theorem dX4_writeBlock_73 : decode cX4_writeBlock 73 = .ok (.iload 6, 2) := by decide +kernel
theorem dX4_writeBlock_75 : decode cX4_writeBlock 75 = .ok (.invokevirtual 149, 3) := by decide +kernel
theorem dX4_writeBlock_78 : decode cX4_writeBlock 78 = .ok (.iinc 6 1, 3) := by decide +kernel
theorem dX4_writeBlock_81 : decode cX4_writeBlock 81 = .ok (.goto (-16), 3) := by decide +kernel
theorem dX4_writeBlock_84 : decode cX4_writeBlock 84 = .ok (.return_, 1) := by decide +kernel
set_option maxRecDepth 20000 in
theorem ggX4_writeSequence_X6_literalsOf : GoodIn wsX4_writeSequence wsX6_literalsOf := goodIn_r _ [12, 13, 14, 15, 16, 11, 17, 18, 19, 74, 75, 76, 77, 78, 79] (by decide +kernel) (by decide +kernel)
set_option maxRecDepth 20000 in
theorem gX4_writeSequence_X6_literalsOf : GoodIn wsX4_writeSequence (wsV RX4 152 RX6 yX6_literalsOf wsX6_literalsOf) := goodIn_app (goodIn_of _ (by decide +kernel)) ggX4_writeSequence_X6_literalsOf
set_option maxRecDepth 20000 in
theorem ggX4_writeSequence_X6_offsetOf : GoodIn wsX4_writeSequence wsX6_offsetOf := goodIn_r _ [23, 24, 14, 15, 16, 11, 17, 18, 19, 74, 75, 76, 77, 78, 79] (by decide +kernel) (by decide +kernel)
set_option maxRecDepth 20000 in
theorem gX4_writeSequence_X6_offsetOf : GoodIn wsX4_writeSequence (wsV RX4 155 RX6 yX6_offsetOf wsX6_offsetOf) := goodIn_app (goodIn_of _ (by decide +kernel)) ggX4_writeSequence_X6_offsetOf
set_option maxRecDepth 20000 in
theorem ggX4_writeSequence_X6_matchOf : GoodIn wsX4_writeSequence wsX6_matchOf := goodIn_r _ [28, 29, 13, 14, 15, 16, 11, 17, 18, 19, 74, 75, 76, 77, 78, 79] (by decide +kernel) (by decide +kernel)
set_option maxRecDepth 20000 in
theorem gX4_writeSequence_X6_matchOf : GoodIn wsX4_writeSequence (wsV RX4 158 RX6 yX6_matchOf wsX6_matchOf) := goodIn_app (goodIn_of _ (by decide +kernel)) ggX4_writeSequence_X6_matchOf
set_option maxRecDepth 20000 in
theorem ggX4_writeSequence_X5_add : GoodIn wsX4_writeSequence wsX5_add := goodIn_r _ [34, 35, 36, 80, 81] (by decide +kernel) (by decide +kernel)
set_option maxRecDepth 20000 in
theorem gX4_writeSequence_X5_add : GoodIn wsX4_writeSequence (wsV RX4 129 RX5 yX5_add wsX5_add) := goodIn_app (goodIn_of _ (by decide +kernel)) ggX4_writeSequence_X5_add
set_option maxRecDepth 20000 in
theorem ggX4_writeSequence_X4_writeMore : GoodIn wsX4_writeSequence wsX4_writeMore := goodIn_r _ [41, 2, 30, 31, 32, 33, 34, 35, 36, 67, 68, 69, 70, 71, 72, 73, 80, 81] (by decide +kernel) (by decide +kernel)
set_option maxRecDepth 20000 in
theorem gX4_writeSequence_X4_writeMore : GoodIn wsX4_writeSequence (wsV RX4 161 RX4 yX4_writeMore wsX4_writeMore) := goodIn_app (goodIn_of _ (by decide +kernel)) ggX4_writeSequence_X4_writeMore
set_option maxRecDepth 20000 in
theorem ggX4_writeSequence_X6_startOf : GoodIn wsX4_writeSequence wsX6_startOf := goodIn_r _ [45, 29, 14, 15, 16, 11, 17, 18, 19, 74, 75, 76, 77, 78, 79] (by decide +kernel) (by decide +kernel)
set_option maxRecDepth 20000 in
theorem gX4_writeSequence_X6_startOf : GoodIn wsX4_writeSequence (wsV RX4 137 RX6 yX6_startOf wsX6_startOf) := goodIn_app (goodIn_of _ (by decide +kernel)) ggX4_writeSequence_X6_startOf
set_option maxRecDepth 20000 in
theorem ggX4_writeSequence_X5_addPiece : GoodIn wsX4_writeSequence wsX5_addPiece := goodIn_r _ [49, 36, 35, 50, 51, 52, 53, 54, 55, 56, 33, 57, 58, 59, 60, 61, 80, 81] (by decide +kernel) (by decide +kernel)
set_option maxRecDepth 20000 in
theorem gX4_writeSequence_X5_addPiece : GoodIn wsX4_writeSequence (wsV RX4 145 RX5 yX5_addPiece wsX5_addPiece) := goodIn_app (goodIn_of _ (by decide +kernel)) ggX4_writeSequence_X5_addPiece
set_option maxRecDepth 20000 in
theorem ggX4_writeSequence_X5_addNumber : GoodIn wsX4_writeSequence wsX5_addNumber := goodIn_r _ [65, 66, 31, 32, 33, 34, 35, 36, 80, 81] (by decide +kernel) (by decide +kernel)
set_option maxRecDepth 20000 in
theorem gX4_writeSequence_X5_addNumber : GoodIn wsX4_writeSequence (wsV RX4 125 RX5 yX5_addNumber wsX5_addNumber) := goodIn_app (goodIn_of _ (by decide +kernel)) ggX4_writeSequence_X5_addNumber
theorem dX4_writeSequence_0 : decode cX4_writeSequence 0 = .ok (.aload_n 0, 1) := by decide +kernel
theorem dX4_writeSequence_1 : decode cX4_writeSequence 1 = .ok (.getfield 26, 3) := by decide +kernel
theorem dX4_writeSequence_4 : decode cX4_writeSequence 4 = .ok (.iload_n 1, 1) := by decide +kernel
theorem dX4_writeSequence_5 : decode cX4_writeSequence 5 = .ok (.invokevirtual 152, 3) := by decide +kernel
theorem dX4_writeSequence_8 : decode cX4_writeSequence 8 = .ok (.istore_n 2, 1) := by decide +kernel
theorem dX4_writeSequence_9 : decode cX4_writeSequence 9 = .ok (.aload_n 0, 1) := by decide +kernel
theorem dX4_writeSequence_10 : decode cX4_writeSequence 10 = .ok (.getfield 26, 3) := by decide +kernel
theorem dX4_writeSequence_13 : decode cX4_writeSequence 13 = .ok (.iload_n 1, 1) := by decide +kernel
theorem dX4_writeSequence_14 : decode cX4_writeSequence 14 = .ok (.invokevirtual 155, 3) := by decide +kernel
theorem dX4_writeSequence_17 : decode cX4_writeSequence 17 = .ok (.istore_n 3, 1) := by decide +kernel
theorem dX4_writeSequence_18 : decode cX4_writeSequence 18 = .ok (.iload_n 3, 1) := by decide +kernel
theorem dX4_writeSequence_19 : decode cX4_writeSequence 19 = .ok (.ifCond .le 16, 3) := by decide +kernel
theorem dX4_writeSequence_22 : decode cX4_writeSequence 22 = .ok (.aload_n 0, 1) := by decide +kernel
theorem dX4_writeSequence_23 : decode cX4_writeSequence 23 = .ok (.getfield 26, 3) := by decide +kernel
theorem dX4_writeSequence_26 : decode cX4_writeSequence 26 = .ok (.iload_n 1, 1) := by decide +kernel
theorem dX4_writeSequence_27 : decode cX4_writeSequence 27 = .ok (.invokevirtual 158, 3) := by decide +kernel
theorem dX4_writeSequence_30 : decode cX4_writeSequence 30 = .ok (.iconst 4, 1) := by decide +kernel
theorem dX4_writeSequence_31 : decode cX4_writeSequence 31 = .ok (.isub, 1) := by decide +kernel
theorem dX4_writeSequence_32 : decode cX4_writeSequence 32 = .ok (.goto 4, 3) := by decide +kernel
theorem dX4_writeSequence_35 : decode cX4_writeSequence 35 = .ok (.iconst 0, 1) := by decide +kernel
theorem dX4_writeSequence_36 : decode cX4_writeSequence 36 = .ok (.istore 4, 2) := by decide +kernel
theorem dX4_writeSequence_38 : decode cX4_writeSequence 38 = .ok (.aload_n 0, 1) := by decide +kernel
theorem dX4_writeSequence_39 : decode cX4_writeSequence 39 = .ok (.getfield 19, 3) := by decide +kernel
theorem dX4_writeSequence_42 : decode cX4_writeSequence 42 = .ok (.iload_n 2, 1) := by decide +kernel
theorem dX4_writeSequence_43 : decode cX4_writeSequence 43 = .ok (.bipush 15, 2) := by decide +kernel
theorem dX4_writeSequence_45 : decode cX4_writeSequence 45 = .ok (.invokestatic 91, 3) := by decide +kernel
theorem dX4_writeSequence_48 : decode cX4_writeSequence 48 = .ok (.iconst 4, 1) := by decide +kernel
theorem dX4_writeSequence_49 : decode cX4_writeSequence 49 = .ok (.ishl, 1) := by decide +kernel
theorem dX4_writeSequence_50 : decode cX4_writeSequence 50 = .ok (.iload 4, 2) := by decide +kernel
theorem dX4_writeSequence_52 : decode cX4_writeSequence 52 = .ok (.bipush 15, 2) := by decide +kernel
theorem dX4_writeSequence_54 : decode cX4_writeSequence 54 = .ok (.invokestatic 91, 3) := by decide +kernel
theorem dX4_writeSequence_57 : decode cX4_writeSequence 57 = .ok (.ior, 1) := by decide +kernel
theorem dX4_writeSequence_58 : decode cX4_writeSequence 58 = .ok (.invokevirtual 129, 3) := by decide +kernel
theorem dX4_writeSequence_61 : decode cX4_writeSequence 61 = .ok (.aload_n 0, 1) := by decide +kernel
theorem dX4_writeSequence_62 : decode cX4_writeSequence 62 = .ok (.iload_n 2, 1) := by decide +kernel
theorem dX4_writeSequence_63 : decode cX4_writeSequence 63 = .ok (.invokevirtual 161, 3) := by decide +kernel
theorem dX4_writeSequence_66 : decode cX4_writeSequence 66 = .ok (.aload_n 0, 1) := by decide +kernel
theorem dX4_writeSequence_67 : decode cX4_writeSequence 67 = .ok (.getfield 19, 3) := by decide +kernel
theorem dX4_writeSequence_70 : decode cX4_writeSequence 70 = .ok (.aload_n 0, 1) := by decide +kernel
theorem dX4_writeSequence_71 : decode cX4_writeSequence 71 = .ok (.getfield 15, 3) := by decide +kernel
theorem dX4_writeSequence_74 : decode cX4_writeSequence 74 = .ok (.aload_n 0, 1) := by decide +kernel
theorem dX4_writeSequence_75 : decode cX4_writeSequence 75 = .ok (.getfield 26, 3) := by decide +kernel
theorem dX4_writeSequence_78 : decode cX4_writeSequence 78 = .ok (.iload_n 1, 1) := by decide +kernel
theorem dX4_writeSequence_79 : decode cX4_writeSequence 79 = .ok (.invokevirtual 137, 3) := by decide +kernel
theorem dX4_writeSequence_82 : decode cX4_writeSequence 82 = .ok (.iload_n 2, 1) := by decide +kernel
theorem dX4_writeSequence_83 : decode cX4_writeSequence 83 = .ok (.invokevirtual 145, 3) := by decide +kernel
theorem dX4_writeSequence_86 : decode cX4_writeSequence 86 = .ok (.iload_n 3, 1) := by decide +kernel
theorem dX4_writeSequence_87 : decode cX4_writeSequence 87 = .ok (.ifCond .le 19, 3) := by decide +kernel
theorem dX4_writeSequence_90 : decode cX4_writeSequence 90 = .ok (.aload_n 0, 1) := by decide +kernel
theorem dX4_writeSequence_91 : decode cX4_writeSequence 91 = .ok (.getfield 19, 3) := by decide +kernel
theorem dX4_writeSequence_94 : decode cX4_writeSequence 94 = .ok (.iload_n 3, 1) := by decide +kernel
theorem dX4_writeSequence_95 : decode cX4_writeSequence 95 = .ok (.i2l, 1) := by decide +kernel
theorem dX4_writeSequence_96 : decode cX4_writeSequence 96 = .ok (.iconst 2, 1) := by decide +kernel
theorem dX4_writeSequence_97 : decode cX4_writeSequence 97 = .ok (.invokevirtual 125, 3) := by decide +kernel
theorem dX4_writeSequence_100 : decode cX4_writeSequence 100 = .ok (.aload_n 0, 1) := by decide +kernel
theorem dX4_writeSequence_101 : decode cX4_writeSequence 101 = .ok (.iload 4, 2) := by decide +kernel
theorem dX4_writeSequence_103 : decode cX4_writeSequence 103 = .ok (.invokevirtual 161, 3) := by decide +kernel
theorem dX4_writeSequence_106 : decode cX4_writeSequence 106 = .ok (.return_, 1) := by decide +kernel
set_option maxRecDepth 20000 in
theorem ggX4_writeMore_X5_add : GoodIn wsX4_writeMore wsX5_add := goodIn_r _ [6, 7, 8, 16, 17] (by decide +kernel) (by decide +kernel)
set_option maxRecDepth 20000 in
theorem gX4_writeMore_X5_add : GoodIn wsX4_writeMore (wsV RX4 129 RX5 yX5_add wsX5_add) := goodIn_app (goodIn_of _ (by decide +kernel)) ggX4_writeMore_X5_add
theorem dX4_writeMore_0 : decode cX4_writeMore 0 = .ok (.iload_n 1, 1) := by decide +kernel
theorem dX4_writeMore_1 : decode cX4_writeMore 1 = .ok (.bipush 15, 2) := by decide +kernel
theorem dX4_writeMore_3 : decode cX4_writeMore 3 = .ok (.if_icmp .ge 4, 3) := by decide +kernel
theorem dX4_writeMore_6 : decode cX4_writeMore 6 = .ok (.return_, 1) := by decide +kernel
theorem dX4_writeMore_7 : decode cX4_writeMore 7 = .ok (.iload_n 1, 1) := by decide +kernel
theorem dX4_writeMore_8 : decode cX4_writeMore 8 = .ok (.bipush 15, 2) := by decide +kernel
theorem dX4_writeMore_10 : decode cX4_writeMore 10 = .ok (.isub, 1) := by decide +kernel
theorem dX4_writeMore_11 : decode cX4_writeMore 11 = .ok (.istore_n 2, 1) := by decide +kernel
theorem dX4_writeMore_12 : decode cX4_writeMore 12 = .ok (.iload_n 2, 1) := by decide +kernel
theorem dX4_writeMore_13 : decode cX4_writeMore 13 = .ok (.sipush 255, 3) := by decide +kernel
theorem dX4_writeMore_16 : decode cX4_writeMore 16 = .ok (.if_icmp .lt 22, 3) := by decide +kernel
theorem dX4_writeMore_19 : decode cX4_writeMore 19 = .ok (.aload_n 0, 1) := by decide +kernel
theorem dX4_writeMore_20 : decode cX4_writeMore 20 = .ok (.getfield 19, 3) := by decide +kernel
theorem dX4_writeMore_23 : decode cX4_writeMore 23 = .ok (.sipush 255, 3) := by decide +kernel
theorem dX4_writeMore_26 : decode cX4_writeMore 26 = .ok (.invokevirtual 129, 3) := by decide +kernel
theorem dX4_writeMore_29 : decode cX4_writeMore 29 = .ok (.iinc 2 (-255), 6) := by decide +kernel
theorem dX4_writeMore_35 : decode cX4_writeMore 35 = .ok (.goto (-23), 3) := by decide +kernel
theorem dX4_writeMore_38 : decode cX4_writeMore 38 = .ok (.aload_n 0, 1) := by decide +kernel
theorem dX4_writeMore_39 : decode cX4_writeMore 39 = .ok (.getfield 19, 3) := by decide +kernel
theorem dX4_writeMore_42 : decode cX4_writeMore 42 = .ok (.iload_n 2, 1) := by decide +kernel
theorem dX4_writeMore_43 : decode cX4_writeMore 43 = .ok (.invokevirtual 129, 3) := by decide +kernel
theorem dX4_writeMore_46 : decode cX4_writeMore 46 = .ok (.return_, 1) := by decide +kernel
set_option maxRecDepth 20000 in
theorem ggX4_writeEnd_X5_addNumber : GoodIn wsX4_writeEnd wsX5_addNumber := goodIn_r _ [8, 9, 10, 11, 7, 12, 13, 14, 46, 47] (by decide +kernel) (by decide +kernel)
set_option maxRecDepth 20000 in
theorem gX4_writeEnd_X5_addNumber : GoodIn wsX4_writeEnd (wsV RX4 125 RX5 yX5_addNumber wsX5_addNumber) := goodIn_app (goodIn_of _ (by decide +kernel)) ggX4_writeEnd_X5_addNumber
set_option maxRecDepth 20000 in
theorem ggX4_writeEnd_X5_hashOf : GoodIn wsX4_writeEnd wsX5_hashOf := goodIn_r _ [18, 19, 20, 21, 14, 22, 23, 24, 25, 26, 7, 27, 13, 28, 29, 30, 31, 32, 33, 34, 35, 36, 37, 38, 46, 47] (by decide +kernel) (by decide +kernel)
set_option maxRecDepth 20000 in
theorem gX4_writeEnd_X5_hashOf : GoodIn wsX4_writeEnd (wsV RX4 134 RX5 yX5_hashOf wsX5_hashOf) := goodIn_app (goodIn_of _ (by decide +kernel)) ggX4_writeEnd_X5_hashOf
theorem dX4_writeEnd_0 : decode cX4_writeEnd 0 = .ok (.aload_n 0, 1) := by decide +kernel
theorem dX4_writeEnd_1 : decode cX4_writeEnd 1 = .ok (.getfield 19, 3) := by decide +kernel
theorem dX4_writeEnd_4 : decode cX4_writeEnd 4 = .ok (.lconst 0, 1) := by decide +kernel
theorem dX4_writeEnd_5 : decode cX4_writeEnd 5 = .ok (.iconst 4, 1) := by decide +kernel
theorem dX4_writeEnd_6 : decode cX4_writeEnd 6 = .ok (.invokevirtual 125, 3) := by decide +kernel
theorem dX4_writeEnd_9 : decode cX4_writeEnd 9 = .ok (.iload_n 1, 1) := by decide +kernel
theorem dX4_writeEnd_10 : decode cX4_writeEnd 10 = .ok (.iconst 4, 1) := by decide +kernel
theorem dX4_writeEnd_11 : decode cX4_writeEnd 11 = .ok (.iand, 1) := by decide +kernel
theorem dX4_writeEnd_12 : decode cX4_writeEnd 12 = .ok (.ifCond .eq 28, 3) := by decide +kernel
theorem dX4_writeEnd_15 : decode cX4_writeEnd 15 = .ok (.aload_n 0, 1) := by decide +kernel
theorem dX4_writeEnd_16 : decode cX4_writeEnd 16 = .ok (.getfield 19, 3) := by decide +kernel
theorem dX4_writeEnd_19 : decode cX4_writeEnd 19 = .ok (.aload_n 0, 1) := by decide +kernel
theorem dX4_writeEnd_20 : decode cX4_writeEnd 20 = .ok (.getfield 15, 3) := by decide +kernel
theorem dX4_writeEnd_23 : decode cX4_writeEnd 23 = .ok (.iconst 0, 1) := by decide +kernel
theorem dX4_writeEnd_24 : decode cX4_writeEnd 24 = .ok (.aload_n 0, 1) := by decide +kernel
theorem dX4_writeEnd_25 : decode cX4_writeEnd 25 = .ok (.getfield 15, 3) := by decide +kernel
theorem dX4_writeEnd_28 : decode cX4_writeEnd 28 = .ok (.getfield 61, 3) := by decide +kernel
theorem dX4_writeEnd_31 : decode cX4_writeEnd 31 = .ok (.iconst 0, 1) := by decide +kernel
theorem dX4_writeEnd_32 : decode cX4_writeEnd 32 = .ok (.invokevirtual 134, 3) := by decide +kernel
theorem dX4_writeEnd_35 : decode cX4_writeEnd 35 = .ok (.i2l, 1) := by decide +kernel
theorem dX4_writeEnd_36 : decode cX4_writeEnd 36 = .ok (.iconst 4, 1) := by decide +kernel
theorem dX4_writeEnd_37 : decode cX4_writeEnd 37 = .ok (.invokevirtual 125, 3) := by decide +kernel
theorem dX4_writeEnd_40 : decode cX4_writeEnd 40 = .ok (.return_, 1) := by decide +kernel
set_option maxRecDepth 20000 in
theorem ggX7_init_X5_init : GoodIn wsX7_init wsX5_init := goodIn_r _ [28, 29, 2, 3, 30, 31, 32, 33, 34, 35, 60, 61] (by decide +kernel) (by decide +kernel)
set_option maxRecDepth 20000 in
theorem gX7_init_X5_init : GoodIn wsX7_init (wsX5_init) := ggX7_init_X5_init
set_option maxRecDepth 20000 in
theorem ggX7_init_X3_init : GoodIn wsX7_init wsX3_init := goodIn_r _ [37, 38, 2, 3, 39, 40, 41, 72] (by decide +kernel) (by decide +kernel)
set_option maxRecDepth 20000 in
theorem gX7_init_X3_init_n31 : GoodIn wsX7_init (wsX3_init) := ggX7_init_X3_init
set_option maxRecDepth 20000 in
theorem ggX7_init_X6_init : GoodIn wsX7_init wsX6_init := goodIn_r _ [43, 44, 2, 3, 45, 39, 46, 47, 48, 49, 50, 73, 74, 75, 76, 77, 78] (by decide +kernel) (by decide +kernel)
set_option maxRecDepth 20000 in
theorem gX7_init_X6_init_n38 : GoodIn wsX7_init (wsX6_init) := ggX7_init_X6_init
set_option maxRecDepth 20000 in
theorem ggX7_init_X4_init : GoodIn wsX7_init wsX4_init := goodIn_r _ [53, 54, 2, 3, 39, 55, 56, 57, 58, 59, 79, 80, 81, 82, 83, 84, 85] (by decide +kernel) (by decide +kernel)
set_option maxRecDepth 20000 in
theorem gX7_init_X4_init : GoodIn wsX7_init (wsX4_init) := ggX7_init_X4_init
theorem dX7_init_0 : decode cX7_init 0 = .ok (.aload_n 0, 1) := by decide +kernel
theorem dX7_init_1 : decode cX7_init 1 = .ok (.invokespecial 1, 3) := by decide +kernel
theorem dX7_init_4 : decode cX7_init 4 = .ok (.aload_n 0, 1) := by decide +kernel
theorem dX7_init_5 : decode cX7_init 5 = .ok (.new 7, 3) := by decide +kernel
theorem dX7_init_8 : decode cX7_init 8 = .ok (.dup, 1) := by decide +kernel
theorem dX7_init_9 : decode cX7_init 9 = .ok (.ldc 11, 2) := by decide +kernel
theorem dX7_init_11 : decode cX7_init 11 = .ok (.invokespecial 12, 3) := by decide +kernel
theorem dX7_init_14 : decode cX7_init 14 = .ok (.putfield 15, 3) := by decide +kernel
theorem dX7_init_17 : decode cX7_init 17 = .ok (.aload_n 0, 1) := by decide +kernel
theorem dX7_init_18 : decode cX7_init 18 = .ok (.new 7, 3) := by decide +kernel
theorem dX7_init_21 : decode cX7_init 21 = .ok (.dup, 1) := by decide +kernel
theorem dX7_init_22 : decode cX7_init 22 = .ok (.ldc 19, 2) := by decide +kernel
theorem dX7_init_24 : decode cX7_init 24 = .ok (.invokespecial 12, 3) := by decide +kernel
theorem dX7_init_27 : decode cX7_init 27 = .ok (.putfield 20, 3) := by decide +kernel
theorem dX7_init_30 : decode cX7_init 30 = .ok (.aload_n 0, 1) := by decide +kernel
theorem dX7_init_31 : decode cX7_init 31 = .ok (.new 7, 3) := by decide +kernel
theorem dX7_init_34 : decode cX7_init 34 = .ok (.dup, 1) := by decide +kernel
theorem dX7_init_35 : decode cX7_init 35 = .ok (.ldc 11, 2) := by decide +kernel
theorem dX7_init_37 : decode cX7_init 37 = .ok (.invokespecial 12, 3) := by decide +kernel
theorem dX7_init_40 : decode cX7_init 40 = .ok (.putfield 23, 3) := by decide +kernel
theorem dX7_init_43 : decode cX7_init 43 = .ok (.aload_n 0, 1) := by decide +kernel
theorem dX7_init_44 : decode cX7_init 44 = .ok (.new 7, 3) := by decide +kernel
theorem dX7_init_47 : decode cX7_init 47 = .ok (.dup, 1) := by decide +kernel
theorem dX7_init_48 : decode cX7_init 48 = .ok (.ldc 11, 2) := by decide +kernel
theorem dX7_init_50 : decode cX7_init 50 = .ok (.invokespecial 12, 3) := by decide +kernel
theorem dX7_init_53 : decode cX7_init 53 = .ok (.putfield 26, 3) := by decide +kernel
theorem dX7_init_56 : decode cX7_init 56 = .ok (.aload_n 0, 1) := by decide +kernel
theorem dX7_init_57 : decode cX7_init 57 = .ok (.new 29, 3) := by decide +kernel
theorem dX7_init_60 : decode cX7_init 60 = .ok (.dup, 1) := by decide +kernel
theorem dX7_init_61 : decode cX7_init 61 = .ok (.invokespecial 31, 3) := by decide +kernel
theorem dX7_init_64 : decode cX7_init 64 = .ok (.putfield 32, 3) := by decide +kernel
theorem dX7_init_67 : decode cX7_init 67 = .ok (.aload_n 0, 1) := by decide +kernel
theorem dX7_init_68 : decode cX7_init 68 = .ok (.new 36, 3) := by decide +kernel
theorem dX7_init_71 : decode cX7_init 71 = .ok (.dup, 1) := by decide +kernel
theorem dX7_init_72 : decode cX7_init 72 = .ok (.invokespecial 38, 3) := by decide +kernel
theorem dX7_init_75 : decode cX7_init 75 = .ok (.putfield 39, 3) := by decide +kernel
theorem dX7_init_78 : decode cX7_init 78 = .ok (.aload_n 0, 1) := by decide +kernel
theorem dX7_init_79 : decode cX7_init 79 = .ok (.new 43, 3) := by decide +kernel
theorem dX7_init_82 : decode cX7_init 82 = .ok (.dup, 1) := by decide +kernel
theorem dX7_init_83 : decode cX7_init 83 = .ok (.aload_n 0, 1) := by decide +kernel
theorem dX7_init_84 : decode cX7_init 84 = .ok (.getfield 15, 3) := by decide +kernel
theorem dX7_init_87 : decode cX7_init 87 = .ok (.aload_n 0, 1) := by decide +kernel
theorem dX7_init_88 : decode cX7_init 88 = .ok (.getfield 20, 3) := by decide +kernel
theorem dX7_init_91 : decode cX7_init 91 = .ok (.aload_n 0, 1) := by decide +kernel
theorem dX7_init_92 : decode cX7_init 92 = .ok (.getfield 32, 3) := by decide +kernel
theorem dX7_init_95 : decode cX7_init 95 = .ok (.aload_n 0, 1) := by decide +kernel
theorem dX7_init_96 : decode cX7_init 96 = .ok (.getfield 39, 3) := by decide +kernel
theorem dX7_init_99 : decode cX7_init 99 = .ok (.invokespecial 45, 3) := by decide +kernel
theorem dX7_init_102 : decode cX7_init 102 = .ok (.putfield 48, 3) := by decide +kernel
theorem dX7_init_105 : decode cX7_init 105 = .ok (.aload_n 0, 1) := by decide +kernel
theorem dX7_init_106 : decode cX7_init 106 = .ok (.iconst (-1), 1) := by decide +kernel
theorem dX7_init_107 : decode cX7_init 107 = .ok (.putfield 52, 3) := by decide +kernel
theorem dX7_init_110 : decode cX7_init 110 = .ok (.return_, 1) := by decide +kernel
set_option maxRecDepth 20000 in
theorem ggX7_feed_X5_addHighestFirst : GoodIn wsX7_feed wsX5_addHighestFirst := goodIn_r _ [6, 7, 8, 9, 10, 5, 11, 12, 13, 14, 15, 16, 27, 28] (by decide +kernel) (by decide +kernel)
set_option maxRecDepth 20000 in
theorem gX7_feed_X5_addHighestFirst : GoodIn wsX7_feed (wsV RX7 56 RX5 yX5_addHighestFirst wsX5_addHighestFirst) := goodIn_app (goodIn_of _ (by decide +kernel)) ggX7_feed_X5_addHighestFirst
theorem dX7_feed_0 : decode cX7_feed 0 = .ok (.aload_n 0, 1) := by decide +kernel
theorem dX7_feed_1 : decode cX7_feed 1 = .ok (.getfield 15, 3) := by decide +kernel
theorem dX7_feed_4 : decode cX7_feed 4 = .ok (.lload_n 1, 1) := by decide +kernel
theorem dX7_feed_5 : decode cX7_feed 5 = .ok (.iload_n 3, 1) := by decide +kernel
theorem dX7_feed_6 : decode cX7_feed 6 = .ok (.invokevirtual 56, 3) := by decide +kernel
theorem dX7_feed_9 : decode cX7_feed 9 = .ok (.ireturn, 1) := by decide +kernel
set_option maxRecDepth 20000 in
theorem ggX7_fill_X7_refusedPut : GoodIn wsX7_fill wsX7_refusedPut := goodIn_r _ [7, 8, 1, 9, 10, 11, 12, 13, 14, 15, 24, 25, 26, 27, 28, 29, 30, 31, 32, 33, 34, 35] (by decide +kernel) (by decide +kernel)
set_option maxRecDepth 20000 in
theorem gX7_fill_X7_refusedPut : GoodIn wsX7_fill (wsV RX7 60 RX7 yX7_refusedPut wsX7_refusedPut) := goodIn_app (goodIn_of _ (by decide +kernel)) ggX7_fill_X7_refusedPut
set_option maxRecDepth 20000 in
theorem ggX7_fill_X5_addRun : GoodIn wsX7_fill wsX5_addRun := goodIn_r _ [19, 20, 21, 22, 12, 23, 15, 14, 34, 35] (by decide +kernel) (by decide +kernel)
set_option maxRecDepth 20000 in
theorem gX7_fill_X5_addRun : GoodIn wsX7_fill (wsV RX7 64 RX5 yX5_addRun wsX5_addRun) := goodIn_app (goodIn_of _ (by decide +kernel)) ggX7_fill_X5_addRun
theorem dX7_fill_0 : decode cX7_fill 0 = .ok (.aload_n 0, 1) := by decide +kernel
theorem dX7_fill_1 : decode cX7_fill 1 = .ok (.iload_n 2, 1) := by decide +kernel
theorem dX7_fill_2 : decode cX7_fill 2 = .ok (.invokevirtual 60, 3) := by decide +kernel
theorem dX7_fill_5 : decode cX7_fill 5 = .ok (.istore_n 3, 1) := by decide +kernel
theorem dX7_fill_6 : decode cX7_fill 6 = .ok (.iload_n 3, 1) := by decide +kernel
theorem dX7_fill_7 : decode cX7_fill 7 = .ok (.ifCond .eq 5, 3) := by decide +kernel
theorem dX7_fill_10 : decode cX7_fill 10 = .ok (.iload_n 3, 1) := by decide +kernel
theorem dX7_fill_11 : decode cX7_fill 11 = .ok (.ireturn, 1) := by decide +kernel
theorem dX7_fill_12 : decode cX7_fill 12 = .ok (.aload_n 0, 1) := by decide +kernel
theorem dX7_fill_13 : decode cX7_fill 13 = .ok (.getfield 15, 3) := by decide +kernel
theorem dX7_fill_16 : decode cX7_fill 16 = .ok (.iload_n 1, 1) := by decide +kernel
theorem dX7_fill_17 : decode cX7_fill 17 = .ok (.iload_n 2, 1) := by decide +kernel
theorem dX7_fill_18 : decode cX7_fill 18 = .ok (.invokevirtual 64, 3) := by decide +kernel
theorem dX7_fill_21 : decode cX7_fill 21 = .ok (.aload_n 0, 1) := by decide +kernel
theorem dX7_fill_22 : decode cX7_fill 22 = .ok (.getfield 15, 3) := by decide +kernel
theorem dX7_fill_25 : decode cX7_fill 25 = .ok (.getfield 68, 3) := by decide +kernel
theorem dX7_fill_28 : decode cX7_fill 28 = .ok (.ireturn, 1) := by decide +kernel
set_option maxRecDepth 20000 in
theorem ggX7_again_X7_refusedPut : GoodIn wsX7_again wsX7_refusedPut := goodIn_r _ [7, 8, 1, 9, 10, 11, 12, 13, 14, 15, 21, 22, 23, 24, 25, 26, 27, 28, 29, 30, 31, 32] (by decide +kernel) (by decide +kernel)
set_option maxRecDepth 20000 in
theorem gX7_again_X7_refusedPut : GoodIn wsX7_again (wsV RX7 60 RX7 yX7_refusedPut wsX7_refusedPut) := goodIn_app (goodIn_of _ (by decide +kernel)) ggX7_again_X7_refusedPut
set_option maxRecDepth 20000 in
theorem ggX7_again_X5_addAgain : GoodIn wsX7_again wsX5_addAgain := goodIn_r _ [19, 15, 14, 20, 10, 11, 12, 13, 31, 32] (by decide +kernel) (by decide +kernel)
set_option maxRecDepth 20000 in
theorem gX7_again_X5_addAgain : GoodIn wsX7_again (wsV RX7 71 RX5 yX5_addAgain wsX5_addAgain) := goodIn_app (goodIn_of _ (by decide +kernel)) ggX7_again_X5_addAgain
theorem dX7_again_0 : decode cX7_again 0 = .ok (.iload_n 1, 1) := by decide +kernel
theorem dX7_again_1 : decode cX7_again 1 = .ok (.iconst 1, 1) := by decide +kernel
theorem dX7_again_2 : decode cX7_again 2 = .ok (.if_icmp .lt 14, 3) := by decide +kernel
theorem dX7_again_5 : decode cX7_again 5 = .ok (.iload_n 1, 1) := by decide +kernel
theorem dX7_again_6 : decode cX7_again 6 = .ok (.aload_n 0, 1) := by decide +kernel
theorem dX7_again_7 : decode cX7_again 7 = .ok (.getfield 15, 3) := by decide +kernel
theorem dX7_again_10 : decode cX7_again 10 = .ok (.getfield 68, 3) := by decide +kernel
theorem dX7_again_13 : decode cX7_again 13 = .ok (.if_icmp .le 5, 3) := by decide +kernel
theorem dX7_again_16 : decode cX7_again 16 = .ok (.iconst (-1), 1) := by decide +kernel
theorem dX7_again_17 : decode cX7_again 17 = .ok (.ireturn, 1) := by decide +kernel
theorem dX7_again_18 : decode cX7_again 18 = .ok (.aload_n 0, 1) := by decide +kernel
theorem dX7_again_19 : decode cX7_again 19 = .ok (.iload_n 2, 1) := by decide +kernel
theorem dX7_again_20 : decode cX7_again 20 = .ok (.invokevirtual 60, 3) := by decide +kernel
theorem dX7_again_23 : decode cX7_again 23 = .ok (.istore_n 3, 1) := by decide +kernel
theorem dX7_again_24 : decode cX7_again 24 = .ok (.iload_n 3, 1) := by decide +kernel
theorem dX7_again_25 : decode cX7_again 25 = .ok (.ifCond .eq 5, 3) := by decide +kernel
theorem dX7_again_28 : decode cX7_again 28 = .ok (.iload_n 3, 1) := by decide +kernel
theorem dX7_again_29 : decode cX7_again 29 = .ok (.ireturn, 1) := by decide +kernel
theorem dX7_again_30 : decode cX7_again 30 = .ok (.aload_n 0, 1) := by decide +kernel
theorem dX7_again_31 : decode cX7_again 31 = .ok (.getfield 15, 3) := by decide +kernel
theorem dX7_again_34 : decode cX7_again 34 = .ok (.iload_n 1, 1) := by decide +kernel
theorem dX7_again_35 : decode cX7_again 35 = .ok (.iload_n 2, 1) := by decide +kernel
theorem dX7_again_36 : decode cX7_again 36 = .ok (.invokevirtual 71, 3) := by decide +kernel
theorem dX7_again_39 : decode cX7_again 39 = .ok (.aload_n 0, 1) := by decide +kernel
theorem dX7_again_40 : decode cX7_again 40 = .ok (.getfield 15, 3) := by decide +kernel
theorem dX7_again_43 : decode cX7_again 43 = .ok (.getfield 68, 3) := by decide +kernel
theorem dX7_again_46 : decode cX7_again 46 = .ok (.ireturn, 1) := by decide +kernel
set_option maxRecDepth 20000 in
theorem ggX7_mix_X7_refusedPut : GoodIn wsX7_mix wsX7_refusedPut := goodIn_r _ [8, 9, 2, 10, 11, 12, 13, 14, 15, 16, 21, 22, 23, 24, 25, 26, 27, 28, 29, 30, 31, 32] (by decide +kernel) (by decide +kernel)
set_option maxRecDepth 20000 in
theorem gX7_mix_X7_refusedPut : GoodIn wsX7_mix (wsV RX7 60 RX7 yX7_refusedPut wsX7_refusedPut) := goodIn_app (goodIn_of _ (by decide +kernel)) ggX7_mix_X7_refusedPut
set_option maxRecDepth 20000 in
theorem ggX7_mix_X5_add : GoodIn wsX7_mix wsX5_add := goodIn_r _ [20, 16, 15, 31, 32] (by decide +kernel) (by decide +kernel)
set_option maxRecDepth 20000 in
theorem gX7_mix_X5_add : GoodIn wsX7_mix (wsV RX7 75 RX5 yX5_add wsX5_add) := goodIn_app (goodIn_of _ (by decide +kernel)) ggX7_mix_X5_add
theorem dX7_mix_0 : decode cX7_mix 0 = .ok (.aload_n 0, 1) := by decide +kernel
theorem dX7_mix_1 : decode cX7_mix 1 = .ok (.iload_n 2, 1) := by decide +kernel
theorem dX7_mix_2 : decode cX7_mix 2 = .ok (.invokevirtual 60, 3) := by decide +kernel
theorem dX7_mix_5 : decode cX7_mix 5 = .ok (.istore_n 3, 1) := by decide +kernel
theorem dX7_mix_6 : decode cX7_mix 6 = .ok (.iload_n 3, 1) := by decide +kernel
theorem dX7_mix_7 : decode cX7_mix 7 = .ok (.ifCond .eq 5, 3) := by decide +kernel
theorem dX7_mix_10 : decode cX7_mix 10 = .ok (.iload_n 3, 1) := by decide +kernel
theorem dX7_mix_11 : decode cX7_mix 11 = .ok (.ireturn, 1) := by decide +kernel
theorem dX7_mix_12 : decode cX7_mix 12 = .ok (.iload_n 1, 1) := by decide +kernel
theorem dX7_mix_13 : decode cX7_mix 13 = .ok (.istore 4, 2) := by decide +kernel
theorem dX7_mix_15 : decode cX7_mix 15 = .ok (.iconst 0, 1) := by decide +kernel
theorem dX7_mix_16 : decode cX7_mix 16 = .ok (.istore 5, 2) := by decide +kernel
theorem dX7_mix_18 : decode cX7_mix 18 = .ok (.iload 5, 2) := by decide +kernel
theorem dX7_mix_20 : decode cX7_mix 20 = .ok (.iload_n 2, 1) := by decide +kernel
theorem dX7_mix_21 : decode cX7_mix 21 = .ok (.if_icmp .ge 32, 3) := by decide +kernel
theorem dX7_mix_24 : decode cX7_mix 24 = .ok (.iload 4, 2) := by decide +kernel
theorem dX7_mix_26 : decode cX7_mix 26 = .ok (.ldc 74, 2) := by decide +kernel
theorem dX7_mix_28 : decode cX7_mix 28 = .ok (.imul, 1) := by decide +kernel
theorem dX7_mix_29 : decode cX7_mix 29 = .ok (.sipush 12345, 3) := by decide +kernel
theorem dX7_mix_32 : decode cX7_mix 32 = .ok (.iadd, 1) := by decide +kernel
theorem dX7_mix_33 : decode cX7_mix 33 = .ok (.istore 4, 2) := by decide +kernel
theorem dX7_mix_35 : decode cX7_mix 35 = .ok (.aload_n 0, 1) := by decide +kernel
theorem dX7_mix_36 : decode cX7_mix 36 = .ok (.getfield 15, 3) := by decide +kernel
theorem dX7_mix_39 : decode cX7_mix 39 = .ok (.iload 4, 2) := by decide +kernel
theorem dX7_mix_41 : decode cX7_mix 41 = .ok (.bipush 16, 2) := by decide +kernel
theorem dX7_mix_43 : decode cX7_mix 43 = .ok (.iushr, 1) := by decide +kernel
theorem dX7_mix_44 : decode cX7_mix 44 = .ok (.invokevirtual 75, 3) := by decide +kernel
theorem dX7_mix_47 : decode cX7_mix 47 = .ok (.iinc 5 1, 3) := by decide +kernel
theorem dX7_mix_50 : decode cX7_mix 50 = .ok (.goto (-32), 3) := by decide +kernel
theorem dX7_mix_53 : decode cX7_mix 53 = .ok (.aload_n 0, 1) := by decide +kernel
theorem dX7_mix_54 : decode cX7_mix 54 = .ok (.getfield 15, 3) := by decide +kernel
theorem dX7_mix_57 : decode cX7_mix 57 = .ok (.getfield 68, 3) := by decide +kernel
theorem dX7_mix_60 : decode cX7_mix 60 = .ok (.ireturn, 1) := by decide +kernel
set_option maxRecDepth 20000 in
theorem ggX7_change_X5_set : GoodIn wsX7_change wsX5_set := goodIn_r _ [6, 7, 8, 9, 10, 5, 11, 12, 23, 24] (by decide +kernel) (by decide +kernel)
set_option maxRecDepth 20000 in
theorem gX7_change_X5_set : GoodIn wsX7_change (wsV RX7 78 RX5 yX5_set wsX5_set) := goodIn_app (goodIn_of _ (by decide +kernel)) ggX7_change_X5_set
theorem dX7_change_0 : decode cX7_change 0 = .ok (.aload_n 0, 1) := by decide +kernel
theorem dX7_change_1 : decode cX7_change 1 = .ok (.getfield 15, 3) := by decide +kernel
theorem dX7_change_4 : decode cX7_change 4 = .ok (.iload_n 1, 1) := by decide +kernel
theorem dX7_change_5 : decode cX7_change 5 = .ok (.iload_n 2, 1) := by decide +kernel
theorem dX7_change_6 : decode cX7_change 6 = .ok (.invokevirtual 78, 3) := by decide +kernel
theorem dX7_change_9 : decode cX7_change 9 = .ok (.ireturn, 1) := by decide +kernel
set_option maxRecDepth 20000 in
theorem ggX7_keep_X5_shorten : GoodIn wsX7_keep wsX5_shorten := goodIn_r _ [6, 7, 18, 19] (by decide +kernel) (by decide +kernel)
set_option maxRecDepth 20000 in
theorem gX7_keep_X5_shorten : GoodIn wsX7_keep (wsV RX7 82 RX5 yX5_shorten wsX5_shorten) := goodIn_app (goodIn_of _ (by decide +kernel)) ggX7_keep_X5_shorten
theorem dX7_keep_0 : decode cX7_keep 0 = .ok (.aload_n 0, 1) := by decide +kernel
theorem dX7_keep_1 : decode cX7_keep 1 = .ok (.getfield 15, 3) := by decide +kernel
theorem dX7_keep_4 : decode cX7_keep 4 = .ok (.iload_n 1, 1) := by decide +kernel
theorem dX7_keep_5 : decode cX7_keep 5 = .ok (.invokevirtual 82, 3) := by decide +kernel
theorem dX7_keep_8 : decode cX7_keep 8 = .ok (.ireturn, 1) := by decide +kernel
set_option maxRecDepth 20000 in
theorem ggX7_option_X3_set : GoodIn wsX7_option wsX3_set := goodIn_r _ [6, 7, 8, 9, 20] (by decide +kernel) (by decide +kernel)
set_option maxRecDepth 20000 in
theorem gX7_option_X3_set : GoodIn wsX7_option (wsV RX7 85 RX3 yX3_set wsX3_set) := goodIn_app (goodIn_of _ (by decide +kernel)) ggX7_option_X3_set
theorem dX7_option_0 : decode cX7_option 0 = .ok (.aload_n 0, 1) := by decide +kernel
theorem dX7_option_1 : decode cX7_option 1 = .ok (.getfield 32, 3) := by decide +kernel
theorem dX7_option_4 : decode cX7_option 4 = .ok (.iload_n 1, 1) := by decide +kernel
theorem dX7_option_5 : decode cX7_option 5 = .ok (.iload_n 2, 1) := by decide +kernel
theorem dX7_option_6 : decode cX7_option 6 = .ok (.invokevirtual 85, 3) := by decide +kernel
theorem dX7_option_9 : decode cX7_option 9 = .ok (.ireturn, 1) := by decide +kernel
set_option maxRecDepth 20000 in
theorem ggX7_pack_X4_packAll : GoodIn wsX7_pack wsX4_packAll := goodIn_r _ [6, 7, 8, 9, 10, 11, 12, 13, 14, 15, 16, 17, 5, 18, 19, 20, 21, 22, 23, 24, 25, 26, 27, 28, 29, 30, 31, 32, 33, 34, 35, 36, 37, 38, 39, 40, 41, 42, 43, 44, 45, 46, 47, 48, 49, 50, 51, 52, 53, 54, 55, 56, 57, 58, 59, 60, 61, 62, 63, 64, 65, 66, 67, 68, 69, 70, 71, 72, 73, 74, 75, 76, 77, 78, 79, 80, 81, 82, 83, 84, 85, 86, 87, 88, 89, 90, 91, 92, 93, 94, 95, 96, 97, 98, 99, 100, 101, 102, 103, 104, 105, 106, 107, 108, 109, 110, 111, 112, 113, 114, 115, 116, 117, 118, 119, 120, 121, 122, 123, 124, 125, 126, 127, 128, 129, 130, 131, 132, 133, 134, 135, 136, 137, 138, 139, 140, 141, 142, 143, 144, 145, 146, 147, 148, 149, 150, 151, 152, 153, 154, 155, 156, 157, 158, 159, 160, 161, 162, 163, 164, 165, 166, 167, 168, 169, 170, 171, 172, 173, 174, 175, 176, 177, 178, 179, 180, 181, 182, 183, 184, 185, 186, 187, 188, 189, 190, 201, 202, 203, 204, 205, 206, 207, 208, 209, 210, 211, 212, 213, 214, 215, 216] (by decide +kernel) (by decide +kernel)
set_option maxRecDepth 20000 in
theorem gX7_pack_X4_packAll : GoodIn wsX7_pack (wsV RX7 86 RX4 yX4_packAll wsX4_packAll) := goodIn_app (goodIn_of _ (by decide +kernel)) ggX7_pack_X4_packAll
theorem dX7_pack_0 : decode cX7_pack 0 = .ok (.aload_n 0, 1) := by decide +kernel
theorem dX7_pack_1 : decode cX7_pack 1 = .ok (.getfield 48, 3) := by decide +kernel
theorem dX7_pack_4 : decode cX7_pack 4 = .ok (.invokevirtual 86, 3) := by decide +kernel
theorem dX7_pack_7 : decode cX7_pack 7 = .ok (.ireturn, 1) := by decide +kernel
set_option maxRecDepth 20000 in
theorem ggX7_skip_X5_room : GoodIn wsX7_skip wsX5_room := goodIn_r _ [8, 9, 10, 33, 34] (by decide +kernel) (by decide +kernel)
set_option maxRecDepth 20000 in
theorem gX7_skip_X5_room : GoodIn wsX7_skip (wsV RX7 90 RX5 yX5_room wsX5_room) := goodIn_app (goodIn_of _ (by decide +kernel)) ggX7_skip_X5_room
set_option maxRecDepth 20000 in
theorem ggX7_skip_X5_addNumber : GoodIn wsX7_skip wsX5_addNumber := goodIn_r _ [14, 15, 16, 17, 7, 18, 10, 9, 33, 34] (by decide +kernel) (by decide +kernel)
set_option maxRecDepth 20000 in
theorem gX7_skip_X5_addNumber : GoodIn wsX7_skip (wsV RX7 94 RX5 yX5_addNumber wsX5_addNumber) := goodIn_app (goodIn_of _ (by decide +kernel)) ggX7_skip_X5_addNumber
set_option maxRecDepth 20000 in
theorem ggX7_skip_X5_addRun : GoodIn wsX7_skip wsX5_addRun := goodIn_r _ [22, 15, 16, 17, 7, 18, 10, 9, 33, 34] (by decide +kernel) (by decide +kernel)
set_option maxRecDepth 20000 in
theorem gX7_skip_X5_addRun : GoodIn wsX7_skip (wsV RX7 64 RX5 yX5_addRun wsX5_addRun) := goodIn_app (goodIn_of _ (by decide +kernel)) ggX7_skip_X5_addRun
theorem dX7_skip_0 : decode cX7_skip 0 = .ok (.iload_n 1, 1) := by decide +kernel
theorem dX7_skip_1 : decode cX7_skip 1 = .ok (.ifCond .lt 20, 3) := by decide +kernel
theorem dX7_skip_4 : decode cX7_skip 4 = .ok (.iload_n 1, 1) := by decide +kernel
theorem dX7_skip_5 : decode cX7_skip 5 = .ok (.bipush 15, 2) := by decide +kernel
theorem dX7_skip_7 : decode cX7_skip 7 = .ok (.if_icmp .gt 14, 3) := by decide +kernel
theorem dX7_skip_10 : decode cX7_skip 10 = .ok (.iload_n 2, 1) := by decide +kernel
theorem dX7_skip_11 : decode cX7_skip 11 = .ok (.ifCond .lt 10, 3) := by decide +kernel
theorem dX7_skip_14 : decode cX7_skip 14 = .ok (.iload_n 2, 1) := by decide +kernel
theorem dX7_skip_15 : decode cX7_skip 15 = .ok (.sipush 1000, 3) := by decide +kernel
theorem dX7_skip_18 : decode cX7_skip 18 = .ok (.if_icmp .le 5, 3) := by decide +kernel
theorem dX7_skip_21 : decode cX7_skip 21 = .ok (.iconst (-1), 1) := by decide +kernel
theorem dX7_skip_22 : decode cX7_skip 22 = .ok (.ireturn, 1) := by decide +kernel
theorem dX7_skip_23 : decode cX7_skip 23 = .ok (.bipush 8, 2) := by decide +kernel
theorem dX7_skip_25 : decode cX7_skip 25 = .ok (.iload_n 2, 1) := by decide +kernel
theorem dX7_skip_26 : decode cX7_skip 26 = .ok (.iadd, 1) := by decide +kernel
theorem dX7_skip_27 : decode cX7_skip 27 = .ok (.aload_n 0, 1) := by decide +kernel
theorem dX7_skip_28 : decode cX7_skip 28 = .ok (.getfield 20, 3) := by decide +kernel
theorem dX7_skip_31 : decode cX7_skip 31 = .ok (.invokevirtual 90, 3) := by decide +kernel
theorem dX7_skip_34 : decode cX7_skip 34 = .ok (.if_icmp .le 6, 3) := by decide +kernel
theorem dX7_skip_37 : decode cX7_skip 37 = .ok (.bipush (-2), 2) := by decide +kernel
theorem dX7_skip_39 : decode cX7_skip 39 = .ok (.ireturn, 1) := by decide +kernel
theorem dX7_skip_40 : decode cX7_skip 40 = .ok (.aload_n 0, 1) := by decide +kernel
theorem dX7_skip_41 : decode cX7_skip 41 = .ok (.getfield 20, 3) := by decide +kernel
theorem dX7_skip_44 : decode cX7_skip 44 = .ok (.ldc 93, 2) := by decide +kernel
theorem dX7_skip_46 : decode cX7_skip 46 = .ok (.iload_n 1, 1) := by decide +kernel
theorem dX7_skip_47 : decode cX7_skip 47 = .ok (.iadd, 1) := by decide +kernel
theorem dX7_skip_48 : decode cX7_skip 48 = .ok (.i2l, 1) := by decide +kernel
theorem dX7_skip_49 : decode cX7_skip 49 = .ok (.iconst 4, 1) := by decide +kernel
theorem dX7_skip_50 : decode cX7_skip 50 = .ok (.invokevirtual 94, 3) := by decide +kernel
theorem dX7_skip_53 : decode cX7_skip 53 = .ok (.aload_n 0, 1) := by decide +kernel
theorem dX7_skip_54 : decode cX7_skip 54 = .ok (.getfield 20, 3) := by decide +kernel
theorem dX7_skip_57 : decode cX7_skip 57 = .ok (.iload_n 2, 1) := by decide +kernel
theorem dX7_skip_58 : decode cX7_skip 58 = .ok (.i2l, 1) := by decide +kernel
theorem dX7_skip_59 : decode cX7_skip 59 = .ok (.iconst 4, 1) := by decide +kernel
theorem dX7_skip_60 : decode cX7_skip 60 = .ok (.invokevirtual 94, 3) := by decide +kernel
theorem dX7_skip_63 : decode cX7_skip 63 = .ok (.aload_n 0, 1) := by decide +kernel
theorem dX7_skip_64 : decode cX7_skip 64 = .ok (.getfield 20, 3) := by decide +kernel
theorem dX7_skip_67 : decode cX7_skip 67 = .ok (.iload_n 3, 1) := by decide +kernel
theorem dX7_skip_68 : decode cX7_skip 68 = .ok (.iload_n 2, 1) := by decide +kernel
theorem dX7_skip_69 : decode cX7_skip 69 = .ok (.invokevirtual 64, 3) := by decide +kernel
theorem dX7_skip_72 : decode cX7_skip 72 = .ok (.aload_n 0, 1) := by decide +kernel
theorem dX7_skip_73 : decode cX7_skip 73 = .ok (.getfield 20, 3) := by decide +kernel
theorem dX7_skip_76 : decode cX7_skip 76 = .ok (.getfield 68, 3) := by decide +kernel
theorem dX7_skip_79 : decode cX7_skip 79 = .ok (.ireturn, 1) := by decide +kernel
set_option maxRecDepth 20000 in
theorem ggX7_give_X5_addHighestFirst : GoodIn wsX7_give wsX5_addHighestFirst := goodIn_r _ [6, 7, 8, 9, 10, 5, 11, 12, 13, 14, 15, 16, 27, 28] (by decide +kernel) (by decide +kernel)
set_option maxRecDepth 20000 in
theorem gX7_give_X5_addHighestFirst : GoodIn wsX7_give (wsV RX7 56 RX5 yX5_addHighestFirst wsX5_addHighestFirst) := goodIn_app (goodIn_of _ (by decide +kernel)) ggX7_give_X5_addHighestFirst
theorem dX7_give_0 : decode cX7_give 0 = .ok (.aload_n 0, 1) := by decide +kernel
theorem dX7_give_1 : decode cX7_give 1 = .ok (.getfield 20, 3) := by decide +kernel
theorem dX7_give_4 : decode cX7_give 4 = .ok (.lload_n 1, 1) := by decide +kernel
theorem dX7_give_5 : decode cX7_give 5 = .ok (.iload_n 3, 1) := by decide +kernel
theorem dX7_give_6 : decode cX7_give 6 = .ok (.invokevirtual 56, 3) := by decide +kernel
theorem dX7_give_9 : decode cX7_give 9 = .ok (.ireturn, 1) := by decide +kernel
set_option maxRecDepth 20000 in
theorem ggX7_alter_X5_set : GoodIn wsX7_alter wsX5_set := goodIn_r _ [6, 7, 8, 9, 10, 5, 11, 12, 23, 24] (by decide +kernel) (by decide +kernel)
set_option maxRecDepth 20000 in
theorem gX7_alter_X5_set : GoodIn wsX7_alter (wsV RX7 78 RX5 yX5_set wsX5_set) := goodIn_app (goodIn_of _ (by decide +kernel)) ggX7_alter_X5_set
theorem dX7_alter_0 : decode cX7_alter 0 = .ok (.aload_n 0, 1) := by decide +kernel
theorem dX7_alter_1 : decode cX7_alter 1 = .ok (.getfield 20, 3) := by decide +kernel
theorem dX7_alter_4 : decode cX7_alter 4 = .ok (.iload_n 1, 1) := by decide +kernel
theorem dX7_alter_5 : decode cX7_alter 5 = .ok (.iload_n 2, 1) := by decide +kernel
theorem dX7_alter_6 : decode cX7_alter 6 = .ok (.invokevirtual 78, 3) := by decide +kernel
theorem dX7_alter_9 : decode cX7_alter 9 = .ok (.ireturn, 1) := by decide +kernel
set_option maxRecDepth 20000 in
theorem ggX7_cut_X5_shorten : GoodIn wsX7_cut wsX5_shorten := goodIn_r _ [6, 7, 18, 19] (by decide +kernel) (by decide +kernel)
set_option maxRecDepth 20000 in
theorem gX7_cut_X5_shorten : GoodIn wsX7_cut (wsV RX7 82 RX5 yX5_shorten wsX5_shorten) := goodIn_app (goodIn_of _ (by decide +kernel)) ggX7_cut_X5_shorten
theorem dX7_cut_0 : decode cX7_cut 0 = .ok (.aload_n 0, 1) := by decide +kernel
theorem dX7_cut_1 : decode cX7_cut 1 = .ok (.getfield 20, 3) := by decide +kernel
theorem dX7_cut_4 : decode cX7_cut 4 = .ok (.iload_n 1, 1) := by decide +kernel
theorem dX7_cut_5 : decode cX7_cut 5 = .ok (.invokevirtual 82, 3) := by decide +kernel
theorem dX7_cut_8 : decode cX7_cut 8 = .ok (.ireturn, 1) := by decide +kernel
set_option maxRecDepth 20000 in
theorem ggX7_read_X5_shorten : GoodIn wsX7_read wsX5_shorten := goodIn_r _ [22, 23, 240, 241] (by decide +kernel) (by decide +kernel)
set_option maxRecDepth 20000 in
theorem gX7_read_X5_shorten : GoodIn wsX7_read (wsV RX7 82 RX5 yX5_shorten wsX5_shorten) := goodIn_app (goodIn_of _ (by decide +kernel)) ggX7_read_X5_shorten
set_option maxRecDepth 20000 in
theorem ggX7_read_X1_init : GoodIn wsX7_read wsX1_init := goodIn_r _ [25, 26, 27, 28, 29, 226, 227] (by decide +kernel) (by decide +kernel)
set_option maxRecDepth 20000 in
theorem gX7_read_X1_init_n100 : GoodIn wsX7_read (wsX1_init) := ggX7_read_X1_init
set_option maxRecDepth 20000 in
theorem ggX7_read_X2_init : GoodIn wsX7_read wsX2_init := goodIn_r _ [32, 33, 27, 28, 34, 35, 36, 37, 38, 39, 40, 41, 42, 43, 44, 45, 46, 47, 228, 229, 230, 231, 232, 233, 234, 235, 236, 237, 238, 239, 242, 243, 244, 245, 246, 247, 248, 249, 250, 251, 252, 253, 254] (by decide +kernel) (by decide +kernel)
set_option maxRecDepth 20000 in
theorem gX7_read_X2_init : GoodIn wsX7_read (wsX2_init) := ggX7_read_X2_init
set_option maxRecDepth 20000 in
theorem ggX7_read_X2_readAll : GoodIn wsX7_read wsX2_readAll := goodIn_r _ [51, 34, 52, 53, 54, 55, 56, 57, 58, 7, 59, 36, 60, 61, 62, 4, 63, 64, 29, 65, 66, 67, 21, 68, 23, 69, 70, 71, 72, 73, 74, 75, 76, 77, 78, 79, 35, 80, 81, 82, 83, 84, 85, 86, 87, 88, 89, 90, 91, 92, 93, 94, 95, 96, 97, 98, 99, 100, 101, 102, 103, 104, 105, 106, 107, 108, 109, 110, 111, 112, 113, 114, 115, 116, 117, 118, 119, 120, 121, 122, 123, 124, 125, 126, 127, 128, 129, 130, 131, 132, 133, 134, 135, 136, 137, 138, 139, 140, 141, 142, 143, 144, 145, 146, 40, 147, 148, 149, 150, 151, 152, 153, 154, 155, 156, 157, 158, 159, 160, 161, 162, 163, 164, 165, 166, 39, 167, 168, 169, 45, 170, 171, 172, 173, 174, 175, 176, 46, 177, 178, 179, 180, 181, 182, 183, 184, 185, 186, 187, 47, 188, 189, 190, 191, 192, 193, 194, 195, 196, 197, 198, 199, 200, 201, 202, 203, 204, 205, 206, 207, 208, 209, 210, 211, 212, 213, 214, 215, 228, 229, 230, 231, 232, 233, 234, 235, 236, 237, 238, 239, 240, 241, 226, 227, 242, 243, 244, 245, 246, 247, 248, 249, 250, 251, 252, 253, 254] (by decide +kernel) (by decide +kernel)
set_option maxRecDepth 20000 in
theorem gX7_read_X2_readAll : GoodIn wsX7_read (wsV RX7 106 RX2 yX2_readAll wsX2_readAll) := goodIn_app (goodIn_of _ (by decide +kernel)) ggX7_read_X2_readAll
theorem dX7_read_0 : decode cX7_read 0 = .ok (.aload_n 0, 1) := by decide +kernel
theorem dX7_read_1 : decode cX7_read 1 = .ok (.getfield 26, 3) := by decide +kernel
theorem dX7_read_4 : decode cX7_read 4 = .ok (.iconst 0, 1) := by decide +kernel
theorem dX7_read_5 : decode cX7_read 5 = .ok (.invokevirtual 82, 3) := by decide +kernel
theorem dX7_read_8 : decode cX7_read 8 = .ok (.pop, 1) := by decide +kernel
theorem dX7_read_9 : decode cX7_read 9 = .ok (.new 98, 3) := by decide +kernel
theorem dX7_read_12 : decode cX7_read 12 = .ok (.dup, 1) := by decide +kernel
theorem dX7_read_13 : decode cX7_read 13 = .ok (.invokespecial 100, 3) := by decide +kernel
theorem dX7_read_16 : decode cX7_read 16 = .ok (.astore_n 1, 1) := by decide +kernel
theorem dX7_read_17 : decode cX7_read 17 = .ok (.new 101, 3) := by decide +kernel
theorem dX7_read_20 : decode cX7_read 20 = .ok (.dup, 1) := by decide +kernel
theorem dX7_read_21 : decode cX7_read 21 = .ok (.aload_n 0, 1) := by decide +kernel
theorem dX7_read_22 : decode cX7_read 22 = .ok (.getfield 20, 3) := by decide +kernel
theorem dX7_read_25 : decode cX7_read 25 = .ok (.aload_n 0, 1) := by decide +kernel
theorem dX7_read_26 : decode cX7_read 26 = .ok (.getfield 26, 3) := by decide +kernel
theorem dX7_read_29 : decode cX7_read 29 = .ok (.aload_n 1, 1) := by decide +kernel
theorem dX7_read_30 : decode cX7_read 30 = .ok (.invokespecial 103, 3) := by decide +kernel
theorem dX7_read_33 : decode cX7_read 33 = .ok (.astore_n 2, 1) := by decide +kernel
theorem dX7_read_34 : decode cX7_read 34 = .ok (.aload_n 2, 1) := by decide +kernel
theorem dX7_read_35 : decode cX7_read 35 = .ok (.invokevirtual 106, 3) := by decide +kernel
theorem dX7_read_38 : decode cX7_read 38 = .ok (.istore_n 3, 1) := by decide +kernel
theorem dX7_read_39 : decode cX7_read 39 = .ok (.aload_n 0, 1) := by decide +kernel
theorem dX7_read_40 : decode cX7_read 40 = .ok (.aload_n 1, 1) := by decide +kernel
theorem dX7_read_41 : decode cX7_read 41 = .ok (.getfield 110, 3) := by decide +kernel
theorem dX7_read_44 : decode cX7_read 44 = .ok (.putfield 52, 3) := by decide +kernel
theorem dX7_read_47 : decode cX7_read 47 = .ok (.iload_n 3, 1) := by decide +kernel
theorem dX7_read_48 : decode cX7_read 48 = .ok (.ifCond .ne 11, 3) := by decide +kernel
theorem dX7_read_51 : decode cX7_read 51 = .ok (.bipush (-10), 2) := by decide +kernel
theorem dX7_read_53 : decode cX7_read 53 = .ok (.aload_n 1, 1) := by decide +kernel
theorem dX7_read_54 : decode cX7_read 54 = .ok (.getfield 113, 3) := by decide +kernel
theorem dX7_read_57 : decode cX7_read 57 = .ok (.isub, 1) := by decide +kernel
theorem dX7_read_58 : decode cX7_read 58 = .ok (.ireturn, 1) := by decide +kernel
theorem dX7_read_59 : decode cX7_read 59 = .ok (.aload_n 0, 1) := by decide +kernel
theorem dX7_read_60 : decode cX7_read 60 = .ok (.getfield 23, 3) := by decide +kernel
theorem dX7_read_63 : decode cX7_read 63 = .ok (.astore 4, 2) := by decide +kernel
theorem dX7_read_65 : decode cX7_read 65 = .ok (.aload_n 0, 1) := by decide +kernel
theorem dX7_read_66 : decode cX7_read 66 = .ok (.aload_n 0, 1) := by decide +kernel
theorem dX7_read_67 : decode cX7_read 67 = .ok (.getfield 26, 3) := by decide +kernel
theorem dX7_read_70 : decode cX7_read 70 = .ok (.putfield 23, 3) := by decide +kernel
theorem dX7_read_73 : decode cX7_read 73 = .ok (.aload_n 0, 1) := by decide +kernel
theorem dX7_read_74 : decode cX7_read 74 = .ok (.aload 4, 2) := by decide +kernel
theorem dX7_read_76 : decode cX7_read 76 = .ok (.putfield 26, 3) := by decide +kernel
theorem dX7_read_79 : decode cX7_read 79 = .ok (.aload_n 0, 1) := by decide +kernel
theorem dX7_read_80 : decode cX7_read 80 = .ok (.aload_n 2, 1) := by decide +kernel
theorem dX7_read_81 : decode cX7_read 81 = .ok (.getfield 116, 3) := by decide +kernel
theorem dX7_read_84 : decode cX7_read 84 = .ok (.putfield 119, 3) := by decide +kernel
theorem dX7_read_87 : decode cX7_read 87 = .ok (.aload_n 0, 1) := by decide +kernel
theorem dX7_read_88 : decode cX7_read 88 = .ok (.aload_n 2, 1) := by decide +kernel
theorem dX7_read_89 : decode cX7_read 89 = .ok (.getfield 120, 3) := by decide +kernel
theorem dX7_read_92 : decode cX7_read 92 = .ok (.putfield 123, 3) := by decide +kernel
theorem dX7_read_95 : decode cX7_read 95 = .ok (.aload_n 0, 1) := by decide +kernel
theorem dX7_read_96 : decode cX7_read 96 = .ok (.getfield 23, 3) := by decide +kernel
theorem dX7_read_99 : decode cX7_read 99 = .ok (.getfield 68, 3) := by decide +kernel
theorem dX7_read_102 : decode cX7_read 102 = .ok (.ireturn, 1) := by decide +kernel
theorem dX7_place_0 : decode cX7_place 0 = .ok (.aload_n 0, 1) := by decide +kernel
theorem dX7_place_1 : decode cX7_place 1 = .ok (.getfield 52, 3) := by decide +kernel
theorem dX7_place_4 : decode cX7_place 4 = .ok (.ireturn, 1) := by decide +kernel
theorem dX7_count_0 : decode cX7_count 0 = .ok (.iload_n 1, 1) := by decide +kernel
theorem dX7_count_1 : decode cX7_count 1 = .ok (.tableswitch 117 0 8 #[51, 59, 67, 75, 83, 91, 99, 107, 112], 51) := by decide +kernel
theorem dX7_count_52 : decode cX7_count 52 = .ok (.aload_n 0, 1) := by decide +kernel
theorem dX7_count_53 : decode cX7_count 53 = .ok (.getfield 15, 3) := by decide +kernel
theorem dX7_count_56 : decode cX7_count 56 = .ok (.getfield 68, 3) := by decide +kernel
theorem dX7_count_59 : decode cX7_count 59 = .ok (.ireturn, 1) := by decide +kernel
theorem dX7_count_60 : decode cX7_count 60 = .ok (.aload_n 0, 1) := by decide +kernel
theorem dX7_count_61 : decode cX7_count 61 = .ok (.getfield 20, 3) := by decide +kernel
theorem dX7_count_64 : decode cX7_count 64 = .ok (.getfield 68, 3) := by decide +kernel
theorem dX7_count_67 : decode cX7_count 67 = .ok (.ireturn, 1) := by decide +kernel
theorem dX7_count_68 : decode cX7_count 68 = .ok (.aload_n 0, 1) := by decide +kernel
theorem dX7_count_69 : decode cX7_count 69 = .ok (.getfield 23, 3) := by decide +kernel
theorem dX7_count_72 : decode cX7_count 72 = .ok (.getfield 68, 3) := by decide +kernel
theorem dX7_count_75 : decode cX7_count 75 = .ok (.ireturn, 1) := by decide +kernel
theorem dX7_count_76 : decode cX7_count 76 = .ok (.aload_n 0, 1) := by decide +kernel
theorem dX7_count_77 : decode cX7_count 77 = .ok (.getfield 39, 3) := by decide +kernel
theorem dX7_count_80 : decode cX7_count 80 = .ok (.getfield 124, 3) := by decide +kernel
theorem dX7_count_83 : decode cX7_count 83 = .ok (.ireturn, 1) := by decide +kernel
theorem dX7_count_84 : decode cX7_count 84 = .ok (.aload_n 0, 1) := by decide +kernel
theorem dX7_count_85 : decode cX7_count 85 = .ok (.getfield 48, 3) := by decide +kernel
theorem dX7_count_88 : decode cX7_count 88 = .ok (.getfield 125, 3) := by decide +kernel
theorem dX7_count_91 : decode cX7_count 91 = .ok (.ireturn, 1) := by decide +kernel
theorem dX7_count_92 : decode cX7_count 92 = .ok (.aload_n 0, 1) := by decide +kernel
theorem dX7_count_93 : decode cX7_count 93 = .ok (.getfield 48, 3) := by decide +kernel
theorem dX7_count_96 : decode cX7_count 96 = .ok (.getfield 128, 3) := by decide +kernel
theorem dX7_count_99 : decode cX7_count 99 = .ok (.ireturn, 1) := by decide +kernel
theorem dX7_count_100 : decode cX7_count 100 = .ok (.aload_n 0, 1) := by decide +kernel
theorem dX7_count_101 : decode cX7_count 101 = .ok (.getfield 39, 3) := by decide +kernel
theorem dX7_count_104 : decode cX7_count 104 = .ok (.getfield 131, 3) := by decide +kernel
theorem dX7_count_107 : decode cX7_count 107 = .ok (.ireturn, 1) := by decide +kernel
theorem dX7_count_108 : decode cX7_count 108 = .ok (.aload_n 0, 1) := by decide +kernel
theorem dX7_count_109 : decode cX7_count 109 = .ok (.getfield 119, 3) := by decide +kernel
theorem dX7_count_112 : decode cX7_count 112 = .ok (.ireturn, 1) := by decide +kernel
theorem dX7_count_113 : decode cX7_count 113 = .ok (.aload_n 0, 1) := by decide +kernel
theorem dX7_count_114 : decode cX7_count 114 = .ok (.getfield 123, 3) := by decide +kernel
theorem dX7_count_117 : decode cX7_count 117 = .ok (.ireturn, 1) := by decide +kernel
theorem dX7_count_118 : decode cX7_count 118 = .ok (.iconst (-1), 1) := by decide +kernel
theorem dX7_count_119 : decode cX7_count 119 = .ok (.ireturn, 1) := by decide +kernel
set_option maxRecDepth 20000 in
theorem ggX7_octet_X7_rowOf : GoodIn wsX7_octet wsX7_rowOf := goodIn_r _ [5, 6, 7, 8, 16, 17, 18, 19, 20, 21, 22, 23, 24, 25] (by decide +kernel) (by decide +kernel)
set_option maxRecDepth 20000 in
theorem gX7_octet_X7_rowOf : GoodIn wsX7_octet (wsV RX7 134 RX7 yX7_rowOf wsX7_rowOf) := goodIn_app (goodIn_of _ (by decide +kernel)) ggX7_octet_X7_rowOf
set_option maxRecDepth 20000 in
theorem ggX7_octet_X5_get : GoodIn wsX7_octet wsX5_get := goodIn_r _ [13, 14, 15, 26, 27] (by decide +kernel) (by decide +kernel)
set_option maxRecDepth 20000 in
theorem gX7_octet_X5_get : GoodIn wsX7_octet (wsV RX7 138 RX5 yX5_get wsX5_get) := goodIn_app (goodIn_of _ (by decide +kernel)) ggX7_octet_X5_get
theorem dX7_octet_0 : decode cX7_octet 0 = .ok (.aload_n 0, 1) := by decide +kernel
theorem dX7_octet_1 : decode cX7_octet 1 = .ok (.iload_n 1, 1) := by decide +kernel
theorem dX7_octet_2 : decode cX7_octet 2 = .ok (.invokevirtual 134, 3) := by decide +kernel
theorem dX7_octet_5 : decode cX7_octet 5 = .ok (.astore_n 3, 1) := by decide +kernel
theorem dX7_octet_6 : decode cX7_octet 6 = .ok (.aload_n 3, 1) := by decide +kernel
theorem dX7_octet_7 : decode cX7_octet 7 = .ok (.ifnonnull 7, 3) := by decide +kernel
theorem dX7_octet_10 : decode cX7_octet 10 = .ok (.iconst (-1), 1) := by decide +kernel
theorem dX7_octet_11 : decode cX7_octet 11 = .ok (.goto 8, 3) := by decide +kernel
theorem dX7_octet_14 : decode cX7_octet 14 = .ok (.aload_n 3, 1) := by decide +kernel
theorem dX7_octet_15 : decode cX7_octet 15 = .ok (.iload_n 2, 1) := by decide +kernel
theorem dX7_octet_16 : decode cX7_octet 16 = .ok (.invokevirtual 138, 3) := by decide +kernel
theorem dX7_octet_19 : decode cX7_octet 19 = .ok (.ireturn, 1) := by decide +kernel
set_option maxRecDepth 20000 in
theorem ggX7_sequence_X6_tell : GoodIn wsX7_sequence wsX6_tell := goodIn_r _ [6, 7, 8, 9, 5, 10, 11, 12, 13, 14, 15, 16, 17, 18, 19, 20, 21, 22, 23, 24, 25, 26, 27, 28, 29, 30, 31, 32, 33, 34, 35, 36, 47, 48, 49, 50, 51, 52] (by decide +kernel) (by decide +kernel)
set_option maxRecDepth 20000 in
theorem gX7_sequence_X6_tell : GoodIn wsX7_sequence (wsV RX7 141 RX6 yX6_tell wsX6_tell) := goodIn_app (goodIn_of _ (by decide +kernel)) ggX7_sequence_X6_tell
theorem dX7_sequence_0 : decode cX7_sequence 0 = .ok (.aload_n 0, 1) := by decide +kernel
theorem dX7_sequence_1 : decode cX7_sequence 1 = .ok (.getfield 39, 3) := by decide +kernel
theorem dX7_sequence_4 : decode cX7_sequence 4 = .ok (.iload_n 1, 1) := by decide +kernel
theorem dX7_sequence_5 : decode cX7_sequence 5 = .ok (.iload_n 2, 1) := by decide +kernel
theorem dX7_sequence_6 : decode cX7_sequence 6 = .ok (.invokevirtual 141, 3) := by decide +kernel
theorem dX7_sequence_9 : decode cX7_sequence 9 = .ok (.ireturn, 1) := by decide +kernel
set_option maxRecDepth 20000 in
theorem ggX7_hash_X7_rowOf : GoodIn wsX7_hash wsX7_rowOf := goodIn_r _ [7, 8, 9, 10, 39, 40, 41, 42, 43, 44, 45, 46, 47, 48] (by decide +kernel) (by decide +kernel)
set_option maxRecDepth 20000 in
theorem gX7_hash_X7_rowOf : GoodIn wsX7_hash (wsV RX7 134 RX7 yX7_rowOf wsX7_rowOf) := goodIn_app (goodIn_of _ (by decide +kernel)) ggX7_hash_X7_rowOf
set_option maxRecDepth 20000 in
theorem ggX7_hash_X5_hasPiece : GoodIn wsX7_hash wsX5_hasPiece := goodIn_r _ [15, 16, 49, 50] (by decide +kernel) (by decide +kernel)
set_option maxRecDepth 20000 in
theorem gX7_hash_X5_hasPiece : GoodIn wsX7_hash (wsV RX7 144 RX5 yX5_hasPiece wsX5_hasPiece) := goodIn_app (goodIn_of _ (by decide +kernel)) ggX7_hash_X5_hasPiece
set_option maxRecDepth 20000 in
theorem ggX7_hash_X5_hashOf : GoodIn wsX7_hash wsX5_hashOf := goodIn_r _ [20, 21, 22, 23, 24, 25, 26, 27, 12, 13, 14, 15, 16, 28, 29, 30, 31, 32, 33, 34, 35, 36, 37, 38, 49, 50] (by decide +kernel) (by decide +kernel)
set_option maxRecDepth 20000 in
theorem gX7_hash_X5_hashOf : GoodIn wsX7_hash (wsV RX7 150 RX5 yX5_hashOf wsX5_hashOf) := goodIn_app (goodIn_of _ (by decide +kernel)) ggX7_hash_X5_hashOf
theorem dX7_hash_0 : decode cX7_hash 0 = .ok (.aload_n 0, 1) := by decide +kernel
theorem dX7_hash_1 : decode cX7_hash 1 = .ok (.iload_n 1, 1) := by decide +kernel
theorem dX7_hash_2 : decode cX7_hash 2 = .ok (.invokevirtual 134, 3) := by decide +kernel
theorem dX7_hash_5 : decode cX7_hash 5 = .ok (.astore 5, 2) := by decide +kernel
theorem dX7_hash_7 : decode cX7_hash 7 = .ok (.aload 5, 2) := by decide +kernel
theorem dX7_hash_9 : decode cX7_hash 9 = .ok (.ifnull 13, 3) := by decide +kernel
theorem dX7_hash_12 : decode cX7_hash 12 = .ok (.aload 5, 2) := by decide +kernel
theorem dX7_hash_14 : decode cX7_hash 14 = .ok (.iload_n 2, 1) := by decide +kernel
theorem dX7_hash_15 : decode cX7_hash 15 = .ok (.iload_n 3, 1) := by decide +kernel
theorem dX7_hash_16 : decode cX7_hash 16 = .ok (.invokevirtual 144, 3) := by decide +kernel
theorem dX7_hash_19 : decode cX7_hash 19 = .ok (.ifCond .ne 7, 3) := by decide +kernel
theorem dX7_hash_22 : decode cX7_hash 22 = .ok (.ldc2_w 148, 3) := by decide +kernel
theorem dX7_hash_25 : decode cX7_hash 25 = .ok (.lreturn, 1) := by decide +kernel
theorem dX7_hash_26 : decode cX7_hash 26 = .ok (.aload 5, 2) := by decide +kernel
theorem dX7_hash_28 : decode cX7_hash 28 = .ok (.iload_n 2, 1) := by decide +kernel
theorem dX7_hash_29 : decode cX7_hash 29 = .ok (.iload_n 3, 1) := by decide +kernel
theorem dX7_hash_30 : decode cX7_hash 30 = .ok (.iload 4, 2) := by decide +kernel
theorem dX7_hash_32 : decode cX7_hash 32 = .ok (.invokevirtual 150, 3) := by decide +kernel
theorem dX7_hash_35 : decode cX7_hash 35 = .ok (.i2l, 1) := by decide +kernel
theorem dX7_hash_36 : decode cX7_hash 36 = .ok (.ldc2_w 154, 3) := by decide +kernel
theorem dX7_hash_39 : decode cX7_hash 39 = .ok (.land, 1) := by decide +kernel
theorem dX7_hash_40 : decode cX7_hash 40 = .ok (.lreturn, 1) := by decide +kernel
theorem dX7_differs_0 : decode cX7_differs 0 = .ok (.aload_n 0, 1) := by decide +kernel
theorem dX7_differs_1 : decode cX7_differs 1 = .ok (.getfield 15, 3) := by decide +kernel
theorem dX7_differs_4 : decode cX7_differs 4 = .ok (.getfield 68, 3) := by decide +kernel
theorem dX7_differs_7 : decode cX7_differs 7 = .ok (.aload_n 0, 1) := by decide +kernel
theorem dX7_differs_8 : decode cX7_differs 8 = .ok (.getfield 23, 3) := by decide +kernel
theorem dX7_differs_11 : decode cX7_differs 11 = .ok (.getfield 68, 3) := by decide +kernel
theorem dX7_differs_14 : decode cX7_differs 14 = .ok (.invokestatic 156, 3) := by decide +kernel
theorem dX7_differs_17 : decode cX7_differs 17 = .ok (.istore_n 1, 1) := by decide +kernel
theorem dX7_differs_18 : decode cX7_differs 18 = .ok (.iconst 0, 1) := by decide +kernel
theorem dX7_differs_19 : decode cX7_differs 19 = .ok (.istore_n 2, 1) := by decide +kernel
theorem dX7_differs_20 : decode cX7_differs 20 = .ok (.iload_n 2, 1) := by decide +kernel
theorem dX7_differs_21 : decode cX7_differs 21 = .ok (.iload_n 1, 1) := by decide +kernel
theorem dX7_differs_22 : decode cX7_differs 22 = .ok (.if_icmp .ge 32, 3) := by decide +kernel
theorem dX7_differs_25 : decode cX7_differs 25 = .ok (.aload_n 0, 1) := by decide +kernel
theorem dX7_differs_26 : decode cX7_differs 26 = .ok (.getfield 15, 3) := by decide +kernel
theorem dX7_differs_29 : decode cX7_differs 29 = .ok (.getfield 161, 3) := by decide +kernel
theorem dX7_differs_32 : decode cX7_differs 32 = .ok (.iload_n 2, 1) := by decide +kernel
theorem dX7_differs_33 : decode cX7_differs 33 = .ok (.baload, 1) := by decide +kernel
theorem dX7_differs_34 : decode cX7_differs 34 = .ok (.aload_n 0, 1) := by decide +kernel
theorem dX7_differs_35 : decode cX7_differs 35 = .ok (.getfield 23, 3) := by decide +kernel
theorem dX7_differs_38 : decode cX7_differs 38 = .ok (.getfield 161, 3) := by decide +kernel
theorem dX7_differs_41 : decode cX7_differs 41 = .ok (.iload_n 2, 1) := by decide +kernel
theorem dX7_differs_42 : decode cX7_differs 42 = .ok (.baload, 1) := by decide +kernel
theorem dX7_differs_43 : decode cX7_differs 43 = .ok (.if_icmp .eq 5, 3) := by decide +kernel
theorem dX7_differs_46 : decode cX7_differs 46 = .ok (.iload_n 2, 1) := by decide +kernel
theorem dX7_differs_47 : decode cX7_differs 47 = .ok (.ireturn, 1) := by decide +kernel
theorem dX7_differs_48 : decode cX7_differs 48 = .ok (.iinc 2 1, 3) := by decide +kernel
theorem dX7_differs_51 : decode cX7_differs 51 = .ok (.goto (-31), 3) := by decide +kernel
theorem dX7_differs_54 : decode cX7_differs 54 = .ok (.aload_n 0, 1) := by decide +kernel
theorem dX7_differs_55 : decode cX7_differs 55 = .ok (.getfield 15, 3) := by decide +kernel
theorem dX7_differs_58 : decode cX7_differs 58 = .ok (.getfield 68, 3) := by decide +kernel
theorem dX7_differs_61 : decode cX7_differs 61 = .ok (.aload_n 0, 1) := by decide +kernel
theorem dX7_differs_62 : decode cX7_differs 62 = .ok (.getfield 23, 3) := by decide +kernel
theorem dX7_differs_65 : decode cX7_differs 65 = .ok (.getfield 68, 3) := by decide +kernel
theorem dX7_differs_68 : decode cX7_differs 68 = .ok (.if_icmp .ne 7, 3) := by decide +kernel
theorem dX7_differs_71 : decode cX7_differs 71 = .ok (.iconst (-1), 1) := by decide +kernel
theorem dX7_differs_72 : decode cX7_differs 72 = .ok (.goto 4, 3) := by decide +kernel
theorem dX7_differs_75 : decode cX7_differs 75 = .ok (.iload_n 1, 1) := by decide +kernel
theorem dX7_differs_76 : decode cX7_differs 76 = .ok (.ireturn, 1) := by decide +kernel
set_option maxRecDepth 20000 in
theorem ggX7_refusedPut_X5_room : GoodIn wsX7_refusedPut wsX5_room := goodIn_r _ [7, 8, 9, 20, 21] (by decide +kernel) (by decide +kernel)
set_option maxRecDepth 20000 in
theorem gX7_refusedPut_X5_room : GoodIn wsX7_refusedPut (wsV RX7 90 RX5 yX5_room wsX5_room) := goodIn_app (goodIn_of _ (by decide +kernel)) ggX7_refusedPut_X5_room
theorem dX7_refusedPut_0 : decode cX7_refusedPut 0 = .ok (.iload_n 1, 1) := by decide +kernel
theorem dX7_refusedPut_1 : decode cX7_refusedPut 1 = .ok (.iconst 1, 1) := by decide +kernel
theorem dX7_refusedPut_2 : decode cX7_refusedPut 2 = .ok (.if_icmp .lt 9, 3) := by decide +kernel
theorem dX7_refusedPut_5 : decode cX7_refusedPut 5 = .ok (.iload_n 1, 1) := by decide +kernel
theorem dX7_refusedPut_6 : decode cX7_refusedPut 6 = .ok (.ldc 165, 2) := by decide +kernel
theorem dX7_refusedPut_8 : decode cX7_refusedPut 8 = .ok (.if_icmp .le 5, 3) := by decide +kernel
theorem dX7_refusedPut_11 : decode cX7_refusedPut 11 = .ok (.iconst (-1), 1) := by decide +kernel
theorem dX7_refusedPut_12 : decode cX7_refusedPut 12 = .ok (.ireturn, 1) := by decide +kernel
theorem dX7_refusedPut_13 : decode cX7_refusedPut 13 = .ok (.iload_n 1, 1) := by decide +kernel
theorem dX7_refusedPut_14 : decode cX7_refusedPut 14 = .ok (.aload_n 0, 1) := by decide +kernel
theorem dX7_refusedPut_15 : decode cX7_refusedPut 15 = .ok (.getfield 15, 3) := by decide +kernel
theorem dX7_refusedPut_18 : decode cX7_refusedPut 18 = .ok (.invokevirtual 90, 3) := by decide +kernel
theorem dX7_refusedPut_21 : decode cX7_refusedPut 21 = .ok (.if_icmp .le 8, 3) := by decide +kernel
theorem dX7_refusedPut_24 : decode cX7_refusedPut 24 = .ok (.bipush (-2), 2) := by decide +kernel
theorem dX7_refusedPut_26 : decode cX7_refusedPut 26 = .ok (.goto 4, 3) := by decide +kernel
theorem dX7_refusedPut_29 : decode cX7_refusedPut 29 = .ok (.iconst 0, 1) := by decide +kernel
theorem dX7_refusedPut_30 : decode cX7_refusedPut 30 = .ok (.ireturn, 1) := by decide +kernel
theorem dX7_rowOf_0 : decode cX7_rowOf 0 = .ok (.iload_n 1, 1) := by decide +kernel
theorem dX7_rowOf_1 : decode cX7_rowOf 1 = .ok (.tableswitch 42 0 2 #[27, 32, 37], 27) := by decide +kernel
theorem dX7_rowOf_28 : decode cX7_rowOf 28 = .ok (.aload_n 0, 1) := by decide +kernel
theorem dX7_rowOf_29 : decode cX7_rowOf 29 = .ok (.getfield 15, 3) := by decide +kernel
theorem dX7_rowOf_32 : decode cX7_rowOf 32 = .ok (.areturn, 1) := by decide +kernel
theorem dX7_rowOf_33 : decode cX7_rowOf 33 = .ok (.aload_n 0, 1) := by decide +kernel
theorem dX7_rowOf_34 : decode cX7_rowOf 34 = .ok (.getfield 20, 3) := by decide +kernel
theorem dX7_rowOf_37 : decode cX7_rowOf 37 = .ok (.areturn, 1) := by decide +kernel
theorem dX7_rowOf_38 : decode cX7_rowOf 38 = .ok (.aload_n 0, 1) := by decide +kernel
theorem dX7_rowOf_39 : decode cX7_rowOf 39 = .ok (.getfield 23, 3) := by decide +kernel
theorem dX7_rowOf_42 : decode cX7_rowOf 42 = .ok (.areturn, 1) := by decide +kernel
theorem dX7_rowOf_43 : decode cX7_rowOf 43 = .ok (.aconst_null, 1) := by decide +kernel
theorem dX7_rowOf_44 : decode cX7_rowOf 44 = .ok (.areturn, 1) := by decide +kernel
