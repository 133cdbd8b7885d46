theorem dX8_init_0 : decode cX8_init 0 = .ok (.aload_n 0, 1) := by decide +kernel
theorem dX8_init_1 : decode cX8_init 1 = .ok (.invokespecial 1, 3) := by decide +kernel
theorem dX8_init_4 : decode cX8_init 4 = .ok (.aload_n 0, 1) := by decide +kernel
theorem dX8_init_5 : decode cX8_init 5 = .ok (.ldc 9, 2) := by decide +kernel
theorem dX8_init_7 : decode cX8_init 7 = .ok (.newarray .byte, 2) := by decide +kernel
theorem dX8_init_9 : decode cX8_init 9 = .ok (.putfield 10, 3) := by decide +kernel
theorem dX8_init_12 : decode cX8_init 12 = .ok (.aload_n 0, 1) := by decide +kernel
theorem dX8_init_13 : decode cX8_init 13 = .ok (.ldc 14, 2) := by decide +kernel
theorem dX8_init_15 : decode cX8_init 15 = .ok (.newarray .byte, 2) := by decide +kernel
theorem dX8_init_17 : decode cX8_init 17 = .ok (.putfield 15, 3) := by decide +kernel
theorem dX8_init_20 : decode cX8_init 20 = .ok (.aload_n 0, 1) := by decide +kernel
theorem dX8_init_21 : decode cX8_init 21 = .ok (.ldc 9, 2) := by decide +kernel
theorem dX8_init_23 : decode cX8_init 23 = .ok (.newarray .byte, 2) := by decide +kernel
theorem dX8_init_25 : decode cX8_init 25 = .ok (.putfield 18, 3) := by decide +kernel
theorem dX8_init_28 : decode cX8_init 28 = .ok (.aload_n 0, 1) := by decide +kernel
theorem dX8_init_29 : decode cX8_init 29 = .ok (.bipush 6, 2) := by decide +kernel
theorem dX8_init_31 : decode cX8_init 31 = .ok (.newarray .int, 2) := by decide +kernel
theorem dX8_init_33 : decode cX8_init 33 = .ok (.putfield 21, 3) := by decide +kernel
theorem dX8_init_36 : decode cX8_init 36 = .ok (.aload_n 0, 1) := by decide +kernel
theorem dX8_init_37 : decode cX8_init 37 = .ok (.ldc 25, 2) := by decide +kernel
theorem dX8_init_39 : decode cX8_init 39 = .ok (.newarray .int, 2) := by decide +kernel
theorem dX8_init_41 : decode cX8_init 41 = .ok (.putfield 26, 3) := by decide +kernel
theorem dX8_init_44 : decode cX8_init 44 = .ok (.aload_n 0, 1) := by decide +kernel
theorem dX8_init_45 : decode cX8_init 45 = .ok (.ldc 25, 2) := by decide +kernel
theorem dX8_init_47 : decode cX8_init 47 = .ok (.newarray .int, 2) := by decide +kernel
theorem dX8_init_49 : decode cX8_init 49 = .ok (.putfield 29, 3) := by decide +kernel
theorem dX8_init_52 : decode cX8_init 52 = .ok (.aload_n 0, 1) := by decide +kernel
theorem dX8_init_53 : decode cX8_init 53 = .ok (.ldc 25, 2) := by decide +kernel
theorem dX8_init_55 : decode cX8_init 55 = .ok (.newarray .int, 2) := by decide +kernel
theorem dX8_init_57 : decode cX8_init 57 = .ok (.putfield 32, 3) := by decide +kernel
theorem dX8_init_60 : decode cX8_init 60 = .ok (.aload_n 0, 1) := by decide +kernel
theorem dX8_init_61 : decode cX8_init 61 = .ok (.ldc 25, 2) := by decide +kernel
theorem dX8_init_63 : decode cX8_init 63 = .ok (.newarray .int, 2) := by decide +kernel
theorem dX8_init_65 : decode cX8_init 65 = .ok (.putfield 35, 3) := by decide +kernel
theorem dX8_init_68 : decode cX8_init 68 = .ok (.aload_n 0, 1) := by decide +kernel
theorem dX8_init_69 : decode cX8_init 69 = .ok (.ldc 25, 2) := by decide +kernel
theorem dX8_init_71 : decode cX8_init 71 = .ok (.newarray .int, 2) := by decide +kernel
theorem dX8_init_73 : decode cX8_init 73 = .ok (.putfield 38, 3) := by decide +kernel
theorem dX8_init_76 : decode cX8_init 76 = .ok (.aload_n 0, 1) := by decide +kernel
theorem dX8_init_77 : decode cX8_init 77 = .ok (.sipush 4096, 3) := by decide +kernel
theorem dX8_init_80 : decode cX8_init 80 = .ok (.newarray .int, 2) := by decide +kernel
theorem dX8_init_82 : decode cX8_init 82 = .ok (.putfield 41, 3) := by decide +kernel
theorem dX8_init_85 : decode cX8_init 85 = .ok (.aload_n 0, 1) := by decide +kernel
theorem dX8_init_86 : decode cX8_init 86 = .ok (.bipush 10, 2) := by decide +kernel
theorem dX8_init_88 : decode cX8_init 88 = .ok (.newarray .byte, 2) := by decide +kernel
theorem dX8_init_90 : decode cX8_init 90 = .ok (.putfield 44, 3) := by decide +kernel
theorem dX8_init_93 : decode cX8_init 93 = .ok (.aload_n 0, 1) := by decide +kernel
theorem dX8_init_94 : decode cX8_init 94 = .ok (.ldc 9, 2) := by decide +kernel
theorem dX8_init_96 : decode cX8_init 96 = .ok (.newarray .byte, 2) := by decide +kernel
theorem dX8_init_98 : decode cX8_init 98 = .ok (.putfield 47, 3) := by decide +kernel
theorem dX8_init_101 : decode cX8_init 101 = .ok (.aload_n 0, 1) := by decide +kernel
theorem dX8_init_102 : decode cX8_init 102 = .ok (.iconst (-1), 1) := by decide +kernel
theorem dX8_init_103 : decode cX8_init 103 = .ok (.putfield 50, 3) := by decide +kernel
theorem dX8_init_106 : decode cX8_init 106 = .ok (.aload_n 0, 1) := by decide +kernel
theorem dX8_init_107 : decode cX8_init 107 = .ok (.getfield 21, 3) := by decide +kernel
theorem dX8_init_110 : decode cX8_init 110 = .ok (.iconst 4, 1) := by decide +kernel
theorem dX8_init_111 : decode cX8_init 111 = .ok (.iconst 4, 1) := by decide +kernel
theorem dX8_init_112 : decode cX8_init 112 = .ok (.iastore, 1) := by decide +kernel
theorem dX8_init_113 : decode cX8_init 113 = .ok (.aload_n 0, 1) := by decide +kernel
theorem dX8_init_114 : decode cX8_init 114 = .ok (.getfield 21, 3) := by decide +kernel
theorem dX8_init_117 : decode cX8_init 117 = .ok (.iconst 5, 1) := by decide +kernel
theorem dX8_init_118 : decode cX8_init 118 = .ok (.ldc 54, 2) := by decide +kernel
theorem dX8_init_120 : decode cX8_init 120 = .ok (.iastore, 1) := by decide +kernel
theorem dX8_init_121 : decode cX8_init 121 = .ok (.return_, 1) := by decide +kernel
theorem dX8_word_0 : decode cX8_word 0 = .ok (.aload_n 0, 1) := by decide +kernel
theorem dX8_word_1 : decode cX8_word 1 = .ok (.iload_n 1, 1) := by decide +kernel
theorem dX8_word_2 : decode cX8_word 2 = .ok (.baload, 1) := by decide +kernel
theorem dX8_word_3 : decode cX8_word 3 = .ok (.sipush 255, 3) := by decide +kernel
theorem dX8_word_6 : decode cX8_word 6 = .ok (.iand, 1) := by decide +kernel
theorem dX8_word_7 : decode cX8_word 7 = .ok (.aload_n 0, 1) := by decide +kernel
theorem dX8_word_8 : decode cX8_word 8 = .ok (.iload_n 1, 1) := by decide +kernel
theorem dX8_word_9 : decode cX8_word 9 = .ok (.iconst 1, 1) := by decide +kernel
theorem dX8_word_10 : decode cX8_word 10 = .ok (.iadd, 1) := by decide +kernel
theorem dX8_word_11 : decode cX8_word 11 = .ok (.baload, 1) := by decide +kernel
theorem dX8_word_12 : decode cX8_word 12 = .ok (.sipush 255, 3) := by decide +kernel
theorem dX8_word_15 : decode cX8_word 15 = .ok (.iand, 1) := by decide +kernel
theorem dX8_word_16 : decode cX8_word 16 = .ok (.bipush 8, 2) := by decide +kernel
theorem dX8_word_18 : decode cX8_word 18 = .ok (.ishl, 1) := by decide +kernel
theorem dX8_word_19 : decode cX8_word 19 = .ok (.ior, 1) := by decide +kernel
theorem dX8_word_20 : decode cX8_word 20 = .ok (.aload_n 0, 1) := by decide +kernel
theorem dX8_word_21 : decode cX8_word 21 = .ok (.iload_n 1, 1) := by decide +kernel
theorem dX8_word_22 : decode cX8_word 22 = .ok (.iconst 2, 1) := by decide +kernel
theorem dX8_word_23 : decode cX8_word 23 = .ok (.iadd, 1) := by decide +kernel
theorem dX8_word_24 : decode cX8_word 24 = .ok (.baload, 1) := by decide +kernel
theorem dX8_word_25 : decode cX8_word 25 = .ok (.sipush 255, 3) := by decide +kernel
theorem dX8_word_28 : decode cX8_word 28 = .ok (.iand, 1) := by decide +kernel
theorem dX8_word_29 : decode cX8_word 29 = .ok (.bipush 16, 2) := by decide +kernel
theorem dX8_word_31 : decode cX8_word 31 = .ok (.ishl, 1) := by decide +kernel
theorem dX8_word_32 : decode cX8_word 32 = .ok (.ior, 1) := by decide +kernel
theorem dX8_word_33 : decode cX8_word 33 = .ok (.aload_n 0, 1) := by decide +kernel
theorem dX8_word_34 : decode cX8_word 34 = .ok (.iload_n 1, 1) := by decide +kernel
theorem dX8_word_35 : decode cX8_word 35 = .ok (.iconst 3, 1) := by decide +kernel
theorem dX8_word_36 : decode cX8_word 36 = .ok (.iadd, 1) := by decide +kernel
theorem dX8_word_37 : decode cX8_word 37 = .ok (.baload, 1) := by decide +kernel
theorem dX8_word_38 : decode cX8_word 38 = .ok (.sipush 255, 3) := by decide +kernel
theorem dX8_word_41 : decode cX8_word 41 = .ok (.iand, 1) := by decide +kernel
theorem dX8_word_42 : decode cX8_word 42 = .ok (.bipush 24, 2) := by decide +kernel
theorem dX8_word_44 : decode cX8_word 44 = .ok (.ishl, 1) := by decide +kernel
theorem dX8_word_45 : decode cX8_word 45 = .ok (.ior, 1) := by decide +kernel
theorem dX8_word_46 : decode cX8_word 46 = .ok (.ireturn, 1) := by decide +kernel
theorem dX8_turned_0 : decode cX8_turned 0 = .ok (.iload_n 0, 1) := by decide +kernel
theorem dX8_turned_1 : decode cX8_turned 1 = .ok (.iload_n 1, 1) := by decide +kernel
theorem dX8_turned_2 : decode cX8_turned 2 = .ok (.ishl, 1) := by decide +kernel
theorem dX8_turned_3 : decode cX8_turned 3 = .ok (.iload_n 0, 1) := by decide +kernel
theorem dX8_turned_4 : decode cX8_turned 4 = .ok (.bipush 32, 2) := by decide +kernel
theorem dX8_turned_6 : decode cX8_turned 6 = .ok (.iload_n 1, 1) := by decide +kernel
theorem dX8_turned_7 : decode cX8_turned 7 = .ok (.isub, 1) := by decide +kernel
theorem dX8_turned_8 : decode cX8_turned 8 = .ok (.iushr, 1) := by decide +kernel
theorem dX8_turned_9 : decode cX8_turned 9 = .ok (.ior, 1) := by decide +kernel
theorem dX8_turned_10 : decode cX8_turned 10 = .ok (.ireturn, 1) := by decide +kernel
set_option maxRecDepth 20000 in
theorem ggX8_round_X8_turned : GoodIn wsX8_round wsX8_turned := goodIn_r _ [6] (by decide +kernel) (by decide +kernel)
set_option maxRecDepth 20000 in
theorem gX8_round_X8_turned : GoodIn wsX8_round (va_wsS RX8 59 yX8_turned wsX8_turned) := goodIn_app (goodIn_of _ (by decide +kernel)) ggX8_round_X8_turned
theorem dX8_round_0 : decode cX8_round 0 = .ok (.iload_n 0, 1) := by decide +kernel
theorem dX8_round_1 : decode cX8_round 1 = .ok (.ldc 58, 2) := by decide +kernel
theorem dX8_round_3 : decode cX8_round 3 = .ok (.iload_n 1, 1) := by decide +kernel
theorem dX8_round_4 : decode cX8_round 4 = .ok (.imul, 1) := by decide +kernel
theorem dX8_round_5 : decode cX8_round 5 = .ok (.iadd, 1) := by decide +kernel
theorem dX8_round_6 : decode cX8_round 6 = .ok (.bipush 13, 2) := by decide +kernel
theorem dX8_round_8 : decode cX8_round 8 = .ok (.invokestatic 59, 3) := by decide +kernel
theorem dX8_round_11 : decode cX8_round 11 = .ok (.ldc 63, 2) := by decide +kernel
theorem dX8_round_13 : decode cX8_round 13 = .ok (.imul, 1) := by decide +kernel
theorem dX8_round_14 : decode cX8_round 14 = .ok (.ireturn, 1) := by decide +kernel
set_option maxRecDepth 20000 in
theorem ggX8_hashOf_X8_word : GoodIn wsX8_hashOf wsX8_word := goodIn_r _ [9] (by decide +kernel) (by decide +kernel)
set_option maxRecDepth 20000 in
theorem gX8_hashOf_X8_word : GoodIn wsX8_hashOf (va_wsS RX8 65 yX8_word wsX8_word) := goodIn_app (goodIn_of _ (by decide +kernel)) ggX8_hashOf_X8_word
set_option maxRecDepth 20000 in
theorem ggX8_hashOf_X8_round : GoodIn wsX8_hashOf wsX8_round := goodIn_r _ [12, 3, 2, 13, 14, 8, 15] (by decide +kernel) (by decide +kernel)
set_option maxRecDepth 20000 in
theorem gX8_hashOf_X8_round : GoodIn wsX8_hashOf (va_wsS RX8 69 yX8_round wsX8_round) := goodIn_app (goodIn_of _ (by decide +kernel)) ggX8_hashOf_X8_round
set_option maxRecDepth 20000 in
theorem ggX8_hashOf_X8_turned : GoodIn wsX8_hashOf wsX8_turned := goodIn_r _ [15] (by decide +kernel) (by decide +kernel)
set_option maxRecDepth 20000 in
theorem gX8_hashOf_X8_turned : GoodIn wsX8_hashOf (va_wsS RX8 59 yX8_turned wsX8_turned) := goodIn_app (goodIn_of _ (by decide +kernel)) ggX8_hashOf_X8_turned
theorem dX8_hashOf_0 : decode cX8_hashOf 0 = .ok (.iload_n 1, 1) := by decide +kernel
theorem dX8_hashOf_1 : decode cX8_hashOf 1 = .ok (.istore 4, 2) := by decide +kernel
theorem dX8_hashOf_3 : decode cX8_hashOf 3 = .ok (.iload_n 1, 1) := by decide +kernel
theorem dX8_hashOf_4 : decode cX8_hashOf 4 = .ok (.iload_n 2, 1) := by decide +kernel
theorem dX8_hashOf_5 : decode cX8_hashOf 5 = .ok (.iadd, 1) := by decide +kernel
theorem dX8_hashOf_6 : decode cX8_hashOf 6 = .ok (.istore 5, 2) := by decide +kernel
theorem dX8_hashOf_8 : decode cX8_hashOf 8 = .ok (.iload_n 3, 1) := by decide +kernel
theorem dX8_hashOf_9 : decode cX8_hashOf 9 = .ok (.ldc 64, 2) := by decide +kernel
theorem dX8_hashOf_11 : decode cX8_hashOf 11 = .ok (.iadd, 1) := by decide +kernel
theorem dX8_hashOf_12 : decode cX8_hashOf 12 = .ok (.istore 6, 2) := by decide +kernel
theorem dX8_hashOf_14 : decode cX8_hashOf 14 = .ok (.iload_n 2, 1) := by decide +kernel
theorem dX8_hashOf_15 : decode cX8_hashOf 15 = .ok (.bipush 16, 2) := by decide +kernel
theorem dX8_hashOf_17 : decode cX8_hashOf 17 = .ok (.if_icmp .lt 135, 3) := by decide +kernel
theorem dX8_hashOf_20 : decode cX8_hashOf 20 = .ok (.iload_n 3, 1) := by decide +kernel
theorem dX8_hashOf_21 : decode cX8_hashOf 21 = .ok (.ldc 63, 2) := by decide +kernel
theorem dX8_hashOf_23 : decode cX8_hashOf 23 = .ok (.iadd, 1) := by decide +kernel
theorem dX8_hashOf_24 : decode cX8_hashOf 24 = .ok (.ldc 58, 2) := by decide +kernel
theorem dX8_hashOf_26 : decode cX8_hashOf 26 = .ok (.iadd, 1) := by decide +kernel
theorem dX8_hashOf_27 : decode cX8_hashOf 27 = .ok (.istore 7, 2) := by decide +kernel
theorem dX8_hashOf_29 : decode cX8_hashOf 29 = .ok (.iload_n 3, 1) := by decide +kernel
theorem dX8_hashOf_30 : decode cX8_hashOf 30 = .ok (.ldc 58, 2) := by decide +kernel
theorem dX8_hashOf_32 : decode cX8_hashOf 32 = .ok (.iadd, 1) := by decide +kernel
theorem dX8_hashOf_33 : decode cX8_hashOf 33 = .ok (.istore 8, 2) := by decide +kernel
theorem dX8_hashOf_35 : decode cX8_hashOf 35 = .ok (.iload_n 3, 1) := by decide +kernel
theorem dX8_hashOf_36 : decode cX8_hashOf 36 = .ok (.istore 9, 2) := by decide +kernel
theorem dX8_hashOf_38 : decode cX8_hashOf 38 = .ok (.iload_n 3, 1) := by decide +kernel
theorem dX8_hashOf_39 : decode cX8_hashOf 39 = .ok (.ldc 63, 2) := by decide +kernel
theorem dX8_hashOf_41 : decode cX8_hashOf 41 = .ok (.isub, 1) := by decide +kernel
theorem dX8_hashOf_42 : decode cX8_hashOf 42 = .ok (.istore 10, 2) := by decide +kernel
theorem dX8_hashOf_44 : decode cX8_hashOf 44 = .ok (.iload 5, 2) := by decide +kernel
theorem dX8_hashOf_46 : decode cX8_hashOf 46 = .ok (.iload 4, 2) := by decide +kernel
theorem dX8_hashOf_48 : decode cX8_hashOf 48 = .ok (.isub, 1) := by decide +kernel
theorem dX8_hashOf_49 : decode cX8_hashOf 49 = .ok (.bipush 16, 2) := by decide +kernel
theorem dX8_hashOf_51 : decode cX8_hashOf 51 = .ok (.if_icmp .lt 69, 3) := by decide +kernel
theorem dX8_hashOf_54 : decode cX8_hashOf 54 = .ok (.iload 7, 2) := by decide +kernel
theorem dX8_hashOf_56 : decode cX8_hashOf 56 = .ok (.aload_n 0, 1) := by decide +kernel
theorem dX8_hashOf_57 : decode cX8_hashOf 57 = .ok (.iload 4, 2) := by decide +kernel
theorem dX8_hashOf_59 : decode cX8_hashOf 59 = .ok (.invokestatic 65, 3) := by decide +kernel
theorem dX8_hashOf_62 : decode cX8_hashOf 62 = .ok (.invokestatic 69, 3) := by decide +kernel
theorem dX8_hashOf_65 : decode cX8_hashOf 65 = .ok (.istore 7, 2) := by decide +kernel
theorem dX8_hashOf_67 : decode cX8_hashOf 67 = .ok (.iload 8, 2) := by decide +kernel
theorem dX8_hashOf_69 : decode cX8_hashOf 69 = .ok (.aload_n 0, 1) := by decide +kernel
theorem dX8_hashOf_70 : decode cX8_hashOf 70 = .ok (.iload 4, 2) := by decide +kernel
theorem dX8_hashOf_72 : decode cX8_hashOf 72 = .ok (.iconst 4, 1) := by decide +kernel
theorem dX8_hashOf_73 : decode cX8_hashOf 73 = .ok (.iadd, 1) := by decide +kernel
theorem dX8_hashOf_74 : decode cX8_hashOf 74 = .ok (.invokestatic 65, 3) := by decide +kernel
theorem dX8_hashOf_77 : decode cX8_hashOf 77 = .ok (.invokestatic 69, 3) := by decide +kernel
theorem dX8_hashOf_80 : decode cX8_hashOf 80 = .ok (.istore 8, 2) := by decide +kernel
theorem dX8_hashOf_82 : decode cX8_hashOf 82 = .ok (.iload 9, 2) := by decide +kernel
theorem dX8_hashOf_84 : decode cX8_hashOf 84 = .ok (.aload_n 0, 1) := by decide +kernel
theorem dX8_hashOf_85 : decode cX8_hashOf 85 = .ok (.iload 4, 2) := by decide +kernel
theorem dX8_hashOf_87 : decode cX8_hashOf 87 = .ok (.bipush 8, 2) := by decide +kernel
theorem dX8_hashOf_89 : decode cX8_hashOf 89 = .ok (.iadd, 1) := by decide +kernel
theorem dX8_hashOf_90 : decode cX8_hashOf 90 = .ok (.invokestatic 65, 3) := by decide +kernel
theorem dX8_hashOf_93 : decode cX8_hashOf 93 = .ok (.invokestatic 69, 3) := by decide +kernel
theorem dX8_hashOf_96 : decode cX8_hashOf 96 = .ok (.istore 9, 2) := by decide +kernel
theorem dX8_hashOf_98 : decode cX8_hashOf 98 = .ok (.iload 10, 2) := by decide +kernel
theorem dX8_hashOf_100 : decode cX8_hashOf 100 = .ok (.aload_n 0, 1) := by decide +kernel
theorem dX8_hashOf_101 : decode cX8_hashOf 101 = .ok (.iload 4, 2) := by decide +kernel
theorem dX8_hashOf_103 : decode cX8_hashOf 103 = .ok (.bipush 12, 2) := by decide +kernel
theorem dX8_hashOf_105 : decode cX8_hashOf 105 = .ok (.iadd, 1) := by decide +kernel
theorem dX8_hashOf_106 : decode cX8_hashOf 106 = .ok (.invokestatic 65, 3) := by decide +kernel
theorem dX8_hashOf_109 : decode cX8_hashOf 109 = .ok (.invokestatic 69, 3) := by decide +kernel
theorem dX8_hashOf_112 : decode cX8_hashOf 112 = .ok (.istore 10, 2) := by decide +kernel
theorem dX8_hashOf_114 : decode cX8_hashOf 114 = .ok (.iinc 4 16, 3) := by decide +kernel
theorem dX8_hashOf_117 : decode cX8_hashOf 117 = .ok (.goto (-73), 3) := by decide +kernel
theorem dX8_hashOf_120 : decode cX8_hashOf 120 = .ok (.iload 7, 2) := by decide +kernel
theorem dX8_hashOf_122 : decode cX8_hashOf 122 = .ok (.iconst 1, 1) := by decide +kernel
theorem dX8_hashOf_123 : decode cX8_hashOf 123 = .ok (.invokestatic 59, 3) := by decide +kernel
theorem dX8_hashOf_126 : decode cX8_hashOf 126 = .ok (.iload 8, 2) := by decide +kernel
theorem dX8_hashOf_128 : decode cX8_hashOf 128 = .ok (.bipush 7, 2) := by decide +kernel
theorem dX8_hashOf_130 : decode cX8_hashOf 130 = .ok (.invokestatic 59, 3) := by decide +kernel
theorem dX8_hashOf_133 : decode cX8_hashOf 133 = .ok (.iadd, 1) := by decide +kernel
theorem dX8_hashOf_134 : decode cX8_hashOf 134 = .ok (.iload 9, 2) := by decide +kernel
theorem dX8_hashOf_136 : decode cX8_hashOf 136 = .ok (.bipush 12, 2) := by decide +kernel
theorem dX8_hashOf_138 : decode cX8_hashOf 138 = .ok (.invokestatic 59, 3) := by decide +kernel
theorem dX8_hashOf_141 : decode cX8_hashOf 141 = .ok (.iadd, 1) := by decide +kernel
theorem dX8_hashOf_142 : decode cX8_hashOf 142 = .ok (.iload 10, 2) := by decide +kernel
theorem dX8_hashOf_144 : decode cX8_hashOf 144 = .ok (.bipush 18, 2) := by decide +kernel
theorem dX8_hashOf_146 : decode cX8_hashOf 146 = .ok (.invokestatic 59, 3) := by decide +kernel
theorem dX8_hashOf_149 : decode cX8_hashOf 149 = .ok (.iadd, 1) := by decide +kernel
theorem dX8_hashOf_150 : decode cX8_hashOf 150 = .ok (.istore 6, 2) := by decide +kernel
theorem dX8_hashOf_152 : decode cX8_hashOf 152 = .ok (.iload 6, 2) := by decide +kernel
theorem dX8_hashOf_154 : decode cX8_hashOf 154 = .ok (.iload_n 2, 1) := by decide +kernel
theorem dX8_hashOf_155 : decode cX8_hashOf 155 = .ok (.iadd, 1) := by decide +kernel
theorem dX8_hashOf_156 : decode cX8_hashOf 156 = .ok (.istore 6, 2) := by decide +kernel
theorem dX8_hashOf_158 : decode cX8_hashOf 158 = .ok (.iload 5, 2) := by decide +kernel
theorem dX8_hashOf_160 : decode cX8_hashOf 160 = .ok (.iload 4, 2) := by decide +kernel
theorem dX8_hashOf_162 : decode cX8_hashOf 162 = .ok (.isub, 1) := by decide +kernel
theorem dX8_hashOf_163 : decode cX8_hashOf 163 = .ok (.iconst 4, 1) := by decide +kernel
theorem dX8_hashOf_164 : decode cX8_hashOf 164 = .ok (.if_icmp .lt 31, 3) := by decide +kernel
theorem dX8_hashOf_167 : decode cX8_hashOf 167 = .ok (.iload 6, 2) := by decide +kernel
theorem dX8_hashOf_169 : decode cX8_hashOf 169 = .ok (.ldc 72, 2) := by decide +kernel
theorem dX8_hashOf_171 : decode cX8_hashOf 171 = .ok (.aload_n 0, 1) := by decide +kernel
theorem dX8_hashOf_172 : decode cX8_hashOf 172 = .ok (.iload 4, 2) := by decide +kernel
theorem dX8_hashOf_174 : decode cX8_hashOf 174 = .ok (.invokestatic 65, 3) := by decide +kernel
theorem dX8_hashOf_177 : decode cX8_hashOf 177 = .ok (.imul, 1) := by decide +kernel
theorem dX8_hashOf_178 : decode cX8_hashOf 178 = .ok (.iadd, 1) := by decide +kernel
theorem dX8_hashOf_179 : decode cX8_hashOf 179 = .ok (.bipush 17, 2) := by decide +kernel
theorem dX8_hashOf_181 : decode cX8_hashOf 181 = .ok (.invokestatic 59, 3) := by decide +kernel
theorem dX8_hashOf_184 : decode cX8_hashOf 184 = .ok (.ldc 73, 2) := by decide +kernel
theorem dX8_hashOf_186 : decode cX8_hashOf 186 = .ok (.imul, 1) := by decide +kernel
theorem dX8_hashOf_187 : decode cX8_hashOf 187 = .ok (.istore 6, 2) := by decide +kernel
theorem dX8_hashOf_189 : decode cX8_hashOf 189 = .ok (.iinc 4 4, 3) := by decide +kernel
theorem dX8_hashOf_192 : decode cX8_hashOf 192 = .ok (.goto (-34), 3) := by decide +kernel
theorem dX8_hashOf_195 : decode cX8_hashOf 195 = .ok (.iload 4, 2) := by decide +kernel
theorem dX8_hashOf_197 : decode cX8_hashOf 197 = .ok (.iload 5, 2) := by decide +kernel
theorem dX8_hashOf_199 : decode cX8_hashOf 199 = .ok (.if_icmp .ge 33, 3) := by decide +kernel
theorem dX8_hashOf_202 : decode cX8_hashOf 202 = .ok (.iload 6, 2) := by decide +kernel
theorem dX8_hashOf_204 : decode cX8_hashOf 204 = .ok (.ldc 64, 2) := by decide +kernel
theorem dX8_hashOf_206 : decode cX8_hashOf 206 = .ok (.aload_n 0, 1) := by decide +kernel
theorem dX8_hashOf_207 : decode cX8_hashOf 207 = .ok (.iload 4, 2) := by decide +kernel
theorem dX8_hashOf_209 : decode cX8_hashOf 209 = .ok (.baload, 1) := by decide +kernel
theorem dX8_hashOf_210 : decode cX8_hashOf 210 = .ok (.sipush 255, 3) := by decide +kernel
theorem dX8_hashOf_213 : decode cX8_hashOf 213 = .ok (.iand, 1) := by decide +kernel
theorem dX8_hashOf_214 : decode cX8_hashOf 214 = .ok (.imul, 1) := by decide +kernel
theorem dX8_hashOf_215 : decode cX8_hashOf 215 = .ok (.iadd, 1) := by decide +kernel
theorem dX8_hashOf_216 : decode cX8_hashOf 216 = .ok (.bipush 11, 2) := by decide +kernel
theorem dX8_hashOf_218 : decode cX8_hashOf 218 = .ok (.invokestatic 59, 3) := by decide +kernel
theorem dX8_hashOf_221 : decode cX8_hashOf 221 = .ok (.ldc 63, 2) := by decide +kernel
theorem dX8_hashOf_223 : decode cX8_hashOf 223 = .ok (.imul, 1) := by decide +kernel
theorem dX8_hashOf_224 : decode cX8_hashOf 224 = .ok (.istore 6, 2) := by decide +kernel
theorem dX8_hashOf_226 : decode cX8_hashOf 226 = .ok (.iinc 4 1, 3) := by decide +kernel
theorem dX8_hashOf_229 : decode cX8_hashOf 229 = .ok (.goto (-34), 3) := by decide +kernel
theorem dX8_hashOf_232 : decode cX8_hashOf 232 = .ok (.iload 6, 2) := by decide +kernel
theorem dX8_hashOf_234 : decode cX8_hashOf 234 = .ok (.iload 6, 2) := by decide +kernel
theorem dX8_hashOf_236 : decode cX8_hashOf 236 = .ok (.bipush 15, 2) := by decide +kernel
theorem dX8_hashOf_238 : decode cX8_hashOf 238 = .ok (.iushr, 1) := by decide +kernel
theorem dX8_hashOf_239 : decode cX8_hashOf 239 = .ok (.ixor, 1) := by decide +kernel
theorem dX8_hashOf_240 : decode cX8_hashOf 240 = .ok (.ldc 58, 2) := by decide +kernel
theorem dX8_hashOf_242 : decode cX8_hashOf 242 = .ok (.imul, 1) := by decide +kernel
theorem dX8_hashOf_243 : decode cX8_hashOf 243 = .ok (.istore 6, 2) := by decide +kernel
theorem dX8_hashOf_245 : decode cX8_hashOf 245 = .ok (.iload 6, 2) := by decide +kernel
theorem dX8_hashOf_247 : decode cX8_hashOf 247 = .ok (.iload 6, 2) := by decide +kernel
theorem dX8_hashOf_249 : decode cX8_hashOf 249 = .ok (.bipush 13, 2) := by decide +kernel
theorem dX8_hashOf_251 : decode cX8_hashOf 251 = .ok (.iushr, 1) := by decide +kernel
theorem dX8_hashOf_252 : decode cX8_hashOf 252 = .ok (.ixor, 1) := by decide +kernel
theorem dX8_hashOf_253 : decode cX8_hashOf 253 = .ok (.ldc 72, 2) := by decide +kernel
theorem dX8_hashOf_255 : decode cX8_hashOf 255 = .ok (.imul, 1) := by decide +kernel
theorem dX8_hashOf_256 : decode cX8_hashOf 256 = .ok (.istore 6, 2) := by decide +kernel
theorem dX8_hashOf_258 : decode cX8_hashOf 258 = .ok (.iload 6, 2) := by decide +kernel
theorem dX8_hashOf_260 : decode cX8_hashOf 260 = .ok (.iload 6, 2) := by decide +kernel
theorem dX8_hashOf_262 : decode cX8_hashOf 262 = .ok (.bipush 16, 2) := by decide +kernel
theorem dX8_hashOf_264 : decode cX8_hashOf 264 = .ok (.iushr, 1) := by decide +kernel
theorem dX8_hashOf_265 : decode cX8_hashOf 265 = .ok (.ixor, 1) := by decide +kernel
theorem dX8_hashOf_266 : decode cX8_hashOf 266 = .ok (.ireturn, 1) := by decide +kernel
theorem dX8_feed_0 : decode cX8_feed 0 = .ok (.aload_n 0, 1) := by decide +kernel
theorem dX8_feed_1 : decode cX8_feed 1 = .ok (.iconst 0, 1) := by decide +kernel
theorem dX8_feed_2 : decode cX8_feed 2 = .ok (.putfield 55, 3) := by decide +kernel
theorem dX8_feed_5 : decode cX8_feed 5 = .ok (.iload_n 3, 1) := by decide +kernel
theorem dX8_feed_6 : decode cX8_feed 6 = .ok (.iconst 1, 1) := by decide +kernel
theorem dX8_feed_7 : decode cX8_feed 7 = .ok (.if_icmp .lt 9, 3) := by decide +kernel
theorem dX8_feed_10 : decode cX8_feed 10 = .ok (.iload_n 3, 1) := by decide +kernel
theorem dX8_feed_11 : decode cX8_feed 11 = .ok (.bipush 8, 2) := by decide +kernel
theorem dX8_feed_13 : decode cX8_feed 13 = .ok (.if_icmp .le 5, 3) := by decide +kernel
theorem dX8_feed_16 : decode cX8_feed 16 = .ok (.iconst (-1), 1) := by decide +kernel
theorem dX8_feed_17 : decode cX8_feed 17 = .ok (.ireturn, 1) := by decide +kernel
theorem dX8_feed_18 : decode cX8_feed 18 = .ok (.aload_n 0, 1) := by decide +kernel
theorem dX8_feed_19 : decode cX8_feed 19 = .ok (.getfield 74, 3) := by decide +kernel
theorem dX8_feed_22 : decode cX8_feed 22 = .ok (.iload_n 3, 1) := by decide +kernel
theorem dX8_feed_23 : decode cX8_feed 23 = .ok (.iadd, 1) := by decide +kernel
theorem dX8_feed_24 : decode cX8_feed 24 = .ok (.ldc 9, 2) := by decide +kernel
theorem dX8_feed_26 : decode cX8_feed 26 = .ok (.if_icmp .le 6, 3) := by decide +kernel
theorem dX8_feed_29 : decode cX8_feed 29 = .ok (.bipush (-2), 2) := by decide +kernel
theorem dX8_feed_31 : decode cX8_feed 31 = .ok (.ireturn, 1) := by decide +kernel
theorem dX8_feed_32 : decode cX8_feed 32 = .ok (.iload_n 3, 1) := by decide +kernel
theorem dX8_feed_33 : decode cX8_feed 33 = .ok (.iconst 1, 1) := by decide +kernel
theorem dX8_feed_34 : decode cX8_feed 34 = .ok (.isub, 1) := by decide +kernel
theorem dX8_feed_35 : decode cX8_feed 35 = .ok (.istore 4, 2) := by decide +kernel
theorem dX8_feed_37 : decode cX8_feed 37 = .ok (.iload 4, 2) := by decide +kernel
theorem dX8_feed_39 : decode cX8_feed 39 = .ok (.ifCond .lt 37, 3) := by decide +kernel
theorem dX8_feed_42 : decode cX8_feed 42 = .ok (.aload_n 0, 1) := by decide +kernel
theorem dX8_feed_43 : decode cX8_feed 43 = .ok (.getfield 10, 3) := by decide +kernel
theorem dX8_feed_46 : decode cX8_feed 46 = .ok (.aload_n 0, 1) := by decide +kernel
theorem dX8_feed_47 : decode cX8_feed 47 = .ok (.getfield 74, 3) := by decide +kernel
theorem dX8_feed_50 : decode cX8_feed 50 = .ok (.lload_n 1, 1) := by decide +kernel
theorem dX8_feed_51 : decode cX8_feed 51 = .ok (.bipush 8, 2) := by decide +kernel
theorem dX8_feed_53 : decode cX8_feed 53 = .ok (.iload 4, 2) := by decide +kernel
theorem dX8_feed_55 : decode cX8_feed 55 = .ok (.imul, 1) := by decide +kernel
theorem dX8_feed_56 : decode cX8_feed 56 = .ok (.lshr, 1) := by decide +kernel
theorem dX8_feed_57 : decode cX8_feed 57 = .ok (.l2i, 1) := by decide +kernel
theorem dX8_feed_58 : decode cX8_feed 58 = .ok (.i2b, 1) := by decide +kernel
theorem dX8_feed_59 : decode cX8_feed 59 = .ok (.bastore, 1) := by decide +kernel
theorem dX8_feed_60 : decode cX8_feed 60 = .ok (.aload_n 0, 1) := by decide +kernel
theorem dX8_feed_61 : decode cX8_feed 61 = .ok (.dup, 1) := by decide +kernel
theorem dX8_feed_62 : decode cX8_feed 62 = .ok (.getfield 74, 3) := by decide +kernel
theorem dX8_feed_65 : decode cX8_feed 65 = .ok (.iconst 1, 1) := by decide +kernel
theorem dX8_feed_66 : decode cX8_feed 66 = .ok (.iadd, 1) := by decide +kernel
theorem dX8_feed_67 : decode cX8_feed 67 = .ok (.putfield 74, 3) := by decide +kernel
theorem dX8_feed_70 : decode cX8_feed 70 = .ok (.iinc 4 (-1), 3) := by decide +kernel
theorem dX8_feed_73 : decode cX8_feed 73 = .ok (.goto (-36), 3) := by decide +kernel
theorem dX8_feed_76 : decode cX8_feed 76 = .ok (.aload_n 0, 1) := by decide +kernel
theorem dX8_feed_77 : decode cX8_feed 77 = .ok (.getfield 74, 3) := by decide +kernel
theorem dX8_feed_80 : decode cX8_feed 80 = .ok (.ireturn, 1) := by decide +kernel
theorem dX8_mayCome_0 : decode cX8_mayCome 0 = .ok (.iload_n 1, 1) := by decide +kernel
theorem dX8_mayCome_1 : decode cX8_mayCome 1 = .ok (.iconst 1, 1) := by decide +kernel
theorem dX8_mayCome_2 : decode cX8_mayCome 2 = .ok (.if_icmp .lt 9, 3) := by decide +kernel
theorem dX8_mayCome_5 : decode cX8_mayCome 5 = .ok (.iload_n 1, 1) := by decide +kernel
theorem dX8_mayCome_6 : decode cX8_mayCome 6 = .ok (.ldc 77, 2) := by decide +kernel
theorem dX8_mayCome_8 : decode cX8_mayCome 8 = .ok (.if_icmp .le 7, 3) := by decide +kernel
theorem dX8_mayCome_11 : decode cX8_mayCome 11 = .ok (.iconst (-1), 1) := by decide +kernel
theorem dX8_mayCome_12 : decode cX8_mayCome 12 = .ok (.goto 20, 3) := by decide +kernel
theorem dX8_mayCome_15 : decode cX8_mayCome 15 = .ok (.aload_n 0, 1) := by decide +kernel
theorem dX8_mayCome_16 : decode cX8_mayCome 16 = .ok (.getfield 74, 3) := by decide +kernel
theorem dX8_mayCome_19 : decode cX8_mayCome 19 = .ok (.iload_n 1, 1) := by decide +kernel
theorem dX8_mayCome_20 : decode cX8_mayCome 20 = .ok (.iadd, 1) := by decide +kernel
theorem dX8_mayCome_21 : decode cX8_mayCome 21 = .ok (.ldc 9, 2) := by decide +kernel
theorem dX8_mayCome_23 : decode cX8_mayCome 23 = .ok (.if_icmp .le 8, 3) := by decide +kernel
theorem dX8_mayCome_26 : decode cX8_mayCome 26 = .ok (.bipush (-2), 2) := by decide +kernel
theorem dX8_mayCome_28 : decode cX8_mayCome 28 = .ok (.goto 4, 3) := by decide +kernel
theorem dX8_mayCome_31 : decode cX8_mayCome 31 = .ok (.iconst 0, 1) := by decide +kernel
theorem dX8_mayCome_32 : decode cX8_mayCome 32 = .ok (.ireturn, 1) := by decide +kernel
set_option maxRecDepth 20000 in
theorem ggX8_fill_X8_mayCome : GoodIn wsX8_fill wsX8_mayCome := goodIn_r _ [8, 9, 3, 10, 11, 12, 13, 14, 15, 16, 17, 18, 19, 20, 21, 22, 23, 24, 25, 26, 27, 28, 29, 30, 31, 32, 33, 34, 35, 36, 37, 38, 39, 40, 41, 42, 43, 44, 45, 46, 47, 48, 49] (by decide +kernel) (by decide +kernel)
set_option maxRecDepth 20000 in
theorem gX8_fill_X8_mayCome : GoodIn wsX8_fill (wsV RX8 78 RX8 yX8_mayCome wsX8_mayCome) := goodIn_app (goodIn_of _ (by decide +kernel)) ggX8_fill_X8_mayCome
theorem dX8_fill_0 : decode cX8_fill 0 = .ok (.aload_n 0, 1) := by decide +kernel
theorem dX8_fill_1 : decode cX8_fill 1 = .ok (.iconst 0, 1) := by decide +kernel
theorem dX8_fill_2 : decode cX8_fill 2 = .ok (.putfield 55, 3) := by decide +kernel
theorem dX8_fill_5 : decode cX8_fill 5 = .ok (.aload_n 0, 1) := by decide +kernel
theorem dX8_fill_6 : decode cX8_fill 6 = .ok (.iload_n 2, 1) := by decide +kernel
theorem dX8_fill_7 : decode cX8_fill 7 = .ok (.invokevirtual 78, 3) := by decide +kernel
theorem dX8_fill_10 : decode cX8_fill 10 = .ok (.istore_n 3, 1) := by decide +kernel
theorem dX8_fill_11 : decode cX8_fill 11 = .ok (.iload_n 3, 1) := by decide +kernel
theorem dX8_fill_12 : decode cX8_fill 12 = .ok (.ifCond .ge 5, 3) := by decide +kernel
theorem dX8_fill_15 : decode cX8_fill 15 = .ok (.iload_n 3, 1) := by decide +kernel
theorem dX8_fill_16 : decode cX8_fill 16 = .ok (.ireturn, 1) := by decide +kernel
theorem dX8_fill_17 : decode cX8_fill 17 = .ok (.iconst 0, 1) := by decide +kernel
theorem dX8_fill_18 : decode cX8_fill 18 = .ok (.istore 4, 2) := by decide +kernel
theorem dX8_fill_20 : decode cX8_fill 20 = .ok (.iload 4, 2) := by decide +kernel
theorem dX8_fill_22 : decode cX8_fill 22 = .ok (.iload_n 2, 1) := by decide +kernel
theorem dX8_fill_23 : decode cX8_fill 23 = .ok (.if_icmp .ge 23, 3) := by decide +kernel
theorem dX8_fill_26 : decode cX8_fill 26 = .ok (.aload_n 0, 1) := by decide +kernel
theorem dX8_fill_27 : decode cX8_fill 27 = .ok (.getfield 10, 3) := by decide +kernel
theorem dX8_fill_30 : decode cX8_fill 30 = .ok (.aload_n 0, 1) := by decide +kernel
theorem dX8_fill_31 : decode cX8_fill 31 = .ok (.getfield 74, 3) := by decide +kernel
theorem dX8_fill_34 : decode cX8_fill 34 = .ok (.iload 4, 2) := by decide +kernel
theorem dX8_fill_36 : decode cX8_fill 36 = .ok (.iadd, 1) := by decide +kernel
theorem dX8_fill_37 : decode cX8_fill 37 = .ok (.iload_n 1, 1) := by decide +kernel
theorem dX8_fill_38 : decode cX8_fill 38 = .ok (.i2b, 1) := by decide +kernel
theorem dX8_fill_39 : decode cX8_fill 39 = .ok (.bastore, 1) := by decide +kernel
theorem dX8_fill_40 : decode cX8_fill 40 = .ok (.iinc 4 1, 3) := by decide +kernel
theorem dX8_fill_43 : decode cX8_fill 43 = .ok (.goto (-23), 3) := by decide +kernel
theorem dX8_fill_46 : decode cX8_fill 46 = .ok (.aload_n 0, 1) := by decide +kernel
theorem dX8_fill_47 : decode cX8_fill 47 = .ok (.dup, 1) := by decide +kernel
theorem dX8_fill_48 : decode cX8_fill 48 = .ok (.getfield 74, 3) := by decide +kernel
theorem dX8_fill_51 : decode cX8_fill 51 = .ok (.iload_n 2, 1) := by decide +kernel
theorem dX8_fill_52 : decode cX8_fill 52 = .ok (.iadd, 1) := by decide +kernel
theorem dX8_fill_53 : decode cX8_fill 53 = .ok (.putfield 74, 3) := by decide +kernel
theorem dX8_fill_56 : decode cX8_fill 56 = .ok (.aload_n 0, 1) := by decide +kernel
theorem dX8_fill_57 : decode cX8_fill 57 = .ok (.getfield 74, 3) := by decide +kernel
theorem dX8_fill_60 : decode cX8_fill 60 = .ok (.ireturn, 1) := by decide +kernel
set_option maxRecDepth 20000 in
theorem ggX8_again_X8_mayCome : GoodIn wsX8_again wsX8_mayCome := goodIn_r _ [8, 9, 2, 10, 11, 12, 13, 14, 15, 16, 17, 18, 19, 20, 21, 22, 23, 24, 25, 26, 27, 28, 29, 30, 31, 32, 33, 34, 35, 36, 37, 38, 39, 40, 41, 42, 43, 44, 45, 46, 47, 48, 49] (by decide +kernel) (by decide +kernel)
set_option maxRecDepth 20000 in
theorem gX8_again_X8_mayCome : GoodIn wsX8_again (wsV RX8 78 RX8 yX8_mayCome wsX8_mayCome) := goodIn_app (goodIn_of _ (by decide +kernel)) ggX8_again_X8_mayCome
theorem dX8_again_0 : decode cX8_again 0 = .ok (.aload_n 0, 1) := by decide +kernel
theorem dX8_again_1 : decode cX8_again 1 = .ok (.iconst 0, 1) := by decide +kernel
theorem dX8_again_2 : decode cX8_again 2 = .ok (.putfield 55, 3) := by decide +kernel
theorem dX8_again_5 : decode cX8_again 5 = .ok (.aload_n 0, 1) := by decide +kernel
theorem dX8_again_6 : decode cX8_again 6 = .ok (.iload_n 2, 1) := by decide +kernel
theorem dX8_again_7 : decode cX8_again 7 = .ok (.invokevirtual 78, 3) := by decide +kernel
theorem dX8_again_10 : decode cX8_again 10 = .ok (.istore_n 3, 1) := by decide +kernel
theorem dX8_again_11 : decode cX8_again 11 = .ok (.iload_n 1, 1) := by decide +kernel
theorem dX8_again_12 : decode cX8_again 12 = .ok (.iconst 1, 1) := by decide +kernel
theorem dX8_again_13 : decode cX8_again 13 = .ok (.if_icmp .lt 16, 3) := by decide +kernel
theorem dX8_again_16 : decode cX8_again 16 = .ok (.iload_n 1, 1) := by decide +kernel
theorem dX8_again_17 : decode cX8_again 17 = .ok (.aload_n 0, 1) := by decide +kernel
theorem dX8_again_18 : decode cX8_again 18 = .ok (.getfield 74, 3) := by decide +kernel
theorem dX8_again_21 : decode cX8_again 21 = .ok (.if_icmp .gt 8, 3) := by decide +kernel
theorem dX8_again_24 : decode cX8_again 24 = .ok (.iload_n 3, 1) := by decide +kernel
theorem dX8_again_25 : decode cX8_again 25 = .ok (.iconst (-1), 1) := by decide +kernel
theorem dX8_again_26 : decode cX8_again 26 = .ok (.if_icmp .ne 5, 3) := by decide +kernel
theorem dX8_again_29 : decode cX8_again 29 = .ok (.iconst (-1), 1) := by decide +kernel
theorem dX8_again_30 : decode cX8_again 30 = .ok (.ireturn, 1) := by decide +kernel
theorem dX8_again_31 : decode cX8_again 31 = .ok (.iload_n 3, 1) := by decide +kernel
theorem dX8_again_32 : decode cX8_again 32 = .ok (.bipush (-2), 2) := by decide +kernel
theorem dX8_again_34 : decode cX8_again 34 = .ok (.if_icmp .ne 6, 3) := by decide +kernel
theorem dX8_again_37 : decode cX8_again 37 = .ok (.bipush (-2), 2) := by decide +kernel
theorem dX8_again_39 : decode cX8_again 39 = .ok (.ireturn, 1) := by decide +kernel
theorem dX8_again_40 : decode cX8_again 40 = .ok (.iconst 0, 1) := by decide +kernel
theorem dX8_again_41 : decode cX8_again 41 = .ok (.istore 4, 2) := by decide +kernel
theorem dX8_again_43 : decode cX8_again 43 = .ok (.iload 4, 2) := by decide +kernel
theorem dX8_again_45 : decode cX8_again 45 = .ok (.iload_n 2, 1) := by decide +kernel
theorem dX8_again_46 : decode cX8_again 46 = .ok (.if_icmp .ge 39, 3) := by decide +kernel
theorem dX8_again_49 : decode cX8_again 49 = .ok (.aload_n 0, 1) := by decide +kernel
theorem dX8_again_50 : decode cX8_again 50 = .ok (.getfield 10, 3) := by decide +kernel
theorem dX8_again_53 : decode cX8_again 53 = .ok (.aload_n 0, 1) := by decide +kernel
theorem dX8_again_54 : decode cX8_again 54 = .ok (.getfield 74, 3) := by decide +kernel
theorem dX8_again_57 : decode cX8_again 57 = .ok (.aload_n 0, 1) := by decide +kernel
theorem dX8_again_58 : decode cX8_again 58 = .ok (.getfield 10, 3) := by decide +kernel
theorem dX8_again_61 : decode cX8_again 61 = .ok (.aload_n 0, 1) := by decide +kernel
theorem dX8_again_62 : decode cX8_again 62 = .ok (.getfield 74, 3) := by decide +kernel
theorem dX8_again_65 : decode cX8_again 65 = .ok (.iload_n 1, 1) := by decide +kernel
theorem dX8_again_66 : decode cX8_again 66 = .ok (.isub, 1) := by decide +kernel
theorem dX8_again_67 : decode cX8_again 67 = .ok (.baload, 1) := by decide +kernel
theorem dX8_again_68 : decode cX8_again 68 = .ok (.bastore, 1) := by decide +kernel
theorem dX8_again_69 : decode cX8_again 69 = .ok (.aload_n 0, 1) := by decide +kernel
theorem dX8_again_70 : decode cX8_again 70 = .ok (.dup, 1) := by decide +kernel
theorem dX8_again_71 : decode cX8_again 71 = .ok (.getfield 74, 3) := by decide +kernel
theorem dX8_again_74 : decode cX8_again 74 = .ok (.iconst 1, 1) := by decide +kernel
theorem dX8_again_75 : decode cX8_again 75 = .ok (.iadd, 1) := by decide +kernel
theorem dX8_again_76 : decode cX8_again 76 = .ok (.putfield 74, 3) := by decide +kernel
theorem dX8_again_79 : decode cX8_again 79 = .ok (.iinc 4 1, 3) := by decide +kernel
theorem dX8_again_82 : decode cX8_again 82 = .ok (.goto (-39), 3) := by decide +kernel
theorem dX8_again_85 : decode cX8_again 85 = .ok (.aload_n 0, 1) := by decide +kernel
theorem dX8_again_86 : decode cX8_again 86 = .ok (.getfield 74, 3) := by decide +kernel
theorem dX8_again_89 : decode cX8_again 89 = .ok (.ireturn, 1) := by decide +kernel
set_option maxRecDepth 20000 in
theorem ggX8_mix_X8_mayCome : GoodIn wsX8_mix wsX8_mayCome := goodIn_r _ [9, 10, 4, 11, 12, 13, 14, 15, 16, 17, 18, 19, 20, 21, 22, 23, 24, 25, 26, 27, 28, 29, 30, 31, 32, 33, 34, 35, 36, 37, 38, 39, 40, 41, 42, 43, 44, 45, 46, 47, 48, 49, 50] (by decide +kernel) (by decide +kernel)
set_option maxRecDepth 20000 in
theorem gX8_mix_X8_mayCome : GoodIn wsX8_mix (wsV RX8 78 RX8 yX8_mayCome wsX8_mayCome) := goodIn_app (goodIn_of _ (by decide +kernel)) ggX8_mix_X8_mayCome
theorem dX8_mix_0 : decode cX8_mix 0 = .ok (.aload_n 0, 1) := by decide +kernel
theorem dX8_mix_1 : decode cX8_mix 1 = .ok (.iconst 0, 1) := by decide +kernel
theorem dX8_mix_2 : decode cX8_mix 2 = .ok (.putfield 55, 3) := by decide +kernel
theorem dX8_mix_5 : decode cX8_mix 5 = .ok (.aload_n 0, 1) := by decide +kernel
theorem dX8_mix_6 : decode cX8_mix 6 = .ok (.iload_n 2, 1) := by decide +kernel
theorem dX8_mix_7 : decode cX8_mix 7 = .ok (.invokevirtual 78, 3) := by decide +kernel
theorem dX8_mix_10 : decode cX8_mix 10 = .ok (.istore_n 3, 1) := by decide +kernel
theorem dX8_mix_11 : decode cX8_mix 11 = .ok (.iload_n 3, 1) := by decide +kernel
theorem dX8_mix_12 : decode cX8_mix 12 = .ok (.ifCond .ge 5, 3) := by decide +kernel
theorem dX8_mix_15 : decode cX8_mix 15 = .ok (.iload_n 3, 1) := by decide +kernel
theorem dX8_mix_16 : decode cX8_mix 16 = .ok (.ireturn, 1) := by decide +kernel
theorem dX8_mix_17 : decode cX8_mix 17 = .ok (.iload_n 1, 1) := by decide +kernel
theorem dX8_mix_18 : decode cX8_mix 18 = .ok (.istore 4, 2) := by decide +kernel
theorem dX8_mix_20 : decode cX8_mix 20 = .ok (.iconst 0, 1) := by decide +kernel
theorem dX8_mix_21 : decode cX8_mix 21 = .ok (.istore 5, 2) := by decide +kernel
theorem dX8_mix_23 : decode cX8_mix 23 = .ok (.iload 5, 2) := by decide +kernel
theorem dX8_mix_25 : decode cX8_mix 25 = .ok (.iload_n 2, 1) := by decide +kernel
theorem dX8_mix_26 : decode cX8_mix 26 = .ok (.if_icmp .ge 45, 3) := by decide +kernel
theorem dX8_mix_29 : decode cX8_mix 29 = .ok (.iload 4, 2) := by decide +kernel
theorem dX8_mix_31 : decode cX8_mix 31 = .ok (.ldc 82, 2) := by decide +kernel
theorem dX8_mix_33 : decode cX8_mix 33 = .ok (.imul, 1) := by decide +kernel
theorem dX8_mix_34 : decode cX8_mix 34 = .ok (.sipush 12345, 3) := by decide +kernel
theorem dX8_mix_37 : decode cX8_mix 37 = .ok (.iadd, 1) := by decide +kernel
theorem dX8_mix_38 : decode cX8_mix 38 = .ok (.istore 4, 2) := by decide +kernel
theorem dX8_mix_40 : decode cX8_mix 40 = .ok (.aload_n 0, 1) := by decide +kernel
theorem dX8_mix_41 : decode cX8_mix 41 = .ok (.getfield 10, 3) := by decide +kernel
theorem dX8_mix_44 : decode cX8_mix 44 = .ok (.aload_n 0, 1) := by decide +kernel
theorem dX8_mix_45 : decode cX8_mix 45 = .ok (.getfield 74, 3) := by decide +kernel
theorem dX8_mix_48 : decode cX8_mix 48 = .ok (.iload 4, 2) := by decide +kernel
theorem dX8_mix_50 : decode cX8_mix 50 = .ok (.bipush 16, 2) := by decide +kernel
theorem dX8_mix_52 : decode cX8_mix 52 = .ok (.ishr, 1) := by decide +kernel
theorem dX8_mix_53 : decode cX8_mix 53 = .ok (.i2b, 1) := by decide +kernel
theorem dX8_mix_54 : decode cX8_mix 54 = .ok (.bastore, 1) := by decide +kernel
theorem dX8_mix_55 : decode cX8_mix 55 = .ok (.aload_n 0, 1) := by decide +kernel
theorem dX8_mix_56 : decode cX8_mix 56 = .ok (.dup, 1) := by decide +kernel
theorem dX8_mix_57 : decode cX8_mix 57 = .ok (.getfield 74, 3) := by decide +kernel
theorem dX8_mix_60 : decode cX8_mix 60 = .ok (.iconst 1, 1) := by decide +kernel
theorem dX8_mix_61 : decode cX8_mix 61 = .ok (.iadd, 1) := by decide +kernel
theorem dX8_mix_62 : decode cX8_mix 62 = .ok (.putfield 74, 3) := by decide +kernel
theorem dX8_mix_65 : decode cX8_mix 65 = .ok (.iinc 5 1, 3) := by decide +kernel
theorem dX8_mix_68 : decode cX8_mix 68 = .ok (.goto (-45), 3) := by decide +kernel
theorem dX8_mix_71 : decode cX8_mix 71 = .ok (.aload_n 0, 1) := by decide +kernel
theorem dX8_mix_72 : decode cX8_mix 72 = .ok (.getfield 74, 3) := by decide +kernel
theorem dX8_mix_75 : decode cX8_mix 75 = .ok (.ireturn, 1) := by decide +kernel
theorem dX8_change_0 : decode cX8_change 0 = .ok (.aload_n 0, 1) := by decide +kernel
theorem dX8_change_1 : decode cX8_change 1 = .ok (.iconst 0, 1) := by decide +kernel
theorem dX8_change_2 : decode cX8_change 2 = .ok (.putfield 55, 3) := by decide +kernel
theorem dX8_change_5 : decode cX8_change 5 = .ok (.iload_n 1, 1) := by decide +kernel
theorem dX8_change_6 : decode cX8_change 6 = .ok (.ifCond .lt 11, 3) := by decide +kernel
theorem dX8_change_9 : decode cX8_change 9 = .ok (.iload_n 1, 1) := by decide +kernel
theorem dX8_change_10 : decode cX8_change 10 = .ok (.aload_n 0, 1) := by decide +kernel
theorem dX8_change_11 : decode cX8_change 11 = .ok (.getfield 74, 3) := by decide +kernel
theorem dX8_change_14 : decode cX8_change 14 = .ok (.if_icmp .lt 5, 3) := by decide +kernel
theorem dX8_change_17 : decode cX8_change 17 = .ok (.iconst (-1), 1) := by decide +kernel
theorem dX8_change_18 : decode cX8_change 18 = .ok (.ireturn, 1) := by decide +kernel
theorem dX8_change_19 : decode cX8_change 19 = .ok (.aload_n 0, 1) := by decide +kernel
theorem dX8_change_20 : decode cX8_change 20 = .ok (.getfield 10, 3) := by decide +kernel
theorem dX8_change_23 : decode cX8_change 23 = .ok (.iload_n 1, 1) := by decide +kernel
theorem dX8_change_24 : decode cX8_change 24 = .ok (.baload, 1) := by decide +kernel
theorem dX8_change_25 : decode cX8_change 25 = .ok (.sipush 255, 3) := by decide +kernel
theorem dX8_change_28 : decode cX8_change 28 = .ok (.iand, 1) := by decide +kernel
theorem dX8_change_29 : decode cX8_change 29 = .ok (.istore_n 3, 1) := by decide +kernel
theorem dX8_change_30 : decode cX8_change 30 = .ok (.aload_n 0, 1) := by decide +kernel
theorem dX8_change_31 : decode cX8_change 31 = .ok (.getfield 10, 3) := by decide +kernel
theorem dX8_change_34 : decode cX8_change 34 = .ok (.iload_n 1, 1) := by decide +kernel
theorem dX8_change_35 : decode cX8_change 35 = .ok (.iload_n 2, 1) := by decide +kernel
theorem dX8_change_36 : decode cX8_change 36 = .ok (.i2b, 1) := by decide +kernel
theorem dX8_change_37 : decode cX8_change 37 = .ok (.bastore, 1) := by decide +kernel
theorem dX8_change_38 : decode cX8_change 38 = .ok (.iload_n 3, 1) := by decide +kernel
theorem dX8_change_39 : decode cX8_change 39 = .ok (.ireturn, 1) := by decide +kernel
theorem dX8_keep_0 : decode cX8_keep 0 = .ok (.aload_n 0, 1) := by decide +kernel
theorem dX8_keep_1 : decode cX8_keep 1 = .ok (.iconst 0, 1) := by decide +kernel
theorem dX8_keep_2 : decode cX8_keep 2 = .ok (.putfield 55, 3) := by decide +kernel
theorem dX8_keep_5 : decode cX8_keep 5 = .ok (.iload_n 1, 1) := by decide +kernel
theorem dX8_keep_6 : decode cX8_keep 6 = .ok (.ifCond .lt 11, 3) := by decide +kernel
theorem dX8_keep_9 : decode cX8_keep 9 = .ok (.iload_n 1, 1) := by decide +kernel
theorem dX8_keep_10 : decode cX8_keep 10 = .ok (.aload_n 0, 1) := by decide +kernel
theorem dX8_keep_11 : decode cX8_keep 11 = .ok (.getfield 74, 3) := by decide +kernel
theorem dX8_keep_14 : decode cX8_keep 14 = .ok (.if_icmp .le 5, 3) := by decide +kernel
theorem dX8_keep_17 : decode cX8_keep 17 = .ok (.iconst (-1), 1) := by decide +kernel
theorem dX8_keep_18 : decode cX8_keep 18 = .ok (.ireturn, 1) := by decide +kernel
theorem dX8_keep_19 : decode cX8_keep 19 = .ok (.aload_n 0, 1) := by decide +kernel
theorem dX8_keep_20 : decode cX8_keep 20 = .ok (.getfield 74, 3) := by decide +kernel
theorem dX8_keep_23 : decode cX8_keep 23 = .ok (.istore_n 2, 1) := by decide +kernel
theorem dX8_keep_24 : decode cX8_keep 24 = .ok (.aload_n 0, 1) := by decide +kernel
theorem dX8_keep_25 : decode cX8_keep 25 = .ok (.iload_n 1, 1) := by decide +kernel
theorem dX8_keep_26 : decode cX8_keep 26 = .ok (.putfield 74, 3) := by decide +kernel
theorem dX8_keep_29 : decode cX8_keep 29 = .ok (.iload_n 2, 1) := by decide +kernel
theorem dX8_keep_30 : decode cX8_keep 30 = .ok (.ireturn, 1) := by decide +kernel
theorem dX8_option_0 : decode cX8_option 0 = .ok (.aload_n 0, 1) := by decide +kernel
theorem dX8_option_1 : decode cX8_option 1 = .ok (.iconst 0, 1) := by decide +kernel
theorem dX8_option_2 : decode cX8_option 2 = .ok (.putfield 55, 3) := by decide +kernel
theorem dX8_option_5 : decode cX8_option 5 = .ok (.iload_n 1, 1) := by decide +kernel
theorem dX8_option_6 : decode cX8_option 6 = .ok (.ifCond .lt 8, 3) := by decide +kernel
theorem dX8_option_9 : decode cX8_option 9 = .ok (.iload_n 1, 1) := by decide +kernel
theorem dX8_option_10 : decode cX8_option 10 = .ok (.iconst 5, 1) := by decide +kernel
theorem dX8_option_11 : decode cX8_option 11 = .ok (.if_icmp .le 5, 3) := by decide +kernel
theorem dX8_option_14 : decode cX8_option 14 = .ok (.iconst (-1), 1) := by decide +kernel
theorem dX8_option_15 : decode cX8_option 15 = .ok (.ireturn, 1) := by decide +kernel
theorem dX8_option_16 : decode cX8_option 16 = .ok (.iload_n 1, 1) := by decide +kernel
theorem dX8_option_17 : decode cX8_option 17 = .ok (.iconst 4, 1) := by decide +kernel
theorem dX8_option_18 : decode cX8_option 18 = .ok (.if_icmp .ge 7, 3) := by decide +kernel
theorem dX8_option_21 : decode cX8_option 21 = .ok (.iconst 0, 1) := by decide +kernel
theorem dX8_option_22 : decode cX8_option 22 = .ok (.goto 13, 3) := by decide +kernel
theorem dX8_option_25 : decode cX8_option 25 = .ok (.iload_n 1, 1) := by decide +kernel
theorem dX8_option_26 : decode cX8_option 26 = .ok (.iconst 4, 1) := by decide +kernel
theorem dX8_option_27 : decode cX8_option 27 = .ok (.if_icmp .ne 7, 3) := by decide +kernel
theorem dX8_option_30 : decode cX8_option 30 = .ok (.iconst 4, 1) := by decide +kernel
theorem dX8_option_31 : decode cX8_option 31 = .ok (.goto 4, 3) := by decide +kernel
theorem dX8_option_34 : decode cX8_option 34 = .ok (.iconst 1, 1) := by decide +kernel
theorem dX8_option_35 : decode cX8_option 35 = .ok (.istore_n 3, 1) := by decide +kernel
theorem dX8_option_36 : decode cX8_option 36 = .ok (.iload_n 1, 1) := by decide +kernel
theorem dX8_option_37 : decode cX8_option 37 = .ok (.iconst 4, 1) := by decide +kernel
theorem dX8_option_38 : decode cX8_option 38 = .ok (.if_icmp .ge 7, 3) := by decide +kernel
theorem dX8_option_41 : decode cX8_option 41 = .ok (.iconst 1, 1) := by decide +kernel
theorem dX8_option_42 : decode cX8_option 42 = .ok (.goto 15, 3) := by decide +kernel
theorem dX8_option_45 : decode cX8_option 45 = .ok (.iload_n 1, 1) := by decide +kernel
theorem dX8_option_46 : decode cX8_option 46 = .ok (.iconst 4, 1) := by decide +kernel
theorem dX8_option_47 : decode cX8_option 47 = .ok (.if_icmp .ne 8, 3) := by decide +kernel
theorem dX8_option_50 : decode cX8_option 50 = .ok (.bipush 7, 2) := by decide +kernel
theorem dX8_option_52 : decode cX8_option 52 = .ok (.goto 5, 3) := by decide +kernel
theorem dX8_option_55 : decode cX8_option 55 = .ok (.ldc 54, 2) := by decide +kernel
theorem dX8_option_57 : decode cX8_option 57 = .ok (.istore 4, 2) := by decide +kernel
theorem dX8_option_59 : decode cX8_option 59 = .ok (.iload_n 2, 1) := by decide +kernel
theorem dX8_option_60 : decode cX8_option 60 = .ok (.iload_n 3, 1) := by decide +kernel
theorem dX8_option_61 : decode cX8_option 61 = .ok (.if_icmp .lt 9, 3) := by decide +kernel
theorem dX8_option_64 : decode cX8_option 64 = .ok (.iload_n 2, 1) := by decide +kernel
theorem dX8_option_65 : decode cX8_option 65 = .ok (.iload 4, 2) := by decide +kernel
theorem dX8_option_67 : decode cX8_option 67 = .ok (.if_icmp .le 5, 3) := by decide +kernel
theorem dX8_option_70 : decode cX8_option 70 = .ok (.iconst (-1), 1) := by decide +kernel
theorem dX8_option_71 : decode cX8_option 71 = .ok (.ireturn, 1) := by decide +kernel
theorem dX8_option_72 : decode cX8_option 72 = .ok (.aload_n 0, 1) := by decide +kernel
theorem dX8_option_73 : decode cX8_option 73 = .ok (.getfield 21, 3) := by decide +kernel
theorem dX8_option_76 : decode cX8_option 76 = .ok (.iload_n 1, 1) := by decide +kernel
theorem dX8_option_77 : decode cX8_option 77 = .ok (.iaload, 1) := by decide +kernel
theorem dX8_option_78 : decode cX8_option 78 = .ok (.istore 5, 2) := by decide +kernel
theorem dX8_option_80 : decode cX8_option 80 = .ok (.aload_n 0, 1) := by decide +kernel
theorem dX8_option_81 : decode cX8_option 81 = .ok (.getfield 21, 3) := by decide +kernel
theorem dX8_option_84 : decode cX8_option 84 = .ok (.iload_n 1, 1) := by decide +kernel
theorem dX8_option_85 : decode cX8_option 85 = .ok (.iload_n 2, 1) := by decide +kernel
theorem dX8_option_86 : decode cX8_option 86 = .ok (.iastore, 1) := by decide +kernel
theorem dX8_option_87 : decode cX8_option 87 = .ok (.iload 5, 2) := by decide +kernel
theorem dX8_option_89 : decode cX8_option 89 = .ok (.ireturn, 1) := by decide +kernel
theorem dX8_write_0 : decode cX8_write 0 = .ok (.aload_n 0, 1) := by decide +kernel
theorem dX8_write_1 : decode cX8_write 1 = .ok (.getfield 83, 3) := by decide +kernel
theorem dX8_write_4 : decode cX8_write 4 = .ok (.ldc2_w 87, 3) := by decide +kernel
theorem dX8_write_7 : decode cX8_write 7 = .ok (.lcmp, 1) := by decide +kernel
theorem dX8_write_8 : decode cX8_write 8 = .ok (.ifCond .ge 15, 3) := by decide +kernel
theorem dX8_write_11 : decode cX8_write 11 = .ok (.aload_n 0, 1) := by decide +kernel
theorem dX8_write_12 : decode cX8_write 12 = .ok (.getfield 15, 3) := by decide +kernel
theorem dX8_write_15 : decode cX8_write 15 = .ok (.aload_n 0, 1) := by decide +kernel
theorem dX8_write_16 : decode cX8_write 16 = .ok (.getfield 83, 3) := by decide +kernel
theorem dX8_write_19 : decode cX8_write 19 = .ok (.l2i, 1) := by decide +kernel
theorem dX8_write_20 : decode cX8_write 20 = .ok (.iload_n 1, 1) := by decide +kernel
theorem dX8_write_21 : decode cX8_write 21 = .ok (.i2b, 1) := by decide +kernel
theorem dX8_write_22 : decode cX8_write 22 = .ok (.bastore, 1) := by decide +kernel
theorem dX8_write_23 : decode cX8_write 23 = .ok (.aload_n 0, 1) := by decide +kernel
theorem dX8_write_24 : decode cX8_write 24 = .ok (.dup, 1) := by decide +kernel
theorem dX8_write_25 : decode cX8_write 25 = .ok (.getfield 83, 3) := by decide +kernel
theorem dX8_write_28 : decode cX8_write 28 = .ok (.lconst 1, 1) := by decide +kernel
theorem dX8_write_29 : decode cX8_write 29 = .ok (.ladd, 1) := by decide +kernel
theorem dX8_write_30 : decode cX8_write 30 = .ok (.putfield 83, 3) := by decide +kernel
theorem dX8_write_33 : decode cX8_write 33 = .ok (.return_, 1) := by decide +kernel
set_option maxRecDepth 20000 in
theorem ggX8_writeNumber_X8_write : GoodIn wsX8_writeNumber wsX8_write := goodIn_r _ [5, 6, 7, 8, 9, 10, 11, 12, 13, 14, 15, 16, 17, 18, 19, 20, 21, 22, 23, 24, 25, 26, 27, 28, 29, 30, 31, 32, 33, 34, 35, 36, 37, 38, 39, 40, 41, 42, 43, 44, 45, 46, 47] (by decide +kernel) (by decide +kernel)
set_option maxRecDepth 20000 in
theorem gX8_writeNumber_X8_write : GoodIn wsX8_writeNumber (wsV RX8 89 RX8 yX8_write wsX8_write) := goodIn_app (goodIn_of _ (by decide +kernel)) ggX8_writeNumber_X8_write
theorem dX8_writeNumber_0 : decode cX8_writeNumber 0 = .ok (.iconst 0, 1) := by decide +kernel
theorem dX8_writeNumber_1 : decode cX8_writeNumber 1 = .ok (.istore 4, 2) := by decide +kernel
theorem dX8_writeNumber_3 : decode cX8_writeNumber 3 = .ok (.iload 4, 2) := by decide +kernel
theorem dX8_writeNumber_5 : decode cX8_writeNumber 5 = .ok (.iload_n 3, 1) := by decide +kernel
theorem dX8_writeNumber_6 : decode cX8_writeNumber 6 = .ok (.if_icmp .ge 21, 3) := by decide +kernel
theorem dX8_writeNumber_9 : decode cX8_writeNumber 9 = .ok (.aload_n 0, 1) := by decide +kernel
theorem dX8_writeNumber_10 : decode cX8_writeNumber 10 = .ok (.lload_n 1, 1) := by decide +kernel
theorem dX8_writeNumber_11 : decode cX8_writeNumber 11 = .ok (.bipush 8, 2) := by decide +kernel
theorem dX8_writeNumber_13 : decode cX8_writeNumber 13 = .ok (.iload 4, 2) := by decide +kernel
theorem dX8_writeNumber_15 : decode cX8_writeNumber 15 = .ok (.imul, 1) := by decide +kernel
theorem dX8_writeNumber_16 : decode cX8_writeNumber 16 = .ok (.lshr, 1) := by decide +kernel
theorem dX8_writeNumber_17 : decode cX8_writeNumber 17 = .ok (.l2i, 1) := by decide +kernel
theorem dX8_writeNumber_18 : decode cX8_writeNumber 18 = .ok (.invokevirtual 89, 3) := by decide +kernel
theorem dX8_writeNumber_21 : decode cX8_writeNumber 21 = .ok (.iinc 4 1, 3) := by decide +kernel
theorem dX8_writeNumber_24 : decode cX8_writeNumber 24 = .ok (.goto (-21), 3) := by decide +kernel
theorem dX8_writeNumber_27 : decode cX8_writeNumber 27 = .ok (.return_, 1) := by decide +kernel
theorem dX8_addSequence_0 : decode cX8_addSequence 0 = .ok (.aload_n 0, 1) := by decide +kernel
theorem dX8_addSequence_1 : decode cX8_addSequence 1 = .ok (.getfield 26, 3) := by decide +kernel
theorem dX8_addSequence_4 : decode cX8_addSequence 4 = .ok (.aload_n 0, 1) := by decide +kernel
theorem dX8_addSequence_5 : decode cX8_addSequence 5 = .ok (.getfield 93, 3) := by decide +kernel
theorem dX8_addSequence_8 : decode cX8_addSequence 8 = .ok (.aload_n 0, 1) := by decide +kernel
theorem dX8_addSequence_9 : decode cX8_addSequence 9 = .ok (.getfield 96, 3) := by decide +kernel
theorem dX8_addSequence_12 : decode cX8_addSequence 12 = .ok (.iastore, 1) := by decide +kernel
theorem dX8_addSequence_13 : decode cX8_addSequence 13 = .ok (.aload_n 0, 1) := by decide +kernel
theorem dX8_addSequence_14 : decode cX8_addSequence 14 = .ok (.getfield 29, 3) := by decide +kernel
theorem dX8_addSequence_17 : decode cX8_addSequence 17 = .ok (.aload_n 0, 1) := by decide +kernel
theorem dX8_addSequence_18 : decode cX8_addSequence 18 = .ok (.getfield 93, 3) := by decide +kernel
theorem dX8_addSequence_21 : decode cX8_addSequence 21 = .ok (.iload_n 1, 1) := by decide +kernel
theorem dX8_addSequence_22 : decode cX8_addSequence 22 = .ok (.iastore, 1) := by decide +kernel
theorem dX8_addSequence_23 : decode cX8_addSequence 23 = .ok (.aload_n 0, 1) := by decide +kernel
theorem dX8_addSequence_24 : decode cX8_addSequence 24 = .ok (.getfield 32, 3) := by decide +kernel
theorem dX8_addSequence_27 : decode cX8_addSequence 27 = .ok (.aload_n 0, 1) := by decide +kernel
theorem dX8_addSequence_28 : decode cX8_addSequence 28 = .ok (.getfield 93, 3) := by decide +kernel
theorem dX8_addSequence_31 : decode cX8_addSequence 31 = .ok (.iload_n 2, 1) := by decide +kernel
theorem dX8_addSequence_32 : decode cX8_addSequence 32 = .ok (.iastore, 1) := by decide +kernel
theorem dX8_addSequence_33 : decode cX8_addSequence 33 = .ok (.aload_n 0, 1) := by decide +kernel
theorem dX8_addSequence_34 : decode cX8_addSequence 34 = .ok (.getfield 35, 3) := by decide +kernel
theorem dX8_addSequence_37 : decode cX8_addSequence 37 = .ok (.aload_n 0, 1) := by decide +kernel
theorem dX8_addSequence_38 : decode cX8_addSequence 38 = .ok (.getfield 93, 3) := by decide +kernel
theorem dX8_addSequence_41 : decode cX8_addSequence 41 = .ok (.iload_n 3, 1) := by decide +kernel
theorem dX8_addSequence_42 : decode cX8_addSequence 42 = .ok (.iastore, 1) := by decide +kernel
theorem dX8_addSequence_43 : decode cX8_addSequence 43 = .ok (.aload_n 0, 1) := by decide +kernel
theorem dX8_addSequence_44 : decode cX8_addSequence 44 = .ok (.getfield 38, 3) := by decide +kernel
theorem dX8_addSequence_47 : decode cX8_addSequence 47 = .ok (.aload_n 0, 1) := by decide +kernel
theorem dX8_addSequence_48 : decode cX8_addSequence 48 = .ok (.getfield 93, 3) := by decide +kernel
theorem dX8_addSequence_51 : decode cX8_addSequence 51 = .ok (.iload 4, 2) := by decide +kernel
theorem dX8_addSequence_53 : decode cX8_addSequence 53 = .ok (.iastore, 1) := by decide +kernel
theorem dX8_addSequence_54 : decode cX8_addSequence 54 = .ok (.aload_n 0, 1) := by decide +kernel
theorem dX8_addSequence_55 : decode cX8_addSequence 55 = .ok (.dup, 1) := by decide +kernel
theorem dX8_addSequence_56 : decode cX8_addSequence 56 = .ok (.getfield 93, 3) := by decide +kernel
theorem dX8_addSequence_59 : decode cX8_addSequence 59 = .ok (.iconst 1, 1) := by decide +kernel
theorem dX8_addSequence_60 : decode cX8_addSequence 60 = .ok (.iadd, 1) := by decide +kernel
theorem dX8_addSequence_61 : decode cX8_addSequence 61 = .ok (.putfield 93, 3) := by decide +kernel
theorem dX8_addSequence_64 : decode cX8_addSequence 64 = .ok (.aload_n 0, 1) := by decide +kernel
theorem dX8_addSequence_65 : decode cX8_addSequence 65 = .ok (.dup, 1) := by decide +kernel
theorem dX8_addSequence_66 : decode cX8_addSequence 66 = .ok (.getfield 99, 3) := by decide +kernel
theorem dX8_addSequence_69 : decode cX8_addSequence 69 = .ok (.iload 4, 2) := by decide +kernel
theorem dX8_addSequence_71 : decode cX8_addSequence 71 = .ok (.iadd, 1) := by decide +kernel
theorem dX8_addSequence_72 : decode cX8_addSequence 72 = .ok (.putfield 99, 3) := by decide +kernel
theorem dX8_addSequence_75 : decode cX8_addSequence 75 = .ok (.return_, 1) := by decide +kernel
set_option maxRecDepth 20000 in
theorem ggX8_find_X8_word : GoodIn wsX8_find wsX8_word := goodIn_r _ [8] (by decide +kernel) (by decide +kernel)
set_option maxRecDepth 20000 in
theorem gX8_find_X8_word : GoodIn wsX8_find (va_wsS RX8 65 yX8_word wsX8_word) := goodIn_app (goodIn_of _ (by decide +kernel)) ggX8_find_X8_word
set_option maxRecDepth 20000 in
theorem ggX8_find_X8_addSequence : GoodIn wsX8_find wsX8_addSequence := goodIn_r _ [12, 13, 14, 15, 16, 17, 18, 19, 20, 21, 22, 23, 24, 25, 26, 27, 28, 29, 30, 31, 32, 33, 34, 35, 36, 37, 38, 39, 40, 41, 42, 43, 44, 45, 46, 47, 48, 49, 50, 51, 52, 53, 54, 55, 56, 57, 58, 59] (by decide +kernel) (by decide +kernel)
set_option maxRecDepth 20000 in
theorem gX8_find_X8_addSequence : GoodIn wsX8_find (wsV RX8 103 RX8 yX8_addSequence wsX8_addSequence) := goodIn_app (goodIn_of _ (by decide +kernel)) ggX8_find_X8_addSequence
theorem dX8_find_0 : decode cX8_find 0 = .ok (.iload_n 1, 1) := by decide +kernel
theorem dX8_find_1 : decode cX8_find 1 = .ok (.istore_n 3, 1) := by decide +kernel
theorem dX8_find_2 : decode cX8_find 2 = .ok (.iload_n 1, 1) := by decide +kernel
theorem dX8_find_3 : decode cX8_find 3 = .ok (.istore 4, 2) := by decide +kernel
theorem dX8_find_5 : decode cX8_find 5 = .ok (.iload_n 3, 1) := by decide +kernel
theorem dX8_find_6 : decode cX8_find 6 = .ok (.iload_n 2, 1) := by decide +kernel
theorem dX8_find_7 : decode cX8_find 7 = .ok (.bipush 12, 2) := by decide +kernel
theorem dX8_find_9 : decode cX8_find 9 = .ok (.isub, 1) := by decide +kernel
theorem dX8_find_10 : decode cX8_find 10 = .ok (.if_icmp .gt 146, 3) := by decide +kernel
theorem dX8_find_13 : decode cX8_find 13 = .ok (.aload_n 0, 1) := by decide +kernel
theorem dX8_find_14 : decode cX8_find 14 = .ok (.getfield 10, 3) := by decide +kernel
theorem dX8_find_17 : decode cX8_find 17 = .ok (.iload_n 3, 1) := by decide +kernel
theorem dX8_find_18 : decode cX8_find 18 = .ok (.invokestatic 65, 3) := by decide +kernel
theorem dX8_find_21 : decode cX8_find 21 = .ok (.istore 5, 2) := by decide +kernel
theorem dX8_find_23 : decode cX8_find 23 = .ok (.iload 5, 2) := by decide +kernel
theorem dX8_find_25 : decode cX8_find 25 = .ok (.ldc 63, 2) := by decide +kernel
theorem dX8_find_27 : decode cX8_find 27 = .ok (.imul, 1) := by decide +kernel
theorem dX8_find_28 : decode cX8_find 28 = .ok (.bipush 20, 2) := by decide +kernel
theorem dX8_find_30 : decode cX8_find 30 = .ok (.iushr, 1) := by decide +kernel
theorem dX8_find_31 : decode cX8_find 31 = .ok (.istore 6, 2) := by decide +kernel
theorem dX8_find_33 : decode cX8_find 33 = .ok (.aload_n 0, 1) := by decide +kernel
theorem dX8_find_34 : decode cX8_find 34 = .ok (.getfield 41, 3) := by decide +kernel
theorem dX8_find_37 : decode cX8_find 37 = .ok (.iload 6, 2) := by decide +kernel
theorem dX8_find_39 : decode cX8_find 39 = .ok (.iaload, 1) := by decide +kernel
theorem dX8_find_40 : decode cX8_find 40 = .ok (.iconst 1, 1) := by decide +kernel
theorem dX8_find_41 : decode cX8_find 41 = .ok (.isub, 1) := by decide +kernel
theorem dX8_find_42 : decode cX8_find 42 = .ok (.istore 7, 2) := by decide +kernel
theorem dX8_find_44 : decode cX8_find 44 = .ok (.aload_n 0, 1) := by decide +kernel
theorem dX8_find_45 : decode cX8_find 45 = .ok (.getfield 41, 3) := by decide +kernel
theorem dX8_find_48 : decode cX8_find 48 = .ok (.iload 6, 2) := by decide +kernel
theorem dX8_find_50 : decode cX8_find 50 = .ok (.iload_n 3, 1) := by decide +kernel
theorem dX8_find_51 : decode cX8_find 51 = .ok (.iconst 1, 1) := by decide +kernel
theorem dX8_find_52 : decode cX8_find 52 = .ok (.iadd, 1) := by decide +kernel
theorem dX8_find_53 : decode cX8_find 53 = .ok (.iastore, 1) := by decide +kernel
theorem dX8_find_54 : decode cX8_find 54 = .ok (.iload 7, 2) := by decide +kernel
theorem dX8_find_56 : decode cX8_find 56 = .ok (.ifCond .lt 26, 3) := by decide +kernel
theorem dX8_find_59 : decode cX8_find 59 = .ok (.iload_n 3, 1) := by decide +kernel
theorem dX8_find_60 : decode cX8_find 60 = .ok (.iload 7, 2) := by decide +kernel
theorem dX8_find_62 : decode cX8_find 62 = .ok (.isub, 1) := by decide +kernel
theorem dX8_find_63 : decode cX8_find 63 = .ok (.ldc 102, 2) := by decide +kernel
theorem dX8_find_65 : decode cX8_find 65 = .ok (.if_icmp .gt 17, 3) := by decide +kernel
theorem dX8_find_68 : decode cX8_find 68 = .ok (.aload_n 0, 1) := by decide +kernel
theorem dX8_find_69 : decode cX8_find 69 = .ok (.getfield 10, 3) := by decide +kernel
theorem dX8_find_72 : decode cX8_find 72 = .ok (.iload 7, 2) := by decide +kernel
theorem dX8_find_74 : decode cX8_find 74 = .ok (.invokestatic 65, 3) := by decide +kernel
theorem dX8_find_77 : decode cX8_find 77 = .ok (.iload 5, 2) := by decide +kernel
theorem dX8_find_79 : decode cX8_find 79 = .ok (.if_icmp .eq 9, 3) := by decide +kernel
theorem dX8_find_82 : decode cX8_find 82 = .ok (.iinc 3 1, 3) := by decide +kernel
theorem dX8_find_85 : decode cX8_find 85 = .ok (.goto (-80), 3) := by decide +kernel
theorem dX8_find_88 : decode cX8_find 88 = .ok (.iconst 4, 1) := by decide +kernel
theorem dX8_find_89 : decode cX8_find 89 = .ok (.istore 8, 2) := by decide +kernel
theorem dX8_find_91 : decode cX8_find 91 = .ok (.iload_n 3, 1) := by decide +kernel
theorem dX8_find_92 : decode cX8_find 92 = .ok (.iload 8, 2) := by decide +kernel
theorem dX8_find_94 : decode cX8_find 94 = .ok (.iadd, 1) := by decide +kernel
theorem dX8_find_95 : decode cX8_find 95 = .ok (.iload_n 2, 1) := by decide +kernel
theorem dX8_find_96 : decode cX8_find 96 = .ok (.iconst 5, 1) := by decide +kernel
theorem dX8_find_97 : decode cX8_find 97 = .ok (.isub, 1) := by decide +kernel
theorem dX8_find_98 : decode cX8_find 98 = .ok (.if_icmp .ge 31, 3) := by decide +kernel
theorem dX8_find_101 : decode cX8_find 101 = .ok (.aload_n 0, 1) := by decide +kernel
theorem dX8_find_102 : decode cX8_find 102 = .ok (.getfield 10, 3) := by decide +kernel
theorem dX8_find_105 : decode cX8_find 105 = .ok (.iload_n 3, 1) := by decide +kernel
theorem dX8_find_106 : decode cX8_find 106 = .ok (.iload 8, 2) := by decide +kernel
theorem dX8_find_108 : decode cX8_find 108 = .ok (.iadd, 1) := by decide +kernel
theorem dX8_find_109 : decode cX8_find 109 = .ok (.baload, 1) := by decide +kernel
theorem dX8_find_110 : decode cX8_find 110 = .ok (.aload_n 0, 1) := by decide +kernel
theorem dX8_find_111 : decode cX8_find 111 = .ok (.getfield 10, 3) := by decide +kernel
theorem dX8_find_114 : decode cX8_find 114 = .ok (.iload 7, 2) := by decide +kernel
theorem dX8_find_116 : decode cX8_find 116 = .ok (.iload 8, 2) := by decide +kernel
theorem dX8_find_118 : decode cX8_find 118 = .ok (.iadd, 1) := by decide +kernel
theorem dX8_find_119 : decode cX8_find 119 = .ok (.baload, 1) := by decide +kernel
theorem dX8_find_120 : decode cX8_find 120 = .ok (.if_icmp .ne 9, 3) := by decide +kernel
theorem dX8_find_123 : decode cX8_find 123 = .ok (.iinc 8 1, 3) := by decide +kernel
theorem dX8_find_126 : decode cX8_find 126 = .ok (.goto (-35), 3) := by decide +kernel
theorem dX8_find_129 : decode cX8_find 129 = .ok (.aload_n 0, 1) := by decide +kernel
theorem dX8_find_130 : decode cX8_find 130 = .ok (.iload 4, 2) := by decide +kernel
theorem dX8_find_132 : decode cX8_find 132 = .ok (.iload_n 3, 1) := by decide +kernel
theorem dX8_find_133 : decode cX8_find 133 = .ok (.iload 4, 2) := by decide +kernel
theorem dX8_find_135 : decode cX8_find 135 = .ok (.isub, 1) := by decide +kernel
theorem dX8_find_136 : decode cX8_find 136 = .ok (.iload_n 3, 1) := by decide +kernel
theorem dX8_find_137 : decode cX8_find 137 = .ok (.iload 7, 2) := by decide +kernel
theorem dX8_find_139 : decode cX8_find 139 = .ok (.isub, 1) := by decide +kernel
theorem dX8_find_140 : decode cX8_find 140 = .ok (.iload 8, 2) := by decide +kernel
theorem dX8_find_142 : decode cX8_find 142 = .ok (.invokevirtual 103, 3) := by decide +kernel
theorem dX8_find_145 : decode cX8_find 145 = .ok (.iload_n 3, 1) := by decide +kernel
theorem dX8_find_146 : decode cX8_find 146 = .ok (.iload 8, 2) := by decide +kernel
theorem dX8_find_148 : decode cX8_find 148 = .ok (.iadd, 1) := by decide +kernel
theorem dX8_find_149 : decode cX8_find 149 = .ok (.istore_n 3, 1) := by decide +kernel
theorem dX8_find_150 : decode cX8_find 150 = .ok (.iload_n 3, 1) := by decide +kernel
theorem dX8_find_151 : decode cX8_find 151 = .ok (.istore 4, 2) := by decide +kernel
theorem dX8_find_153 : decode cX8_find 153 = .ok (.goto (-148), 3) := by decide +kernel
theorem dX8_find_156 : decode cX8_find 156 = .ok (.aload_n 0, 1) := by decide +kernel
theorem dX8_find_157 : decode cX8_find 157 = .ok (.iload 4, 2) := by decide +kernel
theorem dX8_find_159 : decode cX8_find 159 = .ok (.iload_n 2, 1) := by decide +kernel
theorem dX8_find_160 : decode cX8_find 160 = .ok (.iload 4, 2) := by decide +kernel
theorem dX8_find_162 : decode cX8_find 162 = .ok (.isub, 1) := by decide +kernel
theorem dX8_find_163 : decode cX8_find 163 = .ok (.iconst 0, 1) := by decide +kernel
theorem dX8_find_164 : decode cX8_find 164 = .ok (.iconst 0, 1) := by decide +kernel
theorem dX8_find_165 : decode cX8_find 165 = .ok (.invokevirtual 103, 3) := by decide +kernel
theorem dX8_find_168 : decode cX8_find 168 = .ok (.return_, 1) := by decide +kernel
theorem dX8_more_0 : decode cX8_more 0 = .ok (.iload_n 0, 1) := by decide +kernel
theorem dX8_more_1 : decode cX8_more 1 = .ok (.bipush 15, 2) := by decide +kernel
theorem dX8_more_3 : decode cX8_more 3 = .ok (.if_icmp .ge 7, 3) := by decide +kernel
theorem dX8_more_6 : decode cX8_more 6 = .ok (.iconst 0, 1) := by decide +kernel
theorem dX8_more_7 : decode cX8_more 7 = .ok (.goto 13, 3) := by decide +kernel
theorem dX8_more_10 : decode cX8_more 10 = .ok (.iload_n 0, 1) := by decide +kernel
theorem dX8_more_11 : decode cX8_more 11 = .ok (.bipush 15, 2) := by decide +kernel
theorem dX8_more_13 : decode cX8_more 13 = .ok (.isub, 1) := by decide +kernel
theorem dX8_more_14 : decode cX8_more 14 = .ok (.sipush 255, 3) := by decide +kernel
theorem dX8_more_17 : decode cX8_more 17 = .ok (.idiv, 1) := by decide +kernel
theorem dX8_more_18 : decode cX8_more 18 = .ok (.iconst 1, 1) := by decide +kernel
theorem dX8_more_19 : decode cX8_more 19 = .ok (.iadd, 1) := by decide +kernel
theorem dX8_more_20 : decode cX8_more 20 = .ok (.ireturn, 1) := by decide +kernel
set_option maxRecDepth 20000 in
theorem ggX8_sizeOf_X8_more : GoodIn wsX8_sizeOf wsX8_more := goodIn_r _ [6] (by decide +kernel) (by decide +kernel)
set_option maxRecDepth 20000 in
theorem gX8_sizeOf_X8_more : GoodIn wsX8_sizeOf (va_wsS RX8 107 yX8_more wsX8_more) := goodIn_app (goodIn_of _ (by decide +kernel)) ggX8_sizeOf_X8_more
theorem dX8_sizeOf_0 : decode cX8_sizeOf 0 = .ok (.iconst 1, 1) := by decide +kernel
theorem dX8_sizeOf_1 : decode cX8_sizeOf 1 = .ok (.aload_n 0, 1) := by decide +kernel
theorem dX8_sizeOf_2 : decode cX8_sizeOf 2 = .ok (.getfield 32, 3) := by decide +kernel
theorem dX8_sizeOf_5 : decode cX8_sizeOf 5 = .ok (.iload_n 1, 1) := by decide +kernel
theorem dX8_sizeOf_6 : decode cX8_sizeOf 6 = .ok (.iaload, 1) := by decide +kernel
theorem dX8_sizeOf_7 : decode cX8_sizeOf 7 = .ok (.invokestatic 107, 3) := by decide +kernel
theorem dX8_sizeOf_10 : decode cX8_sizeOf 10 = .ok (.iadd, 1) := by decide +kernel
theorem dX8_sizeOf_11 : decode cX8_sizeOf 11 = .ok (.aload_n 0, 1) := by decide +kernel
theorem dX8_sizeOf_12 : decode cX8_sizeOf 12 = .ok (.getfield 32, 3) := by decide +kernel
theorem dX8_sizeOf_15 : decode cX8_sizeOf 15 = .ok (.iload_n 1, 1) := by decide +kernel
theorem dX8_sizeOf_16 : decode cX8_sizeOf 16 = .ok (.iaload, 1) := by decide +kernel
theorem dX8_sizeOf_17 : decode cX8_sizeOf 17 = .ok (.iadd, 1) := by decide +kernel
theorem dX8_sizeOf_18 : decode cX8_sizeOf 18 = .ok (.istore_n 2, 1) := by decide +kernel
theorem dX8_sizeOf_19 : decode cX8_sizeOf 19 = .ok (.aload_n 0, 1) := by decide +kernel
theorem dX8_sizeOf_20 : decode cX8_sizeOf 20 = .ok (.getfield 38, 3) := by decide +kernel
theorem dX8_sizeOf_23 : decode cX8_sizeOf 23 = .ok (.iload_n 1, 1) := by decide +kernel
theorem dX8_sizeOf_24 : decode cX8_sizeOf 24 = .ok (.iaload, 1) := by decide +kernel
theorem dX8_sizeOf_25 : decode cX8_sizeOf 25 = .ok (.ifCond .ne 7, 3) := by decide +kernel
theorem dX8_sizeOf_28 : decode cX8_sizeOf 28 = .ok (.iload_n 2, 1) := by decide +kernel
theorem dX8_sizeOf_29 : decode cX8_sizeOf 29 = .ok (.goto 18, 3) := by decide +kernel
theorem dX8_sizeOf_32 : decode cX8_sizeOf 32 = .ok (.iload_n 2, 1) := by decide +kernel
theorem dX8_sizeOf_33 : decode cX8_sizeOf 33 = .ok (.iconst 2, 1) := by decide +kernel
theorem dX8_sizeOf_34 : decode cX8_sizeOf 34 = .ok (.iadd, 1) := by decide +kernel
theorem dX8_sizeOf_35 : decode cX8_sizeOf 35 = .ok (.aload_n 0, 1) := by decide +kernel
theorem dX8_sizeOf_36 : decode cX8_sizeOf 36 = .ok (.getfield 38, 3) := by decide +kernel
theorem dX8_sizeOf_39 : decode cX8_sizeOf 39 = .ok (.iload_n 1, 1) := by decide +kernel
theorem dX8_sizeOf_40 : decode cX8_sizeOf 40 = .ok (.iaload, 1) := by decide +kernel
theorem dX8_sizeOf_41 : decode cX8_sizeOf 41 = .ok (.iconst 4, 1) := by decide +kernel
theorem dX8_sizeOf_42 : decode cX8_sizeOf 42 = .ok (.isub, 1) := by decide +kernel
theorem dX8_sizeOf_43 : decode cX8_sizeOf 43 = .ok (.invokestatic 107, 3) := by decide +kernel
theorem dX8_sizeOf_46 : decode cX8_sizeOf 46 = .ok (.iadd, 1) := by decide +kernel
theorem dX8_sizeOf_47 : decode cX8_sizeOf 47 = .ok (.ireturn, 1) := by decide +kernel
set_option maxRecDepth 20000 in
theorem ggX8_writeMore_X8_write : GoodIn wsX8_writeMore wsX8_write := goodIn_r _ [5, 6, 7, 8, 9, 10, 11, 12, 13, 14, 15, 16, 17, 18, 19, 20, 21, 22, 23, 24, 25, 26, 27, 28, 29, 30, 31, 32, 33, 34, 35, 36, 37, 38, 39, 40, 41, 42, 43, 44, 45, 46, 47] (by decide +kernel) (by decide +kernel)
set_option maxRecDepth 20000 in
theorem gX8_writeMore_X8_write : GoodIn wsX8_writeMore (wsV RX8 89 RX8 yX8_write wsX8_write) := goodIn_app (goodIn_of _ (by decide +kernel)) ggX8_writeMore_X8_write
theorem dX8_writeMore_0 : decode cX8_writeMore 0 = .ok (.iload_n 1, 1) := by decide +kernel
theorem dX8_writeMore_1 : decode cX8_writeMore 1 = .ok (.bipush 15, 2) := by decide +kernel
theorem dX8_writeMore_3 : decode cX8_writeMore 3 = .ok (.if_icmp .ge 4, 3) := by decide +kernel
theorem dX8_writeMore_6 : decode cX8_writeMore 6 = .ok (.return_, 1) := by decide +kernel
theorem dX8_writeMore_7 : decode cX8_writeMore 7 = .ok (.iload_n 1, 1) := by decide +kernel
theorem dX8_writeMore_8 : decode cX8_writeMore 8 = .ok (.bipush 15, 2) := by decide +kernel
theorem dX8_writeMore_10 : decode cX8_writeMore 10 = .ok (.isub, 1) := by decide +kernel
theorem dX8_writeMore_11 : decode cX8_writeMore 11 = .ok (.istore_n 2, 1) := by decide +kernel
theorem dX8_writeMore_12 : decode cX8_writeMore 12 = .ok (.iload_n 2, 1) := by decide +kernel
theorem dX8_writeMore_13 : decode cX8_writeMore 13 = .ok (.sipush 255, 3) := by decide +kernel
theorem dX8_writeMore_16 : decode cX8_writeMore 16 = .ok (.if_icmp .lt 19, 3) := by decide +kernel
theorem dX8_writeMore_19 : decode cX8_writeMore 19 = .ok (.aload_n 0, 1) := by decide +kernel
theorem dX8_writeMore_20 : decode cX8_writeMore 20 = .ok (.sipush 255, 3) := by decide +kernel
theorem dX8_writeMore_23 : decode cX8_writeMore 23 = .ok (.invokevirtual 89, 3) := by decide +kernel
theorem dX8_writeMore_26 : decode cX8_writeMore 26 = .ok (.iinc 2 (-255), 6) := by decide +kernel
theorem dX8_writeMore_32 : decode cX8_writeMore 32 = .ok (.goto (-20), 3) := by decide +kernel
theorem dX8_writeMore_35 : decode cX8_writeMore 35 = .ok (.aload_n 0, 1) := by decide +kernel
theorem dX8_writeMore_36 : decode cX8_writeMore 36 = .ok (.iload_n 2, 1) := by decide +kernel
theorem dX8_writeMore_37 : decode cX8_writeMore 37 = .ok (.invokevirtual 89, 3) := by decide +kernel
theorem dX8_writeMore_40 : decode cX8_writeMore 40 = .ok (.return_, 1) := by decide +kernel
set_option maxRecDepth 20000 in
theorem ggX8_writeSequence_X8_write : GoodIn wsX8_writeSequence wsX8_write := goodIn_r _ [10, 11, 12, 13, 22, 23, 24, 25, 26, 27, 28, 29, 30, 31, 32, 33, 34, 35, 36, 37, 38, 39, 40, 41, 42, 43, 44, 45, 46, 47, 48, 49, 50, 51, 52, 53, 54, 55, 56, 57, 58, 59, 60] (by decide +kernel) (by decide +kernel)
set_option maxRecDepth 20000 in
theorem gX8_writeSequence_X8_write : GoodIn wsX8_writeSequence (wsV RX8 89 RX8 yX8_write wsX8_write) := goodIn_app (goodIn_of _ (by decide +kernel)) ggX8_writeSequence_X8_write
set_option maxRecDepth 20000 in
theorem ggX8_writeSequence_X8_writeMore : GoodIn wsX8_writeSequence wsX8_writeMore := goodIn_r _ [17, 6, 7, 8, 9, 10, 11, 12, 13, 22, 23, 24, 25, 26, 27, 28, 29, 30, 31, 32, 33, 34, 35, 36, 37, 38, 39, 40, 41, 42, 43, 44, 45, 46, 47, 48, 49, 50, 51, 52, 53, 54, 55, 56, 57, 58, 59, 60] (by decide +kernel) (by decide +kernel)
set_option maxRecDepth 20000 in
theorem gX8_writeSequence_X8_writeMore : GoodIn wsX8_writeSequence (wsV RX8 110 RX8 yX8_writeMore wsX8_writeMore) := goodIn_app (goodIn_of _ (by decide +kernel)) ggX8_writeSequence_X8_writeMore
set_option maxRecDepth 20000 in
theorem ggX8_writeSequence_X8_writeNumber : GoodIn wsX8_writeSequence wsX8_writeNumber := goodIn_r _ [21, 6, 7, 8, 9, 10, 11, 12, 13, 22, 23, 24, 25, 26, 27, 28, 29, 30, 31, 32, 33, 34, 35, 36, 37, 38, 39, 40, 41, 42, 43, 44, 45, 46, 47, 48, 49, 50, 51, 52, 53, 54, 55, 56, 57, 58, 59, 60] (by decide +kernel) (by decide +kernel)
set_option maxRecDepth 20000 in
theorem gX8_writeSequence_X8_writeNumber : GoodIn wsX8_writeSequence (wsV RX8 113 RX8 yX8_writeNumber wsX8_writeNumber) := goodIn_app (goodIn_of _ (by decide +kernel)) ggX8_writeSequence_X8_writeNumber
theorem dX8_writeSequence_0 : decode cX8_writeSequence 0 = .ok (.aload_n 0, 1) := by decide +kernel
theorem dX8_writeSequence_1 : decode cX8_writeSequence 1 = .ok (.getfield 32, 3) := by decide +kernel
theorem dX8_writeSequence_4 : decode cX8_writeSequence 4 = .ok (.iload_n 1, 1) := by decide +kernel
theorem dX8_writeSequence_5 : decode cX8_writeSequence 5 = .ok (.iaload, 1) := by decide +kernel
theorem dX8_writeSequence_6 : decode cX8_writeSequence 6 = .ok (.istore_n 2, 1) := by decide +kernel
theorem dX8_writeSequence_7 : decode cX8_writeSequence 7 = .ok (.aload_n 0, 1) := by decide +kernel
theorem dX8_writeSequence_8 : decode cX8_writeSequence 8 = .ok (.getfield 38, 3) := by decide +kernel
theorem dX8_writeSequence_11 : decode cX8_writeSequence 11 = .ok (.iload_n 1, 1) := by decide +kernel
theorem dX8_writeSequence_12 : decode cX8_writeSequence 12 = .ok (.iaload, 1) := by decide +kernel
theorem dX8_writeSequence_13 : decode cX8_writeSequence 13 = .ok (.ifCond .ne 7, 3) := by decide +kernel
theorem dX8_writeSequence_16 : decode cX8_writeSequence 16 = .ok (.iconst 0, 1) := by decide +kernel
theorem dX8_writeSequence_17 : decode cX8_writeSequence 17 = .ok (.goto 11, 3) := by decide +kernel
theorem dX8_writeSequence_20 : decode cX8_writeSequence 20 = .ok (.aload_n 0, 1) := by decide +kernel
theorem dX8_writeSequence_21 : decode cX8_writeSequence 21 = .ok (.getfield 38, 3) := by decide +kernel
theorem dX8_writeSequence_24 : decode cX8_writeSequence 24 = .ok (.iload_n 1, 1) := by decide +kernel
theorem dX8_writeSequence_25 : decode cX8_writeSequence 25 = .ok (.iaload, 1) := by decide +kernel
theorem dX8_writeSequence_26 : decode cX8_writeSequence 26 = .ok (.iconst 4, 1) := by decide +kernel
theorem dX8_writeSequence_27 : decode cX8_writeSequence 27 = .ok (.isub, 1) := by decide +kernel
theorem dX8_writeSequence_28 : decode cX8_writeSequence 28 = .ok (.istore_n 3, 1) := by decide +kernel
theorem dX8_writeSequence_29 : decode cX8_writeSequence 29 = .ok (.aload_n 0, 1) := by decide +kernel
theorem dX8_writeSequence_30 : decode cX8_writeSequence 30 = .ok (.iload_n 2, 1) := by decide +kernel
theorem dX8_writeSequence_31 : decode cX8_writeSequence 31 = .ok (.bipush 15, 2) := by decide +kernel
theorem dX8_writeSequence_33 : decode cX8_writeSequence 33 = .ok (.if_icmp .ge 7, 3) := by decide +kernel
theorem dX8_writeSequence_36 : decode cX8_writeSequence 36 = .ok (.iload_n 2, 1) := by decide +kernel
theorem dX8_writeSequence_37 : decode cX8_writeSequence 37 = .ok (.goto 5, 3) := by decide +kernel
theorem dX8_writeSequence_40 : decode cX8_writeSequence 40 = .ok (.bipush 15, 2) := by decide +kernel
theorem dX8_writeSequence_42 : decode cX8_writeSequence 42 = .ok (.iconst 4, 1) := by decide +kernel
theorem dX8_writeSequence_43 : decode cX8_writeSequence 43 = .ok (.ishl, 1) := by decide +kernel
theorem dX8_writeSequence_44 : decode cX8_writeSequence 44 = .ok (.iload_n 3, 1) := by decide +kernel
theorem dX8_writeSequence_45 : decode cX8_writeSequence 45 = .ok (.bipush 15, 2) := by decide +kernel
theorem dX8_writeSequence_47 : decode cX8_writeSequence 47 = .ok (.if_icmp .ge 7, 3) := by decide +kernel
theorem dX8_writeSequence_50 : decode cX8_writeSequence 50 = .ok (.iload_n 3, 1) := by decide +kernel
theorem dX8_writeSequence_51 : decode cX8_writeSequence 51 = .ok (.goto 5, 3) := by decide +kernel
theorem dX8_writeSequence_54 : decode cX8_writeSequence 54 = .ok (.bipush 15, 2) := by decide +kernel
theorem dX8_writeSequence_56 : decode cX8_writeSequence 56 = .ok (.ior, 1) := by decide +kernel
theorem dX8_writeSequence_57 : decode cX8_writeSequence 57 = .ok (.invokevirtual 89, 3) := by decide +kernel
theorem dX8_writeSequence_60 : decode cX8_writeSequence 60 = .ok (.aload_n 0, 1) := by decide +kernel
theorem dX8_writeSequence_61 : decode cX8_writeSequence 61 = .ok (.iload_n 2, 1) := by decide +kernel
theorem dX8_writeSequence_62 : decode cX8_writeSequence 62 = .ok (.invokevirtual 110, 3) := by decide +kernel
theorem dX8_writeSequence_65 : decode cX8_writeSequence 65 = .ok (.iconst 0, 1) := by decide +kernel
theorem dX8_writeSequence_66 : decode cX8_writeSequence 66 = .ok (.istore 4, 2) := by decide +kernel
theorem dX8_writeSequence_68 : decode cX8_writeSequence 68 = .ok (.iload 4, 2) := by decide +kernel
theorem dX8_writeSequence_70 : decode cX8_writeSequence 70 = .ok (.iload_n 2, 1) := by decide +kernel
theorem dX8_writeSequence_71 : decode cX8_writeSequence 71 = .ok (.if_icmp .ge 27, 3) := by decide +kernel
theorem dX8_writeSequence_74 : decode cX8_writeSequence 74 = .ok (.aload_n 0, 1) := by decide +kernel
theorem dX8_writeSequence_75 : decode cX8_writeSequence 75 = .ok (.aload_n 0, 1) := by decide +kernel
theorem dX8_writeSequence_76 : decode cX8_writeSequence 76 = .ok (.getfield 10, 3) := by decide +kernel
theorem dX8_writeSequence_79 : decode cX8_writeSequence 79 = .ok (.aload_n 0, 1) := by decide +kernel
theorem dX8_writeSequence_80 : decode cX8_writeSequence 80 = .ok (.getfield 29, 3) := by decide +kernel
theorem dX8_writeSequence_83 : decode cX8_writeSequence 83 = .ok (.iload_n 1, 1) := by decide +kernel
theorem dX8_writeSequence_84 : decode cX8_writeSequence 84 = .ok (.iaload, 1) := by decide +kernel
theorem dX8_writeSequence_85 : decode cX8_writeSequence 85 = .ok (.iload 4, 2) := by decide +kernel
theorem dX8_writeSequence_87 : decode cX8_writeSequence 87 = .ok (.iadd, 1) := by decide +kernel
theorem dX8_writeSequence_88 : decode cX8_writeSequence 88 = .ok (.baload, 1) := by decide +kernel
theorem dX8_writeSequence_89 : decode cX8_writeSequence 89 = .ok (.invokevirtual 89, 3) := by decide +kernel
theorem dX8_writeSequence_92 : decode cX8_writeSequence 92 = .ok (.iinc 4 1, 3) := by decide +kernel
theorem dX8_writeSequence_95 : decode cX8_writeSequence 95 = .ok (.goto (-27), 3) := by decide +kernel
theorem dX8_writeSequence_98 : decode cX8_writeSequence 98 = .ok (.aload_n 0, 1) := by decide +kernel
theorem dX8_writeSequence_99 : decode cX8_writeSequence 99 = .ok (.getfield 38, 3) := by decide +kernel
theorem dX8_writeSequence_102 : decode cX8_writeSequence 102 = .ok (.iload_n 1, 1) := by decide +kernel
theorem dX8_writeSequence_103 : decode cX8_writeSequence 103 = .ok (.iaload, 1) := by decide +kernel
theorem dX8_writeSequence_104 : decode cX8_writeSequence 104 = .ok (.ifCond .le 20, 3) := by decide +kernel
theorem dX8_writeSequence_107 : decode cX8_writeSequence 107 = .ok (.aload_n 0, 1) := by decide +kernel
theorem dX8_writeSequence_108 : decode cX8_writeSequence 108 = .ok (.aload_n 0, 1) := by decide +kernel
theorem dX8_writeSequence_109 : decode cX8_writeSequence 109 = .ok (.getfield 35, 3) := by decide +kernel
theorem dX8_writeSequence_112 : decode cX8_writeSequence 112 = .ok (.iload_n 1, 1) := by decide +kernel
theorem dX8_writeSequence_113 : decode cX8_writeSequence 113 = .ok (.iaload, 1) := by decide +kernel
theorem dX8_writeSequence_114 : decode cX8_writeSequence 114 = .ok (.i2l, 1) := by decide +kernel
theorem dX8_writeSequence_115 : decode cX8_writeSequence 115 = .ok (.iconst 2, 1) := by decide +kernel
theorem dX8_writeSequence_116 : decode cX8_writeSequence 116 = .ok (.invokevirtual 113, 3) := by decide +kernel
theorem dX8_writeSequence_119 : decode cX8_writeSequence 119 = .ok (.aload_n 0, 1) := by decide +kernel
theorem dX8_writeSequence_120 : decode cX8_writeSequence 120 = .ok (.iload_n 3, 1) := by decide +kernel
theorem dX8_writeSequence_121 : decode cX8_writeSequence 121 = .ok (.invokevirtual 110, 3) := by decide +kernel
theorem dX8_writeSequence_124 : decode cX8_writeSequence 124 = .ok (.return_, 1) := by decide +kernel
theorem dX8_forgetPlaces_0 : decode cX8_forgetPlaces 0 = .ok (.iconst 0, 1) := by decide +kernel
theorem dX8_forgetPlaces_1 : decode cX8_forgetPlaces 1 = .ok (.istore_n 1, 1) := by decide +kernel
theorem dX8_forgetPlaces_2 : decode cX8_forgetPlaces 2 = .ok (.iload_n 1, 1) := by decide +kernel
theorem dX8_forgetPlaces_3 : decode cX8_forgetPlaces 3 = .ok (.sipush 4096, 3) := by decide +kernel
theorem dX8_forgetPlaces_6 : decode cX8_forgetPlaces 6 = .ok (.if_icmp .ge 16, 3) := by decide +kernel
theorem dX8_forgetPlaces_9 : decode cX8_forgetPlaces 9 = .ok (.aload_n 0, 1) := by decide +kernel
theorem dX8_forgetPlaces_10 : decode cX8_forgetPlaces 10 = .ok (.getfield 41, 3) := by decide +kernel
theorem dX8_forgetPlaces_13 : decode cX8_forgetPlaces 13 = .ok (.iload_n 1, 1) := by decide +kernel
theorem dX8_forgetPlaces_14 : decode cX8_forgetPlaces 14 = .ok (.iconst 0, 1) := by decide +kernel
theorem dX8_forgetPlaces_15 : decode cX8_forgetPlaces 15 = .ok (.iastore, 1) := by decide +kernel
theorem dX8_forgetPlaces_16 : decode cX8_forgetPlaces 16 = .ok (.iinc 1 1, 3) := by decide +kernel
theorem dX8_forgetPlaces_19 : decode cX8_forgetPlaces 19 = .ok (.goto (-17), 3) := by decide +kernel
theorem dX8_forgetPlaces_22 : decode cX8_forgetPlaces 22 = .ok (.return_, 1) := by decide +kernel
set_option maxRecDepth 20000 in
theorem ggX8_packBlock_X8_forgetPlaces : GoodIn wsX8_packBlock wsX8_forgetPlaces := goodIn_r _ [14, 15, 71, 72, 73, 74, 75, 76, 77, 78, 79, 80, 81, 82, 83, 84, 85, 86, 87, 88, 89, 90, 91, 92, 93, 94, 95, 96, 97, 98, 99, 100, 101, 102, 103, 104, 105, 106, 107, 108, 109] (by decide +kernel) (by decide +kernel)
set_option maxRecDepth 20000 in
theorem gX8_packBlock_X8_forgetPlaces : GoodIn wsX8_packBlock (wsV RX8 117 RX8 yX8_forgetPlaces wsX8_forgetPlaces) := goodIn_app (goodIn_of _ (by decide +kernel)) ggX8_packBlock_X8_forgetPlaces
set_option maxRecDepth 20000 in
theorem ggX8_packBlock_X8_find : GoodIn wsX8_packBlock wsX8_find := goodIn_r _ [19, 6, 20, 15, 21, 22, 23, 13, 24, 25, 26, 27, 28, 29, 2, 9, 30, 31, 32, 33, 34, 71, 72, 73, 74, 75, 76, 77, 78, 79, 80, 81, 82, 83, 84, 85, 86, 87, 88, 89, 90, 91, 92, 93, 94, 95, 96, 97, 98, 99, 100, 101, 102, 103, 104, 105, 106, 107, 108, 109] (by decide +kernel) (by decide +kernel)
set_option maxRecDepth 20000 in
theorem gX8_packBlock_X8_find : GoodIn wsX8_packBlock (wsV RX8 120 RX8 yX8_find wsX8_find) := goodIn_app (goodIn_of _ (by decide +kernel)) ggX8_packBlock_X8_find
set_option maxRecDepth 20000 in
theorem ggX8_packBlock_X8_sizeOf : GoodIn wsX8_packBlock wsX8_sizeOf := goodIn_r _ [38, 31, 33, 39, 40, 13, 41, 71, 72, 73, 74, 75, 76, 77, 78, 79, 80, 81, 82, 83, 84, 85, 86, 87, 88, 89, 90, 91, 92, 93, 94, 95, 96, 97, 98, 99, 100, 101, 102, 103, 104, 105, 106, 107, 108, 109] (by decide +kernel) (by decide +kernel)
set_option maxRecDepth 20000 in
theorem gX8_packBlock_X8_sizeOf : GoodIn wsX8_packBlock (wsV RX8 124 RX8 yX8_sizeOf wsX8_sizeOf) := goodIn_app (goodIn_of _ (by decide +kernel)) ggX8_packBlock_X8_sizeOf
set_option maxRecDepth 20000 in
theorem ggX8_packBlock_X8_writeNumber : GoodIn wsX8_packBlock wsX8_writeNumber := goodIn_r _ [45, 46, 47, 48, 13, 49, 5, 7, 8, 71, 72, 73, 74, 75, 76, 77, 78, 79, 80, 81, 82, 83, 84, 85, 86, 87, 88, 89, 90, 91, 92, 93, 94, 95, 96, 97, 98, 99, 100, 101, 102, 103, 104, 105, 106, 107, 108, 109] (by decide +kernel) (by decide +kernel)
set_option maxRecDepth 20000 in
theorem gX8_packBlock_X8_writeNumber : GoodIn wsX8_packBlock (wsV RX8 113 RX8 yX8_writeNumber wsX8_writeNumber) := goodIn_app (goodIn_of _ (by decide +kernel)) ggX8_packBlock_X8_writeNumber
set_option maxRecDepth 20000 in
theorem ggX8_packBlock_X8_write : GoodIn wsX8_packBlock wsX8_write := goodIn_r _ [49, 5, 7, 8, 71, 72, 73, 74, 75, 76, 77, 78, 79, 80, 81, 82, 83, 84, 85, 86, 87, 88, 89, 90, 91, 92, 93, 94, 95, 96, 97, 98, 99, 100, 101, 102, 103, 104, 105, 106, 107, 108, 109] (by decide +kernel) (by decide +kernel)
set_option maxRecDepth 20000 in
theorem gX8_packBlock_X8_write : GoodIn wsX8_packBlock (wsV RX8 89 RX8 yX8_write wsX8_write) := goodIn_app (goodIn_of _ (by decide +kernel)) ggX8_packBlock_X8_write
set_option maxRecDepth 20000 in
theorem ggX8_packBlock_X8_writeSequence : GoodIn wsX8_packBlock wsX8_writeSequence := goodIn_r _ [53, 31, 33, 6, 30, 32, 46, 47, 48, 13, 49, 5, 7, 8, 54, 55, 56, 57, 42, 43, 44, 45, 71, 72, 73, 74, 75, 76, 77, 78, 79, 80, 81, 82, 83, 84, 85, 86, 87, 88, 89, 90, 91, 92, 93, 94, 95, 96, 97, 98, 99, 100, 101, 102, 103, 104, 105, 106, 107, 108, 109] (by decide +kernel) (by decide +kernel)
set_option maxRecDepth 20000 in
theorem gX8_packBlock_X8_writeSequence : GoodIn wsX8_packBlock (wsV RX8 132 RX8 yX8_writeSequence wsX8_writeSequence) := goodIn_app (goodIn_of _ (by decide +kernel)) ggX8_packBlock_X8_writeSequence
set_option maxRecDepth 20000 in
theorem ggX8_packBlock_X8_hashOf : GoodIn wsX8_packBlock wsX8_hashOf := goodIn_r _ [60, 61, 20, 62, 63, 64, 22, 23, 13, 24, 65, 66, 67, 68, 69, 70] (by decide +kernel) (by decide +kernel)
set_option maxRecDepth 20000 in
theorem gX8_packBlock_X8_hashOf : GoodIn wsX8_packBlock (va_wsS RX8 135 yX8_hashOf wsX8_hashOf) := goodIn_app (goodIn_of _ (by decide +kernel)) ggX8_packBlock_X8_hashOf
theorem dX8_packBlock_0 : decode cX8_packBlock 0 = .ok (.aload_n 0, 1) := by decide +kernel
theorem dX8_packBlock_1 : decode cX8_packBlock 1 = .ok (.getfield 21, 3) := by decide +kernel
theorem dX8_packBlock_4 : decode cX8_packBlock 4 = .ok (.iconst 0, 1) := by decide +kernel
theorem dX8_packBlock_5 : decode cX8_packBlock 5 = .ok (.iaload, 1) := by decide +kernel
theorem dX8_packBlock_6 : decode cX8_packBlock 6 = .ok (.ifCond .ne 7, 3) := by decide +kernel
theorem dX8_packBlock_9 : decode cX8_packBlock 9 = .ok (.aload_n 0, 1) := by decide +kernel
theorem dX8_packBlock_10 : decode cX8_packBlock 10 = .ok (.invokevirtual 117, 3) := by decide +kernel
theorem dX8_packBlock_13 : decode cX8_packBlock 13 = .ok (.aload_n 0, 1) := by decide +kernel
theorem dX8_packBlock_14 : decode cX8_packBlock 14 = .ok (.getfield 93, 3) := by decide +kernel
theorem dX8_packBlock_17 : decode cX8_packBlock 17 = .ok (.istore_n 3, 1) := by decide +kernel
theorem dX8_packBlock_18 : decode cX8_packBlock 18 = .ok (.aload_n 0, 1) := by decide +kernel
theorem dX8_packBlock_19 : decode cX8_packBlock 19 = .ok (.iload_n 1, 1) := by decide +kernel
theorem dX8_packBlock_20 : decode cX8_packBlock 20 = .ok (.iload_n 2, 1) := by decide +kernel
theorem dX8_packBlock_21 : decode cX8_packBlock 21 = .ok (.invokevirtual 120, 3) := by decide +kernel
theorem dX8_packBlock_24 : decode cX8_packBlock 24 = .ok (.iconst 0, 1) := by decide +kernel
theorem dX8_packBlock_25 : decode cX8_packBlock 25 = .ok (.istore 4, 2) := by decide +kernel
theorem dX8_packBlock_27 : decode cX8_packBlock 27 = .ok (.iload_n 3, 1) := by decide +kernel
theorem dX8_packBlock_28 : decode cX8_packBlock 28 = .ok (.istore 5, 2) := by decide +kernel
theorem dX8_packBlock_30 : decode cX8_packBlock 30 = .ok (.iload 5, 2) := by decide +kernel
theorem dX8_packBlock_32 : decode cX8_packBlock 32 = .ok (.aload_n 0, 1) := by decide +kernel
theorem dX8_packBlock_33 : decode cX8_packBlock 33 = .ok (.getfield 93, 3) := by decide +kernel
theorem dX8_packBlock_36 : decode cX8_packBlock 36 = .ok (.if_icmp .ge 20, 3) := by decide +kernel
theorem dX8_packBlock_39 : decode cX8_packBlock 39 = .ok (.iload 4, 2) := by decide +kernel
theorem dX8_packBlock_41 : decode cX8_packBlock 41 = .ok (.aload_n 0, 1) := by decide +kernel
theorem dX8_packBlock_42 : decode cX8_packBlock 42 = .ok (.iload 5, 2) := by decide +kernel
theorem dX8_packBlock_44 : decode cX8_packBlock 44 = .ok (.invokevirtual 124, 3) := by decide +kernel
theorem dX8_packBlock_47 : decode cX8_packBlock 47 = .ok (.iadd, 1) := by decide +kernel
theorem dX8_packBlock_48 : decode cX8_packBlock 48 = .ok (.istore 4, 2) := by decide +kernel
theorem dX8_packBlock_50 : decode cX8_packBlock 50 = .ok (.iinc 5 1, 3) := by decide +kernel
theorem dX8_packBlock_53 : decode cX8_packBlock 53 = .ok (.goto (-23), 3) := by decide +kernel
theorem dX8_packBlock_56 : decode cX8_packBlock 56 = .ok (.iload 4, 2) := by decide +kernel
theorem dX8_packBlock_58 : decode cX8_packBlock 58 = .ok (.iload_n 2, 1) := by decide +kernel
theorem dX8_packBlock_59 : decode cX8_packBlock 59 = .ok (.iload_n 1, 1) := by decide +kernel
theorem dX8_packBlock_60 : decode cX8_packBlock 60 = .ok (.isub, 1) := by decide +kernel
theorem dX8_packBlock_61 : decode cX8_packBlock 61 = .ok (.if_icmp .lt 7, 3) := by decide +kernel
theorem dX8_packBlock_64 : decode cX8_packBlock 64 = .ok (.iconst 1, 1) := by decide +kernel
theorem dX8_packBlock_65 : decode cX8_packBlock 65 = .ok (.goto 4, 3) := by decide +kernel
theorem dX8_packBlock_68 : decode cX8_packBlock 68 = .ok (.iconst 0, 1) := by decide +kernel
theorem dX8_packBlock_69 : decode cX8_packBlock 69 = .ok (.istore 5, 2) := by decide +kernel
theorem dX8_packBlock_71 : decode cX8_packBlock 71 = .ok (.aload_n 0, 1) := by decide +kernel
theorem dX8_packBlock_72 : decode cX8_packBlock 72 = .ok (.dup, 1) := by decide +kernel
theorem dX8_packBlock_73 : decode cX8_packBlock 73 = .ok (.getfield 127, 3) := by decide +kernel
theorem dX8_packBlock_76 : decode cX8_packBlock 76 = .ok (.iload 5, 2) := by decide +kernel
theorem dX8_packBlock_78 : decode cX8_packBlock 78 = .ok (.ifCond .eq 7, 3) := by decide +kernel
theorem dX8_packBlock_81 : decode cX8_packBlock 81 = .ok (.iconst 1, 1) := by decide +kernel
theorem dX8_packBlock_82 : decode cX8_packBlock 82 = .ok (.goto 4, 3) := by decide +kernel
theorem dX8_packBlock_85 : decode cX8_packBlock 85 = .ok (.iconst 0, 1) := by decide +kernel
theorem dX8_packBlock_86 : decode cX8_packBlock 86 = .ok (.iadd, 1) := by decide +kernel
theorem dX8_packBlock_87 : decode cX8_packBlock 87 = .ok (.putfield 127, 3) := by decide +kernel
theorem dX8_packBlock_90 : decode cX8_packBlock 90 = .ok (.aload_n 0, 1) := by decide +kernel
theorem dX8_packBlock_91 : decode cX8_packBlock 91 = .ok (.iload 5, 2) := by decide +kernel
theorem dX8_packBlock_93 : decode cX8_packBlock 93 = .ok (.ifCond .eq 14, 3) := by decide +kernel
theorem dX8_packBlock_96 : decode cX8_packBlock 96 = .ok (.iload_n 2, 1) := by decide +kernel
theorem dX8_packBlock_97 : decode cX8_packBlock 97 = .ok (.iload_n 1, 1) := by decide +kernel
theorem dX8_packBlock_98 : decode cX8_packBlock 98 = .ok (.isub, 1) := by decide +kernel
theorem dX8_packBlock_99 : decode cX8_packBlock 99 = .ok (.i2l, 1) := by decide +kernel
theorem dX8_packBlock_100 : decode cX8_packBlock 100 = .ok (.ldc2_w 130, 3) := by decide +kernel
theorem dX8_packBlock_103 : decode cX8_packBlock 103 = .ok (.ladd, 1) := by decide +kernel
theorem dX8_packBlock_104 : decode cX8_packBlock 104 = .ok (.goto 6, 3) := by decide +kernel
theorem dX8_packBlock_107 : decode cX8_packBlock 107 = .ok (.iload 4, 2) := by decide +kernel
theorem dX8_packBlock_109 : decode cX8_packBlock 109 = .ok (.i2l, 1) := by decide +kernel
theorem dX8_packBlock_110 : decode cX8_packBlock 110 = .ok (.iconst 4, 1) := by decide +kernel
theorem dX8_packBlock_111 : decode cX8_packBlock 111 = .ok (.invokevirtual 113, 3) := by decide +kernel
theorem dX8_packBlock_114 : decode cX8_packBlock 114 = .ok (.aload_n 0, 1) := by decide +kernel
theorem dX8_packBlock_115 : decode cX8_packBlock 115 = .ok (.getfield 83, 3) := by decide +kernel
theorem dX8_packBlock_118 : decode cX8_packBlock 118 = .ok (.lstore 6, 2) := by decide +kernel
theorem dX8_packBlock_120 : decode cX8_packBlock 120 = .ok (.iload 5, 2) := by decide +kernel
theorem dX8_packBlock_122 : decode cX8_packBlock 122 = .ok (.ifCond .eq 32, 3) := by decide +kernel
theorem dX8_packBlock_125 : decode cX8_packBlock 125 = .ok (.iload_n 1, 1) := by decide +kernel
theorem dX8_packBlock_126 : decode cX8_packBlock 126 = .ok (.istore 8, 2) := by decide +kernel
theorem dX8_packBlock_128 : decode cX8_packBlock 128 = .ok (.iload 8, 2) := by decide +kernel
theorem dX8_packBlock_130 : decode cX8_packBlock 130 = .ok (.iload_n 2, 1) := by decide +kernel
theorem dX8_packBlock_131 : decode cX8_packBlock 131 = .ok (.if_icmp .ge 20, 3) := by decide +kernel
theorem dX8_packBlock_134 : decode cX8_packBlock 134 = .ok (.aload_n 0, 1) := by decide +kernel
theorem dX8_packBlock_135 : decode cX8_packBlock 135 = .ok (.aload_n 0, 1) := by decide +kernel
theorem dX8_packBlock_136 : decode cX8_packBlock 136 = .ok (.getfield 10, 3) := by decide +kernel
theorem dX8_packBlock_139 : decode cX8_packBlock 139 = .ok (.iload 8, 2) := by decide +kernel
theorem dX8_packBlock_141 : decode cX8_packBlock 141 = .ok (.baload, 1) := by decide +kernel
theorem dX8_packBlock_142 : decode cX8_packBlock 142 = .ok (.invokevirtual 89, 3) := by decide +kernel
theorem dX8_packBlock_145 : decode cX8_packBlock 145 = .ok (.iinc 8 1, 3) := by decide +kernel
theorem dX8_packBlock_148 : decode cX8_packBlock 148 = .ok (.goto (-20), 3) := by decide +kernel
theorem dX8_packBlock_151 : decode cX8_packBlock 151 = .ok (.goto 27, 3) := by decide +kernel
theorem dX8_packBlock_154 : decode cX8_packBlock 154 = .ok (.iload_n 3, 1) := by decide +kernel
theorem dX8_packBlock_155 : decode cX8_packBlock 155 = .ok (.istore 8, 2) := by decide +kernel
theorem dX8_packBlock_157 : decode cX8_packBlock 157 = .ok (.iload 8, 2) := by decide +kernel
theorem dX8_packBlock_159 : decode cX8_packBlock 159 = .ok (.aload_n 0, 1) := by decide +kernel
theorem dX8_packBlock_160 : decode cX8_packBlock 160 = .ok (.getfield 93, 3) := by decide +kernel
theorem dX8_packBlock_163 : decode cX8_packBlock 163 = .ok (.if_icmp .ge 15, 3) := by decide +kernel
theorem dX8_packBlock_166 : decode cX8_packBlock 166 = .ok (.aload_n 0, 1) := by decide +kernel
theorem dX8_packBlock_167 : decode cX8_packBlock 167 = .ok (.iload 8, 2) := by decide +kernel
theorem dX8_packBlock_169 : decode cX8_packBlock 169 = .ok (.invokevirtual 132, 3) := by decide +kernel
theorem dX8_packBlock_172 : decode cX8_packBlock 172 = .ok (.iinc 8 1, 3) := by decide +kernel
theorem dX8_packBlock_175 : decode cX8_packBlock 175 = .ok (.goto (-18), 3) := by decide +kernel
theorem dX8_packBlock_178 : decode cX8_packBlock 178 = .ok (.aload_n 0, 1) := by decide +kernel
theorem dX8_packBlock_179 : decode cX8_packBlock 179 = .ok (.getfield 21, 3) := by decide +kernel
theorem dX8_packBlock_182 : decode cX8_packBlock 182 = .ok (.iconst 1, 1) := by decide +kernel
theorem dX8_packBlock_183 : decode cX8_packBlock 183 = .ok (.iaload, 1) := by decide +kernel
theorem dX8_packBlock_184 : decode cX8_packBlock 184 = .ok (.iconst 1, 1) := by decide +kernel
theorem dX8_packBlock_185 : decode cX8_packBlock 185 = .ok (.if_icmp .ne 43, 3) := by decide +kernel
theorem dX8_packBlock_188 : decode cX8_packBlock 188 = .ok (.aload_n 0, 1) := by decide +kernel
theorem dX8_packBlock_189 : decode cX8_packBlock 189 = .ok (.aload_n 0, 1) := by decide +kernel
theorem dX8_packBlock_190 : decode cX8_packBlock 190 = .ok (.getfield 83, 3) := by decide +kernel
theorem dX8_packBlock_193 : decode cX8_packBlock 193 = .ok (.ldc2_w 87, 3) := by decide +kernel
theorem dX8_packBlock_196 : decode cX8_packBlock 196 = .ok (.lcmp, 1) := by decide +kernel
theorem dX8_packBlock_197 : decode cX8_packBlock 197 = .ok (.ifCond .le 7, 3) := by decide +kernel
theorem dX8_packBlock_200 : decode cX8_packBlock 200 = .ok (.lconst 0, 1) := by decide +kernel
theorem dX8_packBlock_201 : decode cX8_packBlock 201 = .ok (.goto 23, 3) := by decide +kernel
theorem dX8_packBlock_204 : decode cX8_packBlock 204 = .ok (.aload_n 0, 1) := by decide +kernel
theorem dX8_packBlock_205 : decode cX8_packBlock 205 = .ok (.getfield 15, 3) := by decide +kernel
theorem dX8_packBlock_208 : decode cX8_packBlock 208 = .ok (.lload 6, 2) := by decide +kernel
theorem dX8_packBlock_210 : decode cX8_packBlock 210 = .ok (.l2i, 1) := by decide +kernel
theorem dX8_packBlock_211 : decode cX8_packBlock 211 = .ok (.aload_n 0, 1) := by decide +kernel
theorem dX8_packBlock_212 : decode cX8_packBlock 212 = .ok (.getfield 83, 3) := by decide +kernel
theorem dX8_packBlock_215 : decode cX8_packBlock 215 = .ok (.lload 6, 2) := by decide +kernel
theorem dX8_packBlock_217 : decode cX8_packBlock 217 = .ok (.lsub, 1) := by decide +kernel
theorem dX8_packBlock_218 : decode cX8_packBlock 218 = .ok (.l2i, 1) := by decide +kernel
theorem dX8_packBlock_219 : decode cX8_packBlock 219 = .ok (.iconst 0, 1) := by decide +kernel
theorem dX8_packBlock_220 : decode cX8_packBlock 220 = .ok (.invokestatic 135, 3) := by decide +kernel
theorem dX8_packBlock_223 : decode cX8_packBlock 223 = .ok (.i2l, 1) := by decide +kernel
theorem dX8_packBlock_224 : decode cX8_packBlock 224 = .ok (.iconst 4, 1) := by decide +kernel
theorem dX8_packBlock_225 : decode cX8_packBlock 225 = .ok (.invokevirtual 113, 3) := by decide +kernel
theorem dX8_packBlock_228 : decode cX8_packBlock 228 = .ok (.aload_n 0, 1) := by decide +kernel
theorem dX8_packBlock_229 : decode cX8_packBlock 229 = .ok (.dup, 1) := by decide +kernel
theorem dX8_packBlock_230 : decode cX8_packBlock 230 = .ok (.getfield 96, 3) := by decide +kernel
theorem dX8_packBlock_233 : decode cX8_packBlock 233 = .ok (.iconst 1, 1) := by decide +kernel
theorem dX8_packBlock_234 : decode cX8_packBlock 234 = .ok (.iadd, 1) := by decide +kernel
theorem dX8_packBlock_235 : decode cX8_packBlock 235 = .ok (.putfield 96, 3) := by decide +kernel
theorem dX8_packBlock_238 : decode cX8_packBlock 238 = .ok (.return_, 1) := by decide +kernel
set_option maxRecDepth 20000 in
theorem ggX8_writeHead_X8_writeNumber : GoodIn wsX8_writeHead wsX8_writeNumber := goodIn_r _ [9, 10, 11, 12, 8, 13, 14, 15, 16, 34, 35, 36, 37, 38, 39, 40, 41, 42, 43, 44, 45, 46, 47, 48, 49, 50, 51, 52, 53, 54, 55, 56, 57, 58, 59, 60, 61, 62, 63, 64, 65, 66, 67, 68, 69, 70, 71, 72] (by decide +kernel) (by decide +kernel)
set_option maxRecDepth 20000 in
theorem gX8_writeHead_X8_writeNumber : GoodIn wsX8_writeHead (wsV RX8 113 RX8 yX8_writeNumber wsX8_writeNumber) := goodIn_app (goodIn_of _ (by decide +kernel)) ggX8_writeHead_X8_writeNumber
set_option maxRecDepth 20000 in
theorem ggX8_writeHead_X8_write : GoodIn wsX8_writeHead wsX8_write := goodIn_r _ [13, 14, 15, 16, 34, 35, 36, 37, 38, 39, 40, 41, 42, 43, 44, 45, 46, 47, 48, 49, 50, 51, 52, 53, 54, 55, 56, 57, 58, 59, 60, 61, 62, 63, 64, 65, 66, 67, 68, 69, 70, 71, 72] (by decide +kernel) (by decide +kernel)
set_option maxRecDepth 20000 in
theorem gX8_writeHead_X8_write : GoodIn wsX8_writeHead (wsV RX8 89 RX8 yX8_write wsX8_write) := goodIn_app (goodIn_of _ (by decide +kernel)) ggX8_writeHead_X8_write
set_option maxRecDepth 20000 in
theorem ggX8_writeHead_X8_hashOf : GoodIn wsX8_writeHead wsX8_hashOf := goodIn_r _ [19, 20, 21, 22, 23, 24, 25, 26, 8, 27, 28, 29, 30, 31, 32, 33] (by decide +kernel) (by decide +kernel)
set_option maxRecDepth 20000 in
theorem gX8_writeHead_X8_hashOf : GoodIn wsX8_writeHead (va_wsS RX8 135 yX8_hashOf wsX8_hashOf) := goodIn_app (goodIn_of _ (by decide +kernel)) ggX8_writeHead_X8_hashOf
theorem dX8_writeHead_0 : decode cX8_writeHead 0 = .ok (.aload_n 0, 1) := by decide +kernel
theorem dX8_writeHead_1 : decode cX8_writeHead 1 = .ok (.getfield 44, 3) := by decide +kernel
theorem dX8_writeHead_4 : decode cX8_writeHead 4 = .ok (.iconst 0, 1) := by decide +kernel
theorem dX8_writeHead_5 : decode cX8_writeHead 5 = .ok (.bipush 64, 2) := by decide +kernel
theorem dX8_writeHead_7 : decode cX8_writeHead 7 = .ok (.aload_n 0, 1) := by decide +kernel
theorem dX8_writeHead_8 : decode cX8_writeHead 8 = .ok (.getfield 21, 3) := by decide +kernel
theorem dX8_writeHead_11 : decode cX8_writeHead 11 = .ok (.iconst 0, 1) := by decide +kernel
theorem dX8_writeHead_12 : decode cX8_writeHead 12 = .ok (.iaload, 1) := by decide +kernel
theorem dX8_writeHead_13 : decode cX8_writeHead 13 = .ok (.iconst 1, 1) := by decide +kernel
theorem dX8_writeHead_14 : decode cX8_writeHead 14 = .ok (.if_icmp .ne 7, 3) := by decide +kernel
theorem dX8_writeHead_17 : decode cX8_writeHead 17 = .ok (.iconst 0, 1) := by decide +kernel
theorem dX8_writeHead_18 : decode cX8_writeHead 18 = .ok (.goto 5, 3) := by decide +kernel
theorem dX8_writeHead_21 : decode cX8_writeHead 21 = .ok (.bipush 32, 2) := by decide +kernel
theorem dX8_writeHead_23 : decode cX8_writeHead 23 = .ok (.iadd, 1) := by decide +kernel
theorem dX8_writeHead_24 : decode cX8_writeHead 24 = .ok (.bipush 16, 2) := by decide +kernel
theorem dX8_writeHead_26 : decode cX8_writeHead 26 = .ok (.aload_n 0, 1) := by decide +kernel
theorem dX8_writeHead_27 : decode cX8_writeHead 27 = .ok (.getfield 21, 3) := by decide +kernel
theorem dX8_writeHead_30 : decode cX8_writeHead 30 = .ok (.iconst 1, 1) := by decide +kernel
theorem dX8_writeHead_31 : decode cX8_writeHead 31 = .ok (.iaload, 1) := by decide +kernel
theorem dX8_writeHead_32 : decode cX8_writeHead 32 = .ok (.imul, 1) := by decide +kernel
theorem dX8_writeHead_33 : decode cX8_writeHead 33 = .ok (.iadd, 1) := by decide +kernel
theorem dX8_writeHead_34 : decode cX8_writeHead 34 = .ok (.bipush 8, 2) := by decide +kernel
theorem dX8_writeHead_36 : decode cX8_writeHead 36 = .ok (.aload_n 0, 1) := by decide +kernel
theorem dX8_writeHead_37 : decode cX8_writeHead 37 = .ok (.getfield 21, 3) := by decide +kernel
theorem dX8_writeHead_40 : decode cX8_writeHead 40 = .ok (.iconst 2, 1) := by decide +kernel
theorem dX8_writeHead_41 : decode cX8_writeHead 41 = .ok (.iaload, 1) := by decide +kernel
theorem dX8_writeHead_42 : decode cX8_writeHead 42 = .ok (.imul, 1) := by decide +kernel
theorem dX8_writeHead_43 : decode cX8_writeHead 43 = .ok (.iadd, 1) := by decide +kernel
theorem dX8_writeHead_44 : decode cX8_writeHead 44 = .ok (.iconst 4, 1) := by decide +kernel
theorem dX8_writeHead_45 : decode cX8_writeHead 45 = .ok (.aload_n 0, 1) := by decide +kernel
theorem dX8_writeHead_46 : decode cX8_writeHead 46 = .ok (.getfield 21, 3) := by decide +kernel
theorem dX8_writeHead_49 : decode cX8_writeHead 49 = .ok (.iconst 3, 1) := by decide +kernel
theorem dX8_writeHead_50 : decode cX8_writeHead 50 = .ok (.iaload, 1) := by decide +kernel
theorem dX8_writeHead_51 : decode cX8_writeHead 51 = .ok (.imul, 1) := by decide +kernel
theorem dX8_writeHead_52 : decode cX8_writeHead 52 = .ok (.iadd, 1) := by decide +kernel
theorem dX8_writeHead_53 : decode cX8_writeHead 53 = .ok (.i2b, 1) := by decide +kernel
theorem dX8_writeHead_54 : decode cX8_writeHead 54 = .ok (.bastore, 1) := by decide +kernel
theorem dX8_writeHead_55 : decode cX8_writeHead 55 = .ok (.aload_n 0, 1) := by decide +kernel
theorem dX8_writeHead_56 : decode cX8_writeHead 56 = .ok (.getfield 44, 3) := by decide +kernel
theorem dX8_writeHead_59 : decode cX8_writeHead 59 = .ok (.iconst 1, 1) := by decide +kernel
theorem dX8_writeHead_60 : decode cX8_writeHead 60 = .ok (.bipush 16, 2) := by decide +kernel
theorem dX8_writeHead_62 : decode cX8_writeHead 62 = .ok (.aload_n 0, 1) := by decide +kernel
theorem dX8_writeHead_63 : decode cX8_writeHead 63 = .ok (.getfield 21, 3) := by decide +kernel
theorem dX8_writeHead_66 : decode cX8_writeHead 66 = .ok (.iconst 4, 1) := by decide +kernel
theorem dX8_writeHead_67 : decode cX8_writeHead 67 = .ok (.iaload, 1) := by decide +kernel
theorem dX8_writeHead_68 : decode cX8_writeHead 68 = .ok (.imul, 1) := by decide +kernel
theorem dX8_writeHead_69 : decode cX8_writeHead 69 = .ok (.i2b, 1) := by decide +kernel
theorem dX8_writeHead_70 : decode cX8_writeHead 70 = .ok (.bastore, 1) := by decide +kernel
theorem dX8_writeHead_71 : decode cX8_writeHead 71 = .ok (.iconst 2, 1) := by decide +kernel
theorem dX8_writeHead_72 : decode cX8_writeHead 72 = .ok (.istore_n 1, 1) := by decide +kernel
theorem dX8_writeHead_73 : decode cX8_writeHead 73 = .ok (.aload_n 0, 1) := by decide +kernel
theorem dX8_writeHead_74 : decode cX8_writeHead 74 = .ok (.getfield 21, 3) := by decide +kernel
theorem dX8_writeHead_77 : decode cX8_writeHead 77 = .ok (.iconst 2, 1) := by decide +kernel
theorem dX8_writeHead_78 : decode cX8_writeHead 78 = .ok (.iaload, 1) := by decide +kernel
theorem dX8_writeHead_79 : decode cX8_writeHead 79 = .ok (.iconst 1, 1) := by decide +kernel
theorem dX8_writeHead_80 : decode cX8_writeHead 80 = .ok (.if_icmp .ne 38, 3) := by decide +kernel
theorem dX8_writeHead_83 : decode cX8_writeHead 83 = .ok (.iconst 0, 1) := by decide +kernel
theorem dX8_writeHead_84 : decode cX8_writeHead 84 = .ok (.istore_n 2, 1) := by decide +kernel
theorem dX8_writeHead_85 : decode cX8_writeHead 85 = .ok (.iload_n 2, 1) := by decide +kernel
theorem dX8_writeHead_86 : decode cX8_writeHead 86 = .ok (.bipush 8, 2) := by decide +kernel
theorem dX8_writeHead_88 : decode cX8_writeHead 88 = .ok (.if_icmp .ge 30, 3) := by decide +kernel
theorem dX8_writeHead_91 : decode cX8_writeHead 91 = .ok (.aload_n 0, 1) := by decide +kernel
theorem dX8_writeHead_92 : decode cX8_writeHead 92 = .ok (.getfield 44, 3) := by decide +kernel
theorem dX8_writeHead_95 : decode cX8_writeHead 95 = .ok (.iload_n 1, 1) := by decide +kernel
theorem dX8_writeHead_96 : decode cX8_writeHead 96 = .ok (.aload_n 0, 1) := by decide +kernel
theorem dX8_writeHead_97 : decode cX8_writeHead 97 = .ok (.getfield 74, 3) := by decide +kernel
theorem dX8_writeHead_100 : decode cX8_writeHead 100 = .ok (.i2l, 1) := by decide +kernel
theorem dX8_writeHead_101 : decode cX8_writeHead 101 = .ok (.bipush 8, 2) := by decide +kernel
theorem dX8_writeHead_103 : decode cX8_writeHead 103 = .ok (.iload_n 2, 1) := by decide +kernel
theorem dX8_writeHead_104 : decode cX8_writeHead 104 = .ok (.imul, 1) := by decide +kernel
theorem dX8_writeHead_105 : decode cX8_writeHead 105 = .ok (.lshr, 1) := by decide +kernel
theorem dX8_writeHead_106 : decode cX8_writeHead 106 = .ok (.l2i, 1) := by decide +kernel
theorem dX8_writeHead_107 : decode cX8_writeHead 107 = .ok (.i2b, 1) := by decide +kernel
theorem dX8_writeHead_108 : decode cX8_writeHead 108 = .ok (.bastore, 1) := by decide +kernel
theorem dX8_writeHead_109 : decode cX8_writeHead 109 = .ok (.iinc 1 1, 3) := by decide +kernel
theorem dX8_writeHead_112 : decode cX8_writeHead 112 = .ok (.iinc 2 1, 3) := by decide +kernel
theorem dX8_writeHead_115 : decode cX8_writeHead 115 = .ok (.goto (-30), 3) := by decide +kernel
theorem dX8_writeHead_118 : decode cX8_writeHead 118 = .ok (.aload_n 0, 1) := by decide +kernel
theorem dX8_writeHead_119 : decode cX8_writeHead 119 = .ok (.ldc2_w 139, 3) := by decide +kernel
theorem dX8_writeHead_122 : decode cX8_writeHead 122 = .ok (.iconst 4, 1) := by decide +kernel
theorem dX8_writeHead_123 : decode cX8_writeHead 123 = .ok (.invokevirtual 113, 3) := by decide +kernel
theorem dX8_writeHead_126 : decode cX8_writeHead 126 = .ok (.iconst 0, 1) := by decide +kernel
theorem dX8_writeHead_127 : decode cX8_writeHead 127 = .ok (.istore_n 2, 1) := by decide +kernel
theorem dX8_writeHead_128 : decode cX8_writeHead 128 = .ok (.iload_n 2, 1) := by decide +kernel
theorem dX8_writeHead_129 : decode cX8_writeHead 129 = .ok (.iload_n 1, 1) := by decide +kernel
theorem dX8_writeHead_130 : decode cX8_writeHead 130 = .ok (.if_icmp .ge 19, 3) := by decide +kernel
theorem dX8_writeHead_133 : decode cX8_writeHead 133 = .ok (.aload_n 0, 1) := by decide +kernel
theorem dX8_writeHead_134 : decode cX8_writeHead 134 = .ok (.aload_n 0, 1) := by decide +kernel
theorem dX8_writeHead_135 : decode cX8_writeHead 135 = .ok (.getfield 44, 3) := by decide +kernel
theorem dX8_writeHead_138 : decode cX8_writeHead 138 = .ok (.iload_n 2, 1) := by decide +kernel
theorem dX8_writeHead_139 : decode cX8_writeHead 139 = .ok (.baload, 1) := by decide +kernel
theorem dX8_writeHead_140 : decode cX8_writeHead 140 = .ok (.invokevirtual 89, 3) := by decide +kernel
theorem dX8_writeHead_143 : decode cX8_writeHead 143 = .ok (.iinc 2 1, 3) := by decide +kernel
theorem dX8_writeHead_146 : decode cX8_writeHead 146 = .ok (.goto (-18), 3) := by decide +kernel
theorem dX8_writeHead_149 : decode cX8_writeHead 149 = .ok (.aload_n 0, 1) := by decide +kernel
theorem dX8_writeHead_150 : decode cX8_writeHead 150 = .ok (.aload_n 0, 1) := by decide +kernel
theorem dX8_writeHead_151 : decode cX8_writeHead 151 = .ok (.getfield 44, 3) := by decide +kernel
theorem dX8_writeHead_154 : decode cX8_writeHead 154 = .ok (.iconst 0, 1) := by decide +kernel
theorem dX8_writeHead_155 : decode cX8_writeHead 155 = .ok (.iload_n 1, 1) := by decide +kernel
theorem dX8_writeHead_156 : decode cX8_writeHead 156 = .ok (.iconst 0, 1) := by decide +kernel
theorem dX8_writeHead_157 : decode cX8_writeHead 157 = .ok (.invokestatic 135, 3) := by decide +kernel
theorem dX8_writeHead_160 : decode cX8_writeHead 160 = .ok (.bipush 8, 2) := by decide +kernel
theorem dX8_writeHead_162 : decode cX8_writeHead 162 = .ok (.ishr, 1) := by decide +kernel
theorem dX8_writeHead_163 : decode cX8_writeHead 163 = .ok (.invokevirtual 89, 3) := by decide +kernel
theorem dX8_writeHead_166 : decode cX8_writeHead 166 = .ok (.return_, 1) := by decide +kernel
set_option maxRecDepth 20000 in
theorem ggX8_pack_X8_forgetPlaces : GoodIn wsX8_pack wsX8_forgetPlaces := goodIn_r _ [16, 17, 84, 85, 86, 87, 88, 89, 90, 91, 92, 93, 94, 95, 96, 97, 98, 99, 100, 101, 102, 103, 104, 105, 106, 107, 108, 109, 110, 111, 112, 113, 114, 115, 116, 117, 118, 119, 120, 121, 122] (by decide +kernel) (by decide +kernel)
set_option maxRecDepth 20000 in
theorem gX8_pack_X8_forgetPlaces : GoodIn wsX8_pack (wsV RX8 117 RX8 yX8_forgetPlaces wsX8_forgetPlaces) := goodIn_app (goodIn_of _ (by decide +kernel)) ggX8_pack_X8_forgetPlaces
set_option maxRecDepth 20000 in
theorem ggX8_pack_X8_writeHead : GoodIn wsX8_pack wsX8_writeHead := goodIn_r _ [21, 22, 9, 8, 23, 24, 25, 26, 15, 27, 28, 29, 30, 31, 7, 11, 32, 33, 34, 35, 36, 37, 38, 39, 40, 41, 42, 43, 44, 45, 46, 47, 48, 49, 84, 85, 86, 87, 88, 89, 90, 91, 92, 93, 94, 95, 96, 97, 98, 99, 100, 101, 102, 103, 104, 105, 106, 107, 108, 109, 110, 111, 112, 113, 114, 115, 116, 117, 118, 119, 120, 121, 122] (by decide +kernel) (by decide +kernel)
set_option maxRecDepth 20000 in
theorem gX8_pack_X8_writeHead : GoodIn wsX8_pack (wsV RX8 144 RX8 yX8_writeHead wsX8_writeHead) := goodIn_app (goodIn_of _ (by decide +kernel)) ggX8_pack_X8_writeHead
set_option maxRecDepth 20000 in
theorem ggX8_pack_X8_packBlock : GoodIn wsX8_pack wsX8_packBlock := goodIn_r _ [53, 9, 2, 4, 54, 7, 10, 11, 32, 3, 12, 13, 14, 15, 16, 17, 55, 56, 57, 58, 37, 59, 41, 42, 43, 60, 61, 62, 63, 64, 65, 66, 67, 68, 5, 69, 70, 71, 72, 73, 74, 75, 24, 25, 26, 27, 28, 29, 30, 31, 76, 77, 78, 79, 80, 81, 82, 83, 33, 34, 35, 36, 38, 39, 40, 44, 45, 46, 47, 48, 49, 84, 85, 86, 87, 88, 89, 90, 91, 92, 93, 94, 95, 96, 97, 98, 99, 100, 101, 102, 103, 104, 105, 106, 107, 108, 109, 110, 111, 112, 113, 114, 115, 116, 117, 118, 119, 120, 121, 122] (by decide +kernel) (by decide +kernel)
set_option maxRecDepth 20000 in
theorem gX8_pack_X8_packBlock : GoodIn wsX8_pack (wsV RX8 147 RX8 yX8_packBlock wsX8_packBlock) := goodIn_app (goodIn_of _ (by decide +kernel)) ggX8_pack_X8_packBlock
set_option maxRecDepth 20000 in
theorem ggX8_pack_X8_writeNumber : GoodIn wsX8_pack wsX8_writeNumber := goodIn_r _ [27, 28, 29, 30, 15, 31, 7, 11, 32, 84, 85, 86, 87, 88, 89, 90, 91, 92, 93, 94, 95, 96, 97, 98, 99, 100, 101, 102, 103, 104, 105, 106, 107, 108, 109, 110, 111, 112, 113, 114, 115, 116, 117, 118, 119, 120, 121, 122] (by decide +kernel) (by decide +kernel)
set_option maxRecDepth 20000 in
theorem gX8_pack_X8_writeNumber : GoodIn wsX8_pack (wsV RX8 113 RX8 yX8_writeNumber wsX8_writeNumber) := goodIn_app (goodIn_of _ (by decide +kernel)) ggX8_pack_X8_writeNumber
set_option maxRecDepth 20000 in
theorem ggX8_pack_X8_hashOf : GoodIn wsX8_pack wsX8_hashOf := goodIn_r _ [35, 36, 37, 38, 39, 40, 41, 42, 15, 43, 44, 45, 46, 47, 48, 49] (by decide +kernel) (by decide +kernel)
set_option maxRecDepth 20000 in
theorem gX8_pack_X8_hashOf : GoodIn wsX8_pack (va_wsS RX8 135 yX8_hashOf wsX8_hashOf) := goodIn_app (goodIn_of _ (by decide +kernel)) ggX8_pack_X8_hashOf
theorem dX8_pack_0 : decode cX8_pack 0 = .ok (.aload_n 0, 1) := by decide +kernel
theorem dX8_pack_1 : decode cX8_pack 1 = .ok (.iconst 0, 1) := by decide +kernel
theorem dX8_pack_2 : decode cX8_pack 2 = .ok (.putfield 55, 3) := by decide +kernel
theorem dX8_pack_5 : decode cX8_pack 5 = .ok (.aload_n 0, 1) := by decide +kernel
theorem dX8_pack_6 : decode cX8_pack 6 = .ok (.iconst 0, 1) := by decide +kernel
theorem dX8_pack_7 : decode cX8_pack 7 = .ok (.putfield 93, 3) := by decide +kernel
theorem dX8_pack_10 : decode cX8_pack 10 = .ok (.aload_n 0, 1) := by decide +kernel
theorem dX8_pack_11 : decode cX8_pack 11 = .ok (.iconst 0, 1) := by decide +kernel
theorem dX8_pack_12 : decode cX8_pack 12 = .ok (.putfield 96, 3) := by decide +kernel
theorem dX8_pack_15 : decode cX8_pack 15 = .ok (.aload_n 0, 1) := by decide +kernel
theorem dX8_pack_16 : decode cX8_pack 16 = .ok (.iconst 0, 1) := by decide +kernel
theorem dX8_pack_17 : decode cX8_pack 17 = .ok (.putfield 127, 3) := by decide +kernel
theorem dX8_pack_20 : decode cX8_pack 20 = .ok (.aload_n 0, 1) := by decide +kernel
theorem dX8_pack_21 : decode cX8_pack 21 = .ok (.iconst 0, 1) := by decide +kernel
theorem dX8_pack_22 : decode cX8_pack 22 = .ok (.putfield 99, 3) := by decide +kernel
theorem dX8_pack_25 : decode cX8_pack 25 = .ok (.aload_n 0, 1) := by decide +kernel
theorem dX8_pack_26 : decode cX8_pack 26 = .ok (.aload_n 0, 1) := by decide +kernel
theorem dX8_pack_27 : decode cX8_pack 27 = .ok (.getfield 141, 3) := by decide +kernel
theorem dX8_pack_30 : decode cX8_pack 30 = .ok (.i2l, 1) := by decide +kernel
theorem dX8_pack_31 : decode cX8_pack 31 = .ok (.putfield 83, 3) := by decide +kernel
theorem dX8_pack_34 : decode cX8_pack 34 = .ok (.aload_n 0, 1) := by decide +kernel
theorem dX8_pack_35 : decode cX8_pack 35 = .ok (.invokevirtual 117, 3) := by decide +kernel
theorem dX8_pack_38 : decode cX8_pack 38 = .ok (.aload_n 0, 1) := by decide +kernel
theorem dX8_pack_39 : decode cX8_pack 39 = .ok (.invokevirtual 144, 3) := by decide +kernel
theorem dX8_pack_42 : decode cX8_pack 42 = .ok (.iconst 0, 1) := by decide +kernel
theorem dX8_pack_43 : decode cX8_pack 43 = .ok (.istore_n 1, 1) := by decide +kernel
theorem dX8_pack_44 : decode cX8_pack 44 = .ok (.iload_n 1, 1) := by decide +kernel
theorem dX8_pack_45 : decode cX8_pack 45 = .ok (.aload_n 0, 1) := by decide +kernel
theorem dX8_pack_46 : decode cX8_pack 46 = .ok (.getfield 74, 3) := by decide +kernel
theorem dX8_pack_49 : decode cX8_pack 49 = .ok (.if_icmp .ge 50, 3) := by decide +kernel
theorem dX8_pack_52 : decode cX8_pack 52 = .ok (.aload_n 0, 1) := by decide +kernel
theorem dX8_pack_53 : decode cX8_pack 53 = .ok (.iload_n 1, 1) := by decide +kernel
theorem dX8_pack_54 : decode cX8_pack 54 = .ok (.aload_n 0, 1) := by decide +kernel
theorem dX8_pack_55 : decode cX8_pack 55 = .ok (.getfield 74, 3) := by decide +kernel
theorem dX8_pack_58 : decode cX8_pack 58 = .ok (.iload_n 1, 1) := by decide +kernel
theorem dX8_pack_59 : decode cX8_pack 59 = .ok (.isub, 1) := by decide +kernel
theorem dX8_pack_60 : decode cX8_pack 60 = .ok (.aload_n 0, 1) := by decide +kernel
theorem dX8_pack_61 : decode cX8_pack 61 = .ok (.getfield 21, 3) := by decide +kernel
theorem dX8_pack_64 : decode cX8_pack 64 = .ok (.iconst 5, 1) := by decide +kernel
theorem dX8_pack_65 : decode cX8_pack 65 = .ok (.iaload, 1) := by decide +kernel
theorem dX8_pack_66 : decode cX8_pack 66 = .ok (.if_icmp .le 14, 3) := by decide +kernel
theorem dX8_pack_69 : decode cX8_pack 69 = .ok (.iload_n 1, 1) := by decide +kernel
theorem dX8_pack_70 : decode cX8_pack 70 = .ok (.aload_n 0, 1) := by decide +kernel
theorem dX8_pack_71 : decode cX8_pack 71 = .ok (.getfield 21, 3) := by decide +kernel
theorem dX8_pack_74 : decode cX8_pack 74 = .ok (.iconst 5, 1) := by decide +kernel
theorem dX8_pack_75 : decode cX8_pack 75 = .ok (.iaload, 1) := by decide +kernel
theorem dX8_pack_76 : decode cX8_pack 76 = .ok (.iadd, 1) := by decide +kernel
theorem dX8_pack_77 : decode cX8_pack 77 = .ok (.goto 7, 3) := by decide +kernel
theorem dX8_pack_80 : decode cX8_pack 80 = .ok (.aload_n 0, 1) := by decide +kernel
theorem dX8_pack_81 : decode cX8_pack 81 = .ok (.getfield 74, 3) := by decide +kernel
theorem dX8_pack_84 : decode cX8_pack 84 = .ok (.invokevirtual 147, 3) := by decide +kernel
theorem dX8_pack_87 : decode cX8_pack 87 = .ok (.iload_n 1, 1) := by decide +kernel
theorem dX8_pack_88 : decode cX8_pack 88 = .ok (.aload_n 0, 1) := by decide +kernel
theorem dX8_pack_89 : decode cX8_pack 89 = .ok (.getfield 21, 3) := by decide +kernel
theorem dX8_pack_92 : decode cX8_pack 92 = .ok (.iconst 5, 1) := by decide +kernel
theorem dX8_pack_93 : decode cX8_pack 93 = .ok (.iaload, 1) := by decide +kernel
theorem dX8_pack_94 : decode cX8_pack 94 = .ok (.iadd, 1) := by decide +kernel
theorem dX8_pack_95 : decode cX8_pack 95 = .ok (.istore_n 1, 1) := by decide +kernel
theorem dX8_pack_96 : decode cX8_pack 96 = .ok (.goto (-52), 3) := by decide +kernel
theorem dX8_pack_99 : decode cX8_pack 99 = .ok (.aload_n 0, 1) := by decide +kernel
theorem dX8_pack_100 : decode cX8_pack 100 = .ok (.lconst 0, 1) := by decide +kernel
theorem dX8_pack_101 : decode cX8_pack 101 = .ok (.iconst 4, 1) := by decide +kernel
theorem dX8_pack_102 : decode cX8_pack 102 = .ok (.invokevirtual 113, 3) := by decide +kernel
theorem dX8_pack_105 : decode cX8_pack 105 = .ok (.aload_n 0, 1) := by decide +kernel
theorem dX8_pack_106 : decode cX8_pack 106 = .ok (.getfield 21, 3) := by decide +kernel
theorem dX8_pack_109 : decode cX8_pack 109 = .ok (.iconst 3, 1) := by decide +kernel
theorem dX8_pack_110 : decode cX8_pack 110 = .ok (.iaload, 1) := by decide +kernel
theorem dX8_pack_111 : decode cX8_pack 111 = .ok (.iconst 1, 1) := by decide +kernel
theorem dX8_pack_112 : decode cX8_pack 112 = .ok (.if_icmp .ne 22, 3) := by decide +kernel
theorem dX8_pack_115 : decode cX8_pack 115 = .ok (.aload_n 0, 1) := by decide +kernel
theorem dX8_pack_116 : decode cX8_pack 116 = .ok (.aload_n 0, 1) := by decide +kernel
theorem dX8_pack_117 : decode cX8_pack 117 = .ok (.getfield 10, 3) := by decide +kernel
theorem dX8_pack_120 : decode cX8_pack 120 = .ok (.iconst 0, 1) := by decide +kernel
theorem dX8_pack_121 : decode cX8_pack 121 = .ok (.aload_n 0, 1) := by decide +kernel
theorem dX8_pack_122 : decode cX8_pack 122 = .ok (.getfield 74, 3) := by decide +kernel
theorem dX8_pack_125 : decode cX8_pack 125 = .ok (.iconst 0, 1) := by decide +kernel
theorem dX8_pack_126 : decode cX8_pack 126 = .ok (.invokestatic 135, 3) := by decide +kernel
theorem dX8_pack_129 : decode cX8_pack 129 = .ok (.i2l, 1) := by decide +kernel
theorem dX8_pack_130 : decode cX8_pack 130 = .ok (.iconst 4, 1) := by decide +kernel
theorem dX8_pack_131 : decode cX8_pack 131 = .ok (.invokevirtual 113, 3) := by decide +kernel
theorem dX8_pack_134 : decode cX8_pack 134 = .ok (.aload_n 0, 1) := by decide +kernel
theorem dX8_pack_135 : decode cX8_pack 135 = .ok (.getfield 83, 3) := by decide +kernel
theorem dX8_pack_138 : decode cX8_pack 138 = .ok (.ldc2_w 87, 3) := by decide +kernel
theorem dX8_pack_141 : decode cX8_pack 141 = .ok (.lcmp, 1) := by decide +kernel
theorem dX8_pack_142 : decode cX8_pack 142 = .ok (.ifCond .le 6, 3) := by decide +kernel
theorem dX8_pack_145 : decode cX8_pack 145 = .ok (.bipush (-2), 2) := by decide +kernel
theorem dX8_pack_147 : decode cX8_pack 147 = .ok (.ireturn, 1) := by decide +kernel
theorem dX8_pack_148 : decode cX8_pack 148 = .ok (.aload_n 0, 1) := by decide +kernel
theorem dX8_pack_149 : decode cX8_pack 149 = .ok (.aload_n 0, 1) := by decide +kernel
theorem dX8_pack_150 : decode cX8_pack 150 = .ok (.getfield 83, 3) := by decide +kernel
theorem dX8_pack_153 : decode cX8_pack 153 = .ok (.l2i, 1) := by decide +kernel
theorem dX8_pack_154 : decode cX8_pack 154 = .ok (.putfield 141, 3) := by decide +kernel
theorem dX8_pack_157 : decode cX8_pack 157 = .ok (.aload_n 0, 1) := by decide +kernel
theorem dX8_pack_158 : decode cX8_pack 158 = .ok (.getfield 141, 3) := by decide +kernel
theorem dX8_pack_161 : decode cX8_pack 161 = .ok (.ireturn, 1) := by decide +kernel
set_option maxRecDepth 20000 in
theorem ggX8_skip_X8_write : GoodIn wsX8_skip wsX8_write := goodIn_r _ [10, 4, 11, 12, 17, 18, 19, 20, 21, 22, 23, 24, 25, 26, 27, 28, 29, 30, 31, 32, 33, 34, 35, 36, 37, 38, 39, 40, 41, 42, 43, 44, 45, 46, 47, 48, 49, 50, 51, 52, 53, 54, 55] (by decide +kernel) (by decide +kernel)
set_option maxRecDepth 20000 in
theorem gX8_skip_X8_write : GoodIn wsX8_skip (wsV RX8 89 RX8 yX8_write wsX8_write) := goodIn_app (goodIn_of _ (by decide +kernel)) ggX8_skip_X8_write
set_option maxRecDepth 20000 in
theorem ggX8_skip_X8_writeNumber : GoodIn wsX8_skip wsX8_writeNumber := goodIn_r _ [16, 6, 7, 8, 9, 10, 4, 11, 12, 17, 18, 19, 20, 21, 22, 23, 24, 25, 26, 27, 28, 29, 30, 31, 32, 33, 34, 35, 36, 37, 38, 39, 40, 41, 42, 43, 44, 45, 46, 47, 48, 49, 50, 51, 52, 53, 54, 55] (by decide +kernel) (by decide +kernel)
set_option maxRecDepth 20000 in
theorem gX8_skip_X8_writeNumber : GoodIn wsX8_skip (wsV RX8 113 RX8 yX8_writeNumber wsX8_writeNumber) := goodIn_app (goodIn_of _ (by decide +kernel)) ggX8_skip_X8_writeNumber
theorem dX8_skip_0 : decode cX8_skip 0 = .ok (.aload_n 0, 1) := by decide +kernel
theorem dX8_skip_1 : decode cX8_skip 1 = .ok (.iconst 0, 1) := by decide +kernel
theorem dX8_skip_2 : decode cX8_skip 2 = .ok (.putfield 55, 3) := by decide +kernel
theorem dX8_skip_5 : decode cX8_skip 5 = .ok (.iload_n 1, 1) := by decide +kernel
theorem dX8_skip_6 : decode cX8_skip 6 = .ok (.ifCond .lt 20, 3) := by decide +kernel
theorem dX8_skip_9 : decode cX8_skip 9 = .ok (.iload_n 1, 1) := by decide +kernel
theorem dX8_skip_10 : decode cX8_skip 10 = .ok (.bipush 15, 2) := by decide +kernel
theorem dX8_skip_12 : decode cX8_skip 12 = .ok (.if_icmp .gt 14, 3) := by decide +kernel
theorem dX8_skip_15 : decode cX8_skip 15 = .ok (.iload_n 2, 1) := by decide +kernel
theorem dX8_skip_16 : decode cX8_skip 16 = .ok (.ifCond .lt 10, 3) := by decide +kernel
theorem dX8_skip_19 : decode cX8_skip 19 = .ok (.iload_n 2, 1) := by decide +kernel
theorem dX8_skip_20 : decode cX8_skip 20 = .ok (.sipush 1000, 3) := by decide +kernel
theorem dX8_skip_23 : decode cX8_skip 23 = .ok (.if_icmp .le 5, 3) := by decide +kernel
theorem dX8_skip_26 : decode cX8_skip 26 = .ok (.iconst (-1), 1) := by decide +kernel
theorem dX8_skip_27 : decode cX8_skip 27 = .ok (.ireturn, 1) := by decide +kernel
theorem dX8_skip_28 : decode cX8_skip 28 = .ok (.aload_n 0, 1) := by decide +kernel
theorem dX8_skip_29 : decode cX8_skip 29 = .ok (.getfield 141, 3) := by decide +kernel
theorem dX8_skip_32 : decode cX8_skip 32 = .ok (.bipush 8, 2) := by decide +kernel
theorem dX8_skip_34 : decode cX8_skip 34 = .ok (.iadd, 1) := by decide +kernel
theorem dX8_skip_35 : decode cX8_skip 35 = .ok (.iload_n 2, 1) := by decide +kernel
theorem dX8_skip_36 : decode cX8_skip 36 = .ok (.iadd, 1) := by decide +kernel
theorem dX8_skip_37 : decode cX8_skip 37 = .ok (.ldc 14, 2) := by decide +kernel
theorem dX8_skip_39 : decode cX8_skip 39 = .ok (.if_icmp .le 6, 3) := by decide +kernel
theorem dX8_skip_42 : decode cX8_skip 42 = .ok (.bipush (-2), 2) := by decide +kernel
theorem dX8_skip_44 : decode cX8_skip 44 = .ok (.ireturn, 1) := by decide +kernel
theorem dX8_skip_45 : decode cX8_skip 45 = .ok (.aload_n 0, 1) := by decide +kernel
theorem dX8_skip_46 : decode cX8_skip 46 = .ok (.aload_n 0, 1) := by decide +kernel
theorem dX8_skip_47 : decode cX8_skip 47 = .ok (.getfield 141, 3) := by decide +kernel
theorem dX8_skip_50 : decode cX8_skip 50 = .ok (.i2l, 1) := by decide +kernel
theorem dX8_skip_51 : decode cX8_skip 51 = .ok (.putfield 83, 3) := by decide +kernel
theorem dX8_skip_54 : decode cX8_skip 54 = .ok (.aload_n 0, 1) := by decide +kernel
theorem dX8_skip_55 : decode cX8_skip 55 = .ok (.bipush 80, 2) := by decide +kernel
theorem dX8_skip_57 : decode cX8_skip 57 = .ok (.iload_n 1, 1) := by decide +kernel
theorem dX8_skip_58 : decode cX8_skip 58 = .ok (.iadd, 1) := by decide +kernel
theorem dX8_skip_59 : decode cX8_skip 59 = .ok (.invokevirtual 89, 3) := by decide +kernel
theorem dX8_skip_62 : decode cX8_skip 62 = .ok (.aload_n 0, 1) := by decide +kernel
theorem dX8_skip_63 : decode cX8_skip 63 = .ok (.ldc2_w 150, 3) := by decide +kernel
theorem dX8_skip_66 : decode cX8_skip 66 = .ok (.iconst 3, 1) := by decide +kernel
theorem dX8_skip_67 : decode cX8_skip 67 = .ok (.invokevirtual 113, 3) := by decide +kernel
theorem dX8_skip_70 : decode cX8_skip 70 = .ok (.aload_n 0, 1) := by decide +kernel
theorem dX8_skip_71 : decode cX8_skip 71 = .ok (.iload_n 2, 1) := by decide +kernel
theorem dX8_skip_72 : decode cX8_skip 72 = .ok (.i2l, 1) := by decide +kernel
theorem dX8_skip_73 : decode cX8_skip 73 = .ok (.iconst 4, 1) := by decide +kernel
theorem dX8_skip_74 : decode cX8_skip 74 = .ok (.invokevirtual 113, 3) := by decide +kernel
theorem dX8_skip_77 : decode cX8_skip 77 = .ok (.iconst 0, 1) := by decide +kernel
theorem dX8_skip_78 : decode cX8_skip 78 = .ok (.istore 4, 2) := by decide +kernel
theorem dX8_skip_80 : decode cX8_skip 80 = .ok (.iload 4, 2) := by decide +kernel
theorem dX8_skip_82 : decode cX8_skip 82 = .ok (.iload_n 2, 1) := by decide +kernel
theorem dX8_skip_83 : decode cX8_skip 83 = .ok (.if_icmp .ge 14, 3) := by decide +kernel
theorem dX8_skip_86 : decode cX8_skip 86 = .ok (.aload_n 0, 1) := by decide +kernel
theorem dX8_skip_87 : decode cX8_skip 87 = .ok (.iload_n 3, 1) := by decide +kernel
theorem dX8_skip_88 : decode cX8_skip 88 = .ok (.invokevirtual 89, 3) := by decide +kernel
theorem dX8_skip_91 : decode cX8_skip 91 = .ok (.iinc 4 1, 3) := by decide +kernel
theorem dX8_skip_94 : decode cX8_skip 94 = .ok (.goto (-14), 3) := by decide +kernel
theorem dX8_skip_97 : decode cX8_skip 97 = .ok (.aload_n 0, 1) := by decide +kernel
theorem dX8_skip_98 : decode cX8_skip 98 = .ok (.aload_n 0, 1) := by decide +kernel
theorem dX8_skip_99 : decode cX8_skip 99 = .ok (.getfield 83, 3) := by decide +kernel
theorem dX8_skip_102 : decode cX8_skip 102 = .ok (.l2i, 1) := by decide +kernel
theorem dX8_skip_103 : decode cX8_skip 103 = .ok (.putfield 141, 3) := by decide +kernel
theorem dX8_skip_106 : decode cX8_skip 106 = .ok (.aload_n 0, 1) := by decide +kernel
theorem dX8_skip_107 : decode cX8_skip 107 = .ok (.getfield 141, 3) := by decide +kernel
theorem dX8_skip_110 : decode cX8_skip 110 = .ok (.ireturn, 1) := by decide +kernel
theorem dX8_give_0 : decode cX8_give 0 = .ok (.aload_n 0, 1) := by decide +kernel
theorem dX8_give_1 : decode cX8_give 1 = .ok (.iconst 0, 1) := by decide +kernel
theorem dX8_give_2 : decode cX8_give 2 = .ok (.putfield 55, 3) := by decide +kernel
theorem dX8_give_5 : decode cX8_give 5 = .ok (.iload_n 3, 1) := by decide +kernel
theorem dX8_give_6 : decode cX8_give 6 = .ok (.iconst 1, 1) := by decide +kernel
theorem dX8_give_7 : decode cX8_give 7 = .ok (.if_icmp .lt 9, 3) := by decide +kernel
theorem dX8_give_10 : decode cX8_give 10 = .ok (.iload_n 3, 1) := by decide +kernel
theorem dX8_give_11 : decode cX8_give 11 = .ok (.bipush 8, 2) := by decide +kernel
theorem dX8_give_13 : decode cX8_give 13 = .ok (.if_icmp .le 5, 3) := by decide +kernel
theorem dX8_give_16 : decode cX8_give 16 = .ok (.iconst (-1), 1) := by decide +kernel
theorem dX8_give_17 : decode cX8_give 17 = .ok (.ireturn, 1) := by decide +kernel
theorem dX8_give_18 : decode cX8_give 18 = .ok (.aload_n 0, 1) := by decide +kernel
theorem dX8_give_19 : decode cX8_give 19 = .ok (.getfield 141, 3) := by decide +kernel
theorem dX8_give_22 : decode cX8_give 22 = .ok (.iload_n 3, 1) := by decide +kernel
theorem dX8_give_23 : decode cX8_give 23 = .ok (.iadd, 1) := by decide +kernel
theorem dX8_give_24 : decode cX8_give 24 = .ok (.ldc 14, 2) := by decide +kernel
theorem dX8_give_26 : decode cX8_give 26 = .ok (.if_icmp .le 6, 3) := by decide +kernel
theorem dX8_give_29 : decode cX8_give 29 = .ok (.bipush (-2), 2) := by decide +kernel
theorem dX8_give_31 : decode cX8_give 31 = .ok (.ireturn, 1) := by decide +kernel
theorem dX8_give_32 : decode cX8_give 32 = .ok (.iload_n 3, 1) := by decide +kernel
theorem dX8_give_33 : decode cX8_give 33 = .ok (.iconst 1, 1) := by decide +kernel
theorem dX8_give_34 : decode cX8_give 34 = .ok (.isub, 1) := by decide +kernel
theorem dX8_give_35 : decode cX8_give 35 = .ok (.istore 4, 2) := by decide +kernel
theorem dX8_give_37 : decode cX8_give 37 = .ok (.iload 4, 2) := by decide +kernel
theorem dX8_give_39 : decode cX8_give 39 = .ok (.ifCond .lt 37, 3) := by decide +kernel
theorem dX8_give_42 : decode cX8_give 42 = .ok (.aload_n 0, 1) := by decide +kernel
theorem dX8_give_43 : decode cX8_give 43 = .ok (.getfield 15, 3) := by decide +kernel
theorem dX8_give_46 : decode cX8_give 46 = .ok (.aload_n 0, 1) := by decide +kernel
theorem dX8_give_47 : decode cX8_give 47 = .ok (.getfield 141, 3) := by decide +kernel
theorem dX8_give_50 : decode cX8_give 50 = .ok (.lload_n 1, 1) := by decide +kernel
theorem dX8_give_51 : decode cX8_give 51 = .ok (.bipush 8, 2) := by decide +kernel
theorem dX8_give_53 : decode cX8_give 53 = .ok (.iload 4, 2) := by decide +kernel
theorem dX8_give_55 : decode cX8_give 55 = .ok (.imul, 1) := by decide +kernel
theorem dX8_give_56 : decode cX8_give 56 = .ok (.lshr, 1) := by decide +kernel
theorem dX8_give_57 : decode cX8_give 57 = .ok (.l2i, 1) := by decide +kernel
theorem dX8_give_58 : decode cX8_give 58 = .ok (.i2b, 1) := by decide +kernel
theorem dX8_give_59 : decode cX8_give 59 = .ok (.bastore, 1) := by decide +kernel
theorem dX8_give_60 : decode cX8_give 60 = .ok (.aload_n 0, 1) := by decide +kernel
theorem dX8_give_61 : decode cX8_give 61 = .ok (.dup, 1) := by decide +kernel
theorem dX8_give_62 : decode cX8_give 62 = .ok (.getfield 141, 3) := by decide +kernel
theorem dX8_give_65 : decode cX8_give 65 = .ok (.iconst 1, 1) := by decide +kernel
theorem dX8_give_66 : decode cX8_give 66 = .ok (.iadd, 1) := by decide +kernel
theorem dX8_give_67 : decode cX8_give 67 = .ok (.putfield 141, 3) := by decide +kernel
theorem dX8_give_70 : decode cX8_give 70 = .ok (.iinc 4 (-1), 3) := by decide +kernel
theorem dX8_give_73 : decode cX8_give 73 = .ok (.goto (-36), 3) := by decide +kernel
theorem dX8_give_76 : decode cX8_give 76 = .ok (.aload_n 0, 1) := by decide +kernel
theorem dX8_give_77 : decode cX8_give 77 = .ok (.getfield 141, 3) := by decide +kernel
theorem dX8_give_80 : decode cX8_give 80 = .ok (.ireturn, 1) := by decide +kernel
theorem dX8_alter_0 : decode cX8_alter 0 = .ok (.aload_n 0, 1) := by decide +kernel
theorem dX8_alter_1 : decode cX8_alter 1 = .ok (.iconst 0, 1) := by decide +kernel
theorem dX8_alter_2 : decode cX8_alter 2 = .ok (.putfield 55, 3) := by decide +kernel
theorem dX8_alter_5 : decode cX8_alter 5 = .ok (.iload_n 1, 1) := by decide +kernel
theorem dX8_alter_6 : decode cX8_alter 6 = .ok (.ifCond .lt 11, 3) := by decide +kernel
theorem dX8_alter_9 : decode cX8_alter 9 = .ok (.iload_n 1, 1) := by decide +kernel
theorem dX8_alter_10 : decode cX8_alter 10 = .ok (.aload_n 0, 1) := by decide +kernel
theorem dX8_alter_11 : decode cX8_alter 11 = .ok (.getfield 141, 3) := by decide +kernel
theorem dX8_alter_14 : decode cX8_alter 14 = .ok (.if_icmp .lt 5, 3) := by decide +kernel
theorem dX8_alter_17 : decode cX8_alter 17 = .ok (.iconst (-1), 1) := by decide +kernel
theorem dX8_alter_18 : decode cX8_alter 18 = .ok (.ireturn, 1) := by decide +kernel
theorem dX8_alter_19 : decode cX8_alter 19 = .ok (.aload_n 0, 1) := by decide +kernel
theorem dX8_alter_20 : decode cX8_alter 20 = .ok (.getfield 15, 3) := by decide +kernel
theorem dX8_alter_23 : decode cX8_alter 23 = .ok (.iload_n 1, 1) := by decide +kernel
theorem dX8_alter_24 : decode cX8_alter 24 = .ok (.baload, 1) := by decide +kernel
theorem dX8_alter_25 : decode cX8_alter 25 = .ok (.sipush 255, 3) := by decide +kernel
theorem dX8_alter_28 : decode cX8_alter 28 = .ok (.iand, 1) := by decide +kernel
theorem dX8_alter_29 : decode cX8_alter 29 = .ok (.istore_n 3, 1) := by decide +kernel
theorem dX8_alter_30 : decode cX8_alter 30 = .ok (.aload_n 0, 1) := by decide +kernel
theorem dX8_alter_31 : decode cX8_alter 31 = .ok (.getfield 15, 3) := by decide +kernel
theorem dX8_alter_34 : decode cX8_alter 34 = .ok (.iload_n 1, 1) := by decide +kernel
theorem dX8_alter_35 : decode cX8_alter 35 = .ok (.iload_n 2, 1) := by decide +kernel
theorem dX8_alter_36 : decode cX8_alter 36 = .ok (.i2b, 1) := by decide +kernel
theorem dX8_alter_37 : decode cX8_alter 37 = .ok (.bastore, 1) := by decide +kernel
theorem dX8_alter_38 : decode cX8_alter 38 = .ok (.iload_n 3, 1) := by decide +kernel
theorem dX8_alter_39 : decode cX8_alter 39 = .ok (.ireturn, 1) := by decide +kernel
theorem dX8_cut_0 : decode cX8_cut 0 = .ok (.aload_n 0, 1) := by decide +kernel
theorem dX8_cut_1 : decode cX8_cut 1 = .ok (.iconst 0, 1) := by decide +kernel
theorem dX8_cut_2 : decode cX8_cut 2 = .ok (.putfield 55, 3) := by decide +kernel
theorem dX8_cut_5 : decode cX8_cut 5 = .ok (.iload_n 1, 1) := by decide +kernel
theorem dX8_cut_6 : decode cX8_cut 6 = .ok (.ifCond .lt 11, 3) := by decide +kernel
theorem dX8_cut_9 : decode cX8_cut 9 = .ok (.iload_n 1, 1) := by decide +kernel
theorem dX8_cut_10 : decode cX8_cut 10 = .ok (.aload_n 0, 1) := by decide +kernel
theorem dX8_cut_11 : decode cX8_cut 11 = .ok (.getfield 141, 3) := by decide +kernel
theorem dX8_cut_14 : decode cX8_cut 14 = .ok (.if_icmp .le 5, 3) := by decide +kernel
theorem dX8_cut_17 : decode cX8_cut 17 = .ok (.iconst (-1), 1) := by decide +kernel
theorem dX8_cut_18 : decode cX8_cut 18 = .ok (.ireturn, 1) := by decide +kernel
theorem dX8_cut_19 : decode cX8_cut 19 = .ok (.aload_n 0, 1) := by decide +kernel
theorem dX8_cut_20 : decode cX8_cut 20 = .ok (.getfield 141, 3) := by decide +kernel
theorem dX8_cut_23 : decode cX8_cut 23 = .ok (.istore_n 2, 1) := by decide +kernel
theorem dX8_cut_24 : decode cX8_cut 24 = .ok (.aload_n 0, 1) := by decide +kernel
theorem dX8_cut_25 : decode cX8_cut 25 = .ok (.iload_n 1, 1) := by decide +kernel
theorem dX8_cut_26 : decode cX8_cut 26 = .ok (.putfield 141, 3) := by decide +kernel
theorem dX8_cut_29 : decode cX8_cut 29 = .ok (.iload_n 2, 1) := by decide +kernel
theorem dX8_cut_30 : decode cX8_cut 30 = .ok (.ireturn, 1) := by decide +kernel
theorem dX8_fails_0 : decode cX8_fails 0 = .ok (.aload_n 0, 1) := by decide +kernel
theorem dX8_fails_1 : decode cX8_fails 1 = .ok (.iload_n 1, 1) := by decide +kernel
theorem dX8_fails_2 : decode cX8_fails 2 = .ok (.putfield 152, 3) := by decide +kernel
theorem dX8_fails_5 : decode cX8_fails 5 = .ok (.aload_n 0, 1) := by decide +kernel
theorem dX8_fails_6 : decode cX8_fails 6 = .ok (.iload_n 2, 1) := by decide +kernel
theorem dX8_fails_7 : decode cX8_fails 7 = .ok (.putfield 50, 3) := by decide +kernel
theorem dX8_fails_10 : decode cX8_fails 10 = .ok (.iconst 0, 1) := by decide +kernel
theorem dX8_fails_11 : decode cX8_fails 11 = .ok (.ireturn, 1) := by decide +kernel
set_option maxRecDepth 20000 in
theorem ggX8_has_X8_fails : GoodIn wsX8_has wsX8_fails := goodIn_r _ [7, 8, 9, 10, 11, 12, 13, 14, 15, 16, 17, 18, 19, 20, 21, 22, 23, 24, 25, 26, 27, 28, 29, 30, 31, 32, 33, 34, 35, 36, 37, 38, 39, 40, 41, 42, 43, 44, 45, 46, 47, 48] (by decide +kernel) (by decide +kernel)
set_option maxRecDepth 20000 in
theorem gX8_has_X8_fails : GoodIn wsX8_has (wsV RX8 158 RX8 yX8_fails wsX8_fails) := goodIn_app (goodIn_of _ (by decide +kernel)) ggX8_has_X8_fails
theorem dX8_has_0 : decode cX8_has 0 = .ok (.aload_n 0, 1) := by decide +kernel
theorem dX8_has_1 : decode cX8_has 1 = .ok (.getfield 141, 3) := by decide +kernel
theorem dX8_has_4 : decode cX8_has 4 = .ok (.aload_n 0, 1) := by decide +kernel
theorem dX8_has_5 : decode cX8_has 5 = .ok (.getfield 155, 3) := by decide +kernel
theorem dX8_has_8 : decode cX8_has 8 = .ok (.isub, 1) := by decide +kernel
theorem dX8_has_9 : decode cX8_has 9 = .ok (.i2l, 1) := by decide +kernel
theorem dX8_has_10 : decode cX8_has 10 = .ok (.lload_n 1, 1) := by decide +kernel
theorem dX8_has_11 : decode cX8_has 11 = .ok (.lcmp, 1) := by decide +kernel
theorem dX8_has_12 : decode cX8_has 12 = .ok (.ifCond .ge 15, 3) := by decide +kernel
theorem dX8_has_15 : decode cX8_has 15 = .ok (.aload_n 0, 1) := by decide +kernel
theorem dX8_has_16 : decode cX8_has 16 = .ok (.iconst 1, 1) := by decide +kernel
theorem dX8_has_17 : decode cX8_has 17 = .ok (.aload_n 0, 1) := by decide +kernel
theorem dX8_has_18 : decode cX8_has 18 = .ok (.getfield 141, 3) := by decide +kernel
theorem dX8_has_21 : decode cX8_has 21 = .ok (.invokevirtual 158, 3) := by decide +kernel
theorem dX8_has_24 : decode cX8_has 24 = .ok (.ifCond .eq 7, 3) := by decide +kernel
theorem dX8_has_27 : decode cX8_has 27 = .ok (.iconst 1, 1) := by decide +kernel
theorem dX8_has_28 : decode cX8_has 28 = .ok (.goto 4, 3) := by decide +kernel
theorem dX8_has_31 : decode cX8_has 31 = .ok (.iconst 0, 1) := by decide +kernel
theorem dX8_has_32 : decode cX8_has 32 = .ok (.ireturn, 1) := by decide +kernel
theorem dX8_number_0 : decode cX8_number 0 = .ok (.lconst 0, 1) := by decide +kernel
theorem dX8_number_1 : decode cX8_number 1 = .ok (.lstore_n 3, 1) := by decide +kernel
theorem dX8_number_2 : decode cX8_number 2 = .ok (.iload_n 2, 1) := by decide +kernel
theorem dX8_number_3 : decode cX8_number 3 = .ok (.iconst 1, 1) := by decide +kernel
theorem dX8_number_4 : decode cX8_number 4 = .ok (.isub, 1) := by decide +kernel
theorem dX8_number_5 : decode cX8_number 5 = .ok (.istore 5, 2) := by decide +kernel
theorem dX8_number_7 : decode cX8_number 7 = .ok (.iload 5, 2) := by decide +kernel
theorem dX8_number_9 : decode cX8_number 9 = .ok (.ifCond .lt 29, 3) := by decide +kernel
theorem dX8_number_12 : decode cX8_number 12 = .ok (.lload_n 3, 1) := by decide +kernel
theorem dX8_number_13 : decode cX8_number 13 = .ok (.bipush 8, 2) := by decide +kernel
theorem dX8_number_15 : decode cX8_number 15 = .ok (.lshl, 1) := by decide +kernel
theorem dX8_number_16 : decode cX8_number 16 = .ok (.aload_n 0, 1) := by decide +kernel
theorem dX8_number_17 : decode cX8_number 17 = .ok (.getfield 15, 3) := by decide +kernel
theorem dX8_number_20 : decode cX8_number 20 = .ok (.iload_n 1, 1) := by decide +kernel
theorem dX8_number_21 : decode cX8_number 21 = .ok (.iload 5, 2) := by decide +kernel
theorem dX8_number_23 : decode cX8_number 23 = .ok (.iadd, 1) := by decide +kernel
theorem dX8_number_24 : decode cX8_number 24 = .ok (.baload, 1) := by decide +kernel
theorem dX8_number_25 : decode cX8_number 25 = .ok (.i2l, 1) := by decide +kernel
theorem dX8_number_26 : decode cX8_number 26 = .ok (.ldc2_w 162, 3) := by decide +kernel
theorem dX8_number_29 : decode cX8_number 29 = .ok (.land, 1) := by decide +kernel
theorem dX8_number_30 : decode cX8_number 30 = .ok (.lor, 1) := by decide +kernel
theorem dX8_number_31 : decode cX8_number 31 = .ok (.lstore_n 3, 1) := by decide +kernel
theorem dX8_number_32 : decode cX8_number 32 = .ok (.iinc 5 (-1), 3) := by decide +kernel
theorem dX8_number_35 : decode cX8_number 35 = .ok (.goto (-28), 3) := by decide +kernel
theorem dX8_number_38 : decode cX8_number 38 = .ok (.lload_n 3, 1) := by decide +kernel
theorem dX8_number_39 : decode cX8_number 39 = .ok (.lreturn, 1) := by decide +kernel
set_option maxRecDepth 20000 in
theorem ggX8_isFrame_X8_has : GoodIn wsX8_isFrame wsX8_has := goodIn_r _ [10, 11, 2, 12, 13, 14, 9, 15, 16, 17, 107, 108, 109, 110, 111, 112, 113, 114, 115, 116, 117, 118, 119, 120, 121, 122, 123, 124, 125, 126, 127, 128, 129, 130, 131, 132, 133, 134, 135, 136, 137, 138, 139, 140, 141, 142, 143, 144, 145] (by decide +kernel) (by decide +kernel)
set_option maxRecDepth 20000 in
theorem gX8_isFrame_X8_has : GoodIn wsX8_isFrame (wsV RX8 166 RX8 yX8_has wsX8_has) := goodIn_app (goodIn_of _ (by decide +kernel)) ggX8_isFrame_X8_has
set_option maxRecDepth 20000 in
theorem ggX8_isFrame_X8_number : GoodIn wsX8_isFrame wsX8_number := goodIn_r _ [21, 22, 23, 107, 108, 109, 110, 111, 112, 113, 114, 115, 116, 117, 118, 119, 120, 121, 122, 123, 124, 125, 126, 127, 128, 129, 130, 131, 132, 133, 134, 135, 136, 137, 138, 139, 140, 141, 142, 143, 144, 145] (by decide +kernel) (by decide +kernel)
set_option maxRecDepth 20000 in
theorem gX8_isFrame_X8_number : GoodIn wsX8_isFrame (wsV RX8 170 RX8 yX8_number wsX8_number) := goodIn_app (goodIn_of _ (by decide +kernel)) ggX8_isFrame_X8_number
set_option maxRecDepth 20000 in
theorem ggX8_isFrame_X8_isSkipped : GoodIn wsX8_isFrame wsX8_isSkipped := goodIn_r _ [27, 2, 1, 28, 6, 7, 8, 9, 10, 11, 12, 13, 14, 15, 16, 17, 18, 19, 20, 21, 22, 23, 107, 108, 109, 110, 111, 112, 113, 114, 115, 116, 117, 118, 119, 120, 121, 122, 123, 124, 125, 126, 127, 128, 129, 130, 131, 132, 133, 134, 135, 136, 137, 138, 139, 140, 141, 142, 143, 144, 145] (by decide +kernel) (by decide +kernel)
set_option maxRecDepth 20000 in
theorem gX8_isFrame_X8_isSkipped : GoodIn wsX8_isFrame (wsV RX8 178 RX8 yX8_isSkipped wsX8_isSkipped) := goodIn_app (goodIn_of _ (by decide +kernel)) ggX8_isFrame_X8_isSkipped
set_option maxRecDepth 20000 in
theorem ggX8_isFrame_X8_fails : GoodIn wsX8_isFrame wsX8_fails := goodIn_r _ [15, 16, 17, 107, 108, 109, 110, 111, 112, 113, 114, 115, 116, 117, 118, 119, 120, 121, 122, 123, 124, 125, 126, 127, 128, 129, 130, 131, 132, 133, 134, 135, 136, 137, 138, 139, 140, 141, 142, 143, 144, 145] (by decide +kernel) (by decide +kernel)
set_option maxRecDepth 20000 in
theorem gX8_isFrame_X8_fails : GoodIn wsX8_isFrame (wsV RX8 158 RX8 yX8_fails wsX8_fails) := goodIn_app (goodIn_of _ (by decide +kernel)) ggX8_isFrame_X8_fails
set_option maxRecDepth 20000 in
theorem ggX8_isFrame_X8_isHead : GoodIn wsX8_isFrame wsX8_isHead := goodIn_r _ [32, 2, 22, 33, 34, 35, 36, 37, 38, 6, 7, 8, 9, 10, 11, 12, 13, 14, 15, 16, 17, 18, 19, 20, 21, 23, 39, 40, 41, 42, 43, 44, 45, 46, 47, 48, 49, 50, 51, 52, 53, 54, 55, 107, 108, 109, 110, 111, 112, 113, 114, 115, 116, 117, 118, 119, 120, 121, 122, 123, 124, 125, 126, 127, 128, 129, 130, 131, 132, 133, 134, 135, 136, 137, 138, 139, 140, 141, 142, 143, 144, 145] (by decide +kernel) (by decide +kernel)
set_option maxRecDepth 20000 in
theorem gX8_isFrame_X8_isHead : GoodIn wsX8_isFrame (wsV RX8 182 RX8 yX8_isHead wsX8_isHead) := goodIn_app (goodIn_of _ (by decide +kernel)) ggX8_isFrame_X8_isHead
set_option maxRecDepth 20000 in
theorem ggX8_isFrame_X8_areBlocks : GoodIn wsX8_isFrame wsX8_areBlocks := goodIn_r _ [59, 1, 2, 60, 61, 6, 7, 8, 9, 10, 11, 12, 13, 14, 15, 16, 17, 18, 19, 20, 21, 22, 23, 62, 63, 64, 65, 34, 66, 33, 37, 67, 68, 39, 40, 41, 42, 43, 44, 45, 46, 47, 48, 49, 50, 51, 52, 53, 54, 55, 69, 70, 71, 72, 73, 74, 75, 76, 77, 78, 79, 80, 81, 82, 83, 84, 85, 86, 87, 88, 89, 90, 91, 92, 93, 94, 95, 96, 97, 98, 38, 99, 100, 101, 102, 107, 108, 109, 110, 111, 112, 113, 114, 115, 116, 117, 118, 119, 120, 121, 122, 123, 124, 125, 126, 127, 128, 129, 130, 131, 132, 133, 134, 135, 136, 137, 138, 139, 140, 141, 142, 143, 144, 145] (by decide +kernel) (by decide +kernel)
set_option maxRecDepth 20000 in
theorem gX8_isFrame_X8_areBlocks : GoodIn wsX8_isFrame (wsV RX8 185 RX8 yX8_areBlocks wsX8_areBlocks) := goodIn_app (goodIn_of _ (by decide +kernel)) ggX8_isFrame_X8_areBlocks
set_option maxRecDepth 20000 in
theorem ggX8_isFrame_X8_isEnd : GoodIn wsX8_isFrame wsX8_isEnd := goodIn_r _ [106, 33, 36, 37, 38, 60, 1, 2, 74, 28, 12, 13, 14, 9, 15, 16, 17, 6, 7, 8, 10, 11, 18, 19, 20, 21, 22, 23, 39, 40, 41, 42, 43, 44, 45, 46, 47, 48, 49, 50, 51, 52, 53, 54, 55, 107, 108, 109, 110, 111, 112, 113, 114, 115, 116, 117, 118, 119, 120, 121, 122, 123, 124, 125, 126, 127, 128, 129, 130, 131, 132, 133, 134, 135, 136, 137, 138, 139, 140, 141, 142, 143, 144, 145] (by decide +kernel) (by decide +kernel)
set_option maxRecDepth 20000 in
theorem gX8_isFrame_X8_isEnd : GoodIn wsX8_isFrame (wsV RX8 188 RX8 yX8_isEnd wsX8_isEnd) := goodIn_app (goodIn_of _ (by decide +kernel)) ggX8_isFrame_X8_isEnd
theorem dX8_isFrame_0 : decode cX8_isFrame 0 = .ok (.aload_n 0, 1) := by decide +kernel
theorem dX8_isFrame_1 : decode cX8_isFrame 1 = .ok (.ldc2_w 164, 3) := by decide +kernel
theorem dX8_isFrame_4 : decode cX8_isFrame 4 = .ok (.invokevirtual 166, 3) := by decide +kernel
theorem dX8_isFrame_7 : decode cX8_isFrame 7 = .ok (.ifCond .ne 5, 3) := by decide +kernel
theorem dX8_isFrame_10 : decode cX8_isFrame 10 = .ok (.iconst 0, 1) := by decide +kernel
theorem dX8_isFrame_11 : decode cX8_isFrame 11 = .ok (.ireturn, 1) := by decide +kernel
theorem dX8_isFrame_12 : decode cX8_isFrame 12 = .ok (.aload_n 0, 1) := by decide +kernel
theorem dX8_isFrame_13 : decode cX8_isFrame 13 = .ok (.aload_n 0, 1) := by decide +kernel
theorem dX8_isFrame_14 : decode cX8_isFrame 14 = .ok (.getfield 155, 3) := by decide +kernel
theorem dX8_isFrame_17 : decode cX8_isFrame 17 = .ok (.iconst 4, 1) := by decide +kernel
theorem dX8_isFrame_18 : decode cX8_isFrame 18 = .ok (.invokevirtual 170, 3) := by decide +kernel
theorem dX8_isFrame_21 : decode cX8_isFrame 21 = .ok (.lstore_n 1, 1) := by decide +kernel
theorem dX8_isFrame_22 : decode cX8_isFrame 22 = .ok (.lload_n 1, 1) := by decide +kernel
theorem dX8_isFrame_23 : decode cX8_isFrame 23 = .ok (.ldc2_w 174, 3) := by decide +kernel
theorem dX8_isFrame_26 : decode cX8_isFrame 26 = .ok (.lcmp, 1) := by decide +kernel
theorem dX8_isFrame_27 : decode cX8_isFrame 27 = .ok (.ifCond .lt 16, 3) := by decide +kernel
theorem dX8_isFrame_30 : decode cX8_isFrame 30 = .ok (.lload_n 1, 1) := by decide +kernel
theorem dX8_isFrame_31 : decode cX8_isFrame 31 = .ok (.ldc2_w 176, 3) := by decide +kernel
theorem dX8_isFrame_34 : decode cX8_isFrame 34 = .ok (.lcmp, 1) := by decide +kernel
theorem dX8_isFrame_35 : decode cX8_isFrame 35 = .ok (.ifCond .gt 8, 3) := by decide +kernel
theorem dX8_isFrame_38 : decode cX8_isFrame 38 = .ok (.aload_n 0, 1) := by decide +kernel
theorem dX8_isFrame_39 : decode cX8_isFrame 39 = .ok (.invokevirtual 178, 3) := by decide +kernel
theorem dX8_isFrame_42 : decode cX8_isFrame 42 = .ok (.ireturn, 1) := by decide +kernel
theorem dX8_isFrame_43 : decode cX8_isFrame 43 = .ok (.lload_n 1, 1) := by decide +kernel
theorem dX8_isFrame_44 : decode cX8_isFrame 44 = .ok (.ldc2_w 139, 3) := by decide +kernel
theorem dX8_isFrame_47 : decode cX8_isFrame 47 = .ok (.lcmp, 1) := by decide +kernel
theorem dX8_isFrame_48 : decode cX8_isFrame 48 = .ok (.ifCond .eq 13, 3) := by decide +kernel
theorem dX8_isFrame_51 : decode cX8_isFrame 51 = .ok (.aload_n 0, 1) := by decide +kernel
theorem dX8_isFrame_52 : decode cX8_isFrame 52 = .ok (.iconst 2, 1) := by decide +kernel
theorem dX8_isFrame_53 : decode cX8_isFrame 53 = .ok (.aload_n 0, 1) := by decide +kernel
theorem dX8_isFrame_54 : decode cX8_isFrame 54 = .ok (.getfield 155, 3) := by decide +kernel
theorem dX8_isFrame_57 : decode cX8_isFrame 57 = .ok (.invokevirtual 158, 3) := by decide +kernel
theorem dX8_isFrame_60 : decode cX8_isFrame 60 = .ok (.ireturn, 1) := by decide +kernel
theorem dX8_isFrame_61 : decode cX8_isFrame 61 = .ok (.aload_n 0, 1) := by decide +kernel
theorem dX8_isFrame_62 : decode cX8_isFrame 62 = .ok (.dup, 1) := by decide +kernel
theorem dX8_isFrame_63 : decode cX8_isFrame 63 = .ok (.getfield 155, 3) := by decide +kernel
theorem dX8_isFrame_66 : decode cX8_isFrame 66 = .ok (.iconst 4, 1) := by decide +kernel
theorem dX8_isFrame_67 : decode cX8_isFrame 67 = .ok (.iadd, 1) := by decide +kernel
theorem dX8_isFrame_68 : decode cX8_isFrame 68 = .ok (.putfield 155, 3) := by decide +kernel
theorem dX8_isFrame_71 : decode cX8_isFrame 71 = .ok (.aload_n 0, 1) := by decide +kernel
theorem dX8_isFrame_72 : decode cX8_isFrame 72 = .ok (.invokevirtual 182, 3) := by decide +kernel
theorem dX8_isFrame_75 : decode cX8_isFrame 75 = .ok (.ifCond .eq 21, 3) := by decide +kernel
theorem dX8_isFrame_78 : decode cX8_isFrame 78 = .ok (.aload_n 0, 1) := by decide +kernel
theorem dX8_isFrame_79 : decode cX8_isFrame 79 = .ok (.invokevirtual 185, 3) := by decide +kernel
theorem dX8_isFrame_82 : decode cX8_isFrame 82 = .ok (.ifCond .eq 14, 3) := by decide +kernel
theorem dX8_isFrame_85 : decode cX8_isFrame 85 = .ok (.aload_n 0, 1) := by decide +kernel
theorem dX8_isFrame_86 : decode cX8_isFrame 86 = .ok (.invokevirtual 188, 3) := by decide +kernel
theorem dX8_isFrame_89 : decode cX8_isFrame 89 = .ok (.ifCond .eq 7, 3) := by decide +kernel
theorem dX8_isFrame_92 : decode cX8_isFrame 92 = .ok (.iconst 1, 1) := by decide +kernel
theorem dX8_isFrame_93 : decode cX8_isFrame 93 = .ok (.goto 4, 3) := by decide +kernel
theorem dX8_isFrame_96 : decode cX8_isFrame 96 = .ok (.iconst 0, 1) := by decide +kernel
theorem dX8_isFrame_97 : decode cX8_isFrame 97 = .ok (.ireturn, 1) := by decide +kernel
set_option maxRecDepth 20000 in
theorem ggX8_isSkipped_X8_has : GoodIn wsX8_isSkipped wsX8_has := goodIn_r _ [8, 9, 1, 10, 11, 12, 7, 13, 14, 15, 22, 23, 24, 25, 26, 27, 28, 29, 30, 31, 32, 33, 34, 35, 36, 37, 38, 39, 40, 41, 42, 43, 44, 45, 46, 47, 48, 49, 50, 51, 52, 53, 54, 55, 56, 57, 58, 59, 60] (by decide +kernel) (by decide +kernel)
set_option maxRecDepth 20000 in
theorem gX8_isSkipped_X8_has : GoodIn wsX8_isSkipped (wsV RX8 166 RX8 yX8_has wsX8_has) := goodIn_app (goodIn_of _ (by decide +kernel)) ggX8_isSkipped_X8_has
set_option maxRecDepth 20000 in
theorem ggX8_isSkipped_X8_number : GoodIn wsX8_isSkipped wsX8_number := goodIn_r _ [19, 20, 21, 22, 23, 24, 25, 26, 27, 28, 29, 30, 31, 32, 33, 34, 35, 36, 37, 38, 39, 40, 41, 42, 43, 44, 45, 46, 47, 48, 49, 50, 51, 52, 53, 54, 55, 56, 57, 58, 59, 60] (by decide +kernel) (by decide +kernel)
set_option maxRecDepth 20000 in
theorem gX8_isSkipped_X8_number : GoodIn wsX8_isSkipped (wsV RX8 170 RX8 yX8_number wsX8_number) := goodIn_app (goodIn_of _ (by decide +kernel)) ggX8_isSkipped_X8_number
theorem dX8_isSkipped_0 : decode cX8_isSkipped 0 = .ok (.aload_n 0, 1) := by decide +kernel
theorem dX8_isSkipped_1 : decode cX8_isSkipped 1 = .ok (.dup, 1) := by decide +kernel
theorem dX8_isSkipped_2 : decode cX8_isSkipped 2 = .ok (.getfield 155, 3) := by decide +kernel
theorem dX8_isSkipped_5 : decode cX8_isSkipped 5 = .ok (.iconst 4, 1) := by decide +kernel
theorem dX8_isSkipped_6 : decode cX8_isSkipped 6 = .ok (.iadd, 1) := by decide +kernel
theorem dX8_isSkipped_7 : decode cX8_isSkipped 7 = .ok (.putfield 155, 3) := by decide +kernel
theorem dX8_isSkipped_10 : decode cX8_isSkipped 10 = .ok (.aload_n 0, 1) := by decide +kernel
theorem dX8_isSkipped_11 : decode cX8_isSkipped 11 = .ok (.ldc2_w 164, 3) := by decide +kernel
theorem dX8_isSkipped_14 : decode cX8_isSkipped 14 = .ok (.invokevirtual 166, 3) := by decide +kernel
theorem dX8_isSkipped_17 : decode cX8_isSkipped 17 = .ok (.ifCond .ne 5, 3) := by decide +kernel
theorem dX8_isSkipped_20 : decode cX8_isSkipped 20 = .ok (.iconst 0, 1) := by decide +kernel
theorem dX8_isSkipped_21 : decode cX8_isSkipped 21 = .ok (.ireturn, 1) := by decide +kernel
theorem dX8_isSkipped_22 : decode cX8_isSkipped 22 = .ok (.aload_n 0, 1) := by decide +kernel
theorem dX8_isSkipped_23 : decode cX8_isSkipped 23 = .ok (.aload_n 0, 1) := by decide +kernel
theorem dX8_isSkipped_24 : decode cX8_isSkipped 24 = .ok (.getfield 155, 3) := by decide +kernel
theorem dX8_isSkipped_27 : decode cX8_isSkipped 27 = .ok (.iconst 4, 1) := by decide +kernel
theorem dX8_isSkipped_28 : decode cX8_isSkipped 28 = .ok (.invokevirtual 170, 3) := by decide +kernel
theorem dX8_isSkipped_31 : decode cX8_isSkipped 31 = .ok (.lstore_n 1, 1) := by decide +kernel
theorem dX8_isSkipped_32 : decode cX8_isSkipped 32 = .ok (.aload_n 0, 1) := by decide +kernel
theorem dX8_isSkipped_33 : decode cX8_isSkipped 33 = .ok (.dup, 1) := by decide +kernel
theorem dX8_isSkipped_34 : decode cX8_isSkipped 34 = .ok (.getfield 155, 3) := by decide +kernel
theorem dX8_isSkipped_37 : decode cX8_isSkipped 37 = .ok (.iconst 4, 1) := by decide +kernel
theorem dX8_isSkipped_38 : decode cX8_isSkipped 38 = .ok (.iadd, 1) := by decide +kernel
theorem dX8_isSkipped_39 : decode cX8_isSkipped 39 = .ok (.putfield 155, 3) := by decide +kernel
theorem dX8_isSkipped_42 : decode cX8_isSkipped 42 = .ok (.aload_n 0, 1) := by decide +kernel
theorem dX8_isSkipped_43 : decode cX8_isSkipped 43 = .ok (.lload_n 1, 1) := by decide +kernel
theorem dX8_isSkipped_44 : decode cX8_isSkipped 44 = .ok (.invokevirtual 166, 3) := by decide +kernel
theorem dX8_isSkipped_47 : decode cX8_isSkipped 47 = .ok (.ifCond .ne 5, 3) := by decide +kernel
theorem dX8_isSkipped_50 : decode cX8_isSkipped 50 = .ok (.iconst 0, 1) := by decide +kernel
theorem dX8_isSkipped_51 : decode cX8_isSkipped 51 = .ok (.ireturn, 1) := by decide +kernel
theorem dX8_isSkipped_52 : decode cX8_isSkipped 52 = .ok (.aload_n 0, 1) := by decide +kernel
theorem dX8_isSkipped_53 : decode cX8_isSkipped 53 = .ok (.dup, 1) := by decide +kernel
theorem dX8_isSkipped_54 : decode cX8_isSkipped 54 = .ok (.getfield 155, 3) := by decide +kernel
theorem dX8_isSkipped_57 : decode cX8_isSkipped 57 = .ok (.lload_n 1, 1) := by decide +kernel
theorem dX8_isSkipped_58 : decode cX8_isSkipped 58 = .ok (.l2i, 1) := by decide +kernel
theorem dX8_isSkipped_59 : decode cX8_isSkipped 59 = .ok (.iadd, 1) := by decide +kernel
theorem dX8_isSkipped_60 : decode cX8_isSkipped 60 = .ok (.putfield 155, 3) := by decide +kernel
theorem dX8_isSkipped_63 : decode cX8_isSkipped 63 = .ok (.aload_n 0, 1) := by decide +kernel
theorem dX8_isSkipped_64 : decode cX8_isSkipped 64 = .ok (.dup, 1) := by decide +kernel
theorem dX8_isSkipped_65 : decode cX8_isSkipped 65 = .ok (.getfield 191, 3) := by decide +kernel
theorem dX8_isSkipped_68 : decode cX8_isSkipped 68 = .ok (.iconst 1, 1) := by decide +kernel
theorem dX8_isSkipped_69 : decode cX8_isSkipped 69 = .ok (.iadd, 1) := by decide +kernel
theorem dX8_isSkipped_70 : decode cX8_isSkipped 70 = .ok (.putfield 191, 3) := by decide +kernel
theorem dX8_isSkipped_73 : decode cX8_isSkipped 73 = .ok (.iconst 1, 1) := by decide +kernel
theorem dX8_isSkipped_74 : decode cX8_isSkipped 74 = .ok (.ireturn, 1) := by decide +kernel
set_option maxRecDepth 20000 in
theorem ggX8_isHead_X8_has : GoodIn wsX8_isHead wsX8_has := goodIn_r _ [13, 14, 1, 15, 16, 17, 12, 18, 19, 20, 43, 44, 45, 46, 47, 48, 49, 50, 51, 52, 53, 54, 55, 56, 57, 58, 59, 60, 61, 62, 63, 64, 65, 66, 67, 68, 69, 70, 71, 72, 73, 74, 75, 76, 77, 78, 79, 80, 81] (by decide +kernel) (by decide +kernel)
set_option maxRecDepth 20000 in
theorem gX8_isHead_X8_has : GoodIn wsX8_isHead (wsV RX8 166 RX8 yX8_has wsX8_has) := goodIn_app (goodIn_of _ (by decide +kernel)) ggX8_isHead_X8_has
set_option maxRecDepth 20000 in
theorem ggX8_isHead_X8_fails : GoodIn wsX8_isHead wsX8_fails := goodIn_r _ [18, 19, 20, 43, 44, 45, 46, 47, 48, 49, 50, 51, 52, 53, 54, 55, 56, 57, 58, 59, 60, 61, 62, 63, 64, 65, 66, 67, 68, 69, 70, 71, 72, 73, 74, 75, 76, 77, 78, 79, 80, 81] (by decide +kernel) (by decide +kernel)
set_option maxRecDepth 20000 in
theorem gX8_isHead_X8_fails : GoodIn wsX8_isHead (wsV RX8 158 RX8 yX8_fails wsX8_fails) := goodIn_app (goodIn_of _ (by decide +kernel)) ggX8_isHead_X8_fails
set_option maxRecDepth 20000 in
theorem ggX8_isHead_X8_number : GoodIn wsX8_isHead wsX8_number := goodIn_r _ [24, 2, 25, 43, 44, 45, 46, 47, 48, 49, 50, 51, 52, 53, 54, 55, 56, 57, 58, 59, 60, 61, 62, 63, 64, 65, 66, 67, 68, 69, 70, 71, 72, 73, 74, 75, 76, 77, 78, 79, 80, 81] (by decide +kernel) (by decide +kernel)
set_option maxRecDepth 20000 in
theorem gX8_isHead_X8_number : GoodIn wsX8_isHead (wsV RX8 170 RX8 yX8_number wsX8_number) := goodIn_app (goodIn_of _ (by decide +kernel)) ggX8_isHead_X8_number
set_option maxRecDepth 20000 in
theorem ggX8_isHead_X8_hashOf : GoodIn wsX8_isHead wsX8_hashOf := goodIn_r _ [28, 29, 30, 31, 32, 33, 34, 35, 12, 36, 37, 38, 39, 40, 41, 42] (by decide +kernel) (by decide +kernel)
set_option maxRecDepth 20000 in
theorem gX8_isHead_X8_hashOf : GoodIn wsX8_isHead (va_wsS RX8 135 yX8_hashOf wsX8_hashOf) := goodIn_app (goodIn_of _ (by decide +kernel)) ggX8_isHead_X8_hashOf
theorem dX8_isHead_0 : decode cX8_isHead 0 = .ok (.aload_n 0, 1) := by decide +kernel
theorem dX8_isHead_1 : decode cX8_isHead 1 = .ok (.getfield 155, 3) := by decide +kernel
theorem dX8_isHead_4 : decode cX8_isHead 4 = .ok (.istore_n 1, 1) := by decide +kernel
theorem dX8_isHead_5 : decode cX8_isHead 5 = .ok (.aload_n 0, 1) := by decide +kernel
theorem dX8_isHead_6 : decode cX8_isHead 6 = .ok (.lconst 1, 1) := by decide +kernel
theorem dX8_isHead_7 : decode cX8_isHead 7 = .ok (.invokevirtual 166, 3) := by decide +kernel
theorem dX8_isHead_10 : decode cX8_isHead 10 = .ok (.ifCond .ne 5, 3) := by decide +kernel
theorem dX8_isHead_13 : decode cX8_isHead 13 = .ok (.iconst 0, 1) := by decide +kernel
theorem dX8_isHead_14 : decode cX8_isHead 14 = .ok (.ireturn, 1) := by decide +kernel
theorem dX8_isHead_15 : decode cX8_isHead 15 = .ok (.aload_n 0, 1) := by decide +kernel
theorem dX8_isHead_16 : decode cX8_isHead 16 = .ok (.aload_n 0, 1) := by decide +kernel
theorem dX8_isHead_17 : decode cX8_isHead 17 = .ok (.getfield 15, 3) := by decide +kernel
theorem dX8_isHead_20 : decode cX8_isHead 20 = .ok (.aload_n 0, 1) := by decide +kernel
theorem dX8_isHead_21 : decode cX8_isHead 21 = .ok (.getfield 155, 3) := by decide +kernel
theorem dX8_isHead_24 : decode cX8_isHead 24 = .ok (.baload, 1) := by decide +kernel
theorem dX8_isHead_25 : decode cX8_isHead 25 = .ok (.sipush 255, 3) := by decide +kernel
theorem dX8_isHead_28 : decode cX8_isHead 28 = .ok (.iand, 1) := by decide +kernel
theorem dX8_isHead_29 : decode cX8_isHead 29 = .ok (.putfield 194, 3) := by decide +kernel
theorem dX8_isHead_32 : decode cX8_isHead 32 = .ok (.aload_n 0, 1) := by decide +kernel
theorem dX8_isHead_33 : decode cX8_isHead 33 = .ok (.getfield 194, 3) := by decide +kernel
theorem dX8_isHead_36 : decode cX8_isHead 36 = .ok (.bipush 6, 2) := by decide +kernel
theorem dX8_isHead_38 : decode cX8_isHead 38 = .ok (.ishr, 1) := by decide +kernel
theorem dX8_isHead_39 : decode cX8_isHead 39 = .ok (.iconst 1, 1) := by decide +kernel
theorem dX8_isHead_40 : decode cX8_isHead 40 = .ok (.if_icmp .ne 12, 3) := by decide +kernel
theorem dX8_isHead_43 : decode cX8_isHead 43 = .ok (.aload_n 0, 1) := by decide +kernel
theorem dX8_isHead_44 : decode cX8_isHead 44 = .ok (.getfield 194, 3) := by decide +kernel
theorem dX8_isHead_47 : decode cX8_isHead 47 = .ok (.iconst 3, 1) := by decide +kernel
theorem dX8_isHead_48 : decode cX8_isHead 48 = .ok (.iand, 1) := by decide +kernel
theorem dX8_isHead_49 : decode cX8_isHead 49 = .ok (.ifCond .eq 13, 3) := by decide +kernel
theorem dX8_isHead_52 : decode cX8_isHead 52 = .ok (.aload_n 0, 1) := by decide +kernel
theorem dX8_isHead_53 : decode cX8_isHead 53 = .ok (.iconst 3, 1) := by decide +kernel
theorem dX8_isHead_54 : decode cX8_isHead 54 = .ok (.aload_n 0, 1) := by decide +kernel
theorem dX8_isHead_55 : decode cX8_isHead 55 = .ok (.getfield 155, 3) := by decide +kernel
theorem dX8_isHead_58 : decode cX8_isHead 58 = .ok (.invokevirtual 158, 3) := by decide +kernel
theorem dX8_isHead_61 : decode cX8_isHead 61 = .ok (.ireturn, 1) := by decide +kernel
theorem dX8_isHead_62 : decode cX8_isHead 62 = .ok (.aload_n 0, 1) := by decide +kernel
theorem dX8_isHead_63 : decode cX8_isHead 63 = .ok (.dup, 1) := by decide +kernel
theorem dX8_isHead_64 : decode cX8_isHead 64 = .ok (.getfield 155, 3) := by decide +kernel
theorem dX8_isHead_67 : decode cX8_isHead 67 = .ok (.iconst 1, 1) := by decide +kernel
theorem dX8_isHead_68 : decode cX8_isHead 68 = .ok (.iadd, 1) := by decide +kernel
theorem dX8_isHead_69 : decode cX8_isHead 69 = .ok (.putfield 155, 3) := by decide +kernel
theorem dX8_isHead_72 : decode cX8_isHead 72 = .ok (.aload_n 0, 1) := by decide +kernel
theorem dX8_isHead_73 : decode cX8_isHead 73 = .ok (.lconst 1, 1) := by decide +kernel
theorem dX8_isHead_74 : decode cX8_isHead 74 = .ok (.invokevirtual 166, 3) := by decide +kernel
theorem dX8_isHead_77 : decode cX8_isHead 77 = .ok (.ifCond .ne 5, 3) := by decide +kernel
theorem dX8_isHead_80 : decode cX8_isHead 80 = .ok (.iconst 0, 1) := by decide +kernel
theorem dX8_isHead_81 : decode cX8_isHead 81 = .ok (.ireturn, 1) := by decide +kernel
theorem dX8_isHead_82 : decode cX8_isHead 82 = .ok (.aload_n 0, 1) := by decide +kernel
theorem dX8_isHead_83 : decode cX8_isHead 83 = .ok (.getfield 15, 3) := by decide +kernel
theorem dX8_isHead_86 : decode cX8_isHead 86 = .ok (.aload_n 0, 1) := by decide +kernel
theorem dX8_isHead_87 : decode cX8_isHead 87 = .ok (.getfield 155, 3) := by decide +kernel
theorem dX8_isHead_90 : decode cX8_isHead 90 = .ok (.baload, 1) := by decide +kernel
theorem dX8_isHead_91 : decode cX8_isHead 91 = .ok (.sipush 255, 3) := by decide +kernel
theorem dX8_isHead_94 : decode cX8_isHead 94 = .ok (.iand, 1) := by decide +kernel
theorem dX8_isHead_95 : decode cX8_isHead 95 = .ok (.istore_n 2, 1) := by decide +kernel
theorem dX8_isHead_96 : decode cX8_isHead 96 = .ok (.iload_n 2, 1) := by decide +kernel
theorem dX8_isHead_97 : decode cX8_isHead 97 = .ok (.sipush 143, 3) := by decide +kernel
theorem dX8_isHead_100 : decode cX8_isHead 100 = .ok (.iand, 1) := by decide +kernel
theorem dX8_isHead_101 : decode cX8_isHead 101 = .ok (.ifCond .ne 10, 3) := by decide +kernel
theorem dX8_isHead_104 : decode cX8_isHead 104 = .ok (.iload_n 2, 1) := by decide +kernel
theorem dX8_isHead_105 : decode cX8_isHead 105 = .ok (.iconst 4, 1) := by decide +kernel
theorem dX8_isHead_106 : decode cX8_isHead 106 = .ok (.ishr, 1) := by decide +kernel
theorem dX8_isHead_107 : decode cX8_isHead 107 = .ok (.iconst 4, 1) := by decide +kernel
theorem dX8_isHead_108 : decode cX8_isHead 108 = .ok (.if_icmp .ge 13, 3) := by decide +kernel
theorem dX8_isHead_111 : decode cX8_isHead 111 = .ok (.aload_n 0, 1) := by decide +kernel
theorem dX8_isHead_112 : decode cX8_isHead 112 = .ok (.iconst 3, 1) := by decide +kernel
theorem dX8_isHead_113 : decode cX8_isHead 113 = .ok (.aload_n 0, 1) := by decide +kernel
theorem dX8_isHead_114 : decode cX8_isHead 114 = .ok (.getfield 155, 3) := by decide +kernel
theorem dX8_isHead_117 : decode cX8_isHead 117 = .ok (.invokevirtual 158, 3) := by decide +kernel
theorem dX8_isHead_120 : decode cX8_isHead 120 = .ok (.ireturn, 1) := by decide +kernel
theorem dX8_isHead_121 : decode cX8_isHead 121 = .ok (.aload_n 0, 1) := by decide +kernel
theorem dX8_isHead_122 : decode cX8_isHead 122 = .ok (.iconst 1, 1) := by decide +kernel
theorem dX8_isHead_123 : decode cX8_isHead 123 = .ok (.bipush 8, 2) := by decide +kernel
theorem dX8_isHead_125 : decode cX8_isHead 125 = .ok (.iconst 2, 1) := by decide +kernel
theorem dX8_isHead_126 : decode cX8_isHead 126 = .ok (.iload_n 2, 1) := by decide +kernel
theorem dX8_isHead_127 : decode cX8_isHead 127 = .ok (.iconst 4, 1) := by decide +kernel
theorem dX8_isHead_128 : decode cX8_isHead 128 = .ok (.ishr, 1) := by decide +kernel
theorem dX8_isHead_129 : decode cX8_isHead 129 = .ok (.imul, 1) := by decide +kernel
theorem dX8_isHead_130 : decode cX8_isHead 130 = .ok (.iadd, 1) := by decide +kernel
theorem dX8_isHead_131 : decode cX8_isHead 131 = .ok (.ishl, 1) := by decide +kernel
theorem dX8_isHead_132 : decode cX8_isHead 132 = .ok (.putfield 197, 3) := by decide +kernel
theorem dX8_isHead_135 : decode cX8_isHead 135 = .ok (.aload_n 0, 1) := by decide +kernel
theorem dX8_isHead_136 : decode cX8_isHead 136 = .ok (.dup, 1) := by decide +kernel
theorem dX8_isHead_137 : decode cX8_isHead 137 = .ok (.getfield 155, 3) := by decide +kernel
theorem dX8_isHead_140 : decode cX8_isHead 140 = .ok (.iconst 1, 1) := by decide +kernel
theorem dX8_isHead_141 : decode cX8_isHead 141 = .ok (.iadd, 1) := by decide +kernel
theorem dX8_isHead_142 : decode cX8_isHead 142 = .ok (.putfield 155, 3) := by decide +kernel
theorem dX8_isHead_145 : decode cX8_isHead 145 = .ok (.aload_n 0, 1) := by decide +kernel
theorem dX8_isHead_146 : decode cX8_isHead 146 = .ok (.getfield 194, 3) := by decide +kernel
theorem dX8_isHead_149 : decode cX8_isHead 149 = .ok (.bipush 8, 2) := by decide +kernel
theorem dX8_isHead_151 : decode cX8_isHead 151 = .ok (.iand, 1) := by decide +kernel
theorem dX8_isHead_152 : decode cX8_isHead 152 = .ok (.ifCond .eq 40, 3) := by decide +kernel
theorem dX8_isHead_155 : decode cX8_isHead 155 = .ok (.aload_n 0, 1) := by decide +kernel
theorem dX8_isHead_156 : decode cX8_isHead 156 = .ok (.ldc2_w 200, 3) := by decide +kernel
theorem dX8_isHead_159 : decode cX8_isHead 159 = .ok (.invokevirtual 166, 3) := by decide +kernel
theorem dX8_isHead_162 : decode cX8_isHead 162 = .ok (.ifCond .ne 5, 3) := by decide +kernel
theorem dX8_isHead_165 : decode cX8_isHead 165 = .ok (.iconst 0, 1) := by decide +kernel
theorem dX8_isHead_166 : decode cX8_isHead 166 = .ok (.ireturn, 1) := by decide +kernel
theorem dX8_isHead_167 : decode cX8_isHead 167 = .ok (.aload_n 0, 1) := by decide +kernel
theorem dX8_isHead_168 : decode cX8_isHead 168 = .ok (.aload_n 0, 1) := by decide +kernel
theorem dX8_isHead_169 : decode cX8_isHead 169 = .ok (.aload_n 0, 1) := by decide +kernel
theorem dX8_isHead_170 : decode cX8_isHead 170 = .ok (.getfield 155, 3) := by decide +kernel
theorem dX8_isHead_173 : decode cX8_isHead 173 = .ok (.bipush 8, 2) := by decide +kernel
theorem dX8_isHead_175 : decode cX8_isHead 175 = .ok (.invokevirtual 170, 3) := by decide +kernel
theorem dX8_isHead_178 : decode cX8_isHead 178 = .ok (.putfield 202, 3) := by decide +kernel
theorem dX8_isHead_181 : decode cX8_isHead 181 = .ok (.aload_n 0, 1) := by decide +kernel
theorem dX8_isHead_182 : decode cX8_isHead 182 = .ok (.dup, 1) := by decide +kernel
theorem dX8_isHead_183 : decode cX8_isHead 183 = .ok (.getfield 155, 3) := by decide +kernel
theorem dX8_isHead_186 : decode cX8_isHead 186 = .ok (.bipush 8, 2) := by decide +kernel
theorem dX8_isHead_188 : decode cX8_isHead 188 = .ok (.iadd, 1) := by decide +kernel
theorem dX8_isHead_189 : decode cX8_isHead 189 = .ok (.putfield 155, 3) := by decide +kernel
theorem dX8_isHead_192 : decode cX8_isHead 192 = .ok (.aload_n 0, 1) := by decide +kernel
theorem dX8_isHead_193 : decode cX8_isHead 193 = .ok (.lconst 1, 1) := by decide +kernel
theorem dX8_isHead_194 : decode cX8_isHead 194 = .ok (.invokevirtual 166, 3) := by decide +kernel
theorem dX8_isHead_197 : decode cX8_isHead 197 = .ok (.ifCond .ne 5, 3) := by decide +kernel
theorem dX8_isHead_200 : decode cX8_isHead 200 = .ok (.iconst 0, 1) := by decide +kernel
theorem dX8_isHead_201 : decode cX8_isHead 201 = .ok (.ireturn, 1) := by decide +kernel
theorem dX8_isHead_202 : decode cX8_isHead 202 = .ok (.aload_n 0, 1) := by decide +kernel
theorem dX8_isHead_203 : decode cX8_isHead 203 = .ok (.getfield 15, 3) := by decide +kernel
theorem dX8_isHead_206 : decode cX8_isHead 206 = .ok (.aload_n 0, 1) := by decide +kernel
theorem dX8_isHead_207 : decode cX8_isHead 207 = .ok (.getfield 155, 3) := by decide +kernel
theorem dX8_isHead_210 : decode cX8_isHead 210 = .ok (.baload, 1) := by decide +kernel
theorem dX8_isHead_211 : decode cX8_isHead 211 = .ok (.sipush 255, 3) := by decide +kernel
theorem dX8_isHead_214 : decode cX8_isHead 214 = .ok (.iand, 1) := by decide +kernel
theorem dX8_isHead_215 : decode cX8_isHead 215 = .ok (.aload_n 0, 1) := by decide +kernel
theorem dX8_isHead_216 : decode cX8_isHead 216 = .ok (.getfield 15, 3) := by decide +kernel
theorem dX8_isHead_219 : decode cX8_isHead 219 = .ok (.iload_n 1, 1) := by decide +kernel
theorem dX8_isHead_220 : decode cX8_isHead 220 = .ok (.aload_n 0, 1) := by decide +kernel
theorem dX8_isHead_221 : decode cX8_isHead 221 = .ok (.getfield 155, 3) := by decide +kernel
theorem dX8_isHead_224 : decode cX8_isHead 224 = .ok (.iload_n 1, 1) := by decide +kernel
theorem dX8_isHead_225 : decode cX8_isHead 225 = .ok (.isub, 1) := by decide +kernel
theorem dX8_isHead_226 : decode cX8_isHead 226 = .ok (.iconst 0, 1) := by decide +kernel
theorem dX8_isHead_227 : decode cX8_isHead 227 = .ok (.invokestatic 135, 3) := by decide +kernel
theorem dX8_isHead_230 : decode cX8_isHead 230 = .ok (.bipush 8, 2) := by decide +kernel
theorem dX8_isHead_232 : decode cX8_isHead 232 = .ok (.ishr, 1) := by decide +kernel
theorem dX8_isHead_233 : decode cX8_isHead 233 = .ok (.sipush 255, 3) := by decide +kernel
theorem dX8_isHead_236 : decode cX8_isHead 236 = .ok (.iand, 1) := by decide +kernel
theorem dX8_isHead_237 : decode cX8_isHead 237 = .ok (.if_icmp .eq 13, 3) := by decide +kernel
theorem dX8_isHead_240 : decode cX8_isHead 240 = .ok (.aload_n 0, 1) := by decide +kernel
theorem dX8_isHead_241 : decode cX8_isHead 241 = .ok (.iconst 4, 1) := by decide +kernel
theorem dX8_isHead_242 : decode cX8_isHead 242 = .ok (.aload_n 0, 1) := by decide +kernel
theorem dX8_isHead_243 : decode cX8_isHead 243 = .ok (.getfield 155, 3) := by decide +kernel
theorem dX8_isHead_246 : decode cX8_isHead 246 = .ok (.invokevirtual 158, 3) := by decide +kernel
theorem dX8_isHead_249 : decode cX8_isHead 249 = .ok (.ireturn, 1) := by decide +kernel
theorem dX8_isHead_250 : decode cX8_isHead 250 = .ok (.aload_n 0, 1) := by decide +kernel
theorem dX8_isHead_251 : decode cX8_isHead 251 = .ok (.dup, 1) := by decide +kernel
theorem dX8_isHead_252 : decode cX8_isHead 252 = .ok (.getfield 155, 3) := by decide +kernel
theorem dX8_isHead_255 : decode cX8_isHead 255 = .ok (.iconst 1, 1) := by decide +kernel
theorem dX8_isHead_256 : decode cX8_isHead 256 = .ok (.iadd, 1) := by decide +kernel
theorem dX8_isHead_257 : decode cX8_isHead 257 = .ok (.putfield 155, 3) := by decide +kernel
theorem dX8_isHead_260 : decode cX8_isHead 260 = .ok (.aload_n 0, 1) := by decide +kernel
theorem dX8_isHead_261 : decode cX8_isHead 261 = .ok (.aload_n 0, 1) := by decide +kernel
theorem dX8_isHead_262 : decode cX8_isHead 262 = .ok (.getfield 205, 3) := by decide +kernel
theorem dX8_isHead_265 : decode cX8_isHead 265 = .ok (.putfield 208, 3) := by decide +kernel
theorem dX8_isHead_268 : decode cX8_isHead 268 = .ok (.iconst 1, 1) := by decide +kernel
theorem dX8_isHead_269 : decode cX8_isHead 269 = .ok (.ireturn, 1) := by decide +kernel
set_option maxRecDepth 20000 in
theorem ggX8_areBlocks_X8_has : GoodIn wsX8_areBlocks wsX8_has := goodIn_r _ [9, 10, 2, 11, 12, 13, 8, 14, 15, 16, 85, 86, 87, 88, 89, 90, 91, 92, 93, 94, 95, 96, 97, 98, 99, 100, 101, 102, 103, 104, 105, 106, 107, 108, 109, 110, 111, 112, 113, 114, 115, 116, 117, 118, 119, 120, 121, 122, 123] (by decide +kernel) (by decide +kernel)
set_option maxRecDepth 20000 in
theorem gX8_areBlocks_X8_has : GoodIn wsX8_areBlocks (wsV RX8 166 RX8 yX8_has wsX8_has) := goodIn_app (goodIn_of _ (by decide +kernel)) ggX8_areBlocks_X8_has
set_option maxRecDepth 20000 in
theorem ggX8_areBlocks_X8_number : GoodIn wsX8_areBlocks wsX8_number := goodIn_r _ [20, 21, 22, 85, 86, 87, 88, 89, 90, 91, 92, 93, 94, 95, 96, 97, 98, 99, 100, 101, 102, 103, 104, 105, 106, 107, 108, 109, 110, 111, 112, 113, 114, 115, 116, 117, 118, 119, 120, 121, 122, 123] (by decide +kernel) (by decide +kernel)
set_option maxRecDepth 20000 in
theorem gX8_areBlocks_X8_number : GoodIn wsX8_areBlocks (wsV RX8 170 RX8 yX8_number wsX8_number) := goodIn_app (goodIn_of _ (by decide +kernel)) ggX8_areBlocks_X8_number
set_option maxRecDepth 20000 in
theorem ggX8_areBlocks_X8_isBlock : GoodIn wsX8_areBlocks wsX8_isBlock := goodIn_r _ [26, 27, 3, 2, 28, 29, 1, 21, 30, 31, 32, 11, 12, 13, 8, 14, 15, 16, 5, 6, 7, 9, 10, 17, 18, 19, 20, 22, 33, 34, 35, 36, 37, 38, 39, 40, 41, 42, 43, 44, 45, 46, 47, 48, 49, 50, 51, 52, 53, 54, 55, 56, 57, 58, 59, 60, 61, 62, 63, 64, 65, 66, 67, 68, 69, 70, 71, 72, 73, 74, 75, 76, 77, 78, 79, 80, 81, 82, 83, 84, 85, 86, 87, 88, 89, 90, 91, 92, 93, 94, 95, 96, 97, 98, 99, 100, 101, 102, 103, 104, 105, 106, 107, 108, 109, 110, 111, 112, 113, 114, 115, 116, 117, 118, 119, 120, 121, 122, 123] (by decide +kernel) (by decide +kernel)
set_option maxRecDepth 20000 in
theorem gX8_areBlocks_X8_isBlock : GoodIn wsX8_areBlocks (wsV RX8 216 RX8 yX8_isBlock wsX8_isBlock) := goodIn_app (goodIn_of _ (by decide +kernel)) ggX8_areBlocks_X8_isBlock
theorem dX8_areBlocks_0 : decode cX8_areBlocks 0 = .ok (.iconst 1, 1) := by decide +kernel
theorem dX8_areBlocks_1 : decode cX8_areBlocks 1 = .ok (.istore_n 1, 1) := by decide +kernel
theorem dX8_areBlocks_2 : decode cX8_areBlocks 2 = .ok (.iload_n 1, 1) := by decide +kernel
theorem dX8_areBlocks_3 : decode cX8_areBlocks 3 = .ok (.ifCond .eq 90, 3) := by decide +kernel
theorem dX8_areBlocks_6 : decode cX8_areBlocks 6 = .ok (.aload_n 0, 1) := by decide +kernel
theorem dX8_areBlocks_7 : decode cX8_areBlocks 7 = .ok (.ldc2_w 164, 3) := by decide +kernel
theorem dX8_areBlocks_10 : decode cX8_areBlocks 10 = .ok (.invokevirtual 166, 3) := by decide +kernel
theorem dX8_areBlocks_13 : decode cX8_areBlocks 13 = .ok (.ifCond .ne 5, 3) := by decide +kernel
theorem dX8_areBlocks_16 : decode cX8_areBlocks 16 = .ok (.iconst 0, 1) := by decide +kernel
theorem dX8_areBlocks_17 : decode cX8_areBlocks 17 = .ok (.ireturn, 1) := by decide +kernel
theorem dX8_areBlocks_18 : decode cX8_areBlocks 18 = .ok (.aload_n 0, 1) := by decide +kernel
theorem dX8_areBlocks_19 : decode cX8_areBlocks 19 = .ok (.aload_n 0, 1) := by decide +kernel
theorem dX8_areBlocks_20 : decode cX8_areBlocks 20 = .ok (.getfield 155, 3) := by decide +kernel
theorem dX8_areBlocks_23 : decode cX8_areBlocks 23 = .ok (.putfield 211, 3) := by decide +kernel
theorem dX8_areBlocks_26 : decode cX8_areBlocks 26 = .ok (.aload_n 0, 1) := by decide +kernel
theorem dX8_areBlocks_27 : decode cX8_areBlocks 27 = .ok (.aload_n 0, 1) := by decide +kernel
theorem dX8_areBlocks_28 : decode cX8_areBlocks 28 = .ok (.getfield 155, 3) := by decide +kernel
theorem dX8_areBlocks_31 : decode cX8_areBlocks 31 = .ok (.iconst 4, 1) := by decide +kernel
theorem dX8_areBlocks_32 : decode cX8_areBlocks 32 = .ok (.invokevirtual 170, 3) := by decide +kernel
theorem dX8_areBlocks_35 : decode cX8_areBlocks 35 = .ok (.lstore_n 2, 1) := by decide +kernel
theorem dX8_areBlocks_36 : decode cX8_areBlocks 36 = .ok (.lload_n 2, 1) := by decide +kernel
theorem dX8_areBlocks_37 : decode cX8_areBlocks 37 = .ok (.lconst 0, 1) := by decide +kernel
theorem dX8_areBlocks_38 : decode cX8_areBlocks 38 = .ok (.lcmp, 1) := by decide +kernel
theorem dX8_areBlocks_39 : decode cX8_areBlocks 39 = .ok (.ifCond .eq 7, 3) := by decide +kernel
theorem dX8_areBlocks_42 : decode cX8_areBlocks 42 = .ok (.iconst 1, 1) := by decide +kernel
theorem dX8_areBlocks_43 : decode cX8_areBlocks 43 = .ok (.goto 4, 3) := by decide +kernel
theorem dX8_areBlocks_46 : decode cX8_areBlocks 46 = .ok (.iconst 0, 1) := by decide +kernel
theorem dX8_areBlocks_47 : decode cX8_areBlocks 47 = .ok (.istore_n 1, 1) := by decide +kernel
theorem dX8_areBlocks_48 : decode cX8_areBlocks 48 = .ok (.aload_n 0, 1) := by decide +kernel
theorem dX8_areBlocks_49 : decode cX8_areBlocks 49 = .ok (.dup, 1) := by decide +kernel
theorem dX8_areBlocks_50 : decode cX8_areBlocks 50 = .ok (.getfield 155, 3) := by decide +kernel
theorem dX8_areBlocks_53 : decode cX8_areBlocks 53 = .ok (.iconst 4, 1) := by decide +kernel
theorem dX8_areBlocks_54 : decode cX8_areBlocks 54 = .ok (.iadd, 1) := by decide +kernel
theorem dX8_areBlocks_55 : decode cX8_areBlocks 55 = .ok (.putfield 155, 3) := by decide +kernel
theorem dX8_areBlocks_58 : decode cX8_areBlocks 58 = .ok (.iload_n 1, 1) := by decide +kernel
theorem dX8_areBlocks_59 : decode cX8_areBlocks 59 = .ok (.ifCond .eq 31, 3) := by decide +kernel
theorem dX8_areBlocks_62 : decode cX8_areBlocks 62 = .ok (.aload_n 0, 1) := by decide +kernel
theorem dX8_areBlocks_63 : decode cX8_areBlocks 63 = .ok (.lload_n 2, 1) := by decide +kernel
theorem dX8_areBlocks_64 : decode cX8_areBlocks 64 = .ok (.bipush 31, 2) := by decide +kernel
theorem dX8_areBlocks_66 : decode cX8_areBlocks 66 = .ok (.lshr, 1) := by decide +kernel
theorem dX8_areBlocks_67 : decode cX8_areBlocks 67 = .ok (.lconst 1, 1) := by decide +kernel
theorem dX8_areBlocks_68 : decode cX8_areBlocks 68 = .ok (.lcmp, 1) := by decide +kernel
theorem dX8_areBlocks_69 : decode cX8_areBlocks 69 = .ok (.ifCond .ne 7, 3) := by decide +kernel
theorem dX8_areBlocks_72 : decode cX8_areBlocks 72 = .ok (.iconst 1, 1) := by decide +kernel
theorem dX8_areBlocks_73 : decode cX8_areBlocks 73 = .ok (.goto 4, 3) := by decide +kernel
theorem dX8_areBlocks_76 : decode cX8_areBlocks 76 = .ok (.iconst 0, 1) := by decide +kernel
theorem dX8_areBlocks_77 : decode cX8_areBlocks 77 = .ok (.lload_n 2, 1) := by decide +kernel
theorem dX8_areBlocks_78 : decode cX8_areBlocks 78 = .ok (.ldc2_w 214, 3) := by decide +kernel
theorem dX8_areBlocks_81 : decode cX8_areBlocks 81 = .ok (.land, 1) := by decide +kernel
theorem dX8_areBlocks_82 : decode cX8_areBlocks 82 = .ok (.invokevirtual 216, 3) := by decide +kernel
theorem dX8_areBlocks_85 : decode cX8_areBlocks 85 = .ok (.ifCond .ne 5, 3) := by decide +kernel
theorem dX8_areBlocks_88 : decode cX8_areBlocks 88 = .ok (.iconst 0, 1) := by decide +kernel
theorem dX8_areBlocks_89 : decode cX8_areBlocks 89 = .ok (.ireturn, 1) := by decide +kernel
theorem dX8_areBlocks_90 : decode cX8_areBlocks 90 = .ok (.goto (-88), 3) := by decide +kernel
theorem dX8_areBlocks_93 : decode cX8_areBlocks 93 = .ok (.iconst 1, 1) := by decide +kernel
theorem dX8_areBlocks_94 : decode cX8_areBlocks 94 = .ok (.ireturn, 1) := by decide +kernel
set_option maxRecDepth 20000 in
theorem ggX8_isBlock_X8_fails : GoodIn wsX8_isBlock wsX8_fails := goodIn_r _ [15, 16, 17, 80, 81, 82, 83, 84, 85, 86, 87, 88, 89, 90, 91, 92, 93, 94, 95, 96, 97, 98, 99, 100, 101, 102, 103, 104, 105, 106, 107, 108, 109, 110, 111, 112, 113, 114, 115, 116, 117, 118] (by decide +kernel) (by decide +kernel)
set_option maxRecDepth 20000 in
theorem gX8_isBlock_X8_fails : GoodIn wsX8_isBlock (wsV RX8 158 RX8 yX8_fails wsX8_fails) := goodIn_app (goodIn_of _ (by decide +kernel)) ggX8_isBlock_X8_fails
set_option maxRecDepth 20000 in
theorem ggX8_isBlock_X8_has : GoodIn wsX8_isBlock wsX8_has := goodIn_r _ [21, 22, 3, 11, 12, 13, 14, 15, 16, 17, 80, 81, 82, 83, 84, 85, 86, 87, 88, 89, 90, 91, 92, 93, 94, 95, 96, 97, 98, 99, 100, 101, 102, 103, 104, 105, 106, 107, 108, 109, 110, 111, 112, 113, 114, 115, 116, 117, 118] (by decide +kernel) (by decide +kernel)
set_option maxRecDepth 20000 in
theorem gX8_isBlock_X8_has : GoodIn wsX8_isBlock (wsV RX8 166 RX8 yX8_has wsX8_has) := goodIn_app (goodIn_of _ (by decide +kernel)) ggX8_isBlock_X8_has
set_option maxRecDepth 20000 in
theorem ggX8_isBlock_X8_number : GoodIn wsX8_isBlock wsX8_number := goodIn_r _ [26, 7, 27, 80, 81, 82, 83, 84, 85, 86, 87, 88, 89, 90, 91, 92, 93, 94, 95, 96, 97, 98, 99, 100, 101, 102, 103, 104, 105, 106, 107, 108, 109, 110, 111, 112, 113, 114, 115, 116, 117, 118] (by decide +kernel) (by decide +kernel)
set_option maxRecDepth 20000 in
theorem gX8_isBlock_X8_number : GoodIn wsX8_isBlock (wsV RX8 170 RX8 yX8_number wsX8_number) := goodIn_app (goodIn_of _ (by decide +kernel)) ggX8_isBlock_X8_number
set_option maxRecDepth 20000 in
theorem ggX8_isBlock_X8_hashOf : GoodIn wsX8_isBlock wsX8_hashOf := goodIn_r _ [30, 31, 32, 33, 34, 35, 36, 37, 14, 38, 39, 40, 41, 42, 43, 44] (by decide +kernel) (by decide +kernel)
set_option maxRecDepth 20000 in
theorem gX8_isBlock_X8_hashOf : GoodIn wsX8_isBlock (va_wsS RX8 135 yX8_hashOf wsX8_hashOf) := goodIn_app (goodIn_of _ (by decide +kernel)) ggX8_isBlock_X8_hashOf
set_option maxRecDepth 20000 in
theorem ggX8_isBlock_X8_isRaw : GoodIn wsX8_isBlock wsX8_isRaw := goodIn_r _ [48, 8, 4, 3, 49, 2, 50, 7, 11, 12, 13, 14, 15, 16, 17, 80, 81, 82, 83, 84, 85, 86, 87, 88, 89, 90, 91, 92, 93, 94, 95, 96, 97, 98, 99, 100, 101, 102, 103, 104, 105, 106, 107, 108, 109, 110, 111, 112, 113, 114, 115, 116, 117, 118] (by decide +kernel) (by decide +kernel)
set_option maxRecDepth 20000 in
theorem gX8_isBlock_X8_isRaw : GoodIn wsX8_isBlock (wsV RX8 226 RX8 yX8_isRaw wsX8_isRaw) := goodIn_app (goodIn_of _ (by decide +kernel)) ggX8_isBlock_X8_isRaw
set_option maxRecDepth 20000 in
theorem ggX8_isBlock_X8_areSequences : GoodIn wsX8_isBlock wsX8_areSequences := goodIn_r _ [54, 55, 3, 4, 2, 7, 11, 12, 13, 14, 15, 16, 17, 56, 57, 58, 59, 60, 50, 8, 61, 62, 63, 64, 65, 66, 67, 68, 69, 9, 1, 70, 71, 72, 73, 74, 5, 75, 6, 23, 24, 25, 26, 27, 76, 77, 78, 79, 80, 81, 82, 83, 84, 85, 86, 87, 88, 89, 90, 91, 92, 93, 94, 95, 96, 97, 98, 99, 100, 101, 102, 103, 104, 105, 106, 107, 108, 109, 110, 111, 112, 113, 114, 115, 116, 117, 118] (by decide +kernel) (by decide +kernel)
set_option maxRecDepth 20000 in
theorem gX8_isBlock_X8_areSequences : GoodIn wsX8_isBlock (wsV RX8 229 RX8 yX8_areSequences wsX8_areSequences) := goodIn_app (goodIn_of _ (by decide +kernel)) ggX8_isBlock_X8_areSequences
theorem dX8_isBlock_0 : decode cX8_isBlock 0 = .ok (.lload_n 2, 1) := by decide +kernel
theorem dX8_isBlock_1 : decode cX8_isBlock 1 = .ok (.aload_n 0, 1) := by decide +kernel
theorem dX8_isBlock_2 : decode cX8_isBlock 2 = .ok (.getfield 197, 3) := by decide +kernel
theorem dX8_isBlock_5 : decode cX8_isBlock 5 = .ok (.i2l, 1) := by decide +kernel
theorem dX8_isBlock_6 : decode cX8_isBlock 6 = .ok (.lcmp, 1) := by decide +kernel
theorem dX8_isBlock_7 : decode cX8_isBlock 7 = .ok (.ifCond .le 13, 3) := by decide +kernel
theorem dX8_isBlock_10 : decode cX8_isBlock 10 = .ok (.aload_n 0, 1) := by decide +kernel
theorem dX8_isBlock_11 : decode cX8_isBlock 11 = .ok (.iconst 5, 1) := by decide +kernel
theorem dX8_isBlock_12 : decode cX8_isBlock 12 = .ok (.aload_n 0, 1) := by decide +kernel
theorem dX8_isBlock_13 : decode cX8_isBlock 13 = .ok (.getfield 211, 3) := by decide +kernel
theorem dX8_isBlock_16 : decode cX8_isBlock 16 = .ok (.invokevirtual 158, 3) := by decide +kernel
theorem dX8_isBlock_19 : decode cX8_isBlock 19 = .ok (.ireturn, 1) := by decide +kernel
theorem dX8_isBlock_20 : decode cX8_isBlock 20 = .ok (.aload_n 0, 1) := by decide +kernel
theorem dX8_isBlock_21 : decode cX8_isBlock 21 = .ok (.lload_n 2, 1) := by decide +kernel
theorem dX8_isBlock_22 : decode cX8_isBlock 22 = .ok (.invokevirtual 166, 3) := by decide +kernel
theorem dX8_isBlock_25 : decode cX8_isBlock 25 = .ok (.ifCond .ne 5, 3) := by decide +kernel
theorem dX8_isBlock_28 : decode cX8_isBlock 28 = .ok (.iconst 0, 1) := by decide +kernel
theorem dX8_isBlock_29 : decode cX8_isBlock 29 = .ok (.ireturn, 1) := by decide +kernel
theorem dX8_isBlock_30 : decode cX8_isBlock 30 = .ok (.aload_n 0, 1) := by decide +kernel
theorem dX8_isBlock_31 : decode cX8_isBlock 31 = .ok (.getfield 155, 3) := by decide +kernel
theorem dX8_isBlock_34 : decode cX8_isBlock 34 = .ok (.istore 4, 2) := by decide +kernel
theorem dX8_isBlock_36 : decode cX8_isBlock 36 = .ok (.aload_n 0, 1) := by decide +kernel
theorem dX8_isBlock_37 : decode cX8_isBlock 37 = .ok (.aload_n 0, 1) := by decide +kernel
theorem dX8_isBlock_38 : decode cX8_isBlock 38 = .ok (.getfield 155, 3) := by decide +kernel
theorem dX8_isBlock_41 : decode cX8_isBlock 41 = .ok (.lload_n 2, 1) := by decide +kernel
theorem dX8_isBlock_42 : decode cX8_isBlock 42 = .ok (.l2i, 1) := by decide +kernel
theorem dX8_isBlock_43 : decode cX8_isBlock 43 = .ok (.iadd, 1) := by decide +kernel
theorem dX8_isBlock_44 : decode cX8_isBlock 44 = .ok (.putfield 220, 3) := by decide +kernel
theorem dX8_isBlock_47 : decode cX8_isBlock 47 = .ok (.aload_n 0, 1) := by decide +kernel
theorem dX8_isBlock_48 : decode cX8_isBlock 48 = .ok (.aload_n 0, 1) := by decide +kernel
theorem dX8_isBlock_49 : decode cX8_isBlock 49 = .ok (.getfield 220, 3) := by decide +kernel
theorem dX8_isBlock_52 : decode cX8_isBlock 52 = .ok (.putfield 155, 3) := by decide +kernel
theorem dX8_isBlock_55 : decode cX8_isBlock 55 = .ok (.aload_n 0, 1) := by decide +kernel
theorem dX8_isBlock_56 : decode cX8_isBlock 56 = .ok (.getfield 194, 3) := by decide +kernel
theorem dX8_isBlock_59 : decode cX8_isBlock 59 = .ok (.bipush 16, 2) := by decide +kernel
theorem dX8_isBlock_61 : decode cX8_isBlock 61 = .ok (.iand, 1) := by decide +kernel
theorem dX8_isBlock_62 : decode cX8_isBlock 62 = .ok (.ifCond .eq 51, 3) := by decide +kernel
theorem dX8_isBlock_65 : decode cX8_isBlock 65 = .ok (.aload_n 0, 1) := by decide +kernel
theorem dX8_isBlock_66 : decode cX8_isBlock 66 = .ok (.ldc2_w 164, 3) := by decide +kernel
theorem dX8_isBlock_69 : decode cX8_isBlock 69 = .ok (.invokevirtual 166, 3) := by decide +kernel
theorem dX8_isBlock_72 : decode cX8_isBlock 72 = .ok (.ifCond .ne 5, 3) := by decide +kernel
theorem dX8_isBlock_75 : decode cX8_isBlock 75 = .ok (.iconst 0, 1) := by decide +kernel
theorem dX8_isBlock_76 : decode cX8_isBlock 76 = .ok (.ireturn, 1) := by decide +kernel
theorem dX8_isBlock_77 : decode cX8_isBlock 77 = .ok (.aload_n 0, 1) := by decide +kernel
theorem dX8_isBlock_78 : decode cX8_isBlock 78 = .ok (.aload_n 0, 1) := by decide +kernel
theorem dX8_isBlock_79 : decode cX8_isBlock 79 = .ok (.getfield 155, 3) := by decide +kernel
theorem dX8_isBlock_82 : decode cX8_isBlock 82 = .ok (.iconst 4, 1) := by decide +kernel
theorem dX8_isBlock_83 : decode cX8_isBlock 83 = .ok (.invokevirtual 170, 3) := by decide +kernel
theorem dX8_isBlock_86 : decode cX8_isBlock 86 = .ok (.l2i, 1) := by decide +kernel
theorem dX8_isBlock_87 : decode cX8_isBlock 87 = .ok (.aload_n 0, 1) := by decide +kernel
theorem dX8_isBlock_88 : decode cX8_isBlock 88 = .ok (.getfield 15, 3) := by decide +kernel
theorem dX8_isBlock_91 : decode cX8_isBlock 91 = .ok (.iload 4, 2) := by decide +kernel
theorem dX8_isBlock_93 : decode cX8_isBlock 93 = .ok (.lload_n 2, 1) := by decide +kernel
theorem dX8_isBlock_94 : decode cX8_isBlock 94 = .ok (.l2i, 1) := by decide +kernel
theorem dX8_isBlock_95 : decode cX8_isBlock 95 = .ok (.iconst 0, 1) := by decide +kernel
theorem dX8_isBlock_96 : decode cX8_isBlock 96 = .ok (.invokestatic 135, 3) := by decide +kernel
theorem dX8_isBlock_99 : decode cX8_isBlock 99 = .ok (.if_icmp .eq 14, 3) := by decide +kernel
theorem dX8_isBlock_102 : decode cX8_isBlock 102 = .ok (.aload_n 0, 1) := by decide +kernel
theorem dX8_isBlock_103 : decode cX8_isBlock 103 = .ok (.bipush 6, 2) := by decide +kernel
theorem dX8_isBlock_105 : decode cX8_isBlock 105 = .ok (.aload_n 0, 1) := by decide +kernel
theorem dX8_isBlock_106 : decode cX8_isBlock 106 = .ok (.getfield 155, 3) := by decide +kernel
theorem dX8_isBlock_109 : decode cX8_isBlock 109 = .ok (.invokevirtual 158, 3) := by decide +kernel
theorem dX8_isBlock_112 : decode cX8_isBlock 112 = .ok (.ireturn, 1) := by decide +kernel
theorem dX8_isBlock_113 : decode cX8_isBlock 113 = .ok (.aload_n 0, 1) := by decide +kernel
theorem dX8_isBlock_114 : decode cX8_isBlock 114 = .ok (.getfield 194, 3) := by decide +kernel
theorem dX8_isBlock_117 : decode cX8_isBlock 117 = .ok (.bipush 16, 2) := by decide +kernel
theorem dX8_isBlock_119 : decode cX8_isBlock 119 = .ok (.iand, 1) := by decide +kernel
theorem dX8_isBlock_120 : decode cX8_isBlock 120 = .ok (.ifCond .eq 12, 3) := by decide +kernel
theorem dX8_isBlock_123 : decode cX8_isBlock 123 = .ok (.aload_n 0, 1) := by decide +kernel
theorem dX8_isBlock_124 : decode cX8_isBlock 124 = .ok (.getfield 220, 3) := by decide +kernel
theorem dX8_isBlock_127 : decode cX8_isBlock 127 = .ok (.iconst 4, 1) := by decide +kernel
theorem dX8_isBlock_128 : decode cX8_isBlock 128 = .ok (.iadd, 1) := by decide +kernel
theorem dX8_isBlock_129 : decode cX8_isBlock 129 = .ok (.goto 7, 3) := by decide +kernel
theorem dX8_isBlock_132 : decode cX8_isBlock 132 = .ok (.aload_n 0, 1) := by decide +kernel
theorem dX8_isBlock_133 : decode cX8_isBlock 133 = .ok (.getfield 220, 3) := by decide +kernel
theorem dX8_isBlock_136 : decode cX8_isBlock 136 = .ok (.istore 5, 2) := by decide +kernel
theorem dX8_isBlock_138 : decode cX8_isBlock 138 = .ok (.aload_n 0, 1) := by decide +kernel
theorem dX8_isBlock_139 : decode cX8_isBlock 139 = .ok (.aload_n 0, 1) := by decide +kernel
theorem dX8_isBlock_140 : decode cX8_isBlock 140 = .ok (.getfield 205, 3) := by decide +kernel
theorem dX8_isBlock_143 : decode cX8_isBlock 143 = .ok (.putfield 223, 3) := by decide +kernel
theorem dX8_isBlock_146 : decode cX8_isBlock 146 = .ok (.aload_n 0, 1) := by decide +kernel
theorem dX8_isBlock_147 : decode cX8_isBlock 147 = .ok (.iload 4, 2) := by decide +kernel
theorem dX8_isBlock_149 : decode cX8_isBlock 149 = .ok (.putfield 155, 3) := by decide +kernel
theorem dX8_isBlock_152 : decode cX8_isBlock 152 = .ok (.iload_n 1, 1) := by decide +kernel
theorem dX8_isBlock_153 : decode cX8_isBlock 153 = .ok (.ifCond .eq 10, 3) := by decide +kernel
theorem dX8_isBlock_156 : decode cX8_isBlock 156 = .ok (.aload_n 0, 1) := by decide +kernel
theorem dX8_isBlock_157 : decode cX8_isBlock 157 = .ok (.invokevirtual 226, 3) := by decide +kernel
theorem dX8_isBlock_160 : decode cX8_isBlock 160 = .ok (.goto 7, 3) := by decide +kernel
theorem dX8_isBlock_163 : decode cX8_isBlock 163 = .ok (.aload_n 0, 1) := by decide +kernel
theorem dX8_isBlock_164 : decode cX8_isBlock 164 = .ok (.invokevirtual 229, 3) := by decide +kernel
theorem dX8_isBlock_167 : decode cX8_isBlock 167 = .ok (.istore 6, 2) := by decide +kernel
theorem dX8_isBlock_169 : decode cX8_isBlock 169 = .ok (.aload_n 0, 1) := by decide +kernel
theorem dX8_isBlock_170 : decode cX8_isBlock 170 = .ok (.iload 5, 2) := by decide +kernel
theorem dX8_isBlock_172 : decode cX8_isBlock 172 = .ok (.putfield 155, 3) := by decide +kernel
theorem dX8_isBlock_175 : decode cX8_isBlock 175 = .ok (.aload_n 0, 1) := by decide +kernel
theorem dX8_isBlock_176 : decode cX8_isBlock 176 = .ok (.dup, 1) := by decide +kernel
theorem dX8_isBlock_177 : decode cX8_isBlock 177 = .ok (.getfield 232, 3) := by decide +kernel
theorem dX8_isBlock_180 : decode cX8_isBlock 180 = .ok (.iconst 1, 1) := by decide +kernel
theorem dX8_isBlock_181 : decode cX8_isBlock 181 = .ok (.iadd, 1) := by decide +kernel
theorem dX8_isBlock_182 : decode cX8_isBlock 182 = .ok (.putfield 232, 3) := by decide +kernel
theorem dX8_isBlock_185 : decode cX8_isBlock 185 = .ok (.iload 6, 2) := by decide +kernel
theorem dX8_isBlock_187 : decode cX8_isBlock 187 = .ok (.ireturn, 1) := by decide +kernel
set_option maxRecDepth 20000 in
theorem ggX8_isRaw_X8_fails : GoodIn wsX8_isRaw wsX8_fails := goodIn_r _ [12, 13, 14, 15, 16, 17, 18, 19, 20, 21, 22, 23, 24, 25, 26, 27, 28, 29, 30, 31, 32, 33, 34, 35, 36, 37, 38, 39, 40, 41, 42, 43, 44, 45, 46, 47, 48, 49, 50, 51, 52, 53] (by decide +kernel) (by decide +kernel)
set_option maxRecDepth 20000 in
theorem gX8_isRaw_X8_fails : GoodIn wsX8_isRaw (wsV RX8 158 RX8 yX8_fails wsX8_fails) := goodIn_app (goodIn_of _ (by decide +kernel)) ggX8_isRaw_X8_fails
theorem dX8_isRaw_0 : decode cX8_isRaw 0 = .ok (.aload_n 0, 1) := by decide +kernel
theorem dX8_isRaw_1 : decode cX8_isRaw 1 = .ok (.getfield 205, 3) := by decide +kernel
theorem dX8_isRaw_4 : decode cX8_isRaw 4 = .ok (.aload_n 0, 1) := by decide +kernel
theorem dX8_isRaw_5 : decode cX8_isRaw 5 = .ok (.getfield 220, 3) := by decide +kernel
theorem dX8_isRaw_8 : decode cX8_isRaw 8 = .ok (.iadd, 1) := by decide +kernel
theorem dX8_isRaw_9 : decode cX8_isRaw 9 = .ok (.aload_n 0, 1) := by decide +kernel
theorem dX8_isRaw_10 : decode cX8_isRaw 10 = .ok (.getfield 155, 3) := by decide +kernel
theorem dX8_isRaw_13 : decode cX8_isRaw 13 = .ok (.isub, 1) := by decide +kernel
theorem dX8_isRaw_14 : decode cX8_isRaw 14 = .ok (.ldc 9, 2) := by decide +kernel
theorem dX8_isRaw_16 : decode cX8_isRaw 16 = .ok (.if_icmp .le 14, 3) := by decide +kernel
theorem dX8_isRaw_19 : decode cX8_isRaw 19 = .ok (.aload_n 0, 1) := by decide +kernel
theorem dX8_isRaw_20 : decode cX8_isRaw 20 = .ok (.bipush 8, 2) := by decide +kernel
theorem dX8_isRaw_22 : decode cX8_isRaw 22 = .ok (.aload_n 0, 1) := by decide +kernel
theorem dX8_isRaw_23 : decode cX8_isRaw 23 = .ok (.getfield 211, 3) := by decide +kernel
theorem dX8_isRaw_26 : decode cX8_isRaw 26 = .ok (.invokevirtual 158, 3) := by decide +kernel
theorem dX8_isRaw_29 : decode cX8_isRaw 29 = .ok (.ireturn, 1) := by decide +kernel
theorem dX8_isRaw_30 : decode cX8_isRaw 30 = .ok (.aload_n 0, 1) := by decide +kernel
theorem dX8_isRaw_31 : decode cX8_isRaw 31 = .ok (.getfield 155, 3) := by decide +kernel
theorem dX8_isRaw_34 : decode cX8_isRaw 34 = .ok (.aload_n 0, 1) := by decide +kernel
theorem dX8_isRaw_35 : decode cX8_isRaw 35 = .ok (.getfield 220, 3) := by decide +kernel
theorem dX8_isRaw_38 : decode cX8_isRaw 38 = .ok (.if_icmp .ge 44, 3) := by decide +kernel
theorem dX8_isRaw_41 : decode cX8_isRaw 41 = .ok (.aload_n 0, 1) := by decide +kernel
theorem dX8_isRaw_42 : decode cX8_isRaw 42 = .ok (.getfield 47, 3) := by decide +kernel
theorem dX8_isRaw_45 : decode cX8_isRaw 45 = .ok (.aload_n 0, 1) := by decide +kernel
theorem dX8_isRaw_46 : decode cX8_isRaw 46 = .ok (.getfield 205, 3) := by decide +kernel
theorem dX8_isRaw_49 : decode cX8_isRaw 49 = .ok (.aload_n 0, 1) := by decide +kernel
theorem dX8_isRaw_50 : decode cX8_isRaw 50 = .ok (.getfield 15, 3) := by decide +kernel
theorem dX8_isRaw_53 : decode cX8_isRaw 53 = .ok (.aload_n 0, 1) := by decide +kernel
theorem dX8_isRaw_54 : decode cX8_isRaw 54 = .ok (.getfield 155, 3) := by decide +kernel
theorem dX8_isRaw_57 : decode cX8_isRaw 57 = .ok (.baload, 1) := by decide +kernel
theorem dX8_isRaw_58 : decode cX8_isRaw 58 = .ok (.bastore, 1) := by decide +kernel
theorem dX8_isRaw_59 : decode cX8_isRaw 59 = .ok (.aload_n 0, 1) := by decide +kernel
theorem dX8_isRaw_60 : decode cX8_isRaw 60 = .ok (.dup, 1) := by decide +kernel
theorem dX8_isRaw_61 : decode cX8_isRaw 61 = .ok (.getfield 205, 3) := by decide +kernel
theorem dX8_isRaw_64 : decode cX8_isRaw 64 = .ok (.iconst 1, 1) := by decide +kernel
theorem dX8_isRaw_65 : decode cX8_isRaw 65 = .ok (.iadd, 1) := by decide +kernel
theorem dX8_isRaw_66 : decode cX8_isRaw 66 = .ok (.putfield 205, 3) := by decide +kernel
theorem dX8_isRaw_69 : decode cX8_isRaw 69 = .ok (.aload_n 0, 1) := by decide +kernel
theorem dX8_isRaw_70 : decode cX8_isRaw 70 = .ok (.dup, 1) := by decide +kernel
theorem dX8_isRaw_71 : decode cX8_isRaw 71 = .ok (.getfield 155, 3) := by decide +kernel
theorem dX8_isRaw_74 : decode cX8_isRaw 74 = .ok (.iconst 1, 1) := by decide +kernel
theorem dX8_isRaw_75 : decode cX8_isRaw 75 = .ok (.iadd, 1) := by decide +kernel
theorem dX8_isRaw_76 : decode cX8_isRaw 76 = .ok (.putfield 155, 3) := by decide +kernel
theorem dX8_isRaw_79 : decode cX8_isRaw 79 = .ok (.goto (-49), 3) := by decide +kernel
theorem dX8_isRaw_82 : decode cX8_isRaw 82 = .ok (.iconst 1, 1) := by decide +kernel
theorem dX8_isRaw_83 : decode cX8_isRaw 83 = .ok (.ireturn, 1) := by decide +kernel
set_option maxRecDepth 20000 in
theorem ggX8_areSequences_X8_fails : GoodIn wsX8_areSequences wsX8_fails := goodIn_r _ [10, 11, 12, 48, 49, 50, 51, 52, 53, 54, 55, 56, 57, 58, 59, 60, 61, 62, 63, 64, 65, 66, 67, 68, 69, 70, 71, 72, 73, 74, 75, 76, 77, 78, 79, 80, 81, 82, 83, 84, 85, 86] (by decide +kernel) (by decide +kernel)
set_option maxRecDepth 20000 in
theorem gX8_areSequences_X8_fails : GoodIn wsX8_areSequences (wsV RX8 158 RX8 yX8_fails wsX8_fails) := goodIn_app (goodIn_of _ (by decide +kernel)) ggX8_areSequences_X8_fails
set_option maxRecDepth 20000 in
theorem ggX8_areSequences_X8_areLiterals : GoodIn wsX8_areSequences wsX8_areLiterals := goodIn_r _ [16, 3, 2, 17, 4, 18, 19, 5, 20, 21, 22, 23, 9, 24, 6, 7, 8, 10, 11, 12, 25, 26, 27, 28, 29, 30, 31, 48, 49, 50, 51, 52, 53, 54, 55, 56, 57, 58, 59, 60, 61, 62, 63, 64, 65, 66, 67, 68, 69, 70, 71, 72, 73, 74, 75, 76, 77, 78, 79, 80, 81, 82, 83, 84, 85, 86] (by decide +kernel) (by decide +kernel)
set_option maxRecDepth 20000 in
theorem gX8_areSequences_X8_areLiterals : GoodIn wsX8_areSequences (wsV RX8 238 RX8 yX8_areLiterals wsX8_areLiterals) := goodIn_app (goodIn_of _ (by decide +kernel)) ggX8_areSequences_X8_areLiterals
set_option maxRecDepth 20000 in
theorem ggX8_areSequences_X8_isMatch : GoodIn wsX8_areSequences wsX8_isMatch := goodIn_r _ [35, 3, 2, 4, 36, 29, 37, 19, 17, 38, 1, 18, 6, 7, 8, 9, 10, 11, 12, 39, 40, 41, 42, 5, 43, 21, 22, 23, 24, 25, 26, 27, 28, 30, 31, 48, 49, 50, 51, 52, 53, 54, 55, 56, 57, 58, 59, 60, 61, 62, 63, 64, 65, 66, 67, 68, 69, 70, 71, 72, 73, 74, 75, 76, 77, 78, 79, 80, 81, 82, 83, 84, 85, 86] (by decide +kernel) (by decide +kernel)
set_option maxRecDepth 20000 in
theorem gX8_areSequences_X8_isMatch : GoodIn wsX8_areSequences (wsV RX8 241 RX8 yX8_isMatch wsX8_isMatch) := goodIn_app (goodIn_of _ (by decide +kernel)) ggX8_areSequences_X8_isMatch
set_option maxRecDepth 20000 in
theorem ggX8_areSequences_X8_isLast : GoodIn wsX8_areSequences wsX8_isLast := goodIn_r _ [47, 1, 20, 19, 48, 49, 50, 51, 52, 53, 54, 55, 56, 57, 58, 59, 60, 61, 62, 63, 64, 65, 66, 67, 68, 69, 70, 71, 72, 73, 74, 75, 76, 77, 78, 79, 80, 81, 82, 83, 84, 85, 86] (by decide +kernel) (by decide +kernel)
set_option maxRecDepth 20000 in
theorem gX8_areSequences_X8_isLast : GoodIn wsX8_areSequences (wsV RX8 244 RX8 yX8_isLast wsX8_isLast) := goodIn_app (goodIn_of _ (by decide +kernel)) ggX8_areSequences_X8_isLast
theorem dX8_areSequences_0 : decode cX8_areSequences 0 = .ok (.aload_n 0, 1) := by decide +kernel
theorem dX8_areSequences_1 : decode cX8_areSequences 1 = .ok (.iconst (-1), 1) := by decide +kernel
theorem dX8_areSequences_2 : decode cX8_areSequences 2 = .ok (.putfield 235, 3) := by decide +kernel
theorem dX8_areSequences_5 : decode cX8_areSequences 5 = .ok (.iconst 1, 1) := by decide +kernel
theorem dX8_areSequences_6 : decode cX8_areSequences 6 = .ok (.istore_n 1, 1) := by decide +kernel
theorem dX8_areSequences_7 : decode cX8_areSequences 7 = .ok (.iload_n 1, 1) := by decide +kernel
theorem dX8_areSequences_8 : decode cX8_areSequences 8 = .ok (.ifCond .eq 128, 3) := by decide +kernel
theorem dX8_areSequences_11 : decode cX8_areSequences 11 = .ok (.aload_n 0, 1) := by decide +kernel
theorem dX8_areSequences_12 : decode cX8_areSequences 12 = .ok (.getfield 155, 3) := by decide +kernel
theorem dX8_areSequences_15 : decode cX8_areSequences 15 = .ok (.aload_n 0, 1) := by decide +kernel
theorem dX8_areSequences_16 : decode cX8_areSequences 16 = .ok (.getfield 220, 3) := by decide +kernel
theorem dX8_areSequences_19 : decode cX8_areSequences 19 = .ok (.if_icmp .lt 14, 3) := by decide +kernel
theorem dX8_areSequences_22 : decode cX8_areSequences 22 = .ok (.aload_n 0, 1) := by decide +kernel
theorem dX8_areSequences_23 : decode cX8_areSequences 23 = .ok (.bipush 9, 2) := by decide +kernel
theorem dX8_areSequences_25 : decode cX8_areSequences 25 = .ok (.aload_n 0, 1) := by decide +kernel
theorem dX8_areSequences_26 : decode cX8_areSequences 26 = .ok (.getfield 211, 3) := by decide +kernel
theorem dX8_areSequences_29 : decode cX8_areSequences 29 = .ok (.invokevirtual 158, 3) := by decide +kernel
theorem dX8_areSequences_32 : decode cX8_areSequences 32 = .ok (.ireturn, 1) := by decide +kernel
theorem dX8_areSequences_33 : decode cX8_areSequences 33 = .ok (.aload_n 0, 1) := by decide +kernel
theorem dX8_areSequences_34 : decode cX8_areSequences 34 = .ok (.getfield 155, 3) := by decide +kernel
theorem dX8_areSequences_37 : decode cX8_areSequences 37 = .ok (.istore_n 2, 1) := by decide +kernel
theorem dX8_areSequences_38 : decode cX8_areSequences 38 = .ok (.aload_n 0, 1) := by decide +kernel
theorem dX8_areSequences_39 : decode cX8_areSequences 39 = .ok (.getfield 15, 3) := by decide +kernel
theorem dX8_areSequences_42 : decode cX8_areSequences 42 = .ok (.aload_n 0, 1) := by decide +kernel
theorem dX8_areSequences_43 : decode cX8_areSequences 43 = .ok (.getfield 155, 3) := by decide +kernel
theorem dX8_areSequences_46 : decode cX8_areSequences 46 = .ok (.baload, 1) := by decide +kernel
theorem dX8_areSequences_47 : decode cX8_areSequences 47 = .ok (.sipush 255, 3) := by decide +kernel
theorem dX8_areSequences_50 : decode cX8_areSequences 50 = .ok (.iand, 1) := by decide +kernel
theorem dX8_areSequences_51 : decode cX8_areSequences 51 = .ok (.istore_n 3, 1) := by decide +kernel
theorem dX8_areSequences_52 : decode cX8_areSequences 52 = .ok (.aload_n 0, 1) := by decide +kernel
theorem dX8_areSequences_53 : decode cX8_areSequences 53 = .ok (.dup, 1) := by decide +kernel
theorem dX8_areSequences_54 : decode cX8_areSequences 54 = .ok (.getfield 155, 3) := by decide +kernel
theorem dX8_areSequences_57 : decode cX8_areSequences 57 = .ok (.iconst 1, 1) := by decide +kernel
theorem dX8_areSequences_58 : decode cX8_areSequences 58 = .ok (.iadd, 1) := by decide +kernel
theorem dX8_areSequences_59 : decode cX8_areSequences 59 = .ok (.putfield 155, 3) := by decide +kernel
theorem dX8_areSequences_62 : decode cX8_areSequences 62 = .ok (.aload_n 0, 1) := by decide +kernel
theorem dX8_areSequences_63 : decode cX8_areSequences 63 = .ok (.iload_n 2, 1) := by decide +kernel
theorem dX8_areSequences_64 : decode cX8_areSequences 64 = .ok (.iload_n 3, 1) := by decide +kernel
theorem dX8_areSequences_65 : decode cX8_areSequences 65 = .ok (.iconst 4, 1) := by decide +kernel
theorem dX8_areSequences_66 : decode cX8_areSequences 66 = .ok (.ishr, 1) := by decide +kernel
theorem dX8_areSequences_67 : decode cX8_areSequences 67 = .ok (.invokevirtual 238, 3) := by decide +kernel
theorem dX8_areSequences_70 : decode cX8_areSequences 70 = .ok (.ifCond .ne 5, 3) := by decide +kernel
theorem dX8_areSequences_73 : decode cX8_areSequences 73 = .ok (.iconst 0, 1) := by decide +kernel
theorem dX8_areSequences_74 : decode cX8_areSequences 74 = .ok (.ireturn, 1) := by decide +kernel
theorem dX8_areSequences_75 : decode cX8_areSequences 75 = .ok (.aload_n 0, 1) := by decide +kernel
theorem dX8_areSequences_76 : decode cX8_areSequences 76 = .ok (.getfield 155, 3) := by decide +kernel
theorem dX8_areSequences_79 : decode cX8_areSequences 79 = .ok (.aload_n 0, 1) := by decide +kernel
theorem dX8_areSequences_80 : decode cX8_areSequences 80 = .ok (.getfield 220, 3) := by decide +kernel
theorem dX8_areSequences_83 : decode cX8_areSequences 83 = .ok (.if_icmp .ge 7, 3) := by decide +kernel
theorem dX8_areSequences_86 : decode cX8_areSequences 86 = .ok (.iconst 1, 1) := by decide +kernel
theorem dX8_areSequences_87 : decode cX8_areSequences 87 = .ok (.goto 4, 3) := by decide +kernel
theorem dX8_areSequences_90 : decode cX8_areSequences 90 = .ok (.iconst 0, 1) := by decide +kernel
theorem dX8_areSequences_91 : decode cX8_areSequences 91 = .ok (.istore_n 1, 1) := by decide +kernel
theorem dX8_areSequences_92 : decode cX8_areSequences 92 = .ok (.iload_n 1, 1) := by decide +kernel
theorem dX8_areSequences_93 : decode cX8_areSequences 93 = .ok (.ifCond .eq 17, 3) := by decide +kernel
theorem dX8_areSequences_96 : decode cX8_areSequences 96 = .ok (.aload_n 0, 1) := by decide +kernel
theorem dX8_areSequences_97 : decode cX8_areSequences 97 = .ok (.iload_n 2, 1) := by decide +kernel
theorem dX8_areSequences_98 : decode cX8_areSequences 98 = .ok (.iload_n 3, 1) := by decide +kernel
theorem dX8_areSequences_99 : decode cX8_areSequences 99 = .ok (.bipush 15, 2) := by decide +kernel
theorem dX8_areSequences_101 : decode cX8_areSequences 101 = .ok (.iand, 1) := by decide +kernel
theorem dX8_areSequences_102 : decode cX8_areSequences 102 = .ok (.invokevirtual 241, 3) := by decide +kernel
theorem dX8_areSequences_105 : decode cX8_areSequences 105 = .ok (.ifCond .ne 5, 3) := by decide +kernel
theorem dX8_areSequences_108 : decode cX8_areSequences 108 = .ok (.iconst 0, 1) := by decide +kernel
theorem dX8_areSequences_109 : decode cX8_areSequences 109 = .ok (.ireturn, 1) := by decide +kernel
theorem dX8_areSequences_110 : decode cX8_areSequences 110 = .ok (.iload_n 1, 1) := by decide +kernel
theorem dX8_areSequences_111 : decode cX8_areSequences 111 = .ok (.ifCond .ne 22, 3) := by decide +kernel
theorem dX8_areSequences_114 : decode cX8_areSequences 114 = .ok (.aload_n 0, 1) := by decide +kernel
theorem dX8_areSequences_115 : decode cX8_areSequences 115 = .ok (.iload_n 3, 1) := by decide +kernel
theorem dX8_areSequences_116 : decode cX8_areSequences 116 = .ok (.invokevirtual 244, 3) := by decide +kernel
theorem dX8_areSequences_119 : decode cX8_areSequences 119 = .ok (.ifCond .ne 14, 3) := by decide +kernel
theorem dX8_areSequences_122 : decode cX8_areSequences 122 = .ok (.aload_n 0, 1) := by decide +kernel
theorem dX8_areSequences_123 : decode cX8_areSequences 123 = .ok (.bipush 9, 2) := by decide +kernel
theorem dX8_areSequences_125 : decode cX8_areSequences 125 = .ok (.aload_n 0, 1) := by decide +kernel
theorem dX8_areSequences_126 : decode cX8_areSequences 126 = .ok (.getfield 211, 3) := by decide +kernel
theorem dX8_areSequences_129 : decode cX8_areSequences 129 = .ok (.invokevirtual 158, 3) := by decide +kernel
theorem dX8_areSequences_132 : decode cX8_areSequences 132 = .ok (.ireturn, 1) := by decide +kernel
theorem dX8_areSequences_133 : decode cX8_areSequences 133 = .ok (.goto (-126), 3) := by decide +kernel
theorem dX8_areSequences_136 : decode cX8_areSequences 136 = .ok (.iconst 1, 1) := by decide +kernel
theorem dX8_areSequences_137 : decode cX8_areSequences 137 = .ok (.ireturn, 1) := by decide +kernel
set_option maxRecDepth 20000 in
theorem ggX8_isLength_X8_fails : GoodIn wsX8_isLength wsX8_fails := goodIn_r _ [10, 11, 12, 13, 14, 15, 16, 17, 18, 19, 20, 21, 22, 23, 24, 25, 26, 27, 28, 29, 30, 31, 32, 33, 34, 35, 36, 37, 38, 39, 40, 41, 42, 43, 44, 45, 46, 47, 48, 49, 50, 51] (by decide +kernel) (by decide +kernel)
set_option maxRecDepth 20000 in
theorem gX8_isLength_X8_fails : GoodIn wsX8_isLength (wsV RX8 158 RX8 yX8_fails wsX8_fails) := goodIn_app (goodIn_of _ (by decide +kernel)) ggX8_isLength_X8_fails
theorem dX8_isLength_0 : decode cX8_isLength 0 = .ok (.aload_n 0, 1) := by decide +kernel
theorem dX8_isLength_1 : decode cX8_isLength 1 = .ok (.iload_n 1, 1) := by decide +kernel
theorem dX8_isLength_2 : decode cX8_isLength 2 = .ok (.i2l, 1) := by decide +kernel
theorem dX8_isLength_3 : decode cX8_isLength 3 = .ok (.putfield 248, 3) := by decide +kernel
theorem dX8_isLength_6 : decode cX8_isLength 6 = .ok (.iload_n 1, 1) := by decide +kernel
theorem dX8_isLength_7 : decode cX8_isLength 7 = .ok (.bipush 15, 2) := by decide +kernel
theorem dX8_isLength_9 : decode cX8_isLength 9 = .ok (.if_icmp .ne 7, 3) := by decide +kernel
theorem dX8_isLength_12 : decode cX8_isLength 12 = .ok (.iconst 1, 1) := by decide +kernel
theorem dX8_isLength_13 : decode cX8_isLength 13 = .ok (.goto 4, 3) := by decide +kernel
theorem dX8_isLength_16 : decode cX8_isLength 16 = .ok (.iconst 0, 1) := by decide +kernel
theorem dX8_isLength_17 : decode cX8_isLength 17 = .ok (.istore_n 2, 1) := by decide +kernel
theorem dX8_isLength_18 : decode cX8_isLength 18 = .ok (.iload_n 2, 1) := by decide +kernel
theorem dX8_isLength_19 : decode cX8_isLength 19 = .ok (.ifCond .eq 76, 3) := by decide +kernel
theorem dX8_isLength_22 : decode cX8_isLength 22 = .ok (.aload_n 0, 1) := by decide +kernel
theorem dX8_isLength_23 : decode cX8_isLength 23 = .ok (.getfield 155, 3) := by decide +kernel
theorem dX8_isLength_26 : decode cX8_isLength 26 = .ok (.aload_n 0, 1) := by decide +kernel
theorem dX8_isLength_27 : decode cX8_isLength 27 = .ok (.getfield 220, 3) := by decide +kernel
theorem dX8_isLength_30 : decode cX8_isLength 30 = .ok (.if_icmp .lt 14, 3) := by decide +kernel
theorem dX8_isLength_33 : decode cX8_isLength 33 = .ok (.aload_n 0, 1) := by decide +kernel
theorem dX8_isLength_34 : decode cX8_isLength 34 = .ok (.bipush 9, 2) := by decide +kernel
theorem dX8_isLength_36 : decode cX8_isLength 36 = .ok (.aload_n 0, 1) := by decide +kernel
theorem dX8_isLength_37 : decode cX8_isLength 37 = .ok (.getfield 211, 3) := by decide +kernel
theorem dX8_isLength_40 : decode cX8_isLength 40 = .ok (.invokevirtual 158, 3) := by decide +kernel
theorem dX8_isLength_43 : decode cX8_isLength 43 = .ok (.ireturn, 1) := by decide +kernel
theorem dX8_isLength_44 : decode cX8_isLength 44 = .ok (.aload_n 0, 1) := by decide +kernel
theorem dX8_isLength_45 : decode cX8_isLength 45 = .ok (.getfield 15, 3) := by decide +kernel
theorem dX8_isLength_48 : decode cX8_isLength 48 = .ok (.aload_n 0, 1) := by decide +kernel
theorem dX8_isLength_49 : decode cX8_isLength 49 = .ok (.getfield 155, 3) := by decide +kernel
theorem dX8_isLength_52 : decode cX8_isLength 52 = .ok (.baload, 1) := by decide +kernel
theorem dX8_isLength_53 : decode cX8_isLength 53 = .ok (.sipush 255, 3) := by decide +kernel
theorem dX8_isLength_56 : decode cX8_isLength 56 = .ok (.iand, 1) := by decide +kernel
theorem dX8_isLength_57 : decode cX8_isLength 57 = .ok (.istore_n 3, 1) := by decide +kernel
theorem dX8_isLength_58 : decode cX8_isLength 58 = .ok (.aload_n 0, 1) := by decide +kernel
theorem dX8_isLength_59 : decode cX8_isLength 59 = .ok (.dup, 1) := by decide +kernel
theorem dX8_isLength_60 : decode cX8_isLength 60 = .ok (.getfield 155, 3) := by decide +kernel
theorem dX8_isLength_63 : decode cX8_isLength 63 = .ok (.iconst 1, 1) := by decide +kernel
theorem dX8_isLength_64 : decode cX8_isLength 64 = .ok (.iadd, 1) := by decide +kernel
theorem dX8_isLength_65 : decode cX8_isLength 65 = .ok (.putfield 155, 3) := by decide +kernel
theorem dX8_isLength_68 : decode cX8_isLength 68 = .ok (.aload_n 0, 1) := by decide +kernel
theorem dX8_isLength_69 : decode cX8_isLength 69 = .ok (.dup, 1) := by decide +kernel
theorem dX8_isLength_70 : decode cX8_isLength 70 = .ok (.getfield 248, 3) := by decide +kernel
theorem dX8_isLength_73 : decode cX8_isLength 73 = .ok (.iload_n 3, 1) := by decide +kernel
theorem dX8_isLength_74 : decode cX8_isLength 74 = .ok (.i2l, 1) := by decide +kernel
theorem dX8_isLength_75 : decode cX8_isLength 75 = .ok (.ladd, 1) := by decide +kernel
theorem dX8_isLength_76 : decode cX8_isLength 76 = .ok (.putfield 248, 3) := by decide +kernel
theorem dX8_isLength_79 : decode cX8_isLength 79 = .ok (.iload_n 3, 1) := by decide +kernel
theorem dX8_isLength_80 : decode cX8_isLength 80 = .ok (.sipush 255, 3) := by decide +kernel
theorem dX8_isLength_83 : decode cX8_isLength 83 = .ok (.if_icmp .ne 7, 3) := by decide +kernel
theorem dX8_isLength_86 : decode cX8_isLength 86 = .ok (.iconst 1, 1) := by decide +kernel
theorem dX8_isLength_87 : decode cX8_isLength 87 = .ok (.goto 4, 3) := by decide +kernel
theorem dX8_isLength_90 : decode cX8_isLength 90 = .ok (.iconst 0, 1) := by decide +kernel
theorem dX8_isLength_91 : decode cX8_isLength 91 = .ok (.istore_n 2, 1) := by decide +kernel
theorem dX8_isLength_92 : decode cX8_isLength 92 = .ok (.goto (-74), 3) := by decide +kernel
theorem dX8_isLength_95 : decode cX8_isLength 95 = .ok (.iconst 1, 1) := by decide +kernel
theorem dX8_isLength_96 : decode cX8_isLength 96 = .ok (.ireturn, 1) := by decide +kernel
set_option maxRecDepth 20000 in
theorem ggX8_hasRoom_X8_fails : GoodIn wsX8_hasRoom wsX8_fails := goodIn_r _ [10, 11, 12, 13, 14, 15, 16, 17, 18, 19, 20, 21, 22, 23, 24, 25, 26, 27, 28, 29, 30, 31, 32, 33, 34, 35, 36, 37, 38, 39, 40, 41, 42, 43, 44, 45, 46, 47, 48, 49, 50, 51] (by decide +kernel) (by decide +kernel)
set_option maxRecDepth 20000 in
theorem gX8_hasRoom_X8_fails : GoodIn wsX8_hasRoom (wsV RX8 158 RX8 yX8_fails wsX8_fails) := goodIn_app (goodIn_of _ (by decide +kernel)) ggX8_hasRoom_X8_fails
theorem dX8_hasRoom_0 : decode cX8_hasRoom 0 = .ok (.aload_n 0, 1) := by decide +kernel
theorem dX8_hasRoom_1 : decode cX8_hasRoom 1 = .ok (.getfield 205, 3) := by decide +kernel
theorem dX8_hasRoom_4 : decode cX8_hasRoom 4 = .ok (.aload_n 0, 1) := by decide +kernel
theorem dX8_hasRoom_5 : decode cX8_hasRoom 5 = .ok (.getfield 223, 3) := by decide +kernel
theorem dX8_hasRoom_8 : decode cX8_hasRoom 8 = .ok (.isub, 1) := by decide +kernel
theorem dX8_hasRoom_9 : decode cX8_hasRoom 9 = .ok (.i2l, 1) := by decide +kernel
theorem dX8_hasRoom_10 : decode cX8_hasRoom 10 = .ok (.aload_n 0, 1) := by decide +kernel
theorem dX8_hasRoom_11 : decode cX8_hasRoom 11 = .ok (.getfield 248, 3) := by decide +kernel
theorem dX8_hasRoom_14 : decode cX8_hasRoom 14 = .ok (.ladd, 1) := by decide +kernel
theorem dX8_hasRoom_15 : decode cX8_hasRoom 15 = .ok (.aload_n 0, 1) := by decide +kernel
theorem dX8_hasRoom_16 : decode cX8_hasRoom 16 = .ok (.getfield 197, 3) := by decide +kernel
theorem dX8_hasRoom_19 : decode cX8_hasRoom 19 = .ok (.i2l, 1) := by decide +kernel
theorem dX8_hasRoom_20 : decode cX8_hasRoom 20 = .ok (.lcmp, 1) := by decide +kernel
theorem dX8_hasRoom_21 : decode cX8_hasRoom 21 = .ok (.ifCond .gt 20, 3) := by decide +kernel
theorem dX8_hasRoom_24 : decode cX8_hasRoom 24 = .ok (.aload_n 0, 1) := by decide +kernel
theorem dX8_hasRoom_25 : decode cX8_hasRoom 25 = .ok (.getfield 205, 3) := by decide +kernel
theorem dX8_hasRoom_28 : decode cX8_hasRoom 28 = .ok (.i2l, 1) := by decide +kernel
theorem dX8_hasRoom_29 : decode cX8_hasRoom 29 = .ok (.aload_n 0, 1) := by decide +kernel
theorem dX8_hasRoom_30 : decode cX8_hasRoom 30 = .ok (.getfield 248, 3) := by decide +kernel
theorem dX8_hasRoom_33 : decode cX8_hasRoom 33 = .ok (.ladd, 1) := by decide +kernel
theorem dX8_hasRoom_34 : decode cX8_hasRoom 34 = .ok (.ldc2_w 251, 3) := by decide +kernel
theorem dX8_hasRoom_37 : decode cX8_hasRoom 37 = .ok (.lcmp, 1) := by decide +kernel
theorem dX8_hasRoom_38 : decode cX8_hasRoom 38 = .ok (.ifCond .le 13, 3) := by decide +kernel
theorem dX8_hasRoom_41 : decode cX8_hasRoom 41 = .ok (.aload_n 0, 1) := by decide +kernel
theorem dX8_hasRoom_42 : decode cX8_hasRoom 42 = .ok (.bipush 8, 2) := by decide +kernel
theorem dX8_hasRoom_44 : decode cX8_hasRoom 44 = .ok (.iload_n 1, 1) := by decide +kernel
theorem dX8_hasRoom_45 : decode cX8_hasRoom 45 = .ok (.invokevirtual 158, 3) := by decide +kernel
theorem dX8_hasRoom_48 : decode cX8_hasRoom 48 = .ok (.ifCond .eq 7, 3) := by decide +kernel
theorem dX8_hasRoom_51 : decode cX8_hasRoom 51 = .ok (.iconst 1, 1) := by decide +kernel
theorem dX8_hasRoom_52 : decode cX8_hasRoom 52 = .ok (.goto 4, 3) := by decide +kernel
theorem dX8_hasRoom_55 : decode cX8_hasRoom 55 = .ok (.iconst 0, 1) := by decide +kernel
theorem dX8_hasRoom_56 : decode cX8_hasRoom 56 = .ok (.ireturn, 1) := by decide +kernel
set_option maxRecDepth 20000 in
theorem ggX8_areLiterals_X8_isLength : GoodIn wsX8_areLiterals wsX8_isLength := goodIn_r _ [13, 3, 2, 1, 4, 7, 14, 15, 16, 12, 17, 18, 19, 27, 28, 29, 30, 31, 32, 33, 34, 35, 36, 37, 38, 39, 40, 41, 42, 43, 44, 45, 46, 47, 48, 49, 50, 51, 52, 53, 54, 55, 56, 57, 58, 59, 60, 61, 62, 63, 64, 65] (by decide +kernel) (by decide +kernel)
set_option maxRecDepth 20000 in
theorem gX8_areLiterals_X8_isLength : GoodIn wsX8_areLiterals (wsV RX8 253 RX8 yX8_isLength wsX8_isLength) := goodIn_app (goodIn_of _ (by decide +kernel)) ggX8_areLiterals_X8_isLength
set_option maxRecDepth 20000 in
theorem ggX8_areLiterals_X8_hasRoom : GoodIn wsX8_areLiterals wsX8_hasRoom := goodIn_r _ [23, 6, 24, 3, 25, 26, 14, 15, 16, 12, 17, 18, 19, 27, 28, 29, 30, 31, 32, 33, 34, 35, 36, 37, 38, 39, 40, 41, 42, 43, 44, 45, 46, 47, 48, 49, 50, 51, 52, 53, 54, 55, 56, 57, 58, 59, 60, 61, 62, 63, 64, 65] (by decide +kernel) (by decide +kernel)
set_option maxRecDepth 20000 in
theorem gX8_areLiterals_X8_hasRoom : GoodIn wsX8_areLiterals (wsV RX8 256 RX8 yX8_hasRoom wsX8_hasRoom) := goodIn_app (goodIn_of _ (by decide +kernel)) ggX8_areLiterals_X8_hasRoom
set_option maxRecDepth 20000 in
theorem ggX8_areLiterals_X8_fails : GoodIn wsX8_areLiterals wsX8_fails := goodIn_r _ [17, 18, 19, 27, 28, 29, 30, 31, 32, 33, 34, 35, 36, 37, 38, 39, 40, 41, 42, 43, 44, 45, 46, 47, 48, 49, 50, 51, 52, 53, 54, 55, 56, 57, 58, 59, 60, 61, 62, 63, 64, 65] (by decide +kernel) (by decide +kernel)
set_option maxRecDepth 20000 in
theorem gX8_areLiterals_X8_fails : GoodIn wsX8_areLiterals (wsV RX8 158 RX8 yX8_fails wsX8_fails) := goodIn_app (goodIn_of _ (by decide +kernel)) ggX8_areLiterals_X8_fails
theorem dX8_areLiterals_0 : decode cX8_areLiterals 0 = .ok (.aload_n 0, 1) := by decide +kernel
theorem dX8_areLiterals_1 : decode cX8_areLiterals 1 = .ok (.iload_n 2, 1) := by decide +kernel
theorem dX8_areLiterals_2 : decode cX8_areLiterals 2 = .ok (.invokevirtual 253, 3) := by decide +kernel
theorem dX8_areLiterals_5 : decode cX8_areLiterals 5 = .ok (.ifCond .eq 11, 3) := by decide +kernel
theorem dX8_areLiterals_8 : decode cX8_areLiterals 8 = .ok (.aload_n 0, 1) := by decide +kernel
theorem dX8_areLiterals_9 : decode cX8_areLiterals 9 = .ok (.iload_n 1, 1) := by decide +kernel
theorem dX8_areLiterals_10 : decode cX8_areLiterals 10 = .ok (.invokevirtual 256, 3) := by decide +kernel
theorem dX8_areLiterals_13 : decode cX8_areLiterals 13 = .ok (.ifCond .ne 5, 3) := by decide +kernel
theorem dX8_areLiterals_16 : decode cX8_areLiterals 16 = .ok (.iconst 0, 1) := by decide +kernel
theorem dX8_areLiterals_17 : decode cX8_areLiterals 17 = .ok (.ireturn, 1) := by decide +kernel
theorem dX8_areLiterals_18 : decode cX8_areLiterals 18 = .ok (.aload_n 0, 1) := by decide +kernel
theorem dX8_areLiterals_19 : decode cX8_areLiterals 19 = .ok (.getfield 220, 3) := by decide +kernel
theorem dX8_areLiterals_22 : decode cX8_areLiterals 22 = .ok (.aload_n 0, 1) := by decide +kernel
theorem dX8_areLiterals_23 : decode cX8_areLiterals 23 = .ok (.getfield 155, 3) := by decide +kernel
theorem dX8_areLiterals_26 : decode cX8_areLiterals 26 = .ok (.isub, 1) := by decide +kernel
theorem dX8_areLiterals_27 : decode cX8_areLiterals 27 = .ok (.i2l, 1) := by decide +kernel
theorem dX8_areLiterals_28 : decode cX8_areLiterals 28 = .ok (.aload_n 0, 1) := by decide +kernel
theorem dX8_areLiterals_29 : decode cX8_areLiterals 29 = .ok (.getfield 248, 3) := by decide +kernel
theorem dX8_areLiterals_32 : decode cX8_areLiterals 32 = .ok (.lcmp, 1) := by decide +kernel
theorem dX8_areLiterals_33 : decode cX8_areLiterals 33 = .ok (.ifCond .ge 14, 3) := by decide +kernel
theorem dX8_areLiterals_36 : decode cX8_areLiterals 36 = .ok (.aload_n 0, 1) := by decide +kernel
theorem dX8_areLiterals_37 : decode cX8_areLiterals 37 = .ok (.bipush 9, 2) := by decide +kernel
theorem dX8_areLiterals_39 : decode cX8_areLiterals 39 = .ok (.aload_n 0, 1) := by decide +kernel
theorem dX8_areLiterals_40 : decode cX8_areLiterals 40 = .ok (.getfield 211, 3) := by decide +kernel
theorem dX8_areLiterals_43 : decode cX8_areLiterals 43 = .ok (.invokevirtual 158, 3) := by decide +kernel
theorem dX8_areLiterals_46 : decode cX8_areLiterals 46 = .ok (.ireturn, 1) := by decide +kernel
theorem dX8_areLiterals_47 : decode cX8_areLiterals 47 = .ok (.iconst 0, 1) := by decide +kernel
theorem dX8_areLiterals_48 : decode cX8_areLiterals 48 = .ok (.istore_n 3, 1) := by decide +kernel
theorem dX8_areLiterals_49 : decode cX8_areLiterals 49 = .ok (.iload_n 3, 1) := by decide +kernel
theorem dX8_areLiterals_50 : decode cX8_areLiterals 50 = .ok (.i2l, 1) := by decide +kernel
theorem dX8_areLiterals_51 : decode cX8_areLiterals 51 = .ok (.aload_n 0, 1) := by decide +kernel
theorem dX8_areLiterals_52 : decode cX8_areLiterals 52 = .ok (.getfield 248, 3) := by decide +kernel
theorem dX8_areLiterals_55 : decode cX8_areLiterals 55 = .ok (.lcmp, 1) := by decide +kernel
theorem dX8_areLiterals_56 : decode cX8_areLiterals 56 = .ok (.ifCond .ge 47, 3) := by decide +kernel
theorem dX8_areLiterals_59 : decode cX8_areLiterals 59 = .ok (.aload_n 0, 1) := by decide +kernel
theorem dX8_areLiterals_60 : decode cX8_areLiterals 60 = .ok (.getfield 47, 3) := by decide +kernel
theorem dX8_areLiterals_63 : decode cX8_areLiterals 63 = .ok (.aload_n 0, 1) := by decide +kernel
theorem dX8_areLiterals_64 : decode cX8_areLiterals 64 = .ok (.getfield 205, 3) := by decide +kernel
theorem dX8_areLiterals_67 : decode cX8_areLiterals 67 = .ok (.aload_n 0, 1) := by decide +kernel
theorem dX8_areLiterals_68 : decode cX8_areLiterals 68 = .ok (.getfield 15, 3) := by decide +kernel
theorem dX8_areLiterals_71 : decode cX8_areLiterals 71 = .ok (.aload_n 0, 1) := by decide +kernel
theorem dX8_areLiterals_72 : decode cX8_areLiterals 72 = .ok (.getfield 155, 3) := by decide +kernel
theorem dX8_areLiterals_75 : decode cX8_areLiterals 75 = .ok (.baload, 1) := by decide +kernel
theorem dX8_areLiterals_76 : decode cX8_areLiterals 76 = .ok (.bastore, 1) := by decide +kernel
theorem dX8_areLiterals_77 : decode cX8_areLiterals 77 = .ok (.aload_n 0, 1) := by decide +kernel
theorem dX8_areLiterals_78 : decode cX8_areLiterals 78 = .ok (.dup, 1) := by decide +kernel
theorem dX8_areLiterals_79 : decode cX8_areLiterals 79 = .ok (.getfield 205, 3) := by decide +kernel
theorem dX8_areLiterals_82 : decode cX8_areLiterals 82 = .ok (.iconst 1, 1) := by decide +kernel
theorem dX8_areLiterals_83 : decode cX8_areLiterals 83 = .ok (.iadd, 1) := by decide +kernel
theorem dX8_areLiterals_84 : decode cX8_areLiterals 84 = .ok (.putfield 205, 3) := by decide +kernel
theorem dX8_areLiterals_87 : decode cX8_areLiterals 87 = .ok (.aload_n 0, 1) := by decide +kernel
theorem dX8_areLiterals_88 : decode cX8_areLiterals 88 = .ok (.dup, 1) := by decide +kernel
theorem dX8_areLiterals_89 : decode cX8_areLiterals 89 = .ok (.getfield 155, 3) := by decide +kernel
theorem dX8_areLiterals_92 : decode cX8_areLiterals 92 = .ok (.iconst 1, 1) := by decide +kernel
theorem dX8_areLiterals_93 : decode cX8_areLiterals 93 = .ok (.iadd, 1) := by decide +kernel
theorem dX8_areLiterals_94 : decode cX8_areLiterals 94 = .ok (.putfield 155, 3) := by decide +kernel
theorem dX8_areLiterals_97 : decode cX8_areLiterals 97 = .ok (.iinc 3 1, 3) := by decide +kernel
theorem dX8_areLiterals_100 : decode cX8_areLiterals 100 = .ok (.goto (-51), 3) := by decide +kernel
theorem dX8_areLiterals_103 : decode cX8_areLiterals 103 = .ok (.aload_n 0, 1) := by decide +kernel
theorem dX8_areLiterals_104 : decode cX8_areLiterals 104 = .ok (.aload_n 0, 1) := by decide +kernel
theorem dX8_areLiterals_105 : decode cX8_areLiterals 105 = .ok (.getfield 248, 3) := by decide +kernel
theorem dX8_areLiterals_108 : decode cX8_areLiterals 108 = .ok (.l2i, 1) := by decide +kernel
theorem dX8_areLiterals_109 : decode cX8_areLiterals 109 = .ok (.putfield 259, 3) := by decide +kernel
theorem dX8_areLiterals_112 : decode cX8_areLiterals 112 = .ok (.iconst 1, 1) := by decide +kernel
theorem dX8_areLiterals_113 : decode cX8_areLiterals 113 = .ok (.ireturn, 1) := by decide +kernel
set_option maxRecDepth 20000 in
theorem ggX8_isMatch_X8_fails : GoodIn wsX8_isMatch wsX8_fails := goodIn_r _ [16, 17, 18, 35, 36, 37, 38, 39, 40, 41, 42, 43, 44, 45, 46, 47, 48, 49, 50, 51, 52, 53, 54, 55, 56, 57, 58, 59, 60, 61, 62, 63, 64, 65, 66, 67, 68, 69, 70, 71, 72, 73] (by decide +kernel) (by decide +kernel)
set_option maxRecDepth 20000 in
theorem gX8_isMatch_X8_fails : GoodIn wsX8_isMatch (wsV RX8 158 RX8 yX8_fails wsX8_fails) := goodIn_app (goodIn_of _ (by decide +kernel)) ggX8_isMatch_X8_fails
set_option maxRecDepth 20000 in
theorem ggX8_isMatch_X8_number : GoodIn wsX8_isMatch wsX8_number := goodIn_r _ [22, 23, 24, 35, 36, 37, 38, 39, 40, 41, 42, 43, 44, 45, 46, 47, 48, 49, 50, 51, 52, 53, 54, 55, 56, 57, 58, 59, 60, 61, 62, 63, 64, 65, 66, 67, 68, 69, 70, 71, 72, 73] (by decide +kernel) (by decide +kernel)
set_option maxRecDepth 20000 in
theorem gX8_isMatch_X8_number : GoodIn wsX8_isMatch (wsV RX8 170 RX8 yX8_number wsX8_number) := goodIn_app (goodIn_of _ (by decide +kernel)) ggX8_isMatch_X8_number
set_option maxRecDepth 20000 in
theorem ggX8_isMatch_X8_isLength : GoodIn wsX8_isMatch wsX8_isLength := goodIn_r _ [28, 8, 2, 1, 3, 23, 12, 13, 14, 15, 16, 17, 18, 35, 36, 37, 38, 39, 40, 41, 42, 43, 44, 45, 46, 47, 48, 49, 50, 51, 52, 53, 54, 55, 56, 57, 58, 59, 60, 61, 62, 63, 64, 65, 66, 67, 68, 69, 70, 71, 72, 73] (by decide +kernel) (by decide +kernel)
set_option maxRecDepth 20000 in
theorem gX8_isMatch_X8_isLength : GoodIn wsX8_isMatch (wsV RX8 253 RX8 yX8_isLength wsX8_isLength) := goodIn_app (goodIn_of _ (by decide +kernel)) ggX8_isMatch_X8_isLength
set_option maxRecDepth 20000 in
theorem ggX8_isMatch_X8_hasRoom : GoodIn wsX8_isMatch wsX8_hasRoom := goodIn_r _ [32, 7, 5, 8, 33, 34, 12, 13, 14, 15, 16, 17, 18, 35, 36, 37, 38, 39, 40, 41, 42, 43, 44, 45, 46, 47, 48, 49, 50, 51, 52, 53, 54, 55, 56, 57, 58, 59, 60, 61, 62, 63, 64, 65, 66, 67, 68, 69, 70, 71, 72, 73] (by decide +kernel) (by decide +kernel)
set_option maxRecDepth 20000 in
theorem gX8_isMatch_X8_hasRoom : GoodIn wsX8_isMatch (wsV RX8 256 RX8 yX8_hasRoom wsX8_hasRoom) := goodIn_app (goodIn_of _ (by decide +kernel)) ggX8_isMatch_X8_hasRoom
theorem dX8_isMatch_0 : decode cX8_isMatch 0 = .ok (.aload_n 0, 1) := by decide +kernel
theorem dX8_isMatch_1 : decode cX8_isMatch 1 = .ok (.getfield 220, 3) := by decide +kernel
theorem dX8_isMatch_4 : decode cX8_isMatch 4 = .ok (.aload_n 0, 1) := by decide +kernel
theorem dX8_isMatch_5 : decode cX8_isMatch 5 = .ok (.getfield 155, 3) := by decide +kernel
theorem dX8_isMatch_8 : decode cX8_isMatch 8 = .ok (.isub, 1) := by decide +kernel
theorem dX8_isMatch_9 : decode cX8_isMatch 9 = .ok (.iconst 2, 1) := by decide +kernel
theorem dX8_isMatch_10 : decode cX8_isMatch 10 = .ok (.if_icmp .ge 14, 3) := by decide +kernel
theorem dX8_isMatch_13 : decode cX8_isMatch 13 = .ok (.aload_n 0, 1) := by decide +kernel
theorem dX8_isMatch_14 : decode cX8_isMatch 14 = .ok (.bipush 9, 2) := by decide +kernel
theorem dX8_isMatch_16 : decode cX8_isMatch 16 = .ok (.aload_n 0, 1) := by decide +kernel
theorem dX8_isMatch_17 : decode cX8_isMatch 17 = .ok (.getfield 211, 3) := by decide +kernel
theorem dX8_isMatch_20 : decode cX8_isMatch 20 = .ok (.invokevirtual 158, 3) := by decide +kernel
theorem dX8_isMatch_23 : decode cX8_isMatch 23 = .ok (.ireturn, 1) := by decide +kernel
theorem dX8_isMatch_24 : decode cX8_isMatch 24 = .ok (.aload_n 0, 1) := by decide +kernel
theorem dX8_isMatch_25 : decode cX8_isMatch 25 = .ok (.aload_n 0, 1) := by decide +kernel
theorem dX8_isMatch_26 : decode cX8_isMatch 26 = .ok (.getfield 155, 3) := by decide +kernel
theorem dX8_isMatch_29 : decode cX8_isMatch 29 = .ok (.iconst 2, 1) := by decide +kernel
theorem dX8_isMatch_30 : decode cX8_isMatch 30 = .ok (.invokevirtual 170, 3) := by decide +kernel
theorem dX8_isMatch_33 : decode cX8_isMatch 33 = .ok (.l2i, 1) := by decide +kernel
theorem dX8_isMatch_34 : decode cX8_isMatch 34 = .ok (.istore_n 3, 1) := by decide +kernel
theorem dX8_isMatch_35 : decode cX8_isMatch 35 = .ok (.aload_n 0, 1) := by decide +kernel
theorem dX8_isMatch_36 : decode cX8_isMatch 36 = .ok (.getfield 194, 3) := by decide +kernel
theorem dX8_isMatch_39 : decode cX8_isMatch 39 = .ok (.bipush 32, 2) := by decide +kernel
theorem dX8_isMatch_41 : decode cX8_isMatch 41 = .ok (.iand, 1) := by decide +kernel
theorem dX8_isMatch_42 : decode cX8_isMatch 42 = .ok (.ifCond .eq 10, 3) := by decide +kernel
theorem dX8_isMatch_45 : decode cX8_isMatch 45 = .ok (.aload_n 0, 1) := by decide +kernel
theorem dX8_isMatch_46 : decode cX8_isMatch 46 = .ok (.getfield 223, 3) := by decide +kernel
theorem dX8_isMatch_49 : decode cX8_isMatch 49 = .ok (.goto 7, 3) := by decide +kernel
theorem dX8_isMatch_52 : decode cX8_isMatch 52 = .ok (.aload_n 0, 1) := by decide +kernel
theorem dX8_isMatch_53 : decode cX8_isMatch 53 = .ok (.getfield 208, 3) := by decide +kernel
theorem dX8_isMatch_56 : decode cX8_isMatch 56 = .ok (.istore 4, 2) := by decide +kernel
theorem dX8_isMatch_58 : decode cX8_isMatch 58 = .ok (.iload_n 3, 1) := by decide +kernel
theorem dX8_isMatch_59 : decode cX8_isMatch 59 = .ok (.ifCond .eq 14, 3) := by decide +kernel
theorem dX8_isMatch_62 : decode cX8_isMatch 62 = .ok (.iload_n 3, 1) := by decide +kernel
theorem dX8_isMatch_63 : decode cX8_isMatch 63 = .ok (.aload_n 0, 1) := by decide +kernel
theorem dX8_isMatch_64 : decode cX8_isMatch 64 = .ok (.getfield 205, 3) := by decide +kernel
theorem dX8_isMatch_67 : decode cX8_isMatch 67 = .ok (.iload 4, 2) := by decide +kernel
theorem dX8_isMatch_69 : decode cX8_isMatch 69 = .ok (.isub, 1) := by decide +kernel
theorem dX8_isMatch_70 : decode cX8_isMatch 70 = .ok (.if_icmp .le 14, 3) := by decide +kernel
theorem dX8_isMatch_73 : decode cX8_isMatch 73 = .ok (.aload_n 0, 1) := by decide +kernel
theorem dX8_isMatch_74 : decode cX8_isMatch 74 = .ok (.bipush 7, 2) := by decide +kernel
theorem dX8_isMatch_76 : decode cX8_isMatch 76 = .ok (.aload_n 0, 1) := by decide +kernel
theorem dX8_isMatch_77 : decode cX8_isMatch 77 = .ok (.getfield 155, 3) := by decide +kernel
theorem dX8_isMatch_80 : decode cX8_isMatch 80 = .ok (.invokevirtual 158, 3) := by decide +kernel
theorem dX8_isMatch_83 : decode cX8_isMatch 83 = .ok (.ireturn, 1) := by decide +kernel
theorem dX8_isMatch_84 : decode cX8_isMatch 84 = .ok (.aload_n 0, 1) := by decide +kernel
theorem dX8_isMatch_85 : decode cX8_isMatch 85 = .ok (.dup, 1) := by decide +kernel
theorem dX8_isMatch_86 : decode cX8_isMatch 86 = .ok (.getfield 155, 3) := by decide +kernel
theorem dX8_isMatch_89 : decode cX8_isMatch 89 = .ok (.iconst 2, 1) := by decide +kernel
theorem dX8_isMatch_90 : decode cX8_isMatch 90 = .ok (.iadd, 1) := by decide +kernel
theorem dX8_isMatch_91 : decode cX8_isMatch 91 = .ok (.putfield 155, 3) := by decide +kernel
theorem dX8_isMatch_94 : decode cX8_isMatch 94 = .ok (.aload_n 0, 1) := by decide +kernel
theorem dX8_isMatch_95 : decode cX8_isMatch 95 = .ok (.iload_n 2, 1) := by decide +kernel
theorem dX8_isMatch_96 : decode cX8_isMatch 96 = .ok (.invokevirtual 253, 3) := by decide +kernel
theorem dX8_isMatch_99 : decode cX8_isMatch 99 = .ok (.ifCond .ne 5, 3) := by decide +kernel
theorem dX8_isMatch_102 : decode cX8_isMatch 102 = .ok (.iconst 0, 1) := by decide +kernel
theorem dX8_isMatch_103 : decode cX8_isMatch 103 = .ok (.ireturn, 1) := by decide +kernel
theorem dX8_isMatch_104 : decode cX8_isMatch 104 = .ok (.aload_n 0, 1) := by decide +kernel
theorem dX8_isMatch_105 : decode cX8_isMatch 105 = .ok (.dup, 1) := by decide +kernel
theorem dX8_isMatch_106 : decode cX8_isMatch 106 = .ok (.getfield 248, 3) := by decide +kernel
theorem dX8_isMatch_109 : decode cX8_isMatch 109 = .ok (.ldc2_w 164, 3) := by decide +kernel
theorem dX8_isMatch_112 : decode cX8_isMatch 112 = .ok (.ladd, 1) := by decide +kernel
theorem dX8_isMatch_113 : decode cX8_isMatch 113 = .ok (.putfield 248, 3) := by decide +kernel
theorem dX8_isMatch_116 : decode cX8_isMatch 116 = .ok (.aload_n 0, 1) := by decide +kernel
theorem dX8_isMatch_117 : decode cX8_isMatch 117 = .ok (.iload_n 1, 1) := by decide +kernel
theorem dX8_isMatch_118 : decode cX8_isMatch 118 = .ok (.invokevirtual 256, 3) := by decide +kernel
theorem dX8_isMatch_121 : decode cX8_isMatch 121 = .ok (.ifCond .ne 5, 3) := by decide +kernel
theorem dX8_isMatch_124 : decode cX8_isMatch 124 = .ok (.iconst 0, 1) := by decide +kernel
theorem dX8_isMatch_125 : decode cX8_isMatch 125 = .ok (.ireturn, 1) := by decide +kernel
theorem dX8_isMatch_126 : decode cX8_isMatch 126 = .ok (.aload_n 0, 1) := by decide +kernel
theorem dX8_isMatch_127 : decode cX8_isMatch 127 = .ok (.aload_n 0, 1) := by decide +kernel
theorem dX8_isMatch_128 : decode cX8_isMatch 128 = .ok (.getfield 205, 3) := by decide +kernel
theorem dX8_isMatch_131 : decode cX8_isMatch 131 = .ok (.putfield 235, 3) := by decide +kernel
theorem dX8_isMatch_134 : decode cX8_isMatch 134 = .ok (.iconst 0, 1) := by decide +kernel
theorem dX8_isMatch_135 : decode cX8_isMatch 135 = .ok (.istore 5, 2) := by decide +kernel
theorem dX8_isMatch_137 : decode cX8_isMatch 137 = .ok (.iload 5, 2) := by decide +kernel
theorem dX8_isMatch_139 : decode cX8_isMatch 139 = .ok (.i2l, 1) := by decide +kernel
theorem dX8_isMatch_140 : decode cX8_isMatch 140 = .ok (.aload_n 0, 1) := by decide +kernel
theorem dX8_isMatch_141 : decode cX8_isMatch 141 = .ok (.getfield 248, 3) := by decide +kernel
theorem dX8_isMatch_144 : decode cX8_isMatch 144 = .ok (.lcmp, 1) := by decide +kernel
theorem dX8_isMatch_145 : decode cX8_isMatch 145 = .ok (.ifCond .ge 39, 3) := by decide +kernel
theorem dX8_isMatch_148 : decode cX8_isMatch 148 = .ok (.aload_n 0, 1) := by decide +kernel
theorem dX8_isMatch_149 : decode cX8_isMatch 149 = .ok (.getfield 47, 3) := by decide +kernel
theorem dX8_isMatch_152 : decode cX8_isMatch 152 = .ok (.aload_n 0, 1) := by decide +kernel
theorem dX8_isMatch_153 : decode cX8_isMatch 153 = .ok (.getfield 205, 3) := by decide +kernel
theorem dX8_isMatch_156 : decode cX8_isMatch 156 = .ok (.aload_n 0, 1) := by decide +kernel
theorem dX8_isMatch_157 : decode cX8_isMatch 157 = .ok (.getfield 47, 3) := by decide +kernel
theorem dX8_isMatch_160 : decode cX8_isMatch 160 = .ok (.aload_n 0, 1) := by decide +kernel
theorem dX8_isMatch_161 : decode cX8_isMatch 161 = .ok (.getfield 205, 3) := by decide +kernel
theorem dX8_isMatch_164 : decode cX8_isMatch 164 = .ok (.iload_n 3, 1) := by decide +kernel
theorem dX8_isMatch_165 : decode cX8_isMatch 165 = .ok (.isub, 1) := by decide +kernel
theorem dX8_isMatch_166 : decode cX8_isMatch 166 = .ok (.baload, 1) := by decide +kernel
theorem dX8_isMatch_167 : decode cX8_isMatch 167 = .ok (.bastore, 1) := by decide +kernel
theorem dX8_isMatch_168 : decode cX8_isMatch 168 = .ok (.aload_n 0, 1) := by decide +kernel
theorem dX8_isMatch_169 : decode cX8_isMatch 169 = .ok (.dup, 1) := by decide +kernel
theorem dX8_isMatch_170 : decode cX8_isMatch 170 = .ok (.getfield 205, 3) := by decide +kernel
theorem dX8_isMatch_173 : decode cX8_isMatch 173 = .ok (.iconst 1, 1) := by decide +kernel
theorem dX8_isMatch_174 : decode cX8_isMatch 174 = .ok (.iadd, 1) := by decide +kernel
theorem dX8_isMatch_175 : decode cX8_isMatch 175 = .ok (.putfield 205, 3) := by decide +kernel
theorem dX8_isMatch_178 : decode cX8_isMatch 178 = .ok (.iinc 5 1, 3) := by decide +kernel
theorem dX8_isMatch_181 : decode cX8_isMatch 181 = .ok (.goto (-44), 3) := by decide +kernel
theorem dX8_isMatch_184 : decode cX8_isMatch 184 = .ok (.iconst 1, 1) := by decide +kernel
theorem dX8_isMatch_185 : decode cX8_isMatch 185 = .ok (.ireturn, 1) := by decide +kernel
theorem dX8_isLast_0 : decode cX8_isLast 0 = .ok (.iload_n 1, 1) := by decide +kernel
theorem dX8_isLast_1 : decode cX8_isLast 1 = .ok (.bipush 15, 2) := by decide +kernel
theorem dX8_isLast_3 : decode cX8_isLast 3 = .ok (.iand, 1) := by decide +kernel
theorem dX8_isLast_4 : decode cX8_isLast 4 = .ok (.ifCond .ne 37, 3) := by decide +kernel
theorem dX8_isLast_7 : decode cX8_isLast 7 = .ok (.aload_n 0, 1) := by decide +kernel
theorem dX8_isLast_8 : decode cX8_isLast 8 = .ok (.getfield 235, 3) := by decide +kernel
theorem dX8_isLast_11 : decode cX8_isLast 11 = .ok (.iconst (-1), 1) := by decide +kernel
theorem dX8_isLast_12 : decode cX8_isLast 12 = .ok (.if_icmp .eq 25, 3) := by decide +kernel
theorem dX8_isLast_15 : decode cX8_isLast 15 = .ok (.aload_n 0, 1) := by decide +kernel
theorem dX8_isLast_16 : decode cX8_isLast 16 = .ok (.getfield 259, 3) := by decide +kernel
theorem dX8_isLast_19 : decode cX8_isLast 19 = .ok (.iconst 5, 1) := by decide +kernel
theorem dX8_isLast_20 : decode cX8_isLast 20 = .ok (.if_icmp .lt 21, 3) := by decide +kernel
theorem dX8_isLast_23 : decode cX8_isLast 23 = .ok (.aload_n 0, 1) := by decide +kernel
theorem dX8_isLast_24 : decode cX8_isLast 24 = .ok (.getfield 205, 3) := by decide +kernel
theorem dX8_isLast_27 : decode cX8_isLast 27 = .ok (.aload_n 0, 1) := by decide +kernel
theorem dX8_isLast_28 : decode cX8_isLast 28 = .ok (.getfield 235, 3) := by decide +kernel
theorem dX8_isLast_31 : decode cX8_isLast 31 = .ok (.isub, 1) := by decide +kernel
theorem dX8_isLast_32 : decode cX8_isLast 32 = .ok (.bipush 12, 2) := by decide +kernel
theorem dX8_isLast_34 : decode cX8_isLast 34 = .ok (.if_icmp .lt 7, 3) := by decide +kernel
theorem dX8_isLast_37 : decode cX8_isLast 37 = .ok (.iconst 1, 1) := by decide +kernel
theorem dX8_isLast_38 : decode cX8_isLast 38 = .ok (.goto 4, 3) := by decide +kernel
theorem dX8_isLast_41 : decode cX8_isLast 41 = .ok (.iconst 0, 1) := by decide +kernel
theorem dX8_isLast_42 : decode cX8_isLast 42 = .ok (.ireturn, 1) := by decide +kernel
set_option maxRecDepth 20000 in
theorem ggX8_isEnd_X8_fails : GoodIn wsX8_isEnd wsX8_fails := goodIn_r _ [14, 15, 16, 45, 46, 47, 48, 49, 50, 51, 52, 53, 54, 55, 56, 57, 58, 59, 60, 61, 62, 63, 64, 65, 66, 67, 68, 69, 70, 71, 72, 73, 74, 75, 76, 77, 78, 79, 80, 81, 82, 83] (by decide +kernel) (by decide +kernel)
set_option maxRecDepth 20000 in
theorem gX8_isEnd_X8_fails : GoodIn wsX8_isEnd (wsV RX8 158 RX8 yX8_fails wsX8_fails) := goodIn_app (goodIn_of _ (by decide +kernel)) ggX8_isEnd_X8_fails
set_option maxRecDepth 20000 in
theorem ggX8_isEnd_X8_has : GoodIn wsX8_isEnd wsX8_has := goodIn_r _ [20, 21, 7, 10, 11, 12, 13, 14, 15, 16, 45, 46, 47, 48, 49, 50, 51, 52, 53, 54, 55, 56, 57, 58, 59, 60, 61, 62, 63, 64, 65, 66, 67, 68, 69, 70, 71, 72, 73, 74, 75, 76, 77, 78, 79, 80, 81, 82, 83] (by decide +kernel) (by decide +kernel)
set_option maxRecDepth 20000 in
theorem gX8_isEnd_X8_has : GoodIn wsX8_isEnd (wsV RX8 166 RX8 yX8_has wsX8_has) := goodIn_app (goodIn_of _ (by decide +kernel)) ggX8_isEnd_X8_has
set_option maxRecDepth 20000 in
theorem ggX8_isEnd_X8_number : GoodIn wsX8_isEnd wsX8_number := goodIn_r _ [25, 26, 27, 45, 46, 47, 48, 49, 50, 51, 52, 53, 54, 55, 56, 57, 58, 59, 60, 61, 62, 63, 64, 65, 66, 67, 68, 69, 70, 71, 72, 73, 74, 75, 76, 77, 78, 79, 80, 81, 82, 83] (by decide +kernel) (by decide +kernel)
set_option maxRecDepth 20000 in
theorem gX8_isEnd_X8_number : GoodIn wsX8_isEnd (wsV RX8 170 RX8 yX8_number wsX8_number) := goodIn_app (goodIn_of _ (by decide +kernel)) ggX8_isEnd_X8_number
set_option maxRecDepth 20000 in
theorem ggX8_isEnd_X8_hashOf : GoodIn wsX8_isEnd wsX8_hashOf := goodIn_r _ [30, 31, 32, 33, 34, 35, 36, 37, 13, 38, 39, 40, 41, 42, 43, 44] (by decide +kernel) (by decide +kernel)
set_option maxRecDepth 20000 in
theorem gX8_isEnd_X8_hashOf : GoodIn wsX8_isEnd (va_wsS RX8 135 yX8_hashOf wsX8_hashOf) := goodIn_app (goodIn_of _ (by decide +kernel)) ggX8_isEnd_X8_hashOf
theorem dX8_isEnd_0 : decode cX8_isEnd 0 = .ok (.aload_n 0, 1) := by decide +kernel
theorem dX8_isEnd_1 : decode cX8_isEnd 1 = .ok (.getfield 194, 3) := by decide +kernel
theorem dX8_isEnd_4 : decode cX8_isEnd 4 = .ok (.bipush 8, 2) := by decide +kernel
theorem dX8_isEnd_6 : decode cX8_isEnd 6 = .ok (.iand, 1) := by decide +kernel
theorem dX8_isEnd_7 : decode cX8_isEnd 7 = .ok (.ifCond .eq 32, 3) := by decide +kernel
theorem dX8_isEnd_10 : decode cX8_isEnd 10 = .ok (.aload_n 0, 1) := by decide +kernel
theorem dX8_isEnd_11 : decode cX8_isEnd 11 = .ok (.getfield 202, 3) := by decide +kernel
theorem dX8_isEnd_14 : decode cX8_isEnd 14 = .ok (.aload_n 0, 1) := by decide +kernel
theorem dX8_isEnd_15 : decode cX8_isEnd 15 = .ok (.getfield 205, 3) := by decide +kernel
theorem dX8_isEnd_18 : decode cX8_isEnd 18 = .ok (.aload_n 0, 1) := by decide +kernel
theorem dX8_isEnd_19 : decode cX8_isEnd 19 = .ok (.getfield 208, 3) := by decide +kernel
theorem dX8_isEnd_22 : decode cX8_isEnd 22 = .ok (.isub, 1) := by decide +kernel
theorem dX8_isEnd_23 : decode cX8_isEnd 23 = .ok (.i2l, 1) := by decide +kernel
theorem dX8_isEnd_24 : decode cX8_isEnd 24 = .ok (.lcmp, 1) := by decide +kernel
theorem dX8_isEnd_25 : decode cX8_isEnd 25 = .ok (.ifCond .eq 14, 3) := by decide +kernel
theorem dX8_isEnd_28 : decode cX8_isEnd 28 = .ok (.aload_n 0, 1) := by decide +kernel
theorem dX8_isEnd_29 : decode cX8_isEnd 29 = .ok (.bipush 10, 2) := by decide +kernel
theorem dX8_isEnd_31 : decode cX8_isEnd 31 = .ok (.aload_n 0, 1) := by decide +kernel
theorem dX8_isEnd_32 : decode cX8_isEnd 32 = .ok (.getfield 211, 3) := by decide +kernel
theorem dX8_isEnd_35 : decode cX8_isEnd 35 = .ok (.invokevirtual 158, 3) := by decide +kernel
theorem dX8_isEnd_38 : decode cX8_isEnd 38 = .ok (.ireturn, 1) := by decide +kernel
theorem dX8_isEnd_39 : decode cX8_isEnd 39 = .ok (.aload_n 0, 1) := by decide +kernel
theorem dX8_isEnd_40 : decode cX8_isEnd 40 = .ok (.getfield 194, 3) := by decide +kernel
theorem dX8_isEnd_43 : decode cX8_isEnd 43 = .ok (.iconst 4, 1) := by decide +kernel
theorem dX8_isEnd_44 : decode cX8_isEnd 44 = .ok (.iand, 1) := by decide +kernel
theorem dX8_isEnd_45 : decode cX8_isEnd 45 = .ok (.ifCond .eq 70, 3) := by decide +kernel
theorem dX8_isEnd_48 : decode cX8_isEnd 48 = .ok (.aload_n 0, 1) := by decide +kernel
theorem dX8_isEnd_49 : decode cX8_isEnd 49 = .ok (.ldc2_w 164, 3) := by decide +kernel
theorem dX8_isEnd_52 : decode cX8_isEnd 52 = .ok (.invokevirtual 166, 3) := by decide +kernel
theorem dX8_isEnd_55 : decode cX8_isEnd 55 = .ok (.ifCond .ne 5, 3) := by decide +kernel
theorem dX8_isEnd_58 : decode cX8_isEnd 58 = .ok (.iconst 0, 1) := by decide +kernel
theorem dX8_isEnd_59 : decode cX8_isEnd 59 = .ok (.ireturn, 1) := by decide +kernel
theorem dX8_isEnd_60 : decode cX8_isEnd 60 = .ok (.aload_n 0, 1) := by decide +kernel
theorem dX8_isEnd_61 : decode cX8_isEnd 61 = .ok (.aload_n 0, 1) := by decide +kernel
theorem dX8_isEnd_62 : decode cX8_isEnd 62 = .ok (.getfield 155, 3) := by decide +kernel
theorem dX8_isEnd_65 : decode cX8_isEnd 65 = .ok (.iconst 4, 1) := by decide +kernel
theorem dX8_isEnd_66 : decode cX8_isEnd 66 = .ok (.invokevirtual 170, 3) := by decide +kernel
theorem dX8_isEnd_69 : decode cX8_isEnd 69 = .ok (.l2i, 1) := by decide +kernel
theorem dX8_isEnd_70 : decode cX8_isEnd 70 = .ok (.aload_n 0, 1) := by decide +kernel
theorem dX8_isEnd_71 : decode cX8_isEnd 71 = .ok (.getfield 47, 3) := by decide +kernel
theorem dX8_isEnd_74 : decode cX8_isEnd 74 = .ok (.aload_n 0, 1) := by decide +kernel
theorem dX8_isEnd_75 : decode cX8_isEnd 75 = .ok (.getfield 208, 3) := by decide +kernel
theorem dX8_isEnd_78 : decode cX8_isEnd 78 = .ok (.aload_n 0, 1) := by decide +kernel
theorem dX8_isEnd_79 : decode cX8_isEnd 79 = .ok (.getfield 205, 3) := by decide +kernel
theorem dX8_isEnd_82 : decode cX8_isEnd 82 = .ok (.aload_n 0, 1) := by decide +kernel
theorem dX8_isEnd_83 : decode cX8_isEnd 83 = .ok (.getfield 208, 3) := by decide +kernel
theorem dX8_isEnd_86 : decode cX8_isEnd 86 = .ok (.isub, 1) := by decide +kernel
theorem dX8_isEnd_87 : decode cX8_isEnd 87 = .ok (.iconst 0, 1) := by decide +kernel
theorem dX8_isEnd_88 : decode cX8_isEnd 88 = .ok (.invokestatic 135, 3) := by decide +kernel
theorem dX8_isEnd_91 : decode cX8_isEnd 91 = .ok (.if_icmp .eq 14, 3) := by decide +kernel
theorem dX8_isEnd_94 : decode cX8_isEnd 94 = .ok (.aload_n 0, 1) := by decide +kernel
theorem dX8_isEnd_95 : decode cX8_isEnd 95 = .ok (.bipush 11, 2) := by decide +kernel
theorem dX8_isEnd_97 : decode cX8_isEnd 97 = .ok (.aload_n 0, 1) := by decide +kernel
theorem dX8_isEnd_98 : decode cX8_isEnd 98 = .ok (.getfield 155, 3) := by decide +kernel
theorem dX8_isEnd_101 : decode cX8_isEnd 101 = .ok (.invokevirtual 158, 3) := by decide +kernel
theorem dX8_isEnd_104 : decode cX8_isEnd 104 = .ok (.ireturn, 1) := by decide +kernel
theorem dX8_isEnd_105 : decode cX8_isEnd 105 = .ok (.aload_n 0, 1) := by decide +kernel
theorem dX8_isEnd_106 : decode cX8_isEnd 106 = .ok (.dup, 1) := by decide +kernel
theorem dX8_isEnd_107 : decode cX8_isEnd 107 = .ok (.getfield 155, 3) := by decide +kernel
theorem dX8_isEnd_110 : decode cX8_isEnd 110 = .ok (.iconst 4, 1) := by decide +kernel
theorem dX8_isEnd_111 : decode cX8_isEnd 111 = .ok (.iadd, 1) := by decide +kernel
theorem dX8_isEnd_112 : decode cX8_isEnd 112 = .ok (.putfield 155, 3) := by decide +kernel
theorem dX8_isEnd_115 : decode cX8_isEnd 115 = .ok (.aload_n 0, 1) := by decide +kernel
theorem dX8_isEnd_116 : decode cX8_isEnd 116 = .ok (.dup, 1) := by decide +kernel
theorem dX8_isEnd_117 : decode cX8_isEnd 117 = .ok (.getfield 191, 3) := by decide +kernel
theorem dX8_isEnd_120 : decode cX8_isEnd 120 = .ok (.iconst 1, 1) := by decide +kernel
theorem dX8_isEnd_121 : decode cX8_isEnd 121 = .ok (.iadd, 1) := by decide +kernel
theorem dX8_isEnd_122 : decode cX8_isEnd 122 = .ok (.putfield 191, 3) := by decide +kernel
theorem dX8_isEnd_125 : decode cX8_isEnd 125 = .ok (.iconst 1, 1) := by decide +kernel
theorem dX8_isEnd_126 : decode cX8_isEnd 126 = .ok (.ireturn, 1) := by decide +kernel
set_option maxRecDepth 20000 in
theorem ggX8_read_X8_isFrame : GoodIn wsX8_read wsX8_isFrame := goodIn_r _ [18, 19, 2, 20, 21, 22, 23, 24, 25, 17, 26, 7, 27, 28, 29, 30, 8, 6, 31, 32, 33, 34, 35, 36, 37, 38, 39, 40, 4, 41, 42, 43, 44, 45, 46, 47, 48, 3, 49, 50, 51, 52, 53, 54, 55, 56, 57, 58, 59, 60, 61, 62, 63, 64, 65, 66, 67, 68, 69, 70, 71, 72, 73, 74, 75, 76, 77, 78, 5, 79, 80, 81, 82, 83, 10, 84, 85, 86, 87, 88, 89, 90, 91, 92, 93, 94, 95, 96, 97, 98, 99, 100, 101, 102, 103, 104, 105, 106, 107, 108, 109, 110, 111, 112, 113, 114, 115, 116, 117, 118, 119, 120, 121, 122, 123, 124, 125, 126, 127, 128, 129, 130, 131, 132, 133, 134, 135, 136, 137, 138, 139, 140, 141, 142, 143, 144, 145, 146, 147, 148, 149, 150, 151, 152, 153, 154] (by decide +kernel) (by decide +kernel)
set_option maxRecDepth 20000 in
theorem gX8_read_X8_isFrame : GoodIn wsX8_read (wsV RX8 262 RX8 yX8_isFrame wsX8_isFrame) := goodIn_app (goodIn_of _ (by decide +kernel)) ggX8_read_X8_isFrame
theorem dX8_read_0 : decode cX8_read 0 = .ok (.aload_n 0, 1) := by decide +kernel
theorem dX8_read_1 : decode cX8_read 1 = .ok (.iconst 0, 1) := by decide +kernel
theorem dX8_read_2 : decode cX8_read 2 = .ok (.putfield 55, 3) := by decide +kernel
theorem dX8_read_5 : decode cX8_read 5 = .ok (.aload_n 0, 1) := by decide +kernel
theorem dX8_read_6 : decode cX8_read 6 = .ok (.iconst 0, 1) := by decide +kernel
theorem dX8_read_7 : decode cX8_read 7 = .ok (.putfield 155, 3) := by decide +kernel
theorem dX8_read_10 : decode cX8_read 10 = .ok (.aload_n 0, 1) := by decide +kernel
theorem dX8_read_11 : decode cX8_read 11 = .ok (.iconst 0, 1) := by decide +kernel
theorem dX8_read_12 : decode cX8_read 12 = .ok (.putfield 205, 3) := by decide +kernel
theorem dX8_read_15 : decode cX8_read 15 = .ok (.aload_n 0, 1) := by decide +kernel
theorem dX8_read_16 : decode cX8_read 16 = .ok (.iconst 0, 1) := by decide +kernel
theorem dX8_read_17 : decode cX8_read 17 = .ok (.putfield 191, 3) := by decide +kernel
theorem dX8_read_20 : decode cX8_read 20 = .ok (.aload_n 0, 1) := by decide +kernel
theorem dX8_read_21 : decode cX8_read 21 = .ok (.iconst 0, 1) := by decide +kernel
theorem dX8_read_22 : decode cX8_read 22 = .ok (.putfield 232, 3) := by decide +kernel
theorem dX8_read_25 : decode cX8_read 25 = .ok (.aload_n 0, 1) := by decide +kernel
theorem dX8_read_26 : decode cX8_read 26 = .ok (.iconst (-1), 1) := by decide +kernel
theorem dX8_read_27 : decode cX8_read 27 = .ok (.putfield 50, 3) := by decide +kernel
theorem dX8_read_30 : decode cX8_read 30 = .ok (.iconst 1, 1) := by decide +kernel
theorem dX8_read_31 : decode cX8_read 31 = .ok (.istore_n 1, 1) := by decide +kernel
theorem dX8_read_32 : decode cX8_read 32 = .ok (.iload_n 1, 1) := by decide +kernel
theorem dX8_read_33 : decode cX8_read 33 = .ok (.ifCond .eq 22, 3) := by decide +kernel
theorem dX8_read_36 : decode cX8_read 36 = .ok (.aload_n 0, 1) := by decide +kernel
theorem dX8_read_37 : decode cX8_read 37 = .ok (.getfield 155, 3) := by decide +kernel
theorem dX8_read_40 : decode cX8_read 40 = .ok (.aload_n 0, 1) := by decide +kernel
theorem dX8_read_41 : decode cX8_read 41 = .ok (.getfield 141, 3) := by decide +kernel
theorem dX8_read_44 : decode cX8_read 44 = .ok (.if_icmp .ge 11, 3) := by decide +kernel
theorem dX8_read_47 : decode cX8_read 47 = .ok (.aload_n 0, 1) := by decide +kernel
theorem dX8_read_48 : decode cX8_read 48 = .ok (.invokevirtual 262, 3) := by decide +kernel
theorem dX8_read_51 : decode cX8_read 51 = .ok (.istore_n 1, 1) := by decide +kernel
theorem dX8_read_52 : decode cX8_read 52 = .ok (.goto (-20), 3) := by decide +kernel
theorem dX8_read_55 : decode cX8_read 55 = .ok (.iload_n 1, 1) := by decide +kernel
theorem dX8_read_56 : decode cX8_read 56 = .ok (.ifCond .ne 11, 3) := by decide +kernel
theorem dX8_read_59 : decode cX8_read 59 = .ok (.bipush (-10), 2) := by decide +kernel
theorem dX8_read_61 : decode cX8_read 61 = .ok (.aload_n 0, 1) := by decide +kernel
theorem dX8_read_62 : decode cX8_read 62 = .ok (.getfield 152, 3) := by decide +kernel
theorem dX8_read_65 : decode cX8_read 65 = .ok (.isub, 1) := by decide +kernel
theorem dX8_read_66 : decode cX8_read 66 = .ok (.ireturn, 1) := by decide +kernel
theorem dX8_read_67 : decode cX8_read 67 = .ok (.aload_n 0, 1) := by decide +kernel
theorem dX8_read_68 : decode cX8_read 68 = .ok (.getfield 18, 3) := by decide +kernel
theorem dX8_read_71 : decode cX8_read 71 = .ok (.astore_n 2, 1) := by decide +kernel
theorem dX8_read_72 : decode cX8_read 72 = .ok (.aload_n 0, 1) := by decide +kernel
theorem dX8_read_73 : decode cX8_read 73 = .ok (.aload_n 0, 1) := by decide +kernel
theorem dX8_read_74 : decode cX8_read 74 = .ok (.getfield 47, 3) := by decide +kernel
theorem dX8_read_77 : decode cX8_read 77 = .ok (.putfield 18, 3) := by decide +kernel
theorem dX8_read_80 : decode cX8_read 80 = .ok (.aload_n 0, 1) := by decide +kernel
theorem dX8_read_81 : decode cX8_read 81 = .ok (.aload_n 2, 1) := by decide +kernel
theorem dX8_read_82 : decode cX8_read 82 = .ok (.putfield 47, 3) := by decide +kernel
theorem dX8_read_85 : decode cX8_read 85 = .ok (.aload_n 0, 1) := by decide +kernel
theorem dX8_read_86 : decode cX8_read 86 = .ok (.aload_n 0, 1) := by decide +kernel
theorem dX8_read_87 : decode cX8_read 87 = .ok (.getfield 205, 3) := by decide +kernel
theorem dX8_read_90 : decode cX8_read 90 = .ok (.putfield 265, 3) := by decide +kernel
theorem dX8_read_93 : decode cX8_read 93 = .ok (.aload_n 0, 1) := by decide +kernel
theorem dX8_read_94 : decode cX8_read 94 = .ok (.aload_n 0, 1) := by decide +kernel
theorem dX8_read_95 : decode cX8_read 95 = .ok (.getfield 191, 3) := by decide +kernel
theorem dX8_read_98 : decode cX8_read 98 = .ok (.putfield 268, 3) := by decide +kernel
theorem dX8_read_101 : decode cX8_read 101 = .ok (.aload_n 0, 1) := by decide +kernel
theorem dX8_read_102 : decode cX8_read 102 = .ok (.aload_n 0, 1) := by decide +kernel
theorem dX8_read_103 : decode cX8_read 103 = .ok (.getfield 232, 3) := by decide +kernel
theorem dX8_read_106 : decode cX8_read 106 = .ok (.putfield 271, 3) := by decide +kernel
theorem dX8_read_109 : decode cX8_read 109 = .ok (.aload_n 0, 1) := by decide +kernel
theorem dX8_read_110 : decode cX8_read 110 = .ok (.getfield 265, 3) := by decide +kernel
theorem dX8_read_113 : decode cX8_read 113 = .ok (.ireturn, 1) := by decide +kernel
theorem dX8_place_0 : decode cX8_place 0 = .ok (.aload_n 0, 1) := by decide +kernel
theorem dX8_place_1 : decode cX8_place 1 = .ok (.iconst 0, 1) := by decide +kernel
theorem dX8_place_2 : decode cX8_place 2 = .ok (.putfield 55, 3) := by decide +kernel
theorem dX8_place_5 : decode cX8_place 5 = .ok (.aload_n 0, 1) := by decide +kernel
theorem dX8_place_6 : decode cX8_place 6 = .ok (.getfield 50, 3) := by decide +kernel
theorem dX8_place_9 : decode cX8_place 9 = .ok (.ireturn, 1) := by decide +kernel
theorem dX8_count_0 : decode cX8_count 0 = .ok (.aload_n 0, 1) := by decide +kernel
theorem dX8_count_1 : decode cX8_count 1 = .ok (.iconst 0, 1) := by decide +kernel
theorem dX8_count_2 : decode cX8_count 2 = .ok (.putfield 55, 3) := by decide +kernel
theorem dX8_count_5 : decode cX8_count 5 = .ok (.iload_n 1, 1) := by decide +kernel
theorem dX8_count_6 : decode cX8_count 6 = .ok (.tableswitch 95 0 8 #[50, 55, 60, 65, 70, 75, 80, 85, 90], 50) := by decide +kernel
theorem dX8_count_56 : decode cX8_count 56 = .ok (.aload_n 0, 1) := by decide +kernel
theorem dX8_count_57 : decode cX8_count 57 = .ok (.getfield 74, 3) := by decide +kernel
theorem dX8_count_60 : decode cX8_count 60 = .ok (.ireturn, 1) := by decide +kernel
theorem dX8_count_61 : decode cX8_count 61 = .ok (.aload_n 0, 1) := by decide +kernel
theorem dX8_count_62 : decode cX8_count 62 = .ok (.getfield 141, 3) := by decide +kernel
theorem dX8_count_65 : decode cX8_count 65 = .ok (.ireturn, 1) := by decide +kernel
theorem dX8_count_66 : decode cX8_count 66 = .ok (.aload_n 0, 1) := by decide +kernel
theorem dX8_count_67 : decode cX8_count 67 = .ok (.getfield 265, 3) := by decide +kernel
theorem dX8_count_70 : decode cX8_count 70 = .ok (.ireturn, 1) := by decide +kernel
theorem dX8_count_71 : decode cX8_count 71 = .ok (.aload_n 0, 1) := by decide +kernel
theorem dX8_count_72 : decode cX8_count 72 = .ok (.getfield 93, 3) := by decide +kernel
theorem dX8_count_75 : decode cX8_count 75 = .ok (.ireturn, 1) := by decide +kernel
theorem dX8_count_76 : decode cX8_count 76 = .ok (.aload_n 0, 1) := by decide +kernel
theorem dX8_count_77 : decode cX8_count 77 = .ok (.getfield 96, 3) := by decide +kernel
theorem dX8_count_80 : decode cX8_count 80 = .ok (.ireturn, 1) := by decide +kernel
theorem dX8_count_81 : decode cX8_count 81 = .ok (.aload_n 0, 1) := by decide +kernel
theorem dX8_count_82 : decode cX8_count 82 = .ok (.getfield 127, 3) := by decide +kernel
theorem dX8_count_85 : decode cX8_count 85 = .ok (.ireturn, 1) := by decide +kernel
theorem dX8_count_86 : decode cX8_count 86 = .ok (.aload_n 0, 1) := by decide +kernel
theorem dX8_count_87 : decode cX8_count 87 = .ok (.getfield 99, 3) := by decide +kernel
theorem dX8_count_90 : decode cX8_count 90 = .ok (.ireturn, 1) := by decide +kernel
theorem dX8_count_91 : decode cX8_count 91 = .ok (.aload_n 0, 1) := by decide +kernel
theorem dX8_count_92 : decode cX8_count 92 = .ok (.getfield 268, 3) := by decide +kernel
theorem dX8_count_95 : decode cX8_count 95 = .ok (.ireturn, 1) := by decide +kernel
theorem dX8_count_96 : decode cX8_count 96 = .ok (.aload_n 0, 1) := by decide +kernel
theorem dX8_count_97 : decode cX8_count 97 = .ok (.getfield 271, 3) := by decide +kernel
theorem dX8_count_100 : decode cX8_count 100 = .ok (.ireturn, 1) := by decide +kernel
theorem dX8_count_101 : decode cX8_count 101 = .ok (.iconst (-1), 1) := by decide +kernel
theorem dX8_count_102 : decode cX8_count 102 = .ok (.ireturn, 1) := by decide +kernel
theorem dX8_sizeOfRow_0 : decode cX8_sizeOfRow 0 = .ok (.iload_n 1, 1) := by decide +kernel
theorem dX8_sizeOfRow_1 : decode cX8_sizeOfRow 1 = .ok (.ifCond .ne 10, 3) := by decide +kernel
theorem dX8_sizeOfRow_4 : decode cX8_sizeOfRow 4 = .ok (.aload_n 0, 1) := by decide +kernel
theorem dX8_sizeOfRow_5 : decode cX8_sizeOfRow 5 = .ok (.getfield 74, 3) := by decide +kernel
theorem dX8_sizeOfRow_8 : decode cX8_sizeOfRow 8 = .ok (.goto 28, 3) := by decide +kernel
theorem dX8_sizeOfRow_11 : decode cX8_sizeOfRow 11 = .ok (.iload_n 1, 1) := by decide +kernel
theorem dX8_sizeOfRow_12 : decode cX8_sizeOfRow 12 = .ok (.iconst 1, 1) := by decide +kernel
theorem dX8_sizeOfRow_13 : decode cX8_sizeOfRow 13 = .ok (.if_icmp .ne 10, 3) := by decide +kernel
theorem dX8_sizeOfRow_16 : decode cX8_sizeOfRow 16 = .ok (.aload_n 0, 1) := by decide +kernel
theorem dX8_sizeOfRow_17 : decode cX8_sizeOfRow 17 = .ok (.getfield 141, 3) := by decide +kernel
theorem dX8_sizeOfRow_20 : decode cX8_sizeOfRow 20 = .ok (.goto 16, 3) := by decide +kernel
theorem dX8_sizeOfRow_23 : decode cX8_sizeOfRow 23 = .ok (.iload_n 1, 1) := by decide +kernel
theorem dX8_sizeOfRow_24 : decode cX8_sizeOfRow 24 = .ok (.iconst 2, 1) := by decide +kernel
theorem dX8_sizeOfRow_25 : decode cX8_sizeOfRow 25 = .ok (.if_icmp .ne 10, 3) := by decide +kernel
theorem dX8_sizeOfRow_28 : decode cX8_sizeOfRow 28 = .ok (.aload_n 0, 1) := by decide +kernel
theorem dX8_sizeOfRow_29 : decode cX8_sizeOfRow 29 = .ok (.getfield 265, 3) := by decide +kernel
theorem dX8_sizeOfRow_32 : decode cX8_sizeOfRow 32 = .ok (.goto 4, 3) := by decide +kernel
theorem dX8_sizeOfRow_35 : decode cX8_sizeOfRow 35 = .ok (.iconst 0, 1) := by decide +kernel
theorem dX8_sizeOfRow_36 : decode cX8_sizeOfRow 36 = .ok (.ireturn, 1) := by decide +kernel
theorem dX8_bytesOf_0 : decode cX8_bytesOf 0 = .ok (.iload_n 1, 1) := by decide +kernel
theorem dX8_bytesOf_1 : decode cX8_bytesOf 1 = .ok (.ifCond .ne 10, 3) := by decide +kernel
theorem dX8_bytesOf_4 : decode cX8_bytesOf 4 = .ok (.aload_n 0, 1) := by decide +kernel
theorem dX8_bytesOf_5 : decode cX8_bytesOf 5 = .ok (.getfield 10, 3) := by decide +kernel
theorem dX8_bytesOf_8 : decode cX8_bytesOf 8 = .ok (.goto 19, 3) := by decide +kernel
theorem dX8_bytesOf_11 : decode cX8_bytesOf 11 = .ok (.iload_n 1, 1) := by decide +kernel
theorem dX8_bytesOf_12 : decode cX8_bytesOf 12 = .ok (.iconst 1, 1) := by decide +kernel
theorem dX8_bytesOf_13 : decode cX8_bytesOf 13 = .ok (.if_icmp .ne 10, 3) := by decide +kernel
theorem dX8_bytesOf_16 : decode cX8_bytesOf 16 = .ok (.aload_n 0, 1) := by decide +kernel
theorem dX8_bytesOf_17 : decode cX8_bytesOf 17 = .ok (.getfield 15, 3) := by decide +kernel
theorem dX8_bytesOf_20 : decode cX8_bytesOf 20 = .ok (.goto 7, 3) := by decide +kernel
theorem dX8_bytesOf_23 : decode cX8_bytesOf 23 = .ok (.aload_n 0, 1) := by decide +kernel
theorem dX8_bytesOf_24 : decode cX8_bytesOf 24 = .ok (.getfield 18, 3) := by decide +kernel
theorem dX8_bytesOf_27 : decode cX8_bytesOf 27 = .ok (.areturn, 1) := by decide +kernel
set_option maxRecDepth 20000 in
theorem ggX8_octet_X8_sizeOfRow : GoodIn wsX8_octet wsX8_sizeOfRow := goodIn_r _ [6, 7, 8, 9, 17, 18, 19, 20, 21, 22, 23, 24, 25, 26, 27, 28, 29, 30, 31, 32, 33, 34, 35, 36, 37, 38, 39, 40, 41, 42, 43, 44, 45, 46, 47, 48, 49, 50, 51, 52, 53, 54, 55] (by decide +kernel) (by decide +kernel)
set_option maxRecDepth 20000 in
theorem gX8_octet_X8_sizeOfRow : GoodIn wsX8_octet (wsV RX8 274 RX8 yX8_sizeOfRow wsX8_sizeOfRow) := goodIn_app (goodIn_of _ (by decide +kernel)) ggX8_octet_X8_sizeOfRow
set_option maxRecDepth 20000 in
theorem ggX8_octet_X8_bytesOf : GoodIn wsX8_octet wsX8_bytesOf := goodIn_r _ [13, 14, 15, 16, 17, 18, 19, 20, 21, 22, 23, 24, 25, 26, 27, 28, 29, 30, 31, 32, 33, 34, 35, 36, 37, 38, 39, 40, 41, 42, 43, 44, 45, 46, 47, 48, 49, 50, 51, 52, 53, 54, 55] (by decide +kernel) (by decide +kernel)
set_option maxRecDepth 20000 in
theorem gX8_octet_X8_bytesOf : GoodIn wsX8_octet (wsV RX8 277 RX8 yX8_bytesOf wsX8_bytesOf) := goodIn_app (goodIn_of _ (by decide +kernel)) ggX8_octet_X8_bytesOf
theorem dX8_octet_0 : decode cX8_octet 0 = .ok (.aload_n 0, 1) := by decide +kernel
theorem dX8_octet_1 : decode cX8_octet 1 = .ok (.iconst 0, 1) := by decide +kernel
theorem dX8_octet_2 : decode cX8_octet 2 = .ok (.putfield 55, 3) := by decide +kernel
theorem dX8_octet_5 : decode cX8_octet 5 = .ok (.iload_n 2, 1) := by decide +kernel
theorem dX8_octet_6 : decode cX8_octet 6 = .ok (.ifCond .lt 12, 3) := by decide +kernel
theorem dX8_octet_9 : decode cX8_octet 9 = .ok (.iload_n 2, 1) := by decide +kernel
theorem dX8_octet_10 : decode cX8_octet 10 = .ok (.aload_n 0, 1) := by decide +kernel
theorem dX8_octet_11 : decode cX8_octet 11 = .ok (.iload_n 1, 1) := by decide +kernel
theorem dX8_octet_12 : decode cX8_octet 12 = .ok (.invokevirtual 274, 3) := by decide +kernel
theorem dX8_octet_15 : decode cX8_octet 15 = .ok (.if_icmp .lt 7, 3) := by decide +kernel
theorem dX8_octet_18 : decode cX8_octet 18 = .ok (.iconst (-1), 1) := by decide +kernel
theorem dX8_octet_19 : decode cX8_octet 19 = .ok (.goto 14, 3) := by decide +kernel
theorem dX8_octet_22 : decode cX8_octet 22 = .ok (.aload_n 0, 1) := by decide +kernel
theorem dX8_octet_23 : decode cX8_octet 23 = .ok (.iload_n 1, 1) := by decide +kernel
theorem dX8_octet_24 : decode cX8_octet 24 = .ok (.invokevirtual 277, 3) := by decide +kernel
theorem dX8_octet_27 : decode cX8_octet 27 = .ok (.iload_n 2, 1) := by decide +kernel
theorem dX8_octet_28 : decode cX8_octet 28 = .ok (.baload, 1) := by decide +kernel
theorem dX8_octet_29 : decode cX8_octet 29 = .ok (.sipush 255, 3) := by decide +kernel
theorem dX8_octet_32 : decode cX8_octet 32 = .ok (.iand, 1) := by decide +kernel
theorem dX8_octet_33 : decode cX8_octet 33 = .ok (.ireturn, 1) := by decide +kernel
theorem dX8_sequence_0 : decode cX8_sequence 0 = .ok (.aload_n 0, 1) := by decide +kernel
theorem dX8_sequence_1 : decode cX8_sequence 1 = .ok (.iconst 0, 1) := by decide +kernel
theorem dX8_sequence_2 : decode cX8_sequence 2 = .ok (.putfield 55, 3) := by decide +kernel
theorem dX8_sequence_5 : decode cX8_sequence 5 = .ok (.iload_n 1, 1) := by decide +kernel
theorem dX8_sequence_6 : decode cX8_sequence 6 = .ok (.ifCond .lt 20, 3) := by decide +kernel
theorem dX8_sequence_9 : decode cX8_sequence 9 = .ok (.iload_n 1, 1) := by decide +kernel
theorem dX8_sequence_10 : decode cX8_sequence 10 = .ok (.aload_n 0, 1) := by decide +kernel
theorem dX8_sequence_11 : decode cX8_sequence 11 = .ok (.getfield 93, 3) := by decide +kernel
theorem dX8_sequence_14 : decode cX8_sequence 14 = .ok (.if_icmp .ge 12, 3) := by decide +kernel
theorem dX8_sequence_17 : decode cX8_sequence 17 = .ok (.iload_n 2, 1) := by decide +kernel
theorem dX8_sequence_18 : decode cX8_sequence 18 = .ok (.ifCond .lt 8, 3) := by decide +kernel
theorem dX8_sequence_21 : decode cX8_sequence 21 = .ok (.iload_n 2, 1) := by decide +kernel
theorem dX8_sequence_22 : decode cX8_sequence 22 = .ok (.iconst 4, 1) := by decide +kernel
theorem dX8_sequence_23 : decode cX8_sequence 23 = .ok (.if_icmp .le 5, 3) := by decide +kernel
theorem dX8_sequence_26 : decode cX8_sequence 26 = .ok (.iconst (-1), 1) := by decide +kernel
theorem dX8_sequence_27 : decode cX8_sequence 27 = .ok (.ireturn, 1) := by decide +kernel
theorem dX8_sequence_28 : decode cX8_sequence 28 = .ok (.iload_n 2, 1) := by decide +kernel
theorem dX8_sequence_29 : decode cX8_sequence 29 = .ok (.ifCond .ne 12, 3) := by decide +kernel
theorem dX8_sequence_32 : decode cX8_sequence 32 = .ok (.aload_n 0, 1) := by decide +kernel
theorem dX8_sequence_33 : decode cX8_sequence 33 = .ok (.getfield 26, 3) := by decide +kernel
theorem dX8_sequence_36 : decode cX8_sequence 36 = .ok (.iload_n 1, 1) := by decide +kernel
theorem dX8_sequence_37 : decode cX8_sequence 37 = .ok (.iaload, 1) := by decide +kernel
theorem dX8_sequence_38 : decode cX8_sequence 38 = .ok (.goto 51, 3) := by decide +kernel
theorem dX8_sequence_41 : decode cX8_sequence 41 = .ok (.iload_n 2, 1) := by decide +kernel
theorem dX8_sequence_42 : decode cX8_sequence 42 = .ok (.iconst 1, 1) := by decide +kernel
theorem dX8_sequence_43 : decode cX8_sequence 43 = .ok (.if_icmp .ne 12, 3) := by decide +kernel
theorem dX8_sequence_46 : decode cX8_sequence 46 = .ok (.aload_n 0, 1) := by decide +kernel
theorem dX8_sequence_47 : decode cX8_sequence 47 = .ok (.getfield 29, 3) := by decide +kernel
theorem dX8_sequence_50 : decode cX8_sequence 50 = .ok (.iload_n 1, 1) := by decide +kernel
theorem dX8_sequence_51 : decode cX8_sequence 51 = .ok (.iaload, 1) := by decide +kernel
theorem dX8_sequence_52 : decode cX8_sequence 52 = .ok (.goto 37, 3) := by decide +kernel
theorem dX8_sequence_55 : decode cX8_sequence 55 = .ok (.iload_n 2, 1) := by decide +kernel
theorem dX8_sequence_56 : decode cX8_sequence 56 = .ok (.iconst 2, 1) := by decide +kernel
theorem dX8_sequence_57 : decode cX8_sequence 57 = .ok (.if_icmp .ne 12, 3) := by decide +kernel
theorem dX8_sequence_60 : decode cX8_sequence 60 = .ok (.aload_n 0, 1) := by decide +kernel
theorem dX8_sequence_61 : decode cX8_sequence 61 = .ok (.getfield 32, 3) := by decide +kernel
theorem dX8_sequence_64 : decode cX8_sequence 64 = .ok (.iload_n 1, 1) := by decide +kernel
theorem dX8_sequence_65 : decode cX8_sequence 65 = .ok (.iaload, 1) := by decide +kernel
theorem dX8_sequence_66 : decode cX8_sequence 66 = .ok (.goto 23, 3) := by decide +kernel
theorem dX8_sequence_69 : decode cX8_sequence 69 = .ok (.iload_n 2, 1) := by decide +kernel
theorem dX8_sequence_70 : decode cX8_sequence 70 = .ok (.iconst 3, 1) := by decide +kernel
theorem dX8_sequence_71 : decode cX8_sequence 71 = .ok (.if_icmp .ne 12, 3) := by decide +kernel
theorem dX8_sequence_74 : decode cX8_sequence 74 = .ok (.aload_n 0, 1) := by decide +kernel
theorem dX8_sequence_75 : decode cX8_sequence 75 = .ok (.getfield 35, 3) := by decide +kernel
theorem dX8_sequence_78 : decode cX8_sequence 78 = .ok (.iload_n 1, 1) := by decide +kernel
theorem dX8_sequence_79 : decode cX8_sequence 79 = .ok (.iaload, 1) := by decide +kernel
theorem dX8_sequence_80 : decode cX8_sequence 80 = .ok (.goto 9, 3) := by decide +kernel
theorem dX8_sequence_83 : decode cX8_sequence 83 = .ok (.aload_n 0, 1) := by decide +kernel
theorem dX8_sequence_84 : decode cX8_sequence 84 = .ok (.getfield 38, 3) := by decide +kernel
theorem dX8_sequence_87 : decode cX8_sequence 87 = .ok (.iload_n 1, 1) := by decide +kernel
theorem dX8_sequence_88 : decode cX8_sequence 88 = .ok (.iaload, 1) := by decide +kernel
theorem dX8_sequence_89 : decode cX8_sequence 89 = .ok (.ireturn, 1) := by decide +kernel
set_option maxRecDepth 20000 in
theorem ggX8_hash_X8_sizeOfRow : GoodIn wsX8_hash wsX8_sizeOfRow := goodIn_r _ [8, 9, 10, 11, 36, 37, 38, 39, 40, 41, 42, 43, 44, 45, 46, 47, 48, 49, 50, 51, 52, 53, 54, 55, 56, 57, 58, 59, 60, 61, 62, 63, 64, 65, 66, 67, 68, 69, 70, 71, 72, 73, 74] (by decide +kernel) (by decide +kernel)
set_option maxRecDepth 20000 in
theorem gX8_hash_X8_sizeOfRow : GoodIn wsX8_hash (wsV RX8 274 RX8 yX8_sizeOfRow wsX8_sizeOfRow) := goodIn_app (goodIn_of _ (by decide +kernel)) ggX8_hash_X8_sizeOfRow
set_option maxRecDepth 20000 in
theorem ggX8_hash_X8_bytesOf : GoodIn wsX8_hash wsX8_bytesOf := goodIn_r _ [15, 16, 17, 18, 36, 37, 38, 39, 40, 41, 42, 43, 44, 45, 46, 47, 48, 49, 50, 51, 52, 53, 54, 55, 56, 57, 58, 59, 60, 61, 62, 63, 64, 65, 66, 67, 68, 69, 70, 71, 72, 73, 74] (by decide +kernel) (by decide +kernel)
set_option maxRecDepth 20000 in
theorem gX8_hash_X8_bytesOf : GoodIn wsX8_hash (wsV RX8 277 RX8 yX8_bytesOf wsX8_bytesOf) := goodIn_app (goodIn_of _ (by decide +kernel)) ggX8_hash_X8_bytesOf
set_option maxRecDepth 20000 in
theorem ggX8_hash_X8_hashOf : GoodIn wsX8_hash wsX8_hashOf := goodIn_r _ [21, 22, 23, 24, 25, 26, 27, 28, 7, 29, 30, 31, 32, 33, 34, 35] (by decide +kernel) (by decide +kernel)
set_option maxRecDepth 20000 in
theorem gX8_hash_X8_hashOf : GoodIn wsX8_hash (va_wsS RX8 135 yX8_hashOf wsX8_hashOf) := goodIn_app (goodIn_of _ (by decide +kernel)) ggX8_hash_X8_hashOf
theorem dX8_hash_0 : decode cX8_hash 0 = .ok (.aload_n 0, 1) := by decide +kernel
theorem dX8_hash_1 : decode cX8_hash 1 = .ok (.iconst 0, 1) := by decide +kernel
theorem dX8_hash_2 : decode cX8_hash 2 = .ok (.putfield 55, 3) := by decide +kernel
theorem dX8_hash_5 : decode cX8_hash 5 = .ok (.iload_n 1, 1) := by decide +kernel
theorem dX8_hash_6 : decode cX8_hash 6 = .ok (.ifCond .lt 27, 3) := by decide +kernel
theorem dX8_hash_9 : decode cX8_hash 9 = .ok (.iload_n 1, 1) := by decide +kernel
theorem dX8_hash_10 : decode cX8_hash 10 = .ok (.iconst 2, 1) := by decide +kernel
theorem dX8_hash_11 : decode cX8_hash 11 = .ok (.if_icmp .gt 22, 3) := by decide +kernel
theorem dX8_hash_14 : decode cX8_hash 14 = .ok (.iload_n 2, 1) := by decide +kernel
theorem dX8_hash_15 : decode cX8_hash 15 = .ok (.ifCond .lt 18, 3) := by decide +kernel
theorem dX8_hash_18 : decode cX8_hash 18 = .ok (.iload_n 3, 1) := by decide +kernel
theorem dX8_hash_19 : decode cX8_hash 19 = .ok (.ifCond .lt 14, 3) := by decide +kernel
theorem dX8_hash_22 : decode cX8_hash 22 = .ok (.iload_n 2, 1) := by decide +kernel
theorem dX8_hash_23 : decode cX8_hash 23 = .ok (.aload_n 0, 1) := by decide +kernel
theorem dX8_hash_24 : decode cX8_hash 24 = .ok (.iload_n 1, 1) := by decide +kernel
theorem dX8_hash_25 : decode cX8_hash 25 = .ok (.invokevirtual 274, 3) := by decide +kernel
theorem dX8_hash_28 : decode cX8_hash 28 = .ok (.iload_n 3, 1) := by decide +kernel
theorem dX8_hash_29 : decode cX8_hash 29 = .ok (.isub, 1) := by decide +kernel
theorem dX8_hash_30 : decode cX8_hash 30 = .ok (.if_icmp .le 7, 3) := by decide +kernel
theorem dX8_hash_33 : decode cX8_hash 33 = .ok (.ldc2_w 281, 3) := by decide +kernel
theorem dX8_hash_36 : decode cX8_hash 36 = .ok (.lreturn, 1) := by decide +kernel
theorem dX8_hash_37 : decode cX8_hash 37 = .ok (.aload_n 0, 1) := by decide +kernel
theorem dX8_hash_38 : decode cX8_hash 38 = .ok (.iload_n 1, 1) := by decide +kernel
theorem dX8_hash_39 : decode cX8_hash 39 = .ok (.invokevirtual 277, 3) := by decide +kernel
theorem dX8_hash_42 : decode cX8_hash 42 = .ok (.iload_n 2, 1) := by decide +kernel
theorem dX8_hash_43 : decode cX8_hash 43 = .ok (.iload_n 3, 1) := by decide +kernel
theorem dX8_hash_44 : decode cX8_hash 44 = .ok (.iload 4, 2) := by decide +kernel
theorem dX8_hash_46 : decode cX8_hash 46 = .ok (.invokestatic 135, 3) := by decide +kernel
theorem dX8_hash_49 : decode cX8_hash 49 = .ok (.i2l, 1) := by decide +kernel
theorem dX8_hash_50 : decode cX8_hash 50 = .ok (.ldc2_w 283, 3) := by decide +kernel
theorem dX8_hash_53 : decode cX8_hash 53 = .ok (.land, 1) := by decide +kernel
theorem dX8_hash_54 : decode cX8_hash 54 = .ok (.lreturn, 1) := by decide +kernel
theorem dX8_differs_0 : decode cX8_differs 0 = .ok (.aload_n 0, 1) := by decide +kernel
theorem dX8_differs_1 : decode cX8_differs 1 = .ok (.iconst 0, 1) := by decide +kernel
theorem dX8_differs_2 : decode cX8_differs 2 = .ok (.putfield 55, 3) := by decide +kernel
theorem dX8_differs_5 : decode cX8_differs 5 = .ok (.iconst 0, 1) := by decide +kernel
theorem dX8_differs_6 : decode cX8_differs 6 = .ok (.istore_n 1, 1) := by decide +kernel
theorem dX8_differs_7 : decode cX8_differs 7 = .ok (.iload_n 1, 1) := by decide +kernel
theorem dX8_differs_8 : decode cX8_differs 8 = .ok (.aload_n 0, 1) := by decide +kernel
theorem dX8_differs_9 : decode cX8_differs 9 = .ok (.getfield 74, 3) := by decide +kernel
theorem dX8_differs_12 : decode cX8_differs 12 = .ok (.if_icmp .ge 32, 3) := by decide +kernel
theorem dX8_differs_15 : decode cX8_differs 15 = .ok (.iload_n 1, 1) := by decide +kernel
theorem dX8_differs_16 : decode cX8_differs 16 = .ok (.aload_n 0, 1) := by decide +kernel
theorem dX8_differs_17 : decode cX8_differs 17 = .ok (.getfield 265, 3) := by decide +kernel
theorem dX8_differs_20 : decode cX8_differs 20 = .ok (.if_icmp .ge 24, 3) := by decide +kernel
theorem dX8_differs_23 : decode cX8_differs 23 = .ok (.aload_n 0, 1) := by decide +kernel
theorem dX8_differs_24 : decode cX8_differs 24 = .ok (.getfield 10, 3) := by decide +kernel
theorem dX8_differs_27 : decode cX8_differs 27 = .ok (.iload_n 1, 1) := by decide +kernel
theorem dX8_differs_28 : decode cX8_differs 28 = .ok (.baload, 1) := by decide +kernel
theorem dX8_differs_29 : decode cX8_differs 29 = .ok (.aload_n 0, 1) := by decide +kernel
theorem dX8_differs_30 : decode cX8_differs 30 = .ok (.getfield 18, 3) := by decide +kernel
theorem dX8_differs_33 : decode cX8_differs 33 = .ok (.iload_n 1, 1) := by decide +kernel
theorem dX8_differs_34 : decode cX8_differs 34 = .ok (.baload, 1) := by decide +kernel
theorem dX8_differs_35 : decode cX8_differs 35 = .ok (.if_icmp .ne 9, 3) := by decide +kernel
theorem dX8_differs_38 : decode cX8_differs 38 = .ok (.iinc 1 1, 3) := by decide +kernel
theorem dX8_differs_41 : decode cX8_differs 41 = .ok (.goto (-34), 3) := by decide +kernel
theorem dX8_differs_44 : decode cX8_differs 44 = .ok (.iload_n 1, 1) := by decide +kernel
theorem dX8_differs_45 : decode cX8_differs 45 = .ok (.aload_n 0, 1) := by decide +kernel
theorem dX8_differs_46 : decode cX8_differs 46 = .ok (.getfield 74, 3) := by decide +kernel
theorem dX8_differs_49 : decode cX8_differs 49 = .ok (.if_icmp .ne 15, 3) := by decide +kernel
theorem dX8_differs_52 : decode cX8_differs 52 = .ok (.iload_n 1, 1) := by decide +kernel
theorem dX8_differs_53 : decode cX8_differs 53 = .ok (.aload_n 0, 1) := by decide +kernel
theorem dX8_differs_54 : decode cX8_differs 54 = .ok (.getfield 265, 3) := by decide +kernel
theorem dX8_differs_57 : decode cX8_differs 57 = .ok (.if_icmp .ne 7, 3) := by decide +kernel
theorem dX8_differs_60 : decode cX8_differs 60 = .ok (.iconst (-1), 1) := by decide +kernel
theorem dX8_differs_61 : decode cX8_differs 61 = .ok (.goto 4, 3) := by decide +kernel
theorem dX8_differs_64 : decode cX8_differs 64 = .ok (.iload_n 1, 1) := by decide +kernel
theorem dX8_differs_65 : decode cX8_differs 65 = .ok (.ireturn, 1) := by decide +kernel
