theorem dX9_pays_117 : decode cX9_pays 117 = .ok (.iaload, 1) := by decide +kernel
theorem dX9_pays_118 : decode cX9_pays 118 = .ok (.iconst 1, 1) := by decide +kernel
theorem dX9_pays_119 : decode cX9_pays 119 = .ok (.iadd, 1) := by decide +kernel
theorem dX9_pays_120 : decode cX9_pays 120 = .ok (.iastore, 1) := by decide +kernel
theorem dX9_pays_121 : decode cX9_pays 121 = .ok (.iload_n 2, 1) := by decide +kernel
theorem dX9_pays_122 : decode cX9_pays 122 = .ok (.ireturn, 1) := by decide +kernel
set_option maxRecDepth 20000 in
theorem ggX9_lands_X9_isSea : GoodIn wsX9_lands wsX9_isSea := goodIn_r _ [8, 3, 9, 16, 17, 18, 19, 20, 21, 22, 23, 24, 25, 26, 27, 28, 29, 30, 31, 32, 33, 34, 35, 36, 37, 38, 39, 40, 41, 42, 43] (by decide +kernel) (by decide +kernel)
set_option maxRecDepth 20000 in
theorem gX9_lands_X9_isSea : GoodIn wsX9_lands (wsV RX9 131 RX9 yX9_isSea wsX9_isSea) := goodIn_app (goodIn_of _ (by decide +kernel)) ggX9_lands_X9_isSea
set_option maxRecDepth 20000 in
theorem ggX9_lands_X9_notes : GoodIn wsX9_lands wsX9_notes := goodIn_r _ [13, 14, 15, 3, 16, 17, 18, 19, 20, 21, 22, 23, 24, 25, 26, 27, 28, 29, 30, 31, 32, 33, 34, 35, 36, 37, 38, 39, 40, 41, 42, 43] (by decide +kernel) (by decide +kernel)
set_option maxRecDepth 20000 in
theorem gX9_lands_X9_notes : GoodIn wsX9_lands (wsV RX9 138 RX9 yX9_notes wsX9_notes) := goodIn_app (goodIn_of _ (by decide +kernel)) ggX9_lands_X9_notes
theorem dX9_lands_0 : decode cX9_lands 0 = .ok (.aload_n 0, 1) := by decide +kernel
theorem dX9_lands_1 : decode cX9_lands 1 = .ok (.iconst 0, 1) := by decide +kernel
theorem dX9_lands_2 : decode cX9_lands 2 = .ok (.putfield 62, 3) := by decide +kernel
theorem dX9_lands_5 : decode cX9_lands 5 = .ok (.aload_n 0, 1) := by decide +kernel
theorem dX9_lands_6 : decode cX9_lands 6 = .ok (.invokevirtual 131, 3) := by decide +kernel
theorem dX9_lands_9 : decode cX9_lands 9 = .ok (.ifCond .ne 30, 3) := by decide +kernel
theorem dX9_lands_12 : decode cX9_lands 12 = .ok (.aload_n 0, 1) := by decide +kernel
theorem dX9_lands_13 : decode cX9_lands 13 = .ok (.getfield 28, 3) := by decide +kernel
theorem dX9_lands_16 : decode cX9_lands 16 = .ok (.aload_n 0, 1) := by decide +kernel
theorem dX9_lands_17 : decode cX9_lands 17 = .ok (.getfield 31, 3) := by decide +kernel
theorem dX9_lands_20 : decode cX9_lands 20 = .ok (.iconst 0, 1) := by decide +kernel
theorem dX9_lands_21 : decode cX9_lands 21 = .ok (.iaload, 1) := by decide +kernel
theorem dX9_lands_22 : decode cX9_lands 22 = .ok (.iaload, 1) := by decide +kernel
theorem dX9_lands_23 : decode cX9_lands 23 = .ok (.aload_n 0, 1) := by decide +kernel
theorem dX9_lands_24 : decode cX9_lands 24 = .ok (.getfield 31, 3) := by decide +kernel
theorem dX9_lands_27 : decode cX9_lands 27 = .ok (.iconst 1, 1) := by decide +kernel
theorem dX9_lands_28 : decode cX9_lands 28 = .ok (.iaload, 1) := by decide +kernel
theorem dX9_lands_29 : decode cX9_lands 29 = .ok (.imul, 1) := by decide +kernel
theorem dX9_lands_30 : decode cX9_lands 30 = .ok (.aload_n 0, 1) := by decide +kernel
theorem dX9_lands_31 : decode cX9_lands 31 = .ok (.getfield 31, 3) := by decide +kernel
theorem dX9_lands_34 : decode cX9_lands 34 = .ok (.iconst 2, 1) := by decide +kernel
theorem dX9_lands_35 : decode cX9_lands 35 = .ok (.iaload, 1) := by decide +kernel
theorem dX9_lands_36 : decode cX9_lands 36 = .ok (.if_icmp .le 6, 3) := by decide +kernel
theorem dX9_lands_39 : decode cX9_lands 39 = .ok (.bipush (-2), 2) := by decide +kernel
theorem dX9_lands_41 : decode cX9_lands 41 = .ok (.ireturn, 1) := by decide +kernel
theorem dX9_lands_42 : decode cX9_lands 42 = .ok (.aload_n 0, 1) := by decide +kernel
theorem dX9_lands_43 : decode cX9_lands 43 = .ok (.invokevirtual 138, 3) := by decide +kernel
theorem dX9_lands_46 : decode cX9_lands 46 = .ok (.aload_n 0, 1) := by decide +kernel
theorem dX9_lands_47 : decode cX9_lands 47 = .ok (.getfield 28, 3) := by decide +kernel
theorem dX9_lands_50 : decode cX9_lands 50 = .ok (.aload_n 0, 1) := by decide +kernel
theorem dX9_lands_51 : decode cX9_lands 51 = .ok (.getfield 31, 3) := by decide +kernel
theorem dX9_lands_54 : decode cX9_lands 54 = .ok (.iconst 0, 1) := by decide +kernel
theorem dX9_lands_55 : decode cX9_lands 55 = .ok (.iaload, 1) := by decide +kernel
theorem dX9_lands_56 : decode cX9_lands 56 = .ok (.iaload, 1) := by decide +kernel
theorem dX9_lands_57 : decode cX9_lands 57 = .ok (.aload_n 0, 1) := by decide +kernel
theorem dX9_lands_58 : decode cX9_lands 58 = .ok (.getfield 31, 3) := by decide +kernel
theorem dX9_lands_61 : decode cX9_lands 61 = .ok (.iconst 1, 1) := by decide +kernel
theorem dX9_lands_62 : decode cX9_lands 62 = .ok (.iaload, 1) := by decide +kernel
theorem dX9_lands_63 : decode cX9_lands 63 = .ok (.imul, 1) := by decide +kernel
theorem dX9_lands_64 : decode cX9_lands 64 = .ok (.istore_n 1, 1) := by decide +kernel
theorem dX9_lands_65 : decode cX9_lands 65 = .ok (.aload_n 0, 1) := by decide +kernel
theorem dX9_lands_66 : decode cX9_lands 66 = .ok (.getfield 31, 3) := by decide +kernel
theorem dX9_lands_69 : decode cX9_lands 69 = .ok (.iconst 2, 1) := by decide +kernel
theorem dX9_lands_70 : decode cX9_lands 70 = .ok (.dup2, 1) := by decide +kernel
theorem dX9_lands_71 : decode cX9_lands 71 = .ok (.iaload, 1) := by decide +kernel
theorem dX9_lands_72 : decode cX9_lands 72 = .ok (.iload_n 1, 1) := by decide +kernel
theorem dX9_lands_73 : decode cX9_lands 73 = .ok (.isub, 1) := by decide +kernel
theorem dX9_lands_74 : decode cX9_lands 74 = .ok (.iastore, 1) := by decide +kernel
theorem dX9_lands_75 : decode cX9_lands 75 = .ok (.aload_n 0, 1) := by decide +kernel
theorem dX9_lands_76 : decode cX9_lands 76 = .ok (.getfield 31, 3) := by decide +kernel
theorem dX9_lands_79 : decode cX9_lands 79 = .ok (.iconst 3, 1) := by decide +kernel
theorem dX9_lands_80 : decode cX9_lands 80 = .ok (.iconst 0, 1) := by decide +kernel
theorem dX9_lands_81 : decode cX9_lands 81 = .ok (.iastore, 1) := by decide +kernel
theorem dX9_lands_82 : decode cX9_lands 82 = .ok (.aload_n 0, 1) := by decide +kernel
theorem dX9_lands_83 : decode cX9_lands 83 = .ok (.getfield 31, 3) := by decide +kernel
theorem dX9_lands_86 : decode cX9_lands 86 = .ok (.iconst 0, 1) := by decide +kernel
theorem dX9_lands_87 : decode cX9_lands 87 = .ok (.dup2, 1) := by decide +kernel
theorem dX9_lands_88 : decode cX9_lands 88 = .ok (.iaload, 1) := by decide +kernel
theorem dX9_lands_89 : decode cX9_lands 89 = .ok (.iconst 1, 1) := by decide +kernel
theorem dX9_lands_90 : decode cX9_lands 90 = .ok (.iadd, 1) := by decide +kernel
theorem dX9_lands_91 : decode cX9_lands 91 = .ok (.iastore, 1) := by decide +kernel
theorem dX9_lands_92 : decode cX9_lands 92 = .ok (.iload_n 1, 1) := by decide +kernel
theorem dX9_lands_93 : decode cX9_lands 93 = .ok (.ireturn, 1) := by decide +kernel
set_option maxRecDepth 20000 in
theorem ggX9_nights_X9_in : GoodIn wsX9_nights wsX9_in := goodIn_r _ [11] (by decide +kernel) (by decide +kernel)
set_option maxRecDepth 20000 in
theorem gX9_nights_X9_in : GoodIn wsX9_nights (va_wsS RX9 66 yX9_in wsX9_in) := goodIn_app (goodIn_of _ (by decide +kernel)) ggX9_nights_X9_in
set_option maxRecDepth 20000 in
theorem ggX9_nights_X9_isSea : GoodIn wsX9_nights wsX9_isSea := goodIn_r _ [15, 4, 16, 23, 24, 25, 26, 27, 28, 29, 30, 31, 32, 33, 34, 35, 36, 37, 38, 39, 40, 41, 42, 43, 44, 45, 46, 47, 48, 49, 50] (by decide +kernel) (by decide +kernel)
set_option maxRecDepth 20000 in
theorem gX9_nights_X9_isSea : GoodIn wsX9_nights (wsV RX9 131 RX9 yX9_isSea wsX9_isSea) := goodIn_app (goodIn_of _ (by decide +kernel)) ggX9_nights_X9_isSea
set_option maxRecDepth 20000 in
theorem ggX9_nights_X9_notes : GoodIn wsX9_nights wsX9_notes := goodIn_r _ [20, 21, 22, 4, 23, 24, 25, 26, 27, 28, 29, 30, 31, 32, 33, 34, 35, 36, 37, 38, 39, 40, 41, 42, 43, 44, 45, 46, 47, 48, 49, 50] (by decide +kernel) (by decide +kernel)
set_option maxRecDepth 20000 in
theorem gX9_nights_X9_notes : GoodIn wsX9_nights (wsV RX9 138 RX9 yX9_notes wsX9_notes) := goodIn_app (goodIn_of _ (by decide +kernel)) ggX9_nights_X9_notes
theorem dX9_nights_0 : decode cX9_nights 0 = .ok (.aload_n 0, 1) := by decide +kernel
theorem dX9_nights_1 : decode cX9_nights 1 = .ok (.iconst 0, 1) := by decide +kernel
theorem dX9_nights_2 : decode cX9_nights 2 = .ok (.putfield 62, 3) := by decide +kernel
theorem dX9_nights_5 : decode cX9_nights 5 = .ok (.iload_n 1, 1) := by decide +kernel
theorem dX9_nights_6 : decode cX9_nights 6 = .ok (.iconst 0, 1) := by decide +kernel
theorem dX9_nights_7 : decode cX9_nights 7 = .ok (.sipush 9999, 3) := by decide +kernel
theorem dX9_nights_10 : decode cX9_nights 10 = .ok (.invokestatic 66, 3) := by decide +kernel
theorem dX9_nights_13 : decode cX9_nights 13 = .ok (.ifCond .ne 5, 3) := by decide +kernel
theorem dX9_nights_16 : decode cX9_nights 16 = .ok (.iconst (-1), 1) := by decide +kernel
theorem dX9_nights_17 : decode cX9_nights 17 = .ok (.ireturn, 1) := by decide +kernel
theorem dX9_nights_18 : decode cX9_nights 18 = .ok (.aload_n 0, 1) := by decide +kernel
theorem dX9_nights_19 : decode cX9_nights 19 = .ok (.invokevirtual 131, 3) := by decide +kernel
theorem dX9_nights_22 : decode cX9_nights 22 = .ok (.ifCond .eq 6, 3) := by decide +kernel
theorem dX9_nights_25 : decode cX9_nights 25 = .ok (.bipush (-2), 2) := by decide +kernel
theorem dX9_nights_27 : decode cX9_nights 27 = .ok (.ireturn, 1) := by decide +kernel
theorem dX9_nights_28 : decode cX9_nights 28 = .ok (.aload_n 0, 1) := by decide +kernel
theorem dX9_nights_29 : decode cX9_nights 29 = .ok (.invokevirtual 138, 3) := by decide +kernel
theorem dX9_nights_32 : decode cX9_nights 32 = .ok (.ldc2_w 141, 3) := by decide +kernel
theorem dX9_nights_35 : decode cX9_nights 35 = .ok (.iload_n 1, 1) := by decide +kernel
theorem dX9_nights_36 : decode cX9_nights 36 = .ok (.i2l, 1) := by decide +kernel
theorem dX9_nights_37 : decode cX9_nights 37 = .ok (.lmul, 1) := by decide +kernel
theorem dX9_nights_38 : decode cX9_nights 38 = .ok (.ldc2_w 143, 3) := by decide +kernel
theorem dX9_nights_41 : decode cX9_nights 41 = .ok (.aload_n 0, 1) := by decide +kernel
theorem dX9_nights_42 : decode cX9_nights 42 = .ok (.getfield 31, 3) := by decide +kernel
theorem dX9_nights_45 : decode cX9_nights 45 = .ok (.iconst 0, 1) := by decide +kernel
theorem dX9_nights_46 : decode cX9_nights 46 = .ok (.iaload, 1) := by decide +kernel
theorem dX9_nights_47 : decode cX9_nights 47 = .ok (.i2l, 1) := by decide +kernel
theorem dX9_nights_48 : decode cX9_nights 48 = .ok (.lmul, 1) := by decide +kernel
theorem dX9_nights_49 : decode cX9_nights 49 = .ok (.ladd, 1) := by decide +kernel
theorem dX9_nights_50 : decode cX9_nights 50 = .ok (.lconst 1, 1) := by decide +kernel
theorem dX9_nights_51 : decode cX9_nights 51 = .ok (.ladd, 1) := by decide +kernel
theorem dX9_nights_52 : decode cX9_nights 52 = .ok (.lstore_n 2, 1) := by decide +kernel
theorem dX9_nights_53 : decode cX9_nights 53 = .ok (.lload_n 2, 1) := by decide +kernel
theorem dX9_nights_54 : decode cX9_nights 54 = .ok (.lload_n 2, 1) := by decide +kernel
theorem dX9_nights_55 : decode cX9_nights 55 = .ok (.lmul, 1) := by decide +kernel
theorem dX9_nights_56 : decode cX9_nights 56 = .ok (.ldc2_w 145, 3) := by decide +kernel
theorem dX9_nights_59 : decode cX9_nights 59 = .ok (.lrem, 1) := by decide +kernel
theorem dX9_nights_60 : decode cX9_nights 60 = .ok (.ldc2_w 147, 3) := by decide +kernel
theorem dX9_nights_63 : decode cX9_nights 63 = .ok (.ldiv, 1) := by decide +kernel
theorem dX9_nights_64 : decode cX9_nights 64 = .ok (.l2i, 1) := by decide +kernel
theorem dX9_nights_65 : decode cX9_nights 65 = .ok (.istore 4, 2) := by decide +kernel
theorem dX9_nights_67 : decode cX9_nights 67 = .ok (.iload 4, 2) := by decide +kernel
theorem dX9_nights_69 : decode cX9_nights 69 = .ok (.bipush 10, 2) := by decide +kernel
theorem dX9_nights_71 : decode cX9_nights 71 = .ok (.irem, 1) := by decide +kernel
theorem dX9_nights_72 : decode cX9_nights 72 = .ok (.aload_n 0, 1) := by decide +kernel
theorem dX9_nights_73 : decode cX9_nights 73 = .ok (.getfield 25, 3) := by decide +kernel
theorem dX9_nights_76 : decode cX9_nights 76 = .ok (.aload_n 0, 1) := by decide +kernel
theorem dX9_nights_77 : decode cX9_nights 77 = .ok (.getfield 31, 3) := by decide +kernel
theorem dX9_nights_80 : decode cX9_nights 80 = .ok (.iconst 0, 1) := by decide +kernel
theorem dX9_nights_81 : decode cX9_nights 81 = .ok (.iaload, 1) := by decide +kernel
theorem dX9_nights_82 : decode cX9_nights 82 = .ok (.iaload, 1) := by decide +kernel
theorem dX9_nights_83 : decode cX9_nights 83 = .ok (.if_icmp .ge 16, 3) := by decide +kernel
theorem dX9_nights_86 : decode cX9_nights 86 = .ok (.aload_n 0, 1) := by decide +kernel
theorem dX9_nights_87 : decode cX9_nights 87 = .ok (.getfield 31, 3) := by decide +kernel
theorem dX9_nights_90 : decode cX9_nights 90 = .ok (.iconst 1, 1) := by decide +kernel
theorem dX9_nights_91 : decode cX9_nights 91 = .ok (.iaload, 1) := by decide +kernel
theorem dX9_nights_92 : decode cX9_nights 92 = .ok (.iconst 1, 1) := by decide +kernel
theorem dX9_nights_93 : decode cX9_nights 93 = .ok (.iadd, 1) := by decide +kernel
theorem dX9_nights_94 : decode cX9_nights 94 = .ok (.iconst 2, 1) := by decide +kernel
theorem dX9_nights_95 : decode cX9_nights 95 = .ok (.idiv, 1) := by decide +kernel
theorem dX9_nights_96 : decode cX9_nights 96 = .ok (.goto 4, 3) := by decide +kernel
theorem dX9_nights_99 : decode cX9_nights 99 = .ok (.iconst 0, 1) := by decide +kernel
theorem dX9_nights_100 : decode cX9_nights 100 = .ok (.istore 5, 2) := by decide +kernel
theorem dX9_nights_102 : decode cX9_nights 102 = .ok (.aload_n 0, 1) := by decide +kernel
theorem dX9_nights_103 : decode cX9_nights 103 = .ok (.getfield 31, 3) := by decide +kernel
theorem dX9_nights_106 : decode cX9_nights 106 = .ok (.iconst 1, 1) := by decide +kernel
theorem dX9_nights_107 : decode cX9_nights 107 = .ok (.dup2, 1) := by decide +kernel
theorem dX9_nights_108 : decode cX9_nights 108 = .ok (.iaload, 1) := by decide +kernel
theorem dX9_nights_109 : decode cX9_nights 109 = .ok (.iload 5, 2) := by decide +kernel
theorem dX9_nights_111 : decode cX9_nights 111 = .ok (.isub, 1) := by decide +kernel
theorem dX9_nights_112 : decode cX9_nights 112 = .ok (.iastore, 1) := by decide +kernel
theorem dX9_nights_113 : decode cX9_nights 113 = .ok (.aload_n 0, 1) := by decide +kernel
theorem dX9_nights_114 : decode cX9_nights 114 = .ok (.getfield 31, 3) := by decide +kernel
theorem dX9_nights_117 : decode cX9_nights 117 = .ok (.iconst 4, 1) := by decide +kernel
theorem dX9_nights_118 : decode cX9_nights 118 = .ok (.dup2, 1) := by decide +kernel
theorem dX9_nights_119 : decode cX9_nights 119 = .ok (.iaload, 1) := by decide +kernel
theorem dX9_nights_120 : decode cX9_nights 120 = .ok (.iload 5, 2) := by decide +kernel
theorem dX9_nights_122 : decode cX9_nights 122 = .ok (.iadd, 1) := by decide +kernel
theorem dX9_nights_123 : decode cX9_nights 123 = .ok (.iastore, 1) := by decide +kernel
theorem dX9_nights_124 : decode cX9_nights 124 = .ok (.aload_n 0, 1) := by decide +kernel
theorem dX9_nights_125 : decode cX9_nights 125 = .ok (.getfield 31, 3) := by decide +kernel
theorem dX9_nights_128 : decode cX9_nights 128 = .ok (.iconst 3, 1) := by decide +kernel
theorem dX9_nights_129 : decode cX9_nights 129 = .ok (.iconst 0, 1) := by decide +kernel
theorem dX9_nights_130 : decode cX9_nights 130 = .ok (.iastore, 1) := by decide +kernel
theorem dX9_nights_131 : decode cX9_nights 131 = .ok (.aload_n 0, 1) := by decide +kernel
theorem dX9_nights_132 : decode cX9_nights 132 = .ok (.getfield 31, 3) := by decide +kernel
theorem dX9_nights_135 : decode cX9_nights 135 = .ok (.iconst 0, 1) := by decide +kernel
theorem dX9_nights_136 : decode cX9_nights 136 = .ok (.dup2, 1) := by decide +kernel
theorem dX9_nights_137 : decode cX9_nights 137 = .ok (.iaload, 1) := by decide +kernel
theorem dX9_nights_138 : decode cX9_nights 138 = .ok (.iconst 1, 1) := by decide +kernel
theorem dX9_nights_139 : decode cX9_nights 139 = .ok (.iadd, 1) := by decide +kernel
theorem dX9_nights_140 : decode cX9_nights 140 = .ok (.iastore, 1) := by decide +kernel
theorem dX9_nights_141 : decode cX9_nights 141 = .ok (.iload 5, 2) := by decide +kernel
theorem dX9_nights_143 : decode cX9_nights 143 = .ok (.ireturn, 1) := by decide +kernel
set_option maxRecDepth 20000 in
theorem ggX9_sells_X9_in : GoodIn wsX9_sells wsX9_in := goodIn_r _ [7] (by decide +kernel) (by decide +kernel)
set_option maxRecDepth 20000 in
theorem gX9_sells_X9_in : GoodIn wsX9_sells (va_wsS RX9 66 yX9_in wsX9_in) := goodIn_app (goodIn_of _ (by decide +kernel)) ggX9_sells_X9_in
set_option maxRecDepth 20000 in
theorem ggX9_sells_X9_notes : GoodIn wsX9_sells wsX9_notes := goodIn_r _ [11, 12, 13, 2, 14, 15, 16, 17, 18, 19, 20, 21, 22, 23, 24, 25, 26, 27, 28, 29, 30, 31, 32, 33, 34, 35, 36, 37, 38, 39, 40, 41] (by decide +kernel) (by decide +kernel)
set_option maxRecDepth 20000 in
theorem gX9_sells_X9_notes : GoodIn wsX9_sells (wsV RX9 138 RX9 yX9_notes wsX9_notes) := goodIn_app (goodIn_of _ (by decide +kernel)) ggX9_sells_X9_notes
theorem dX9_sells_0 : decode cX9_sells 0 = .ok (.aload_n 0, 1) := by decide +kernel
theorem dX9_sells_1 : decode cX9_sells 1 = .ok (.iconst 0, 1) := by decide +kernel
theorem dX9_sells_2 : decode cX9_sells 2 = .ok (.putfield 62, 3) := by decide +kernel
theorem dX9_sells_5 : decode cX9_sells 5 = .ok (.iload_n 1, 1) := by decide +kernel
theorem dX9_sells_6 : decode cX9_sells 6 = .ok (.iconst 1, 1) := by decide +kernel
theorem dX9_sells_7 : decode cX9_sells 7 = .ok (.bipush 30, 2) := by decide +kernel
theorem dX9_sells_9 : decode cX9_sells 9 = .ok (.invokestatic 66, 3) := by decide +kernel
theorem dX9_sells_12 : decode cX9_sells 12 = .ok (.ifCond .eq 13, 3) := by decide +kernel
theorem dX9_sells_15 : decode cX9_sells 15 = .ok (.iload_n 2, 1) := by decide +kernel
theorem dX9_sells_16 : decode cX9_sells 16 = .ok (.iconst 0, 1) := by decide +kernel
theorem dX9_sells_17 : decode cX9_sells 17 = .ok (.bipush 30, 2) := by decide +kernel
theorem dX9_sells_19 : decode cX9_sells 19 = .ok (.invokestatic 66, 3) := by decide +kernel
theorem dX9_sells_22 : decode cX9_sells 22 = .ok (.ifCond .ne 5, 3) := by decide +kernel
theorem dX9_sells_25 : decode cX9_sells 25 = .ok (.iconst (-1), 1) := by decide +kernel
theorem dX9_sells_26 : decode cX9_sells 26 = .ok (.ireturn, 1) := by decide +kernel
theorem dX9_sells_27 : decode cX9_sells 27 = .ok (.iload_n 1, 1) := by decide +kernel
theorem dX9_sells_28 : decode cX9_sells 28 = .ok (.aload_n 0, 1) := by decide +kernel
theorem dX9_sells_29 : decode cX9_sells 29 = .ok (.getfield 31, 3) := by decide +kernel
theorem dX9_sells_32 : decode cX9_sells 32 = .ok (.iconst 1, 1) := by decide +kernel
theorem dX9_sells_33 : decode cX9_sells 33 = .ok (.iaload, 1) := by decide +kernel
theorem dX9_sells_34 : decode cX9_sells 34 = .ok (.if_icmp .gt 18, 3) := by decide +kernel
theorem dX9_sells_37 : decode cX9_sells 37 = .ok (.aload_n 0, 1) := by decide +kernel
theorem dX9_sells_38 : decode cX9_sells 38 = .ok (.getfield 31, 3) := by decide +kernel
theorem dX9_sells_41 : decode cX9_sells 41 = .ok (.iconst 2, 1) := by decide +kernel
theorem dX9_sells_42 : decode cX9_sells 42 = .ok (.iaload, 1) := by decide +kernel
theorem dX9_sells_43 : decode cX9_sells 43 = .ok (.iload_n 1, 1) := by decide +kernel
theorem dX9_sells_44 : decode cX9_sells 44 = .ok (.iload_n 2, 1) := by decide +kernel
theorem dX9_sells_45 : decode cX9_sells 45 = .ok (.imul, 1) := by decide +kernel
theorem dX9_sells_46 : decode cX9_sells 46 = .ok (.iadd, 1) := by decide +kernel
theorem dX9_sells_47 : decode cX9_sells 47 = .ok (.ldc 149, 2) := by decide +kernel
theorem dX9_sells_49 : decode cX9_sells 49 = .ok (.if_icmp .le 6, 3) := by decide +kernel
theorem dX9_sells_52 : decode cX9_sells 52 = .ok (.bipush (-2), 2) := by decide +kernel
theorem dX9_sells_54 : decode cX9_sells 54 = .ok (.ireturn, 1) := by decide +kernel
theorem dX9_sells_55 : decode cX9_sells 55 = .ok (.aload_n 0, 1) := by decide +kernel
theorem dX9_sells_56 : decode cX9_sells 56 = .ok (.invokevirtual 138, 3) := by decide +kernel
theorem dX9_sells_59 : decode cX9_sells 59 = .ok (.aload_n 0, 1) := by decide +kernel
theorem dX9_sells_60 : decode cX9_sells 60 = .ok (.getfield 31, 3) := by decide +kernel
theorem dX9_sells_63 : decode cX9_sells 63 = .ok (.iconst 1, 1) := by decide +kernel
theorem dX9_sells_64 : decode cX9_sells 64 = .ok (.dup2, 1) := by decide +kernel
theorem dX9_sells_65 : decode cX9_sells 65 = .ok (.iaload, 1) := by decide +kernel
theorem dX9_sells_66 : decode cX9_sells 66 = .ok (.iload_n 1, 1) := by decide +kernel
theorem dX9_sells_67 : decode cX9_sells 67 = .ok (.isub, 1) := by decide +kernel
theorem dX9_sells_68 : decode cX9_sells 68 = .ok (.iastore, 1) := by decide +kernel
theorem dX9_sells_69 : decode cX9_sells 69 = .ok (.aload_n 0, 1) := by decide +kernel
theorem dX9_sells_70 : decode cX9_sells 70 = .ok (.getfield 31, 3) := by decide +kernel
theorem dX9_sells_73 : decode cX9_sells 73 = .ok (.iconst 2, 1) := by decide +kernel
theorem dX9_sells_74 : decode cX9_sells 74 = .ok (.dup2, 1) := by decide +kernel
theorem dX9_sells_75 : decode cX9_sells 75 = .ok (.iaload, 1) := by decide +kernel
theorem dX9_sells_76 : decode cX9_sells 76 = .ok (.iload_n 1, 1) := by decide +kernel
theorem dX9_sells_77 : decode cX9_sells 77 = .ok (.iload_n 2, 1) := by decide +kernel
theorem dX9_sells_78 : decode cX9_sells 78 = .ok (.imul, 1) := by decide +kernel
theorem dX9_sells_79 : decode cX9_sells 79 = .ok (.iadd, 1) := by decide +kernel
theorem dX9_sells_80 : decode cX9_sells 80 = .ok (.iastore, 1) := by decide +kernel
theorem dX9_sells_81 : decode cX9_sells 81 = .ok (.aload_n 0, 1) := by decide +kernel
theorem dX9_sells_82 : decode cX9_sells 82 = .ok (.getfield 31, 3) := by decide +kernel
theorem dX9_sells_85 : decode cX9_sells 85 = .ok (.iconst 2, 1) := by decide +kernel
theorem dX9_sells_86 : decode cX9_sells 86 = .ok (.iaload, 1) := by decide +kernel
theorem dX9_sells_87 : decode cX9_sells 87 = .ok (.ireturn, 1) := by decide +kernel
set_option maxRecDepth 20000 in
theorem ggX9_sets_X9_isRock : GoodIn wsX9_sets wsX9_isRock := goodIn_r _ [7, 8, 9, 10, 6, 11, 18, 19, 20, 21, 22, 23, 24, 25, 26, 27, 28, 29, 30, 31, 32, 33, 34, 35, 36, 37, 38, 39, 40, 41, 42, 43, 44, 45] (by decide +kernel) (by decide +kernel)
set_option maxRecDepth 20000 in
theorem gX9_sets_X9_isRock : GoodIn wsX9_sets (wsV RX9 127 RX9 yX9_isRock wsX9_isRock) := goodIn_app (goodIn_of _ (by decide +kernel)) ggX9_sets_X9_isRock
set_option maxRecDepth 20000 in
theorem ggX9_sets_X9_in : GoodIn wsX9_sets wsX9_in := goodIn_r _ [11] (by decide +kernel) (by decide +kernel)
set_option maxRecDepth 20000 in
theorem gX9_sets_X9_in : GoodIn wsX9_sets (va_wsS RX9 66 yX9_in wsX9_in) := goodIn_app (goodIn_of _ (by decide +kernel)) ggX9_sets_X9_in
set_option maxRecDepth 20000 in
theorem ggX9_sets_X9_notes : GoodIn wsX9_sets wsX9_notes := goodIn_r _ [15, 16, 17, 2, 18, 19, 20, 21, 22, 23, 24, 25, 26, 27, 28, 29, 30, 31, 32, 33, 34, 35, 36, 37, 38, 39, 40, 41, 42, 43, 44, 45] (by decide +kernel) (by decide +kernel)
set_option maxRecDepth 20000 in
theorem gX9_sets_X9_notes : GoodIn wsX9_sets (wsV RX9 138 RX9 yX9_notes wsX9_notes) := goodIn_app (goodIn_of _ (by decide +kernel)) ggX9_sets_X9_notes
theorem dX9_sets_0 : decode cX9_sets 0 = .ok (.aload_n 0, 1) := by decide +kernel
theorem dX9_sets_1 : decode cX9_sets 1 = .ok (.iconst 0, 1) := by decide +kernel
theorem dX9_sets_2 : decode cX9_sets 2 = .ok (.putfield 62, 3) := by decide +kernel
theorem dX9_sets_5 : decode cX9_sets 5 = .ok (.aload_n 0, 1) := by decide +kernel
theorem dX9_sets_6 : decode cX9_sets 6 = .ok (.iload_n 1, 1) := by decide +kernel
theorem dX9_sets_7 : decode cX9_sets 7 = .ok (.invokevirtual 127, 3) := by decide +kernel
theorem dX9_sets_10 : decode cX9_sets 10 = .ok (.ifCond .eq 13, 3) := by decide +kernel
theorem dX9_sets_13 : decode cX9_sets 13 = .ok (.iload_n 2, 1) := by decide +kernel
theorem dX9_sets_14 : decode cX9_sets 14 = .ok (.iconst 0, 1) := by decide +kernel
theorem dX9_sets_15 : decode cX9_sets 15 = .ok (.bipush 9, 2) := by decide +kernel
theorem dX9_sets_17 : decode cX9_sets 17 = .ok (.invokestatic 66, 3) := by decide +kernel
theorem dX9_sets_20 : decode cX9_sets 20 = .ok (.ifCond .ne 5, 3) := by decide +kernel
theorem dX9_sets_23 : decode cX9_sets 23 = .ok (.iconst (-1), 1) := by decide +kernel
theorem dX9_sets_24 : decode cX9_sets 24 = .ok (.ireturn, 1) := by decide +kernel
theorem dX9_sets_25 : decode cX9_sets 25 = .ok (.aload_n 0, 1) := by decide +kernel
theorem dX9_sets_26 : decode cX9_sets 26 = .ok (.invokevirtual 138, 3) := by decide +kernel
theorem dX9_sets_29 : decode cX9_sets 29 = .ok (.aload_n 0, 1) := by decide +kernel
theorem dX9_sets_30 : decode cX9_sets 30 = .ok (.getfield 31, 3) := by decide +kernel
theorem dX9_sets_33 : decode cX9_sets 33 = .ok (.bipush 6, 2) := by decide +kernel
theorem dX9_sets_35 : decode cX9_sets 35 = .ok (.iload_n 1, 1) := by decide +kernel
theorem dX9_sets_36 : decode cX9_sets 36 = .ok (.iadd, 1) := by decide +kernel
theorem dX9_sets_37 : decode cX9_sets 37 = .ok (.iaload, 1) := by decide +kernel
theorem dX9_sets_38 : decode cX9_sets 38 = .ok (.istore_n 3, 1) := by decide +kernel
theorem dX9_sets_39 : decode cX9_sets 39 = .ok (.aload_n 0, 1) := by decide +kernel
theorem dX9_sets_40 : decode cX9_sets 40 = .ok (.getfield 31, 3) := by decide +kernel
theorem dX9_sets_43 : decode cX9_sets 43 = .ok (.bipush 6, 2) := by decide +kernel
theorem dX9_sets_45 : decode cX9_sets 45 = .ok (.iload_n 1, 1) := by decide +kernel
theorem dX9_sets_46 : decode cX9_sets 46 = .ok (.iadd, 1) := by decide +kernel
theorem dX9_sets_47 : decode cX9_sets 47 = .ok (.iload_n 2, 1) := by decide +kernel
theorem dX9_sets_48 : decode cX9_sets 48 = .ok (.iastore, 1) := by decide +kernel
theorem dX9_sets_49 : decode cX9_sets 49 = .ok (.iload_n 3, 1) := by decide +kernel
theorem dX9_sets_50 : decode cX9_sets 50 = .ok (.ireturn, 1) := by decide +kernel
set_option maxRecDepth 20000 in
theorem ggX9_breaks_X9_isRock : GoodIn wsX9_breaks wsX9_isRock := goodIn_r _ [7, 8, 9, 10, 6, 11, 21, 22, 23, 24, 25, 26, 27, 28, 29, 30, 31, 32, 33, 34, 35, 36, 37, 38, 39, 40, 41, 42, 43, 44, 45, 46, 47, 48] (by decide +kernel) (by decide +kernel)
set_option maxRecDepth 20000 in
theorem gX9_breaks_X9_isRock : GoodIn wsX9_breaks (wsV RX9 127 RX9 yX9_isRock wsX9_isRock) := goodIn_app (goodIn_of _ (by decide +kernel)) ggX9_breaks_X9_isRock
set_option maxRecDepth 20000 in
theorem ggX9_breaks_X9_notes : GoodIn wsX9_breaks wsX9_notes := goodIn_r _ [15, 16, 17, 2, 21, 22, 23, 24, 25, 26, 27, 28, 29, 30, 31, 32, 33, 34, 35, 36, 37, 38, 39, 40, 41, 42, 43, 44, 45, 46, 47, 48] (by decide +kernel) (by decide +kernel)
set_option maxRecDepth 20000 in
theorem gX9_breaks_X9_notes : GoodIn wsX9_breaks (wsV RX9 138 RX9 yX9_notes wsX9_notes) := goodIn_app (goodIn_of _ (by decide +kernel)) ggX9_breaks_X9_notes
set_option maxRecDepth 20000 in
theorem ggX9_breaks_X9_ones : GoodIn wsX9_breaks wsX9_ones := goodIn_r _ [20] (by decide +kernel) (by decide +kernel)
set_option maxRecDepth 20000 in
theorem gX9_breaks_X9_ones : GoodIn wsX9_breaks (va_wsS RX9 150 yX9_ones wsX9_ones) := goodIn_app (goodIn_of _ (by decide +kernel)) ggX9_breaks_X9_ones
theorem dX9_breaks_0 : decode cX9_breaks 0 = .ok (.aload_n 0, 1) := by decide +kernel
theorem dX9_breaks_1 : decode cX9_breaks 1 = .ok (.iconst 0, 1) := by decide +kernel
theorem dX9_breaks_2 : decode cX9_breaks 2 = .ok (.putfield 62, 3) := by decide +kernel
theorem dX9_breaks_5 : decode cX9_breaks 5 = .ok (.aload_n 0, 1) := by decide +kernel
theorem dX9_breaks_6 : decode cX9_breaks 6 = .ok (.iload_n 1, 1) := by decide +kernel
theorem dX9_breaks_7 : decode cX9_breaks 7 = .ok (.invokevirtual 127, 3) := by decide +kernel
theorem dX9_breaks_10 : decode cX9_breaks 10 = .ok (.ifCond .ne 5, 3) := by decide +kernel
theorem dX9_breaks_13 : decode cX9_breaks 13 = .ok (.iconst (-1), 1) := by decide +kernel
theorem dX9_breaks_14 : decode cX9_breaks 14 = .ok (.ireturn, 1) := by decide +kernel
theorem dX9_breaks_15 : decode cX9_breaks 15 = .ok (.aload_n 0, 1) := by decide +kernel
theorem dX9_breaks_16 : decode cX9_breaks 16 = .ok (.getfield 31, 3) := by decide +kernel
theorem dX9_breaks_19 : decode cX9_breaks 19 = .ok (.iconst 5, 1) := by decide +kernel
theorem dX9_breaks_20 : decode cX9_breaks 20 = .ok (.iaload, 1) := by decide +kernel
theorem dX9_breaks_21 : decode cX9_breaks 21 = .ok (.iload_n 1, 1) := by decide +kernel
theorem dX9_breaks_22 : decode cX9_breaks 22 = .ok (.ishr, 1) := by decide +kernel
theorem dX9_breaks_23 : decode cX9_breaks 23 = .ok (.iconst 1, 1) := by decide +kernel
theorem dX9_breaks_24 : decode cX9_breaks 24 = .ok (.iand, 1) := by decide +kernel
theorem dX9_breaks_25 : decode cX9_breaks 25 = .ok (.iconst 1, 1) := by decide +kernel
theorem dX9_breaks_26 : decode cX9_breaks 26 = .ok (.if_icmp .ne 6, 3) := by decide +kernel
theorem dX9_breaks_29 : decode cX9_breaks 29 = .ok (.bipush (-2), 2) := by decide +kernel
theorem dX9_breaks_31 : decode cX9_breaks 31 = .ok (.ireturn, 1) := by decide +kernel
theorem dX9_breaks_32 : decode cX9_breaks 32 = .ok (.aload_n 0, 1) := by decide +kernel
theorem dX9_breaks_33 : decode cX9_breaks 33 = .ok (.invokevirtual 138, 3) := by decide +kernel
theorem dX9_breaks_36 : decode cX9_breaks 36 = .ok (.aload_n 0, 1) := by decide +kernel
theorem dX9_breaks_37 : decode cX9_breaks 37 = .ok (.getfield 31, 3) := by decide +kernel
theorem dX9_breaks_40 : decode cX9_breaks 40 = .ok (.iconst 5, 1) := by decide +kernel
theorem dX9_breaks_41 : decode cX9_breaks 41 = .ok (.dup2, 1) := by decide +kernel
theorem dX9_breaks_42 : decode cX9_breaks 42 = .ok (.iaload, 1) := by decide +kernel
theorem dX9_breaks_43 : decode cX9_breaks 43 = .ok (.iconst 1, 1) := by decide +kernel
theorem dX9_breaks_44 : decode cX9_breaks 44 = .ok (.iload_n 1, 1) := by decide +kernel
theorem dX9_breaks_45 : decode cX9_breaks 45 = .ok (.ishl, 1) := by decide +kernel
theorem dX9_breaks_46 : decode cX9_breaks 46 = .ok (.ior, 1) := by decide +kernel
theorem dX9_breaks_47 : decode cX9_breaks 47 = .ok (.iastore, 1) := by decide +kernel
theorem dX9_breaks_48 : decode cX9_breaks 48 = .ok (.aload_n 0, 1) := by decide +kernel
theorem dX9_breaks_49 : decode cX9_breaks 49 = .ok (.getfield 31, 3) := by decide +kernel
theorem dX9_breaks_52 : decode cX9_breaks 52 = .ok (.iconst 5, 1) := by decide +kernel
theorem dX9_breaks_53 : decode cX9_breaks 53 = .ok (.iaload, 1) := by decide +kernel
theorem dX9_breaks_54 : decode cX9_breaks 54 = .ok (.invokestatic 150, 3) := by decide +kernel
theorem dX9_breaks_57 : decode cX9_breaks 57 = .ok (.ireturn, 1) := by decide +kernel
theorem dX9_undo_0 : decode cX9_undo 0 = .ok (.aload_n 0, 1) := by decide +kernel
theorem dX9_undo_1 : decode cX9_undo 1 = .ok (.iconst 0, 1) := by decide +kernel
theorem dX9_undo_2 : decode cX9_undo 2 = .ok (.putfield 62, 3) := by decide +kernel
theorem dX9_undo_5 : decode cX9_undo 5 = .ok (.aload_n 0, 1) := by decide +kernel
theorem dX9_undo_6 : decode cX9_undo 6 = .ok (.getfield 120, 3) := by decide +kernel
theorem dX9_undo_9 : decode cX9_undo 9 = .ok (.ifCond .ne 6, 3) := by decide +kernel
theorem dX9_undo_12 : decode cX9_undo 12 = .ok (.bipush (-2), 2) := by decide +kernel
theorem dX9_undo_14 : decode cX9_undo 14 = .ok (.ireturn, 1) := by decide +kernel
theorem dX9_undo_15 : decode cX9_undo 15 = .ok (.aload_n 0, 1) := by decide +kernel
theorem dX9_undo_16 : decode cX9_undo 16 = .ok (.dup, 1) := by decide +kernel
theorem dX9_undo_17 : decode cX9_undo 17 = .ok (.getfield 120, 3) := by decide +kernel
theorem dX9_undo_20 : decode cX9_undo 20 = .ok (.iconst 1, 1) := by decide +kernel
theorem dX9_undo_21 : decode cX9_undo 21 = .ok (.isub, 1) := by decide +kernel
theorem dX9_undo_22 : decode cX9_undo 22 = .ok (.putfield 120, 3) := by decide +kernel
theorem dX9_undo_25 : decode cX9_undo 25 = .ok (.iconst 0, 1) := by decide +kernel
theorem dX9_undo_26 : decode cX9_undo 26 = .ok (.istore_n 1, 1) := by decide +kernel
theorem dX9_undo_27 : decode cX9_undo 27 = .ok (.iload_n 1, 1) := by decide +kernel
theorem dX9_undo_28 : decode cX9_undo 28 = .ok (.bipush 18, 2) := by decide +kernel
theorem dX9_undo_30 : decode cX9_undo 30 = .ok (.if_icmp .ge 29, 3) := by decide +kernel
theorem dX9_undo_33 : decode cX9_undo 33 = .ok (.aload_n 0, 1) := by decide +kernel
theorem dX9_undo_34 : decode cX9_undo 34 = .ok (.getfield 31, 3) := by decide +kernel
theorem dX9_undo_37 : decode cX9_undo 37 = .ok (.iload_n 1, 1) := by decide +kernel
theorem dX9_undo_38 : decode cX9_undo 38 = .ok (.aload_n 0, 1) := by decide +kernel
theorem dX9_undo_39 : decode cX9_undo 39 = .ok (.getfield 44, 3) := by decide +kernel
theorem dX9_undo_42 : decode cX9_undo 42 = .ok (.bipush 18, 2) := by decide +kernel
theorem dX9_undo_44 : decode cX9_undo 44 = .ok (.aload_n 0, 1) := by decide +kernel
theorem dX9_undo_45 : decode cX9_undo 45 = .ok (.getfield 120, 3) := by decide +kernel
theorem dX9_undo_48 : decode cX9_undo 48 = .ok (.imul, 1) := by decide +kernel
theorem dX9_undo_49 : decode cX9_undo 49 = .ok (.iload_n 1, 1) := by decide +kernel
theorem dX9_undo_50 : decode cX9_undo 50 = .ok (.iadd, 1) := by decide +kernel
theorem dX9_undo_51 : decode cX9_undo 51 = .ok (.iaload, 1) := by decide +kernel
theorem dX9_undo_52 : decode cX9_undo 52 = .ok (.iastore, 1) := by decide +kernel
theorem dX9_undo_53 : decode cX9_undo 53 = .ok (.iinc 1 1, 3) := by decide +kernel
theorem dX9_undo_56 : decode cX9_undo 56 = .ok (.goto (-29), 3) := by decide +kernel
theorem dX9_undo_59 : decode cX9_undo 59 = .ok (.aload_n 0, 1) := by decide +kernel
theorem dX9_undo_60 : decode cX9_undo 60 = .ok (.getfield 120, 3) := by decide +kernel
theorem dX9_undo_63 : decode cX9_undo 63 = .ok (.ireturn, 1) := by decide +kernel
theorem dX9_asNow_0 : decode cX9_asNow 0 = .ok (.iconst 0, 1) := by decide +kernel
theorem dX9_asNow_1 : decode cX9_asNow 1 = .ok (.istore_n 1, 1) := by decide +kernel
theorem dX9_asNow_2 : decode cX9_asNow 2 = .ok (.iload_n 1, 1) := by decide +kernel
theorem dX9_asNow_3 : decode cX9_asNow 3 = .ok (.bipush 18, 2) := by decide +kernel
theorem dX9_asNow_5 : decode cX9_asNow 5 = .ok (.if_icmp .ge 21, 3) := by decide +kernel
theorem dX9_asNow_8 : decode cX9_asNow 8 = .ok (.aload_n 0, 1) := by decide +kernel
theorem dX9_asNow_9 : decode cX9_asNow 9 = .ok (.getfield 34, 3) := by decide +kernel
theorem dX9_asNow_12 : decode cX9_asNow 12 = .ok (.iload_n 1, 1) := by decide +kernel
theorem dX9_asNow_13 : decode cX9_asNow 13 = .ok (.aload_n 0, 1) := by decide +kernel
theorem dX9_asNow_14 : decode cX9_asNow 14 = .ok (.getfield 31, 3) := by decide +kernel
theorem dX9_asNow_17 : decode cX9_asNow 17 = .ok (.iload_n 1, 1) := by decide +kernel
theorem dX9_asNow_18 : decode cX9_asNow 18 = .ok (.iaload, 1) := by decide +kernel
theorem dX9_asNow_19 : decode cX9_asNow 19 = .ok (.iastore, 1) := by decide +kernel
theorem dX9_asNow_20 : decode cX9_asNow 20 = .ok (.iinc 1 1, 3) := by decide +kernel
theorem dX9_asNow_23 : decode cX9_asNow 23 = .ok (.goto (-21), 3) := by decide +kernel
theorem dX9_asNow_26 : decode cX9_asNow 26 = .ok (.return_, 1) := by decide +kernel
set_option maxRecDepth 20000 in
theorem ggX9_paidOn_X9_takenBy : GoodIn wsX9_paidOn wsX9_takenBy := goodIn_r _ [7, 2, 8, 9, 10, 6, 11, 12, 13, 14, 15, 16, 17, 18, 19, 20, 21, 22, 23, 24, 25, 26, 27, 28, 29, 30, 31, 32, 33, 34, 35, 36, 37, 38, 39, 40] (by decide +kernel) (by decide +kernel)
set_option maxRecDepth 20000 in
theorem gX9_paidOn_X9_takenBy : GoodIn wsX9_paidOn (wsV RX9 134 RX9 yX9_takenBy wsX9_takenBy) := goodIn_app (goodIn_of _ (by decide +kernel)) ggX9_paidOn_X9_takenBy
theorem dX9_paidOn_0 : decode cX9_paidOn 0 = .ok (.aload_n 0, 1) := by decide +kernel
theorem dX9_paidOn_1 : decode cX9_paidOn 1 = .ok (.aload_n 1, 1) := by decide +kernel
theorem dX9_paidOn_2 : decode cX9_paidOn 2 = .ok (.iload_n 2, 1) := by decide +kernel
theorem dX9_paidOn_3 : decode cX9_paidOn 3 = .ok (.iload_n 3, 1) := by decide +kernel
theorem dX9_paidOn_4 : decode cX9_paidOn 4 = .ok (.iload 4, 2) := by decide +kernel
theorem dX9_paidOn_6 : decode cX9_paidOn 6 = .ok (.invokevirtual 134, 3) := by decide +kernel
theorem dX9_paidOn_9 : decode cX9_paidOn 9 = .ok (.istore 5, 2) := by decide +kernel
theorem dX9_paidOn_11 : decode cX9_paidOn 11 = .ok (.iload 5, 2) := by decide +kernel
theorem dX9_paidOn_13 : decode cX9_paidOn 13 = .ok (.aload_n 0, 1) := by decide +kernel
theorem dX9_paidOn_14 : decode cX9_paidOn 14 = .ok (.getfield 53, 3) := by decide +kernel
theorem dX9_paidOn_17 : decode cX9_paidOn 17 = .ok (.iconst 5, 1) := by decide +kernel
theorem dX9_paidOn_18 : decode cX9_paidOn 18 = .ok (.iload_n 2, 1) := by decide +kernel
theorem dX9_paidOn_19 : decode cX9_paidOn 19 = .ok (.imul, 1) := by decide +kernel
theorem dX9_paidOn_20 : decode cX9_paidOn 20 = .ok (.iconst 5, 1) := by decide +kernel
theorem dX9_paidOn_21 : decode cX9_paidOn 21 = .ok (.iadd, 1) := by decide +kernel
theorem dX9_paidOn_22 : decode cX9_paidOn 22 = .ok (.iload 5, 2) := by decide +kernel
theorem dX9_paidOn_24 : decode cX9_paidOn 24 = .ok (.ifCond .le 14, 3) := by decide +kernel
theorem dX9_paidOn_27 : decode cX9_paidOn 27 = .ok (.aload_n 0, 1) := by decide +kernel
theorem dX9_paidOn_28 : decode cX9_paidOn 28 = .ok (.getfield 22, 3) := by decide +kernel
theorem dX9_paidOn_31 : decode cX9_paidOn 31 = .ok (.iload_n 2, 1) := by decide +kernel
theorem dX9_paidOn_32 : decode cX9_paidOn 32 = .ok (.iaload, 1) := by decide +kernel
theorem dX9_paidOn_33 : decode cX9_paidOn 33 = .ok (.iconst 1, 1) := by decide +kernel
theorem dX9_paidOn_34 : decode cX9_paidOn 34 = .ok (.iadd, 1) := by decide +kernel
theorem dX9_paidOn_35 : decode cX9_paidOn 35 = .ok (.goto 4, 3) := by decide +kernel
theorem dX9_paidOn_38 : decode cX9_paidOn 38 = .ok (.iconst 0, 1) := by decide +kernel
theorem dX9_paidOn_39 : decode cX9_paidOn 39 = .ok (.iadd, 1) := by decide +kernel
theorem dX9_paidOn_40 : decode cX9_paidOn 40 = .ok (.iaload, 1) := by decide +kernel
theorem dX9_paidOn_41 : decode cX9_paidOn 41 = .ok (.iadd, 1) := by decide +kernel
theorem dX9_paidOn_42 : decode cX9_paidOn 42 = .ok (.ireturn, 1) := by decide +kernel
theorem dX9_landOn_0 : decode cX9_landOn 0 = .ok (.aload_n 0, 1) := by decide +kernel
theorem dX9_landOn_1 : decode cX9_landOn 1 = .ok (.getfield 28, 3) := by decide +kernel
theorem dX9_landOn_4 : decode cX9_landOn 4 = .ok (.iload_n 1, 1) := by decide +kernel
theorem dX9_landOn_5 : decode cX9_landOn 5 = .ok (.iaload, 1) := by decide +kernel
theorem dX9_landOn_6 : decode cX9_landOn 6 = .ok (.iload_n 2, 1) := by decide +kernel
theorem dX9_landOn_7 : decode cX9_landOn 7 = .ok (.imul, 1) := by decide +kernel
theorem dX9_landOn_8 : decode cX9_landOn 8 = .ok (.aload_n 0, 1) := by decide +kernel
theorem dX9_landOn_9 : decode cX9_landOn 9 = .ok (.getfield 53, 3) := by decide +kernel
theorem dX9_landOn_12 : decode cX9_landOn 12 = .ok (.iconst 5, 1) := by decide +kernel
theorem dX9_landOn_13 : decode cX9_landOn 13 = .ok (.iload_n 1, 1) := by decide +kernel
theorem dX9_landOn_14 : decode cX9_landOn 14 = .ok (.imul, 1) := by decide +kernel
theorem dX9_landOn_15 : decode cX9_landOn 15 = .ok (.iconst 5, 1) := by decide +kernel
theorem dX9_landOn_16 : decode cX9_landOn 16 = .ok (.iadd, 1) := by decide +kernel
theorem dX9_landOn_17 : decode cX9_landOn 17 = .ok (.iaload, 1) := by decide +kernel
theorem dX9_landOn_18 : decode cX9_landOn 18 = .ok (.iadd, 1) := by decide +kernel
theorem dX9_landOn_19 : decode cX9_landOn 19 = .ok (.ireturn, 1) := by decide +kernel
set_option maxRecDepth 20000 in
theorem ggX9_finds_X9_paidOn : GoodIn wsX9_finds wsX9_paidOn := goodIn_r _ [11, 1, 6, 12, 13, 14, 10, 15, 16, 17, 18, 19, 20, 25, 26, 27, 28, 29, 30, 31, 32, 33, 34, 35, 36, 37, 38, 39, 40, 41, 42, 43, 44, 45, 46, 47, 48, 49, 50, 51, 52] (by decide +kernel) (by decide +kernel)
set_option maxRecDepth 20000 in
theorem gX9_finds_X9_paidOn : GoodIn wsX9_finds (wsV RX9 153 RX9 yX9_paidOn wsX9_paidOn) := goodIn_app (goodIn_of _ (by decide +kernel)) ggX9_finds_X9_paidOn
set_option maxRecDepth 20000 in
theorem ggX9_finds_X9_landOn : GoodIn wsX9_finds wsX9_landOn := goodIn_r _ [24, 3, 1, 25, 26, 27, 28, 29, 30, 31, 32, 33, 34, 35, 36, 37, 38, 39, 40, 41, 42, 43, 44, 45, 46, 47, 48, 49, 50, 51, 52] (by decide +kernel) (by decide +kernel)
set_option maxRecDepth 20000 in
theorem gX9_finds_X9_landOn : GoodIn wsX9_finds (wsV RX9 156 RX9 yX9_landOn wsX9_landOn) := goodIn_app (goodIn_of _ (by decide +kernel)) ggX9_finds_X9_landOn
set_option maxRecDepth 20000 in
theorem ggX9_finds_X9_takenBy : GoodIn wsX9_finds wsX9_takenBy := goodIn_r _ [15, 6, 16, 17, 18, 10, 19, 20, 25, 26, 27, 28, 29, 30, 31, 32, 33, 34, 35, 36, 37, 38, 39, 40, 41, 42, 43, 44, 45, 46, 47, 48, 49, 50, 51, 52] (by decide +kernel) (by decide +kernel)
set_option maxRecDepth 20000 in
theorem gX9_finds_X9_takenBy : GoodIn wsX9_finds (wsV RX9 134 RX9 yX9_takenBy wsX9_takenBy) := goodIn_app (goodIn_of _ (by decide +kernel)) ggX9_finds_X9_takenBy
theorem dX9_finds_0 : decode cX9_finds 0 = .ok (.iconst 0, 1) := by decide +kernel
theorem dX9_finds_1 : decode cX9_finds 1 = .ok (.istore_n 3, 1) := by decide +kernel
theorem dX9_finds_2 : decode cX9_finds 2 = .ok (.iload_n 3, 1) := by decide +kernel
theorem dX9_finds_3 : decode cX9_finds 3 = .ok (.iconst 5, 1) := by decide +kernel
theorem dX9_finds_4 : decode cX9_finds 4 = .ok (.if_icmp .ge 25, 3) := by decide +kernel
theorem dX9_finds_7 : decode cX9_finds 7 = .ok (.aload_n 0, 1) := by decide +kernel
theorem dX9_finds_8 : decode cX9_finds 8 = .ok (.getfield 53, 3) := by decide +kernel
theorem dX9_finds_11 : decode cX9_finds 11 = .ok (.iconst 5, 1) := by decide +kernel
theorem dX9_finds_12 : decode cX9_finds 12 = .ok (.aload_n 0, 1) := by decide +kernel
theorem dX9_finds_13 : decode cX9_finds 13 = .ok (.getfield 13, 3) := by decide +kernel
theorem dX9_finds_16 : decode cX9_finds 16 = .ok (.iconst 0, 1) := by decide +kernel
theorem dX9_finds_17 : decode cX9_finds 17 = .ok (.iaload, 1) := by decide +kernel
theorem dX9_finds_18 : decode cX9_finds 18 = .ok (.imul, 1) := by decide +kernel
theorem dX9_finds_19 : decode cX9_finds 19 = .ok (.iload_n 3, 1) := by decide +kernel
theorem dX9_finds_20 : decode cX9_finds 20 = .ok (.iadd, 1) := by decide +kernel
theorem dX9_finds_21 : decode cX9_finds 21 = .ok (.iconst 0, 1) := by decide +kernel
theorem dX9_finds_22 : decode cX9_finds 22 = .ok (.iastore, 1) := by decide +kernel
theorem dX9_finds_23 : decode cX9_finds 23 = .ok (.iinc 3 1, 3) := by decide +kernel
theorem dX9_finds_26 : decode cX9_finds 26 = .ok (.goto (-24), 3) := by decide +kernel
theorem dX9_finds_29 : decode cX9_finds 29 = .ok (.aload_n 0, 1) := by decide +kernel
theorem dX9_finds_30 : decode cX9_finds 30 = .ok (.getfield 13, 3) := by decide +kernel
theorem dX9_finds_33 : decode cX9_finds 33 = .ok (.iconst 0, 1) := by decide +kernel
theorem dX9_finds_34 : decode cX9_finds 34 = .ok (.iaload, 1) := by decide +kernel
theorem dX9_finds_35 : decode cX9_finds 35 = .ok (.iconst 1, 1) := by decide +kernel
theorem dX9_finds_36 : decode cX9_finds 36 = .ok (.isub, 1) := by decide +kernel
theorem dX9_finds_37 : decode cX9_finds 37 = .ok (.istore_n 3, 1) := by decide +kernel
theorem dX9_finds_38 : decode cX9_finds 38 = .ok (.iload_n 3, 1) := by decide +kernel
theorem dX9_finds_39 : decode cX9_finds 39 = .ok (.aload_n 1, 1) := by decide +kernel
theorem dX9_finds_40 : decode cX9_finds 40 = .ok (.iconst 0, 1) := by decide +kernel
theorem dX9_finds_41 : decode cX9_finds 41 = .ok (.iaload, 1) := by decide +kernel
theorem dX9_finds_42 : decode cX9_finds 42 = .ok (.if_icmp .lt 68, 3) := by decide +kernel
theorem dX9_finds_45 : decode cX9_finds 45 = .ok (.iconst 0, 1) := by decide +kernel
theorem dX9_finds_46 : decode cX9_finds 46 = .ok (.istore 4, 2) := by decide +kernel
theorem dX9_finds_48 : decode cX9_finds 48 = .ok (.iload 4, 2) := by decide +kernel
theorem dX9_finds_50 : decode cX9_finds 50 = .ok (.iconst 5, 1) := by decide +kernel
theorem dX9_finds_51 : decode cX9_finds 51 = .ok (.if_icmp .ge 53, 3) := by decide +kernel
theorem dX9_finds_54 : decode cX9_finds 54 = .ok (.aload_n 0, 1) := by decide +kernel
theorem dX9_finds_55 : decode cX9_finds 55 = .ok (.aload_n 1, 1) := by decide +kernel
theorem dX9_finds_56 : decode cX9_finds 56 = .ok (.iload_n 3, 1) := by decide +kernel
theorem dX9_finds_57 : decode cX9_finds 57 = .ok (.iload_n 2, 1) := by decide +kernel
theorem dX9_finds_58 : decode cX9_finds 58 = .ok (.iload 4, 2) := by decide +kernel
theorem dX9_finds_60 : decode cX9_finds 60 = .ok (.invokevirtual 153, 3) := by decide +kernel
theorem dX9_finds_63 : decode cX9_finds 63 = .ok (.istore 5, 2) := by decide +kernel
theorem dX9_finds_65 : decode cX9_finds 65 = .ok (.aload_n 0, 1) := by decide +kernel
theorem dX9_finds_66 : decode cX9_finds 66 = .ok (.iload_n 3, 1) := by decide +kernel
theorem dX9_finds_67 : decode cX9_finds 67 = .ok (.iload_n 2, 1) := by decide +kernel
theorem dX9_finds_68 : decode cX9_finds 68 = .ok (.invokevirtual 156, 3) := by decide +kernel
theorem dX9_finds_71 : decode cX9_finds 71 = .ok (.istore 6, 2) := by decide +kernel
theorem dX9_finds_73 : decode cX9_finds 73 = .ok (.aload_n 0, 1) := by decide +kernel
theorem dX9_finds_74 : decode cX9_finds 74 = .ok (.getfield 53, 3) := by decide +kernel
theorem dX9_finds_77 : decode cX9_finds 77 = .ok (.iconst 5, 1) := by decide +kernel
theorem dX9_finds_78 : decode cX9_finds 78 = .ok (.iload_n 3, 1) := by decide +kernel
theorem dX9_finds_79 : decode cX9_finds 79 = .ok (.imul, 1) := by decide +kernel
theorem dX9_finds_80 : decode cX9_finds 80 = .ok (.iload 4, 2) := by decide +kernel
theorem dX9_finds_82 : decode cX9_finds 82 = .ok (.iadd, 1) := by decide +kernel
theorem dX9_finds_83 : decode cX9_finds 83 = .ok (.iload 5, 2) := by decide +kernel
theorem dX9_finds_85 : decode cX9_finds 85 = .ok (.iload 6, 2) := by decide +kernel
theorem dX9_finds_87 : decode cX9_finds 87 = .ok (.if_icmp .ge 8, 3) := by decide +kernel
theorem dX9_finds_90 : decode cX9_finds 90 = .ok (.iload 5, 2) := by decide +kernel
theorem dX9_finds_92 : decode cX9_finds 92 = .ok (.goto 5, 3) := by decide +kernel
theorem dX9_finds_95 : decode cX9_finds 95 = .ok (.iload 6, 2) := by decide +kernel
theorem dX9_finds_97 : decode cX9_finds 97 = .ok (.iastore, 1) := by decide +kernel
theorem dX9_finds_98 : decode cX9_finds 98 = .ok (.iinc 4 1, 3) := by decide +kernel
theorem dX9_finds_101 : decode cX9_finds 101 = .ok (.goto (-53), 3) := by decide +kernel
theorem dX9_finds_104 : decode cX9_finds 104 = .ok (.iinc 3 (-1), 3) := by decide +kernel
theorem dX9_finds_107 : decode cX9_finds 107 = .ok (.goto (-69), 3) := by decide +kernel
theorem dX9_finds_110 : decode cX9_finds 110 = .ok (.aload_n 1, 1) := by decide +kernel
theorem dX9_finds_111 : decode cX9_finds 111 = .ok (.iconst 3, 1) := by decide +kernel
theorem dX9_finds_112 : decode cX9_finds 112 = .ok (.iaload, 1) := by decide +kernel
theorem dX9_finds_113 : decode cX9_finds 113 = .ok (.istore_n 3, 1) := by decide +kernel
theorem dX9_finds_114 : decode cX9_finds 114 = .ok (.aload_n 1, 1) := by decide +kernel
theorem dX9_finds_115 : decode cX9_finds 115 = .ok (.iconst 0, 1) := by decide +kernel
theorem dX9_finds_116 : decode cX9_finds 116 = .ok (.iaload, 1) := by decide +kernel
theorem dX9_finds_117 : decode cX9_finds 117 = .ok (.istore 4, 2) := by decide +kernel
theorem dX9_finds_119 : decode cX9_finds 119 = .ok (.iload 4, 2) := by decide +kernel
theorem dX9_finds_121 : decode cX9_finds 121 = .ok (.aload_n 0, 1) := by decide +kernel
theorem dX9_finds_122 : decode cX9_finds 122 = .ok (.getfield 13, 3) := by decide +kernel
theorem dX9_finds_125 : decode cX9_finds 125 = .ok (.iconst 0, 1) := by decide +kernel
theorem dX9_finds_126 : decode cX9_finds 126 = .ok (.iaload, 1) := by decide +kernel
theorem dX9_finds_127 : decode cX9_finds 127 = .ok (.if_icmp .ge 113, 3) := by decide +kernel
theorem dX9_finds_130 : decode cX9_finds 130 = .ok (.aload_n 0, 1) := by decide +kernel
theorem dX9_finds_131 : decode cX9_finds 131 = .ok (.iload 4, 2) := by decide +kernel
theorem dX9_finds_133 : decode cX9_finds 133 = .ok (.iload_n 2, 1) := by decide +kernel
theorem dX9_finds_134 : decode cX9_finds 134 = .ok (.invokevirtual 156, 3) := by decide +kernel
theorem dX9_finds_137 : decode cX9_finds 137 = .ok (.aload_n 0, 1) := by decide +kernel
theorem dX9_finds_138 : decode cX9_finds 138 = .ok (.aload_n 1, 1) := by decide +kernel
theorem dX9_finds_139 : decode cX9_finds 139 = .ok (.iload 4, 2) := by decide +kernel
theorem dX9_finds_141 : decode cX9_finds 141 = .ok (.iload_n 2, 1) := by decide +kernel
theorem dX9_finds_142 : decode cX9_finds 142 = .ok (.iload_n 3, 1) := by decide +kernel
theorem dX9_finds_143 : decode cX9_finds 143 = .ok (.invokevirtual 153, 3) := by decide +kernel
theorem dX9_finds_146 : decode cX9_finds 146 = .ok (.if_icmp .ge 7, 3) := by decide +kernel
theorem dX9_finds_149 : decode cX9_finds 149 = .ok (.iconst 1, 1) := by decide +kernel
theorem dX9_finds_150 : decode cX9_finds 150 = .ok (.goto 4, 3) := by decide +kernel
theorem dX9_finds_153 : decode cX9_finds 153 = .ok (.iconst 0, 1) := by decide +kernel
theorem dX9_finds_154 : decode cX9_finds 154 = .ok (.istore 5, 2) := by decide +kernel
theorem dX9_finds_156 : decode cX9_finds 156 = .ok (.iload 5, 2) := by decide +kernel
theorem dX9_finds_158 : decode cX9_finds 158 = .ok (.ifCond .eq 15, 3) := by decide +kernel
theorem dX9_finds_161 : decode cX9_finds 161 = .ok (.aload_n 0, 1) := by decide +kernel
theorem dX9_finds_162 : decode cX9_finds 162 = .ok (.getfield 28, 3) := by decide +kernel
theorem dX9_finds_165 : decode cX9_finds 165 = .ok (.iload 4, 2) := by decide +kernel
theorem dX9_finds_167 : decode cX9_finds 167 = .ok (.iaload, 1) := by decide +kernel
theorem dX9_finds_168 : decode cX9_finds 168 = .ok (.iload_n 2, 1) := by decide +kernel
theorem dX9_finds_169 : decode cX9_finds 169 = .ok (.imul, 1) := by decide +kernel
theorem dX9_finds_170 : decode cX9_finds 170 = .ok (.goto 12, 3) := by decide +kernel
theorem dX9_finds_173 : decode cX9_finds 173 = .ok (.aload_n 0, 1) := by decide +kernel
theorem dX9_finds_174 : decode cX9_finds 174 = .ok (.aload_n 1, 1) := by decide +kernel
theorem dX9_finds_175 : decode cX9_finds 175 = .ok (.iload 4, 2) := by decide +kernel
theorem dX9_finds_177 : decode cX9_finds 177 = .ok (.iload_n 2, 1) := by decide +kernel
theorem dX9_finds_178 : decode cX9_finds 178 = .ok (.iload_n 3, 1) := by decide +kernel
theorem dX9_finds_179 : decode cX9_finds 179 = .ok (.invokevirtual 134, 3) := by decide +kernel
theorem dX9_finds_182 : decode cX9_finds 182 = .ok (.istore 6, 2) := by decide +kernel
theorem dX9_finds_184 : decode cX9_finds 184 = .ok (.aload_n 0, 1) := by decide +kernel
theorem dX9_finds_185 : decode cX9_finds 185 = .ok (.getfield 56, 3) := by decide +kernel
theorem dX9_finds_188 : decode cX9_finds 188 = .ok (.iload 4, 2) := by decide +kernel
theorem dX9_finds_190 : decode cX9_finds 190 = .ok (.iload 5, 2) := by decide +kernel
theorem dX9_finds_192 : decode cX9_finds 192 = .ok (.ifCond .eq 7, 3) := by decide +kernel
theorem dX9_finds_195 : decode cX9_finds 195 = .ok (.iconst 1, 1) := by decide +kernel
theorem dX9_finds_196 : decode cX9_finds 196 = .ok (.goto 4, 3) := by decide +kernel
theorem dX9_finds_199 : decode cX9_finds 199 = .ok (.iconst 0, 1) := by decide +kernel
theorem dX9_finds_200 : decode cX9_finds 200 = .ok (.iastore, 1) := by decide +kernel
theorem dX9_finds_201 : decode cX9_finds 201 = .ok (.aload_n 0, 1) := by decide +kernel
theorem dX9_finds_202 : decode cX9_finds 202 = .ok (.getfield 59, 3) := by decide +kernel
theorem dX9_finds_205 : decode cX9_finds 205 = .ok (.iload 4, 2) := by decide +kernel
theorem dX9_finds_207 : decode cX9_finds 207 = .ok (.iload 6, 2) := by decide +kernel
theorem dX9_finds_209 : decode cX9_finds 209 = .ok (.iastore, 1) := by decide +kernel
theorem dX9_finds_210 : decode cX9_finds 210 = .ok (.iload 5, 2) := by decide +kernel
theorem dX9_finds_212 : decode cX9_finds 212 = .ok (.ifCond .ne 8, 3) := by decide +kernel
theorem dX9_finds_215 : decode cX9_finds 215 = .ok (.iload 6, 2) := by decide +kernel
theorem dX9_finds_217 : decode cX9_finds 217 = .ok (.ifCond .ne 7, 3) := by decide +kernel
theorem dX9_finds_220 : decode cX9_finds 220 = .ok (.iconst 0, 1) := by decide +kernel
theorem dX9_finds_221 : decode cX9_finds 221 = .ok (.goto 12, 3) := by decide +kernel
theorem dX9_finds_224 : decode cX9_finds 224 = .ok (.aload_n 0, 1) := by decide +kernel
theorem dX9_finds_225 : decode cX9_finds 225 = .ok (.getfield 22, 3) := by decide +kernel
theorem dX9_finds_228 : decode cX9_finds 228 = .ok (.iload 4, 2) := by decide +kernel
theorem dX9_finds_230 : decode cX9_finds 230 = .ok (.iaload, 1) := by decide +kernel
theorem dX9_finds_231 : decode cX9_finds 231 = .ok (.iconst 1, 1) := by decide +kernel
theorem dX9_finds_232 : decode cX9_finds 232 = .ok (.iadd, 1) := by decide +kernel
theorem dX9_finds_233 : decode cX9_finds 233 = .ok (.istore_n 3, 1) := by decide +kernel
theorem dX9_finds_234 : decode cX9_finds 234 = .ok (.iinc 4 1, 3) := by decide +kernel
theorem dX9_finds_237 : decode cX9_finds 237 = .ok (.goto (-118), 3) := by decide +kernel
theorem dX9_finds_240 : decode cX9_finds 240 = .ok (.aload_n 0, 1) := by decide +kernel
theorem dX9_finds_241 : decode cX9_finds 241 = .ok (.getfield 53, 3) := by decide +kernel
theorem dX9_finds_244 : decode cX9_finds 244 = .ok (.iconst 5, 1) := by decide +kernel
theorem dX9_finds_245 : decode cX9_finds 245 = .ok (.aload_n 1, 1) := by decide +kernel
theorem dX9_finds_246 : decode cX9_finds 246 = .ok (.iconst 0, 1) := by decide +kernel
theorem dX9_finds_247 : decode cX9_finds 247 = .ok (.iaload, 1) := by decide +kernel
theorem dX9_finds_248 : decode cX9_finds 248 = .ok (.imul, 1) := by decide +kernel
theorem dX9_finds_249 : decode cX9_finds 249 = .ok (.aload_n 1, 1) := by decide +kernel
theorem dX9_finds_250 : decode cX9_finds 250 = .ok (.iconst 3, 1) := by decide +kernel
theorem dX9_finds_251 : decode cX9_finds 251 = .ok (.iaload, 1) := by decide +kernel
theorem dX9_finds_252 : decode cX9_finds 252 = .ok (.iadd, 1) := by decide +kernel
theorem dX9_finds_253 : decode cX9_finds 253 = .ok (.iaload, 1) := by decide +kernel
theorem dX9_finds_254 : decode cX9_finds 254 = .ok (.ireturn, 1) := by decide +kernel
set_option maxRecDepth 20000 in
theorem ggX9_way_X9_isRock : GoodIn wsX9_way wsX9_isRock := goodIn_r _ [8, 9, 10, 11, 7, 12, 38, 39, 40, 41, 42, 43, 44, 45, 46, 47, 48, 49, 50, 51, 52, 53, 54, 55, 56, 57, 58, 59, 60, 61, 62, 63, 64, 65] (by decide +kernel) (by decide +kernel)
set_option maxRecDepth 20000 in
theorem gX9_way_X9_isRock : GoodIn wsX9_way (wsV RX9 127 RX9 yX9_isRock wsX9_isRock) := goodIn_app (goodIn_of _ (by decide +kernel)) ggX9_way_X9_isRock
set_option maxRecDepth 20000 in
theorem ggX9_way_X9_finds : GoodIn wsX9_way wsX9_finds := goodIn_r _ [16, 17, 9, 18, 3, 19, 20, 21, 22, 23, 7, 24, 25, 26, 27, 28, 29, 30, 31, 32, 33, 34, 35, 36, 37, 38, 39, 40, 41, 42, 43, 44, 45, 46, 47, 48, 49, 50, 51, 52, 53, 54, 55, 56, 57, 58, 59, 60, 61, 62, 63, 64, 65] (by decide +kernel) (by decide +kernel)
set_option maxRecDepth 20000 in
theorem gX9_way_X9_finds : GoodIn wsX9_way (wsV RX9 159 RX9 yX9_finds wsX9_finds) := goodIn_app (goodIn_of _ (by decide +kernel)) ggX9_way_X9_finds
theorem dX9_way_0 : decode cX9_way 0 = .ok (.aload_n 0, 1) := by decide +kernel
theorem dX9_way_1 : decode cX9_way 1 = .ok (.iconst 0, 1) := by decide +kernel
theorem dX9_way_2 : decode cX9_way 2 = .ok (.putfield 62, 3) := by decide +kernel
theorem dX9_way_5 : decode cX9_way 5 = .ok (.iload_n 1, 1) := by decide +kernel
theorem dX9_way_6 : decode cX9_way 6 = .ok (.iconst (-1), 1) := by decide +kernel
theorem dX9_way_7 : decode cX9_way 7 = .ok (.if_icmp .eq 13, 3) := by decide +kernel
theorem dX9_way_10 : decode cX9_way 10 = .ok (.aload_n 0, 1) := by decide +kernel
theorem dX9_way_11 : decode cX9_way 11 = .ok (.iload_n 1, 1) := by decide +kernel
theorem dX9_way_12 : decode cX9_way 12 = .ok (.invokevirtual 127, 3) := by decide +kernel
theorem dX9_way_15 : decode cX9_way 15 = .ok (.ifCond .ne 5, 3) := by decide +kernel
theorem dX9_way_18 : decode cX9_way 18 = .ok (.iconst (-1), 1) := by decide +kernel
theorem dX9_way_19 : decode cX9_way 19 = .ok (.ireturn, 1) := by decide +kernel
theorem dX9_way_20 : decode cX9_way 20 = .ok (.aload_n 0, 1) := by decide +kernel
theorem dX9_way_21 : decode cX9_way 21 = .ok (.aload_n 0, 1) := by decide +kernel
theorem dX9_way_22 : decode cX9_way 22 = .ok (.getfield 31, 3) := by decide +kernel
theorem dX9_way_25 : decode cX9_way 25 = .ok (.aload_n 0, 1) := by decide +kernel
theorem dX9_way_26 : decode cX9_way 26 = .ok (.getfield 31, 3) := by decide +kernel
theorem dX9_way_29 : decode cX9_way 29 = .ok (.iconst 1, 1) := by decide +kernel
theorem dX9_way_30 : decode cX9_way 30 = .ok (.iaload, 1) := by decide +kernel
theorem dX9_way_31 : decode cX9_way 31 = .ok (.invokevirtual 159, 3) := by decide +kernel
theorem dX9_way_34 : decode cX9_way 34 = .ok (.istore_n 2, 1) := by decide +kernel
theorem dX9_way_35 : decode cX9_way 35 = .ok (.iload_n 1, 1) := by decide +kernel
theorem dX9_way_36 : decode cX9_way 36 = .ok (.iconst (-1), 1) := by decide +kernel
theorem dX9_way_37 : decode cX9_way 37 = .ok (.if_icmp .ne 7, 3) := by decide +kernel
theorem dX9_way_40 : decode cX9_way 40 = .ok (.iload_n 2, 1) := by decide +kernel
theorem dX9_way_41 : decode cX9_way 41 = .ok (.goto 24, 3) := by decide +kernel
theorem dX9_way_44 : decode cX9_way 44 = .ok (.iload_n 1, 1) := by decide +kernel
theorem dX9_way_45 : decode cX9_way 45 = .ok (.aload_n 0, 1) := by decide +kernel
theorem dX9_way_46 : decode cX9_way 46 = .ok (.getfield 31, 3) := by decide +kernel
theorem dX9_way_49 : decode cX9_way 49 = .ok (.iconst 0, 1) := by decide +kernel
theorem dX9_way_50 : decode cX9_way 50 = .ok (.iaload, 1) := by decide +kernel
theorem dX9_way_51 : decode cX9_way 51 = .ok (.if_icmp .ge 8, 3) := by decide +kernel
theorem dX9_way_54 : decode cX9_way 54 = .ok (.bipush (-9), 2) := by decide +kernel
theorem dX9_way_56 : decode cX9_way 56 = .ok (.goto 9, 3) := by decide +kernel
theorem dX9_way_59 : decode cX9_way 59 = .ok (.aload_n 0, 1) := by decide +kernel
theorem dX9_way_60 : decode cX9_way 60 = .ok (.getfield 56, 3) := by decide +kernel
theorem dX9_way_63 : decode cX9_way 63 = .ok (.iload_n 1, 1) := by decide +kernel
theorem dX9_way_64 : decode cX9_way 64 = .ok (.iaload, 1) := by decide +kernel
theorem dX9_way_65 : decode cX9_way 65 = .ok (.ireturn, 1) := by decide +kernel
set_option maxRecDepth 20000 in
theorem ggX9_enough_X9_finds : GoodIn wsX9_enough wsX9_finds := goodIn_r _ [7, 8, 9, 10, 11, 12, 13, 14, 15, 16, 6, 17, 18, 19, 20, 21, 22, 23, 24, 25, 26, 27, 28, 29, 30, 31, 32, 33, 34, 35, 36, 37, 38, 39, 40, 41, 42, 43, 44, 45, 46, 47, 48, 49, 50, 51, 52, 53, 54, 55, 56, 57, 58] (by decide +kernel) (by decide +kernel)
set_option maxRecDepth 20000 in
theorem gX9_enough_X9_finds : GoodIn wsX9_enough (wsV RX9 159 RX9 yX9_finds wsX9_finds) := goodIn_app (goodIn_of _ (by decide +kernel)) ggX9_enough_X9_finds
theorem dX9_enough_0 : decode cX9_enough 0 = .ok (.aload_n 0, 1) := by decide +kernel
theorem dX9_enough_1 : decode cX9_enough 1 = .ok (.iconst 0, 1) := by decide +kernel
theorem dX9_enough_2 : decode cX9_enough 2 = .ok (.putfield 62, 3) := by decide +kernel
theorem dX9_enough_5 : decode cX9_enough 5 = .ok (.aload_n 0, 1) := by decide +kernel
theorem dX9_enough_6 : decode cX9_enough 6 = .ok (.aload_n 0, 1) := by decide +kernel
theorem dX9_enough_7 : decode cX9_enough 7 = .ok (.getfield 31, 3) := by decide +kernel
theorem dX9_enough_10 : decode cX9_enough 10 = .ok (.aload_n 0, 1) := by decide +kernel
theorem dX9_enough_11 : decode cX9_enough 11 = .ok (.getfield 31, 3) := by decide +kernel
theorem dX9_enough_14 : decode cX9_enough 14 = .ok (.iconst 1, 1) := by decide +kernel
theorem dX9_enough_15 : decode cX9_enough 15 = .ok (.iaload, 1) := by decide +kernel
theorem dX9_enough_16 : decode cX9_enough 16 = .ok (.invokevirtual 159, 3) := by decide +kernel
theorem dX9_enough_19 : decode cX9_enough 19 = .ok (.aload_n 0, 1) := by decide +kernel
theorem dX9_enough_20 : decode cX9_enough 20 = .ok (.getfield 31, 3) := by decide +kernel
theorem dX9_enough_23 : decode cX9_enough 23 = .ok (.iconst 2, 1) := by decide +kernel
theorem dX9_enough_24 : decode cX9_enough 24 = .ok (.iaload, 1) := by decide +kernel
theorem dX9_enough_25 : decode cX9_enough 25 = .ok (.if_icmp .gt 7, 3) := by decide +kernel
theorem dX9_enough_28 : decode cX9_enough 28 = .ok (.iconst 1, 1) := by decide +kernel
theorem dX9_enough_29 : decode cX9_enough 29 = .ok (.goto 4, 3) := by decide +kernel
theorem dX9_enough_32 : decode cX9_enough 32 = .ok (.iconst 0, 1) := by decide +kernel
theorem dX9_enough_33 : decode cX9_enough 33 = .ok (.ireturn, 1) := by decide +kernel
theorem dX9_ahead_0 : decode cX9_ahead 0 = .ok (.iconst 1, 1) := by decide +kernel
theorem dX9_ahead_1 : decode cX9_ahead 1 = .ok (.aload_n 0, 1) := by decide +kernel
theorem dX9_ahead_2 : decode cX9_ahead 2 = .ok (.getfield 13, 3) := by decide +kernel
theorem dX9_ahead_5 : decode cX9_ahead 5 = .ok (.iconst 0, 1) := by decide +kernel
theorem dX9_ahead_6 : decode cX9_ahead 6 = .ok (.iaload, 1) := by decide +kernel
theorem dX9_ahead_7 : decode cX9_ahead 7 = .ok (.ishl, 1) := by decide +kernel
theorem dX9_ahead_8 : decode cX9_ahead 8 = .ok (.iconst 1, 1) := by decide +kernel
theorem dX9_ahead_9 : decode cX9_ahead 9 = .ok (.aload_n 0, 1) := by decide +kernel
theorem dX9_ahead_10 : decode cX9_ahead 10 = .ok (.getfield 31, 3) := by decide +kernel
theorem dX9_ahead_13 : decode cX9_ahead 13 = .ok (.iconst 0, 1) := by decide +kernel
theorem dX9_ahead_14 : decode cX9_ahead 14 = .ok (.iaload, 1) := by decide +kernel
theorem dX9_ahead_15 : decode cX9_ahead 15 = .ok (.ishl, 1) := by decide +kernel
theorem dX9_ahead_16 : decode cX9_ahead 16 = .ok (.isub, 1) := by decide +kernel
theorem dX9_ahead_17 : decode cX9_ahead 17 = .ok (.ireturn, 1) := by decide +kernel
set_option maxRecDepth 20000 in
theorem ggX9_toBreak_X9_in : GoodIn wsX9_toBreak wsX9_in := goodIn_r _ [7] (by decide +kernel) (by decide +kernel)
set_option maxRecDepth 20000 in
theorem gX9_toBreak_X9_in : GoodIn wsX9_toBreak (va_wsS RX9 66 yX9_in wsX9_in) := goodIn_app (goodIn_of _ (by decide +kernel)) ggX9_toBreak_X9_in
set_option maxRecDepth 20000 in
theorem ggX9_toBreak_X9_asNow : GoodIn wsX9_toBreak wsX9_asNow := goodIn_r _ [11, 2, 3, 46, 47, 48, 49, 50, 51, 52, 53, 54, 55, 56, 57, 58, 59, 60, 61, 62, 63, 64, 65, 66, 67, 68, 69, 70, 71, 72, 73] (by decide +kernel) (by decide +kernel)
set_option maxRecDepth 20000 in
theorem gX9_toBreak_X9_asNow : GoodIn wsX9_toBreak (wsV RX9 163 RX9 yX9_asNow wsX9_asNow) := goodIn_app (goodIn_of _ (by decide +kernel)) ggX9_toBreak_X9_asNow
set_option maxRecDepth 20000 in
theorem ggX9_toBreak_X9_ahead : GoodIn wsX9_toBreak wsX9_ahead := goodIn_r _ [15, 16, 3, 46, 47, 48, 49, 50, 51, 52, 53, 54, 55, 56, 57, 58, 59, 60, 61, 62, 63, 64, 65, 66, 67, 68, 69, 70, 71, 72, 73] (by decide +kernel) (by decide +kernel)
set_option maxRecDepth 20000 in
theorem gX9_toBreak_X9_ahead : GoodIn wsX9_toBreak (wsV RX9 166 RX9 yX9_ahead wsX9_ahead) := goodIn_app (goodIn_of _ (by decide +kernel)) ggX9_toBreak_X9_ahead
set_option maxRecDepth 20000 in
theorem ggX9_toBreak_X9_ones : GoodIn wsX9_toBreak wsX9_ones := goodIn_r _ [19] (by decide +kernel) (by decide +kernel)
set_option maxRecDepth 20000 in
theorem gX9_toBreak_X9_ones : GoodIn wsX9_toBreak (va_wsS RX9 150 yX9_ones wsX9_ones) := goodIn_app (goodIn_of _ (by decide +kernel)) ggX9_toBreak_X9_ones
set_option maxRecDepth 20000 in
theorem ggX9_toBreak_X9_finds : GoodIn wsX9_toBreak wsX9_finds := goodIn_r _ [23, 24, 16, 25, 26, 27, 28, 29, 30, 31, 6, 32, 33, 34, 35, 36, 37, 38, 39, 40, 41, 42, 43, 44, 45, 46, 47, 48, 49, 50, 51, 52, 53, 54, 55, 56, 57, 58, 59, 60, 61, 62, 63, 64, 65, 66, 67, 68, 69, 70, 71, 72, 73] (by decide +kernel) (by decide +kernel)
set_option maxRecDepth 20000 in
theorem gX9_toBreak_X9_finds : GoodIn wsX9_toBreak (wsV RX9 159 RX9 yX9_finds wsX9_finds) := goodIn_app (goodIn_of _ (by decide +kernel)) ggX9_toBreak_X9_finds
theorem dX9_toBreak_0 : decode cX9_toBreak 0 = .ok (.aload_n 0, 1) := by decide +kernel
theorem dX9_toBreak_1 : decode cX9_toBreak 1 = .ok (.iconst 0, 1) := by decide +kernel
theorem dX9_toBreak_2 : decode cX9_toBreak 2 = .ok (.putfield 62, 3) := by decide +kernel
theorem dX9_toBreak_5 : decode cX9_toBreak 5 = .ok (.iload_n 1, 1) := by decide +kernel
theorem dX9_toBreak_6 : decode cX9_toBreak 6 = .ok (.iconst 0, 1) := by decide +kernel
theorem dX9_toBreak_7 : decode cX9_toBreak 7 = .ok (.sipush 9999, 3) := by decide +kernel
theorem dX9_toBreak_10 : decode cX9_toBreak 10 = .ok (.invokestatic 66, 3) := by decide +kernel
theorem dX9_toBreak_13 : decode cX9_toBreak 13 = .ok (.ifCond .ne 5, 3) := by decide +kernel
theorem dX9_toBreak_16 : decode cX9_toBreak 16 = .ok (.iconst (-1), 1) := by decide +kernel
theorem dX9_toBreak_17 : decode cX9_toBreak 17 = .ok (.ireturn, 1) := by decide +kernel
theorem dX9_toBreak_18 : decode cX9_toBreak 18 = .ok (.aload_n 0, 1) := by decide +kernel
theorem dX9_toBreak_19 : decode cX9_toBreak 19 = .ok (.invokevirtual 163, 3) := by decide +kernel
theorem dX9_toBreak_22 : decode cX9_toBreak 22 = .ok (.bipush (-9), 2) := by decide +kernel
theorem dX9_toBreak_24 : decode cX9_toBreak 24 = .ok (.istore_n 2, 1) := by decide +kernel
theorem dX9_toBreak_25 : decode cX9_toBreak 25 = .ok (.iconst 0, 1) := by decide +kernel
theorem dX9_toBreak_26 : decode cX9_toBreak 26 = .ok (.istore_n 3, 1) := by decide +kernel
theorem dX9_toBreak_27 : decode cX9_toBreak 27 = .ok (.iload_n 3, 1) := by decide +kernel
theorem dX9_toBreak_28 : decode cX9_toBreak 28 = .ok (.sipush 256, 3) := by decide +kernel
theorem dX9_toBreak_31 : decode cX9_toBreak 31 = .ok (.if_icmp .ge 75, 3) := by decide +kernel
theorem dX9_toBreak_34 : decode cX9_toBreak 34 = .ok (.iload_n 3, 1) := by decide +kernel
theorem dX9_toBreak_35 : decode cX9_toBreak 35 = .ok (.aload_n 0, 1) := by decide +kernel
theorem dX9_toBreak_36 : decode cX9_toBreak 36 = .ok (.invokevirtual 166, 3) := by decide +kernel
theorem dX9_toBreak_39 : decode cX9_toBreak 39 = .ok (.iconst (-1), 1) := by decide +kernel
theorem dX9_toBreak_40 : decode cX9_toBreak 40 = .ok (.ixor, 1) := by decide +kernel
theorem dX9_toBreak_41 : decode cX9_toBreak 41 = .ok (.iand, 1) := by decide +kernel
theorem dX9_toBreak_42 : decode cX9_toBreak 42 = .ok (.ifCond .ne 58, 3) := by decide +kernel
theorem dX9_toBreak_45 : decode cX9_toBreak 45 = .ok (.iload_n 2, 1) := by decide +kernel
theorem dX9_toBreak_46 : decode cX9_toBreak 46 = .ok (.bipush (-9), 2) := by decide +kernel
theorem dX9_toBreak_48 : decode cX9_toBreak 48 = .ok (.if_icmp .eq 14, 3) := by decide +kernel
theorem dX9_toBreak_51 : decode cX9_toBreak 51 = .ok (.iload_n 3, 1) := by decide +kernel
theorem dX9_toBreak_52 : decode cX9_toBreak 52 = .ok (.invokestatic 150, 3) := by decide +kernel
theorem dX9_toBreak_55 : decode cX9_toBreak 55 = .ok (.iload_n 2, 1) := by decide +kernel
theorem dX9_toBreak_56 : decode cX9_toBreak 56 = .ok (.invokestatic 150, 3) := by decide +kernel
theorem dX9_toBreak_59 : decode cX9_toBreak 59 = .ok (.if_icmp .ge 41, 3) := by decide +kernel
theorem dX9_toBreak_62 : decode cX9_toBreak 62 = .ok (.aload_n 0, 1) := by decide +kernel
theorem dX9_toBreak_63 : decode cX9_toBreak 63 = .ok (.getfield 34, 3) := by decide +kernel
theorem dX9_toBreak_66 : decode cX9_toBreak 66 = .ok (.iconst 5, 1) := by decide +kernel
theorem dX9_toBreak_67 : decode cX9_toBreak 67 = .ok (.aload_n 0, 1) := by decide +kernel
theorem dX9_toBreak_68 : decode cX9_toBreak 68 = .ok (.getfield 31, 3) := by decide +kernel
theorem dX9_toBreak_71 : decode cX9_toBreak 71 = .ok (.iconst 5, 1) := by decide +kernel
theorem dX9_toBreak_72 : decode cX9_toBreak 72 = .ok (.iaload, 1) := by decide +kernel
theorem dX9_toBreak_73 : decode cX9_toBreak 73 = .ok (.iload_n 3, 1) := by decide +kernel
theorem dX9_toBreak_74 : decode cX9_toBreak 74 = .ok (.ior, 1) := by decide +kernel
theorem dX9_toBreak_75 : decode cX9_toBreak 75 = .ok (.iastore, 1) := by decide +kernel
theorem dX9_toBreak_76 : decode cX9_toBreak 76 = .ok (.aload_n 0, 1) := by decide +kernel
theorem dX9_toBreak_77 : decode cX9_toBreak 77 = .ok (.aload_n 0, 1) := by decide +kernel
theorem dX9_toBreak_78 : decode cX9_toBreak 78 = .ok (.getfield 34, 3) := by decide +kernel
theorem dX9_toBreak_81 : decode cX9_toBreak 81 = .ok (.aload_n 0, 1) := by decide +kernel
theorem dX9_toBreak_82 : decode cX9_toBreak 82 = .ok (.getfield 31, 3) := by decide +kernel
theorem dX9_toBreak_85 : decode cX9_toBreak 85 = .ok (.iconst 1, 1) := by decide +kernel
theorem dX9_toBreak_86 : decode cX9_toBreak 86 = .ok (.iaload, 1) := by decide +kernel
theorem dX9_toBreak_87 : decode cX9_toBreak 87 = .ok (.invokevirtual 159, 3) := by decide +kernel
theorem dX9_toBreak_90 : decode cX9_toBreak 90 = .ok (.iload_n 1, 1) := by decide +kernel
theorem dX9_toBreak_91 : decode cX9_toBreak 91 = .ok (.if_icmp .gt 7, 3) := by decide +kernel
theorem dX9_toBreak_94 : decode cX9_toBreak 94 = .ok (.iload_n 3, 1) := by decide +kernel
theorem dX9_toBreak_95 : decode cX9_toBreak 95 = .ok (.goto 4, 3) := by decide +kernel
theorem dX9_toBreak_98 : decode cX9_toBreak 98 = .ok (.iload_n 2, 1) := by decide +kernel
theorem dX9_toBreak_99 : decode cX9_toBreak 99 = .ok (.istore_n 2, 1) := by decide +kernel
theorem dX9_toBreak_100 : decode cX9_toBreak 100 = .ok (.iinc 3 1, 3) := by decide +kernel
theorem dX9_toBreak_103 : decode cX9_toBreak 103 = .ok (.goto (-76), 3) := by decide +kernel
theorem dX9_toBreak_106 : decode cX9_toBreak 106 = .ok (.iload_n 2, 1) := by decide +kernel
theorem dX9_toBreak_107 : decode cX9_toBreak 107 = .ok (.ireturn, 1) := by decide +kernel
theorem dX9_paidAt_0 : decode cX9_paidAt 0 = .ok (.aload_n 0, 1) := by decide +kernel
theorem dX9_paidAt_1 : decode cX9_paidAt 1 = .ok (.getfield 56, 3) := by decide +kernel
theorem dX9_paidAt_4 : decode cX9_paidAt 4 = .ok (.iload_n 1, 1) := by decide +kernel
theorem dX9_paidAt_5 : decode cX9_paidAt 5 = .ok (.iaload, 1) := by decide +kernel
theorem dX9_paidAt_6 : decode cX9_paidAt 6 = .ok (.iconst 1, 1) := by decide +kernel
theorem dX9_paidAt_7 : decode cX9_paidAt 7 = .ok (.if_icmp .ne 7, 3) := by decide +kernel
theorem dX9_paidAt_10 : decode cX9_paidAt 10 = .ok (.iconst 0, 1) := by decide +kernel
theorem dX9_paidAt_11 : decode cX9_paidAt 11 = .ok (.goto 9, 3) := by decide +kernel
theorem dX9_paidAt_14 : decode cX9_paidAt 14 = .ok (.aload_n 0, 1) := by decide +kernel
theorem dX9_paidAt_15 : decode cX9_paidAt 15 = .ok (.getfield 59, 3) := by decide +kernel
theorem dX9_paidAt_18 : decode cX9_paidAt 18 = .ok (.iload_n 1, 1) := by decide +kernel
theorem dX9_paidAt_19 : decode cX9_paidAt 19 = .ok (.iaload, 1) := by decide +kernel
theorem dX9_paidAt_20 : decode cX9_paidAt 20 = .ok (.ireturn, 1) := by decide +kernel
set_option maxRecDepth 20000 in
theorem ggX9_byLord_X9_in : GoodIn wsX9_byLord wsX9_in := goodIn_r _ [8] (by decide +kernel) (by decide +kernel)
set_option maxRecDepth 20000 in
theorem gX9_byLord_X9_in : GoodIn wsX9_byLord (va_wsS RX9 66 yX9_in wsX9_in) := goodIn_app (goodIn_of _ (by decide +kernel)) ggX9_byLord_X9_in
set_option maxRecDepth 20000 in
theorem ggX9_byLord_X9_finds : GoodIn wsX9_byLord wsX9_finds := goodIn_r _ [12, 13, 3, 14, 15, 16, 4, 17, 18, 19, 7, 20, 21, 22, 23, 24, 25, 26, 27, 28, 29, 30, 31, 32, 33, 38, 39, 40, 41, 42, 43, 44, 45, 46, 47, 48, 49, 50, 51, 52, 53, 54, 55, 56, 57, 58, 59, 60, 61, 62, 63, 64, 65] (by decide +kernel) (by decide +kernel)
set_option maxRecDepth 20000 in
theorem gX9_byLord_X9_finds : GoodIn wsX9_byLord (wsV RX9 159 RX9 yX9_finds wsX9_finds) := goodIn_app (goodIn_of _ (by decide +kernel)) ggX9_byLord_X9_finds
set_option maxRecDepth 20000 in
theorem ggX9_byLord_X9_paidAt : GoodIn wsX9_byLord wsX9_paidAt := goodIn_r _ [37, 15, 16, 38, 39, 40, 41, 42, 43, 44, 45, 46, 47, 48, 49, 50, 51, 52, 53, 54, 55, 56, 57, 58, 59, 60, 61, 62, 63, 64, 65] (by decide +kernel) (by decide +kernel)
set_option maxRecDepth 20000 in
theorem gX9_byLord_X9_paidAt : GoodIn wsX9_byLord (wsV RX9 170 RX9 yX9_paidAt wsX9_paidAt) := goodIn_app (goodIn_of _ (by decide +kernel)) ggX9_byLord_X9_paidAt
theorem dX9_byLord_0 : decode cX9_byLord 0 = .ok (.aload_n 0, 1) := by decide +kernel
theorem dX9_byLord_1 : decode cX9_byLord 1 = .ok (.iconst 0, 1) := by decide +kernel
theorem dX9_byLord_2 : decode cX9_byLord 2 = .ok (.putfield 62, 3) := by decide +kernel
theorem dX9_byLord_5 : decode cX9_byLord 5 = .ok (.iload_n 1, 1) := by decide +kernel
theorem dX9_byLord_6 : decode cX9_byLord 6 = .ok (.iconst 0, 1) := by decide +kernel
theorem dX9_byLord_7 : decode cX9_byLord 7 = .ok (.iconst 3, 1) := by decide +kernel
theorem dX9_byLord_8 : decode cX9_byLord 8 = .ok (.invokestatic 66, 3) := by decide +kernel
theorem dX9_byLord_11 : decode cX9_byLord 11 = .ok (.ifCond .ne 5, 3) := by decide +kernel
theorem dX9_byLord_14 : decode cX9_byLord 14 = .ok (.iconst (-1), 1) := by decide +kernel
theorem dX9_byLord_15 : decode cX9_byLord 15 = .ok (.ireturn, 1) := by decide +kernel
theorem dX9_byLord_16 : decode cX9_byLord 16 = .ok (.iconst 0, 1) := by decide +kernel
theorem dX9_byLord_17 : decode cX9_byLord 17 = .ok (.istore_n 2, 1) := by decide +kernel
theorem dX9_byLord_18 : decode cX9_byLord 18 = .ok (.aload_n 0, 1) := by decide +kernel
theorem dX9_byLord_19 : decode cX9_byLord 19 = .ok (.aload_n 0, 1) := by decide +kernel
theorem dX9_byLord_20 : decode cX9_byLord 20 = .ok (.getfield 31, 3) := by decide +kernel
theorem dX9_byLord_23 : decode cX9_byLord 23 = .ok (.aload_n 0, 1) := by decide +kernel
theorem dX9_byLord_24 : decode cX9_byLord 24 = .ok (.getfield 31, 3) := by decide +kernel
theorem dX9_byLord_27 : decode cX9_byLord 27 = .ok (.iconst 1, 1) := by decide +kernel
theorem dX9_byLord_28 : decode cX9_byLord 28 = .ok (.iaload, 1) := by decide +kernel
theorem dX9_byLord_29 : decode cX9_byLord 29 = .ok (.invokevirtual 159, 3) := by decide +kernel
theorem dX9_byLord_32 : decode cX9_byLord 32 = .ok (.pop, 1) := by decide +kernel
theorem dX9_byLord_33 : decode cX9_byLord 33 = .ok (.aload_n 0, 1) := by decide +kernel
theorem dX9_byLord_34 : decode cX9_byLord 34 = .ok (.getfield 31, 3) := by decide +kernel
theorem dX9_byLord_37 : decode cX9_byLord 37 = .ok (.iconst 0, 1) := by decide +kernel
theorem dX9_byLord_38 : decode cX9_byLord 38 = .ok (.iaload, 1) := by decide +kernel
theorem dX9_byLord_39 : decode cX9_byLord 39 = .ok (.istore_n 3, 1) := by decide +kernel
theorem dX9_byLord_40 : decode cX9_byLord 40 = .ok (.iload_n 3, 1) := by decide +kernel
theorem dX9_byLord_41 : decode cX9_byLord 41 = .ok (.aload_n 0, 1) := by decide +kernel
theorem dX9_byLord_42 : decode cX9_byLord 42 = .ok (.getfield 13, 3) := by decide +kernel
theorem dX9_byLord_45 : decode cX9_byLord 45 = .ok (.iconst 0, 1) := by decide +kernel
theorem dX9_byLord_46 : decode cX9_byLord 46 = .ok (.iaload, 1) := by decide +kernel
theorem dX9_byLord_47 : decode cX9_byLord 47 = .ok (.if_icmp .ge 31, 3) := by decide +kernel
theorem dX9_byLord_50 : decode cX9_byLord 50 = .ok (.iload_n 2, 1) := by decide +kernel
theorem dX9_byLord_51 : decode cX9_byLord 51 = .ok (.aload_n 0, 1) := by decide +kernel
theorem dX9_byLord_52 : decode cX9_byLord 52 = .ok (.getfield 22, 3) := by decide +kernel
theorem dX9_byLord_55 : decode cX9_byLord 55 = .ok (.iload_n 3, 1) := by decide +kernel
theorem dX9_byLord_56 : decode cX9_byLord 56 = .ok (.iaload, 1) := by decide +kernel
theorem dX9_byLord_57 : decode cX9_byLord 57 = .ok (.iload_n 1, 1) := by decide +kernel
theorem dX9_byLord_58 : decode cX9_byLord 58 = .ok (.if_icmp .ne 11, 3) := by decide +kernel
theorem dX9_byLord_61 : decode cX9_byLord 61 = .ok (.aload_n 0, 1) := by decide +kernel
theorem dX9_byLord_62 : decode cX9_byLord 62 = .ok (.iload_n 3, 1) := by decide +kernel
theorem dX9_byLord_63 : decode cX9_byLord 63 = .ok (.invokevirtual 170, 3) := by decide +kernel
theorem dX9_byLord_66 : decode cX9_byLord 66 = .ok (.goto 4, 3) := by decide +kernel
theorem dX9_byLord_69 : decode cX9_byLord 69 = .ok (.iconst 0, 1) := by decide +kernel
theorem dX9_byLord_70 : decode cX9_byLord 70 = .ok (.iadd, 1) := by decide +kernel
theorem dX9_byLord_71 : decode cX9_byLord 71 = .ok (.istore_n 2, 1) := by decide +kernel
theorem dX9_byLord_72 : decode cX9_byLord 72 = .ok (.iinc 3 1, 3) := by decide +kernel
theorem dX9_byLord_75 : decode cX9_byLord 75 = .ok (.goto (-35), 3) := by decide +kernel
theorem dX9_byLord_78 : decode cX9_byLord 78 = .ok (.iload_n 2, 1) := by decide +kernel
theorem dX9_byLord_79 : decode cX9_byLord 79 = .ok (.ireturn, 1) := by decide +kernel
set_option maxRecDepth 20000 in
theorem ggX9_most_X9_isRock : GoodIn wsX9_most wsX9_isRock := goodIn_r _ [8, 9, 10, 11, 7, 12, 47, 48, 49, 50, 51, 52, 53, 54, 55, 56, 57, 58, 59, 60, 61, 62, 63, 64, 65, 66, 67, 68, 69, 70, 71, 72, 73, 74] (by decide +kernel) (by decide +kernel)
set_option maxRecDepth 20000 in
theorem gX9_most_X9_isRock : GoodIn wsX9_most (wsV RX9 127 RX9 yX9_isRock wsX9_isRock) := goodIn_app (goodIn_of _ (by decide +kernel)) ggX9_most_X9_isRock
set_option maxRecDepth 20000 in
theorem ggX9_most_X9_in : GoodIn wsX9_most wsX9_in := goodIn_r _ [12] (by decide +kernel) (by decide +kernel)
set_option maxRecDepth 20000 in
theorem gX9_most_X9_in : GoodIn wsX9_most (va_wsS RX9 66 yX9_in wsX9_in) := goodIn_app (goodIn_of _ (by decide +kernel)) ggX9_most_X9_in
set_option maxRecDepth 20000 in
theorem ggX9_most_X9_asNow : GoodIn wsX9_most wsX9_asNow := goodIn_r _ [16, 3, 2, 47, 48, 49, 50, 51, 52, 53, 54, 55, 56, 57, 58, 59, 60, 61, 62, 63, 64, 65, 66, 67, 68, 69, 70, 71, 72, 73, 74] (by decide +kernel) (by decide +kernel)
set_option maxRecDepth 20000 in
theorem gX9_most_X9_asNow : GoodIn wsX9_most (wsV RX9 163 RX9 yX9_asNow wsX9_asNow) := goodIn_app (goodIn_of _ (by decide +kernel)) ggX9_most_X9_asNow
set_option maxRecDepth 20000 in
theorem ggX9_most_X9_finds : GoodIn wsX9_most wsX9_finds := goodIn_r _ [20, 21, 9, 22, 23, 24, 25, 26, 27, 28, 7, 29, 30, 31, 32, 33, 34, 35, 36, 37, 38, 39, 40, 41, 42, 47, 48, 49, 50, 51, 52, 53, 54, 55, 56, 57, 58, 59, 60, 61, 62, 63, 64, 65, 66, 67, 68, 69, 70, 71, 72, 73, 74] (by decide +kernel) (by decide +kernel)
set_option maxRecDepth 20000 in
theorem gX9_most_X9_finds : GoodIn wsX9_most (wsV RX9 159 RX9 yX9_finds wsX9_finds) := goodIn_app (goodIn_of _ (by decide +kernel)) ggX9_most_X9_finds
set_option maxRecDepth 20000 in
theorem ggX9_most_X9_paidAt : GoodIn wsX9_most wsX9_paidAt := goodIn_r _ [46, 23, 24, 47, 48, 49, 50, 51, 52, 53, 54, 55, 56, 57, 58, 59, 60, 61, 62, 63, 64, 65, 66, 67, 68, 69, 70, 71, 72, 73, 74] (by decide +kernel) (by decide +kernel)
set_option maxRecDepth 20000 in
theorem gX9_most_X9_paidAt : GoodIn wsX9_most (wsV RX9 170 RX9 yX9_paidAt wsX9_paidAt) := goodIn_app (goodIn_of _ (by decide +kernel)) ggX9_most_X9_paidAt
theorem dX9_most_0 : decode cX9_most 0 = .ok (.aload_n 0, 1) := by decide +kernel
theorem dX9_most_1 : decode cX9_most 1 = .ok (.iconst 0, 1) := by decide +kernel
theorem dX9_most_2 : decode cX9_most 2 = .ok (.putfield 62, 3) := by decide +kernel
theorem dX9_most_5 : decode cX9_most 5 = .ok (.aload_n 0, 1) := by decide +kernel
theorem dX9_most_6 : decode cX9_most 6 = .ok (.iload_n 1, 1) := by decide +kernel
theorem dX9_most_7 : decode cX9_most 7 = .ok (.invokevirtual 127, 3) := by decide +kernel
theorem dX9_most_10 : decode cX9_most 10 = .ok (.ifCond .eq 12, 3) := by decide +kernel
theorem dX9_most_13 : decode cX9_most 13 = .ok (.iload_n 2, 1) := by decide +kernel
theorem dX9_most_14 : decode cX9_most 14 = .ok (.iconst 0, 1) := by decide +kernel
theorem dX9_most_15 : decode cX9_most 15 = .ok (.iconst 1, 1) := by decide +kernel
theorem dX9_most_16 : decode cX9_most 16 = .ok (.invokestatic 66, 3) := by decide +kernel
theorem dX9_most_19 : decode cX9_most 19 = .ok (.ifCond .ne 5, 3) := by decide +kernel
theorem dX9_most_22 : decode cX9_most 22 = .ok (.iconst (-1), 1) := by decide +kernel
theorem dX9_most_23 : decode cX9_most 23 = .ok (.ireturn, 1) := by decide +kernel
theorem dX9_most_24 : decode cX9_most 24 = .ok (.iload_n 1, 1) := by decide +kernel
theorem dX9_most_25 : decode cX9_most 25 = .ok (.aload_n 0, 1) := by decide +kernel
theorem dX9_most_26 : decode cX9_most 26 = .ok (.getfield 31, 3) := by decide +kernel
theorem dX9_most_29 : decode cX9_most 29 = .ok (.iconst 0, 1) := by decide +kernel
theorem dX9_most_30 : decode cX9_most 30 = .ok (.iaload, 1) := by decide +kernel
theorem dX9_most_31 : decode cX9_most 31 = .ok (.if_icmp .lt 17, 3) := by decide +kernel
theorem dX9_most_34 : decode cX9_most 34 = .ok (.aload_n 0, 1) := by decide +kernel
theorem dX9_most_35 : decode cX9_most 35 = .ok (.getfield 31, 3) := by decide +kernel
theorem dX9_most_38 : decode cX9_most 38 = .ok (.iconst 5, 1) := by decide +kernel
theorem dX9_most_39 : decode cX9_most 39 = .ok (.iaload, 1) := by decide +kernel
theorem dX9_most_40 : decode cX9_most 40 = .ok (.iload_n 1, 1) := by decide +kernel
theorem dX9_most_41 : decode cX9_most 41 = .ok (.ishr, 1) := by decide +kernel
theorem dX9_most_42 : decode cX9_most 42 = .ok (.iconst 1, 1) := by decide +kernel
