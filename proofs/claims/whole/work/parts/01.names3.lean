set_option maxRecDepth 20000 in
theorem gX8_pays_X8_goOn : GoodIn wsX8_pays (wsV RX8 167 RX8 yX8_goOn wsX8_goOn) := goodIn_app (goodIn_of _ (by decide +kernel)) ggX8_pays_X8_goOn
theorem dX8_pays_0 : decode cX8_pays 0 = .ok (.aload_n 0, 1) := by decide +kernel
theorem dX8_pays_1 : decode cX8_pays 1 = .ok (.invokevirtual 142, 3) := by decide +kernel
theorem dX8_pays_4 : decode cX8_pays 4 = .ok (.ifCond .eq 6, 3) := by decide +kernel
theorem dX8_pays_7 : decode cX8_pays 7 = .ok (.bipush (-2), 2) := by decide +kernel
theorem dX8_pays_9 : decode cX8_pays 9 = .ok (.ireturn, 1) := by decide +kernel
theorem dX8_pays_10 : decode cX8_pays 10 = .ok (.aload_n 0, 1) := by decide +kernel
theorem dX8_pays_11 : decode cX8_pays 11 = .ok (.invokevirtual 146, 3) := by decide +kernel
theorem dX8_pays_14 : decode cX8_pays 14 = .ok (.istore_n 1, 1) := by decide +kernel
theorem dX8_pays_15 : decode cX8_pays 15 = .ok (.iload_n 1, 1) := by decide +kernel
theorem dX8_pays_16 : decode cX8_pays 16 = .ok (.aload_n 0, 1) := by decide +kernel
theorem dX8_pays_17 : decode cX8_pays 17 = .ok (.getfield 38, 3) := by decide +kernel
theorem dX8_pays_20 : decode cX8_pays 20 = .ok (.getfield 133, 3) := by decide +kernel
theorem dX8_pays_23 : decode cX8_pays 23 = .ok (.if_icmp .le 6, 3) := by decide +kernel
theorem dX8_pays_26 : decode cX8_pays 26 = .ok (.bipush (-2), 2) := by decide +kernel
theorem dX8_pays_28 : decode cX8_pays 28 = .ok (.ireturn, 1) := by decide +kernel
theorem dX8_pays_29 : decode cX8_pays 29 = .ok (.aload_n 0, 1) := by decide +kernel
theorem dX8_pays_30 : decode cX8_pays 30 = .ok (.getfield 45, 3) := by decide +kernel
theorem dX8_pays_33 : decode cX8_pays 33 = .ok (.aload_n 0, 1) := by decide +kernel
theorem dX8_pays_34 : decode cX8_pays 34 = .ok (.getfield 38, 3) := by decide +kernel
theorem dX8_pays_37 : decode cX8_pays 37 = .ok (.invokevirtual 163, 3) := by decide +kernel
theorem dX8_pays_40 : decode cX8_pays 40 = .ok (.aload_n 0, 1) := by decide +kernel
theorem dX8_pays_41 : decode cX8_pays 41 = .ok (.getfield 32, 3) := by decide +kernel
theorem dX8_pays_44 : decode cX8_pays 44 = .ok (.aload_n 0, 1) := by decide +kernel
theorem dX8_pays_45 : decode cX8_pays 45 = .ok (.getfield 38, 3) := by decide +kernel
theorem dX8_pays_48 : decode cX8_pays 48 = .ok (.getfield 127, 3) := by decide +kernel
theorem dX8_pays_51 : decode cX8_pays 51 = .ok (.iconst 2, 1) := by decide +kernel
theorem dX8_pays_52 : decode cX8_pays 52 = .ok (.invokevirtual 120, 3) := by decide +kernel
theorem dX8_pays_55 : decode cX8_pays 55 = .ok (.istore_n 2, 1) := by decide +kernel
theorem dX8_pays_56 : decode cX8_pays 56 = .ok (.aload_n 0, 1) := by decide +kernel
theorem dX8_pays_57 : decode cX8_pays 57 = .ok (.getfield 38, 3) := by decide +kernel
theorem dX8_pays_60 : decode cX8_pays 60 = .ok (.dup, 1) := by decide +kernel
theorem dX8_pays_61 : decode cX8_pays 61 = .ok (.getfield 133, 3) := by decide +kernel
theorem dX8_pays_64 : decode cX8_pays 64 = .ok (.iload_n 1, 1) := by decide +kernel
theorem dX8_pays_65 : decode cX8_pays 65 = .ok (.isub, 1) := by decide +kernel
theorem dX8_pays_66 : decode cX8_pays 66 = .ok (.putfield 133, 3) := by decide +kernel
theorem dX8_pays_69 : decode cX8_pays 69 = .ok (.aload_n 0, 1) := by decide +kernel
theorem dX8_pays_70 : decode cX8_pays 70 = .ok (.getfield 38, 3) := by decide +kernel
theorem dX8_pays_73 : decode cX8_pays 73 = .ok (.getfield 156, 3) := by decide +kernel
theorem dX8_pays_76 : decode cX8_pays 76 = .ok (.iload_n 2, 1) := by decide +kernel
theorem dX8_pays_77 : decode cX8_pays 77 = .ok (.aload_n 0, 1) := by decide +kernel
theorem dX8_pays_78 : decode cX8_pays 78 = .ok (.getfield 38, 3) := by decide +kernel
theorem dX8_pays_81 : decode cX8_pays 81 = .ok (.getfield 156, 3) := by decide +kernel
theorem dX8_pays_84 : decode cX8_pays 84 = .ok (.iload_n 2, 1) := by decide +kernel
theorem dX8_pays_85 : decode cX8_pays 85 = .ok (.invokestatic 159, 3) := by decide +kernel
theorem dX8_pays_88 : decode cX8_pays 88 = .ok (.iload_n 1, 1) := by decide +kernel
theorem dX8_pays_89 : decode cX8_pays 89 = .ok (.iadd, 1) := by decide +kernel
theorem dX8_pays_90 : decode cX8_pays 90 = .ok (.invokestatic 100, 3) := by decide +kernel
theorem dX8_pays_93 : decode cX8_pays 93 = .ok (.aload_n 0, 1) := by decide +kernel
theorem dX8_pays_94 : decode cX8_pays 94 = .ok (.iload_n 1, 1) := by decide +kernel
theorem dX8_pays_95 : decode cX8_pays 95 = .ok (.ifCond .le 7, 3) := by decide +kernel
theorem dX8_pays_98 : decode cX8_pays 98 = .ok (.iload_n 2, 1) := by decide +kernel
theorem dX8_pays_99 : decode cX8_pays 99 = .ok (.goto 5, 3) := by decide +kernel
theorem dX8_pays_102 : decode cX8_pays 102 = .ok (.bipush (-9), 2) := by decide +kernel
theorem dX8_pays_104 : decode cX8_pays 104 = .ok (.invokevirtual 167, 3) := by decide +kernel
theorem dX8_pays_107 : decode cX8_pays 107 = .ok (.iload_n 1, 1) := by decide +kernel
theorem dX8_pays_108 : decode cX8_pays 108 = .ok (.ireturn, 1) := by decide +kernel
set_option maxRecDepth 20000 in
theorem ggX8_lands_X8_isAtSea : GoodIn wsX8_lands wsX8_isAtSea := goodIn_r _ [11, 2, 3, 1, 12, 60, 61, 62, 63, 64, 65, 66, 67, 68, 69, 70, 71, 72, 73, 74, 75, 76, 77, 78, 79, 80, 81, 82, 83, 84, 85] (by decide +kernel) (by decide +kernel)
set_option maxRecDepth 20000 in
theorem gX8_lands_X8_isAtSea : GoodIn wsX8_lands (wsV RX8 142 RX8 yX8_isAtSea wsX8_isAtSea) := goodIn_app (goodIn_of _ (by decide +kernel)) ggX8_lands_X8_isAtSea
set_option maxRecDepth 20000 in
theorem ggX8_lands_X3_fact : GoodIn wsX8_lands wsX3_fact := goodIn_r _ [17, 18, 19, 20, 21, 22, 81, 82, 83, 84, 85] (by decide +kernel) (by decide +kernel)
set_option maxRecDepth 20000 in
theorem gX8_lands_X3_fact : GoodIn wsX8_lands (wsV RX8 120 RX3 yX3_fact wsX3_fact) := goodIn_app (goodIn_of _ (by decide +kernel)) ggX8_lands_X3_fact
set_option maxRecDepth 20000 in
theorem ggX8_lands_X1_remember : GoodIn wsX8_lands wsX1_remember := goodIn_r _ [27, 28, 29, 30, 31, 32, 33, 34, 35, 36, 26, 37, 38, 39, 40, 41, 42, 43, 44, 45, 46, 47, 48, 49, 50, 51, 52, 53, 21, 54, 86, 87, 88, 73, 74, 75, 76, 77, 78, 79, 80] (by decide +kernel) (by decide +kernel)
set_option maxRecDepth 20000 in
theorem gX8_lands_X1_remember : GoodIn wsX8_lands (wsV RX8 163 RX1 yX1_remember wsX1_remember) := goodIn_app (goodIn_of _ (by decide +kernel)) ggX8_lands_X1_remember
set_option maxRecDepth 20000 in
theorem ggX8_lands_X8_goOn : GoodIn wsX8_lands wsX8_goOn := goodIn_r _ [58, 2, 59, 3, 60, 61, 62, 63, 64, 65, 66, 67, 68, 69, 70, 71, 72, 73, 74, 75, 76, 77, 78, 79, 80] (by decide +kernel) (by decide +kernel)
set_option maxRecDepth 20000 in
theorem gX8_lands_X8_goOn : GoodIn wsX8_lands (wsV RX8 167 RX8 yX8_goOn wsX8_goOn) := goodIn_app (goodIn_of _ (by decide +kernel)) ggX8_lands_X8_goOn
theorem dX8_lands_0 : decode cX8_lands 0 = .ok (.aload_n 0, 1) := by decide +kernel
theorem dX8_lands_1 : decode cX8_lands 1 = .ok (.invokevirtual 142, 3) := by decide +kernel
theorem dX8_lands_4 : decode cX8_lands 4 = .ok (.ifCond .eq 6, 3) := by decide +kernel
theorem dX8_lands_7 : decode cX8_lands 7 = .ok (.bipush (-2), 2) := by decide +kernel
theorem dX8_lands_9 : decode cX8_lands 9 = .ok (.ireturn, 1) := by decide +kernel
theorem dX8_lands_10 : decode cX8_lands 10 = .ok (.aload_n 0, 1) := by decide +kernel
theorem dX8_lands_11 : decode cX8_lands 11 = .ok (.getfield 32, 3) := by decide +kernel
theorem dX8_lands_14 : decode cX8_lands 14 = .ok (.aload_n 0, 1) := by decide +kernel
theorem dX8_lands_15 : decode cX8_lands 15 = .ok (.getfield 38, 3) := by decide +kernel
theorem dX8_lands_18 : decode cX8_lands 18 = .ok (.getfield 127, 3) := by decide +kernel
theorem dX8_lands_21 : decode cX8_lands 21 = .ok (.iconst 4, 1) := by decide +kernel
theorem dX8_lands_22 : decode cX8_lands 22 = .ok (.invokevirtual 120, 3) := by decide +kernel
theorem dX8_lands_25 : decode cX8_lands 25 = .ok (.aload_n 0, 1) := by decide +kernel
theorem dX8_lands_26 : decode cX8_lands 26 = .ok (.getfield 38, 3) := by decide +kernel
theorem dX8_lands_29 : decode cX8_lands 29 = .ok (.getfield 130, 3) := by decide +kernel
theorem dX8_lands_32 : decode cX8_lands 32 = .ok (.imul, 1) := by decide +kernel
theorem dX8_lands_33 : decode cX8_lands 33 = .ok (.istore_n 1, 1) := by decide +kernel
theorem dX8_lands_34 : decode cX8_lands 34 = .ok (.iload_n 1, 1) := by decide +kernel
theorem dX8_lands_35 : decode cX8_lands 35 = .ok (.aload_n 0, 1) := by decide +kernel
theorem dX8_lands_36 : decode cX8_lands 36 = .ok (.getfield 38, 3) := by decide +kernel
theorem dX8_lands_39 : decode cX8_lands 39 = .ok (.getfield 133, 3) := by decide +kernel
theorem dX8_lands_42 : decode cX8_lands 42 = .ok (.if_icmp .le 6, 3) := by decide +kernel
theorem dX8_lands_45 : decode cX8_lands 45 = .ok (.bipush (-2), 2) := by decide +kernel
theorem dX8_lands_47 : decode cX8_lands 47 = .ok (.ireturn, 1) := by decide +kernel
theorem dX8_lands_48 : decode cX8_lands 48 = .ok (.aload_n 0, 1) := by decide +kernel
theorem dX8_lands_49 : decode cX8_lands 49 = .ok (.getfield 45, 3) := by decide +kernel
theorem dX8_lands_52 : decode cX8_lands 52 = .ok (.aload_n 0, 1) := by decide +kernel
theorem dX8_lands_53 : decode cX8_lands 53 = .ok (.getfield 38, 3) := by decide +kernel
theorem dX8_lands_56 : decode cX8_lands 56 = .ok (.invokevirtual 163, 3) := by decide +kernel
theorem dX8_lands_59 : decode cX8_lands 59 = .ok (.aload_n 0, 1) := by decide +kernel
theorem dX8_lands_60 : decode cX8_lands 60 = .ok (.getfield 38, 3) := by decide +kernel
theorem dX8_lands_63 : decode cX8_lands 63 = .ok (.dup, 1) := by decide +kernel
theorem dX8_lands_64 : decode cX8_lands 64 = .ok (.getfield 133, 3) := by decide +kernel
theorem dX8_lands_67 : decode cX8_lands 67 = .ok (.iload_n 1, 1) := by decide +kernel
theorem dX8_lands_68 : decode cX8_lands 68 = .ok (.isub, 1) := by decide +kernel
theorem dX8_lands_69 : decode cX8_lands 69 = .ok (.putfield 133, 3) := by decide +kernel
theorem dX8_lands_72 : decode cX8_lands 72 = .ok (.aload_n 0, 1) := by decide +kernel
theorem dX8_lands_73 : decode cX8_lands 73 = .ok (.bipush (-9), 2) := by decide +kernel
theorem dX8_lands_75 : decode cX8_lands 75 = .ok (.invokevirtual 167, 3) := by decide +kernel
theorem dX8_lands_78 : decode cX8_lands 78 = .ok (.iload_n 1, 1) := by decide +kernel
theorem dX8_lands_79 : decode cX8_lands 79 = .ok (.ireturn, 1) := by decide +kernel
set_option maxRecDepth 20000 in
theorem ggX8_nights_X8_isAtSea : GoodIn wsX8_nights wsX8_isAtSea := goodIn_r _ [11, 2, 3, 4, 12, 67, 68, 69, 70, 71, 72, 73, 74, 75, 76, 77, 78, 79, 80, 81, 82, 83, 84, 85, 86, 87, 88, 89, 90, 91, 92] (by decide +kernel) (by decide +kernel)
set_option maxRecDepth 20000 in
theorem gX8_nights_X8_isAtSea : GoodIn wsX8_nights (wsV RX8 142 RX8 yX8_isAtSea wsX8_isAtSea) := goodIn_app (goodIn_of _ (by decide +kernel)) ggX8_nights_X8_isAtSea
set_option maxRecDepth 20000 in
theorem ggX8_nights_X1_remember : GoodIn wsX8_nights wsX1_remember := goodIn_r _ [17, 18, 19, 20, 21, 22, 23, 24, 25, 26, 16, 27, 28, 29, 30, 31, 32, 33, 34, 35, 36, 37, 38, 39, 40, 41, 42, 43, 44, 45, 93, 94, 95, 80, 81, 82, 83, 84, 85, 86, 87] (by decide +kernel) (by decide +kernel)
set_option maxRecDepth 20000 in
theorem gX8_nights_X1_remember : GoodIn wsX8_nights (wsV RX8 163 RX1 yX1_remember wsX1_remember) := goodIn_app (goodIn_of _ (by decide +kernel)) ggX8_nights_X1_remember
set_option maxRecDepth 20000 in
theorem ggX8_nights_X8_draw : GoodIn wsX8_nights wsX8_draw := goodIn_r _ [48, 49, 50, 51, 52] (by decide +kernel) (by decide +kernel)
set_option maxRecDepth 20000 in
theorem gX8_nights_X8_draw : GoodIn wsX8_nights (va_wsS RX8 170 yX8_draw wsX8_draw) := goodIn_app (goodIn_of _ (by decide +kernel)) ggX8_nights_X8_draw
set_option maxRecDepth 20000 in
theorem ggX8_nights_X3_fact : GoodIn wsX8_nights wsX3_fact := goodIn_r _ [57, 58, 59, 60, 44, 61, 88, 89, 90, 91, 92] (by decide +kernel) (by decide +kernel)
set_option maxRecDepth 20000 in
theorem gX8_nights_X3_fact : GoodIn wsX8_nights (wsV RX8 120 RX3 yX3_fact wsX3_fact) := goodIn_app (goodIn_of _ (by decide +kernel)) ggX8_nights_X3_fact
set_option maxRecDepth 20000 in
theorem ggX8_nights_X8_goOn : GoodIn wsX8_nights wsX8_goOn := goodIn_r _ [65, 2, 66, 3, 67, 68, 69, 70, 71, 72, 73, 74, 75, 76, 77, 78, 79, 80, 81, 82, 83, 84, 85, 86, 87] (by decide +kernel) (by decide +kernel)
set_option maxRecDepth 20000 in
theorem gX8_nights_X8_goOn : GoodIn wsX8_nights (wsV RX8 167 RX8 yX8_goOn wsX8_goOn) := goodIn_app (goodIn_of _ (by decide +kernel)) ggX8_nights_X8_goOn
theorem dX8_nights_0 : decode cX8_nights 0 = .ok (.iload_n 1, 1) := by decide +kernel
theorem dX8_nights_1 : decode cX8_nights 1 = .ok (.ifCond .lt 10, 3) := by decide +kernel
theorem dX8_nights_4 : decode cX8_nights 4 = .ok (.iload_n 1, 1) := by decide +kernel
theorem dX8_nights_5 : decode cX8_nights 5 = .ok (.sipush 9999, 3) := by decide +kernel
theorem dX8_nights_8 : decode cX8_nights 8 = .ok (.if_icmp .le 5, 3) := by decide +kernel
theorem dX8_nights_11 : decode cX8_nights 11 = .ok (.iconst (-1), 1) := by decide +kernel
theorem dX8_nights_12 : decode cX8_nights 12 = .ok (.ireturn, 1) := by decide +kernel
theorem dX8_nights_13 : decode cX8_nights 13 = .ok (.aload_n 0, 1) := by decide +kernel
theorem dX8_nights_14 : decode cX8_nights 14 = .ok (.invokevirtual 142, 3) := by decide +kernel
theorem dX8_nights_17 : decode cX8_nights 17 = .ok (.ifCond .eq 6, 3) := by decide +kernel
theorem dX8_nights_20 : decode cX8_nights 20 = .ok (.bipush (-2), 2) := by decide +kernel
theorem dX8_nights_22 : decode cX8_nights 22 = .ok (.ireturn, 1) := by decide +kernel
theorem dX8_nights_23 : decode cX8_nights 23 = .ok (.aload_n 0, 1) := by decide +kernel
theorem dX8_nights_24 : decode cX8_nights 24 = .ok (.getfield 45, 3) := by decide +kernel
theorem dX8_nights_27 : decode cX8_nights 27 = .ok (.aload_n 0, 1) := by decide +kernel
theorem dX8_nights_28 : decode cX8_nights 28 = .ok (.getfield 38, 3) := by decide +kernel
theorem dX8_nights_31 : decode cX8_nights 31 = .ok (.invokevirtual 163, 3) := by decide +kernel
theorem dX8_nights_34 : decode cX8_nights 34 = .ok (.iload_n 1, 1) := by decide +kernel
theorem dX8_nights_35 : decode cX8_nights 35 = .ok (.aload_n 0, 1) := by decide +kernel
theorem dX8_nights_36 : decode cX8_nights 36 = .ok (.getfield 38, 3) := by decide +kernel
theorem dX8_nights_39 : decode cX8_nights 39 = .ok (.getfield 127, 3) := by decide +kernel
theorem dX8_nights_42 : decode cX8_nights 42 = .ok (.invokestatic 170, 3) := by decide +kernel
theorem dX8_nights_45 : decode cX8_nights 45 = .ok (.bipush 10, 2) := by decide +kernel
theorem dX8_nights_47 : decode cX8_nights 47 = .ok (.irem, 1) := by decide +kernel
theorem dX8_nights_48 : decode cX8_nights 48 = .ok (.aload_n 0, 1) := by decide +kernel
theorem dX8_nights_49 : decode cX8_nights 49 = .ok (.getfield 32, 3) := by decide +kernel
theorem dX8_nights_52 : decode cX8_nights 52 = .ok (.aload_n 0, 1) := by decide +kernel
theorem dX8_nights_53 : decode cX8_nights 53 = .ok (.getfield 38, 3) := by decide +kernel
theorem dX8_nights_56 : decode cX8_nights 56 = .ok (.getfield 127, 3) := by decide +kernel
theorem dX8_nights_59 : decode cX8_nights 59 = .ok (.iconst 3, 1) := by decide +kernel
theorem dX8_nights_60 : decode cX8_nights 60 = .ok (.invokevirtual 120, 3) := by decide +kernel
theorem dX8_nights_63 : decode cX8_nights 63 = .ok (.if_icmp .ge 7, 3) := by decide +kernel
theorem dX8_nights_66 : decode cX8_nights 66 = .ok (.iconst 1, 1) := by decide +kernel
theorem dX8_nights_67 : decode cX8_nights 67 = .ok (.goto 4, 3) := by decide +kernel
theorem dX8_nights_70 : decode cX8_nights 70 = .ok (.iconst 0, 1) := by decide +kernel
theorem dX8_nights_71 : decode cX8_nights 71 = .ok (.istore_n 2, 1) := by decide +kernel
theorem dX8_nights_72 : decode cX8_nights 72 = .ok (.iload_n 2, 1) := by decide +kernel
theorem dX8_nights_73 : decode cX8_nights 73 = .ok (.ifCond .eq 23, 3) := by decide +kernel
theorem dX8_nights_76 : decode cX8_nights 76 = .ok (.aload_n 0, 1) := by decide +kernel
theorem dX8_nights_77 : decode cX8_nights 77 = .ok (.getfield 38, 3) := by decide +kernel
theorem dX8_nights_80 : decode cX8_nights 80 = .ok (.getfield 130, 3) := by decide +kernel
theorem dX8_nights_83 : decode cX8_nights 83 = .ok (.aload_n 0, 1) := by decide +kernel
theorem dX8_nights_84 : decode cX8_nights 84 = .ok (.getfield 38, 3) := by decide +kernel
theorem dX8_nights_87 : decode cX8_nights 87 = .ok (.getfield 130, 3) := by decide +kernel
theorem dX8_nights_90 : decode cX8_nights 90 = .ok (.iconst 2, 1) := by decide +kernel
theorem dX8_nights_91 : decode cX8_nights 91 = .ok (.idiv, 1) := by decide +kernel
theorem dX8_nights_92 : decode cX8_nights 92 = .ok (.isub, 1) := by decide +kernel
theorem dX8_nights_93 : decode cX8_nights 93 = .ok (.goto 4, 3) := by decide +kernel
theorem dX8_nights_96 : decode cX8_nights 96 = .ok (.iconst 0, 1) := by decide +kernel
theorem dX8_nights_97 : decode cX8_nights 97 = .ok (.istore_n 3, 1) := by decide +kernel
theorem dX8_nights_98 : decode cX8_nights 98 = .ok (.aload_n 0, 1) := by decide +kernel
theorem dX8_nights_99 : decode cX8_nights 99 = .ok (.getfield 38, 3) := by decide +kernel
theorem dX8_nights_102 : decode cX8_nights 102 = .ok (.dup, 1) := by decide +kernel
theorem dX8_nights_103 : decode cX8_nights 103 = .ok (.getfield 130, 3) := by decide +kernel
theorem dX8_nights_106 : decode cX8_nights 106 = .ok (.iload_n 3, 1) := by decide +kernel
theorem dX8_nights_107 : decode cX8_nights 107 = .ok (.isub, 1) := by decide +kernel
theorem dX8_nights_108 : decode cX8_nights 108 = .ok (.putfield 130, 3) := by decide +kernel
theorem dX8_nights_111 : decode cX8_nights 111 = .ok (.aload_n 0, 1) := by decide +kernel
theorem dX8_nights_112 : decode cX8_nights 112 = .ok (.getfield 38, 3) := by decide +kernel
theorem dX8_nights_115 : decode cX8_nights 115 = .ok (.dup, 1) := by decide +kernel
theorem dX8_nights_116 : decode cX8_nights 116 = .ok (.getfield 139, 3) := by decide +kernel
theorem dX8_nights_119 : decode cX8_nights 119 = .ok (.iload_n 3, 1) := by decide +kernel
theorem dX8_nights_120 : decode cX8_nights 120 = .ok (.iadd, 1) := by decide +kernel
theorem dX8_nights_121 : decode cX8_nights 121 = .ok (.putfield 139, 3) := by decide +kernel
theorem dX8_nights_124 : decode cX8_nights 124 = .ok (.aload_n 0, 1) := by decide +kernel
theorem dX8_nights_125 : decode cX8_nights 125 = .ok (.bipush (-9), 2) := by decide +kernel
theorem dX8_nights_127 : decode cX8_nights 127 = .ok (.invokevirtual 167, 3) := by decide +kernel
theorem dX8_nights_130 : decode cX8_nights 130 = .ok (.iload_n 3, 1) := by decide +kernel
theorem dX8_nights_131 : decode cX8_nights 131 = .ok (.ireturn, 1) := by decide +kernel
set_option maxRecDepth 20000 in
theorem ggX8_sells_X1_remember : GoodIn wsX8_sells wsX1_remember := goodIn_r _ [10, 11, 12, 13, 14, 15, 16, 17, 18, 19, 9, 20, 21, 22, 23, 24, 25, 26, 27, 28, 29, 30, 31, 32, 33, 34, 35, 36, 37, 38, 60, 61, 62, 52, 53, 54, 55, 56, 57, 58, 59] (by decide +kernel) (by decide +kernel)
set_option maxRecDepth 20000 in
theorem gX8_sells_X1_remember : GoodIn wsX8_sells (wsV RX8 163 RX1 yX1_remember wsX1_remember) := goodIn_app (goodIn_of _ (by decide +kernel)) ggX8_sells_X1_remember
theorem dX8_sells_0 : decode cX8_sells 0 = .ok (.iload_n 1, 1) := by decide +kernel
theorem dX8_sells_1 : decode cX8_sells 1 = .ok (.iconst 1, 1) := by decide +kernel
theorem dX8_sells_2 : decode cX8_sells 2 = .ok (.if_icmp .lt 19, 3) := by decide +kernel
theorem dX8_sells_5 : decode cX8_sells 5 = .ok (.iload_n 1, 1) := by decide +kernel
theorem dX8_sells_6 : decode cX8_sells 6 = .ok (.bipush 30, 2) := by decide +kernel
theorem dX8_sells_8 : decode cX8_sells 8 = .ok (.if_icmp .gt 13, 3) := by decide +kernel
theorem dX8_sells_11 : decode cX8_sells 11 = .ok (.iload_n 2, 1) := by decide +kernel
theorem dX8_sells_12 : decode cX8_sells 12 = .ok (.ifCond .lt 9, 3) := by decide +kernel
theorem dX8_sells_15 : decode cX8_sells 15 = .ok (.iload_n 2, 1) := by decide +kernel
theorem dX8_sells_16 : decode cX8_sells 16 = .ok (.bipush 30, 2) := by decide +kernel
theorem dX8_sells_18 : decode cX8_sells 18 = .ok (.if_icmp .le 5, 3) := by decide +kernel
theorem dX8_sells_21 : decode cX8_sells 21 = .ok (.iconst (-1), 1) := by decide +kernel
theorem dX8_sells_22 : decode cX8_sells 22 = .ok (.ireturn, 1) := by decide +kernel
theorem dX8_sells_23 : decode cX8_sells 23 = .ok (.aload_n 0, 1) := by decide +kernel
theorem dX8_sells_24 : decode cX8_sells 24 = .ok (.getfield 38, 3) := by decide +kernel
theorem dX8_sells_27 : decode cX8_sells 27 = .ok (.getfield 133, 3) := by decide +kernel
theorem dX8_sells_30 : decode cX8_sells 30 = .ok (.iload_n 1, 1) := by decide +kernel
theorem dX8_sells_31 : decode cX8_sells 31 = .ok (.iload_n 2, 1) := by decide +kernel
theorem dX8_sells_32 : decode cX8_sells 32 = .ok (.imul, 1) := by decide +kernel
theorem dX8_sells_33 : decode cX8_sells 33 = .ok (.iadd, 1) := by decide +kernel
theorem dX8_sells_34 : decode cX8_sells 34 = .ok (.istore_n 3, 1) := by decide +kernel
theorem dX8_sells_35 : decode cX8_sells 35 = .ok (.iload_n 1, 1) := by decide +kernel
theorem dX8_sells_36 : decode cX8_sells 36 = .ok (.aload_n 0, 1) := by decide +kernel
theorem dX8_sells_37 : decode cX8_sells 37 = .ok (.getfield 38, 3) := by decide +kernel
theorem dX8_sells_40 : decode cX8_sells 40 = .ok (.getfield 130, 3) := by decide +kernel
theorem dX8_sells_43 : decode cX8_sells 43 = .ok (.if_icmp .gt 9, 3) := by decide +kernel
theorem dX8_sells_46 : decode cX8_sells 46 = .ok (.iload_n 3, 1) := by decide +kernel
theorem dX8_sells_47 : decode cX8_sells 47 = .ok (.ldc 173, 2) := by decide +kernel
theorem dX8_sells_49 : decode cX8_sells 49 = .ok (.if_icmp .le 6, 3) := by decide +kernel
theorem dX8_sells_52 : decode cX8_sells 52 = .ok (.bipush (-2), 2) := by decide +kernel
theorem dX8_sells_54 : decode cX8_sells 54 = .ok (.ireturn, 1) := by decide +kernel
theorem dX8_sells_55 : decode cX8_sells 55 = .ok (.aload_n 0, 1) := by decide +kernel
theorem dX8_sells_56 : decode cX8_sells 56 = .ok (.getfield 45, 3) := by decide +kernel
theorem dX8_sells_59 : decode cX8_sells 59 = .ok (.aload_n 0, 1) := by decide +kernel
theorem dX8_sells_60 : decode cX8_sells 60 = .ok (.getfield 38, 3) := by decide +kernel
theorem dX8_sells_63 : decode cX8_sells 63 = .ok (.invokevirtual 163, 3) := by decide +kernel
theorem dX8_sells_66 : decode cX8_sells 66 = .ok (.aload_n 0, 1) := by decide +kernel
theorem dX8_sells_67 : decode cX8_sells 67 = .ok (.getfield 38, 3) := by decide +kernel
theorem dX8_sells_70 : decode cX8_sells 70 = .ok (.dup, 1) := by decide +kernel
theorem dX8_sells_71 : decode cX8_sells 71 = .ok (.getfield 130, 3) := by decide +kernel
theorem dX8_sells_74 : decode cX8_sells 74 = .ok (.iload_n 1, 1) := by decide +kernel
theorem dX8_sells_75 : decode cX8_sells 75 = .ok (.isub, 1) := by decide +kernel
theorem dX8_sells_76 : decode cX8_sells 76 = .ok (.putfield 130, 3) := by decide +kernel
theorem dX8_sells_79 : decode cX8_sells 79 = .ok (.aload_n 0, 1) := by decide +kernel
theorem dX8_sells_80 : decode cX8_sells 80 = .ok (.getfield 38, 3) := by decide +kernel
theorem dX8_sells_83 : decode cX8_sells 83 = .ok (.iload_n 3, 1) := by decide +kernel
theorem dX8_sells_84 : decode cX8_sells 84 = .ok (.putfield 133, 3) := by decide +kernel
theorem dX8_sells_87 : decode cX8_sells 87 = .ok (.iload_n 3, 1) := by decide +kernel
theorem dX8_sells_88 : decode cX8_sells 88 = .ok (.ireturn, 1) := by decide +kernel
set_option maxRecDepth 20000 in
theorem ggX8_sets_X8_isRock : GoodIn wsX8_sets wsX8_isRock := goodIn_r _ [8, 9, 10, 54, 55, 56, 57, 58, 59, 60, 61, 62, 63, 64, 65, 66, 75, 76, 77, 78, 79] (by decide +kernel) (by decide +kernel)
set_option maxRecDepth 20000 in
theorem gX8_sets_X8_isRock : GoodIn wsX8_sets (wsV RX8 109 RX8 yX8_isRock wsX8_isRock) := goodIn_app (goodIn_of _ (by decide +kernel)) ggX8_sets_X8_isRock
set_option maxRecDepth 20000 in
theorem ggX8_sets_X1_remember : GoodIn wsX8_sets wsX1_remember := goodIn_r _ [15, 16, 17, 18, 19, 20, 21, 22, 23, 24, 14, 25, 26, 27, 28, 29, 30, 31, 32, 33, 34, 35, 36, 37, 38, 39, 40, 41, 42, 43, 80, 81, 82, 67, 68, 69, 70, 71, 72, 73, 74] (by decide +kernel) (by decide +kernel)
set_option maxRecDepth 20000 in
theorem gX8_sets_X1_remember : GoodIn wsX8_sets (wsV RX8 163 RX1 yX1_remember wsX1_remember) := goodIn_app (goodIn_of _ (by decide +kernel)) ggX8_sets_X1_remember
set_option maxRecDepth 20000 in
theorem ggX8_sets_X0_tollOf : GoodIn wsX8_sets wsX0_tollOf := goodIn_r _ [47, 38, 48, 49, 42, 50, 67, 68, 69, 70, 71, 72, 73, 74] (by decide +kernel) (by decide +kernel)
set_option maxRecDepth 20000 in
theorem gX8_sets_X0_tollOf : GoodIn wsX8_sets (wsV RX8 113 RX0 yX0_tollOf wsX0_tollOf) := goodIn_app (goodIn_of _ (by decide +kernel)) ggX8_sets_X0_tollOf
set_option maxRecDepth 20000 in
theorem ggX8_sets_X5_put : GoodIn wsX8_sets wsX5_put := goodIn_r _ [53] (by decide +kernel) (by decide +kernel)
set_option maxRecDepth 20000 in
theorem gX8_sets_X5_put : GoodIn wsX8_sets (va_wsS RX8 100 yX5_put wsX5_put) := goodIn_app (goodIn_of _ (by decide +kernel)) ggX8_sets_X5_put
theorem dX8_sets_0 : decode cX8_sets 0 = .ok (.aload_n 0, 1) := by decide +kernel
theorem dX8_sets_1 : decode cX8_sets 1 = .ok (.iload_n 1, 1) := by decide +kernel
theorem dX8_sets_2 : decode cX8_sets 2 = .ok (.invokevirtual 109, 3) := by decide +kernel
theorem dX8_sets_5 : decode cX8_sets 5 = .ok (.ifCond .eq 13, 3) := by decide +kernel
theorem dX8_sets_8 : decode cX8_sets 8 = .ok (.iload_n 2, 1) := by decide +kernel
theorem dX8_sets_9 : decode cX8_sets 9 = .ok (.ifCond .lt 9, 3) := by decide +kernel
theorem dX8_sets_12 : decode cX8_sets 12 = .ok (.iload_n 2, 1) := by decide +kernel
theorem dX8_sets_13 : decode cX8_sets 13 = .ok (.bipush 9, 2) := by decide +kernel
theorem dX8_sets_15 : decode cX8_sets 15 = .ok (.if_icmp .le 5, 3) := by decide +kernel
theorem dX8_sets_18 : decode cX8_sets 18 = .ok (.iconst (-1), 1) := by decide +kernel
theorem dX8_sets_19 : decode cX8_sets 19 = .ok (.ireturn, 1) := by decide +kernel
theorem dX8_sets_20 : decode cX8_sets 20 = .ok (.aload_n 0, 1) := by decide +kernel
theorem dX8_sets_21 : decode cX8_sets 21 = .ok (.getfield 45, 3) := by decide +kernel
theorem dX8_sets_24 : decode cX8_sets 24 = .ok (.aload_n 0, 1) := by decide +kernel
theorem dX8_sets_25 : decode cX8_sets 25 = .ok (.getfield 38, 3) := by decide +kernel
theorem dX8_sets_28 : decode cX8_sets 28 = .ok (.invokevirtual 163, 3) := by decide +kernel
theorem dX8_sets_31 : decode cX8_sets 31 = .ok (.aload_n 0, 1) := by decide +kernel
theorem dX8_sets_32 : decode cX8_sets 32 = .ok (.getfield 38, 3) := by decide +kernel
theorem dX8_sets_35 : decode cX8_sets 35 = .ok (.iload_n 1, 1) := by decide +kernel
theorem dX8_sets_36 : decode cX8_sets 36 = .ok (.invokevirtual 113, 3) := by decide +kernel
theorem dX8_sets_39 : decode cX8_sets 39 = .ok (.istore_n 3, 1) := by decide +kernel
theorem dX8_sets_40 : decode cX8_sets 40 = .ok (.aload_n 0, 1) := by decide +kernel
theorem dX8_sets_41 : decode cX8_sets 41 = .ok (.getfield 38, 3) := by decide +kernel
theorem dX8_sets_44 : decode cX8_sets 44 = .ok (.getfield 174, 3) := by decide +kernel
theorem dX8_sets_47 : decode cX8_sets 47 = .ok (.iload_n 1, 1) := by decide +kernel
theorem dX8_sets_48 : decode cX8_sets 48 = .ok (.iload_n 2, 1) := by decide +kernel
theorem dX8_sets_49 : decode cX8_sets 49 = .ok (.invokestatic 100, 3) := by decide +kernel
theorem dX8_sets_52 : decode cX8_sets 52 = .ok (.iload_n 3, 1) := by decide +kernel
theorem dX8_sets_53 : decode cX8_sets 53 = .ok (.ireturn, 1) := by decide +kernel
set_option maxRecDepth 20000 in
theorem ggX8_breaks_X8_isRock : GoodIn wsX8_breaks wsX8_isRock := goodIn_r _ [8, 9, 10, 55, 56, 57, 58, 59, 60, 61, 62, 63, 64, 65, 66, 67, 76, 77, 78, 79, 80] (by decide +kernel) (by decide +kernel)
set_option maxRecDepth 20000 in
theorem gX8_breaks_X8_isRock : GoodIn wsX8_breaks (wsV RX8 109 RX8 yX8_isRock wsX8_isRock) := goodIn_app (goodIn_of _ (by decide +kernel)) ggX8_breaks_X8_isRock
set_option maxRecDepth 20000 in
theorem ggX8_breaks_X0_isBroken : GoodIn wsX8_breaks wsX0_isBroken := goodIn_r _ [15, 16, 68, 69, 70, 71, 72, 73, 74, 75] (by decide +kernel) (by decide +kernel)
set_option maxRecDepth 20000 in
theorem gX8_breaks_X0_isBroken : GoodIn wsX8_breaks (wsV RX8 117 RX0 yX0_isBroken wsX0_isBroken) := goodIn_app (goodIn_of _ (by decide +kernel)) ggX8_breaks_X0_isBroken
set_option maxRecDepth 20000 in
theorem ggX8_breaks_X1_remember : GoodIn wsX8_breaks wsX1_remember := goodIn_r _ [21, 22, 23, 24, 25, 26, 27, 28, 29, 30, 20, 31, 32, 33, 34, 35, 14, 36, 37, 38, 39, 40, 41, 16, 42, 43, 44, 45, 46, 47, 81, 82, 83, 68, 69, 70, 71, 72, 73, 74, 75] (by decide +kernel) (by decide +kernel)
set_option maxRecDepth 20000 in
theorem gX8_breaks_X1_remember : GoodIn wsX8_breaks (wsV RX8 163 RX1 yX1_remember wsX1_remember) := goodIn_app (goodIn_of _ (by decide +kernel)) ggX8_breaks_X1_remember
set_option maxRecDepth 20000 in
theorem ggX8_breaks_J6_bitCount_0f7a4 : GoodIn wsX8_breaks wsJ6_bitCount_0f7a4 := goodIn_r _ [51, 52, 53, 54] (by decide +kernel) (by decide +kernel)
set_option maxRecDepth 20000 in
theorem gX8_breaks_J6_bitCount_0f7a4 : GoodIn wsX8_breaks (va_wsS RX8 180 yJ6_bitCount_0f7a4 wsJ6_bitCount_0f7a4) := goodIn_app (goodIn_of _ (by decide +kernel)) ggX8_breaks_J6_bitCount_0f7a4
theorem dX8_breaks_0 : decode cX8_breaks 0 = .ok (.aload_n 0, 1) := by decide +kernel
theorem dX8_breaks_1 : decode cX8_breaks 1 = .ok (.iload_n 1, 1) := by decide +kernel
theorem dX8_breaks_2 : decode cX8_breaks 2 = .ok (.invokevirtual 109, 3) := by decide +kernel
theorem dX8_breaks_5 : decode cX8_breaks 5 = .ok (.ifCond .ne 5, 3) := by decide +kernel
theorem dX8_breaks_8 : decode cX8_breaks 8 = .ok (.iconst (-1), 1) := by decide +kernel
theorem dX8_breaks_9 : decode cX8_breaks 9 = .ok (.ireturn, 1) := by decide +kernel
theorem dX8_breaks_10 : decode cX8_breaks 10 = .ok (.aload_n 0, 1) := by decide +kernel
theorem dX8_breaks_11 : decode cX8_breaks 11 = .ok (.getfield 38, 3) := by decide +kernel
theorem dX8_breaks_14 : decode cX8_breaks 14 = .ok (.iload_n 1, 1) := by decide +kernel
theorem dX8_breaks_15 : decode cX8_breaks 15 = .ok (.invokevirtual 117, 3) := by decide +kernel
theorem dX8_breaks_18 : decode cX8_breaks 18 = .ok (.ifCond .eq 6, 3) := by decide +kernel
theorem dX8_breaks_21 : decode cX8_breaks 21 = .ok (.bipush (-2), 2) := by decide +kernel
theorem dX8_breaks_23 : decode cX8_breaks 23 = .ok (.ireturn, 1) := by decide +kernel
theorem dX8_breaks_24 : decode cX8_breaks 24 = .ok (.aload_n 0, 1) := by decide +kernel
theorem dX8_breaks_25 : decode cX8_breaks 25 = .ok (.getfield 45, 3) := by decide +kernel
theorem dX8_breaks_28 : decode cX8_breaks 28 = .ok (.aload_n 0, 1) := by decide +kernel
theorem dX8_breaks_29 : decode cX8_breaks 29 = .ok (.getfield 38, 3) := by decide +kernel
theorem dX8_breaks_32 : decode cX8_breaks 32 = .ok (.invokevirtual 163, 3) := by decide +kernel
theorem dX8_breaks_35 : decode cX8_breaks 35 = .ok (.aload_n 0, 1) := by decide +kernel
theorem dX8_breaks_36 : decode cX8_breaks 36 = .ok (.getfield 38, 3) := by decide +kernel
theorem dX8_breaks_39 : decode cX8_breaks 39 = .ok (.dup, 1) := by decide +kernel
theorem dX8_breaks_40 : decode cX8_breaks 40 = .ok (.getfield 177, 3) := by decide +kernel
theorem dX8_breaks_43 : decode cX8_breaks 43 = .ok (.iconst 1, 1) := by decide +kernel
theorem dX8_breaks_44 : decode cX8_breaks 44 = .ok (.iload_n 1, 1) := by decide +kernel
theorem dX8_breaks_45 : decode cX8_breaks 45 = .ok (.ishl, 1) := by decide +kernel
theorem dX8_breaks_46 : decode cX8_breaks 46 = .ok (.ior, 1) := by decide +kernel
theorem dX8_breaks_47 : decode cX8_breaks 47 = .ok (.putfield 177, 3) := by decide +kernel
theorem dX8_breaks_50 : decode cX8_breaks 50 = .ok (.aload_n 0, 1) := by decide +kernel
theorem dX8_breaks_51 : decode cX8_breaks 51 = .ok (.getfield 38, 3) := by decide +kernel
theorem dX8_breaks_54 : decode cX8_breaks 54 = .ok (.getfield 177, 3) := by decide +kernel
theorem dX8_breaks_57 : decode cX8_breaks 57 = .ok (.invokestatic 180, 3) := by decide +kernel
theorem dX8_breaks_60 : decode cX8_breaks 60 = .ok (.ireturn, 1) := by decide +kernel
set_option maxRecDepth 20000 in
theorem ggX8_undo_X1_restore : GoodIn wsX8_undo wsX1_restore := goodIn_r _ [8, 9, 10, 11, 12, 13, 7, 14, 15, 16, 17, 18, 19, 20, 21, 22, 23, 24, 25, 26, 27, 28, 29, 30, 31, 32, 46, 47, 48, 49, 50, 51, 52, 53, 54, 55, 56] (by decide +kernel) (by decide +kernel)
set_option maxRecDepth 20000 in
theorem gX8_undo_X1_restore : GoodIn wsX8_undo (wsV RX8 185 RX1 yX1_restore wsX1_restore) := goodIn_app (goodIn_of _ (by decide +kernel)) ggX8_undo_X1_restore
theorem dX8_undo_0 : decode cX8_undo 0 = .ok (.aload_n 0, 1) := by decide +kernel
theorem dX8_undo_1 : decode cX8_undo 1 = .ok (.getfield 45, 3) := by decide +kernel
theorem dX8_undo_4 : decode cX8_undo 4 = .ok (.getfield 150, 3) := by decide +kernel
theorem dX8_undo_7 : decode cX8_undo 7 = .ok (.ifCond .ne 6, 3) := by decide +kernel
theorem dX8_undo_10 : decode cX8_undo 10 = .ok (.bipush (-2), 2) := by decide +kernel
theorem dX8_undo_12 : decode cX8_undo 12 = .ok (.ireturn, 1) := by decide +kernel
theorem dX8_undo_13 : decode cX8_undo 13 = .ok (.aload_n 0, 1) := by decide +kernel
theorem dX8_undo_14 : decode cX8_undo 14 = .ok (.getfield 45, 3) := by decide +kernel
theorem dX8_undo_17 : decode cX8_undo 17 = .ok (.aload_n 0, 1) := by decide +kernel
theorem dX8_undo_18 : decode cX8_undo 18 = .ok (.getfield 38, 3) := by decide +kernel
theorem dX8_undo_21 : decode cX8_undo 21 = .ok (.invokevirtual 185, 3) := by decide +kernel
theorem dX8_undo_24 : decode cX8_undo 24 = .ok (.aload_n 0, 1) := by decide +kernel
theorem dX8_undo_25 : decode cX8_undo 25 = .ok (.getfield 45, 3) := by decide +kernel
theorem dX8_undo_28 : decode cX8_undo 28 = .ok (.getfield 150, 3) := by decide +kernel
theorem dX8_undo_31 : decode cX8_undo 31 = .ok (.ireturn, 1) := by decide +kernel
set_option maxRecDepth 20000 in
theorem ggX8_way_X8_findWay : GoodIn wsX8_way wsX8_findWay := goodIn_r _ [12, 5, 3, 13, 14, 15, 16, 17, 18, 19, 20, 21, 22, 23, 24, 25, 26, 27, 28, 29, 30, 31, 32, 33, 34, 35, 36, 37, 38, 39, 40, 41, 42, 43, 44, 45, 46, 47, 48, 49, 50, 51, 52, 53, 54, 55, 56, 57, 58, 59, 60, 61, 62, 63, 64, 65, 66, 67, 68, 69, 70, 71, 72, 73, 74, 75, 76, 77, 78, 79, 80, 81, 82, 83, 84, 85, 86, 87, 88, 89, 90, 91, 92, 93, 94, 95, 96, 97, 98, 99, 100, 101, 102, 103, 104, 105, 106, 107, 109, 110, 111, 112, 113, 114, 115, 116, 117, 118, 119, 120, 121, 127, 128, 129, 130, 131, 132, 133, 134, 135, 136, 137, 138, 139, 140, 141, 142, 143, 144, 145, 146, 147, 148, 122, 123, 124, 125, 126] (by decide +kernel) (by decide +kernel)
set_option maxRecDepth 20000 in
theorem gX8_way_X8_findWay : GoodIn wsX8_way (wsV RX8 191 RX8 yX8_findWay wsX8_findWay) := goodIn_app (goodIn_of _ (by decide +kernel)) ggX8_way_X8_findWay
set_option maxRecDepth 20000 in
theorem ggX8_way_X5_get : GoodIn wsX8_way wsX5_get := goodIn_r _ [47] (by decide +kernel) (by decide +kernel)
set_option maxRecDepth 20000 in
theorem gX8_way_X5_get : GoodIn wsX8_way (va_wsS RX8 159 yX5_get wsX5_get) := goodIn_app (goodIn_of _ (by decide +kernel)) ggX8_way_X5_get
theorem dX8_way_0 : decode cX8_way 0 = .ok (.iload_n 1, 1) := by decide +kernel
theorem dX8_way_1 : decode cX8_way 1 = .ok (.iconst (-1), 1) := by decide +kernel
theorem dX8_way_2 : decode cX8_way 2 = .ok (.if_icmp .lt 14, 3) := by decide +kernel
theorem dX8_way_5 : decode cX8_way 5 = .ok (.iload_n 1, 1) := by decide +kernel
theorem dX8_way_6 : decode cX8_way 6 = .ok (.aload_n 0, 1) := by decide +kernel
theorem dX8_way_7 : decode cX8_way 7 = .ok (.getfield 32, 3) := by decide +kernel
theorem dX8_way_10 : decode cX8_way 10 = .ok (.getfield 188, 3) := by decide +kernel
theorem dX8_way_13 : decode cX8_way 13 = .ok (.if_icmp .lt 5, 3) := by decide +kernel
theorem dX8_way_16 : decode cX8_way 16 = .ok (.iconst (-1), 1) := by decide +kernel
theorem dX8_way_17 : decode cX8_way 17 = .ok (.ireturn, 1) := by decide +kernel
theorem dX8_way_18 : decode cX8_way 18 = .ok (.iload_n 1, 1) := by decide +kernel
theorem dX8_way_19 : decode cX8_way 19 = .ok (.iconst (-1), 1) := by decide +kernel
theorem dX8_way_20 : decode cX8_way 20 = .ok (.if_icmp .eq 17, 3) := by decide +kernel
theorem dX8_way_23 : decode cX8_way 23 = .ok (.iload_n 1, 1) := by decide +kernel
theorem dX8_way_24 : decode cX8_way 24 = .ok (.aload_n 0, 1) := by decide +kernel
theorem dX8_way_25 : decode cX8_way 25 = .ok (.getfield 38, 3) := by decide +kernel
theorem dX8_way_28 : decode cX8_way 28 = .ok (.getfield 127, 3) := by decide +kernel
theorem dX8_way_31 : decode cX8_way 31 = .ok (.if_icmp .ge 6, 3) := by decide +kernel
theorem dX8_way_34 : decode cX8_way 34 = .ok (.bipush (-9), 2) := by decide +kernel
theorem dX8_way_36 : decode cX8_way 36 = .ok (.ireturn, 1) := by decide +kernel
theorem dX8_way_37 : decode cX8_way 37 = .ok (.aload_n 0, 1) := by decide +kernel
theorem dX8_way_38 : decode cX8_way 38 = .ok (.invokevirtual 191, 3) := by decide +kernel
theorem dX8_way_41 : decode cX8_way 41 = .ok (.iload_n 1, 1) := by decide +kernel
theorem dX8_way_42 : decode cX8_way 42 = .ok (.iconst (-1), 1) := by decide +kernel
theorem dX8_way_43 : decode cX8_way 43 = .ok (.if_icmp .ne 13, 3) := by decide +kernel
theorem dX8_way_46 : decode cX8_way 46 = .ok (.aload_n 0, 1) := by decide +kernel
theorem dX8_way_47 : decode cX8_way 47 = .ok (.getfield 62, 3) := by decide +kernel
theorem dX8_way_50 : decode cX8_way 50 = .ok (.getfield 194, 3) := by decide +kernel
theorem dX8_way_53 : decode cX8_way 53 = .ok (.goto 14, 3) := by decide +kernel
theorem dX8_way_56 : decode cX8_way 56 = .ok (.aload_n 0, 1) := by decide +kernel
theorem dX8_way_57 : decode cX8_way 57 = .ok (.getfield 62, 3) := by decide +kernel
theorem dX8_way_60 : decode cX8_way 60 = .ok (.getfield 197, 3) := by decide +kernel
theorem dX8_way_63 : decode cX8_way 63 = .ok (.iload_n 1, 1) := by decide +kernel
theorem dX8_way_64 : decode cX8_way 64 = .ok (.invokestatic 159, 3) := by decide +kernel
theorem dX8_way_67 : decode cX8_way 67 = .ok (.ireturn, 1) := by decide +kernel
set_option maxRecDepth 20000 in
theorem ggX8_enough_X8_findWay : GoodIn wsX8_enough wsX8_findWay := goodIn_r _ [9, 1, 3, 10, 11, 12, 13, 14, 15, 16, 17, 18, 19, 20, 21, 22, 23, 24, 25, 26, 27, 28, 29, 30, 31, 32, 33, 34, 35, 36, 37, 38, 39, 40, 41, 42, 43, 44, 45, 46, 47, 48, 49, 50, 51, 52, 53, 54, 55, 56, 57, 58, 59, 60, 61, 62, 63, 64, 65, 66, 67, 68, 69, 70, 71, 72, 73, 74, 75, 76, 77, 78, 79, 80, 81, 82, 83, 84, 85, 86, 87, 88, 89, 90, 91, 92, 93, 94, 95, 96, 97, 98, 99, 100, 101, 102, 103, 104, 105, 106, 107, 108, 109, 110, 111, 112, 113, 114, 115, 116, 117, 132, 133, 134, 135, 136, 137, 138, 139, 118, 119, 120, 121, 122, 123, 124, 125, 126, 127, 128, 129, 130, 131, 140, 141, 142, 143, 144] (by decide +kernel) (by decide +kernel)
set_option maxRecDepth 20000 in
theorem gX8_enough_X8_findWay : GoodIn wsX8_enough (wsV RX8 191 RX8 yX8_findWay wsX8_findWay) := goodIn_app (goodIn_of _ (by decide +kernel)) ggX8_enough_X8_findWay
theorem dX8_enough_0 : decode cX8_enough 0 = .ok (.aload_n 0, 1) := by decide +kernel
theorem dX8_enough_1 : decode cX8_enough 1 = .ok (.invokevirtual 191, 3) := by decide +kernel
theorem dX8_enough_4 : decode cX8_enough 4 = .ok (.aload_n 0, 1) := by decide +kernel
theorem dX8_enough_5 : decode cX8_enough 5 = .ok (.getfield 62, 3) := by decide +kernel
theorem dX8_enough_8 : decode cX8_enough 8 = .ok (.getfield 194, 3) := by decide +kernel
theorem dX8_enough_11 : decode cX8_enough 11 = .ok (.aload_n 0, 1) := by decide +kernel
theorem dX8_enough_12 : decode cX8_enough 12 = .ok (.getfield 38, 3) := by decide +kernel
theorem dX8_enough_15 : decode cX8_enough 15 = .ok (.getfield 133, 3) := by decide +kernel
theorem dX8_enough_18 : decode cX8_enough 18 = .ok (.if_icmp .gt 7, 3) := by decide +kernel
theorem dX8_enough_21 : decode cX8_enough 21 = .ok (.iconst 1, 1) := by decide +kernel
theorem dX8_enough_22 : decode cX8_enough 22 = .ok (.goto 4, 3) := by decide +kernel
theorem dX8_enough_25 : decode cX8_enough 25 = .ok (.iconst 0, 1) := by decide +kernel
theorem dX8_enough_26 : decode cX8_enough 26 = .ok (.ireturn, 1) := by decide +kernel
set_option maxRecDepth 20000 in
theorem ggX8_toBreak_X8_bitsAhead : GoodIn wsX8_toBreak wsX8_bitsAhead := goodIn_r _ [5, 6, 7, 8, 9, 119, 120, 121, 122, 123, 124, 125, 126, 127, 128, 129, 130, 131, 132, 133, 134, 135, 136, 137, 138, 139, 140, 141, 142, 143, 144] (by decide +kernel) (by decide +kernel)
set_option maxRecDepth 20000 in
theorem gX8_toBreak_X8_bitsAhead : GoodIn wsX8_toBreak (wsV RX8 200 RX8 yX8_bitsAhead wsX8_bitsAhead) := goodIn_app (goodIn_of _ (by decide +kernel)) ggX8_toBreak_X8_bitsAhead
set_option maxRecDepth 20000 in
theorem ggX8_toBreak_J6_bitCount_0f7a4 : GoodIn wsX8_toBreak wsJ6_bitCount_0f7a4 := goodIn_r _ [13, 14, 15, 16] (by decide +kernel) (by decide +kernel)
set_option maxRecDepth 20000 in
theorem gX8_toBreak_J6_bitCount_0f7a4 : GoodIn wsX8_toBreak (va_wsS RX8 180 yJ6_bitCount_0f7a4 wsJ6_bitCount_0f7a4) := goodIn_app (goodIn_of _ (by decide +kernel)) ggX8_toBreak_J6_bitCount_0f7a4
set_option maxRecDepth 20000 in
theorem ggX8_toBreak_X8_costIfBroken : GoodIn wsX8_toBreak wsX8_costIfBroken := goodIn_r _ [20, 21, 6, 22, 23, 24, 25, 26, 27, 28, 29, 30, 31, 32, 33, 34, 35, 36, 37, 38, 39, 40, 41, 42, 43, 44, 45, 46, 47, 48, 49, 50, 51, 52, 53, 54, 55, 56, 57, 58, 59, 60, 61, 62, 63, 64, 65, 66, 67, 68, 69, 70, 71, 72, 73, 74, 75, 76, 77, 78, 79, 80, 81, 82, 83, 84, 85, 86, 87, 88, 89, 90, 91, 92, 93, 94, 95, 96, 97, 98, 99, 100, 101, 102, 103, 104, 105, 106, 107, 108, 109, 110, 111, 112, 113, 114, 115, 116, 117, 118, 119, 120, 121, 122, 123, 124, 125, 126, 127, 128, 129, 130, 131, 145, 146, 147, 148, 149, 150, 151, 152, 153, 154, 155, 156, 157, 158, 132, 133, 134, 135, 136, 137, 138, 139, 140, 141, 142, 143, 144] (by decide +kernel) (by decide +kernel)
set_option maxRecDepth 20000 in
theorem gX8_toBreak_X8_costIfBroken : GoodIn wsX8_toBreak (wsV RX8 203 RX8 yX8_costIfBroken wsX8_costIfBroken) := goodIn_app (goodIn_of _ (by decide +kernel)) ggX8_toBreak_X8_costIfBroken
theorem dX8_toBreak_0 : decode cX8_toBreak 0 = .ok (.iload_n 1, 1) := by decide +kernel
theorem dX8_toBreak_1 : decode cX8_toBreak 1 = .ok (.ifCond .lt 10, 3) := by decide +kernel
theorem dX8_toBreak_4 : decode cX8_toBreak 4 = .ok (.iload_n 1, 1) := by decide +kernel
theorem dX8_toBreak_5 : decode cX8_toBreak 5 = .ok (.sipush 9999, 3) := by decide +kernel
theorem dX8_toBreak_8 : decode cX8_toBreak 8 = .ok (.if_icmp .le 5, 3) := by decide +kernel
theorem dX8_toBreak_11 : decode cX8_toBreak 11 = .ok (.iconst (-1), 1) := by decide +kernel
theorem dX8_toBreak_12 : decode cX8_toBreak 12 = .ok (.ireturn, 1) := by decide +kernel
theorem dX8_toBreak_13 : decode cX8_toBreak 13 = .ok (.aload_n 0, 1) := by decide +kernel
theorem dX8_toBreak_14 : decode cX8_toBreak 14 = .ok (.invokevirtual 200, 3) := by decide +kernel
theorem dX8_toBreak_17 : decode cX8_toBreak 17 = .ok (.istore_n 2, 1) := by decide +kernel
theorem dX8_toBreak_18 : decode cX8_toBreak 18 = .ok (.iconst 0, 1) := by decide +kernel
theorem dX8_toBreak_19 : decode cX8_toBreak 19 = .ok (.istore_n 3, 1) := by decide +kernel
theorem dX8_toBreak_20 : decode cX8_toBreak 20 = .ok (.iload_n 3, 1) := by decide +kernel
theorem dX8_toBreak_21 : decode cX8_toBreak 21 = .ok (.bipush 8, 2) := by decide +kernel
theorem dX8_toBreak_23 : decode cX8_toBreak 23 = .ok (.if_icmp .gt 69, 3) := by decide +kernel
theorem dX8_toBreak_26 : decode cX8_toBreak 26 = .ok (.iconst 0, 1) := by decide +kernel
theorem dX8_toBreak_27 : decode cX8_toBreak 27 = .ok (.istore 4, 2) := by decide +kernel
theorem dX8_toBreak_29 : decode cX8_toBreak 29 = .ok (.iload 4, 2) := by decide +kernel
theorem dX8_toBreak_31 : decode cX8_toBreak 31 = .ok (.sipush 256, 3) := by decide +kernel
theorem dX8_toBreak_34 : decode cX8_toBreak 34 = .ok (.if_icmp .ge 52, 3) := by decide +kernel
theorem dX8_toBreak_37 : decode cX8_toBreak 37 = .ok (.iload 4, 2) := by decide +kernel
theorem dX8_toBreak_39 : decode cX8_toBreak 39 = .ok (.invokestatic 180, 3) := by decide +kernel
theorem dX8_toBreak_42 : decode cX8_toBreak 42 = .ok (.iload_n 3, 1) := by decide +kernel
theorem dX8_toBreak_43 : decode cX8_toBreak 43 = .ok (.if_icmp .ne 16, 3) := by decide +kernel
theorem dX8_toBreak_46 : decode cX8_toBreak 46 = .ok (.iload 4, 2) := by decide +kernel
theorem dX8_toBreak_48 : decode cX8_toBreak 48 = .ok (.iload_n 2, 1) := by decide +kernel
theorem dX8_toBreak_49 : decode cX8_toBreak 49 = .ok (.iconst (-1), 1) := by decide +kernel
theorem dX8_toBreak_50 : decode cX8_toBreak 50 = .ok (.ixor, 1) := by decide +kernel
theorem dX8_toBreak_51 : decode cX8_toBreak 51 = .ok (.iand, 1) := by decide +kernel
theorem dX8_toBreak_52 : decode cX8_toBreak 52 = .ok (.ifCond .ne 7, 3) := by decide +kernel
theorem dX8_toBreak_55 : decode cX8_toBreak 55 = .ok (.iconst 1, 1) := by decide +kernel
theorem dX8_toBreak_56 : decode cX8_toBreak 56 = .ok (.goto 4, 3) := by decide +kernel
theorem dX8_toBreak_59 : decode cX8_toBreak 59 = .ok (.iconst 0, 1) := by decide +kernel
theorem dX8_toBreak_60 : decode cX8_toBreak 60 = .ok (.istore 5, 2) := by decide +kernel
theorem dX8_toBreak_62 : decode cX8_toBreak 62 = .ok (.iload 5, 2) := by decide +kernel
theorem dX8_toBreak_64 : decode cX8_toBreak 64 = .ok (.ifCond .eq 16, 3) := by decide +kernel
theorem dX8_toBreak_67 : decode cX8_toBreak 67 = .ok (.aload_n 0, 1) := by decide +kernel
theorem dX8_toBreak_68 : decode cX8_toBreak 68 = .ok (.iload 4, 2) := by decide +kernel
theorem dX8_toBreak_70 : decode cX8_toBreak 70 = .ok (.invokevirtual 203, 3) := by decide +kernel
theorem dX8_toBreak_73 : decode cX8_toBreak 73 = .ok (.iload_n 1, 1) := by decide +kernel
theorem dX8_toBreak_74 : decode cX8_toBreak 74 = .ok (.if_icmp .gt 6, 3) := by decide +kernel
theorem dX8_toBreak_77 : decode cX8_toBreak 77 = .ok (.iload 4, 2) := by decide +kernel
theorem dX8_toBreak_79 : decode cX8_toBreak 79 = .ok (.ireturn, 1) := by decide +kernel
theorem dX8_toBreak_80 : decode cX8_toBreak 80 = .ok (.iinc 4 1, 3) := by decide +kernel
theorem dX8_toBreak_83 : decode cX8_toBreak 83 = .ok (.goto (-54), 3) := by decide +kernel
theorem dX8_toBreak_86 : decode cX8_toBreak 86 = .ok (.iinc 3 1, 3) := by decide +kernel
theorem dX8_toBreak_89 : decode cX8_toBreak 89 = .ok (.goto (-69), 3) := by decide +kernel
theorem dX8_toBreak_92 : decode cX8_toBreak 92 = .ok (.iload_n 2, 1) := by decide +kernel
theorem dX8_toBreak_93 : decode cX8_toBreak 93 = .ok (.ireturn, 1) := by decide +kernel
set_option maxRecDepth 20000 in
theorem ggX8_byLord_X8_isLord : GoodIn wsX8_byLord wsX8_isLord := goodIn_r _ [11] (by decide +kernel) (by decide +kernel)
set_option maxRecDepth 20000 in
theorem gX8_byLord_X8_isLord : GoodIn wsX8_byLord (wsV RX8 153 RX8 yX8_isLord wsX8_isLord) := goodIn_app (goodIn_of _ (by decide +kernel)) ggX8_byLord_X8_isLord
set_option maxRecDepth 20000 in
theorem ggX8_byLord_X8_findWay : GoodIn wsX8_byLord wsX8_findWay := goodIn_r _ [15, 5, 1, 16, 17, 18, 19, 20, 21, 22, 23, 24, 25, 26, 27, 28, 29, 30, 31, 32, 33, 34, 35, 36, 37, 38, 39, 40, 41, 42, 43, 44, 45, 46, 47, 48, 49, 50, 51, 52, 53, 54, 55, 56, 57, 58, 59, 60, 61, 62, 63, 64, 65, 66, 67, 68, 69, 70, 71, 72, 73, 74, 75, 76, 77, 78, 79, 80, 81, 82, 83, 84, 85, 86, 87, 88, 89, 90, 91, 92, 93, 94, 95, 96, 97, 98, 99, 100, 101, 102, 103, 104, 105, 106, 107, 108, 109, 110, 113, 114, 115, 116, 117, 118, 119, 120, 121, 122, 123, 124, 125, 126, 127, 128, 129, 130, 131, 132, 133, 139, 140, 141, 142, 143, 144, 145, 146, 147, 148, 149, 150, 151, 152, 134, 135, 136, 137, 138] (by decide +kernel) (by decide +kernel)
set_option maxRecDepth 20000 in
theorem gX8_byLord_X8_findWay : GoodIn wsX8_byLord (wsV RX8 191 RX8 yX8_findWay wsX8_findWay) := goodIn_app (goodIn_of _ (by decide +kernel)) ggX8_byLord_X8_findWay
set_option maxRecDepth 20000 in
theorem ggX8_byLord_X3_fact : GoodIn wsX8_byLord wsX3_fact := goodIn_r _ [59, 60, 61, 49, 33, 50, 134, 135, 136, 137, 138] (by decide +kernel) (by decide +kernel)
set_option maxRecDepth 20000 in
theorem gX8_byLord_X3_fact : GoodIn wsX8_byLord (wsV RX8 120 RX3 yX3_fact wsX3_fact) := goodIn_app (goodIn_of _ (by decide +kernel)) ggX8_byLord_X3_fact
set_option maxRecDepth 20000 in
theorem ggX8_byLord_X5_get : GoodIn wsX8_byLord wsX5_get := goodIn_r _ [50] (by decide +kernel) (by decide +kernel)
set_option maxRecDepth 20000 in
theorem gX8_byLord_X5_get : GoodIn wsX8_byLord (va_wsS RX8 159 yX5_get wsX5_get) := goodIn_app (goodIn_of _ (by decide +kernel)) ggX8_byLord_X5_get
theorem dX8_byLord_0 : decode cX8_byLord 0 = .ok (.aload_n 0, 1) := by decide +kernel
theorem dX8_byLord_1 : decode cX8_byLord 1 = .ok (.iload_n 1, 1) := by decide +kernel
theorem dX8_byLord_2 : decode cX8_byLord 2 = .ok (.invokevirtual 153, 3) := by decide +kernel
theorem dX8_byLord_5 : decode cX8_byLord 5 = .ok (.ifCond .ne 5, 3) := by decide +kernel
theorem dX8_byLord_8 : decode cX8_byLord 8 = .ok (.iconst (-1), 1) := by decide +kernel
theorem dX8_byLord_9 : decode cX8_byLord 9 = .ok (.ireturn, 1) := by decide +kernel
theorem dX8_byLord_10 : decode cX8_byLord 10 = .ok (.aload_n 0, 1) := by decide +kernel
theorem dX8_byLord_11 : decode cX8_byLord 11 = .ok (.invokevirtual 191, 3) := by decide +kernel
theorem dX8_byLord_14 : decode cX8_byLord 14 = .ok (.iconst 0, 1) := by decide +kernel
theorem dX8_byLord_15 : decode cX8_byLord 15 = .ok (.istore_n 2, 1) := by decide +kernel
theorem dX8_byLord_16 : decode cX8_byLord 16 = .ok (.aload_n 0, 1) := by decide +kernel
theorem dX8_byLord_17 : decode cX8_byLord 17 = .ok (.getfield 38, 3) := by decide +kernel
theorem dX8_byLord_20 : decode cX8_byLord 20 = .ok (.getfield 127, 3) := by decide +kernel
theorem dX8_byLord_23 : decode cX8_byLord 23 = .ok (.istore_n 3, 1) := by decide +kernel
theorem dX8_byLord_24 : decode cX8_byLord 24 = .ok (.iload_n 3, 1) := by decide +kernel
theorem dX8_byLord_25 : decode cX8_byLord 25 = .ok (.aload_n 0, 1) := by decide +kernel
theorem dX8_byLord_26 : decode cX8_byLord 26 = .ok (.getfield 32, 3) := by decide +kernel
theorem dX8_byLord_29 : decode cX8_byLord 29 = .ok (.getfield 188, 3) := by decide +kernel
theorem dX8_byLord_32 : decode cX8_byLord 32 = .ok (.if_icmp .ge 36, 3) := by decide +kernel
theorem dX8_byLord_35 : decode cX8_byLord 35 = .ok (.aload_n 0, 1) := by decide +kernel
theorem dX8_byLord_36 : decode cX8_byLord 36 = .ok (.getfield 32, 3) := by decide +kernel
theorem dX8_byLord_39 : decode cX8_byLord 39 = .ok (.iload_n 3, 1) := by decide +kernel
theorem dX8_byLord_40 : decode cX8_byLord 40 = .ok (.iconst 2, 1) := by decide +kernel
theorem dX8_byLord_41 : decode cX8_byLord 41 = .ok (.invokevirtual 120, 3) := by decide +kernel
theorem dX8_byLord_44 : decode cX8_byLord 44 = .ok (.iload_n 1, 1) := by decide +kernel
theorem dX8_byLord_45 : decode cX8_byLord 45 = .ok (.if_icmp .ne 17, 3) := by decide +kernel
theorem dX8_byLord_48 : decode cX8_byLord 48 = .ok (.iload_n 2, 1) := by decide +kernel
theorem dX8_byLord_49 : decode cX8_byLord 49 = .ok (.aload_n 0, 1) := by decide +kernel
theorem dX8_byLord_50 : decode cX8_byLord 50 = .ok (.getfield 62, 3) := by decide +kernel
theorem dX8_byLord_53 : decode cX8_byLord 53 = .ok (.getfield 206, 3) := by decide +kernel
theorem dX8_byLord_56 : decode cX8_byLord 56 = .ok (.iload_n 3, 1) := by decide +kernel
theorem dX8_byLord_57 : decode cX8_byLord 57 = .ok (.invokestatic 159, 3) := by decide +kernel
theorem dX8_byLord_60 : decode cX8_byLord 60 = .ok (.iadd, 1) := by decide +kernel
theorem dX8_byLord_61 : decode cX8_byLord 61 = .ok (.istore_n 2, 1) := by decide +kernel
theorem dX8_byLord_62 : decode cX8_byLord 62 = .ok (.iinc 3 1, 3) := by decide +kernel
theorem dX8_byLord_65 : decode cX8_byLord 65 = .ok (.goto (-41), 3) := by decide +kernel
theorem dX8_byLord_68 : decode cX8_byLord 68 = .ok (.iload_n 2, 1) := by decide +kernel
theorem dX8_byLord_69 : decode cX8_byLord 69 = .ok (.ireturn, 1) := by decide +kernel
set_option maxRecDepth 20000 in
theorem ggX8_most_X8_isRock : GoodIn wsX8_most wsX8_isRock := goodIn_r _ [7, 8, 9, 120, 121, 122, 123, 124, 125, 126, 127, 128, 129, 130, 131, 132, 141, 142, 143, 144, 145] (by decide +kernel) (by decide +kernel)
set_option maxRecDepth 20000 in
theorem gX8_most_X8_isRock : GoodIn wsX8_most (wsV RX8 109 RX8 yX8_isRock wsX8_isRock) := goodIn_app (goodIn_of _ (by decide +kernel)) ggX8_most_X8_isRock
set_option maxRecDepth 20000 in
theorem ggX8_most_X0_isBroken : GoodIn wsX8_most wsX0_isBroken := goodIn_r _ [14, 15, 133, 134, 135, 136, 137, 138, 139, 140] (by decide +kernel) (by decide +kernel)
set_option maxRecDepth 20000 in
theorem gX8_most_X0_isBroken : GoodIn wsX8_most (wsV RX8 117 RX0 yX0_isBroken wsX0_isBroken) := goodIn_app (goodIn_of _ (by decide +kernel)) ggX8_most_X0_isBroken
set_option maxRecDepth 20000 in
theorem ggX8_most_X8_paidIfToll : GoodIn wsX8_most wsX8_paidIfToll := goodIn_r _ [19, 20, 1, 21, 22, 23, 24, 25, 26, 27, 28, 29, 30, 31, 32, 33, 34, 35, 36, 37, 38, 39, 40, 41, 42, 43, 44, 45, 46, 47, 48, 49, 50, 51, 52, 53, 54, 55, 56, 57, 58, 59, 60, 61, 62, 63, 64, 65, 66, 67, 68, 69, 70, 71, 72, 73, 74, 75, 76, 77, 78, 79, 80, 81, 82, 83, 84, 85, 86, 87, 88, 89, 90, 91, 92, 93, 94, 95, 96, 97, 98, 99, 100, 101, 102, 103, 104, 105, 106, 107, 108, 109, 110, 111, 112, 113, 114, 115, 116, 117, 118, 119, 120, 121, 122, 123, 124, 125, 126, 127, 128, 129, 130, 131, 132, 146, 147, 148, 149, 150, 151, 152, 153, 154, 155, 156, 157, 158, 159, 133, 134, 135, 136, 137, 138, 139, 140, 141, 142, 143, 144, 145] (by decide +kernel) (by decide +kernel)
set_option maxRecDepth 20000 in
theorem gX8_most_X8_paidIfToll : GoodIn wsX8_most (wsV RX8 209 RX8 yX8_paidIfToll wsX8_paidIfToll) := goodIn_app (goodIn_of _ (by decide +kernel)) ggX8_most_X8_paidIfToll
theorem dX8_most_0 : decode cX8_most 0 = .ok (.aload_n 0, 1) := by decide +kernel
theorem dX8_most_1 : decode cX8_most 1 = .ok (.iload_n 1, 1) := by decide +kernel
theorem dX8_most_2 : decode cX8_most 2 = .ok (.invokevirtual 109, 3) := by decide +kernel
theorem dX8_most_5 : decode cX8_most 5 = .ok (.ifCond .eq 12, 3) := by decide +kernel
theorem dX8_most_8 : decode cX8_most 8 = .ok (.iload_n 2, 1) := by decide +kernel
theorem dX8_most_9 : decode cX8_most 9 = .ok (.ifCond .lt 8, 3) := by decide +kernel
theorem dX8_most_12 : decode cX8_most 12 = .ok (.iload_n 2, 1) := by decide +kernel
theorem dX8_most_13 : decode cX8_most 13 = .ok (.iconst 1, 1) := by decide +kernel
theorem dX8_most_14 : decode cX8_most 14 = .ok (.if_icmp .le 5, 3) := by decide +kernel
theorem dX8_most_17 : decode cX8_most 17 = .ok (.iconst (-1), 1) := by decide +kernel
theorem dX8_most_18 : decode cX8_most 18 = .ok (.ireturn, 1) := by decide +kernel
theorem dX8_most_19 : decode cX8_most 19 = .ok (.iload_n 1, 1) := by decide +kernel
theorem dX8_most_20 : decode cX8_most 20 = .ok (.aload_n 0, 1) := by decide +kernel
theorem dX8_most_21 : decode cX8_most 21 = .ok (.getfield 38, 3) := by decide +kernel
theorem dX8_most_24 : decode cX8_most 24 = .ok (.getfield 127, 3) := by decide +kernel
theorem dX8_most_27 : decode cX8_most 27 = .ok (.if_icmp .lt 14, 3) := by decide +kernel
theorem dX8_most_30 : decode cX8_most 30 = .ok (.aload_n 0, 1) := by decide +kernel
theorem dX8_most_31 : decode cX8_most 31 = .ok (.getfield 38, 3) := by decide +kernel
theorem dX8_most_34 : decode cX8_most 34 = .ok (.iload_n 1, 1) := by decide +kernel
theorem dX8_most_35 : decode cX8_most 35 = .ok (.invokevirtual 117, 3) := by decide +kernel
theorem dX8_most_38 : decode cX8_most 38 = .ok (.ifCond .eq 6, 3) := by decide +kernel
theorem dX8_most_41 : decode cX8_most 41 = .ok (.bipush (-9), 2) := by decide +kernel
theorem dX8_most_43 : decode cX8_most 43 = .ok (.ireturn, 1) := by decide +kernel
theorem dX8_most_44 : decode cX8_most 44 = .ok (.iconst 0, 1) := by decide +kernel
theorem dX8_most_45 : decode cX8_most 45 = .ok (.istore_n 3, 1) := by decide +kernel
theorem dX8_most_46 : decode cX8_most 46 = .ok (.iconst 0, 1) := by decide +kernel
theorem dX8_most_47 : decode cX8_most 47 = .ok (.istore 4, 2) := by decide +kernel
theorem dX8_most_49 : decode cX8_most 49 = .ok (.iconst 0, 1) := by decide +kernel
theorem dX8_most_50 : decode cX8_most 50 = .ok (.istore 5, 2) := by decide +kernel
theorem dX8_most_52 : decode cX8_most 52 = .ok (.iload 5, 2) := by decide +kernel
theorem dX8_most_54 : decode cX8_most 54 = .ok (.bipush 9, 2) := by decide +kernel
theorem dX8_most_56 : decode cX8_most 56 = .ok (.if_icmp .gt 32, 3) := by decide +kernel
theorem dX8_most_59 : decode cX8_most 59 = .ok (.aload_n 0, 1) := by decide +kernel
theorem dX8_most_60 : decode cX8_most 60 = .ok (.iload_n 1, 1) := by decide +kernel
theorem dX8_most_61 : decode cX8_most 61 = .ok (.iload 5, 2) := by decide +kernel
theorem dX8_most_63 : decode cX8_most 63 = .ok (.invokevirtual 209, 3) := by decide +kernel
theorem dX8_most_66 : decode cX8_most 66 = .ok (.istore 6, 2) := by decide +kernel
theorem dX8_most_68 : decode cX8_most 68 = .ok (.iload 6, 2) := by decide +kernel
theorem dX8_most_70 : decode cX8_most 70 = .ok (.iload 4, 2) := by decide +kernel
theorem dX8_most_72 : decode cX8_most 72 = .ok (.if_icmp .le 10, 3) := by decide +kernel
theorem dX8_most_75 : decode cX8_most 75 = .ok (.iload 5, 2) := by decide +kernel
theorem dX8_most_77 : decode cX8_most 77 = .ok (.istore_n 3, 1) := by decide +kernel
theorem dX8_most_78 : decode cX8_most 78 = .ok (.iload 6, 2) := by decide +kernel
theorem dX8_most_80 : decode cX8_most 80 = .ok (.istore 4, 2) := by decide +kernel
theorem dX8_most_82 : decode cX8_most 82 = .ok (.iinc 5 1, 3) := by decide +kernel
theorem dX8_most_85 : decode cX8_most 85 = .ok (.goto (-33), 3) := by decide +kernel
theorem dX8_most_88 : decode cX8_most 88 = .ok (.iload_n 2, 1) := by decide +kernel
theorem dX8_most_89 : decode cX8_most 89 = .ok (.ifCond .ne 7, 3) := by decide +kernel
theorem dX8_most_92 : decode cX8_most 92 = .ok (.iload_n 3, 1) := by decide +kernel
theorem dX8_most_93 : decode cX8_most 93 = .ok (.goto 5, 3) := by decide +kernel
theorem dX8_most_96 : decode cX8_most 96 = .ok (.iload 4, 2) := by decide +kernel
theorem dX8_most_98 : decode cX8_most 98 = .ok (.ireturn, 1) := by decide +kernel
set_option maxRecDepth 20000 in
theorem ggX8_still_X0_tollOf : GoodIn wsX8_still wsX0_tollOf := goodIn_r _ [9, 10, 11, 12, 13, 14, 130, 131, 132, 133, 134, 135, 136, 137] (by decide +kernel) (by decide +kernel)
set_option maxRecDepth 20000 in
theorem gX8_still_X0_tollOf : GoodIn wsX8_still (wsV RX8 113 RX0 yX0_tollOf wsX0_tollOf) := goodIn_app (goodIn_of _ (by decide +kernel)) ggX8_still_X0_tollOf
set_option maxRecDepth 20000 in
theorem ggX8_still_X8_paidIfToll : GoodIn wsX8_still wsX8_paidIfToll := goodIn_r _ [19, 20, 1, 21, 22, 23, 24, 25, 26, 27, 28, 29, 30, 31, 32, 33, 34, 35, 36, 37, 38, 39, 13, 40, 41, 42, 43, 44, 45, 46, 47, 48, 49, 50, 51, 52, 53, 54, 55, 56, 57, 12, 14, 58, 59, 60, 61, 62, 63, 64, 65, 66, 67, 68, 69, 70, 71, 72, 73, 74, 75, 76, 77, 78, 79, 80, 81, 82, 83, 84, 85, 86, 87, 88, 89, 90, 91, 92, 93, 94, 95, 96, 97, 98, 99, 100, 101, 102, 103, 104, 105, 106, 107, 108, 109, 110, 111, 112, 113, 114, 115, 116, 117, 118, 119, 120, 121, 122, 123, 124, 125, 126, 127, 128, 129, 143, 144, 145, 146, 147, 148, 149, 150, 151, 152, 153, 154, 155, 156, 130, 131, 132, 133, 134, 135, 136, 137, 138, 139, 140, 141, 142] (by decide +kernel) (by decide +kernel)
set_option maxRecDepth 20000 in
theorem gX8_still_X8_paidIfToll : GoodIn wsX8_still (wsV RX8 209 RX8 yX8_paidIfToll wsX8_paidIfToll) := goodIn_app (goodIn_of _ (by decide +kernel)) ggX8_still_X8_paidIfToll
theorem dX8_still_0 : decode cX8_still 0 = .ok (.iconst 0, 1) := by decide +kernel
theorem dX8_still_1 : decode cX8_still 1 = .ok (.istore_n 1, 1) := by decide +kernel
theorem dX8_still_2 : decode cX8_still 2 = .ok (.aload_n 0, 1) := by decide +kernel
theorem dX8_still_3 : decode cX8_still 3 = .ok (.getfield 38, 3) := by decide +kernel
theorem dX8_still_6 : decode cX8_still 6 = .ok (.getfield 127, 3) := by decide +kernel
theorem dX8_still_9 : decode cX8_still 9 = .ok (.istore_n 2, 1) := by decide +kernel
theorem dX8_still_10 : decode cX8_still 10 = .ok (.iload_n 2, 1) := by decide +kernel
theorem dX8_still_11 : decode cX8_still 11 = .ok (.aload_n 0, 1) := by decide +kernel
theorem dX8_still_12 : decode cX8_still 12 = .ok (.getfield 32, 3) := by decide +kernel
theorem dX8_still_15 : decode cX8_still 15 = .ok (.getfield 188, 3) := by decide +kernel
theorem dX8_still_18 : decode cX8_still 18 = .ok (.if_icmp .ge 44, 3) := by decide +kernel
theorem dX8_still_21 : decode cX8_still 21 = .ok (.aload_n 0, 1) := by decide +kernel
theorem dX8_still_22 : decode cX8_still 22 = .ok (.getfield 38, 3) := by decide +kernel
theorem dX8_still_25 : decode cX8_still 25 = .ok (.iload_n 2, 1) := by decide +kernel
theorem dX8_still_26 : decode cX8_still 26 = .ok (.invokevirtual 113, 3) := by decide +kernel
theorem dX8_still_29 : decode cX8_still 29 = .ok (.istore_n 3, 1) := by decide +kernel
theorem dX8_still_30 : decode cX8_still 30 = .ok (.aload_n 0, 1) := by decide +kernel
theorem dX8_still_31 : decode cX8_still 31 = .ok (.iload_n 2, 1) := by decide +kernel
theorem dX8_still_32 : decode cX8_still 32 = .ok (.iload_n 3, 1) := by decide +kernel
theorem dX8_still_33 : decode cX8_still 33 = .ok (.invokevirtual 209, 3) := by decide +kernel
theorem dX8_still_36 : decode cX8_still 36 = .ok (.ifCond .le 20, 3) := by decide +kernel
theorem dX8_still_39 : decode cX8_still 39 = .ok (.aload_n 0, 1) := by decide +kernel
theorem dX8_still_40 : decode cX8_still 40 = .ok (.iload_n 2, 1) := by decide +kernel
theorem dX8_still_41 : decode cX8_still 41 = .ok (.iload_n 3, 1) := by decide +kernel
theorem dX8_still_42 : decode cX8_still 42 = .ok (.iconst 1, 1) := by decide +kernel
theorem dX8_still_43 : decode cX8_still 43 = .ok (.iadd, 1) := by decide +kernel
theorem dX8_still_44 : decode cX8_still 44 = .ok (.invokevirtual 209, 3) := by decide +kernel
theorem dX8_still_47 : decode cX8_still 47 = .ok (.ifCond .le 9, 3) := by decide +kernel
theorem dX8_still_50 : decode cX8_still 50 = .ok (.iload_n 1, 1) := by decide +kernel
theorem dX8_still_51 : decode cX8_still 51 = .ok (.iconst 1, 1) := by decide +kernel
theorem dX8_still_52 : decode cX8_still 52 = .ok (.iload_n 2, 1) := by decide +kernel
theorem dX8_still_53 : decode cX8_still 53 = .ok (.ishl, 1) := by decide +kernel
theorem dX8_still_54 : decode cX8_still 54 = .ok (.ior, 1) := by decide +kernel
theorem dX8_still_55 : decode cX8_still 55 = .ok (.istore_n 1, 1) := by decide +kernel
theorem dX8_still_56 : decode cX8_still 56 = .ok (.iinc 2 1, 3) := by decide +kernel
theorem dX8_still_59 : decode cX8_still 59 = .ok (.goto (-49), 3) := by decide +kernel
theorem dX8_still_62 : decode cX8_still 62 = .ok (.iload_n 1, 1) := by decide +kernel
theorem dX8_still_63 : decode cX8_still 63 = .ok (.ireturn, 1) := by decide +kernel
set_option maxRecDepth 20000 in
theorem ggX8_cheap_X8_isRock : GoodIn wsX8_cheap wsX8_isRock := goodIn_r _ [5, 6, 7, 49, 50, 51, 52, 53, 54, 55, 56, 57, 58, 59, 60, 61, 62, 63, 64, 65, 66] (by decide +kernel) (by decide +kernel)
set_option maxRecDepth 20000 in
theorem gX8_cheap_X8_isRock : GoodIn wsX8_cheap (wsV RX8 109 RX8 yX8_isRock wsX8_isRock) := goodIn_app (goodIn_of _ (by decide +kernel)) ggX8_cheap_X8_isRock
set_option maxRecDepth 20000 in
theorem ggX8_cheap_X8_priceOf : GoodIn wsX8_cheap wsX8_priceOf := goodIn_r _ [11, 12, 6, 13, 14, 15, 16, 17, 18, 19, 20, 21, 22, 23, 24, 25, 26, 27, 28, 29, 30, 31, 32, 33, 34, 35, 36, 37, 38, 39, 40, 41, 42, 49, 50, 51, 52, 53, 54, 55, 56, 57, 58, 59, 60, 61, 67, 68, 69, 70, 71, 72, 73, 74, 62, 63, 64, 65, 66] (by decide +kernel) (by decide +kernel)
set_option maxRecDepth 20000 in
theorem gX8_cheap_X8_priceOf : GoodIn wsX8_cheap (wsV RX8 124 RX8 yX8_priceOf wsX8_priceOf) := goodIn_app (goodIn_of _ (by decide +kernel)) ggX8_cheap_X8_priceOf
set_option maxRecDepth 20000 in
theorem ggX8_cheap_X6_inLeastTerms : GoodIn wsX8_cheap wsX6_inLeastTerms := goodIn_r _ [45, 46, 47, 41, 48] (by decide +kernel) (by decide +kernel)
set_option maxRecDepth 20000 in
theorem gX8_cheap_X6_inLeastTerms : GoodIn wsX8_cheap (va_wsS RX8 212 yX6_inLeastTerms wsX6_inLeastTerms) := goodIn_app (goodIn_of _ (by decide +kernel)) ggX8_cheap_X6_inLeastTerms
theorem dX8_cheap_0 : decode cX8_cheap 0 = .ok (.aload_n 0, 1) := by decide +kernel
theorem dX8_cheap_1 : decode cX8_cheap 1 = .ok (.iload_n 1, 1) := by decide +kernel
theorem dX8_cheap_2 : decode cX8_cheap 2 = .ok (.invokevirtual 109, 3) := by decide +kernel
theorem dX8_cheap_5 : decode cX8_cheap 5 = .ok (.ifCond .eq 12, 3) := by decide +kernel
theorem dX8_cheap_8 : decode cX8_cheap 8 = .ok (.iload_n 2, 1) := by decide +kernel
theorem dX8_cheap_9 : decode cX8_cheap 9 = .ok (.ifCond .lt 8, 3) := by decide +kernel
theorem dX8_cheap_12 : decode cX8_cheap 12 = .ok (.iload_n 2, 1) := by decide +kernel
theorem dX8_cheap_13 : decode cX8_cheap 13 = .ok (.iconst 2, 1) := by decide +kernel
theorem dX8_cheap_14 : decode cX8_cheap 14 = .ok (.if_icmp .le 5, 3) := by decide +kernel
theorem dX8_cheap_17 : decode cX8_cheap 17 = .ok (.iconst (-1), 1) := by decide +kernel
theorem dX8_cheap_18 : decode cX8_cheap 18 = .ok (.ireturn, 1) := by decide +kernel
theorem dX8_cheap_19 : decode cX8_cheap 19 = .ok (.iconst 1, 1) := by decide +kernel
theorem dX8_cheap_20 : decode cX8_cheap 20 = .ok (.istore_n 3, 1) := by decide +kernel
theorem dX8_cheap_21 : decode cX8_cheap 21 = .ok (.iconst 2, 1) := by decide +kernel
theorem dX8_cheap_22 : decode cX8_cheap 22 = .ok (.istore 4, 2) := by decide +kernel
theorem dX8_cheap_24 : decode cX8_cheap 24 = .ok (.iload 4, 2) := by decide +kernel
theorem dX8_cheap_26 : decode cX8_cheap 26 = .ok (.bipush 30, 2) := by decide +kernel
theorem dX8_cheap_28 : decode cX8_cheap 28 = .ok (.if_icmp .gt 33, 3) := by decide +kernel
theorem dX8_cheap_31 : decode cX8_cheap 31 = .ok (.aload_n 0, 1) := by decide +kernel
theorem dX8_cheap_32 : decode cX8_cheap 32 = .ok (.iload_n 1, 1) := by decide +kernel
theorem dX8_cheap_33 : decode cX8_cheap 33 = .ok (.iload 4, 2) := by decide +kernel
theorem dX8_cheap_35 : decode cX8_cheap 35 = .ok (.invokevirtual 124, 3) := by decide +kernel
theorem dX8_cheap_38 : decode cX8_cheap 38 = .ok (.iload_n 3, 1) := by decide +kernel
theorem dX8_cheap_39 : decode cX8_cheap 39 = .ok (.imul, 1) := by decide +kernel
theorem dX8_cheap_40 : decode cX8_cheap 40 = .ok (.aload_n 0, 1) := by decide +kernel
theorem dX8_cheap_41 : decode cX8_cheap 41 = .ok (.iload_n 1, 1) := by decide +kernel
theorem dX8_cheap_42 : decode cX8_cheap 42 = .ok (.iload_n 3, 1) := by decide +kernel
theorem dX8_cheap_43 : decode cX8_cheap 43 = .ok (.invokevirtual 124, 3) := by decide +kernel
theorem dX8_cheap_46 : decode cX8_cheap 46 = .ok (.iload 4, 2) := by decide +kernel
theorem dX8_cheap_48 : decode cX8_cheap 48 = .ok (.imul, 1) := by decide +kernel
theorem dX8_cheap_49 : decode cX8_cheap 49 = .ok (.if_icmp .ge 6, 3) := by decide +kernel
theorem dX8_cheap_52 : decode cX8_cheap 52 = .ok (.iload 4, 2) := by decide +kernel
theorem dX8_cheap_54 : decode cX8_cheap 54 = .ok (.istore_n 3, 1) := by decide +kernel
theorem dX8_cheap_55 : decode cX8_cheap 55 = .ok (.iinc 4 1, 3) := by decide +kernel
theorem dX8_cheap_58 : decode cX8_cheap 58 = .ok (.goto (-34), 3) := by decide +kernel
theorem dX8_cheap_61 : decode cX8_cheap 61 = .ok (.iload_n 2, 1) := by decide +kernel
theorem dX8_cheap_62 : decode cX8_cheap 62 = .ok (.ifCond .ne 5, 3) := by decide +kernel
theorem dX8_cheap_65 : decode cX8_cheap 65 = .ok (.iload_n 3, 1) := by decide +kernel
theorem dX8_cheap_66 : decode cX8_cheap 66 = .ok (.ireturn, 1) := by decide +kernel
theorem dX8_cheap_67 : decode cX8_cheap 67 = .ok (.aload_n 0, 1) := by decide +kernel
theorem dX8_cheap_68 : decode cX8_cheap 68 = .ok (.iload_n 1, 1) := by decide +kernel
theorem dX8_cheap_69 : decode cX8_cheap 69 = .ok (.iload_n 3, 1) := by decide +kernel
theorem dX8_cheap_70 : decode cX8_cheap 70 = .ok (.invokevirtual 124, 3) := by decide +kernel
theorem dX8_cheap_73 : decode cX8_cheap 73 = .ok (.istore 4, 2) := by decide +kernel
theorem dX8_cheap_75 : decode cX8_cheap 75 = .ok (.iload_n 2, 1) := by decide +kernel
theorem dX8_cheap_76 : decode cX8_cheap 76 = .ok (.iconst 1, 1) := by decide +kernel
theorem dX8_cheap_77 : decode cX8_cheap 77 = .ok (.if_icmp .ne 12, 3) := by decide +kernel
theorem dX8_cheap_80 : decode cX8_cheap 80 = .ok (.iload 4, 2) := by decide +kernel
theorem dX8_cheap_82 : decode cX8_cheap 82 = .ok (.iload_n 3, 1) := by decide +kernel
theorem dX8_cheap_83 : decode cX8_cheap 83 = .ok (.invokestatic 212, 3) := by decide +kernel
theorem dX8_cheap_86 : decode cX8_cheap 86 = .ok (.goto 9, 3) := by decide +kernel
theorem dX8_cheap_89 : decode cX8_cheap 89 = .ok (.iload_n 3, 1) := by decide +kernel
theorem dX8_cheap_90 : decode cX8_cheap 90 = .ok (.iload 4, 2) := by decide +kernel
theorem dX8_cheap_92 : decode cX8_cheap 92 = .ok (.invokestatic 212, 3) := by decide +kernel
theorem dX8_cheap_95 : decode cX8_cheap 95 = .ok (.ireturn, 1) := by decide +kernel
set_option maxRecDepth 20000 in
theorem ggX8_two_X8_costOf : GoodIn wsX8_two wsX8_costOf := goodIn_r _ [7, 8, 1, 9, 10, 11, 12, 13, 14, 15, 16, 17, 18, 19, 20, 21, 22, 23, 24, 25, 26, 27, 28, 29, 30, 31, 32, 33, 34, 35, 36, 37, 38, 39, 40, 41, 42, 43, 44, 45, 46, 47, 48, 49, 50, 51, 52, 53, 54, 55, 56, 57, 58, 59, 60, 61, 62, 63, 64, 65, 66, 67, 68, 69, 70, 71, 72, 73, 74, 75, 76, 77, 78, 79, 80, 81, 82, 83, 84, 85, 86, 87, 88, 89, 90, 91, 92, 93, 94, 95, 96, 97, 98, 99, 100, 101, 102, 103, 104, 105, 106, 107, 108, 109, 110, 111, 112, 113, 114, 115, 116, 117, 118, 127, 128, 129, 130, 131, 132, 133, 134, 135, 136, 137, 138, 139, 140, 119, 120, 121, 122, 123, 124, 125, 126, 141, 142, 143, 144, 145] (by decide +kernel) (by decide +kernel)
set_option maxRecDepth 20000 in
theorem gX8_two_X8_costOf : GoodIn wsX8_two (wsV RX8 217 RX8 yX8_costOf wsX8_costOf) := goodIn_app (goodIn_of _ (by decide +kernel)) ggX8_two_X8_costOf
theorem dX8_two_0 : decode cX8_two 0 = .ok (.iload_n 1, 1) := by decide +kernel
theorem dX8_two_1 : decode cX8_two 1 = .ok (.ifCond .lt 8, 3) := by decide +kernel
theorem dX8_two_4 : decode cX8_two 4 = .ok (.iload_n 1, 1) := by decide +kernel
theorem dX8_two_5 : decode cX8_two 5 = .ok (.iconst 1, 1) := by decide +kernel
theorem dX8_two_6 : decode cX8_two 6 = .ok (.if_icmp .le 5, 3) := by decide +kernel
theorem dX8_two_9 : decode cX8_two 9 = .ok (.iconst (-1), 1) := by decide +kernel
theorem dX8_two_10 : decode cX8_two 10 = .ok (.ireturn, 1) := by decide +kernel
theorem dX8_two_11 : decode cX8_two 11 = .ok (.aload_n 0, 1) := by decide +kernel
theorem dX8_two_12 : decode cX8_two 12 = .ok (.getfield 38, 3) := by decide +kernel
theorem dX8_two_15 : decode cX8_two 15 = .ok (.getfield 130, 3) := by decide +kernel
theorem dX8_two_18 : decode cX8_two 18 = .ok (.iconst 2, 1) := by decide +kernel
theorem dX8_two_19 : decode cX8_two 19 = .ok (.if_icmp .ge 6, 3) := by decide +kernel
theorem dX8_two_22 : decode cX8_two 22 = .ok (.bipush (-9), 2) := by decide +kernel
theorem dX8_two_24 : decode cX8_two 24 = .ok (.ireturn, 1) := by decide +kernel
theorem dX8_two_25 : decode cX8_two 25 = .ok (.iconst 1, 1) := by decide +kernel
theorem dX8_two_26 : decode cX8_two 26 = .ok (.istore_n 2, 1) := by decide +kernel
theorem dX8_two_27 : decode cX8_two 27 = .ok (.aload_n 0, 1) := by decide +kernel
theorem dX8_two_28 : decode cX8_two 28 = .ok (.iconst 1, 1) := by decide +kernel
theorem dX8_two_29 : decode cX8_two 29 = .ok (.invokevirtual 217, 3) := by decide +kernel
theorem dX8_two_32 : decode cX8_two 32 = .ok (.aload_n 0, 1) := by decide +kernel
theorem dX8_two_33 : decode cX8_two 33 = .ok (.aload_n 0, 1) := by decide +kernel
theorem dX8_two_34 : decode cX8_two 34 = .ok (.getfield 38, 3) := by decide +kernel
theorem dX8_two_37 : decode cX8_two 37 = .ok (.getfield 130, 3) := by decide +kernel
theorem dX8_two_40 : decode cX8_two 40 = .ok (.iconst 1, 1) := by decide +kernel
theorem dX8_two_41 : decode cX8_two 41 = .ok (.isub, 1) := by decide +kernel
theorem dX8_two_42 : decode cX8_two 42 = .ok (.invokevirtual 217, 3) := by decide +kernel
theorem dX8_two_45 : decode cX8_two 45 = .ok (.iadd, 1) := by decide +kernel
theorem dX8_two_46 : decode cX8_two 46 = .ok (.istore_n 3, 1) := by decide +kernel
theorem dX8_two_47 : decode cX8_two 47 = .ok (.iconst 2, 1) := by decide +kernel
theorem dX8_two_48 : decode cX8_two 48 = .ok (.istore 4, 2) := by decide +kernel
theorem dX8_two_50 : decode cX8_two 50 = .ok (.iload 4, 2) := by decide +kernel
theorem dX8_two_52 : decode cX8_two 52 = .ok (.aload_n 0, 1) := by decide +kernel
theorem dX8_two_53 : decode cX8_two 53 = .ok (.getfield 38, 3) := by decide +kernel
theorem dX8_two_56 : decode cX8_two 56 = .ok (.getfield 130, 3) := by decide +kernel
theorem dX8_two_59 : decode cX8_two 59 = .ok (.iconst 2, 1) := by decide +kernel
theorem dX8_two_60 : decode cX8_two 60 = .ok (.idiv, 1) := by decide +kernel
theorem dX8_two_61 : decode cX8_two 61 = .ok (.if_icmp .gt 44, 3) := by decide +kernel
theorem dX8_two_64 : decode cX8_two 64 = .ok (.aload_n 0, 1) := by decide +kernel
theorem dX8_two_65 : decode cX8_two 65 = .ok (.iload 4, 2) := by decide +kernel
theorem dX8_two_67 : decode cX8_two 67 = .ok (.invokevirtual 217, 3) := by decide +kernel
theorem dX8_two_70 : decode cX8_two 70 = .ok (.aload_n 0, 1) := by decide +kernel
theorem dX8_two_71 : decode cX8_two 71 = .ok (.aload_n 0, 1) := by decide +kernel
theorem dX8_two_72 : decode cX8_two 72 = .ok (.getfield 38, 3) := by decide +kernel
theorem dX8_two_75 : decode cX8_two 75 = .ok (.getfield 130, 3) := by decide +kernel
theorem dX8_two_78 : decode cX8_two 78 = .ok (.iload 4, 2) := by decide +kernel
theorem dX8_two_80 : decode cX8_two 80 = .ok (.isub, 1) := by decide +kernel
theorem dX8_two_81 : decode cX8_two 81 = .ok (.invokevirtual 217, 3) := by decide +kernel
theorem dX8_two_84 : decode cX8_two 84 = .ok (.iadd, 1) := by decide +kernel
theorem dX8_two_85 : decode cX8_two 85 = .ok (.istore 5, 2) := by decide +kernel
theorem dX8_two_87 : decode cX8_two 87 = .ok (.iload 5, 2) := by decide +kernel
theorem dX8_two_89 : decode cX8_two 89 = .ok (.iload_n 3, 1) := by decide +kernel
theorem dX8_two_90 : decode cX8_two 90 = .ok (.if_icmp .ge 9, 3) := by decide +kernel
theorem dX8_two_93 : decode cX8_two 93 = .ok (.iload 4, 2) := by decide +kernel
theorem dX8_two_95 : decode cX8_two 95 = .ok (.istore_n 2, 1) := by decide +kernel
theorem dX8_two_96 : decode cX8_two 96 = .ok (.iload 5, 2) := by decide +kernel
theorem dX8_two_98 : decode cX8_two 98 = .ok (.istore_n 3, 1) := by decide +kernel
theorem dX8_two_99 : decode cX8_two 99 = .ok (.iinc 4 1, 3) := by decide +kernel
theorem dX8_two_102 : decode cX8_two 102 = .ok (.goto (-52), 3) := by decide +kernel
theorem dX8_two_105 : decode cX8_two 105 = .ok (.iload_n 1, 1) := by decide +kernel
theorem dX8_two_106 : decode cX8_two 106 = .ok (.ifCond .ne 7, 3) := by decide +kernel
theorem dX8_two_109 : decode cX8_two 109 = .ok (.iload_n 2, 1) := by decide +kernel
theorem dX8_two_110 : decode cX8_two 110 = .ok (.goto 4, 3) := by decide +kernel
theorem dX8_two_113 : decode cX8_two 113 = .ok (.iload_n 3, 1) := by decide +kernel
theorem dX8_two_114 : decode cX8_two 114 = .ok (.ireturn, 1) := by decide +kernel
set_option maxRecDepth 20000 in
theorem ggX8_one_X8_findWay : GoodIn wsX8_one wsX8_findWay := goodIn_r _ [9, 3, 1, 10, 11, 12, 13, 14, 15, 16, 17, 18, 19, 20, 21, 22, 23, 24, 25, 26, 27, 28, 29, 30, 31, 32, 33, 34, 35, 36, 37, 38, 39, 40, 41, 42, 43, 44, 45, 46, 47, 48, 49, 50, 51, 52, 53, 54, 55, 56, 57, 58, 59, 60, 61, 62, 63, 64, 65, 66, 67, 68, 69, 70, 71, 72, 73, 74, 75, 76, 77, 78, 79, 80, 81, 82, 83, 84, 85, 86, 87, 88, 89, 90, 91, 92, 93, 94, 95, 96, 97, 98, 99, 100, 101, 102, 103, 104, 106, 107, 108, 109, 110, 111, 112, 113, 114, 115, 116, 117, 118, 119, 120, 121, 122, 123, 124, 125, 126, 127, 128, 129, 130, 131, 132, 133, 134, 135, 136, 137, 138, 139, 140, 141, 142, 143, 144, 145] (by decide +kernel) (by decide +kernel)
set_option maxRecDepth 20000 in
theorem gX8_one_X8_findWay : GoodIn wsX8_one (wsV RX8 191 RX8 yX8_findWay wsX8_findWay) := goodIn_app (goodIn_of _ (by decide +kernel)) ggX8_one_X8_findWay
set_option maxRecDepth 20000 in
theorem ggX8_one_X6_upward : GoodIn wsX8_one wsX6_upward := goodIn_r _ [59] (by decide +kernel) (by decide +kernel)
set_option maxRecDepth 20000 in
theorem gX8_one_X6_upward : GoodIn wsX8_one (va_wsS RX8 220 yX6_upward wsX6_upward) := goodIn_app (goodIn_of _ (by decide +kernel)) ggX8_one_X6_upward
theorem dX8_one_0 : decode cX8_one 0 = .ok (.aload_n 0, 1) := by decide +kernel
theorem dX8_one_1 : decode cX8_one 1 = .ok (.getfield 38, 3) := by decide +kernel
theorem dX8_one_4 : decode cX8_one 4 = .ok (.getfield 130, 3) := by decide +kernel
theorem dX8_one_7 : decode cX8_one 7 = .ok (.ifCond .gt 6, 3) := by decide +kernel
theorem dX8_one_10 : decode cX8_one 10 = .ok (.bipush (-9), 2) := by decide +kernel
theorem dX8_one_12 : decode cX8_one 12 = .ok (.ireturn, 1) := by decide +kernel
theorem dX8_one_13 : decode cX8_one 13 = .ok (.aload_n 0, 1) := by decide +kernel
theorem dX8_one_14 : decode cX8_one 14 = .ok (.invokevirtual 191, 3) := by decide +kernel
theorem dX8_one_17 : decode cX8_one 17 = .ok (.aload_n 0, 1) := by decide +kernel
theorem dX8_one_18 : decode cX8_one 18 = .ok (.getfield 62, 3) := by decide +kernel
theorem dX8_one_21 : decode cX8_one 21 = .ok (.getfield 194, 3) := by decide +kernel
theorem dX8_one_24 : decode cX8_one 24 = .ok (.aload_n 0, 1) := by decide +kernel
theorem dX8_one_25 : decode cX8_one 25 = .ok (.getfield 38, 3) := by decide +kernel
theorem dX8_one_28 : decode cX8_one 28 = .ok (.getfield 130, 3) := by decide +kernel
theorem dX8_one_31 : decode cX8_one 31 = .ok (.invokestatic 220, 3) := by decide +kernel
theorem dX8_one_34 : decode cX8_one 34 = .ok (.ireturn, 1) := by decide +kernel
set_option maxRecDepth 20000 in
theorem ggX8_left_X5_put : GoodIn wsX8_left wsX5_put := goodIn_r _ [7] (by decide +kernel) (by decide +kernel)
set_option maxRecDepth 20000 in
theorem gX8_left_X5_put : GoodIn wsX8_left (va_wsS RX8 100 yX5_put wsX5_put) := goodIn_app (goodIn_of _ (by decide +kernel)) ggX8_left_X5_put
theorem dX8_left_0 : decode cX8_left 0 = .ok (.iload_n 1, 1) := by decide +kernel
theorem dX8_left_1 : decode cX8_left 1 = .ok (.ifCond .lt 20, 3) := by decide +kernel
theorem dX8_left_4 : decode cX8_left 4 = .ok (.iload_n 1, 1) := by decide +kernel
theorem dX8_left_5 : decode cX8_left 5 = .ok (.bipush 8, 2) := by decide +kernel
theorem dX8_left_7 : decode cX8_left 7 = .ok (.if_icmp .gt 14, 3) := by decide +kernel
theorem dX8_left_10 : decode cX8_left 10 = .ok (.iload_n 2, 1) := by decide +kernel
theorem dX8_left_11 : decode cX8_left 11 = .ok (.ifCond .lt 10, 3) := by decide +kernel
theorem dX8_left_14 : decode cX8_left 14 = .ok (.iload_n 2, 1) := by decide +kernel
theorem dX8_left_15 : decode cX8_left 15 = .ok (.sipush 900, 3) := by decide +kernel
theorem dX8_left_18 : decode cX8_left 18 = .ok (.if_icmp .le 5, 3) := by decide +kernel
theorem dX8_left_21 : decode cX8_left 21 = .ok (.iconst (-1), 1) := by decide +kernel
theorem dX8_left_22 : decode cX8_left 22 = .ok (.ireturn, 1) := by decide +kernel
theorem dX8_left_23 : decode cX8_left 23 = .ok (.aload_n 0, 1) := by decide +kernel
theorem dX8_left_24 : decode cX8_left 24 = .ok (.getfield 72, 3) := by decide +kernel
theorem dX8_left_27 : decode cX8_left 27 = .ok (.bipush 6, 2) := by decide +kernel
theorem dX8_left_29 : decode cX8_left 29 = .ok (.if_icmp .lt 6, 3) := by decide +kernel
theorem dX8_left_32 : decode cX8_left 32 = .ok (.bipush (-3), 2) := by decide +kernel
theorem dX8_left_34 : decode cX8_left 34 = .ok (.ireturn, 1) := by decide +kernel
theorem dX8_left_35 : decode cX8_left 35 = .ok (.aload_n 0, 1) := by decide +kernel
theorem dX8_left_36 : decode cX8_left 36 = .ok (.getfield 66, 3) := by decide +kernel
theorem dX8_left_39 : decode cX8_left 39 = .ok (.aload_n 0, 1) := by decide +kernel
theorem dX8_left_40 : decode cX8_left 40 = .ok (.getfield 72, 3) := by decide +kernel
theorem dX8_left_43 : decode cX8_left 43 = .ok (.iload_n 1, 1) := by decide +kernel
theorem dX8_left_44 : decode cX8_left 44 = .ok (.invokestatic 100, 3) := by decide +kernel
theorem dX8_left_47 : decode cX8_left 47 = .ok (.aload_n 0, 1) := by decide +kernel
theorem dX8_left_48 : decode cX8_left 48 = .ok (.getfield 69, 3) := by decide +kernel
theorem dX8_left_51 : decode cX8_left 51 = .ok (.aload_n 0, 1) := by decide +kernel
theorem dX8_left_52 : decode cX8_left 52 = .ok (.getfield 72, 3) := by decide +kernel
theorem dX8_left_55 : decode cX8_left 55 = .ok (.iload_n 2, 1) := by decide +kernel
theorem dX8_left_56 : decode cX8_left 56 = .ok (.invokestatic 100, 3) := by decide +kernel
theorem dX8_left_59 : decode cX8_left 59 = .ok (.aload_n 0, 1) := by decide +kernel
theorem dX8_left_60 : decode cX8_left 60 = .ok (.dup, 1) := by decide +kernel
theorem dX8_left_61 : decode cX8_left 61 = .ok (.getfield 72, 3) := by decide +kernel
theorem dX8_left_64 : decode cX8_left 64 = .ok (.iconst 1, 1) := by decide +kernel
theorem dX8_left_65 : decode cX8_left 65 = .ok (.iadd, 1) := by decide +kernel
theorem dX8_left_66 : decode cX8_left 66 = .ok (.putfield 72, 3) := by decide +kernel
theorem dX8_left_69 : decode cX8_left 69 = .ok (.aload_n 0, 1) := by decide +kernel
theorem dX8_left_70 : decode cX8_left 70 = .ok (.getfield 72, 3) := by decide +kernel
theorem dX8_left_73 : decode cX8_left 73 = .ok (.ireturn, 1) := by decide +kernel
theorem dX8_forget_0 : decode cX8_forget 0 = .ok (.aload_n 0, 1) := by decide +kernel
theorem dX8_forget_1 : decode cX8_forget 1 = .ok (.getfield 72, 3) := by decide +kernel
theorem dX8_forget_4 : decode cX8_forget 4 = .ok (.istore_n 1, 1) := by decide +kernel
theorem dX8_forget_5 : decode cX8_forget 5 = .ok (.aload_n 0, 1) := by decide +kernel
theorem dX8_forget_6 : decode cX8_forget 6 = .ok (.iconst 0, 1) := by decide +kernel
theorem dX8_forget_7 : decode cX8_forget 7 = .ok (.putfield 72, 3) := by decide +kernel
theorem dX8_forget_10 : decode cX8_forget 10 = .ok (.iload_n 1, 1) := by decide +kernel
theorem dX8_forget_11 : decode cX8_forget 11 = .ok (.ireturn, 1) := by decide +kernel
set_option maxRecDepth 20000 in
theorem ggX8_took_X8_findWay : GoodIn wsX8_took wsX8_findWay := goodIn_r _ [9, 10, 1, 11, 12, 13, 14, 15, 16, 17, 18, 19, 20, 21, 22, 23, 24, 25, 26, 27, 28, 29, 30, 31, 32, 33, 34, 35, 36, 37, 38, 39, 40, 41, 42, 43, 44, 45, 46, 47, 48, 49, 50, 51, 52, 53, 54, 55, 56, 57, 58, 59, 60, 61, 62, 63, 64, 65, 66, 67, 68, 69, 70, 71, 72, 73, 74, 75, 76, 77, 78, 79, 80, 81, 82, 83, 84, 85, 86, 87, 88, 89, 90, 91, 92, 93, 94, 95, 96, 97, 98, 99, 100, 101, 102, 103, 104, 105, 119, 120, 121, 122, 123, 124, 125, 126, 127, 128, 129, 130, 131, 132, 133, 134, 135, 136, 137, 138, 139, 145, 146, 147, 148, 149, 150, 151, 152, 153, 154, 155, 156, 157, 158, 140, 141, 142, 143, 144] (by decide +kernel) (by decide +kernel)
set_option maxRecDepth 20000 in
theorem gX8_took_X8_findWay : GoodIn wsX8_took (wsV RX8 191 RX8 yX8_findWay wsX8_findWay) := goodIn_app (goodIn_of _ (by decide +kernel)) ggX8_took_X8_findWay
set_option maxRecDepth 20000 in
theorem ggX8_took_X8_allLeftIfTook : GoodIn wsX8_took wsX8_allLeftIfTook := goodIn_r _ [109, 110, 1, 2, 111, 3, 4, 112, 10, 113, 114, 44, 28, 45, 115, 116, 117, 14, 118, 17, 105, 43, 119, 120, 121, 122, 123, 124, 125, 126, 127, 128, 129, 130, 131, 132, 133, 134, 135, 136, 137, 138, 139, 140, 141, 142, 143, 144, 145, 146, 147, 148, 149, 150, 151, 152, 153, 154, 155, 156, 157, 158] (by decide +kernel) (by decide +kernel)
set_option maxRecDepth 20000 in
theorem gX8_took_X8_allLeftIfTook : GoodIn wsX8_took (wsV RX8 223 RX8 yX8_allLeftIfTook wsX8_allLeftIfTook) := goodIn_app (goodIn_of _ (by decide +kernel)) ggX8_took_X8_allLeftIfTook
theorem dX8_took_0 : decode cX8_took 0 = .ok (.aload_n 0, 1) := by decide +kernel
theorem dX8_took_1 : decode cX8_took 1 = .ok (.invokevirtual 191, 3) := by decide +kernel
theorem dX8_took_4 : decode cX8_took 4 = .ok (.iconst 0, 1) := by decide +kernel
theorem dX8_took_5 : decode cX8_took 5 = .ok (.istore_n 1, 1) := by decide +kernel
theorem dX8_took_6 : decode cX8_took 6 = .ok (.aload_n 0, 1) := by decide +kernel
theorem dX8_took_7 : decode cX8_took 7 = .ok (.getfield 38, 3) := by decide +kernel
theorem dX8_took_10 : decode cX8_took 10 = .ok (.getfield 127, 3) := by decide +kernel
theorem dX8_took_13 : decode cX8_took 13 = .ok (.istore_n 2, 1) := by decide +kernel
theorem dX8_took_14 : decode cX8_took 14 = .ok (.iload_n 2, 1) := by decide +kernel
theorem dX8_took_15 : decode cX8_took 15 = .ok (.aload_n 0, 1) := by decide +kernel
theorem dX8_took_16 : decode cX8_took 16 = .ok (.getfield 32, 3) := by decide +kernel
theorem dX8_took_19 : decode cX8_took 19 = .ok (.getfield 188, 3) := by decide +kernel
theorem dX8_took_22 : decode cX8_took 22 = .ok (.if_icmp .ge 23, 3) := by decide +kernel
theorem dX8_took_25 : decode cX8_took 25 = .ok (.aload_n 0, 1) := by decide +kernel
theorem dX8_took_26 : decode cX8_took 26 = .ok (.iload_n 2, 1) := by decide +kernel
theorem dX8_took_27 : decode cX8_took 27 = .ok (.invokevirtual 223, 3) := by decide +kernel
theorem dX8_took_30 : decode cX8_took 30 = .ok (.ifCond .eq 9, 3) := by decide +kernel
theorem dX8_took_33 : decode cX8_took 33 = .ok (.iload_n 1, 1) := by decide +kernel
theorem dX8_took_34 : decode cX8_took 34 = .ok (.iconst 1, 1) := by decide +kernel
theorem dX8_took_35 : decode cX8_took 35 = .ok (.iload_n 2, 1) := by decide +kernel
theorem dX8_took_36 : decode cX8_took 36 = .ok (.ishl, 1) := by decide +kernel
theorem dX8_took_37 : decode cX8_took 37 = .ok (.ior, 1) := by decide +kernel
theorem dX8_took_38 : decode cX8_took 38 = .ok (.istore_n 1, 1) := by decide +kernel
theorem dX8_took_39 : decode cX8_took 39 = .ok (.iinc 2 1, 3) := by decide +kernel
theorem dX8_took_42 : decode cX8_took 42 = .ok (.goto (-28), 3) := by decide +kernel
theorem dX8_took_45 : decode cX8_took 45 = .ok (.aload_n 0, 1) := by decide +kernel
theorem dX8_took_46 : decode cX8_took 46 = .ok (.bipush 8, 2) := by decide +kernel
theorem dX8_took_48 : decode cX8_took 48 = .ok (.invokevirtual 223, 3) := by decide +kernel
