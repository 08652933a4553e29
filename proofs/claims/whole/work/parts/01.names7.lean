theorem dX9_most_43 : decode cX9_most 43 = .ok (.iand, 1) := by decide +kernel
theorem dX9_most_44 : decode cX9_most 44 = .ok (.iconst 1, 1) := by decide +kernel
theorem dX9_most_45 : decode cX9_most 45 = .ok (.if_icmp .ne 6, 3) := by decide +kernel
theorem dX9_most_48 : decode cX9_most 48 = .ok (.bipush (-9), 2) := by decide +kernel
theorem dX9_most_50 : decode cX9_most 50 = .ok (.ireturn, 1) := by decide +kernel
theorem dX9_most_51 : decode cX9_most 51 = .ok (.aload_n 0, 1) := by decide +kernel
theorem dX9_most_52 : decode cX9_most 52 = .ok (.invokevirtual 163, 3) := by decide +kernel
theorem dX9_most_55 : decode cX9_most 55 = .ok (.iconst 0, 1) := by decide +kernel
theorem dX9_most_56 : decode cX9_most 56 = .ok (.istore_n 3, 1) := by decide +kernel
theorem dX9_most_57 : decode cX9_most 57 = .ok (.iconst (-1), 1) := by decide +kernel
theorem dX9_most_58 : decode cX9_most 58 = .ok (.istore 4, 2) := by decide +kernel
theorem dX9_most_60 : decode cX9_most 60 = .ok (.iconst 0, 1) := by decide +kernel
theorem dX9_most_61 : decode cX9_most 61 = .ok (.istore 5, 2) := by decide +kernel
theorem dX9_most_63 : decode cX9_most 63 = .ok (.iload 5, 2) := by decide +kernel
theorem dX9_most_65 : decode cX9_most 65 = .ok (.bipush 10, 2) := by decide +kernel
theorem dX9_most_67 : decode cX9_most 67 = .ok (.if_icmp .ge 74, 3) := by decide +kernel
theorem dX9_most_70 : decode cX9_most 70 = .ok (.aload_n 0, 1) := by decide +kernel
theorem dX9_most_71 : decode cX9_most 71 = .ok (.getfield 34, 3) := by decide +kernel
theorem dX9_most_74 : decode cX9_most 74 = .ok (.bipush 6, 2) := by decide +kernel
theorem dX9_most_76 : decode cX9_most 76 = .ok (.iload_n 1, 1) := by decide +kernel
theorem dX9_most_77 : decode cX9_most 77 = .ok (.iadd, 1) := by decide +kernel
theorem dX9_most_78 : decode cX9_most 78 = .ok (.iload 5, 2) := by decide +kernel
theorem dX9_most_80 : decode cX9_most 80 = .ok (.iastore, 1) := by decide +kernel
theorem dX9_most_81 : decode cX9_most 81 = .ok (.aload_n 0, 1) := by decide +kernel
theorem dX9_most_82 : decode cX9_most 82 = .ok (.aload_n 0, 1) := by decide +kernel
theorem dX9_most_83 : decode cX9_most 83 = .ok (.getfield 34, 3) := by decide +kernel
theorem dX9_most_86 : decode cX9_most 86 = .ok (.aload_n 0, 1) := by decide +kernel
theorem dX9_most_87 : decode cX9_most 87 = .ok (.getfield 31, 3) := by decide +kernel
theorem dX9_most_90 : decode cX9_most 90 = .ok (.iconst 1, 1) := by decide +kernel
theorem dX9_most_91 : decode cX9_most 91 = .ok (.iaload, 1) := by decide +kernel
theorem dX9_most_92 : decode cX9_most 92 = .ok (.invokevirtual 159, 3) := by decide +kernel
theorem dX9_most_95 : decode cX9_most 95 = .ok (.pop, 1) := by decide +kernel
theorem dX9_most_96 : decode cX9_most 96 = .ok (.aload_n 0, 1) := by decide +kernel
theorem dX9_most_97 : decode cX9_most 97 = .ok (.iload_n 1, 1) := by decide +kernel
theorem dX9_most_98 : decode cX9_most 98 = .ok (.invokevirtual 170, 3) := by decide +kernel
theorem dX9_most_101 : decode cX9_most 101 = .ok (.iload 4, 2) := by decide +kernel
theorem dX9_most_103 : decode cX9_most 103 = .ok (.if_icmp .le 8, 3) := by decide +kernel
theorem dX9_most_106 : decode cX9_most 106 = .ok (.iload 5, 2) := by decide +kernel
theorem dX9_most_108 : decode cX9_most 108 = .ok (.goto 4, 3) := by decide +kernel
theorem dX9_most_111 : decode cX9_most 111 = .ok (.iload_n 3, 1) := by decide +kernel
theorem dX9_most_112 : decode cX9_most 112 = .ok (.istore_n 3, 1) := by decide +kernel
theorem dX9_most_113 : decode cX9_most 113 = .ok (.aload_n 0, 1) := by decide +kernel
theorem dX9_most_114 : decode cX9_most 114 = .ok (.iload_n 1, 1) := by decide +kernel
theorem dX9_most_115 : decode cX9_most 115 = .ok (.invokevirtual 170, 3) := by decide +kernel
theorem dX9_most_118 : decode cX9_most 118 = .ok (.iload 4, 2) := by decide +kernel
theorem dX9_most_120 : decode cX9_most 120 = .ok (.if_icmp .le 11, 3) := by decide +kernel
theorem dX9_most_123 : decode cX9_most 123 = .ok (.aload_n 0, 1) := by decide +kernel
theorem dX9_most_124 : decode cX9_most 124 = .ok (.iload_n 1, 1) := by decide +kernel
theorem dX9_most_125 : decode cX9_most 125 = .ok (.invokevirtual 170, 3) := by decide +kernel
theorem dX9_most_128 : decode cX9_most 128 = .ok (.goto 5, 3) := by decide +kernel
theorem dX9_most_131 : decode cX9_most 131 = .ok (.iload 4, 2) := by decide +kernel
theorem dX9_most_133 : decode cX9_most 133 = .ok (.istore 4, 2) := by decide +kernel
theorem dX9_most_135 : decode cX9_most 135 = .ok (.iinc 5 1, 3) := by decide +kernel
theorem dX9_most_138 : decode cX9_most 138 = .ok (.goto (-75), 3) := by decide +kernel
theorem dX9_most_141 : decode cX9_most 141 = .ok (.iload_n 2, 1) := by decide +kernel
theorem dX9_most_142 : decode cX9_most 142 = .ok (.ifCond .ne 7, 3) := by decide +kernel
theorem dX9_most_145 : decode cX9_most 145 = .ok (.iload_n 3, 1) := by decide +kernel
theorem dX9_most_146 : decode cX9_most 146 = .ok (.goto 5, 3) := by decide +kernel
theorem dX9_most_149 : decode cX9_most 149 = .ok (.iload 4, 2) := by decide +kernel
theorem dX9_most_151 : decode cX9_most 151 = .ok (.ireturn, 1) := by decide +kernel
set_option maxRecDepth 20000 in
theorem ggX9_still_X9_asNow : GoodIn wsX9_still wsX9_asNow := goodIn_r _ [9, 4, 2, 40, 41, 42, 43, 44, 45, 46, 47, 48, 49, 50, 51, 52, 53, 54, 55, 56, 57, 58, 59, 60, 61, 62, 63, 64, 65, 66, 67] (by decide +kernel) (by decide +kernel)
set_option maxRecDepth 20000 in
theorem gX9_still_X9_asNow : GoodIn wsX9_still (wsV RX9 163 RX9 yX9_asNow wsX9_asNow) := goodIn_app (goodIn_of _ (by decide +kernel)) ggX9_still_X9_asNow
set_option maxRecDepth 20000 in
theorem ggX9_still_X9_finds : GoodIn wsX9_still wsX9_finds := goodIn_r _ [13, 14, 3, 15, 16, 17, 18, 19, 20, 21, 8, 22, 23, 24, 25, 26, 27, 28, 29, 30, 31, 32, 33, 34, 35, 40, 41, 42, 43, 44, 45, 46, 47, 48, 49, 50, 51, 52, 53, 54, 55, 56, 57, 58, 59, 60, 61, 62, 63, 64, 65, 66, 67] (by decide +kernel) (by decide +kernel)
set_option maxRecDepth 20000 in
theorem gX9_still_X9_finds : GoodIn wsX9_still (wsV RX9 159 RX9 yX9_finds wsX9_finds) := goodIn_app (goodIn_of _ (by decide +kernel)) ggX9_still_X9_finds
set_option maxRecDepth 20000 in
theorem ggX9_still_X9_paidAt : GoodIn wsX9_still wsX9_paidAt := goodIn_r _ [39, 16, 17, 40, 41, 42, 43, 44, 45, 46, 47, 48, 49, 50, 51, 52, 53, 54, 55, 56, 57, 58, 59, 60, 61, 62, 63, 64, 65, 66, 67] (by decide +kernel) (by decide +kernel)
set_option maxRecDepth 20000 in
theorem gX9_still_X9_paidAt : GoodIn wsX9_still (wsV RX9 170 RX9 yX9_paidAt wsX9_paidAt) := goodIn_app (goodIn_of _ (by decide +kernel)) ggX9_still_X9_paidAt
theorem dX9_still_0 : decode cX9_still 0 = .ok (.aload_n 0, 1) := by decide +kernel
theorem dX9_still_1 : decode cX9_still 1 = .ok (.iconst 0, 1) := by decide +kernel
theorem dX9_still_2 : decode cX9_still 2 = .ok (.putfield 62, 3) := by decide +kernel
theorem dX9_still_5 : decode cX9_still 5 = .ok (.iconst 0, 1) := by decide +kernel
theorem dX9_still_6 : decode cX9_still 6 = .ok (.istore_n 1, 1) := by decide +kernel
theorem dX9_still_7 : decode cX9_still 7 = .ok (.aload_n 0, 1) := by decide +kernel
theorem dX9_still_8 : decode cX9_still 8 = .ok (.getfield 31, 3) := by decide +kernel
theorem dX9_still_11 : decode cX9_still 11 = .ok (.iconst 0, 1) := by decide +kernel
theorem dX9_still_12 : decode cX9_still 12 = .ok (.iaload, 1) := by decide +kernel
theorem dX9_still_13 : decode cX9_still 13 = .ok (.istore_n 2, 1) := by decide +kernel
theorem dX9_still_14 : decode cX9_still 14 = .ok (.iload_n 2, 1) := by decide +kernel
theorem dX9_still_15 : decode cX9_still 15 = .ok (.aload_n 0, 1) := by decide +kernel
theorem dX9_still_16 : decode cX9_still 16 = .ok (.getfield 13, 3) := by decide +kernel
theorem dX9_still_19 : decode cX9_still 19 = .ok (.iconst 0, 1) := by decide +kernel
theorem dX9_still_20 : decode cX9_still 20 = .ok (.iaload, 1) := by decide +kernel
theorem dX9_still_21 : decode cX9_still 21 = .ok (.if_icmp .ge 92, 3) := by decide +kernel
theorem dX9_still_24 : decode cX9_still 24 = .ok (.aload_n 0, 1) := by decide +kernel
theorem dX9_still_25 : decode cX9_still 25 = .ok (.invokevirtual 163, 3) := by decide +kernel
theorem dX9_still_28 : decode cX9_still 28 = .ok (.aload_n 0, 1) := by decide +kernel
theorem dX9_still_29 : decode cX9_still 29 = .ok (.aload_n 0, 1) := by decide +kernel
theorem dX9_still_30 : decode cX9_still 30 = .ok (.getfield 34, 3) := by decide +kernel
theorem dX9_still_33 : decode cX9_still 33 = .ok (.aload_n 0, 1) := by decide +kernel
theorem dX9_still_34 : decode cX9_still 34 = .ok (.getfield 31, 3) := by decide +kernel
theorem dX9_still_37 : decode cX9_still 37 = .ok (.iconst 1, 1) := by decide +kernel
theorem dX9_still_38 : decode cX9_still 38 = .ok (.iaload, 1) := by decide +kernel
theorem dX9_still_39 : decode cX9_still 39 = .ok (.invokevirtual 159, 3) := by decide +kernel
theorem dX9_still_42 : decode cX9_still 42 = .ok (.pop, 1) := by decide +kernel
theorem dX9_still_43 : decode cX9_still 43 = .ok (.aload_n 0, 1) := by decide +kernel
theorem dX9_still_44 : decode cX9_still 44 = .ok (.iload_n 2, 1) := by decide +kernel
theorem dX9_still_45 : decode cX9_still 45 = .ok (.invokevirtual 170, 3) := by decide +kernel
theorem dX9_still_48 : decode cX9_still 48 = .ok (.ifCond .le 7, 3) := by decide +kernel
theorem dX9_still_51 : decode cX9_still 51 = .ok (.iconst 1, 1) := by decide +kernel
theorem dX9_still_52 : decode cX9_still 52 = .ok (.goto 4, 3) := by decide +kernel
theorem dX9_still_55 : decode cX9_still 55 = .ok (.iconst 0, 1) := by decide +kernel
theorem dX9_still_56 : decode cX9_still 56 = .ok (.istore_n 3, 1) := by decide +kernel
theorem dX9_still_57 : decode cX9_still 57 = .ok (.aload_n 0, 1) := by decide +kernel
theorem dX9_still_58 : decode cX9_still 58 = .ok (.getfield 34, 3) := by decide +kernel
theorem dX9_still_61 : decode cX9_still 61 = .ok (.bipush 6, 2) := by decide +kernel
theorem dX9_still_63 : decode cX9_still 63 = .ok (.iload_n 2, 1) := by decide +kernel
theorem dX9_still_64 : decode cX9_still 64 = .ok (.iadd, 1) := by decide +kernel
theorem dX9_still_65 : decode cX9_still 65 = .ok (.dup2, 1) := by decide +kernel
theorem dX9_still_66 : decode cX9_still 66 = .ok (.iaload, 1) := by decide +kernel
theorem dX9_still_67 : decode cX9_still 67 = .ok (.iconst 1, 1) := by decide +kernel
theorem dX9_still_68 : decode cX9_still 68 = .ok (.iadd, 1) := by decide +kernel
theorem dX9_still_69 : decode cX9_still 69 = .ok (.iastore, 1) := by decide +kernel
theorem dX9_still_70 : decode cX9_still 70 = .ok (.aload_n 0, 1) := by decide +kernel
theorem dX9_still_71 : decode cX9_still 71 = .ok (.aload_n 0, 1) := by decide +kernel
theorem dX9_still_72 : decode cX9_still 72 = .ok (.getfield 34, 3) := by decide +kernel
theorem dX9_still_75 : decode cX9_still 75 = .ok (.aload_n 0, 1) := by decide +kernel
theorem dX9_still_76 : decode cX9_still 76 = .ok (.getfield 31, 3) := by decide +kernel
theorem dX9_still_79 : decode cX9_still 79 = .ok (.iconst 1, 1) := by decide +kernel
theorem dX9_still_80 : decode cX9_still 80 = .ok (.iaload, 1) := by decide +kernel
theorem dX9_still_81 : decode cX9_still 81 = .ok (.invokevirtual 159, 3) := by decide +kernel
theorem dX9_still_84 : decode cX9_still 84 = .ok (.pop, 1) := by decide +kernel
theorem dX9_still_85 : decode cX9_still 85 = .ok (.iload_n 1, 1) := by decide +kernel
theorem dX9_still_86 : decode cX9_still 86 = .ok (.iload_n 3, 1) := by decide +kernel
theorem dX9_still_87 : decode cX9_still 87 = .ok (.ifCond .eq 17, 3) := by decide +kernel
theorem dX9_still_90 : decode cX9_still 90 = .ok (.aload_n 0, 1) := by decide +kernel
theorem dX9_still_91 : decode cX9_still 91 = .ok (.iload_n 2, 1) := by decide +kernel
theorem dX9_still_92 : decode cX9_still 92 = .ok (.invokevirtual 170, 3) := by decide +kernel
theorem dX9_still_95 : decode cX9_still 95 = .ok (.ifCond .le 9, 3) := by decide +kernel
theorem dX9_still_98 : decode cX9_still 98 = .ok (.iconst 1, 1) := by decide +kernel
theorem dX9_still_99 : decode cX9_still 99 = .ok (.iload_n 2, 1) := by decide +kernel
theorem dX9_still_100 : decode cX9_still 100 = .ok (.ishl, 1) := by decide +kernel
theorem dX9_still_101 : decode cX9_still 101 = .ok (.goto 4, 3) := by decide +kernel
theorem dX9_still_104 : decode cX9_still 104 = .ok (.iconst 0, 1) := by decide +kernel
theorem dX9_still_105 : decode cX9_still 105 = .ok (.ior, 1) := by decide +kernel
theorem dX9_still_106 : decode cX9_still 106 = .ok (.istore_n 1, 1) := by decide +kernel
theorem dX9_still_107 : decode cX9_still 107 = .ok (.iinc 2 1, 3) := by decide +kernel
theorem dX9_still_110 : decode cX9_still 110 = .ok (.goto (-96), 3) := by decide +kernel
theorem dX9_still_113 : decode cX9_still 113 = .ok (.iload_n 1, 1) := by decide +kernel
theorem dX9_still_114 : decode cX9_still 114 = .ok (.ireturn, 1) := by decide +kernel
theorem dX9_gcd_0 : decode cX9_gcd 0 = .ok (.iload_n 0, 1) := by decide +kernel
theorem dX9_gcd_1 : decode cX9_gcd 1 = .ok (.istore_n 2, 1) := by decide +kernel
theorem dX9_gcd_2 : decode cX9_gcd 2 = .ok (.iload_n 1, 1) := by decide +kernel
theorem dX9_gcd_3 : decode cX9_gcd 3 = .ok (.istore_n 3, 1) := by decide +kernel
theorem dX9_gcd_4 : decode cX9_gcd 4 = .ok (.iload_n 3, 1) := by decide +kernel
theorem dX9_gcd_5 : decode cX9_gcd 5 = .ok (.ifCond .eq 16, 3) := by decide +kernel
theorem dX9_gcd_8 : decode cX9_gcd 8 = .ok (.iload_n 2, 1) := by decide +kernel
theorem dX9_gcd_9 : decode cX9_gcd 9 = .ok (.iload_n 3, 1) := by decide +kernel
theorem dX9_gcd_10 : decode cX9_gcd 10 = .ok (.irem, 1) := by decide +kernel
theorem dX9_gcd_11 : decode cX9_gcd 11 = .ok (.istore 4, 2) := by decide +kernel
theorem dX9_gcd_13 : decode cX9_gcd 13 = .ok (.iload_n 3, 1) := by decide +kernel
theorem dX9_gcd_14 : decode cX9_gcd 14 = .ok (.istore_n 2, 1) := by decide +kernel
theorem dX9_gcd_15 : decode cX9_gcd 15 = .ok (.iload 4, 2) := by decide +kernel
theorem dX9_gcd_17 : decode cX9_gcd 17 = .ok (.istore_n 3, 1) := by decide +kernel
theorem dX9_gcd_18 : decode cX9_gcd 18 = .ok (.goto (-14), 3) := by decide +kernel
theorem dX9_gcd_21 : decode cX9_gcd 21 = .ok (.iload_n 2, 1) := by decide +kernel
theorem dX9_gcd_22 : decode cX9_gcd 22 = .ok (.ireturn, 1) := by decide +kernel
set_option maxRecDepth 20000 in
theorem ggX9_cheap_X9_isRock : GoodIn wsX9_cheap wsX9_isRock := goodIn_r _ [7, 8, 9, 10, 6, 11, 20, 21, 22, 23, 24, 25, 26, 27, 28, 29, 30, 31, 32, 33, 34, 35, 36, 37, 38, 39, 40, 41, 42, 43, 44, 45, 46, 47] (by decide +kernel) (by decide +kernel)
set_option maxRecDepth 20000 in
theorem gX9_cheap_X9_isRock : GoodIn wsX9_cheap (wsV RX9 127 RX9 yX9_isRock wsX9_isRock) := goodIn_app (goodIn_of _ (by decide +kernel)) ggX9_cheap_X9_isRock
set_option maxRecDepth 20000 in
theorem ggX9_cheap_X9_in : GoodIn wsX9_cheap wsX9_in := goodIn_r _ [11] (by decide +kernel) (by decide +kernel)
set_option maxRecDepth 20000 in
theorem gX9_cheap_X9_in : GoodIn wsX9_cheap (va_wsS RX9 66 yX9_in wsX9_in) := goodIn_app (goodIn_of _ (by decide +kernel)) ggX9_cheap_X9_in
set_option maxRecDepth 20000 in
theorem ggX9_cheap_X9_tollOf : GoodIn wsX9_cheap wsX9_tollOf := goodIn_r _ [15, 16, 20, 21, 22, 23, 24, 25, 26, 27, 28, 29, 30, 31, 32, 33, 34, 35, 36, 37, 38, 39, 40, 41, 42, 43, 44, 45, 46, 47] (by decide +kernel) (by decide +kernel)
set_option maxRecDepth 20000 in
theorem gX9_cheap_X9_tollOf : GoodIn wsX9_cheap (wsV RX9 123 RX9 yX9_tollOf wsX9_tollOf) := goodIn_app (goodIn_of _ (by decide +kernel)) ggX9_cheap_X9_tollOf
set_option maxRecDepth 20000 in
theorem ggX9_cheap_X9_gcd : GoodIn wsX9_cheap wsX9_gcd := goodIn_r _ [19] (by decide +kernel) (by decide +kernel)
set_option maxRecDepth 20000 in
theorem gX9_cheap_X9_gcd : GoodIn wsX9_cheap (va_wsS RX9 173 yX9_gcd wsX9_gcd) := goodIn_app (goodIn_of _ (by decide +kernel)) ggX9_cheap_X9_gcd
theorem dX9_cheap_0 : decode cX9_cheap 0 = .ok (.aload_n 0, 1) := by decide +kernel
theorem dX9_cheap_1 : decode cX9_cheap 1 = .ok (.iconst 0, 1) := by decide +kernel
theorem dX9_cheap_2 : decode cX9_cheap 2 = .ok (.putfield 62, 3) := by decide +kernel
theorem dX9_cheap_5 : decode cX9_cheap 5 = .ok (.aload_n 0, 1) := by decide +kernel
theorem dX9_cheap_6 : decode cX9_cheap 6 = .ok (.iload_n 1, 1) := by decide +kernel
theorem dX9_cheap_7 : decode cX9_cheap 7 = .ok (.invokevirtual 127, 3) := by decide +kernel
theorem dX9_cheap_10 : decode cX9_cheap 10 = .ok (.ifCond .eq 12, 3) := by decide +kernel
theorem dX9_cheap_13 : decode cX9_cheap 13 = .ok (.iload_n 2, 1) := by decide +kernel
theorem dX9_cheap_14 : decode cX9_cheap 14 = .ok (.iconst 0, 1) := by decide +kernel
theorem dX9_cheap_15 : decode cX9_cheap 15 = .ok (.iconst 2, 1) := by decide +kernel
theorem dX9_cheap_16 : decode cX9_cheap 16 = .ok (.invokestatic 66, 3) := by decide +kernel
theorem dX9_cheap_19 : decode cX9_cheap 19 = .ok (.ifCond .ne 5, 3) := by decide +kernel
theorem dX9_cheap_22 : decode cX9_cheap 22 = .ok (.iconst (-1), 1) := by decide +kernel
theorem dX9_cheap_23 : decode cX9_cheap 23 = .ok (.ireturn, 1) := by decide +kernel
theorem dX9_cheap_24 : decode cX9_cheap 24 = .ok (.iconst 1, 1) := by decide +kernel
theorem dX9_cheap_25 : decode cX9_cheap 25 = .ok (.istore_n 3, 1) := by decide +kernel
theorem dX9_cheap_26 : decode cX9_cheap 26 = .ok (.iconst 2, 1) := by decide +kernel
theorem dX9_cheap_27 : decode cX9_cheap 27 = .ok (.istore 4, 2) := by decide +kernel
theorem dX9_cheap_29 : decode cX9_cheap 29 = .ok (.iload 4, 2) := by decide +kernel
theorem dX9_cheap_31 : decode cX9_cheap 31 = .ok (.bipush 30, 2) := by decide +kernel
theorem dX9_cheap_33 : decode cX9_cheap 33 = .ok (.if_icmp .gt 45, 3) := by decide +kernel
theorem dX9_cheap_36 : decode cX9_cheap 36 = .ok (.aload_n 0, 1) := by decide +kernel
theorem dX9_cheap_37 : decode cX9_cheap 37 = .ok (.aload_n 0, 1) := by decide +kernel
theorem dX9_cheap_38 : decode cX9_cheap 38 = .ok (.getfield 31, 3) := by decide +kernel
theorem dX9_cheap_41 : decode cX9_cheap 41 = .ok (.iload_n 1, 1) := by decide +kernel
theorem dX9_cheap_42 : decode cX9_cheap 42 = .ok (.iload 4, 2) := by decide +kernel
theorem dX9_cheap_44 : decode cX9_cheap 44 = .ok (.invokevirtual 123, 3) := by decide +kernel
theorem dX9_cheap_47 : decode cX9_cheap 47 = .ok (.iload_n 3, 1) := by decide +kernel
theorem dX9_cheap_48 : decode cX9_cheap 48 = .ok (.imul, 1) := by decide +kernel
theorem dX9_cheap_49 : decode cX9_cheap 49 = .ok (.aload_n 0, 1) := by decide +kernel
theorem dX9_cheap_50 : decode cX9_cheap 50 = .ok (.aload_n 0, 1) := by decide +kernel
theorem dX9_cheap_51 : decode cX9_cheap 51 = .ok (.getfield 31, 3) := by decide +kernel
theorem dX9_cheap_54 : decode cX9_cheap 54 = .ok (.iload_n 1, 1) := by decide +kernel
theorem dX9_cheap_55 : decode cX9_cheap 55 = .ok (.iload_n 3, 1) := by decide +kernel
theorem dX9_cheap_56 : decode cX9_cheap 56 = .ok (.invokevirtual 123, 3) := by decide +kernel
theorem dX9_cheap_59 : decode cX9_cheap 59 = .ok (.iload 4, 2) := by decide +kernel
theorem dX9_cheap_61 : decode cX9_cheap 61 = .ok (.imul, 1) := by decide +kernel
theorem dX9_cheap_62 : decode cX9_cheap 62 = .ok (.if_icmp .ge 8, 3) := by decide +kernel
theorem dX9_cheap_65 : decode cX9_cheap 65 = .ok (.iload 4, 2) := by decide +kernel
theorem dX9_cheap_67 : decode cX9_cheap 67 = .ok (.goto 4, 3) := by decide +kernel
theorem dX9_cheap_70 : decode cX9_cheap 70 = .ok (.iload_n 3, 1) := by decide +kernel
theorem dX9_cheap_71 : decode cX9_cheap 71 = .ok (.istore_n 3, 1) := by decide +kernel
theorem dX9_cheap_72 : decode cX9_cheap 72 = .ok (.iinc 4 1, 3) := by decide +kernel
theorem dX9_cheap_75 : decode cX9_cheap 75 = .ok (.goto (-46), 3) := by decide +kernel
theorem dX9_cheap_78 : decode cX9_cheap 78 = .ok (.aload_n 0, 1) := by decide +kernel
theorem dX9_cheap_79 : decode cX9_cheap 79 = .ok (.aload_n 0, 1) := by decide +kernel
theorem dX9_cheap_80 : decode cX9_cheap 80 = .ok (.getfield 31, 3) := by decide +kernel
theorem dX9_cheap_83 : decode cX9_cheap 83 = .ok (.iload_n 1, 1) := by decide +kernel
theorem dX9_cheap_84 : decode cX9_cheap 84 = .ok (.iload_n 3, 1) := by decide +kernel
theorem dX9_cheap_85 : decode cX9_cheap 85 = .ok (.invokevirtual 123, 3) := by decide +kernel
theorem dX9_cheap_88 : decode cX9_cheap 88 = .ok (.iload_n 3, 1) := by decide +kernel
theorem dX9_cheap_89 : decode cX9_cheap 89 = .ok (.invokestatic 173, 3) := by decide +kernel
theorem dX9_cheap_92 : decode cX9_cheap 92 = .ok (.istore 4, 2) := by decide +kernel
theorem dX9_cheap_94 : decode cX9_cheap 94 = .ok (.iload_n 2, 1) := by decide +kernel
theorem dX9_cheap_95 : decode cX9_cheap 95 = .ok (.ifCond .ne 7, 3) := by decide +kernel
theorem dX9_cheap_98 : decode cX9_cheap 98 = .ok (.iload_n 3, 1) := by decide +kernel
theorem dX9_cheap_99 : decode cX9_cheap 99 = .ok (.goto 28, 3) := by decide +kernel
theorem dX9_cheap_102 : decode cX9_cheap 102 = .ok (.iload_n 2, 1) := by decide +kernel
theorem dX9_cheap_103 : decode cX9_cheap 103 = .ok (.iconst 1, 1) := by decide +kernel
theorem dX9_cheap_104 : decode cX9_cheap 104 = .ok (.if_icmp .ne 19, 3) := by decide +kernel
theorem dX9_cheap_107 : decode cX9_cheap 107 = .ok (.aload_n 0, 1) := by decide +kernel
theorem dX9_cheap_108 : decode cX9_cheap 108 = .ok (.aload_n 0, 1) := by decide +kernel
theorem dX9_cheap_109 : decode cX9_cheap 109 = .ok (.getfield 31, 3) := by decide +kernel
theorem dX9_cheap_112 : decode cX9_cheap 112 = .ok (.iload_n 1, 1) := by decide +kernel
theorem dX9_cheap_113 : decode cX9_cheap 113 = .ok (.iload_n 3, 1) := by decide +kernel
theorem dX9_cheap_114 : decode cX9_cheap 114 = .ok (.invokevirtual 123, 3) := by decide +kernel
theorem dX9_cheap_117 : decode cX9_cheap 117 = .ok (.iload 4, 2) := by decide +kernel
theorem dX9_cheap_119 : decode cX9_cheap 119 = .ok (.idiv, 1) := by decide +kernel
theorem dX9_cheap_120 : decode cX9_cheap 120 = .ok (.goto 7, 3) := by decide +kernel
theorem dX9_cheap_123 : decode cX9_cheap 123 = .ok (.iload_n 3, 1) := by decide +kernel
theorem dX9_cheap_124 : decode cX9_cheap 124 = .ok (.iload 4, 2) := by decide +kernel
theorem dX9_cheap_126 : decode cX9_cheap 126 = .ok (.idiv, 1) := by decide +kernel
theorem dX9_cheap_127 : decode cX9_cheap 127 = .ok (.ireturn, 1) := by decide +kernel
set_option maxRecDepth 20000 in
theorem ggX9_two_X9_in : GoodIn wsX9_two wsX9_in := goodIn_r _ [6] (by decide +kernel) (by decide +kernel)
set_option maxRecDepth 20000 in
theorem gX9_two_X9_in : GoodIn wsX9_two (va_wsS RX9 66 yX9_in wsX9_in) := goodIn_app (goodIn_of _ (by decide +kernel)) ggX9_two_X9_in
set_option maxRecDepth 20000 in
theorem ggX9_two_X9_finds : GoodIn wsX9_two wsX9_finds := goodIn_r _ [10, 11, 12, 13, 14, 15, 16, 17, 18, 19, 5, 20, 21, 22, 23, 24, 25, 26, 27, 28, 29, 30, 31, 32, 33, 34, 35, 36, 37, 38, 39, 40, 41, 42, 43, 44, 45, 46, 47, 48, 49, 50, 51, 52, 53, 54, 55, 56, 57, 58, 59, 60, 61] (by decide +kernel) (by decide +kernel)
set_option maxRecDepth 20000 in
theorem gX9_two_X9_finds : GoodIn wsX9_two (wsV RX9 159 RX9 yX9_finds wsX9_finds) := goodIn_app (goodIn_of _ (by decide +kernel)) ggX9_two_X9_finds
theorem dX9_two_0 : decode cX9_two 0 = .ok (.aload_n 0, 1) := by decide +kernel
theorem dX9_two_1 : decode cX9_two 1 = .ok (.iconst 0, 1) := by decide +kernel
theorem dX9_two_2 : decode cX9_two 2 = .ok (.putfield 62, 3) := by decide +kernel
theorem dX9_two_5 : decode cX9_two 5 = .ok (.iload_n 1, 1) := by decide +kernel
theorem dX9_two_6 : decode cX9_two 6 = .ok (.iconst 0, 1) := by decide +kernel
theorem dX9_two_7 : decode cX9_two 7 = .ok (.iconst 1, 1) := by decide +kernel
theorem dX9_two_8 : decode cX9_two 8 = .ok (.invokestatic 66, 3) := by decide +kernel
theorem dX9_two_11 : decode cX9_two 11 = .ok (.ifCond .ne 5, 3) := by decide +kernel
theorem dX9_two_14 : decode cX9_two 14 = .ok (.iconst (-1), 1) := by decide +kernel
theorem dX9_two_15 : decode cX9_two 15 = .ok (.ireturn, 1) := by decide +kernel
theorem dX9_two_16 : decode cX9_two 16 = .ok (.bipush (-9), 2) := by decide +kernel
theorem dX9_two_18 : decode cX9_two 18 = .ok (.istore_n 2, 1) := by decide +kernel
theorem dX9_two_19 : decode cX9_two 19 = .ok (.bipush (-9), 2) := by decide +kernel
theorem dX9_two_21 : decode cX9_two 21 = .ok (.istore_n 3, 1) := by decide +kernel
theorem dX9_two_22 : decode cX9_two 22 = .ok (.iconst 1, 1) := by decide +kernel
theorem dX9_two_23 : decode cX9_two 23 = .ok (.istore 4, 2) := by decide +kernel
theorem dX9_two_25 : decode cX9_two 25 = .ok (.iload 4, 2) := by decide +kernel
theorem dX9_two_27 : decode cX9_two 27 = .ok (.aload_n 0, 1) := by decide +kernel
theorem dX9_two_28 : decode cX9_two 28 = .ok (.getfield 31, 3) := by decide +kernel
theorem dX9_two_31 : decode cX9_two 31 = .ok (.iconst 1, 1) := by decide +kernel
theorem dX9_two_32 : decode cX9_two 32 = .ok (.iaload, 1) := by decide +kernel
theorem dX9_two_33 : decode cX9_two 33 = .ok (.iconst 2, 1) := by decide +kernel
theorem dX9_two_34 : decode cX9_two 34 = .ok (.idiv, 1) := by decide +kernel
theorem dX9_two_35 : decode cX9_two 35 = .ok (.if_icmp .gt 57, 3) := by decide +kernel
theorem dX9_two_38 : decode cX9_two 38 = .ok (.aload_n 0, 1) := by decide +kernel
theorem dX9_two_39 : decode cX9_two 39 = .ok (.aload_n 0, 1) := by decide +kernel
theorem dX9_two_40 : decode cX9_two 40 = .ok (.getfield 31, 3) := by decide +kernel
theorem dX9_two_43 : decode cX9_two 43 = .ok (.iload 4, 2) := by decide +kernel
theorem dX9_two_45 : decode cX9_two 45 = .ok (.invokevirtual 159, 3) := by decide +kernel
theorem dX9_two_48 : decode cX9_two 48 = .ok (.aload_n 0, 1) := by decide +kernel
theorem dX9_two_49 : decode cX9_two 49 = .ok (.aload_n 0, 1) := by decide +kernel
theorem dX9_two_50 : decode cX9_two 50 = .ok (.getfield 31, 3) := by decide +kernel
theorem dX9_two_53 : decode cX9_two 53 = .ok (.aload_n 0, 1) := by decide +kernel
theorem dX9_two_54 : decode cX9_two 54 = .ok (.getfield 31, 3) := by decide +kernel
theorem dX9_two_57 : decode cX9_two 57 = .ok (.iconst 1, 1) := by decide +kernel
theorem dX9_two_58 : decode cX9_two 58 = .ok (.iaload, 1) := by decide +kernel
theorem dX9_two_59 : decode cX9_two 59 = .ok (.iload 4, 2) := by decide +kernel
theorem dX9_two_61 : decode cX9_two 61 = .ok (.isub, 1) := by decide +kernel
theorem dX9_two_62 : decode cX9_two 62 = .ok (.invokevirtual 159, 3) := by decide +kernel
theorem dX9_two_65 : decode cX9_two 65 = .ok (.iadd, 1) := by decide +kernel
theorem dX9_two_66 : decode cX9_two 66 = .ok (.istore 5, 2) := by decide +kernel
theorem dX9_two_68 : decode cX9_two 68 = .ok (.iload_n 2, 1) := by decide +kernel
theorem dX9_two_69 : decode cX9_two 69 = .ok (.bipush (-9), 2) := by decide +kernel
theorem dX9_two_71 : decode cX9_two 71 = .ok (.if_icmp .eq 9, 3) := by decide +kernel
theorem dX9_two_74 : decode cX9_two 74 = .ok (.iload 5, 2) := by decide +kernel
theorem dX9_two_76 : decode cX9_two 76 = .ok (.iload_n 3, 1) := by decide +kernel
theorem dX9_two_77 : decode cX9_two 77 = .ok (.if_icmp .ge 9, 3) := by decide +kernel
theorem dX9_two_80 : decode cX9_two 80 = .ok (.iload 4, 2) := by decide +kernel
theorem dX9_two_82 : decode cX9_two 82 = .ok (.istore_n 2, 1) := by decide +kernel
theorem dX9_two_83 : decode cX9_two 83 = .ok (.iload 5, 2) := by decide +kernel
theorem dX9_two_85 : decode cX9_two 85 = .ok (.istore_n 3, 1) := by decide +kernel
theorem dX9_two_86 : decode cX9_two 86 = .ok (.iinc 4 1, 3) := by decide +kernel
theorem dX9_two_89 : decode cX9_two 89 = .ok (.goto (-64), 3) := by decide +kernel
theorem dX9_two_92 : decode cX9_two 92 = .ok (.iload_n 1, 1) := by decide +kernel
theorem dX9_two_93 : decode cX9_two 93 = .ok (.ifCond .ne 7, 3) := by decide +kernel
theorem dX9_two_96 : decode cX9_two 96 = .ok (.iload_n 2, 1) := by decide +kernel
theorem dX9_two_97 : decode cX9_two 97 = .ok (.goto 4, 3) := by decide +kernel
theorem dX9_two_100 : decode cX9_two 100 = .ok (.iload_n 3, 1) := by decide +kernel
theorem dX9_two_101 : decode cX9_two 101 = .ok (.ireturn, 1) := by decide +kernel
set_option maxRecDepth 20000 in
theorem ggX9_one_X9_finds : GoodIn wsX9_one wsX9_finds := goodIn_r _ [7, 8, 9, 10, 11, 12, 13, 14, 15, 16, 6, 17, 18, 19, 20, 21, 22, 23, 24, 25, 26, 27, 28, 29, 30, 31, 32, 33, 34, 35, 36, 37, 38, 39, 40, 41, 42, 43, 44, 45, 46, 47, 48, 49, 50, 51, 52, 53, 54, 55, 56, 57, 58] (by decide +kernel) (by decide +kernel)
set_option maxRecDepth 20000 in
theorem gX9_one_X9_finds : GoodIn wsX9_one (wsV RX9 159 RX9 yX9_finds wsX9_finds) := goodIn_app (goodIn_of _ (by decide +kernel)) ggX9_one_X9_finds
theorem dX9_one_0 : decode cX9_one 0 = .ok (.aload_n 0, 1) := by decide +kernel
theorem dX9_one_1 : decode cX9_one 1 = .ok (.iconst 0, 1) := by decide +kernel
theorem dX9_one_2 : decode cX9_one 2 = .ok (.putfield 62, 3) := by decide +kernel
theorem dX9_one_5 : decode cX9_one 5 = .ok (.aload_n 0, 1) := by decide +kernel
theorem dX9_one_6 : decode cX9_one 6 = .ok (.getfield 31, 3) := by decide +kernel
theorem dX9_one_9 : decode cX9_one 9 = .ok (.iconst 1, 1) := by decide +kernel
theorem dX9_one_10 : decode cX9_one 10 = .ok (.iaload, 1) := by decide +kernel
theorem dX9_one_11 : decode cX9_one 11 = .ok (.ifCond .ne 8, 3) := by decide +kernel
theorem dX9_one_14 : decode cX9_one 14 = .ok (.bipush (-9), 2) := by decide +kernel
theorem dX9_one_16 : decode cX9_one 16 = .ok (.goto 33, 3) := by decide +kernel
theorem dX9_one_19 : decode cX9_one 19 = .ok (.aload_n 0, 1) := by decide +kernel
theorem dX9_one_20 : decode cX9_one 20 = .ok (.aload_n 0, 1) := by decide +kernel
theorem dX9_one_21 : decode cX9_one 21 = .ok (.getfield 31, 3) := by decide +kernel
theorem dX9_one_24 : decode cX9_one 24 = .ok (.aload_n 0, 1) := by decide +kernel
theorem dX9_one_25 : decode cX9_one 25 = .ok (.getfield 31, 3) := by decide +kernel
theorem dX9_one_28 : decode cX9_one 28 = .ok (.iconst 1, 1) := by decide +kernel
theorem dX9_one_29 : decode cX9_one 29 = .ok (.iaload, 1) := by decide +kernel
theorem dX9_one_30 : decode cX9_one 30 = .ok (.invokevirtual 159, 3) := by decide +kernel
theorem dX9_one_33 : decode cX9_one 33 = .ok (.aload_n 0, 1) := by decide +kernel
theorem dX9_one_34 : decode cX9_one 34 = .ok (.getfield 31, 3) := by decide +kernel
theorem dX9_one_37 : decode cX9_one 37 = .ok (.iconst 1, 1) := by decide +kernel
theorem dX9_one_38 : decode cX9_one 38 = .ok (.iaload, 1) := by decide +kernel
theorem dX9_one_39 : decode cX9_one 39 = .ok (.iadd, 1) := by decide +kernel
theorem dX9_one_40 : decode cX9_one 40 = .ok (.iconst 1, 1) := by decide +kernel
theorem dX9_one_41 : decode cX9_one 41 = .ok (.isub, 1) := by decide +kernel
theorem dX9_one_42 : decode cX9_one 42 = .ok (.aload_n 0, 1) := by decide +kernel
theorem dX9_one_43 : decode cX9_one 43 = .ok (.getfield 31, 3) := by decide +kernel
theorem dX9_one_46 : decode cX9_one 46 = .ok (.iconst 1, 1) := by decide +kernel
theorem dX9_one_47 : decode cX9_one 47 = .ok (.iaload, 1) := by decide +kernel
theorem dX9_one_48 : decode cX9_one 48 = .ok (.idiv, 1) := by decide +kernel
theorem dX9_one_49 : decode cX9_one 49 = .ok (.ireturn, 1) := by decide +kernel
set_option maxRecDepth 20000 in
theorem ggX9_left_X9_in : GoodIn wsX9_left wsX9_in := goodIn_r _ [8] (by decide +kernel) (by decide +kernel)
set_option maxRecDepth 20000 in
theorem gX9_left_X9_in : GoodIn wsX9_left (va_wsS RX9 66 yX9_in wsX9_in) := goodIn_app (goodIn_of _ (by decide +kernel)) ggX9_left_X9_in
theorem dX9_left_0 : decode cX9_left 0 = .ok (.aload_n 0, 1) := by decide +kernel
theorem dX9_left_1 : decode cX9_left 1 = .ok (.iconst 0, 1) := by decide +kernel
theorem dX9_left_2 : decode cX9_left 2 = .ok (.putfield 62, 3) := by decide +kernel
theorem dX9_left_5 : decode cX9_left 5 = .ok (.iload_n 1, 1) := by decide +kernel
theorem dX9_left_6 : decode cX9_left 6 = .ok (.iconst 0, 1) := by decide +kernel
theorem dX9_left_7 : decode cX9_left 7 = .ok (.bipush 8, 2) := by decide +kernel
theorem dX9_left_9 : decode cX9_left 9 = .ok (.invokestatic 66, 3) := by decide +kernel
theorem dX9_left_12 : decode cX9_left 12 = .ok (.ifCond .eq 14, 3) := by decide +kernel
theorem dX9_left_15 : decode cX9_left 15 = .ok (.iload_n 2, 1) := by decide +kernel
theorem dX9_left_16 : decode cX9_left 16 = .ok (.iconst 0, 1) := by decide +kernel
theorem dX9_left_17 : decode cX9_left 17 = .ok (.sipush 900, 3) := by decide +kernel
theorem dX9_left_20 : decode cX9_left 20 = .ok (.invokestatic 66, 3) := by decide +kernel
theorem dX9_left_23 : decode cX9_left 23 = .ok (.ifCond .ne 5, 3) := by decide +kernel
theorem dX9_left_26 : decode cX9_left 26 = .ok (.iconst (-1), 1) := by decide +kernel
theorem dX9_left_27 : decode cX9_left 27 = .ok (.ireturn, 1) := by decide +kernel
theorem dX9_left_28 : decode cX9_left 28 = .ok (.aload_n 0, 1) := by decide +kernel
theorem dX9_left_29 : decode cX9_left 29 = .ok (.getfield 117, 3) := by decide +kernel
theorem dX9_left_32 : decode cX9_left 32 = .ok (.bipush 6, 2) := by decide +kernel
theorem dX9_left_34 : decode cX9_left 34 = .ok (.if_icmp .ne 6, 3) := by decide +kernel
theorem dX9_left_37 : decode cX9_left 37 = .ok (.bipush (-3), 2) := by decide +kernel
theorem dX9_left_39 : decode cX9_left 39 = .ok (.ireturn, 1) := by decide +kernel
theorem dX9_left_40 : decode cX9_left 40 = .ok (.aload_n 0, 1) := by decide +kernel
theorem dX9_left_41 : decode cX9_left 41 = .ok (.getfield 47, 3) := by decide +kernel
theorem dX9_left_44 : decode cX9_left 44 = .ok (.aload_n 0, 1) := by decide +kernel
theorem dX9_left_45 : decode cX9_left 45 = .ok (.getfield 117, 3) := by decide +kernel
theorem dX9_left_48 : decode cX9_left 48 = .ok (.iload_n 1, 1) := by decide +kernel
theorem dX9_left_49 : decode cX9_left 49 = .ok (.iastore, 1) := by decide +kernel
theorem dX9_left_50 : decode cX9_left 50 = .ok (.aload_n 0, 1) := by decide +kernel
theorem dX9_left_51 : decode cX9_left 51 = .ok (.getfield 50, 3) := by decide +kernel
theorem dX9_left_54 : decode cX9_left 54 = .ok (.aload_n 0, 1) := by decide +kernel
theorem dX9_left_55 : decode cX9_left 55 = .ok (.getfield 117, 3) := by decide +kernel
theorem dX9_left_58 : decode cX9_left 58 = .ok (.iload_n 2, 1) := by decide +kernel
theorem dX9_left_59 : decode cX9_left 59 = .ok (.iastore, 1) := by decide +kernel
theorem dX9_left_60 : decode cX9_left 60 = .ok (.aload_n 0, 1) := by decide +kernel
theorem dX9_left_61 : decode cX9_left 61 = .ok (.dup, 1) := by decide +kernel
theorem dX9_left_62 : decode cX9_left 62 = .ok (.getfield 117, 3) := by decide +kernel
theorem dX9_left_65 : decode cX9_left 65 = .ok (.iconst 1, 1) := by decide +kernel
theorem dX9_left_66 : decode cX9_left 66 = .ok (.iadd, 1) := by decide +kernel
theorem dX9_left_67 : decode cX9_left 67 = .ok (.putfield 117, 3) := by decide +kernel
theorem dX9_left_70 : decode cX9_left 70 = .ok (.aload_n 0, 1) := by decide +kernel
theorem dX9_left_71 : decode cX9_left 71 = .ok (.getfield 117, 3) := by decide +kernel
theorem dX9_left_74 : decode cX9_left 74 = .ok (.ireturn, 1) := by decide +kernel
theorem dX9_forget_0 : decode cX9_forget 0 = .ok (.aload_n 0, 1) := by decide +kernel
theorem dX9_forget_1 : decode cX9_forget 1 = .ok (.iconst 0, 1) := by decide +kernel
theorem dX9_forget_2 : decode cX9_forget 2 = .ok (.putfield 62, 3) := by decide +kernel
theorem dX9_forget_5 : decode cX9_forget 5 = .ok (.aload_n 0, 1) := by decide +kernel
theorem dX9_forget_6 : decode cX9_forget 6 = .ok (.getfield 117, 3) := by decide +kernel
theorem dX9_forget_9 : decode cX9_forget 9 = .ok (.istore_n 1, 1) := by decide +kernel
theorem dX9_forget_10 : decode cX9_forget 10 = .ok (.aload_n 0, 1) := by decide +kernel
theorem dX9_forget_11 : decode cX9_forget 11 = .ok (.iconst 0, 1) := by decide +kernel
theorem dX9_forget_12 : decode cX9_forget 12 = .ok (.putfield 117, 3) := by decide +kernel
theorem dX9_forget_15 : decode cX9_forget 15 = .ok (.iload_n 1, 1) := by decide +kernel
theorem dX9_forget_16 : decode cX9_forget 16 = .ok (.ireturn, 1) := by decide +kernel
theorem dX9_isAsLeft_0 : decode cX9_isAsLeft 0 = .ok (.iconst 1, 1) := by decide +kernel
theorem dX9_isAsLeft_1 : decode cX9_isAsLeft 1 = .ok (.istore_n 2, 1) := by decide +kernel
theorem dX9_isAsLeft_2 : decode cX9_isAsLeft 2 = .ok (.iconst 0, 1) := by decide +kernel
theorem dX9_isAsLeft_3 : decode cX9_isAsLeft 3 = .ok (.istore_n 3, 1) := by decide +kernel
theorem dX9_isAsLeft_4 : decode cX9_isAsLeft 4 = .ok (.iload_n 3, 1) := by decide +kernel
theorem dX9_isAsLeft_5 : decode cX9_isAsLeft 5 = .ok (.aload_n 0, 1) := by decide +kernel
theorem dX9_isAsLeft_6 : decode cX9_isAsLeft 6 = .ok (.getfield 117, 3) := by decide +kernel
theorem dX9_isAsLeft_9 : decode cX9_isAsLeft 9 = .ok (.if_icmp .ge 120, 3) := by decide +kernel
theorem dX9_isAsLeft_12 : decode cX9_isAsLeft 12 = .ok (.aload_n 0, 1) := by decide +kernel
theorem dX9_isAsLeft_13 : decode cX9_isAsLeft 13 = .ok (.getfield 31, 3) := by decide +kernel
theorem dX9_isAsLeft_16 : decode cX9_isAsLeft 16 = .ok (.iconst 2, 1) := by decide +kernel
theorem dX9_isAsLeft_17 : decode cX9_isAsLeft 17 = .ok (.iaload, 1) := by decide +kernel
theorem dX9_isAsLeft_18 : decode cX9_isAsLeft 18 = .ok (.istore 4, 2) := by decide +kernel
theorem dX9_isAsLeft_20 : decode cX9_isAsLeft 20 = .ok (.aload_n 0, 1) := by decide +kernel
theorem dX9_isAsLeft_21 : decode cX9_isAsLeft 21 = .ok (.getfield 31, 3) := by decide +kernel
theorem dX9_isAsLeft_24 : decode cX9_isAsLeft 24 = .ok (.iconst 0, 1) := by decide +kernel
theorem dX9_isAsLeft_25 : decode cX9_isAsLeft 25 = .ok (.iaload, 1) := by decide +kernel
theorem dX9_isAsLeft_26 : decode cX9_isAsLeft 26 = .ok (.aload_n 0, 1) := by decide +kernel
theorem dX9_isAsLeft_27 : decode cX9_isAsLeft 27 = .ok (.getfield 47, 3) := by decide +kernel
theorem dX9_isAsLeft_30 : decode cX9_isAsLeft 30 = .ok (.iload_n 3, 1) := by decide +kernel
theorem dX9_isAsLeft_31 : decode cX9_isAsLeft 31 = .ok (.iaload, 1) := by decide +kernel
theorem dX9_isAsLeft_32 : decode cX9_isAsLeft 32 = .ok (.iadd, 1) := by decide +kernel
theorem dX9_isAsLeft_33 : decode cX9_isAsLeft 33 = .ok (.istore 5, 2) := by decide +kernel
theorem dX9_isAsLeft_35 : decode cX9_isAsLeft 35 = .ok (.aload_n 0, 1) := by decide +kernel
theorem dX9_isAsLeft_36 : decode cX9_isAsLeft 36 = .ok (.getfield 31, 3) := by decide +kernel
theorem dX9_isAsLeft_39 : decode cX9_isAsLeft 39 = .ok (.iconst 0, 1) := by decide +kernel
theorem dX9_isAsLeft_40 : decode cX9_isAsLeft 40 = .ok (.iaload, 1) := by decide +kernel
theorem dX9_isAsLeft_41 : decode cX9_isAsLeft 41 = .ok (.istore 6, 2) := by decide +kernel
theorem dX9_isAsLeft_43 : decode cX9_isAsLeft 43 = .ok (.iload 6, 2) := by decide +kernel
theorem dX9_isAsLeft_45 : decode cX9_isAsLeft 45 = .ok (.iload 5, 2) := by decide +kernel
theorem dX9_isAsLeft_47 : decode cX9_isAsLeft 47 = .ok (.if_icmp .ge 44, 3) := by decide +kernel
theorem dX9_isAsLeft_50 : decode cX9_isAsLeft 50 = .ok (.iload 6, 2) := by decide +kernel
theorem dX9_isAsLeft_52 : decode cX9_isAsLeft 52 = .ok (.aload_n 0, 1) := by decide +kernel
theorem dX9_isAsLeft_53 : decode cX9_isAsLeft 53 = .ok (.getfield 13, 3) := by decide +kernel
theorem dX9_isAsLeft_56 : decode cX9_isAsLeft 56 = .ok (.iconst 0, 1) := by decide +kernel
theorem dX9_isAsLeft_57 : decode cX9_isAsLeft 57 = .ok (.iaload, 1) := by decide +kernel
theorem dX9_isAsLeft_58 : decode cX9_isAsLeft 58 = .ok (.if_icmp .ge 33, 3) := by decide +kernel
theorem dX9_isAsLeft_61 : decode cX9_isAsLeft 61 = .ok (.iload 4, 2) := by decide +kernel
theorem dX9_isAsLeft_63 : decode cX9_isAsLeft 63 = .ok (.aload_n 0, 1) := by decide +kernel
theorem dX9_isAsLeft_64 : decode cX9_isAsLeft 64 = .ok (.getfield 59, 3) := by decide +kernel
theorem dX9_isAsLeft_67 : decode cX9_isAsLeft 67 = .ok (.iload 6, 2) := by decide +kernel
theorem dX9_isAsLeft_69 : decode cX9_isAsLeft 69 = .ok (.iaload, 1) := by decide +kernel
theorem dX9_isAsLeft_70 : decode cX9_isAsLeft 70 = .ok (.iload 6, 2) := by decide +kernel
theorem dX9_isAsLeft_72 : decode cX9_isAsLeft 72 = .ok (.iload_n 1, 1) := by decide +kernel
theorem dX9_isAsLeft_73 : decode cX9_isAsLeft 73 = .ok (.if_icmp .ne 7, 3) := by decide +kernel
theorem dX9_isAsLeft_76 : decode cX9_isAsLeft 76 = .ok (.iconst 1, 1) := by decide +kernel
theorem dX9_isAsLeft_77 : decode cX9_isAsLeft 77 = .ok (.goto 4, 3) := by decide +kernel
theorem dX9_isAsLeft_80 : decode cX9_isAsLeft 80 = .ok (.iconst 0, 1) := by decide +kernel
theorem dX9_isAsLeft_81 : decode cX9_isAsLeft 81 = .ok (.iadd, 1) := by decide +kernel
theorem dX9_isAsLeft_82 : decode cX9_isAsLeft 82 = .ok (.isub, 1) := by decide +kernel
theorem dX9_isAsLeft_83 : decode cX9_isAsLeft 83 = .ok (.istore 4, 2) := by decide +kernel
theorem dX9_isAsLeft_85 : decode cX9_isAsLeft 85 = .ok (.iinc 6 1, 3) := by decide +kernel
theorem dX9_isAsLeft_88 : decode cX9_isAsLeft 88 = .ok (.goto (-45), 3) := by decide +kernel
theorem dX9_isAsLeft_91 : decode cX9_isAsLeft 91 = .ok (.iload_n 2, 1) := by decide +kernel
theorem dX9_isAsLeft_92 : decode cX9_isAsLeft 92 = .ok (.ifCond .eq 29, 3) := by decide +kernel
theorem dX9_isAsLeft_95 : decode cX9_isAsLeft 95 = .ok (.iload 5, 2) := by decide +kernel
theorem dX9_isAsLeft_97 : decode cX9_isAsLeft 97 = .ok (.aload_n 0, 1) := by decide +kernel
theorem dX9_isAsLeft_98 : decode cX9_isAsLeft 98 = .ok (.getfield 13, 3) := by decide +kernel
theorem dX9_isAsLeft_101 : decode cX9_isAsLeft 101 = .ok (.iconst 0, 1) := by decide +kernel
theorem dX9_isAsLeft_102 : decode cX9_isAsLeft 102 = .ok (.iaload, 1) := by decide +kernel
theorem dX9_isAsLeft_103 : decode cX9_isAsLeft 103 = .ok (.if_icmp .gt 18, 3) := by decide +kernel
theorem dX9_isAsLeft_106 : decode cX9_isAsLeft 106 = .ok (.iload 4, 2) := by decide +kernel
theorem dX9_isAsLeft_108 : decode cX9_isAsLeft 108 = .ok (.aload_n 0, 1) := by decide +kernel
theorem dX9_isAsLeft_109 : decode cX9_isAsLeft 109 = .ok (.getfield 50, 3) := by decide +kernel
theorem dX9_isAsLeft_112 : decode cX9_isAsLeft 112 = .ok (.iload_n 3, 1) := by decide +kernel
theorem dX9_isAsLeft_113 : decode cX9_isAsLeft 113 = .ok (.iaload, 1) := by decide +kernel
theorem dX9_isAsLeft_114 : decode cX9_isAsLeft 114 = .ok (.if_icmp .ne 7, 3) := by decide +kernel
theorem dX9_isAsLeft_117 : decode cX9_isAsLeft 117 = .ok (.iconst 1, 1) := by decide +kernel
theorem dX9_isAsLeft_118 : decode cX9_isAsLeft 118 = .ok (.goto 4, 3) := by decide +kernel
theorem dX9_isAsLeft_121 : decode cX9_isAsLeft 121 = .ok (.iconst 0, 1) := by decide +kernel
theorem dX9_isAsLeft_122 : decode cX9_isAsLeft 122 = .ok (.istore_n 2, 1) := by decide +kernel
theorem dX9_isAsLeft_123 : decode cX9_isAsLeft 123 = .ok (.iinc 3 1, 3) := by decide +kernel
theorem dX9_isAsLeft_126 : decode cX9_isAsLeft 126 = .ok (.goto (-122), 3) := by decide +kernel
theorem dX9_isAsLeft_129 : decode cX9_isAsLeft 129 = .ok (.iload_n 2, 1) := by decide +kernel
theorem dX9_isAsLeft_130 : decode cX9_isAsLeft 130 = .ok (.ireturn, 1) := by decide +kernel
set_option maxRecDepth 20000 in
theorem ggX9_took_X9_finds : GoodIn wsX9_took wsX9_finds := goodIn_r _ [8, 9, 3, 10, 11, 12, 13, 14, 15, 16, 7, 17, 18, 19, 20, 21, 22, 23, 24, 25, 26, 27, 28, 29, 30, 38, 39, 40, 41, 42, 43, 44, 45, 46, 47, 48, 49, 50, 51, 52, 53, 54, 55, 56, 57, 58, 59, 60, 61, 62, 63, 64, 65] (by decide +kernel) (by decide +kernel)
set_option maxRecDepth 20000 in
theorem gX9_took_X9_finds : GoodIn wsX9_took (wsV RX9 159 RX9 yX9_finds wsX9_finds) := goodIn_app (goodIn_of _ (by decide +kernel)) ggX9_took_X9_finds
set_option maxRecDepth 20000 in
theorem ggX9_took_X9_isAsLeft : GoodIn wsX9_took wsX9_isAsLeft := goodIn_r _ [34, 35, 2, 36, 3, 12, 37, 38, 39, 40, 41, 42, 43, 44, 45, 46, 47, 48, 49, 50, 51, 52, 53, 54, 55, 56, 57, 58, 59, 60, 61, 62, 63, 64, 65] (by decide +kernel) (by decide +kernel)
set_option maxRecDepth 20000 in
theorem gX9_took_X9_isAsLeft : GoodIn wsX9_took (wsV RX9 176 RX9 yX9_isAsLeft wsX9_isAsLeft) := goodIn_app (goodIn_of _ (by decide +kernel)) ggX9_took_X9_isAsLeft
theorem dX9_took_0 : decode cX9_took 0 = .ok (.aload_n 0, 1) := by decide +kernel
theorem dX9_took_1 : decode cX9_took 1 = .ok (.iconst 0, 1) := by decide +kernel
theorem dX9_took_2 : decode cX9_took 2 = .ok (.putfield 62, 3) := by decide +kernel
theorem dX9_took_5 : decode cX9_took 5 = .ok (.aload_n 0, 1) := by decide +kernel
theorem dX9_took_6 : decode cX9_took 6 = .ok (.aload_n 0, 1) := by decide +kernel
theorem dX9_took_7 : decode cX9_took 7 = .ok (.getfield 31, 3) := by decide +kernel
theorem dX9_took_10 : decode cX9_took 10 = .ok (.aload_n 0, 1) := by decide +kernel
theorem dX9_took_11 : decode cX9_took 11 = .ok (.getfield 31, 3) := by decide +kernel
theorem dX9_took_14 : decode cX9_took 14 = .ok (.iconst 1, 1) := by decide +kernel
theorem dX9_took_15 : decode cX9_took 15 = .ok (.iaload, 1) := by decide +kernel
theorem dX9_took_16 : decode cX9_took 16 = .ok (.invokevirtual 159, 3) := by decide +kernel
theorem dX9_took_19 : decode cX9_took 19 = .ok (.pop, 1) := by decide +kernel
theorem dX9_took_20 : decode cX9_took 20 = .ok (.aload_n 0, 1) := by decide +kernel
theorem dX9_took_21 : decode cX9_took 21 = .ok (.bipush (-9), 2) := by decide +kernel
theorem dX9_took_23 : decode cX9_took 23 = .ok (.invokevirtual 176, 3) := by decide +kernel
theorem dX9_took_26 : decode cX9_took 26 = .ok (.ifCond .eq 9, 3) := by decide +kernel
theorem dX9_took_29 : decode cX9_took 29 = .ok (.sipush 256, 3) := by decide +kernel
theorem dX9_took_32 : decode cX9_took 32 = .ok (.goto 4, 3) := by decide +kernel
theorem dX9_took_35 : decode cX9_took 35 = .ok (.iconst 0, 1) := by decide +kernel
theorem dX9_took_36 : decode cX9_took 36 = .ok (.istore_n 1, 1) := by decide +kernel
theorem dX9_took_37 : decode cX9_took 37 = .ok (.aload_n 0, 1) := by decide +kernel
theorem dX9_took_38 : decode cX9_took 38 = .ok (.getfield 31, 3) := by decide +kernel
theorem dX9_took_41 : decode cX9_took 41 = .ok (.iconst 0, 1) := by decide +kernel
theorem dX9_took_42 : decode cX9_took 42 = .ok (.iaload, 1) := by decide +kernel
theorem dX9_took_43 : decode cX9_took 43 = .ok (.istore_n 2, 1) := by decide +kernel
theorem dX9_took_44 : decode cX9_took 44 = .ok (.iload_n 2, 1) := by decide +kernel
theorem dX9_took_45 : decode cX9_took 45 = .ok (.aload_n 0, 1) := by decide +kernel
theorem dX9_took_46 : decode cX9_took 46 = .ok (.getfield 13, 3) := by decide +kernel
theorem dX9_took_49 : decode cX9_took 49 = .ok (.iconst 0, 1) := by decide +kernel
theorem dX9_took_50 : decode cX9_took 50 = .ok (.iaload, 1) := by decide +kernel
theorem dX9_took_51 : decode cX9_took 51 = .ok (.if_icmp .ge 27, 3) := by decide +kernel
theorem dX9_took_54 : decode cX9_took 54 = .ok (.iload_n 1, 1) := by decide +kernel
theorem dX9_took_55 : decode cX9_took 55 = .ok (.aload_n 0, 1) := by decide +kernel
theorem dX9_took_56 : decode cX9_took 56 = .ok (.iload_n 2, 1) := by decide +kernel
theorem dX9_took_57 : decode cX9_took 57 = .ok (.invokevirtual 176, 3) := by decide +kernel
theorem dX9_took_60 : decode cX9_took 60 = .ok (.ifCond .eq 9, 3) := by decide +kernel
theorem dX9_took_63 : decode cX9_took 63 = .ok (.iconst 1, 1) := by decide +kernel
theorem dX9_took_64 : decode cX9_took 64 = .ok (.iload_n 2, 1) := by decide +kernel
theorem dX9_took_65 : decode cX9_took 65 = .ok (.ishl, 1) := by decide +kernel
theorem dX9_took_66 : decode cX9_took 66 = .ok (.goto 4, 3) := by decide +kernel
theorem dX9_took_69 : decode cX9_took 69 = .ok (.iconst 0, 1) := by decide +kernel
theorem dX9_took_70 : decode cX9_took 70 = .ok (.ior, 1) := by decide +kernel
theorem dX9_took_71 : decode cX9_took 71 = .ok (.istore_n 1, 1) := by decide +kernel
theorem dX9_took_72 : decode cX9_took 72 = .ok (.iinc 2 1, 3) := by decide +kernel
theorem dX9_took_75 : decode cX9_took 75 = .ok (.goto (-31), 3) := by decide +kernel
theorem dX9_took_78 : decode cX9_took 78 = .ok (.iload_n 1, 1) := by decide +kernel
theorem dX9_took_79 : decode cX9_took 79 = .ok (.ireturn, 1) := by decide +kernel
set_option maxRecDepth 20000 in
theorem ggX9_odds_X9_in : GoodIn wsX9_odds wsX9_in := goodIn_r _ [8] (by decide +kernel) (by decide +kernel)
set_option maxRecDepth 20000 in
theorem gX9_odds_X9_in : GoodIn wsX9_odds (va_wsS RX9 66 yX9_in wsX9_in) := goodIn_app (goodIn_of _ (by decide +kernel)) ggX9_odds_X9_in
set_option maxRecDepth 20000 in
theorem ggX9_odds_X9_gcd : GoodIn wsX9_odds wsX9_gcd := goodIn_r _ [11] (by decide +kernel) (by decide +kernel)
set_option maxRecDepth 20000 in
theorem gX9_odds_X9_gcd : GoodIn wsX9_odds (va_wsS RX9 173 yX9_gcd wsX9_gcd) := goodIn_app (goodIn_of _ (by decide +kernel)) ggX9_odds_X9_gcd
theorem dX9_odds_0 : decode cX9_odds 0 = .ok (.aload_n 0, 1) := by decide +kernel
theorem dX9_odds_1 : decode cX9_odds 1 = .ok (.iconst 0, 1) := by decide +kernel
theorem dX9_odds_2 : decode cX9_odds 2 = .ok (.putfield 62, 3) := by decide +kernel
theorem dX9_odds_5 : decode cX9_odds 5 = .ok (.iload_n 1, 1) := by decide +kernel
theorem dX9_odds_6 : decode cX9_odds 6 = .ok (.iconst 0, 1) := by decide +kernel
theorem dX9_odds_7 : decode cX9_odds 7 = .ok (.iconst 1, 1) := by decide +kernel
theorem dX9_odds_8 : decode cX9_odds 8 = .ok (.aload_n 0, 1) := by decide +kernel
theorem dX9_odds_9 : decode cX9_odds 9 = .ok (.getfield 13, 3) := by decide +kernel
theorem dX9_odds_12 : decode cX9_odds 12 = .ok (.iconst 0, 1) := by decide +kernel
theorem dX9_odds_13 : decode cX9_odds 13 = .ok (.iaload, 1) := by decide +kernel
theorem dX9_odds_14 : decode cX9_odds 14 = .ok (.ishl, 1) := by decide +kernel
theorem dX9_odds_15 : decode cX9_odds 15 = .ok (.iconst 1, 1) := by decide +kernel
theorem dX9_odds_16 : decode cX9_odds 16 = .ok (.isub, 1) := by decide +kernel
theorem dX9_odds_17 : decode cX9_odds 17 = .ok (.invokestatic 66, 3) := by decide +kernel
theorem dX9_odds_20 : decode cX9_odds 20 = .ok (.ifCond .eq 12, 3) := by decide +kernel
theorem dX9_odds_23 : decode cX9_odds 23 = .ok (.iload_n 2, 1) := by decide +kernel
theorem dX9_odds_24 : decode cX9_odds 24 = .ok (.iconst 0, 1) := by decide +kernel
theorem dX9_odds_25 : decode cX9_odds 25 = .ok (.iconst 1, 1) := by decide +kernel
theorem dX9_odds_26 : decode cX9_odds 26 = .ok (.invokestatic 66, 3) := by decide +kernel
theorem dX9_odds_29 : decode cX9_odds 29 = .ok (.ifCond .ne 5, 3) := by decide +kernel
theorem dX9_odds_32 : decode cX9_odds 32 = .ok (.iconst (-1), 1) := by decide +kernel
theorem dX9_odds_33 : decode cX9_odds 33 = .ok (.ireturn, 1) := by decide +kernel
theorem dX9_odds_34 : decode cX9_odds 34 = .ok (.iconst 1, 1) := by decide +kernel
theorem dX9_odds_35 : decode cX9_odds 35 = .ok (.istore_n 3, 1) := by decide +kernel
theorem dX9_odds_36 : decode cX9_odds 36 = .ok (.iconst 1, 1) := by decide +kernel
theorem dX9_odds_37 : decode cX9_odds 37 = .ok (.istore 4, 2) := by decide +kernel
theorem dX9_odds_39 : decode cX9_odds 39 = .ok (.aload_n 0, 1) := by decide +kernel
theorem dX9_odds_40 : decode cX9_odds 40 = .ok (.getfield 31, 3) := by decide +kernel
theorem dX9_odds_43 : decode cX9_odds 43 = .ok (.iconst 0, 1) := by decide +kernel
theorem dX9_odds_44 : decode cX9_odds 44 = .ok (.iaload, 1) := by decide +kernel
theorem dX9_odds_45 : decode cX9_odds 45 = .ok (.istore 5, 2) := by decide +kernel
theorem dX9_odds_47 : decode cX9_odds 47 = .ok (.iload 5, 2) := by decide +kernel
theorem dX9_odds_49 : decode cX9_odds 49 = .ok (.aload_n 0, 1) := by decide +kernel
theorem dX9_odds_50 : decode cX9_odds 50 = .ok (.getfield 13, 3) := by decide +kernel
theorem dX9_odds_53 : decode cX9_odds 53 = .ok (.iconst 0, 1) := by decide +kernel
theorem dX9_odds_54 : decode cX9_odds 54 = .ok (.iaload, 1) := by decide +kernel
theorem dX9_odds_55 : decode cX9_odds 55 = .ok (.if_icmp .ge 57, 3) := by decide +kernel
theorem dX9_odds_58 : decode cX9_odds 58 = .ok (.iload_n 3, 1) := by decide +kernel
theorem dX9_odds_59 : decode cX9_odds 59 = .ok (.iload_n 1, 1) := by decide +kernel
theorem dX9_odds_60 : decode cX9_odds 60 = .ok (.iload 5, 2) := by decide +kernel
theorem dX9_odds_62 : decode cX9_odds 62 = .ok (.ishr, 1) := by decide +kernel
theorem dX9_odds_63 : decode cX9_odds 63 = .ok (.iconst 1, 1) := by decide +kernel
theorem dX9_odds_64 : decode cX9_odds 64 = .ok (.iand, 1) := by decide +kernel
theorem dX9_odds_65 : decode cX9_odds 65 = .ok (.iconst 1, 1) := by decide +kernel
theorem dX9_odds_66 : decode cX9_odds 66 = .ok (.if_icmp .ne 16, 3) := by decide +kernel
theorem dX9_odds_69 : decode cX9_odds 69 = .ok (.bipush 10, 2) := by decide +kernel
theorem dX9_odds_71 : decode cX9_odds 71 = .ok (.aload_n 0, 1) := by decide +kernel
theorem dX9_odds_72 : decode cX9_odds 72 = .ok (.getfield 25, 3) := by decide +kernel
theorem dX9_odds_75 : decode cX9_odds 75 = .ok (.iload 5, 2) := by decide +kernel
theorem dX9_odds_77 : decode cX9_odds 77 = .ok (.iaload, 1) := by decide +kernel
theorem dX9_odds_78 : decode cX9_odds 78 = .ok (.isub, 1) := by decide +kernel
theorem dX9_odds_79 : decode cX9_odds 79 = .ok (.goto 4, 3) := by decide +kernel
theorem dX9_odds_82 : decode cX9_odds 82 = .ok (.iconst 1, 1) := by decide +kernel
theorem dX9_odds_83 : decode cX9_odds 83 = .ok (.imul, 1) := by decide +kernel
theorem dX9_odds_84 : decode cX9_odds 84 = .ok (.istore_n 3, 1) := by decide +kernel
theorem dX9_odds_85 : decode cX9_odds 85 = .ok (.iload 4, 2) := by decide +kernel
theorem dX9_odds_87 : decode cX9_odds 87 = .ok (.iload_n 1, 1) := by decide +kernel
theorem dX9_odds_88 : decode cX9_odds 88 = .ok (.iload 5, 2) := by decide +kernel
theorem dX9_odds_90 : decode cX9_odds 90 = .ok (.ishr, 1) := by decide +kernel
theorem dX9_odds_91 : decode cX9_odds 91 = .ok (.iconst 1, 1) := by decide +kernel
theorem dX9_odds_92 : decode cX9_odds 92 = .ok (.iand, 1) := by decide +kernel
theorem dX9_odds_93 : decode cX9_odds 93 = .ok (.iconst 1, 1) := by decide +kernel
theorem dX9_odds_94 : decode cX9_odds 94 = .ok (.if_icmp .ne 8, 3) := by decide +kernel
theorem dX9_odds_97 : decode cX9_odds 97 = .ok (.bipush 10, 2) := by decide +kernel
theorem dX9_odds_99 : decode cX9_odds 99 = .ok (.goto 4, 3) := by decide +kernel
theorem dX9_odds_102 : decode cX9_odds 102 = .ok (.iconst 1, 1) := by decide +kernel
theorem dX9_odds_103 : decode cX9_odds 103 = .ok (.imul, 1) := by decide +kernel
theorem dX9_odds_104 : decode cX9_odds 104 = .ok (.istore 4, 2) := by decide +kernel
theorem dX9_odds_106 : decode cX9_odds 106 = .ok (.iinc 5 1, 3) := by decide +kernel
theorem dX9_odds_109 : decode cX9_odds 109 = .ok (.goto (-62), 3) := by decide +kernel
theorem dX9_odds_112 : decode cX9_odds 112 = .ok (.iload_n 3, 1) := by decide +kernel
theorem dX9_odds_113 : decode cX9_odds 113 = .ok (.iload 4, 2) := by decide +kernel
theorem dX9_odds_115 : decode cX9_odds 115 = .ok (.invokestatic 173, 3) := by decide +kernel
theorem dX9_odds_118 : decode cX9_odds 118 = .ok (.istore 5, 2) := by decide +kernel
theorem dX9_odds_120 : decode cX9_odds 120 = .ok (.iload_n 2, 1) := by decide +kernel
theorem dX9_odds_121 : decode cX9_odds 121 = .ok (.ifCond .ne 10, 3) := by decide +kernel
theorem dX9_odds_124 : decode cX9_odds 124 = .ok (.iload_n 3, 1) := by decide +kernel
theorem dX9_odds_125 : decode cX9_odds 125 = .ok (.iload 5, 2) := by decide +kernel
theorem dX9_odds_127 : decode cX9_odds 127 = .ok (.idiv, 1) := by decide +kernel
theorem dX9_odds_128 : decode cX9_odds 128 = .ok (.goto 8, 3) := by decide +kernel
theorem dX9_odds_131 : decode cX9_odds 131 = .ok (.iload 4, 2) := by decide +kernel
theorem dX9_odds_133 : decode cX9_odds 133 = .ok (.iload 5, 2) := by decide +kernel
theorem dX9_odds_135 : decode cX9_odds 135 = .ok (.idiv, 1) := by decide +kernel
theorem dX9_odds_136 : decode cX9_odds 136 = .ok (.ireturn, 1) := by decide +kernel
set_option maxRecDepth 20000 in
theorem ggX9_rate_X9_in : GoodIn wsX9_rate wsX9_in := goodIn_r _ [15] (by decide +kernel) (by decide +kernel)
set_option maxRecDepth 20000 in
theorem gX9_rate_X9_in : GoodIn wsX9_rate (va_wsS RX9 66 yX9_in wsX9_in) := goodIn_app (goodIn_of _ (by decide +kernel)) ggX9_rate_X9_in
set_option maxRecDepth 20000 in
theorem ggX9_rate_X9_isRock : GoodIn wsX9_rate wsX9_isRock := goodIn_r _ [19, 20, 12, 13, 14, 15, 21, 22, 23, 24, 25, 26, 27, 28, 29, 30, 31, 32, 33, 34, 35, 36, 37, 38, 39, 40, 41, 42, 43, 44, 45, 46, 47, 48] (by decide +kernel) (by decide +kernel)
set_option maxRecDepth 20000 in
theorem gX9_rate_X9_isRock : GoodIn wsX9_rate (wsV RX9 127 RX9 yX9_isRock wsX9_isRock) := goodIn_app (goodIn_of _ (by decide +kernel)) ggX9_rate_X9_isRock
theorem dX9_rate_0 : decode cX9_rate 0 = .ok (.aload_n 0, 1) := by decide +kernel
theorem dX9_rate_1 : decode cX9_rate 1 = .ok (.iconst 0, 1) := by decide +kernel
theorem dX9_rate_2 : decode cX9_rate 2 = .ok (.putfield 62, 3) := by decide +kernel
theorem dX9_rate_5 : decode cX9_rate 5 = .ok (.iload_n 1, 1) := by decide +kernel
theorem dX9_rate_6 : decode cX9_rate 6 = .ok (.iconst 0, 1) := by decide +kernel
theorem dX9_rate_7 : decode cX9_rate 7 = .ok (.iconst 5, 1) := by decide +kernel
theorem dX9_rate_8 : decode cX9_rate 8 = .ok (.invokestatic 66, 3) := by decide +kernel
theorem dX9_rate_11 : decode cX9_rate 11 = .ok (.ifCond .eq 11, 3) := by decide +kernel
theorem dX9_rate_14 : decode cX9_rate 14 = .ok (.aload_n 0, 1) := by decide +kernel
theorem dX9_rate_15 : decode cX9_rate 15 = .ok (.iload_n 2, 1) := by decide +kernel
theorem dX9_rate_16 : decode cX9_rate 16 = .ok (.invokevirtual 127, 3) := by decide +kernel
theorem dX9_rate_19 : decode cX9_rate 19 = .ok (.ifCond .ne 6, 3) := by decide +kernel
theorem dX9_rate_22 : decode cX9_rate 22 = .ok (.ldc 179, 2) := by decide +kernel
theorem dX9_rate_24 : decode cX9_rate 24 = .ok (.ireturn, 1) := by decide +kernel
theorem dX9_rate_25 : decode cX9_rate 25 = .ok (.aload_n 0, 1) := by decide +kernel
theorem dX9_rate_26 : decode cX9_rate 26 = .ok (.getfield 31, 3) := by decide +kernel
theorem dX9_rate_29 : decode cX9_rate 29 = .ok (.bipush 6, 2) := by decide +kernel
theorem dX9_rate_31 : decode cX9_rate 31 = .ok (.iload_n 2, 1) := by decide +kernel
theorem dX9_rate_32 : decode cX9_rate 32 = .ok (.iadd, 1) := by decide +kernel
theorem dX9_rate_33 : decode cX9_rate 33 = .ok (.iaload, 1) := by decide +kernel
theorem dX9_rate_34 : decode cX9_rate 34 = .ok (.istore_n 3, 1) := by decide +kernel
theorem dX9_rate_35 : decode cX9_rate 35 = .ok (.aload_n 0, 1) := by decide +kernel
theorem dX9_rate_36 : decode cX9_rate 36 = .ok (.dup, 1) := by decide +kernel
theorem dX9_rate_37 : decode cX9_rate 37 = .ok (.getfield 180, 3) := by decide +kernel
theorem dX9_rate_40 : decode cX9_rate 40 = .ok (.iload_n 1, 1) := by decide +kernel
theorem dX9_rate_41 : decode cX9_rate 41 = .ok (.ifCond .ne 7, 3) := by decide +kernel
theorem dX9_rate_44 : decode cX9_rate 44 = .ok (.lconst 1, 1) := by decide +kernel
theorem dX9_rate_45 : decode cX9_rate 45 = .ok (.goto 50, 3) := by decide +kernel
theorem dX9_rate_48 : decode cX9_rate 48 = .ok (.iload_n 1, 1) := by decide +kernel
theorem dX9_rate_49 : decode cX9_rate 49 = .ok (.iconst 1, 1) := by decide +kernel
theorem dX9_rate_50 : decode cX9_rate 50 = .ok (.if_icmp .ne 9, 3) := by decide +kernel
theorem dX9_rate_53 : decode cX9_rate 53 = .ok (.ldc2_w 184, 3) := by decide +kernel
theorem dX9_rate_56 : decode cX9_rate 56 = .ok (.goto 39, 3) := by decide +kernel
theorem dX9_rate_59 : decode cX9_rate 59 = .ok (.iload_n 1, 1) := by decide +kernel
theorem dX9_rate_60 : decode cX9_rate 60 = .ok (.iconst 2, 1) := by decide +kernel
theorem dX9_rate_61 : decode cX9_rate 61 = .ok (.if_icmp .ne 9, 3) := by decide +kernel
theorem dX9_rate_64 : decode cX9_rate 64 = .ok (.ldc2_w 186, 3) := by decide +kernel
theorem dX9_rate_67 : decode cX9_rate 67 = .ok (.goto 28, 3) := by decide +kernel
theorem dX9_rate_70 : decode cX9_rate 70 = .ok (.iload_n 1, 1) := by decide +kernel
theorem dX9_rate_71 : decode cX9_rate 71 = .ok (.iconst 3, 1) := by decide +kernel
theorem dX9_rate_72 : decode cX9_rate 72 = .ok (.if_icmp .ne 9, 3) := by decide +kernel
theorem dX9_rate_75 : decode cX9_rate 75 = .ok (.ldc2_w 188, 3) := by decide +kernel
theorem dX9_rate_78 : decode cX9_rate 78 = .ok (.goto 17, 3) := by decide +kernel
theorem dX9_rate_81 : decode cX9_rate 81 = .ok (.iload_n 1, 1) := by decide +kernel
theorem dX9_rate_82 : decode cX9_rate 82 = .ok (.iconst 4, 1) := by decide +kernel
theorem dX9_rate_83 : decode cX9_rate 83 = .ok (.if_icmp .ne 9, 3) := by decide +kernel
theorem dX9_rate_86 : decode cX9_rate 86 = .ok (.ldc2_w 190, 3) := by decide +kernel
theorem dX9_rate_89 : decode cX9_rate 89 = .ok (.goto 6, 3) := by decide +kernel
theorem dX9_rate_92 : decode cX9_rate 92 = .ok (.ldc2_w 192, 3) := by decide +kernel
theorem dX9_rate_95 : decode cX9_rate 95 = .ok (.ladd, 1) := by decide +kernel
theorem dX9_rate_96 : decode cX9_rate 96 = .ok (.putfield 180, 3) := by decide +kernel
theorem dX9_rate_99 : decode cX9_rate 99 = .ok (.iload_n 1, 1) := by decide +kernel
theorem dX9_rate_100 : decode cX9_rate 100 = .ok (.ifCond .ne 7, 3) := by decide +kernel
theorem dX9_rate_103 : decode cX9_rate 103 = .ok (.iload_n 3, 1) := by decide +kernel
theorem dX9_rate_104 : decode cX9_rate 104 = .ok (.goto 79, 3) := by decide +kernel
theorem dX9_rate_107 : decode cX9_rate 107 = .ok (.iload_n 1, 1) := by decide +kernel
theorem dX9_rate_108 : decode cX9_rate 108 = .ok (.iconst 1, 1) := by decide +kernel
theorem dX9_rate_109 : decode cX9_rate 109 = .ok (.if_icmp .ne 14, 3) := by decide +kernel
theorem dX9_rate_112 : decode cX9_rate 112 = .ok (.iload_n 3, 1) := by decide +kernel
theorem dX9_rate_113 : decode cX9_rate 113 = .ok (.aload_n 0, 1) := by decide +kernel
theorem dX9_rate_114 : decode cX9_rate 114 = .ok (.getfield 25, 3) := by decide +kernel
theorem dX9_rate_117 : decode cX9_rate 117 = .ok (.iload_n 2, 1) := by decide +kernel
theorem dX9_rate_118 : decode cX9_rate 118 = .ok (.iaload, 1) := by decide +kernel
theorem dX9_rate_119 : decode cX9_rate 119 = .ok (.iadd, 1) := by decide +kernel
theorem dX9_rate_120 : decode cX9_rate 120 = .ok (.goto 63, 3) := by decide +kernel
theorem dX9_rate_123 : decode cX9_rate 123 = .ok (.iload_n 1, 1) := by decide +kernel
theorem dX9_rate_124 : decode cX9_rate 124 = .ok (.iconst 2, 1) := by decide +kernel
theorem dX9_rate_125 : decode cX9_rate 125 = .ok (.if_icmp .ne 14, 3) := by decide +kernel
theorem dX9_rate_128 : decode cX9_rate 128 = .ok (.iload_n 3, 1) := by decide +kernel
theorem dX9_rate_129 : decode cX9_rate 129 = .ok (.aload_n 0, 1) := by decide +kernel
theorem dX9_rate_130 : decode cX9_rate 130 = .ok (.getfield 28, 3) := by decide +kernel
theorem dX9_rate_133 : decode cX9_rate 133 = .ok (.iload_n 2, 1) := by decide +kernel
theorem dX9_rate_134 : decode cX9_rate 134 = .ok (.iaload, 1) := by decide +kernel
theorem dX9_rate_135 : decode cX9_rate 135 = .ok (.isub, 1) := by decide +kernel
theorem dX9_rate_136 : decode cX9_rate 136 = .ok (.goto 47, 3) := by decide +kernel
theorem dX9_rate_139 : decode cX9_rate 139 = .ok (.iload_n 1, 1) := by decide +kernel
theorem dX9_rate_140 : decode cX9_rate 140 = .ok (.iconst 3, 1) := by decide +kernel
theorem dX9_rate_141 : decode cX9_rate 141 = .ok (.if_icmp .ne 16, 3) := by decide +kernel
theorem dX9_rate_144 : decode cX9_rate 144 = .ok (.iconst 2, 1) := by decide +kernel
theorem dX9_rate_145 : decode cX9_rate 145 = .ok (.iload_n 3, 1) := by decide +kernel
theorem dX9_rate_146 : decode cX9_rate 146 = .ok (.aload_n 0, 1) := by decide +kernel
theorem dX9_rate_147 : decode cX9_rate 147 = .ok (.getfield 25, 3) := by decide +kernel
theorem dX9_rate_150 : decode cX9_rate 150 = .ok (.iload_n 2, 1) := by decide +kernel
theorem dX9_rate_151 : decode cX9_rate 151 = .ok (.iaload, 1) := by decide +kernel
theorem dX9_rate_152 : decode cX9_rate 152 = .ok (.iadd, 1) := by decide +kernel
theorem dX9_rate_153 : decode cX9_rate 153 = .ok (.imul, 1) := by decide +kernel
theorem dX9_rate_154 : decode cX9_rate 154 = .ok (.goto 29, 3) := by decide +kernel
theorem dX9_rate_157 : decode cX9_rate 157 = .ok (.iload_n 1, 1) := by decide +kernel
theorem dX9_rate_158 : decode cX9_rate 158 = .ok (.iconst 4, 1) := by decide +kernel
theorem dX9_rate_159 : decode cX9_rate 159 = .ok (.if_icmp .ne 16, 3) := by decide +kernel
theorem dX9_rate_162 : decode cX9_rate 162 = .ok (.iload_n 3, 1) := by decide +kernel
theorem dX9_rate_163 : decode cX9_rate 163 = .ok (.aload_n 0, 1) := by decide +kernel
theorem dX9_rate_164 : decode cX9_rate 164 = .ok (.getfield 28, 3) := by decide +kernel
theorem dX9_rate_167 : decode cX9_rate 167 = .ok (.iload_n 2, 1) := by decide +kernel
theorem dX9_rate_168 : decode cX9_rate 168 = .ok (.iaload, 1) := by decide +kernel
theorem dX9_rate_169 : decode cX9_rate 169 = .ok (.isub, 1) := by decide +kernel
theorem dX9_rate_170 : decode cX9_rate 170 = .ok (.iload_n 2, 1) := by decide +kernel
theorem dX9_rate_171 : decode cX9_rate 171 = .ok (.iadd, 1) := by decide +kernel
theorem dX9_rate_172 : decode cX9_rate 172 = .ok (.goto 11, 3) := by decide +kernel
theorem dX9_rate_175 : decode cX9_rate 175 = .ok (.iload_n 3, 1) := by decide +kernel
theorem dX9_rate_176 : decode cX9_rate 176 = .ok (.aload_n 0, 1) := by decide +kernel
theorem dX9_rate_177 : decode cX9_rate 177 = .ok (.getfield 31, 3) := by decide +kernel
theorem dX9_rate_180 : decode cX9_rate 180 = .ok (.iconst 1, 1) := by decide +kernel
theorem dX9_rate_181 : decode cX9_rate 181 = .ok (.iaload, 1) := by decide +kernel
theorem dX9_rate_182 : decode cX9_rate 182 = .ok (.iadd, 1) := by decide +kernel
theorem dX9_rate_183 : decode cX9_rate 183 = .ok (.ireturn, 1) := by decide +kernel
set_option maxRecDepth 20000 in
theorem ggX9_keep_X9_in : GoodIn wsX9_keep wsX9_in := goodIn_r _ [8] (by decide +kernel) (by decide +kernel)
set_option maxRecDepth 20000 in
theorem gX9_keep_X9_in : GoodIn wsX9_keep (va_wsS RX9 66 yX9_in wsX9_in) := goodIn_app (goodIn_of _ (by decide +kernel)) ggX9_keep_X9_in
theorem dX9_keep_0 : decode cX9_keep 0 = .ok (.aload_n 0, 1) := by decide +kernel
theorem dX9_keep_1 : decode cX9_keep 1 = .ok (.iconst 0, 1) := by decide +kernel
theorem dX9_keep_2 : decode cX9_keep 2 = .ok (.putfield 62, 3) := by decide +kernel
theorem dX9_keep_5 : decode cX9_keep 5 = .ok (.iload_n 1, 1) := by decide +kernel
theorem dX9_keep_6 : decode cX9_keep 6 = .ok (.iconst 0, 1) := by decide +kernel
theorem dX9_keep_7 : decode cX9_keep 7 = .ok (.iconst 1, 1) := by decide +kernel
theorem dX9_keep_8 : decode cX9_keep 8 = .ok (.invokestatic 66, 3) := by decide +kernel
theorem dX9_keep_11 : decode cX9_keep 11 = .ok (.ifCond .ne 5, 3) := by decide +kernel
theorem dX9_keep_14 : decode cX9_keep 14 = .ok (.iconst (-1), 1) := by decide +kernel
theorem dX9_keep_15 : decode cX9_keep 15 = .ok (.ireturn, 1) := by decide +kernel
theorem dX9_keep_16 : decode cX9_keep 16 = .ok (.iconst 0, 1) := by decide +kernel
theorem dX9_keep_17 : decode cX9_keep 17 = .ok (.istore_n 2, 1) := by decide +kernel
theorem dX9_keep_18 : decode cX9_keep 18 = .ok (.iload_n 2, 1) := by decide +kernel
theorem dX9_keep_19 : decode cX9_keep 19 = .ok (.bipush 18, 2) := by decide +kernel
theorem dX9_keep_21 : decode cX9_keep 21 = .ok (.if_icmp .ge 26, 3) := by decide +kernel
theorem dX9_keep_24 : decode cX9_keep 24 = .ok (.aload_n 0, 1) := by decide +kernel
theorem dX9_keep_25 : decode cX9_keep 25 = .ok (.getfield 37, 3) := by decide +kernel
theorem dX9_keep_28 : decode cX9_keep 28 = .ok (.bipush 18, 2) := by decide +kernel
theorem dX9_keep_30 : decode cX9_keep 30 = .ok (.iload_n 1, 1) := by decide +kernel
theorem dX9_keep_31 : decode cX9_keep 31 = .ok (.imul, 1) := by decide +kernel
theorem dX9_keep_32 : decode cX9_keep 32 = .ok (.iload_n 2, 1) := by decide +kernel
theorem dX9_keep_33 : decode cX9_keep 33 = .ok (.iadd, 1) := by decide +kernel
theorem dX9_keep_34 : decode cX9_keep 34 = .ok (.aload_n 0, 1) := by decide +kernel
theorem dX9_keep_35 : decode cX9_keep 35 = .ok (.getfield 31, 3) := by decide +kernel
theorem dX9_keep_38 : decode cX9_keep 38 = .ok (.iload_n 2, 1) := by decide +kernel
theorem dX9_keep_39 : decode cX9_keep 39 = .ok (.iaload, 1) := by decide +kernel
theorem dX9_keep_40 : decode cX9_keep 40 = .ok (.iastore, 1) := by decide +kernel
theorem dX9_keep_41 : decode cX9_keep 41 = .ok (.iinc 2 1, 3) := by decide +kernel
theorem dX9_keep_44 : decode cX9_keep 44 = .ok (.goto (-26), 3) := by decide +kernel
theorem dX9_keep_47 : decode cX9_keep 47 = .ok (.aload_n 0, 1) := by decide +kernel
theorem dX9_keep_48 : decode cX9_keep 48 = .ok (.getfield 40, 3) := by decide +kernel
theorem dX9_keep_51 : decode cX9_keep 51 = .ok (.iload_n 1, 1) := by decide +kernel
theorem dX9_keep_52 : decode cX9_keep 52 = .ok (.iconst 1, 1) := by decide +kernel
theorem dX9_keep_53 : decode cX9_keep 53 = .ok (.bastore, 1) := by decide +kernel
theorem dX9_keep_54 : decode cX9_keep 54 = .ok (.aload_n 0, 1) := by decide +kernel
theorem dX9_keep_55 : decode cX9_keep 55 = .ok (.getfield 31, 3) := by decide +kernel
theorem dX9_keep_58 : decode cX9_keep 58 = .ok (.iconst 0, 1) := by decide +kernel
theorem dX9_keep_59 : decode cX9_keep 59 = .ok (.iaload, 1) := by decide +kernel
theorem dX9_keep_60 : decode cX9_keep 60 = .ok (.ireturn, 1) := by decide +kernel
set_option maxRecDepth 20000 in
theorem ggX9_back_X9_in : GoodIn wsX9_back wsX9_in := goodIn_r _ [9] (by decide +kernel) (by decide +kernel)
set_option maxRecDepth 20000 in
theorem gX9_back_X9_in : GoodIn wsX9_back (va_wsS RX9 66 yX9_in wsX9_in) := goodIn_app (goodIn_of _ (by decide +kernel)) ggX9_back_X9_in
theorem dX9_back_0 : decode cX9_back 0 = .ok (.aload_n 0, 1) := by decide +kernel
theorem dX9_back_1 : decode cX9_back 1 = .ok (.iconst 0, 1) := by decide +kernel
theorem dX9_back_2 : decode cX9_back 2 = .ok (.putfield 62, 3) := by decide +kernel
theorem dX9_back_5 : decode cX9_back 5 = .ok (.iload_n 1, 1) := by decide +kernel
theorem dX9_back_6 : decode cX9_back 6 = .ok (.iconst 0, 1) := by decide +kernel
theorem dX9_back_7 : decode cX9_back 7 = .ok (.iconst 1, 1) := by decide +kernel
theorem dX9_back_8 : decode cX9_back 8 = .ok (.invokestatic 66, 3) := by decide +kernel
theorem dX9_back_11 : decode cX9_back 11 = .ok (.ifCond .ne 5, 3) := by decide +kernel
theorem dX9_back_14 : decode cX9_back 14 = .ok (.iconst (-1), 1) := by decide +kernel
theorem dX9_back_15 : decode cX9_back 15 = .ok (.ireturn, 1) := by decide +kernel
theorem dX9_back_16 : decode cX9_back 16 = .ok (.aload_n 0, 1) := by decide +kernel
theorem dX9_back_17 : decode cX9_back 17 = .ok (.getfield 40, 3) := by decide +kernel
theorem dX9_back_20 : decode cX9_back 20 = .ok (.iload_n 1, 1) := by decide +kernel
theorem dX9_back_21 : decode cX9_back 21 = .ok (.baload, 1) := by decide +kernel
theorem dX9_back_22 : decode cX9_back 22 = .ok (.ifCond .ne 6, 3) := by decide +kernel
theorem dX9_back_25 : decode cX9_back 25 = .ok (.bipush (-2), 2) := by decide +kernel
theorem dX9_back_27 : decode cX9_back 27 = .ok (.ireturn, 1) := by decide +kernel
theorem dX9_back_28 : decode cX9_back 28 = .ok (.iconst 0, 1) := by decide +kernel
theorem dX9_back_29 : decode cX9_back 29 = .ok (.istore_n 2, 1) := by decide +kernel
theorem dX9_back_30 : decode cX9_back 30 = .ok (.iload_n 2, 1) := by decide +kernel
theorem dX9_back_31 : decode cX9_back 31 = .ok (.bipush 18, 2) := by decide +kernel
theorem dX9_back_33 : decode cX9_back 33 = .ok (.if_icmp .ge 26, 3) := by decide +kernel
theorem dX9_back_36 : decode cX9_back 36 = .ok (.aload_n 0, 1) := by decide +kernel
theorem dX9_back_37 : decode cX9_back 37 = .ok (.getfield 31, 3) := by decide +kernel
theorem dX9_back_40 : decode cX9_back 40 = .ok (.iload_n 2, 1) := by decide +kernel
theorem dX9_back_41 : decode cX9_back 41 = .ok (.aload_n 0, 1) := by decide +kernel
theorem dX9_back_42 : decode cX9_back 42 = .ok (.getfield 37, 3) := by decide +kernel
theorem dX9_back_45 : decode cX9_back 45 = .ok (.bipush 18, 2) := by decide +kernel
theorem dX9_back_47 : decode cX9_back 47 = .ok (.iload_n 1, 1) := by decide +kernel
theorem dX9_back_48 : decode cX9_back 48 = .ok (.imul, 1) := by decide +kernel
theorem dX9_back_49 : decode cX9_back 49 = .ok (.iload_n 2, 1) := by decide +kernel
theorem dX9_back_50 : decode cX9_back 50 = .ok (.iadd, 1) := by decide +kernel
theorem dX9_back_51 : decode cX9_back 51 = .ok (.iaload, 1) := by decide +kernel
theorem dX9_back_52 : decode cX9_back 52 = .ok (.iastore, 1) := by decide +kernel
theorem dX9_back_53 : decode cX9_back 53 = .ok (.iinc 2 1, 3) := by decide +kernel
theorem dX9_back_56 : decode cX9_back 56 = .ok (.goto (-26), 3) := by decide +kernel
theorem dX9_back_59 : decode cX9_back 59 = .ok (.aload_n 0, 1) := by decide +kernel
theorem dX9_back_60 : decode cX9_back 60 = .ok (.iconst 0, 1) := by decide +kernel
theorem dX9_back_61 : decode cX9_back 61 = .ok (.putfield 120, 3) := by decide +kernel
theorem dX9_back_64 : decode cX9_back 64 = .ok (.aload_n 0, 1) := by decide +kernel
theorem dX9_back_65 : decode cX9_back 65 = .ok (.getfield 31, 3) := by decide +kernel
theorem dX9_back_68 : decode cX9_back 68 = .ok (.iconst 0, 1) := by decide +kernel
theorem dX9_back_69 : decode cX9_back 69 = .ok (.iaload, 1) := by decide +kernel
theorem dX9_back_70 : decode cX9_back 70 = .ok (.ireturn, 1) := by decide +kernel
theorem dX9_count_0 : decode cX9_count 0 = .ok (.aload_n 0, 1) := by decide +kernel
theorem dX9_count_1 : decode cX9_count 1 = .ok (.iconst 0, 1) := by decide +kernel
theorem dX9_count_2 : decode cX9_count 2 = .ok (.putfield 62, 3) := by decide +kernel
theorem dX9_count_5 : decode cX9_count 5 = .ok (.iload_n 1, 1) := by decide +kernel
theorem dX9_count_6 : decode cX9_count 6 = .ok (.ifCond .ne 12, 3) := by decide +kernel
theorem dX9_count_9 : decode cX9_count 9 = .ok (.aload_n 0, 1) := by decide +kernel
theorem dX9_count_10 : decode cX9_count 10 = .ok (.getfield 13, 3) := by decide +kernel
theorem dX9_count_13 : decode cX9_count 13 = .ok (.iconst 0, 1) := by decide +kernel
theorem dX9_count_14 : decode cX9_count 14 = .ok (.iaload, 1) := by decide +kernel
theorem dX9_count_15 : decode cX9_count 15 = .ok (.goto 28, 3) := by decide +kernel
theorem dX9_count_18 : decode cX9_count 18 = .ok (.iload_n 1, 1) := by decide +kernel
theorem dX9_count_19 : decode cX9_count 19 = .ok (.iconst 1, 1) := by decide +kernel
theorem dX9_count_20 : decode cX9_count 20 = .ok (.if_icmp .ne 10, 3) := by decide +kernel
theorem dX9_count_23 : decode cX9_count 23 = .ok (.aload_n 0, 1) := by decide +kernel
theorem dX9_count_24 : decode cX9_count 24 = .ok (.getfield 117, 3) := by decide +kernel
theorem dX9_count_27 : decode cX9_count 27 = .ok (.goto 16, 3) := by decide +kernel
theorem dX9_count_30 : decode cX9_count 30 = .ok (.iload_n 1, 1) := by decide +kernel
theorem dX9_count_31 : decode cX9_count 31 = .ok (.iconst 2, 1) := by decide +kernel
theorem dX9_count_32 : decode cX9_count 32 = .ok (.if_icmp .ne 10, 3) := by decide +kernel
theorem dX9_count_35 : decode cX9_count 35 = .ok (.aload_n 0, 1) := by decide +kernel
theorem dX9_count_36 : decode cX9_count 36 = .ok (.getfield 70, 3) := by decide +kernel
theorem dX9_count_39 : decode cX9_count 39 = .ok (.goto 4, 3) := by decide +kernel
theorem dX9_count_42 : decode cX9_count 42 = .ok (.iconst (-1), 1) := by decide +kernel
theorem dX9_count_43 : decode cX9_count 43 = .ok (.ireturn, 1) := by decide +kernel
theorem dX9_trace_0 : decode cX9_trace 0 = .ok (.aload_n 0, 1) := by decide +kernel
theorem dX9_trace_1 : decode cX9_trace 1 = .ok (.iconst 0, 1) := by decide +kernel
theorem dX9_trace_2 : decode cX9_trace 2 = .ok (.putfield 62, 3) := by decide +kernel
theorem dX9_trace_5 : decode cX9_trace 5 = .ok (.aload_n 0, 1) := by decide +kernel
theorem dX9_trace_6 : decode cX9_trace 6 = .ok (.getfield 180, 3) := by decide +kernel
theorem dX9_trace_9 : decode cX9_trace 9 = .ok (.lreturn, 1) := by decide +kernel
theorem dJ6_bitCount_0f7a4_0 : decode cJ6_bitCount_0f7a4 0 = .ok (.iload_n 0, 1) := by decide +kernel
theorem dJ6_bitCount_0f7a4_1 : decode cJ6_bitCount_0f7a4 1 = .ok (.iload_n 0, 1) := by decide +kernel
theorem dJ6_bitCount_0f7a4_2 : decode cJ6_bitCount_0f7a4 2 = .ok (.iconst 1, 1) := by decide +kernel
theorem dJ6_bitCount_0f7a4_3 : decode cJ6_bitCount_0f7a4 3 = .ok (.iushr, 1) := by decide +kernel
theorem dJ6_bitCount_0f7a4_4 : decode cJ6_bitCount_0f7a4 4 = .ok (.ldc_w 265, 3) := by decide +kernel
theorem dJ6_bitCount_0f7a4_7 : decode cJ6_bitCount_0f7a4 7 = .ok (.iand, 1) := by decide +kernel
theorem dJ6_bitCount_0f7a4_8 : decode cJ6_bitCount_0f7a4 8 = .ok (.isub, 1) := by decide +kernel
theorem dJ6_bitCount_0f7a4_9 : decode cJ6_bitCount_0f7a4 9 = .ok (.istore_n 0, 1) := by decide +kernel
theorem dJ6_bitCount_0f7a4_10 : decode cJ6_bitCount_0f7a4 10 = .ok (.iload_n 0, 1) := by decide +kernel
theorem dJ6_bitCount_0f7a4_11 : decode cJ6_bitCount_0f7a4 11 = .ok (.ldc_w 266, 3) := by decide +kernel
theorem dJ6_bitCount_0f7a4_14 : decode cJ6_bitCount_0f7a4 14 = .ok (.iand, 1) := by decide +kernel
theorem dJ6_bitCount_0f7a4_15 : decode cJ6_bitCount_0f7a4 15 = .ok (.iload_n 0, 1) := by decide +kernel
theorem dJ6_bitCount_0f7a4_16 : decode cJ6_bitCount_0f7a4 16 = .ok (.iconst 2, 1) := by decide +kernel
theorem dJ6_bitCount_0f7a4_17 : decode cJ6_bitCount_0f7a4 17 = .ok (.iushr, 1) := by decide +kernel
theorem dJ6_bitCount_0f7a4_18 : decode cJ6_bitCount_0f7a4 18 = .ok (.ldc_w 266, 3) := by decide +kernel
theorem dJ6_bitCount_0f7a4_21 : decode cJ6_bitCount_0f7a4 21 = .ok (.iand, 1) := by decide +kernel
theorem dJ6_bitCount_0f7a4_22 : decode cJ6_bitCount_0f7a4 22 = .ok (.iadd, 1) := by decide +kernel
theorem dJ6_bitCount_0f7a4_23 : decode cJ6_bitCount_0f7a4 23 = .ok (.istore_n 0, 1) := by decide +kernel
theorem dJ6_bitCount_0f7a4_24 : decode cJ6_bitCount_0f7a4 24 = .ok (.iload_n 0, 1) := by decide +kernel
theorem dJ6_bitCount_0f7a4_25 : decode cJ6_bitCount_0f7a4 25 = .ok (.iload_n 0, 1) := by decide +kernel
theorem dJ6_bitCount_0f7a4_26 : decode cJ6_bitCount_0f7a4 26 = .ok (.iconst 4, 1) := by decide +kernel
theorem dJ6_bitCount_0f7a4_27 : decode cJ6_bitCount_0f7a4 27 = .ok (.iushr, 1) := by decide +kernel
theorem dJ6_bitCount_0f7a4_28 : decode cJ6_bitCount_0f7a4 28 = .ok (.iadd, 1) := by decide +kernel
theorem dJ6_bitCount_0f7a4_29 : decode cJ6_bitCount_0f7a4 29 = .ok (.ldc_w 267, 3) := by decide +kernel
theorem dJ6_bitCount_0f7a4_32 : decode cJ6_bitCount_0f7a4 32 = .ok (.iand, 1) := by decide +kernel
theorem dJ6_bitCount_0f7a4_33 : decode cJ6_bitCount_0f7a4 33 = .ok (.istore_n 0, 1) := by decide +kernel
theorem dJ6_bitCount_0f7a4_34 : decode cJ6_bitCount_0f7a4 34 = .ok (.iload_n 0, 1) := by decide +kernel
theorem dJ6_bitCount_0f7a4_35 : decode cJ6_bitCount_0f7a4 35 = .ok (.iload_n 0, 1) := by decide +kernel
theorem dJ6_bitCount_0f7a4_36 : decode cJ6_bitCount_0f7a4 36 = .ok (.bipush 8, 2) := by decide +kernel
theorem dJ6_bitCount_0f7a4_38 : decode cJ6_bitCount_0f7a4 38 = .ok (.iushr, 1) := by decide +kernel
theorem dJ6_bitCount_0f7a4_39 : decode cJ6_bitCount_0f7a4 39 = .ok (.iadd, 1) := by decide +kernel
theorem dJ6_bitCount_0f7a4_40 : decode cJ6_bitCount_0f7a4 40 = .ok (.istore_n 0, 1) := by decide +kernel
theorem dJ6_bitCount_0f7a4_41 : decode cJ6_bitCount_0f7a4 41 = .ok (.iload_n 0, 1) := by decide +kernel
theorem dJ6_bitCount_0f7a4_42 : decode cJ6_bitCount_0f7a4 42 = .ok (.iload_n 0, 1) := by decide +kernel
