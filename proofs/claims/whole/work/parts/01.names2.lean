theorem dX4_priceAll_7 : decode cX4_priceAll 7 = .ok (.getfield 9, 3) := by decide +kernel
theorem dX4_priceAll_10 : decode cX4_priceAll 10 = .ok (.getfield 79, 3) := by decide +kernel
theorem dX4_priceAll_13 : decode cX4_priceAll 13 = .ok (.if_icmp .ge 148, 3) := by decide +kernel
theorem dX4_priceAll_16 : decode cX4_priceAll 16 = .ok (.aload_n 0, 1) := by decide +kernel
theorem dX4_priceAll_17 : decode cX4_priceAll 17 = .ok (.getfield 58, 3) := by decide +kernel
theorem dX4_priceAll_20 : decode cX4_priceAll 20 = .ok (.iload_n 1, 1) := by decide +kernel
theorem dX4_priceAll_21 : decode cX4_priceAll 21 = .ok (.ishr, 1) := by decide +kernel
theorem dX4_priceAll_22 : decode cX4_priceAll 22 = .ok (.iconst 1, 1) := by decide +kernel
theorem dX4_priceAll_23 : decode cX4_priceAll 23 = .ok (.iand, 1) := by decide +kernel
theorem dX4_priceAll_24 : decode cX4_priceAll 24 = .ok (.iconst 1, 1) := by decide +kernel
theorem dX4_priceAll_25 : decode cX4_priceAll 25 = .ok (.if_icmp .ne 7, 3) := by decide +kernel
theorem dX4_priceAll_28 : decode cX4_priceAll 28 = .ok (.iconst 1, 1) := by decide +kernel
theorem dX4_priceAll_29 : decode cX4_priceAll 29 = .ok (.goto 4, 3) := by decide +kernel
theorem dX4_priceAll_32 : decode cX4_priceAll 32 = .ok (.iconst 0, 1) := by decide +kernel
theorem dX4_priceAll_33 : decode cX4_priceAll 33 = .ok (.istore_n 2, 1) := by decide +kernel
theorem dX4_priceAll_34 : decode cX4_priceAll 34 = .ok (.iload_n 2, 1) := by decide +kernel
theorem dX4_priceAll_35 : decode cX4_priceAll 35 = .ok (.ifCond .eq 7, 3) := by decide +kernel
theorem dX4_priceAll_38 : decode cX4_priceAll 38 = .ok (.iconst 0, 1) := by decide +kernel
theorem dX4_priceAll_39 : decode cX4_priceAll 39 = .ok (.goto 23, 3) := by decide +kernel
theorem dX4_priceAll_42 : decode cX4_priceAll 42 = .ok (.aload_n 0, 1) := by decide +kernel
theorem dX4_priceAll_43 : decode cX4_priceAll 43 = .ok (.getfield 9, 3) := by decide +kernel
theorem dX4_priceAll_46 : decode cX4_priceAll 46 = .ok (.iload_n 1, 1) := by decide +kernel
theorem dX4_priceAll_47 : decode cX4_priceAll 47 = .ok (.aload_n 0, 1) := by decide +kernel
theorem dX4_priceAll_48 : decode cX4_priceAll 48 = .ok (.getfield 15, 3) := by decide +kernel
theorem dX4_priceAll_51 : decode cX4_priceAll 51 = .ok (.iload_n 1, 1) := by decide +kernel
theorem dX4_priceAll_52 : decode cX4_priceAll 52 = .ok (.invokestatic 75, 3) := by decide +kernel
theorem dX4_priceAll_55 : decode cX4_priceAll 55 = .ok (.aload_n 0, 1) := by decide +kernel
theorem dX4_priceAll_56 : decode cX4_priceAll 56 = .ok (.getfield 50, 3) := by decide +kernel
theorem dX4_priceAll_59 : decode cX4_priceAll 59 = .ok (.invokevirtual 84, 3) := by decide +kernel
theorem dX4_priceAll_62 : decode cX4_priceAll 62 = .ok (.istore_n 3, 1) := by decide +kernel
theorem dX4_priceAll_63 : decode cX4_priceAll 63 = .ok (.aload_n 0, 1) := by decide +kernel
theorem dX4_priceAll_64 : decode cX4_priceAll 64 = .ok (.getfield 25, 3) := by decide +kernel
theorem dX4_priceAll_67 : decode cX4_priceAll 67 = .ok (.iload_n 1, 1) := by decide +kernel
theorem dX4_priceAll_68 : decode cX4_priceAll 68 = .ok (.iload_n 3, 1) := by decide +kernel
theorem dX4_priceAll_69 : decode cX4_priceAll 69 = .ok (.invokestatic 88, 3) := by decide +kernel
theorem dX4_priceAll_72 : decode cX4_priceAll 72 = .ok (.aload_n 0, 1) := by decide +kernel
theorem dX4_priceAll_73 : decode cX4_priceAll 73 = .ok (.getfield 28, 3) := by decide +kernel
theorem dX4_priceAll_76 : decode cX4_priceAll 76 = .ok (.iload_n 1, 1) := by decide +kernel
theorem dX4_priceAll_77 : decode cX4_priceAll 77 = .ok (.aload_n 0, 1) := by decide +kernel
theorem dX4_priceAll_78 : decode cX4_priceAll 78 = .ok (.getfield 9, 3) := by decide +kernel
theorem dX4_priceAll_81 : decode cX4_priceAll 81 = .ok (.iload_n 1, 1) := by decide +kernel
theorem dX4_priceAll_82 : decode cX4_priceAll 82 = .ok (.iconst 4, 1) := by decide +kernel
theorem dX4_priceAll_83 : decode cX4_priceAll 83 = .ok (.invokevirtual 92, 3) := by decide +kernel
theorem dX4_priceAll_86 : decode cX4_priceAll 86 = .ok (.aload_n 0, 1) := by decide +kernel
theorem dX4_priceAll_87 : decode cX4_priceAll 87 = .ok (.getfield 50, 3) := by decide +kernel
theorem dX4_priceAll_90 : decode cX4_priceAll 90 = .ok (.imul, 1) := by decide +kernel
theorem dX4_priceAll_91 : decode cX4_priceAll 91 = .ok (.invokestatic 88, 3) := by decide +kernel
theorem dX4_priceAll_94 : decode cX4_priceAll 94 = .ok (.iload_n 1, 1) := by decide +kernel
theorem dX4_priceAll_95 : decode cX4_priceAll 95 = .ok (.iconst 1, 1) := by decide +kernel
theorem dX4_priceAll_96 : decode cX4_priceAll 96 = .ok (.iadd, 1) := by decide +kernel
theorem dX4_priceAll_97 : decode cX4_priceAll 97 = .ok (.aload_n 0, 1) := by decide +kernel
theorem dX4_priceAll_98 : decode cX4_priceAll 98 = .ok (.getfield 9, 3) := by decide +kernel
theorem dX4_priceAll_101 : decode cX4_priceAll 101 = .ok (.getfield 79, 3) := by decide +kernel
theorem dX4_priceAll_104 : decode cX4_priceAll 104 = .ok (.if_icmp .ge 30, 3) := by decide +kernel
theorem dX4_priceAll_107 : decode cX4_priceAll 107 = .ok (.aload_n 0, 1) := by decide +kernel
theorem dX4_priceAll_108 : decode cX4_priceAll 108 = .ok (.getfield 9, 3) := by decide +kernel
theorem dX4_priceAll_111 : decode cX4_priceAll 111 = .ok (.iload_n 1, 1) := by decide +kernel
theorem dX4_priceAll_112 : decode cX4_priceAll 112 = .ok (.iconst 2, 1) := by decide +kernel
theorem dX4_priceAll_113 : decode cX4_priceAll 113 = .ok (.invokevirtual 92, 3) := by decide +kernel
theorem dX4_priceAll_116 : decode cX4_priceAll 116 = .ok (.aload_n 0, 1) := by decide +kernel
theorem dX4_priceAll_117 : decode cX4_priceAll 117 = .ok (.getfield 9, 3) := by decide +kernel
theorem dX4_priceAll_120 : decode cX4_priceAll 120 = .ok (.iload_n 1, 1) := by decide +kernel
theorem dX4_priceAll_121 : decode cX4_priceAll 121 = .ok (.iconst 1, 1) := by decide +kernel
theorem dX4_priceAll_122 : decode cX4_priceAll 122 = .ok (.iadd, 1) := by decide +kernel
theorem dX4_priceAll_123 : decode cX4_priceAll 123 = .ok (.iconst 2, 1) := by decide +kernel
theorem dX4_priceAll_124 : decode cX4_priceAll 124 = .ok (.invokevirtual 92, 3) := by decide +kernel
theorem dX4_priceAll_127 : decode cX4_priceAll 127 = .ok (.if_icmp .ne 7, 3) := by decide +kernel
theorem dX4_priceAll_130 : decode cX4_priceAll 130 = .ok (.iconst 1, 1) := by decide +kernel
theorem dX4_priceAll_131 : decode cX4_priceAll 131 = .ok (.goto 4, 3) := by decide +kernel
theorem dX4_priceAll_134 : decode cX4_priceAll 134 = .ok (.iconst 0, 1) := by decide +kernel
theorem dX4_priceAll_135 : decode cX4_priceAll 135 = .ok (.istore 4, 2) := by decide +kernel
theorem dX4_priceAll_137 : decode cX4_priceAll 137 = .ok (.aload_n 0, 1) := by decide +kernel
theorem dX4_priceAll_138 : decode cX4_priceAll 138 = .ok (.getfield 31, 3) := by decide +kernel
theorem dX4_priceAll_141 : decode cX4_priceAll 141 = .ok (.iload_n 1, 1) := by decide +kernel
theorem dX4_priceAll_142 : decode cX4_priceAll 142 = .ok (.iload 4, 2) := by decide +kernel
theorem dX4_priceAll_144 : decode cX4_priceAll 144 = .ok (.ifCond .eq 7, 3) := by decide +kernel
theorem dX4_priceAll_147 : decode cX4_priceAll 147 = .ok (.iconst 1, 1) := by decide +kernel
theorem dX4_priceAll_148 : decode cX4_priceAll 148 = .ok (.goto 4, 3) := by decide +kernel
theorem dX4_priceAll_151 : decode cX4_priceAll 151 = .ok (.iconst 0, 1) := by decide +kernel
theorem dX4_priceAll_152 : decode cX4_priceAll 152 = .ok (.invokestatic 88, 3) := by decide +kernel
theorem dX4_priceAll_155 : decode cX4_priceAll 155 = .ok (.iinc 1 1, 3) := by decide +kernel
theorem dX4_priceAll_158 : decode cX4_priceAll 158 = .ok (.goto (-153), 3) := by decide +kernel
theorem dX4_priceAll_161 : decode cX4_priceAll 161 = .ok (.return_, 1) := by decide +kernel
set_option maxRecDepth 20000 in
theorem ggX4_weighAll_X4_setLeast : GoodIn wsX4_weighAll wsX4_setLeast := goodIn_r _ [12, 13, 14, 15, 16, 17, 44, 45, 46, 47, 48, 49, 50, 51, 52, 53, 54, 55, 56, 57] (by decide +kernel) (by decide +kernel)
set_option maxRecDepth 20000 in
theorem gX4_weighAll_X4_setLeast : GoodIn wsX4_weighAll (wsV RX4 96 RX4 yX4_setLeast wsX4_setLeast) := goodIn_app (goodIn_of _ (by decide +kernel)) ggX4_weighAll_X4_setLeast
set_option maxRecDepth 20000 in
theorem ggX4_weighAll_X4_costByPay : GoodIn wsX4_weighAll wsX4_costByPay := goodIn_r _ [21, 22, 23, 24, 11, 25, 26, 27, 28, 16, 29, 30, 31, 32, 33, 34, 35, 36, 37, 38, 13, 44, 45, 46, 47, 48, 49, 50, 51, 52, 53, 54, 55, 56, 57] (by decide +kernel) (by decide +kernel)
set_option maxRecDepth 20000 in
theorem gX4_weighAll_X4_costByPay : GoodIn wsX4_weighAll (wsV RX4 100 RX4 yX4_costByPay wsX4_costByPay) := goodIn_app (goodIn_of _ (by decide +kernel)) ggX4_weighAll_X4_costByPay
set_option maxRecDepth 20000 in
theorem ggX4_weighAll_X4_costByLand : GoodIn wsX4_weighAll wsX4_costByLand := goodIn_r _ [42, 43, 27, 28, 16, 29, 35, 36, 37, 11, 38, 13, 44, 45, 46, 47, 48, 49, 50, 51, 52, 53, 54, 55, 56, 57] (by decide +kernel) (by decide +kernel)
set_option maxRecDepth 20000 in
theorem gX4_weighAll_X4_costByLand : GoodIn wsX4_weighAll (wsV RX4 103 RX4 yX4_costByLand wsX4_costByLand) := goodIn_app (goodIn_of _ (by decide +kernel)) ggX4_weighAll_X4_costByLand
theorem dX4_weighAll_0 : decode cX4_weighAll 0 = .ok (.aload_n 0, 1) := by decide +kernel
theorem dX4_weighAll_1 : decode cX4_weighAll 1 = .ok (.aload_n 0, 1) := by decide +kernel
theorem dX4_weighAll_2 : decode cX4_weighAll 2 = .ok (.getfield 9, 3) := by decide +kernel
theorem dX4_weighAll_5 : decode cX4_weighAll 5 = .ok (.getfield 79, 3) := by decide +kernel
theorem dX4_weighAll_8 : decode cX4_weighAll 8 = .ok (.iconst 0, 1) := by decide +kernel
theorem dX4_weighAll_9 : decode cX4_weighAll 9 = .ok (.iconst 0, 1) := by decide +kernel
theorem dX4_weighAll_10 : decode cX4_weighAll 10 = .ok (.invokevirtual 96, 3) := by decide +kernel
theorem dX4_weighAll_13 : decode cX4_weighAll 13 = .ok (.aload_n 0, 1) := by decide +kernel
theorem dX4_weighAll_14 : decode cX4_weighAll 14 = .ok (.aload_n 0, 1) := by decide +kernel
theorem dX4_weighAll_15 : decode cX4_weighAll 15 = .ok (.getfield 9, 3) := by decide +kernel
theorem dX4_weighAll_18 : decode cX4_weighAll 18 = .ok (.getfield 79, 3) := by decide +kernel
theorem dX4_weighAll_21 : decode cX4_weighAll 21 = .ok (.iconst 1, 1) := by decide +kernel
theorem dX4_weighAll_22 : decode cX4_weighAll 22 = .ok (.iconst 0, 1) := by decide +kernel
theorem dX4_weighAll_23 : decode cX4_weighAll 23 = .ok (.invokevirtual 96, 3) := by decide +kernel
theorem dX4_weighAll_26 : decode cX4_weighAll 26 = .ok (.aload_n 0, 1) := by decide +kernel
theorem dX4_weighAll_27 : decode cX4_weighAll 27 = .ok (.getfield 9, 3) := by decide +kernel
theorem dX4_weighAll_30 : decode cX4_weighAll 30 = .ok (.getfield 79, 3) := by decide +kernel
theorem dX4_weighAll_33 : decode cX4_weighAll 33 = .ok (.iconst 1, 1) := by decide +kernel
theorem dX4_weighAll_34 : decode cX4_weighAll 34 = .ok (.isub, 1) := by decide +kernel
theorem dX4_weighAll_35 : decode cX4_weighAll 35 = .ok (.istore_n 1, 1) := by decide +kernel
theorem dX4_weighAll_36 : decode cX4_weighAll 36 = .ok (.iload_n 1, 1) := by decide +kernel
theorem dX4_weighAll_37 : decode cX4_weighAll 37 = .ok (.aload_n 0, 1) := by decide +kernel
theorem dX4_weighAll_38 : decode cX4_weighAll 38 = .ok (.getfield 46, 3) := by decide +kernel
theorem dX4_weighAll_41 : decode cX4_weighAll 41 = .ok (.if_icmp .lt 49, 3) := by decide +kernel
theorem dX4_weighAll_44 : decode cX4_weighAll 44 = .ok (.aload_n 0, 1) := by decide +kernel
theorem dX4_weighAll_45 : decode cX4_weighAll 45 = .ok (.iload_n 1, 1) := by decide +kernel
theorem dX4_weighAll_46 : decode cX4_weighAll 46 = .ok (.iconst 0, 1) := by decide +kernel
theorem dX4_weighAll_47 : decode cX4_weighAll 47 = .ok (.aload_n 0, 1) := by decide +kernel
theorem dX4_weighAll_48 : decode cX4_weighAll 48 = .ok (.iload_n 1, 1) := by decide +kernel
theorem dX4_weighAll_49 : decode cX4_weighAll 49 = .ok (.iconst 0, 1) := by decide +kernel
theorem dX4_weighAll_50 : decode cX4_weighAll 50 = .ok (.invokevirtual 100, 3) := by decide +kernel
theorem dX4_weighAll_53 : decode cX4_weighAll 53 = .ok (.aload_n 0, 1) := by decide +kernel
theorem dX4_weighAll_54 : decode cX4_weighAll 54 = .ok (.iload_n 1, 1) := by decide +kernel
theorem dX4_weighAll_55 : decode cX4_weighAll 55 = .ok (.invokevirtual 103, 3) := by decide +kernel
theorem dX4_weighAll_58 : decode cX4_weighAll 58 = .ok (.invokestatic 107, 3) := by decide +kernel
theorem dX4_weighAll_61 : decode cX4_weighAll 61 = .ok (.invokevirtual 96, 3) := by decide +kernel
theorem dX4_weighAll_64 : decode cX4_weighAll 64 = .ok (.aload_n 0, 1) := by decide +kernel
theorem dX4_weighAll_65 : decode cX4_weighAll 65 = .ok (.iload_n 1, 1) := by decide +kernel
theorem dX4_weighAll_66 : decode cX4_weighAll 66 = .ok (.iconst 1, 1) := by decide +kernel
theorem dX4_weighAll_67 : decode cX4_weighAll 67 = .ok (.aload_n 0, 1) := by decide +kernel
theorem dX4_weighAll_68 : decode cX4_weighAll 68 = .ok (.iload_n 1, 1) := by decide +kernel
theorem dX4_weighAll_69 : decode cX4_weighAll 69 = .ok (.iconst 1, 1) := by decide +kernel
theorem dX4_weighAll_70 : decode cX4_weighAll 70 = .ok (.invokevirtual 100, 3) := by decide +kernel
theorem dX4_weighAll_73 : decode cX4_weighAll 73 = .ok (.aload_n 0, 1) := by decide +kernel
theorem dX4_weighAll_74 : decode cX4_weighAll 74 = .ok (.iload_n 1, 1) := by decide +kernel
theorem dX4_weighAll_75 : decode cX4_weighAll 75 = .ok (.invokevirtual 103, 3) := by decide +kernel
theorem dX4_weighAll_78 : decode cX4_weighAll 78 = .ok (.invokestatic 107, 3) := by decide +kernel
theorem dX4_weighAll_81 : decode cX4_weighAll 81 = .ok (.invokevirtual 96, 3) := by decide +kernel
theorem dX4_weighAll_84 : decode cX4_weighAll 84 = .ok (.iinc 1 (-1), 3) := by decide +kernel
theorem dX4_weighAll_87 : decode cX4_weighAll 87 = .ok (.goto (-51), 3) := by decide +kernel
theorem dX4_weighAll_90 : decode cX4_weighAll 90 = .ok (.return_, 1) := by decide +kernel
set_option maxRecDepth 20000 in
theorem ggX4_walk_X3_fact : GoodIn wsX4_walk wsX3_fact := goodIn_r _ [14, 15, 16, 17, 18, 19, 62, 63, 64, 65, 66] (by decide +kernel) (by decide +kernel)
set_option maxRecDepth 20000 in
theorem gX4_walk_X3_fact : GoodIn wsX4_walk (wsV RX4 92 RX3 yX3_fact wsX3_fact) := goodIn_app (goodIn_of _ (by decide +kernel)) ggX4_walk_X3_fact
set_option maxRecDepth 20000 in
theorem ggX4_walk_X4_leastFrom : GoodIn wsX4_walk wsX4_leastFrom := goodIn_r _ [24, 25, 26, 17, 18, 19, 48, 49, 50, 51, 52, 53, 54, 55, 56, 57, 58, 59, 60, 61] (by decide +kernel) (by decide +kernel)
set_option maxRecDepth 20000 in
theorem gX4_walk_X4_leastFrom : GoodIn wsX4_walk (wsV RX4 112 RX4 yX4_leastFrom wsX4_leastFrom) := goodIn_app (goodIn_of _ (by decide +kernel)) ggX4_walk_X4_leastFrom
set_option maxRecDepth 20000 in
theorem ggX4_walk_X4_costByLand : GoodIn wsX4_walk wsX4_costByLand := goodIn_r _ [30, 9, 26, 17, 18, 19, 20, 21, 22, 23, 24, 25, 48, 49, 50, 51, 52, 53, 54, 55, 56, 57, 58, 59, 60, 61] (by decide +kernel) (by decide +kernel)
set_option maxRecDepth 20000 in
theorem gX4_walk_X4_costByLand : GoodIn wsX4_walk (wsV RX4 103 RX4 yX4_costByLand wsX4_costByLand) := goodIn_app (goodIn_of _ (by decide +kernel)) ggX4_walk_X4_costByLand
set_option maxRecDepth 20000 in
theorem ggX4_walk_X4_costByPay : GoodIn wsX4_walk wsX4_costByPay := goodIn_r _ [34, 35, 36, 37, 23, 38, 39, 26, 17, 18, 19, 40, 41, 42, 43, 44, 20, 21, 22, 24, 25, 48, 49, 50, 51, 52, 53, 54, 55, 56, 57, 58, 59, 60, 61] (by decide +kernel) (by decide +kernel)
set_option maxRecDepth 20000 in
theorem gX4_walk_X4_costByPay : GoodIn wsX4_walk (wsV RX4 100 RX4 yX4_costByPay wsX4_costByPay) := goodIn_app (goodIn_of _ (by decide +kernel)) ggX4_walk_X4_costByPay
set_option maxRecDepth 20000 in
theorem ggX4_walk_X4_due : GoodIn wsX4_walk wsX4_due := goodIn_r _ [38, 39, 26, 17, 18, 19, 48, 49, 50, 51, 52, 53, 54, 55, 56, 57, 58, 59, 60, 61] (by decide +kernel) (by decide +kernel)
set_option maxRecDepth 20000 in
theorem gX4_walk_X4_due : GoodIn wsX4_walk (wsV RX4 118 RX4 yX4_due wsX4_due) := goodIn_app (goodIn_of _ (by decide +kernel)) ggX4_walk_X4_due
set_option maxRecDepth 20000 in
theorem ggX4_walk_X5_put : GoodIn wsX4_walk wsX5_put := goodIn_r _ [47] (by decide +kernel) (by decide +kernel)
set_option maxRecDepth 20000 in
theorem gX4_walk_X5_put : GoodIn wsX4_walk (va_wsS RX4 88 yX5_put wsX5_put) := goodIn_app (goodIn_of _ (by decide +kernel)) ggX4_walk_X5_put
set_option maxRecDepth 20000 in
theorem ggX4_walk_X5_get : GoodIn wsX4_walk wsX5_get := goodIn_r _ [19] (by decide +kernel) (by decide +kernel)
set_option maxRecDepth 20000 in
theorem gX4_walk_X5_get : GoodIn wsX4_walk (va_wsS RX4 75 yX5_get wsX5_get) := goodIn_app (goodIn_of _ (by decide +kernel)) ggX4_walk_X5_get
set_option maxRecDepth 20000 in
theorem ggX4_walk_X4_freedBehind : GoodIn wsX4_walk wsX4_freedBehind := goodIn_r _ [43, 44, 26, 17, 18, 19, 48, 49, 50, 51, 52, 53, 54, 55, 56, 57, 58, 59, 60, 61] (by decide +kernel) (by decide +kernel)
set_option maxRecDepth 20000 in
theorem gX4_walk_X4_freedBehind : GoodIn wsX4_walk (wsV RX4 121 RX4 yX4_freedBehind wsX4_freedBehind) := goodIn_app (goodIn_of _ (by decide +kernel)) ggX4_walk_X4_freedBehind
theorem dX4_walk_0 : decode cX4_walk 0 = .ok (.aload_n 0, 1) := by decide +kernel
theorem dX4_walk_1 : decode cX4_walk 1 = .ok (.getfield 46, 3) := by decide +kernel
theorem dX4_walk_4 : decode cX4_walk 4 = .ok (.aload_n 0, 1) := by decide +kernel
theorem dX4_walk_5 : decode cX4_walk 5 = .ok (.getfield 9, 3) := by decide +kernel
theorem dX4_walk_8 : decode cX4_walk 8 = .ok (.getfield 79, 3) := by decide +kernel
theorem dX4_walk_11 : decode cX4_walk 11 = .ok (.if_icmp .ge 26, 3) := by decide +kernel
theorem dX4_walk_14 : decode cX4_walk 14 = .ok (.aload_n 0, 1) := by decide +kernel
theorem dX4_walk_15 : decode cX4_walk 15 = .ok (.getfield 54, 3) := by decide +kernel
theorem dX4_walk_18 : decode cX4_walk 18 = .ok (.aload_n 0, 1) := by decide +kernel
theorem dX4_walk_19 : decode cX4_walk 19 = .ok (.getfield 9, 3) := by decide +kernel
theorem dX4_walk_22 : decode cX4_walk 22 = .ok (.aload_n 0, 1) := by decide +kernel
theorem dX4_walk_23 : decode cX4_walk 23 = .ok (.getfield 46, 3) := by decide +kernel
theorem dX4_walk_26 : decode cX4_walk 26 = .ok (.iconst 2, 1) := by decide +kernel
theorem dX4_walk_27 : decode cX4_walk 27 = .ok (.invokevirtual 92, 3) := by decide +kernel
theorem dX4_walk_30 : decode cX4_walk 30 = .ok (.if_icmp .ne 7, 3) := by decide +kernel
theorem dX4_walk_33 : decode cX4_walk 33 = .ok (.iconst 1, 1) := by decide +kernel
theorem dX4_walk_34 : decode cX4_walk 34 = .ok (.goto 4, 3) := by decide +kernel
theorem dX4_walk_37 : decode cX4_walk 37 = .ok (.iconst 0, 1) := by decide +kernel
theorem dX4_walk_38 : decode cX4_walk 38 = .ok (.istore_n 1, 1) := by decide +kernel
theorem dX4_walk_39 : decode cX4_walk 39 = .ok (.aload_n 0, 1) := by decide +kernel
theorem dX4_walk_40 : decode cX4_walk 40 = .ok (.aload_n 0, 1) := by decide +kernel
theorem dX4_walk_41 : decode cX4_walk 41 = .ok (.aload_n 0, 1) := by decide +kernel
theorem dX4_walk_42 : decode cX4_walk 42 = .ok (.getfield 46, 3) := by decide +kernel
theorem dX4_walk_45 : decode cX4_walk 45 = .ok (.iload_n 1, 1) := by decide +kernel
theorem dX4_walk_46 : decode cX4_walk 46 = .ok (.invokevirtual 112, 3) := by decide +kernel
theorem dX4_walk_49 : decode cX4_walk 49 = .ok (.putfield 115, 3) := by decide +kernel
theorem dX4_walk_52 : decode cX4_walk 52 = .ok (.aload_n 0, 1) := by decide +kernel
theorem dX4_walk_53 : decode cX4_walk 53 = .ok (.getfield 46, 3) := by decide +kernel
theorem dX4_walk_56 : decode cX4_walk 56 = .ok (.istore_n 2, 1) := by decide +kernel
theorem dX4_walk_57 : decode cX4_walk 57 = .ok (.iload_n 2, 1) := by decide +kernel
theorem dX4_walk_58 : decode cX4_walk 58 = .ok (.aload_n 0, 1) := by decide +kernel
theorem dX4_walk_59 : decode cX4_walk 59 = .ok (.getfield 9, 3) := by decide +kernel
theorem dX4_walk_62 : decode cX4_walk 62 = .ok (.getfield 79, 3) := by decide +kernel
theorem dX4_walk_65 : decode cX4_walk 65 = .ok (.if_icmp .ge 105, 3) := by decide +kernel
theorem dX4_walk_68 : decode cX4_walk 68 = .ok (.aload_n 0, 1) := by decide +kernel
theorem dX4_walk_69 : decode cX4_walk 69 = .ok (.iload_n 2, 1) := by decide +kernel
theorem dX4_walk_70 : decode cX4_walk 70 = .ok (.invokevirtual 103, 3) := by decide +kernel
theorem dX4_walk_73 : decode cX4_walk 73 = .ok (.aload_n 0, 1) := by decide +kernel
theorem dX4_walk_74 : decode cX4_walk 74 = .ok (.iload_n 2, 1) := by decide +kernel
theorem dX4_walk_75 : decode cX4_walk 75 = .ok (.iload_n 1, 1) := by decide +kernel
theorem dX4_walk_76 : decode cX4_walk 76 = .ok (.invokevirtual 100, 3) := by decide +kernel
theorem dX4_walk_79 : decode cX4_walk 79 = .ok (.if_icmp .ge 7, 3) := by decide +kernel
theorem dX4_walk_82 : decode cX4_walk 82 = .ok (.iconst 1, 1) := by decide +kernel
theorem dX4_walk_83 : decode cX4_walk 83 = .ok (.goto 4, 3) := by decide +kernel
theorem dX4_walk_86 : decode cX4_walk 86 = .ok (.iconst 0, 1) := by decide +kernel
theorem dX4_walk_87 : decode cX4_walk 87 = .ok (.istore_n 3, 1) := by decide +kernel
theorem dX4_walk_88 : decode cX4_walk 88 = .ok (.iload_n 3, 1) := by decide +kernel
theorem dX4_walk_89 : decode cX4_walk 89 = .ok (.ifCond .eq 7, 3) := by decide +kernel
theorem dX4_walk_92 : decode cX4_walk 92 = .ok (.iconst 0, 1) := by decide +kernel
theorem dX4_walk_93 : decode cX4_walk 93 = .ok (.goto 9, 3) := by decide +kernel
theorem dX4_walk_96 : decode cX4_walk 96 = .ok (.aload_n 0, 1) := by decide +kernel
theorem dX4_walk_97 : decode cX4_walk 97 = .ok (.iload_n 2, 1) := by decide +kernel
theorem dX4_walk_98 : decode cX4_walk 98 = .ok (.iload_n 1, 1) := by decide +kernel
theorem dX4_walk_99 : decode cX4_walk 99 = .ok (.invokevirtual 118, 3) := by decide +kernel
theorem dX4_walk_102 : decode cX4_walk 102 = .ok (.istore 4, 2) := by decide +kernel
theorem dX4_walk_104 : decode cX4_walk 104 = .ok (.aload_n 0, 1) := by decide +kernel
theorem dX4_walk_105 : decode cX4_walk 105 = .ok (.getfield 22, 3) := by decide +kernel
theorem dX4_walk_108 : decode cX4_walk 108 = .ok (.iload_n 2, 1) := by decide +kernel
theorem dX4_walk_109 : decode cX4_walk 109 = .ok (.iload_n 3, 1) := by decide +kernel
theorem dX4_walk_110 : decode cX4_walk 110 = .ok (.ifCond .eq 7, 3) := by decide +kernel
theorem dX4_walk_113 : decode cX4_walk 113 = .ok (.iconst 1, 1) := by decide +kernel
theorem dX4_walk_114 : decode cX4_walk 114 = .ok (.goto 4, 3) := by decide +kernel
theorem dX4_walk_117 : decode cX4_walk 117 = .ok (.iconst 0, 1) := by decide +kernel
theorem dX4_walk_118 : decode cX4_walk 118 = .ok (.invokestatic 88, 3) := by decide +kernel
theorem dX4_walk_121 : decode cX4_walk 121 = .ok (.aload_n 0, 1) := by decide +kernel
theorem dX4_walk_122 : decode cX4_walk 122 = .ok (.getfield 19, 3) := by decide +kernel
theorem dX4_walk_125 : decode cX4_walk 125 = .ok (.iload_n 2, 1) := by decide +kernel
theorem dX4_walk_126 : decode cX4_walk 126 = .ok (.iload 4, 2) := by decide +kernel
theorem dX4_walk_128 : decode cX4_walk 128 = .ok (.invokestatic 88, 3) := by decide +kernel
theorem dX4_walk_131 : decode cX4_walk 131 = .ok (.aload_n 0, 1) := by decide +kernel
theorem dX4_walk_132 : decode cX4_walk 132 = .ok (.getfield 34, 3) := by decide +kernel
theorem dX4_walk_135 : decode cX4_walk 135 = .ok (.iload_n 2, 1) := by decide +kernel
theorem dX4_walk_136 : decode cX4_walk 136 = .ok (.iload_n 3, 1) := by decide +kernel
theorem dX4_walk_137 : decode cX4_walk 137 = .ok (.ifCond .eq 14, 3) := by decide +kernel
theorem dX4_walk_140 : decode cX4_walk 140 = .ok (.aload_n 0, 1) := by decide +kernel
theorem dX4_walk_141 : decode cX4_walk 141 = .ok (.getfield 28, 3) := by decide +kernel
theorem dX4_walk_144 : decode cX4_walk 144 = .ok (.iload_n 2, 1) := by decide +kernel
theorem dX4_walk_145 : decode cX4_walk 145 = .ok (.invokestatic 75, 3) := by decide +kernel
theorem dX4_walk_148 : decode cX4_walk 148 = .ok (.goto 5, 3) := by decide +kernel
theorem dX4_walk_151 : decode cX4_walk 151 = .ok (.iload 4, 2) := by decide +kernel
theorem dX4_walk_153 : decode cX4_walk 153 = .ok (.invokestatic 88, 3) := by decide +kernel
theorem dX4_walk_156 : decode cX4_walk 156 = .ok (.aload_n 0, 1) := by decide +kernel
theorem dX4_walk_157 : decode cX4_walk 157 = .ok (.iload_n 2, 1) := by decide +kernel
theorem dX4_walk_158 : decode cX4_walk 158 = .ok (.iload 4, 2) := by decide +kernel
theorem dX4_walk_160 : decode cX4_walk 160 = .ok (.invokevirtual 121, 3) := by decide +kernel
theorem dX4_walk_163 : decode cX4_walk 163 = .ok (.istore_n 1, 1) := by decide +kernel
theorem dX4_walk_164 : decode cX4_walk 164 = .ok (.iinc 2 1, 3) := by decide +kernel
theorem dX4_walk_167 : decode cX4_walk 167 = .ok (.goto (-110), 3) := by decide +kernel
theorem dX4_walk_170 : decode cX4_walk 170 = .ok (.return_, 1) := by decide +kernel
set_option maxRecDepth 20000 in
theorem ggX4_due_X5_get : GoodIn wsX4_due wsX5_get := goodIn_r _ [5] (by decide +kernel) (by decide +kernel)
set_option maxRecDepth 20000 in
theorem gX4_due_X5_get : GoodIn wsX4_due (va_wsS RX4 75 yX5_get wsX5_get) := goodIn_app (goodIn_of _ (by decide +kernel)) ggX4_due_X5_get
theorem dX4_due_0 : decode cX4_due 0 = .ok (.iload_n 2, 1) := by decide +kernel
theorem dX4_due_1 : decode cX4_due 1 = .ok (.iconst 1, 1) := by decide +kernel
theorem dX4_due_2 : decode cX4_due 2 = .ok (.if_icmp .ne 7, 3) := by decide +kernel
theorem dX4_due_5 : decode cX4_due 5 = .ok (.iconst 0, 1) := by decide +kernel
theorem dX4_due_6 : decode cX4_due 6 = .ok (.goto 11, 3) := by decide +kernel
theorem dX4_due_9 : decode cX4_due 9 = .ok (.aload_n 0, 1) := by decide +kernel
theorem dX4_due_10 : decode cX4_due 10 = .ok (.getfield 25, 3) := by decide +kernel
theorem dX4_due_13 : decode cX4_due 13 = .ok (.iload_n 1, 1) := by decide +kernel
theorem dX4_due_14 : decode cX4_due 14 = .ok (.invokestatic 75, 3) := by decide +kernel
theorem dX4_due_17 : decode cX4_due 17 = .ok (.ireturn, 1) := by decide +kernel
set_option maxRecDepth 20000 in
theorem ggX4_costByPay_X4_due : GoodIn wsX4_costByPay wsX4_due := goodIn_r _ [5, 6, 7, 8, 9, 10, 21, 22, 23, 24, 25, 26, 27, 28, 29, 30, 31, 32, 33, 34] (by decide +kernel) (by decide +kernel)
set_option maxRecDepth 20000 in
theorem gX4_costByPay_X4_due : GoodIn wsX4_costByPay (wsV RX4 118 RX4 yX4_due wsX4_due) := goodIn_app (goodIn_of _ (by decide +kernel)) ggX4_costByPay_X4_due
set_option maxRecDepth 20000 in
theorem ggX4_costByPay_X4_freedBehind : GoodIn wsX4_costByPay wsX4_freedBehind := goodIn_r _ [14, 15, 7, 8, 9, 10, 21, 22, 23, 24, 25, 26, 27, 28, 29, 30, 31, 32, 33, 34] (by decide +kernel) (by decide +kernel)
set_option maxRecDepth 20000 in
theorem gX4_costByPay_X4_freedBehind : GoodIn wsX4_costByPay (wsV RX4 121 RX4 yX4_freedBehind wsX4_freedBehind) := goodIn_app (goodIn_of _ (by decide +kernel)) ggX4_costByPay_X4_freedBehind
set_option maxRecDepth 20000 in
theorem ggX4_costByPay_X4_leastFrom : GoodIn wsX4_costByPay wsX4_leastFrom := goodIn_r _ [19, 20, 7, 8, 9, 10, 21, 22, 23, 24, 25, 26, 27, 28, 29, 30, 31, 32, 33, 34] (by decide +kernel) (by decide +kernel)
set_option maxRecDepth 20000 in
theorem gX4_costByPay_X4_leastFrom : GoodIn wsX4_costByPay (wsV RX4 112 RX4 yX4_leastFrom wsX4_leastFrom) := goodIn_app (goodIn_of _ (by decide +kernel)) ggX4_costByPay_X4_leastFrom
theorem dX4_costByPay_0 : decode cX4_costByPay 0 = .ok (.aload_n 0, 1) := by decide +kernel
theorem dX4_costByPay_1 : decode cX4_costByPay 1 = .ok (.iload_n 1, 1) := by decide +kernel
theorem dX4_costByPay_2 : decode cX4_costByPay 2 = .ok (.iload_n 2, 1) := by decide +kernel
theorem dX4_costByPay_3 : decode cX4_costByPay 3 = .ok (.invokevirtual 118, 3) := by decide +kernel
theorem dX4_costByPay_6 : decode cX4_costByPay 6 = .ok (.istore_n 3, 1) := by decide +kernel
theorem dX4_costByPay_7 : decode cX4_costByPay 7 = .ok (.iload_n 3, 1) := by decide +kernel
theorem dX4_costByPay_8 : decode cX4_costByPay 8 = .ok (.aload_n 0, 1) := by decide +kernel
theorem dX4_costByPay_9 : decode cX4_costByPay 9 = .ok (.iload_n 1, 1) := by decide +kernel
theorem dX4_costByPay_10 : decode cX4_costByPay 10 = .ok (.iconst 1, 1) := by decide +kernel
theorem dX4_costByPay_11 : decode cX4_costByPay 11 = .ok (.iadd, 1) := by decide +kernel
theorem dX4_costByPay_12 : decode cX4_costByPay 12 = .ok (.aload_n 0, 1) := by decide +kernel
theorem dX4_costByPay_13 : decode cX4_costByPay 13 = .ok (.iload_n 1, 1) := by decide +kernel
theorem dX4_costByPay_14 : decode cX4_costByPay 14 = .ok (.iload_n 3, 1) := by decide +kernel
theorem dX4_costByPay_15 : decode cX4_costByPay 15 = .ok (.invokevirtual 121, 3) := by decide +kernel
theorem dX4_costByPay_18 : decode cX4_costByPay 18 = .ok (.invokevirtual 112, 3) := by decide +kernel
theorem dX4_costByPay_21 : decode cX4_costByPay 21 = .ok (.iadd, 1) := by decide +kernel
theorem dX4_costByPay_22 : decode cX4_costByPay 22 = .ok (.ireturn, 1) := by decide +kernel
set_option maxRecDepth 20000 in
theorem ggX4_costByLand_X5_get : GoodIn wsX4_costByLand wsX5_get := goodIn_r _ [5] (by decide +kernel) (by decide +kernel)
set_option maxRecDepth 20000 in
theorem gX4_costByLand_X5_get : GoodIn wsX4_costByLand (va_wsS RX4 75 yX5_get wsX5_get) := goodIn_app (goodIn_of _ (by decide +kernel)) ggX4_costByLand_X5_get
set_option maxRecDepth 20000 in
theorem ggX4_costByLand_X4_leastFrom : GoodIn wsX4_costByLand wsX4_leastFrom := goodIn_r _ [10, 11, 2, 3, 4, 5, 12, 13, 14, 15, 16, 17, 18, 19, 20, 21, 22, 23, 24, 25] (by decide +kernel) (by decide +kernel)
set_option maxRecDepth 20000 in
theorem gX4_costByLand_X4_leastFrom : GoodIn wsX4_costByLand (wsV RX4 112 RX4 yX4_leastFrom wsX4_leastFrom) := goodIn_app (goodIn_of _ (by decide +kernel)) ggX4_costByLand_X4_leastFrom
theorem dX4_costByLand_0 : decode cX4_costByLand 0 = .ok (.aload_n 0, 1) := by decide +kernel
theorem dX4_costByLand_1 : decode cX4_costByLand 1 = .ok (.getfield 28, 3) := by decide +kernel
theorem dX4_costByLand_4 : decode cX4_costByLand 4 = .ok (.iload_n 1, 1) := by decide +kernel
theorem dX4_costByLand_5 : decode cX4_costByLand 5 = .ok (.invokestatic 75, 3) := by decide +kernel
theorem dX4_costByLand_8 : decode cX4_costByLand 8 = .ok (.aload_n 0, 1) := by decide +kernel
theorem dX4_costByLand_9 : decode cX4_costByLand 9 = .ok (.iload_n 1, 1) := by decide +kernel
theorem dX4_costByLand_10 : decode cX4_costByLand 10 = .ok (.iconst 1, 1) := by decide +kernel
theorem dX4_costByLand_11 : decode cX4_costByLand 11 = .ok (.iadd, 1) := by decide +kernel
theorem dX4_costByLand_12 : decode cX4_costByLand 12 = .ok (.iconst 0, 1) := by decide +kernel
theorem dX4_costByLand_13 : decode cX4_costByLand 13 = .ok (.invokevirtual 112, 3) := by decide +kernel
theorem dX4_costByLand_16 : decode cX4_costByLand 16 = .ok (.iadd, 1) := by decide +kernel
theorem dX4_costByLand_17 : decode cX4_costByLand 17 = .ok (.ireturn, 1) := by decide +kernel
set_option maxRecDepth 20000 in
theorem ggX4_freedBehind_X5_get : GoodIn wsX4_freedBehind wsX5_get := goodIn_r _ [5] (by decide +kernel) (by decide +kernel)
set_option maxRecDepth 20000 in
theorem gX4_freedBehind_X5_get : GoodIn wsX4_freedBehind (va_wsS RX4 75 yX5_get wsX5_get) := goodIn_app (goodIn_of _ (by decide +kernel)) ggX4_freedBehind_X5_get
theorem dX4_freedBehind_0 : decode cX4_freedBehind 0 = .ok (.iload_n 2, 1) := by decide +kernel
theorem dX4_freedBehind_1 : decode cX4_freedBehind 1 = .ok (.ifCond .le 14, 3) := by decide +kernel
theorem dX4_freedBehind_4 : decode cX4_freedBehind 4 = .ok (.aload_n 0, 1) := by decide +kernel
theorem dX4_freedBehind_5 : decode cX4_freedBehind 5 = .ok (.getfield 31, 3) := by decide +kernel
theorem dX4_freedBehind_8 : decode cX4_freedBehind 8 = .ok (.iload_n 1, 1) := by decide +kernel
theorem dX4_freedBehind_9 : decode cX4_freedBehind 9 = .ok (.invokestatic 75, 3) := by decide +kernel
theorem dX4_freedBehind_12 : decode cX4_freedBehind 12 = .ok (.goto 4, 3) := by decide +kernel
theorem dX4_freedBehind_15 : decode cX4_freedBehind 15 = .ok (.iconst 0, 1) := by decide +kernel
theorem dX4_freedBehind_16 : decode cX4_freedBehind 16 = .ok (.ireturn, 1) := by decide +kernel
set_option maxRecDepth 20000 in
theorem ggX4_leastFrom_X5_get : GoodIn wsX4_leastFrom wsX5_get := goodIn_r _ [5] (by decide +kernel) (by decide +kernel)
set_option maxRecDepth 20000 in
theorem gX4_leastFrom_X5_get : GoodIn wsX4_leastFrom (va_wsS RX4 75 yX5_get wsX5_get) := goodIn_app (goodIn_of _ (by decide +kernel)) ggX4_leastFrom_X5_get
theorem dX4_leastFrom_0 : decode cX4_leastFrom 0 = .ok (.aload_n 0, 1) := by decide +kernel
theorem dX4_leastFrom_1 : decode cX4_leastFrom 1 = .ok (.getfield 37, 3) := by decide +kernel
theorem dX4_leastFrom_4 : decode cX4_leastFrom 4 = .ok (.iconst 2, 1) := by decide +kernel
theorem dX4_leastFrom_5 : decode cX4_leastFrom 5 = .ok (.iload_n 1, 1) := by decide +kernel
theorem dX4_leastFrom_6 : decode cX4_leastFrom 6 = .ok (.imul, 1) := by decide +kernel
theorem dX4_leastFrom_7 : decode cX4_leastFrom 7 = .ok (.iload_n 2, 1) := by decide +kernel
theorem dX4_leastFrom_8 : decode cX4_leastFrom 8 = .ok (.iadd, 1) := by decide +kernel
theorem dX4_leastFrom_9 : decode cX4_leastFrom 9 = .ok (.invokestatic 75, 3) := by decide +kernel
theorem dX4_leastFrom_12 : decode cX4_leastFrom 12 = .ok (.ireturn, 1) := by decide +kernel
set_option maxRecDepth 20000 in
theorem ggX4_setLeast_X5_put : GoodIn wsX4_setLeast wsX5_put := goodIn_r _ [5] (by decide +kernel) (by decide +kernel)
set_option maxRecDepth 20000 in
theorem gX4_setLeast_X5_put : GoodIn wsX4_setLeast (va_wsS RX4 88 yX5_put wsX5_put) := goodIn_app (goodIn_of _ (by decide +kernel)) ggX4_setLeast_X5_put
theorem dX4_setLeast_0 : decode cX4_setLeast 0 = .ok (.aload_n 0, 1) := by decide +kernel
theorem dX4_setLeast_1 : decode cX4_setLeast 1 = .ok (.getfield 37, 3) := by decide +kernel
theorem dX4_setLeast_4 : decode cX4_setLeast 4 = .ok (.iconst 2, 1) := by decide +kernel
theorem dX4_setLeast_5 : decode cX4_setLeast 5 = .ok (.iload_n 1, 1) := by decide +kernel
theorem dX4_setLeast_6 : decode cX4_setLeast 6 = .ok (.imul, 1) := by decide +kernel
theorem dX4_setLeast_7 : decode cX4_setLeast 7 = .ok (.iload_n 2, 1) := by decide +kernel
theorem dX4_setLeast_8 : decode cX4_setLeast 8 = .ok (.iadd, 1) := by decide +kernel
theorem dX4_setLeast_9 : decode cX4_setLeast 9 = .ok (.iload_n 3, 1) := by decide +kernel
theorem dX4_setLeast_10 : decode cX4_setLeast 10 = .ok (.invokestatic 88, 3) := by decide +kernel
theorem dX4_setLeast_13 : decode cX4_setLeast 13 = .ok (.return_, 1) := by decide +kernel
theorem dX5_get_0 : decode cX5_get 0 = .ok (.aload_n 0, 1) := by decide +kernel
theorem dX5_get_1 : decode cX5_get 1 = .ok (.ifnull 19, 3) := by decide +kernel
theorem dX5_get_4 : decode cX5_get 4 = .ok (.iload_n 1, 1) := by decide +kernel
theorem dX5_get_5 : decode cX5_get 5 = .ok (.ifCond .lt 15, 3) := by decide +kernel
theorem dX5_get_8 : decode cX5_get 8 = .ok (.iload_n 1, 1) := by decide +kernel
theorem dX5_get_9 : decode cX5_get 9 = .ok (.aload_n 0, 1) := by decide +kernel
theorem dX5_get_10 : decode cX5_get 10 = .ok (.arraylength, 1) := by decide +kernel
theorem dX5_get_11 : decode cX5_get 11 = .ok (.if_icmp .ge 9, 3) := by decide +kernel
theorem dX5_get_14 : decode cX5_get 14 = .ok (.aload_n 0, 1) := by decide +kernel
theorem dX5_get_15 : decode cX5_get 15 = .ok (.iload_n 1, 1) := by decide +kernel
theorem dX5_get_16 : decode cX5_get 16 = .ok (.iaload, 1) := by decide +kernel
theorem dX5_get_17 : decode cX5_get 17 = .ok (.goto 4, 3) := by decide +kernel
theorem dX5_get_20 : decode cX5_get 20 = .ok (.iconst 0, 1) := by decide +kernel
theorem dX5_get_21 : decode cX5_get 21 = .ok (.ireturn, 1) := by decide +kernel
theorem dX5_put_0 : decode cX5_put 0 = .ok (.aload_n 0, 1) := by decide +kernel
theorem dX5_put_1 : decode cX5_put 1 = .ok (.ifnull 17, 3) := by decide +kernel
theorem dX5_put_4 : decode cX5_put 4 = .ok (.iload_n 1, 1) := by decide +kernel
theorem dX5_put_5 : decode cX5_put 5 = .ok (.ifCond .lt 13, 3) := by decide +kernel
theorem dX5_put_8 : decode cX5_put 8 = .ok (.iload_n 1, 1) := by decide +kernel
theorem dX5_put_9 : decode cX5_put 9 = .ok (.aload_n 0, 1) := by decide +kernel
theorem dX5_put_10 : decode cX5_put 10 = .ok (.arraylength, 1) := by decide +kernel
theorem dX5_put_11 : decode cX5_put 11 = .ok (.if_icmp .ge 7, 3) := by decide +kernel
theorem dX5_put_14 : decode cX5_put 14 = .ok (.aload_n 0, 1) := by decide +kernel
theorem dX5_put_15 : decode cX5_put 15 = .ok (.iload_n 1, 1) := by decide +kernel
theorem dX5_put_16 : decode cX5_put 16 = .ok (.iload_n 2, 1) := by decide +kernel
theorem dX5_put_17 : decode cX5_put 17 = .ok (.iastore, 1) := by decide +kernel
theorem dX5_put_18 : decode cX5_put 18 = .ok (.return_, 1) := by decide +kernel
theorem dX5_copy_0 : decode cX5_copy 0 = .ok (.aload_n 0, 1) := by decide +kernel
theorem dX5_copy_1 : decode cX5_copy 1 = .ok (.ifnull 7, 3) := by decide +kernel
theorem dX5_copy_4 : decode cX5_copy 4 = .ok (.aload_n 1, 1) := by decide +kernel
theorem dX5_copy_5 : decode cX5_copy 5 = .ok (.ifnonnull 4, 3) := by decide +kernel
theorem dX5_copy_8 : decode cX5_copy 8 = .ok (.return_, 1) := by decide +kernel
theorem dX5_copy_9 : decode cX5_copy 9 = .ok (.iconst 0, 1) := by decide +kernel
theorem dX5_copy_10 : decode cX5_copy 10 = .ok (.istore_n 2, 1) := by decide +kernel
theorem dX5_copy_11 : decode cX5_copy 11 = .ok (.iload_n 2, 1) := by decide +kernel
theorem dX5_copy_12 : decode cX5_copy 12 = .ok (.aload_n 0, 1) := by decide +kernel
theorem dX5_copy_13 : decode cX5_copy 13 = .ok (.arraylength, 1) := by decide +kernel
theorem dX5_copy_14 : decode cX5_copy 14 = .ok (.if_icmp .ge 21, 3) := by decide +kernel
theorem dX5_copy_17 : decode cX5_copy 17 = .ok (.iload_n 2, 1) := by decide +kernel
theorem dX5_copy_18 : decode cX5_copy 18 = .ok (.aload_n 1, 1) := by decide +kernel
theorem dX5_copy_19 : decode cX5_copy 19 = .ok (.arraylength, 1) := by decide +kernel
theorem dX5_copy_20 : decode cX5_copy 20 = .ok (.if_icmp .ge 15, 3) := by decide +kernel
theorem dX5_copy_23 : decode cX5_copy 23 = .ok (.aload_n 1, 1) := by decide +kernel
theorem dX5_copy_24 : decode cX5_copy 24 = .ok (.iload_n 2, 1) := by decide +kernel
theorem dX5_copy_25 : decode cX5_copy 25 = .ok (.aload_n 0, 1) := by decide +kernel
theorem dX5_copy_26 : decode cX5_copy 26 = .ok (.iload_n 2, 1) := by decide +kernel
theorem dX5_copy_27 : decode cX5_copy 27 = .ok (.iaload, 1) := by decide +kernel
theorem dX5_copy_28 : decode cX5_copy 28 = .ok (.iastore, 1) := by decide +kernel
theorem dX5_copy_29 : decode cX5_copy 29 = .ok (.iinc 2 1, 3) := by decide +kernel
theorem dX5_copy_32 : decode cX5_copy 32 = .ok (.goto (-21), 3) := by decide +kernel
theorem dX5_copy_35 : decode cX5_copy 35 = .ok (.return_, 1) := by decide +kernel
theorem dX6_upward_0 : decode cX6_upward 0 = .ok (.iload_n 1, 1) := by decide +kernel
theorem dX6_upward_1 : decode cX6_upward 1 = .ok (.ifCond .le 13, 3) := by decide +kernel
theorem dX6_upward_4 : decode cX6_upward 4 = .ok (.iload_n 0, 1) := by decide +kernel
theorem dX6_upward_5 : decode cX6_upward 5 = .ok (.iload_n 1, 1) := by decide +kernel
theorem dX6_upward_6 : decode cX6_upward 6 = .ok (.iadd, 1) := by decide +kernel
theorem dX6_upward_7 : decode cX6_upward 7 = .ok (.iconst 1, 1) := by decide +kernel
theorem dX6_upward_8 : decode cX6_upward 8 = .ok (.isub, 1) := by decide +kernel
theorem dX6_upward_9 : decode cX6_upward 9 = .ok (.iload_n 1, 1) := by decide +kernel
theorem dX6_upward_10 : decode cX6_upward 10 = .ok (.idiv, 1) := by decide +kernel
theorem dX6_upward_11 : decode cX6_upward 11 = .ok (.goto 4, 3) := by decide +kernel
theorem dX6_upward_14 : decode cX6_upward 14 = .ok (.iconst 0, 1) := by decide +kernel
theorem dX6_upward_15 : decode cX6_upward 15 = .ok (.ireturn, 1) := by decide +kernel
set_option maxRecDepth 20000 in
theorem ggX6_inLeastTerms_X6_greatestCommon : GoodIn wsX6_inLeastTerms wsX6_greatestCommon := goodIn_r _ [4] (by decide +kernel) (by decide +kernel)
set_option maxRecDepth 20000 in
theorem gX6_inLeastTerms_X6_greatestCommon : GoodIn wsX6_inLeastTerms (va_wsS RX6 7 yX6_greatestCommon wsX6_greatestCommon) := goodIn_app (goodIn_of _ (by decide +kernel)) ggX6_inLeastTerms_X6_greatestCommon
theorem dX6_inLeastTerms_0 : decode cX6_inLeastTerms 0 = .ok (.iload_n 0, 1) := by decide +kernel
theorem dX6_inLeastTerms_1 : decode cX6_inLeastTerms 1 = .ok (.iload_n 1, 1) := by decide +kernel
theorem dX6_inLeastTerms_2 : decode cX6_inLeastTerms 2 = .ok (.invokestatic 7, 3) := by decide +kernel
theorem dX6_inLeastTerms_5 : decode cX6_inLeastTerms 5 = .ok (.istore_n 2, 1) := by decide +kernel
theorem dX6_inLeastTerms_6 : decode cX6_inLeastTerms 6 = .ok (.iload_n 2, 1) := by decide +kernel
theorem dX6_inLeastTerms_7 : decode cX6_inLeastTerms 7 = .ok (.ifCond .le 9, 3) := by decide +kernel
theorem dX6_inLeastTerms_10 : decode cX6_inLeastTerms 10 = .ok (.iload_n 0, 1) := by decide +kernel
theorem dX6_inLeastTerms_11 : decode cX6_inLeastTerms 11 = .ok (.iload_n 2, 1) := by decide +kernel
theorem dX6_inLeastTerms_12 : decode cX6_inLeastTerms 12 = .ok (.idiv, 1) := by decide +kernel
theorem dX6_inLeastTerms_13 : decode cX6_inLeastTerms 13 = .ok (.goto 4, 3) := by decide +kernel
theorem dX6_inLeastTerms_16 : decode cX6_inLeastTerms 16 = .ok (.iload_n 0, 1) := by decide +kernel
theorem dX6_inLeastTerms_17 : decode cX6_inLeastTerms 17 = .ok (.ireturn, 1) := by decide +kernel
theorem dX6_greatestCommon_0 : decode cX6_greatestCommon 0 = .ok (.iload_n 0, 1) := by decide +kernel
theorem dX6_greatestCommon_1 : decode cX6_greatestCommon 1 = .ok (.istore_n 2, 1) := by decide +kernel
theorem dX6_greatestCommon_2 : decode cX6_greatestCommon 2 = .ok (.iload_n 1, 1) := by decide +kernel
theorem dX6_greatestCommon_3 : decode cX6_greatestCommon 3 = .ok (.istore_n 3, 1) := by decide +kernel
theorem dX6_greatestCommon_4 : decode cX6_greatestCommon 4 = .ok (.iconst 0, 1) := by decide +kernel
theorem dX6_greatestCommon_5 : decode cX6_greatestCommon 5 = .ok (.istore 4, 2) := by decide +kernel
theorem dX6_greatestCommon_7 : decode cX6_greatestCommon 7 = .ok (.iload 4, 2) := by decide +kernel
theorem dX6_greatestCommon_9 : decode cX6_greatestCommon 9 = .ok (.bipush 100, 2) := by decide +kernel
theorem dX6_greatestCommon_11 : decode cX6_greatestCommon 11 = .ok (.if_icmp .ge 23, 3) := by decide +kernel
theorem dX6_greatestCommon_14 : decode cX6_greatestCommon 14 = .ok (.iload_n 3, 1) := by decide +kernel
theorem dX6_greatestCommon_15 : decode cX6_greatestCommon 15 = .ok (.ifCond .eq 19, 3) := by decide +kernel
theorem dX6_greatestCommon_18 : decode cX6_greatestCommon 18 = .ok (.iload_n 2, 1) := by decide +kernel
theorem dX6_greatestCommon_19 : decode cX6_greatestCommon 19 = .ok (.iload_n 3, 1) := by decide +kernel
theorem dX6_greatestCommon_20 : decode cX6_greatestCommon 20 = .ok (.irem, 1) := by decide +kernel
theorem dX6_greatestCommon_21 : decode cX6_greatestCommon 21 = .ok (.istore 5, 2) := by decide +kernel
theorem dX6_greatestCommon_23 : decode cX6_greatestCommon 23 = .ok (.iload_n 3, 1) := by decide +kernel
theorem dX6_greatestCommon_24 : decode cX6_greatestCommon 24 = .ok (.istore_n 2, 1) := by decide +kernel
theorem dX6_greatestCommon_25 : decode cX6_greatestCommon 25 = .ok (.iload 5, 2) := by decide +kernel
theorem dX6_greatestCommon_27 : decode cX6_greatestCommon 27 = .ok (.istore_n 3, 1) := by decide +kernel
theorem dX6_greatestCommon_28 : decode cX6_greatestCommon 28 = .ok (.iinc 4 1, 3) := by decide +kernel
theorem dX6_greatestCommon_31 : decode cX6_greatestCommon 31 = .ok (.goto (-24), 3) := by decide +kernel
theorem dX6_greatestCommon_34 : decode cX6_greatestCommon 34 = .ok (.iload_n 2, 1) := by decide +kernel
theorem dX6_greatestCommon_35 : decode cX6_greatestCommon 35 = .ok (.ireturn, 1) := by decide +kernel
theorem dX7_init_0 : decode cX7_init 0 = .ok (.aload_n 0, 1) := by decide +kernel
theorem dX7_init_1 : decode cX7_init 1 = .ok (.invokespecial 3, 3) := by decide +kernel
theorem dX7_init_4 : decode cX7_init 4 = .ok (.aload_n 0, 1) := by decide +kernel
theorem dX7_init_5 : decode cX7_init 5 = .ok (.sipush 200, 3) := by decide +kernel
theorem dX7_init_8 : decode cX7_init 8 = .ok (.newarray .int, 2) := by decide +kernel
theorem dX7_init_10 : decode cX7_init 10 = .ok (.putfield 9, 3) := by decide +kernel
theorem dX7_init_13 : decode cX7_init 13 = .ok (.aload_n 0, 1) := by decide +kernel
theorem dX7_init_14 : decode cX7_init 14 = .ok (.iconst 0, 1) := by decide +kernel
theorem dX7_init_15 : decode cX7_init 15 = .ok (.putfield 15, 3) := by decide +kernel
theorem dX7_init_18 : decode cX7_init 18 = .ok (.return_, 1) := by decide +kernel
set_option maxRecDepth 20000 in
theorem ggX7_append_X5_put : GoodIn wsX7_append wsX5_put := goodIn_r _ [6] (by decide +kernel) (by decide +kernel)
set_option maxRecDepth 20000 in
theorem gX7_append_X5_put : GoodIn wsX7_append (va_wsS RX7 19 yX5_put wsX5_put) := goodIn_app (goodIn_of _ (by decide +kernel)) ggX7_append_X5_put
theorem dX7_append_0 : decode cX7_append 0 = .ok (.aload_n 0, 1) := by decide +kernel
theorem dX7_append_1 : decode cX7_append 1 = .ok (.getfield 9, 3) := by decide +kernel
theorem dX7_append_4 : decode cX7_append 4 = .ok (.aload_n 0, 1) := by decide +kernel
theorem dX7_append_5 : decode cX7_append 5 = .ok (.getfield 15, 3) := by decide +kernel
theorem dX7_append_8 : decode cX7_append 8 = .ok (.iload_n 1, 1) := by decide +kernel
theorem dX7_append_9 : decode cX7_append 9 = .ok (.invokestatic 19, 3) := by decide +kernel
theorem dX7_append_12 : decode cX7_append 12 = .ok (.aload_n 0, 1) := by decide +kernel
theorem dX7_append_13 : decode cX7_append 13 = .ok (.dup, 1) := by decide +kernel
theorem dX7_append_14 : decode cX7_append 14 = .ok (.getfield 15, 3) := by decide +kernel
theorem dX7_append_17 : decode cX7_append 17 = .ok (.iconst 1, 1) := by decide +kernel
theorem dX7_append_18 : decode cX7_append 18 = .ok (.iadd, 1) := by decide +kernel
theorem dX7_append_19 : decode cX7_append 19 = .ok (.putfield 15, 3) := by decide +kernel
theorem dX7_append_22 : decode cX7_append 22 = .ok (.return_, 1) := by decide +kernel
theorem dX7_letterAt_0 : decode cX7_letterAt 0 = .ok (.iload_n 1, 1) := by decide +kernel
theorem dX7_letterAt_1 : decode cX7_letterAt 1 = .ok (.ifCond .lt 21, 3) := by decide +kernel
theorem dX7_letterAt_4 : decode cX7_letterAt 4 = .ok (.iload_n 1, 1) := by decide +kernel
theorem dX7_letterAt_5 : decode cX7_letterAt 5 = .ok (.aload_n 0, 1) := by decide +kernel
theorem dX7_letterAt_6 : decode cX7_letterAt 6 = .ok (.getfield 9, 3) := by decide +kernel
theorem dX7_letterAt_9 : decode cX7_letterAt 9 = .ok (.arraylength, 1) := by decide +kernel
theorem dX7_letterAt_10 : decode cX7_letterAt 10 = .ok (.if_icmp .ge 12, 3) := by decide +kernel
theorem dX7_letterAt_13 : decode cX7_letterAt 13 = .ok (.aload_n 0, 1) := by decide +kernel
theorem dX7_letterAt_14 : decode cX7_letterAt 14 = .ok (.getfield 9, 3) := by decide +kernel
theorem dX7_letterAt_17 : decode cX7_letterAt 17 = .ok (.iload_n 1, 1) := by decide +kernel
theorem dX7_letterAt_18 : decode cX7_letterAt 18 = .ok (.iaload, 1) := by decide +kernel
theorem dX7_letterAt_19 : decode cX7_letterAt 19 = .ok (.goto 4, 3) := by decide +kernel
theorem dX7_letterAt_22 : decode cX7_letterAt 22 = .ok (.iconst 0, 1) := by decide +kernel
theorem dX7_letterAt_23 : decode cX7_letterAt 23 = .ok (.ireturn, 1) := by decide +kernel
set_option maxRecDepth 20000 in
theorem ggX8_init_X7_init : GoodIn wsX8_init wsX7_init := goodIn_r _ [38, 39, 2, 3, 26, 40, 41, 111, 112] (by decide +kernel) (by decide +kernel)
set_option maxRecDepth 20000 in
theorem gX8_init_X7_init : GoodIn wsX8_init (wsX7_init) := ggX8_init_X7_init
set_option maxRecDepth 20000 in
theorem ggX8_init_X2_init : GoodIn wsX8_init wsX2_init := goodIn_r _ [44, 45, 2, 3, 46, 126, 127, 128, 129, 130, 131, 132] (by decide +kernel) (by decide +kernel)
set_option maxRecDepth 20000 in
theorem gX8_init_X2_init : GoodIn wsX8_init (wsX2_init) := ggX8_init_X2_init
set_option maxRecDepth 20000 in
theorem ggX8_init_X3_init : GoodIn wsX8_init wsX3_init := goodIn_r _ [49, 50, 2, 3, 26, 51, 52, 53, 54, 14, 55, 56, 57, 58, 59, 133, 134, 135, 136, 137] (by decide +kernel) (by decide +kernel)
set_option maxRecDepth 20000 in
theorem gX8_init_X3_init : GoodIn wsX8_init (wsX3_init) := ggX8_init_X3_init
set_option maxRecDepth 20000 in
theorem ggX8_init_X0_init : GoodIn wsX8_init wsX0_init := goodIn_r _ [62, 63, 2, 3, 26, 64, 65, 138, 139, 140, 141, 142, 143, 144, 145] (by decide +kernel) (by decide +kernel)
set_option maxRecDepth 20000 in
theorem gX8_init_X0_init : GoodIn wsX8_init (wsX0_init) := ggX8_init_X0_init
set_option maxRecDepth 20000 in
theorem ggX8_init_X1_init : GoodIn wsX8_init wsX1_init := goodIn_r _ [68, 69, 2, 3, 70, 71, 18, 19, 72, 73, 74, 61, 62, 63, 26, 64, 65, 146, 147, 148, 138, 139, 140, 141, 142, 143, 144, 145] (by decide +kernel) (by decide +kernel)
set_option maxRecDepth 20000 in
theorem gX8_init_X1_init : GoodIn wsX8_init (wsX1_init) := ggX8_init_X1_init
set_option maxRecDepth 20000 in
theorem ggX8_init_X4_init : GoodIn wsX8_init wsX4_init := goodIn_r _ [77, 78, 2, 3, 79, 26, 80, 81, 82, 83, 84, 85, 86, 87, 149, 150, 151, 152, 153, 154, 155, 156, 157, 158, 159, 160, 161, 162] (by decide +kernel) (by decide +kernel)
set_option maxRecDepth 20000 in
theorem gX8_init_X4_init : GoodIn wsX8_init (wsX4_init) := ggX8_init_X4_init
set_option maxRecDepth 20000 in
theorem ggX8_init_X0_start : GoodIn wsX8_init wsX0_start := goodIn_r _ [91, 92, 93, 94, 95, 96, 97, 98, 99, 64, 65, 100, 101, 102, 14, 103, 51, 104, 105, 106, 107, 108, 109, 110, 138, 139, 140, 141, 142, 143, 144, 145, 133, 134, 135, 136, 137] (by decide +kernel) (by decide +kernel)
set_option maxRecDepth 20000 in
theorem gX8_init_X0_start : GoodIn wsX8_init (wsV RX8 80 RX0 yX0_start wsX0_start) := goodIn_app (goodIn_of _ (by decide +kernel)) ggX8_init_X0_start
theorem dX8_init_0 : decode cX8_init 0 = .ok (.aload_n 0, 1) := by decide +kernel
theorem dX8_init_1 : decode cX8_init 1 = .ok (.invokespecial 1, 3) := by decide +kernel
theorem dX8_init_4 : decode cX8_init 4 = .ok (.aload_n 0, 1) := by decide +kernel
theorem dX8_init_5 : decode cX8_init 5 = .ok (.new 7, 3) := by decide +kernel
theorem dX8_init_8 : decode cX8_init 8 = .ok (.dup, 1) := by decide +kernel
theorem dX8_init_9 : decode cX8_init 9 = .ok (.invokespecial 9, 3) := by decide +kernel
theorem dX8_init_12 : decode cX8_init 12 = .ok (.putfield 10, 3) := by decide +kernel
theorem dX8_init_15 : decode cX8_init 15 = .ok (.aload_n 0, 1) := by decide +kernel
theorem dX8_init_16 : decode cX8_init 16 = .ok (.new 16, 3) := by decide +kernel
theorem dX8_init_19 : decode cX8_init 19 = .ok (.dup, 1) := by decide +kernel
theorem dX8_init_20 : decode cX8_init 20 = .ok (.aload_n 0, 1) := by decide +kernel
theorem dX8_init_21 : decode cX8_init 21 = .ok (.getfield 10, 3) := by decide +kernel
theorem dX8_init_24 : decode cX8_init 24 = .ok (.invokespecial 18, 3) := by decide +kernel
theorem dX8_init_27 : decode cX8_init 27 = .ok (.putfield 21, 3) := by decide +kernel
theorem dX8_init_30 : decode cX8_init 30 = .ok (.aload_n 0, 1) := by decide +kernel
theorem dX8_init_31 : decode cX8_init 31 = .ok (.new 25, 3) := by decide +kernel
theorem dX8_init_34 : decode cX8_init 34 = .ok (.dup, 1) := by decide +kernel
theorem dX8_init_35 : decode cX8_init 35 = .ok (.invokespecial 27, 3) := by decide +kernel
theorem dX8_init_38 : decode cX8_init 38 = .ok (.putfield 28, 3) := by decide +kernel
theorem dX8_init_41 : decode cX8_init 41 = .ok (.aload_n 0, 1) := by decide +kernel
theorem dX8_init_42 : decode cX8_init 42 = .ok (.new 25, 3) := by decide +kernel
theorem dX8_init_45 : decode cX8_init 45 = .ok (.dup, 1) := by decide +kernel
theorem dX8_init_46 : decode cX8_init 46 = .ok (.invokespecial 27, 3) := by decide +kernel
theorem dX8_init_49 : decode cX8_init 49 = .ok (.putfield 32, 3) := by decide +kernel
theorem dX8_init_52 : decode cX8_init 52 = .ok (.aload_n 0, 1) := by decide +kernel
theorem dX8_init_53 : decode cX8_init 53 = .ok (.new 35, 3) := by decide +kernel
theorem dX8_init_56 : decode cX8_init 56 = .ok (.dup, 1) := by decide +kernel
theorem dX8_init_57 : decode cX8_init 57 = .ok (.invokespecial 37, 3) := by decide +kernel
theorem dX8_init_60 : decode cX8_init 60 = .ok (.putfield 38, 3) := by decide +kernel
theorem dX8_init_63 : decode cX8_init 63 = .ok (.aload_n 0, 1) := by decide +kernel
theorem dX8_init_64 : decode cX8_init 64 = .ok (.new 42, 3) := by decide +kernel
theorem dX8_init_67 : decode cX8_init 67 = .ok (.dup, 1) := by decide +kernel
theorem dX8_init_68 : decode cX8_init 68 = .ok (.invokespecial 44, 3) := by decide +kernel
theorem dX8_init_71 : decode cX8_init 71 = .ok (.putfield 45, 3) := by decide +kernel
theorem dX8_init_74 : decode cX8_init 74 = .ok (.aload_n 0, 1) := by decide +kernel
theorem dX8_init_75 : decode cX8_init 75 = .ok (.iconst 2, 1) := by decide +kernel
theorem dX8_init_76 : decode cX8_init 76 = .ok (.anewarray 35, 3) := by decide +kernel
theorem dX8_init_79 : decode cX8_init 79 = .ok (.putfield 49, 3) := by decide +kernel
theorem dX8_init_82 : decode cX8_init 82 = .ok (.iconst 0, 1) := by decide +kernel
theorem dX8_init_83 : decode cX8_init 83 = .ok (.istore_n 1, 1) := by decide +kernel
theorem dX8_init_84 : decode cX8_init 84 = .ok (.iload_n 1, 1) := by decide +kernel
theorem dX8_init_85 : decode cX8_init 85 = .ok (.iconst 2, 1) := by decide +kernel
theorem dX8_init_86 : decode cX8_init 86 = .ok (.if_icmp .ge 31, 3) := by decide +kernel
theorem dX8_init_89 : decode cX8_init 89 = .ok (.iload_n 1, 1) := by decide +kernel
theorem dX8_init_90 : decode cX8_init 90 = .ok (.aload_n 0, 1) := by decide +kernel
theorem dX8_init_91 : decode cX8_init 91 = .ok (.getfield 49, 3) := by decide +kernel
theorem dX8_init_94 : decode cX8_init 94 = .ok (.arraylength, 1) := by decide +kernel
theorem dX8_init_95 : decode cX8_init 95 = .ok (.if_icmp .ge 22, 3) := by decide +kernel
theorem dX8_init_98 : decode cX8_init 98 = .ok (.aload_n 0, 1) := by decide +kernel
theorem dX8_init_99 : decode cX8_init 99 = .ok (.getfield 49, 3) := by decide +kernel
theorem dX8_init_102 : decode cX8_init 102 = .ok (.iload_n 1, 1) := by decide +kernel
theorem dX8_init_103 : decode cX8_init 103 = .ok (.new 35, 3) := by decide +kernel
theorem dX8_init_106 : decode cX8_init 106 = .ok (.dup, 1) := by decide +kernel
theorem dX8_init_107 : decode cX8_init 107 = .ok (.invokespecial 37, 3) := by decide +kernel
theorem dX8_init_110 : decode cX8_init 110 = .ok (.aastore, 1) := by decide +kernel
theorem dX8_init_111 : decode cX8_init 111 = .ok (.iinc 1 1, 3) := by decide +kernel
theorem dX8_init_114 : decode cX8_init 114 = .ok (.goto (-30), 3) := by decide +kernel
theorem dX8_init_117 : decode cX8_init 117 = .ok (.aload_n 0, 1) := by decide +kernel
theorem dX8_init_118 : decode cX8_init 118 = .ok (.iconst 2, 1) := by decide +kernel
theorem dX8_init_119 : decode cX8_init 119 = .ok (.newarray .int, 2) := by decide +kernel
theorem dX8_init_121 : decode cX8_init 121 = .ok (.putfield 53, 3) := by decide +kernel
theorem dX8_init_124 : decode cX8_init 124 = .ok (.aload_n 0, 1) := by decide +kernel
theorem dX8_init_125 : decode cX8_init 125 = .ok (.new 57, 3) := by decide +kernel
theorem dX8_init_128 : decode cX8_init 128 = .ok (.dup, 1) := by decide +kernel
theorem dX8_init_129 : decode cX8_init 129 = .ok (.aload_n 0, 1) := by decide +kernel
theorem dX8_init_130 : decode cX8_init 130 = .ok (.getfield 32, 3) := by decide +kernel
theorem dX8_init_133 : decode cX8_init 133 = .ok (.invokespecial 59, 3) := by decide +kernel
theorem dX8_init_136 : decode cX8_init 136 = .ok (.putfield 62, 3) := by decide +kernel
theorem dX8_init_139 : decode cX8_init 139 = .ok (.aload_n 0, 1) := by decide +kernel
theorem dX8_init_140 : decode cX8_init 140 = .ok (.bipush 6, 2) := by decide +kernel
theorem dX8_init_142 : decode cX8_init 142 = .ok (.newarray .int, 2) := by decide +kernel
theorem dX8_init_144 : decode cX8_init 144 = .ok (.putfield 66, 3) := by decide +kernel
theorem dX8_init_147 : decode cX8_init 147 = .ok (.aload_n 0, 1) := by decide +kernel
theorem dX8_init_148 : decode cX8_init 148 = .ok (.bipush 6, 2) := by decide +kernel
theorem dX8_init_150 : decode cX8_init 150 = .ok (.newarray .int, 2) := by decide +kernel
theorem dX8_init_152 : decode cX8_init 152 = .ok (.putfield 69, 3) := by decide +kernel
theorem dX8_init_155 : decode cX8_init 155 = .ok (.aload_n 0, 1) := by decide +kernel
theorem dX8_init_156 : decode cX8_init 156 = .ok (.iconst 0, 1) := by decide +kernel
theorem dX8_init_157 : decode cX8_init 157 = .ok (.putfield 72, 3) := by decide +kernel
theorem dX8_init_160 : decode cX8_init 160 = .ok (.aload_n 0, 1) := by decide +kernel
theorem dX8_init_161 : decode cX8_init 161 = .ok (.lconst 0, 1) := by decide +kernel
theorem dX8_init_162 : decode cX8_init 162 = .ok (.putfield 76, 3) := by decide +kernel
theorem dX8_init_165 : decode cX8_init 165 = .ok (.aload_n 0, 1) := by decide +kernel
theorem dX8_init_166 : decode cX8_init 166 = .ok (.getfield 38, 3) := by decide +kernel
theorem dX8_init_169 : decode cX8_init 169 = .ok (.aload_n 0, 1) := by decide +kernel
theorem dX8_init_170 : decode cX8_init 170 = .ok (.getfield 32, 3) := by decide +kernel
theorem dX8_init_173 : decode cX8_init 173 = .ok (.invokevirtual 80, 3) := by decide +kernel
theorem dX8_init_176 : decode cX8_init 176 = .ok (.return_, 1) := by decide +kernel
set_option maxRecDepth 20000 in
theorem ggX8_type_X7_append : GoodIn wsX8_type wsX7_append := goodIn_r _ [7, 8, 9, 10, 11, 12, 13, 27, 28] (by decide +kernel) (by decide +kernel)
set_option maxRecDepth 20000 in
theorem gX8_type_X7_append : GoodIn wsX8_type (wsV RX8 86 RX7 yX7_append wsX7_append) := goodIn_app (goodIn_of _ (by decide +kernel)) ggX8_type_X7_append
theorem dX8_type_0 : decode cX8_type 0 = .ok (.iload_n 1, 1) := by decide +kernel
theorem dX8_type_1 : decode cX8_type 1 = .ok (.ifCond .lt 10, 3) := by decide +kernel
theorem dX8_type_4 : decode cX8_type 4 = .ok (.iload_n 1, 1) := by decide +kernel
theorem dX8_type_5 : decode cX8_type 5 = .ok (.sipush 255, 3) := by decide +kernel
theorem dX8_type_8 : decode cX8_type 8 = .ok (.if_icmp .le 5, 3) := by decide +kernel
theorem dX8_type_11 : decode cX8_type 11 = .ok (.iconst (-1), 1) := by decide +kernel
theorem dX8_type_12 : decode cX8_type 12 = .ok (.ireturn, 1) := by decide +kernel
theorem dX8_type_13 : decode cX8_type 13 = .ok (.aload_n 0, 1) := by decide +kernel
theorem dX8_type_14 : decode cX8_type 14 = .ok (.getfield 10, 3) := by decide +kernel
theorem dX8_type_17 : decode cX8_type 17 = .ok (.getfield 83, 3) := by decide +kernel
theorem dX8_type_20 : decode cX8_type 20 = .ok (.sipush 200, 3) := by decide +kernel
theorem dX8_type_23 : decode cX8_type 23 = .ok (.if_icmp .lt 6, 3) := by decide +kernel
theorem dX8_type_26 : decode cX8_type 26 = .ok (.bipush (-3), 2) := by decide +kernel
theorem dX8_type_28 : decode cX8_type 28 = .ok (.ireturn, 1) := by decide +kernel
theorem dX8_type_29 : decode cX8_type 29 = .ok (.aload_n 0, 1) := by decide +kernel
theorem dX8_type_30 : decode cX8_type 30 = .ok (.getfield 10, 3) := by decide +kernel
theorem dX8_type_33 : decode cX8_type 33 = .ok (.iload_n 1, 1) := by decide +kernel
theorem dX8_type_34 : decode cX8_type 34 = .ok (.invokevirtual 86, 3) := by decide +kernel
theorem dX8_type_37 : decode cX8_type 37 = .ok (.aload_n 0, 1) := by decide +kernel
theorem dX8_type_38 : decode cX8_type 38 = .ok (.getfield 10, 3) := by decide +kernel
theorem dX8_type_41 : decode cX8_type 41 = .ok (.getfield 83, 3) := by decide +kernel
theorem dX8_type_44 : decode cX8_type 44 = .ok (.ireturn, 1) := by decide +kernel
theorem dX8_clear_0 : decode cX8_clear 0 = .ok (.aload_n 0, 1) := by decide +kernel
theorem dX8_clear_1 : decode cX8_clear 1 = .ok (.getfield 10, 3) := by decide +kernel
theorem dX8_clear_4 : decode cX8_clear 4 = .ok (.getfield 83, 3) := by decide +kernel
theorem dX8_clear_7 : decode cX8_clear 7 = .ok (.istore_n 1, 1) := by decide +kernel
theorem dX8_clear_8 : decode cX8_clear 8 = .ok (.aload_n 0, 1) := by decide +kernel
theorem dX8_clear_9 : decode cX8_clear 9 = .ok (.getfield 10, 3) := by decide +kernel
theorem dX8_clear_12 : decode cX8_clear 12 = .ok (.iconst 0, 1) := by decide +kernel
theorem dX8_clear_13 : decode cX8_clear 13 = .ok (.putfield 83, 3) := by decide +kernel
theorem dX8_clear_16 : decode cX8_clear 16 = .ok (.iload_n 1, 1) := by decide +kernel
theorem dX8_clear_17 : decode cX8_clear 17 = .ok (.ireturn, 1) := by decide +kernel
set_option maxRecDepth 20000 in
theorem ggX8_river_X2_read : GoodIn wsX8_river wsX2_read := goodIn_r _ [15, 16, 17, 18, 19, 20, 21, 22, 23, 24, 25, 26, 27, 28, 29, 30, 31, 32, 33, 14, 34, 35, 36, 37, 38, 39, 40, 41, 42, 43, 44, 45, 46, 47, 48, 49, 50, 51, 52, 53, 54, 55, 56, 57, 58, 59, 60, 61, 62, 63, 64, 65, 66, 67, 68, 69, 70, 71, 72, 73, 74, 75, 76, 77, 78, 79, 80, 81, 82, 83, 84, 85, 86, 87, 88, 89, 90, 91, 92, 93, 94, 150, 151, 152, 153, 154, 155, 156, 145, 146, 147, 148, 149, 143, 144] (by decide +kernel) (by decide +kernel)
set_option maxRecDepth 20000 in
theorem gX8_river_X2_read : GoodIn wsX8_river (wsV RX8 90 RX2 yX2_read wsX2_read) := goodIn_app (goodIn_of _ (by decide +kernel)) ggX8_river_X2_read
set_option maxRecDepth 20000 in
theorem ggX8_river_X3_become : GoodIn wsX8_river wsX3_become := goodIn_r _ [98, 27, 28, 29, 30, 77, 99, 100, 67, 101, 145, 146, 147, 148, 149] (by decide +kernel) (by decide +kernel)
set_option maxRecDepth 20000 in
theorem gX8_river_X3_become : GoodIn wsX8_river (wsV RX8 94 RX3 yX3_become wsX3_become) := goodIn_app (goodIn_of _ (by decide +kernel)) ggX8_river_X3_become
set_option maxRecDepth 20000 in
theorem ggX8_river_X0_start : GoodIn wsX8_river wsX0_start := goodIn_r _ [106, 107, 108, 109, 110, 111, 112, 113, 114, 115, 116, 117, 118, 119, 25, 120, 77, 121, 66, 67, 68, 122, 79, 80, 157, 158, 159, 160, 161, 162, 163, 164, 145, 146, 147, 148, 149] (by decide +kernel) (by decide +kernel)
set_option maxRecDepth 20000 in
theorem gX8_river_X0_start : GoodIn wsX8_river (wsV RX8 80 RX0 yX0_start wsX0_start) := goodIn_app (goodIn_of _ (by decide +kernel)) ggX8_river_X0_start
set_option maxRecDepth 20000 in
theorem ggX8_river_X1_forgetAll : GoodIn wsX8_river wsX1_forgetAll := goodIn_r _ [127, 128, 165, 166, 167] (by decide +kernel) (by decide +kernel)
set_option maxRecDepth 20000 in
theorem gX8_river_X1_forgetAll : GoodIn wsX8_river (wsV RX8 97 RX1 yX1_forgetAll wsX1_forgetAll) := goodIn_app (goodIn_of _ (by decide +kernel)) ggX8_river_X1_forgetAll
set_option maxRecDepth 20000 in
theorem ggX8_river_X5_put : GoodIn wsX8_river wsX5_put := goodIn_r _ [80] (by decide +kernel) (by decide +kernel)
set_option maxRecDepth 20000 in
theorem gX8_river_X5_put : GoodIn wsX8_river (va_wsS RX8 100 yX5_put wsX5_put) := goodIn_app (goodIn_of _ (by decide +kernel)) ggX8_river_X5_put
theorem dX8_river_0 : decode cX8_river 0 = .ok (.aload_n 0, 1) := by decide +kernel
theorem dX8_river_1 : decode cX8_river 1 = .ok (.getfield 21, 3) := by decide +kernel
theorem dX8_river_4 : decode cX8_river 4 = .ok (.aload_n 0, 1) := by decide +kernel
theorem dX8_river_5 : decode cX8_river 5 = .ok (.getfield 28, 3) := by decide +kernel
theorem dX8_river_8 : decode cX8_river 8 = .ok (.invokevirtual 90, 3) := by decide +kernel
theorem dX8_river_11 : decode cX8_river 11 = .ok (.istore_n 1, 1) := by decide +kernel
theorem dX8_river_12 : decode cX8_river 12 = .ok (.iload_n 1, 1) := by decide +kernel
theorem dX8_river_13 : decode cX8_river 13 = .ok (.iconst (-1), 1) := by decide +kernel
theorem dX8_river_14 : decode cX8_river 14 = .ok (.if_icmp .eq 8, 3) := by decide +kernel
theorem dX8_river_17 : decode cX8_river 17 = .ok (.bipush (-10), 2) := by decide +kernel
theorem dX8_river_19 : decode cX8_river 19 = .ok (.iload_n 1, 1) := by decide +kernel
theorem dX8_river_20 : decode cX8_river 20 = .ok (.isub, 1) := by decide +kernel
theorem dX8_river_21 : decode cX8_river 21 = .ok (.ireturn, 1) := by decide +kernel
theorem dX8_river_22 : decode cX8_river 22 = .ok (.aload_n 0, 1) := by decide +kernel
theorem dX8_river_23 : decode cX8_river 23 = .ok (.getfield 32, 3) := by decide +kernel
theorem dX8_river_26 : decode cX8_river 26 = .ok (.aload_n 0, 1) := by decide +kernel
theorem dX8_river_27 : decode cX8_river 27 = .ok (.getfield 28, 3) := by decide +kernel
theorem dX8_river_30 : decode cX8_river 30 = .ok (.invokevirtual 94, 3) := by decide +kernel
theorem dX8_river_33 : decode cX8_river 33 = .ok (.aload_n 0, 1) := by decide +kernel
theorem dX8_river_34 : decode cX8_river 34 = .ok (.getfield 38, 3) := by decide +kernel
theorem dX8_river_37 : decode cX8_river 37 = .ok (.aload_n 0, 1) := by decide +kernel
theorem dX8_river_38 : decode cX8_river 38 = .ok (.getfield 32, 3) := by decide +kernel
theorem dX8_river_41 : decode cX8_river 41 = .ok (.invokevirtual 80, 3) := by decide +kernel
theorem dX8_river_44 : decode cX8_river 44 = .ok (.aload_n 0, 1) := by decide +kernel
theorem dX8_river_45 : decode cX8_river 45 = .ok (.getfield 45, 3) := by decide +kernel
theorem dX8_river_48 : decode cX8_river 48 = .ok (.invokevirtual 97, 3) := by decide +kernel
theorem dX8_river_51 : decode cX8_river 51 = .ok (.iconst 0, 1) := by decide +kernel
theorem dX8_river_52 : decode cX8_river 52 = .ok (.istore_n 2, 1) := by decide +kernel
theorem dX8_river_53 : decode cX8_river 53 = .ok (.iload_n 2, 1) := by decide +kernel
theorem dX8_river_54 : decode cX8_river 54 = .ok (.iconst 2, 1) := by decide +kernel
theorem dX8_river_55 : decode cX8_river 55 = .ok (.if_icmp .ge 18, 3) := by decide +kernel
theorem dX8_river_58 : decode cX8_river 58 = .ok (.aload_n 0, 1) := by decide +kernel
theorem dX8_river_59 : decode cX8_river 59 = .ok (.getfield 53, 3) := by decide +kernel
theorem dX8_river_62 : decode cX8_river 62 = .ok (.iload_n 2, 1) := by decide +kernel
theorem dX8_river_63 : decode cX8_river 63 = .ok (.iconst 0, 1) := by decide +kernel
theorem dX8_river_64 : decode cX8_river 64 = .ok (.invokestatic 100, 3) := by decide +kernel
theorem dX8_river_67 : decode cX8_river 67 = .ok (.iinc 2 1, 3) := by decide +kernel
theorem dX8_river_70 : decode cX8_river 70 = .ok (.goto (-17), 3) := by decide +kernel
theorem dX8_river_73 : decode cX8_river 73 = .ok (.aload_n 0, 1) := by decide +kernel
theorem dX8_river_74 : decode cX8_river 74 = .ok (.iconst 0, 1) := by decide +kernel
theorem dX8_river_75 : decode cX8_river 75 = .ok (.putfield 72, 3) := by decide +kernel
theorem dX8_river_78 : decode cX8_river 78 = .ok (.aload_n 0, 1) := by decide +kernel
theorem dX8_river_79 : decode cX8_river 79 = .ok (.getfield 10, 3) := by decide +kernel
theorem dX8_river_82 : decode cX8_river 82 = .ok (.iconst 0, 1) := by decide +kernel
theorem dX8_river_83 : decode cX8_river 83 = .ok (.putfield 83, 3) := by decide +kernel
theorem dX8_river_86 : decode cX8_river 86 = .ok (.aload_n 0, 1) := by decide +kernel
theorem dX8_river_87 : decode cX8_river 87 = .ok (.getfield 32, 3) := by decide +kernel
theorem dX8_river_90 : decode cX8_river 90 = .ok (.getfield 106, 3) := by decide +kernel
theorem dX8_river_93 : decode cX8_river 93 = .ok (.ireturn, 1) := by decide +kernel
set_option maxRecDepth 20000 in
theorem ggX8_rock_X8_isRock : GoodIn wsX8_rock wsX8_isRock := goodIn_r _ [7, 2, 8, 31, 32, 33, 34, 35, 36, 37, 38, 39, 40, 41, 42, 43, 44, 45, 46, 47, 48] (by decide +kernel) (by decide +kernel)
set_option maxRecDepth 20000 in
theorem gX8_rock_X8_isRock : GoodIn wsX8_rock (wsV RX8 109 RX8 yX8_isRock wsX8_isRock) := goodIn_app (goodIn_of _ (by decide +kernel)) ggX8_rock_X8_isRock
set_option maxRecDepth 20000 in
theorem ggX8_rock_X0_tollOf : GoodIn wsX8_rock wsX0_tollOf := goodIn_r _ [13, 14, 15, 16, 17, 18, 49, 50, 51, 52, 53, 54, 55, 56] (by decide +kernel) (by decide +kernel)
set_option maxRecDepth 20000 in
theorem gX8_rock_X0_tollOf : GoodIn wsX8_rock (wsV RX8 113 RX0 yX0_tollOf wsX0_tollOf) := goodIn_app (goodIn_of _ (by decide +kernel)) ggX8_rock_X0_tollOf
set_option maxRecDepth 20000 in
theorem ggX8_rock_X0_isBroken : GoodIn wsX8_rock wsX0_isBroken := goodIn_r _ [22, 23, 49, 50, 51, 52, 53, 54, 55, 56] (by decide +kernel) (by decide +kernel)
set_option maxRecDepth 20000 in
theorem gX8_rock_X0_isBroken : GoodIn wsX8_rock (wsV RX8 117 RX0 yX0_isBroken wsX0_isBroken) := goodIn_app (goodIn_of _ (by decide +kernel)) ggX8_rock_X0_isBroken
set_option maxRecDepth 20000 in
theorem ggX8_rock_X3_fact : GoodIn wsX8_rock wsX3_fact := goodIn_r _ [28, 29, 30, 16, 17, 18, 44, 45, 46, 47, 48] (by decide +kernel) (by decide +kernel)
set_option maxRecDepth 20000 in
theorem gX8_rock_X3_fact : GoodIn wsX8_rock (wsV RX8 120 RX3 yX3_fact wsX3_fact) := goodIn_app (goodIn_of _ (by decide +kernel)) ggX8_rock_X3_fact
theorem dX8_rock_0 : decode cX8_rock 0 = .ok (.aload_n 0, 1) := by decide +kernel
theorem dX8_rock_1 : decode cX8_rock 1 = .ok (.iload_n 1, 1) := by decide +kernel
theorem dX8_rock_2 : decode cX8_rock 2 = .ok (.invokevirtual 109, 3) := by decide +kernel
theorem dX8_rock_5 : decode cX8_rock 5 = .ok (.ifCond .eq 12, 3) := by decide +kernel
theorem dX8_rock_8 : decode cX8_rock 8 = .ok (.iload_n 2, 1) := by decide +kernel
theorem dX8_rock_9 : decode cX8_rock 9 = .ok (.ifCond .lt 8, 3) := by decide +kernel
theorem dX8_rock_12 : decode cX8_rock 12 = .ok (.iload_n 2, 1) := by decide +kernel
theorem dX8_rock_13 : decode cX8_rock 13 = .ok (.iconst 5, 1) := by decide +kernel
theorem dX8_rock_14 : decode cX8_rock 14 = .ok (.if_icmp .le 5, 3) := by decide +kernel
theorem dX8_rock_17 : decode cX8_rock 17 = .ok (.iconst (-1), 1) := by decide +kernel
theorem dX8_rock_18 : decode cX8_rock 18 = .ok (.ireturn, 1) := by decide +kernel
theorem dX8_rock_19 : decode cX8_rock 19 = .ok (.iload_n 2, 1) := by decide +kernel
theorem dX8_rock_20 : decode cX8_rock 20 = .ok (.ifCond .ne 12, 3) := by decide +kernel
theorem dX8_rock_23 : decode cX8_rock 23 = .ok (.aload_n 0, 1) := by decide +kernel
theorem dX8_rock_24 : decode cX8_rock 24 = .ok (.getfield 38, 3) := by decide +kernel
theorem dX8_rock_27 : decode cX8_rock 27 = .ok (.iload_n 1, 1) := by decide +kernel
theorem dX8_rock_28 : decode cX8_rock 28 = .ok (.invokevirtual 113, 3) := by decide +kernel
theorem dX8_rock_31 : decode cX8_rock 31 = .ok (.ireturn, 1) := by decide +kernel
theorem dX8_rock_32 : decode cX8_rock 32 = .ok (.iload_n 2, 1) := by decide +kernel
theorem dX8_rock_33 : decode cX8_rock 33 = .ok (.iconst 5, 1) := by decide +kernel
theorem dX8_rock_34 : decode cX8_rock 34 = .ok (.if_icmp .ne 20, 3) := by decide +kernel
theorem dX8_rock_37 : decode cX8_rock 37 = .ok (.aload_n 0, 1) := by decide +kernel
theorem dX8_rock_38 : decode cX8_rock 38 = .ok (.getfield 38, 3) := by decide +kernel
theorem dX8_rock_41 : decode cX8_rock 41 = .ok (.iload_n 1, 1) := by decide +kernel
theorem dX8_rock_42 : decode cX8_rock 42 = .ok (.invokevirtual 117, 3) := by decide +kernel
theorem dX8_rock_45 : decode cX8_rock 45 = .ok (.ifCond .eq 7, 3) := by decide +kernel
theorem dX8_rock_48 : decode cX8_rock 48 = .ok (.iconst 1, 1) := by decide +kernel
theorem dX8_rock_49 : decode cX8_rock 49 = .ok (.goto 4, 3) := by decide +kernel
theorem dX8_rock_52 : decode cX8_rock 52 = .ok (.iconst 0, 1) := by decide +kernel
theorem dX8_rock_53 : decode cX8_rock 53 = .ok (.ireturn, 1) := by decide +kernel
theorem dX8_rock_54 : decode cX8_rock 54 = .ok (.aload_n 0, 1) := by decide +kernel
theorem dX8_rock_55 : decode cX8_rock 55 = .ok (.getfield 32, 3) := by decide +kernel
theorem dX8_rock_58 : decode cX8_rock 58 = .ok (.iload_n 1, 1) := by decide +kernel
theorem dX8_rock_59 : decode cX8_rock 59 = .ok (.iload_n 2, 1) := by decide +kernel
theorem dX8_rock_60 : decode cX8_rock 60 = .ok (.invokevirtual 120, 3) := by decide +kernel
theorem dX8_rock_63 : decode cX8_rock 63 = .ok (.ireturn, 1) := by decide +kernel
set_option maxRecDepth 20000 in
theorem ggX8_takes_X8_isRock : GoodIn wsX8_takes wsX8_isRock := goodIn_r _ [5, 6, 7, 43, 44, 45, 46, 47, 48, 49, 50, 51, 52, 53, 54, 55, 56, 57, 58, 59, 60] (by decide +kernel) (by decide +kernel)
set_option maxRecDepth 20000 in
theorem gX8_takes_X8_isRock : GoodIn wsX8_takes (wsV RX8 109 RX8 yX8_isRock wsX8_isRock) := goodIn_app (goodIn_of _ (by decide +kernel)) ggX8_takes_X8_isRock
set_option maxRecDepth 20000 in
theorem ggX8_takes_X8_priceOf : GoodIn wsX8_takes wsX8_priceOf := goodIn_r _ [11, 12, 6, 13, 14, 15, 16, 17, 18, 19, 20, 21, 22, 23, 24, 25, 26, 27, 28, 29, 30, 31, 32, 33, 34, 35, 36, 37, 38, 39, 40, 41, 42, 43, 44, 45, 46, 47, 48, 49, 50, 51, 52, 53, 54, 55, 61, 62, 63, 64, 65, 66, 67, 68, 56, 57, 58, 59, 60] (by decide +kernel) (by decide +kernel)
set_option maxRecDepth 20000 in
theorem gX8_takes_X8_priceOf : GoodIn wsX8_takes (wsV RX8 124 RX8 yX8_priceOf wsX8_priceOf) := goodIn_app (goodIn_of _ (by decide +kernel)) ggX8_takes_X8_priceOf
theorem dX8_takes_0 : decode cX8_takes 0 = .ok (.aload_n 0, 1) := by decide +kernel
theorem dX8_takes_1 : decode cX8_takes 1 = .ok (.iload_n 1, 1) := by decide +kernel
theorem dX8_takes_2 : decode cX8_takes 2 = .ok (.invokevirtual 109, 3) := by decide +kernel
theorem dX8_takes_5 : decode cX8_takes 5 = .ok (.ifCond .eq 13, 3) := by decide +kernel
theorem dX8_takes_8 : decode cX8_takes 8 = .ok (.iload_n 2, 1) := by decide +kernel
theorem dX8_takes_9 : decode cX8_takes 9 = .ok (.ifCond .lt 9, 3) := by decide +kernel
theorem dX8_takes_12 : decode cX8_takes 12 = .ok (.iload_n 2, 1) := by decide +kernel
theorem dX8_takes_13 : decode cX8_takes 13 = .ok (.bipush 30, 2) := by decide +kernel
theorem dX8_takes_15 : decode cX8_takes 15 = .ok (.if_icmp .le 5, 3) := by decide +kernel
theorem dX8_takes_18 : decode cX8_takes 18 = .ok (.iconst (-1), 1) := by decide +kernel
theorem dX8_takes_19 : decode cX8_takes 19 = .ok (.ireturn, 1) := by decide +kernel
theorem dX8_takes_20 : decode cX8_takes 20 = .ok (.aload_n 0, 1) := by decide +kernel
theorem dX8_takes_21 : decode cX8_takes 21 = .ok (.iload_n 1, 1) := by decide +kernel
theorem dX8_takes_22 : decode cX8_takes 22 = .ok (.iload_n 2, 1) := by decide +kernel
theorem dX8_takes_23 : decode cX8_takes 23 = .ok (.invokevirtual 124, 3) := by decide +kernel
theorem dX8_takes_26 : decode cX8_takes 26 = .ok (.ireturn, 1) := by decide +kernel
set_option maxRecDepth 20000 in
theorem ggX8_now_X8_isAtSea : GoodIn wsX8_now wsX8_isAtSea := goodIn_r _ [13, 1, 2, 14, 15, 55, 56, 57, 58, 59, 60, 61, 62, 63, 64, 65, 66, 67, 68, 69, 70, 71, 72, 73, 74, 75, 79, 80, 81, 82, 83] (by decide +kernel) (by decide +kernel)
set_option maxRecDepth 20000 in
theorem gX8_now_X8_isAtSea : GoodIn wsX8_now (wsV RX8 142 RX8 yX8_isAtSea wsX8_isAtSea) := goodIn_app (goodIn_of _ (by decide +kernel)) ggX8_now_X8_isAtSea
set_option maxRecDepth 20000 in
theorem ggX8_now_X8_dueHere : GoodIn wsX8_now wsX8_dueHere := goodIn_r _ [19, 1, 5, 14, 2, 3, 20, 21, 22, 23, 24, 25, 26, 27, 28, 29, 30, 31, 32, 12, 33, 34, 35, 36, 37, 38, 39, 40, 41, 42, 43, 44, 45, 46, 47, 48, 49, 50, 51, 52, 53, 54, 55, 56, 57, 58, 59, 60, 61, 62, 63, 64, 65, 66, 67, 68, 69, 70, 71, 72, 73, 74, 75, 79, 80, 81, 82, 83] (by decide +kernel) (by decide +kernel)
set_option maxRecDepth 20000 in
theorem gX8_now_X8_dueHere : GoodIn wsX8_now (wsV RX8 146 RX8 yX8_dueHere wsX8_dueHere) := goodIn_app (goodIn_of _ (by decide +kernel)) ggX8_now_X8_dueHere
theorem dX8_now_0 : decode cX8_now 0 = .ok (.iload_n 1, 1) := by decide +kernel
theorem dX8_now_1 : decode cX8_now 1 = .ok (.tableswitch 108 0 6 #[43, 51, 59, 67, 75, 83, 100], 43) := by decide +kernel
theorem dX8_now_44 : decode cX8_now 44 = .ok (.aload_n 0, 1) := by decide +kernel
theorem dX8_now_45 : decode cX8_now 45 = .ok (.getfield 38, 3) := by decide +kernel
theorem dX8_now_48 : decode cX8_now 48 = .ok (.getfield 127, 3) := by decide +kernel
theorem dX8_now_51 : decode cX8_now 51 = .ok (.ireturn, 1) := by decide +kernel
theorem dX8_now_52 : decode cX8_now 52 = .ok (.aload_n 0, 1) := by decide +kernel
theorem dX8_now_53 : decode cX8_now 53 = .ok (.getfield 38, 3) := by decide +kernel
theorem dX8_now_56 : decode cX8_now 56 = .ok (.getfield 130, 3) := by decide +kernel
theorem dX8_now_59 : decode cX8_now 59 = .ok (.ireturn, 1) := by decide +kernel
theorem dX8_now_60 : decode cX8_now 60 = .ok (.aload_n 0, 1) := by decide +kernel
theorem dX8_now_61 : decode cX8_now 61 = .ok (.getfield 38, 3) := by decide +kernel
theorem dX8_now_64 : decode cX8_now 64 = .ok (.getfield 133, 3) := by decide +kernel
theorem dX8_now_67 : decode cX8_now 67 = .ok (.ireturn, 1) := by decide +kernel
theorem dX8_now_68 : decode cX8_now 68 = .ok (.aload_n 0, 1) := by decide +kernel
theorem dX8_now_69 : decode cX8_now 69 = .ok (.getfield 38, 3) := by decide +kernel
theorem dX8_now_72 : decode cX8_now 72 = .ok (.getfield 136, 3) := by decide +kernel
theorem dX8_now_75 : decode cX8_now 75 = .ok (.ireturn, 1) := by decide +kernel
theorem dX8_now_76 : decode cX8_now 76 = .ok (.aload_n 0, 1) := by decide +kernel
theorem dX8_now_77 : decode cX8_now 77 = .ok (.getfield 38, 3) := by decide +kernel
theorem dX8_now_80 : decode cX8_now 80 = .ok (.getfield 139, 3) := by decide +kernel
theorem dX8_now_83 : decode cX8_now 83 = .ok (.ireturn, 1) := by decide +kernel
theorem dX8_now_84 : decode cX8_now 84 = .ok (.aload_n 0, 1) := by decide +kernel
theorem dX8_now_85 : decode cX8_now 85 = .ok (.invokevirtual 142, 3) := by decide +kernel
theorem dX8_now_88 : decode cX8_now 88 = .ok (.ifCond .eq 8, 3) := by decide +kernel
theorem dX8_now_91 : decode cX8_now 91 = .ok (.bipush (-9), 2) := by decide +kernel
theorem dX8_now_93 : decode cX8_now 93 = .ok (.goto 7, 3) := by decide +kernel
theorem dX8_now_96 : decode cX8_now 96 = .ok (.aload_n 0, 1) := by decide +kernel
theorem dX8_now_97 : decode cX8_now 97 = .ok (.invokevirtual 146, 3) := by decide +kernel
theorem dX8_now_100 : decode cX8_now 100 = .ok (.ireturn, 1) := by decide +kernel
theorem dX8_now_101 : decode cX8_now 101 = .ok (.aload_n 0, 1) := by decide +kernel
theorem dX8_now_102 : decode cX8_now 102 = .ok (.getfield 45, 3) := by decide +kernel
theorem dX8_now_105 : decode cX8_now 105 = .ok (.getfield 150, 3) := by decide +kernel
theorem dX8_now_108 : decode cX8_now 108 = .ok (.ireturn, 1) := by decide +kernel
theorem dX8_now_109 : decode cX8_now 109 = .ok (.iconst (-1), 1) := by decide +kernel
theorem dX8_now_110 : decode cX8_now 110 = .ok (.ireturn, 1) := by decide +kernel
set_option maxRecDepth 20000 in
theorem ggX8_got_X8_isLord : GoodIn wsX8_got wsX8_isLord := goodIn_r _ [7] (by decide +kernel) (by decide +kernel)
set_option maxRecDepth 20000 in
theorem gX8_got_X8_isLord : GoodIn wsX8_got (wsV RX8 153 RX8 yX8_isLord wsX8_isLord) := goodIn_app (goodIn_of _ (by decide +kernel)) ggX8_got_X8_isLord
set_option maxRecDepth 20000 in
theorem ggX8_got_X5_get : GoodIn wsX8_got wsX5_get := goodIn_r _ [11] (by decide +kernel) (by decide +kernel)
set_option maxRecDepth 20000 in
theorem gX8_got_X5_get : GoodIn wsX8_got (va_wsS RX8 159 yX5_get wsX5_get) := goodIn_app (goodIn_of _ (by decide +kernel)) ggX8_got_X5_get
theorem dX8_got_0 : decode cX8_got 0 = .ok (.aload_n 0, 1) := by decide +kernel
theorem dX8_got_1 : decode cX8_got 1 = .ok (.iload_n 1, 1) := by decide +kernel
theorem dX8_got_2 : decode cX8_got 2 = .ok (.invokevirtual 153, 3) := by decide +kernel
theorem dX8_got_5 : decode cX8_got 5 = .ok (.ifCond .eq 17, 3) := by decide +kernel
theorem dX8_got_8 : decode cX8_got 8 = .ok (.aload_n 0, 1) := by decide +kernel
theorem dX8_got_9 : decode cX8_got 9 = .ok (.getfield 38, 3) := by decide +kernel
theorem dX8_got_12 : decode cX8_got 12 = .ok (.getfield 156, 3) := by decide +kernel
theorem dX8_got_15 : decode cX8_got 15 = .ok (.iload_n 1, 1) := by decide +kernel
theorem dX8_got_16 : decode cX8_got 16 = .ok (.invokestatic 159, 3) := by decide +kernel
theorem dX8_got_19 : decode cX8_got 19 = .ok (.goto 4, 3) := by decide +kernel
theorem dX8_got_22 : decode cX8_got 22 = .ok (.iconst (-1), 1) := by decide +kernel
theorem dX8_got_23 : decode cX8_got 23 = .ok (.ireturn, 1) := by decide +kernel
set_option maxRecDepth 20000 in
theorem ggX8_pays_X8_isAtSea : GoodIn wsX8_pays wsX8_isAtSea := goodIn_r _ [11, 1, 5, 4, 12, 91, 92, 93, 94, 95, 96, 97, 98, 99, 100, 101, 102, 103, 104, 105, 106, 107, 108, 109, 110, 111, 112, 113, 114, 115, 116] (by decide +kernel) (by decide +kernel)
set_option maxRecDepth 20000 in
theorem gX8_pays_X8_isAtSea : GoodIn wsX8_pays (wsV RX8 142 RX8 yX8_isAtSea wsX8_isAtSea) := goodIn_app (goodIn_of _ (by decide +kernel)) ggX8_pays_X8_isAtSea
set_option maxRecDepth 20000 in
theorem ggX8_pays_X8_dueHere : GoodIn wsX8_pays wsX8_dueHere := goodIn_r _ [16, 1, 17, 4, 5, 18, 19, 20, 21, 22, 23, 24, 25, 26, 27, 28, 29, 30, 31, 10, 32, 33, 34, 35, 36, 37, 38, 39, 40, 41, 42, 43, 44, 45, 46, 47, 48, 49, 50, 51, 52, 53, 91, 92, 93, 94, 95, 96, 97, 98, 99, 100, 101, 102, 103, 104, 105, 106, 107, 108, 109, 110, 111, 112, 113, 114, 115, 116] (by decide +kernel) (by decide +kernel)
set_option maxRecDepth 20000 in
theorem gX8_pays_X8_dueHere : GoodIn wsX8_pays (wsV RX8 146 RX8 yX8_dueHere wsX8_dueHere) := goodIn_app (goodIn_of _ (by decide +kernel)) ggX8_pays_X8_dueHere
set_option maxRecDepth 20000 in
theorem ggX8_pays_X1_remember : GoodIn wsX8_pays wsX1_remember := goodIn_r _ [58, 59, 60, 61, 62, 63, 64, 65, 66, 67, 57, 68, 69, 70, 71, 72, 36, 73, 74, 75, 76, 77, 78, 38, 43, 79, 80, 81, 27, 82, 117, 118, 119, 104, 105, 106, 107, 108, 109, 110, 111] (by decide +kernel) (by decide +kernel)
set_option maxRecDepth 20000 in
theorem gX8_pays_X1_remember : GoodIn wsX8_pays (wsV RX8 163 RX1 yX1_remember wsX1_remember) := goodIn_app (goodIn_of _ (by decide +kernel)) ggX8_pays_X1_remember
set_option maxRecDepth 20000 in
theorem ggX8_pays_X3_fact : GoodIn wsX8_pays wsX3_fact := goodIn_r _ [23, 24, 25, 26, 27, 28, 112, 113, 114, 115, 116] (by decide +kernel) (by decide +kernel)
set_option maxRecDepth 20000 in
theorem gX8_pays_X3_fact : GoodIn wsX8_pays (wsV RX8 120 RX3 yX3_fact wsX3_fact) := goodIn_app (goodIn_of _ (by decide +kernel)) ggX8_pays_X3_fact
set_option maxRecDepth 20000 in
theorem ggX8_pays_X5_get : GoodIn wsX8_pays wsX5_get := goodIn_r _ [28] (by decide +kernel) (by decide +kernel)
set_option maxRecDepth 20000 in
theorem gX8_pays_X5_get : GoodIn wsX8_pays (va_wsS RX8 159 yX5_get wsX5_get) := goodIn_app (goodIn_of _ (by decide +kernel)) ggX8_pays_X5_get
set_option maxRecDepth 20000 in
theorem ggX8_pays_X5_put : GoodIn wsX8_pays wsX5_put := goodIn_r _ [86] (by decide +kernel) (by decide +kernel)
set_option maxRecDepth 20000 in
theorem gX8_pays_X5_put : GoodIn wsX8_pays (va_wsS RX8 100 yX5_put wsX5_put) := goodIn_app (goodIn_of _ (by decide +kernel)) ggX8_pays_X5_put
set_option maxRecDepth 20000 in
theorem ggX8_pays_X8_goOn : GoodIn wsX8_pays wsX8_goOn := goodIn_r _ [90, 1, 17, 5, 91, 92, 93, 94, 95, 96, 97, 98, 99, 100, 101, 102, 103, 104, 105, 106, 107, 108, 109, 110, 111] (by decide +kernel) (by decide +kernel)
