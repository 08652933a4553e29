theorem dX8_took_51 : decode cX8_took 51 = .ok (.ifCond .eq 9, 3) := by decide +kernel
theorem dX8_took_54 : decode cX8_took 54 = .ok (.iload_n 1, 1) := by decide +kernel
theorem dX8_took_55 : decode cX8_took 55 = .ok (.sipush 256, 3) := by decide +kernel
theorem dX8_took_58 : decode cX8_took 58 = .ok (.ior, 1) := by decide +kernel
theorem dX8_took_59 : decode cX8_took 59 = .ok (.istore_n 1, 1) := by decide +kernel
theorem dX8_took_60 : decode cX8_took 60 = .ok (.iload_n 1, 1) := by decide +kernel
theorem dX8_took_61 : decode cX8_took 61 = .ok (.ireturn, 1) := by decide +kernel
set_option maxRecDepth 20000 in
theorem ggX8_odds_X3_fact : GoodIn wsX8_odds wsX3_fact := goodIn_r _ [9, 10, 11, 12, 13, 14, 35, 36, 37, 38, 39] (by decide +kernel) (by decide +kernel)
set_option maxRecDepth 20000 in
theorem gX8_odds_X3_fact : GoodIn wsX8_odds (wsV RX8 120 RX3 yX3_fact wsX3_fact) := goodIn_app (goodIn_of _ (by decide +kernel)) ggX8_odds_X3_fact
set_option maxRecDepth 20000 in
theorem ggX8_odds_X6_inLeastTerms : GoodIn wsX8_odds wsX6_inLeastTerms := goodIn_r _ [18, 19, 20, 17, 21] (by decide +kernel) (by decide +kernel)
set_option maxRecDepth 20000 in
theorem gX8_odds_X6_inLeastTerms : GoodIn wsX8_odds (va_wsS RX8 212 yX6_inLeastTerms wsX6_inLeastTerms) := goodIn_app (goodIn_of _ (by decide +kernel)) ggX8_odds_X6_inLeastTerms
theorem dX8_odds_0 : decode cX8_odds 0 = .ok (.iload_n 1, 1) := by decide +kernel
theorem dX8_odds_1 : decode cX8_odds 1 = .ok (.ifCond .lt 25, 3) := by decide +kernel
theorem dX8_odds_4 : decode cX8_odds 4 = .ok (.iload_n 1, 1) := by decide +kernel
theorem dX8_odds_5 : decode cX8_odds 5 = .ok (.iconst 1, 1) := by decide +kernel
theorem dX8_odds_6 : decode cX8_odds 6 = .ok (.aload_n 0, 1) := by decide +kernel
theorem dX8_odds_7 : decode cX8_odds 7 = .ok (.getfield 32, 3) := by decide +kernel
theorem dX8_odds_10 : decode cX8_odds 10 = .ok (.getfield 188, 3) := by decide +kernel
theorem dX8_odds_13 : decode cX8_odds 13 = .ok (.ishl, 1) := by decide +kernel
theorem dX8_odds_14 : decode cX8_odds 14 = .ok (.if_icmp .ge 12, 3) := by decide +kernel
theorem dX8_odds_17 : decode cX8_odds 17 = .ok (.iload_n 2, 1) := by decide +kernel
theorem dX8_odds_18 : decode cX8_odds 18 = .ok (.ifCond .lt 8, 3) := by decide +kernel
theorem dX8_odds_21 : decode cX8_odds 21 = .ok (.iload_n 2, 1) := by decide +kernel
theorem dX8_odds_22 : decode cX8_odds 22 = .ok (.iconst 1, 1) := by decide +kernel
theorem dX8_odds_23 : decode cX8_odds 23 = .ok (.if_icmp .le 5, 3) := by decide +kernel
theorem dX8_odds_26 : decode cX8_odds 26 = .ok (.iconst (-1), 1) := by decide +kernel
theorem dX8_odds_27 : decode cX8_odds 27 = .ok (.ireturn, 1) := by decide +kernel
theorem dX8_odds_28 : decode cX8_odds 28 = .ok (.iconst 1, 1) := by decide +kernel
theorem dX8_odds_29 : decode cX8_odds 29 = .ok (.istore_n 3, 1) := by decide +kernel
theorem dX8_odds_30 : decode cX8_odds 30 = .ok (.iconst 1, 1) := by decide +kernel
theorem dX8_odds_31 : decode cX8_odds 31 = .ok (.istore 4, 2) := by decide +kernel
theorem dX8_odds_33 : decode cX8_odds 33 = .ok (.aload_n 0, 1) := by decide +kernel
theorem dX8_odds_34 : decode cX8_odds 34 = .ok (.getfield 38, 3) := by decide +kernel
theorem dX8_odds_37 : decode cX8_odds 37 = .ok (.getfield 127, 3) := by decide +kernel
theorem dX8_odds_40 : decode cX8_odds 40 = .ok (.istore 5, 2) := by decide +kernel
theorem dX8_odds_42 : decode cX8_odds 42 = .ok (.iload 5, 2) := by decide +kernel
theorem dX8_odds_44 : decode cX8_odds 44 = .ok (.aload_n 0, 1) := by decide +kernel
theorem dX8_odds_45 : decode cX8_odds 45 = .ok (.getfield 32, 3) := by decide +kernel
theorem dX8_odds_48 : decode cX8_odds 48 = .ok (.getfield 188, 3) := by decide +kernel
theorem dX8_odds_51 : decode cX8_odds 51 = .ok (.if_icmp .ge 42, 3) := by decide +kernel
theorem dX8_odds_54 : decode cX8_odds 54 = .ok (.iload_n 1, 1) := by decide +kernel
theorem dX8_odds_55 : decode cX8_odds 55 = .ok (.iload 5, 2) := by decide +kernel
theorem dX8_odds_57 : decode cX8_odds 57 = .ok (.ishr, 1) := by decide +kernel
theorem dX8_odds_58 : decode cX8_odds 58 = .ok (.iconst 1, 1) := by decide +kernel
theorem dX8_odds_59 : decode cX8_odds 59 = .ok (.iand, 1) := by decide +kernel
theorem dX8_odds_60 : decode cX8_odds 60 = .ok (.iconst 1, 1) := by decide +kernel
theorem dX8_odds_61 : decode cX8_odds 61 = .ok (.if_icmp .ne 26, 3) := by decide +kernel
theorem dX8_odds_64 : decode cX8_odds 64 = .ok (.iload_n 3, 1) := by decide +kernel
theorem dX8_odds_65 : decode cX8_odds 65 = .ok (.bipush 10, 2) := by decide +kernel
theorem dX8_odds_67 : decode cX8_odds 67 = .ok (.aload_n 0, 1) := by decide +kernel
theorem dX8_odds_68 : decode cX8_odds 68 = .ok (.getfield 32, 3) := by decide +kernel
theorem dX8_odds_71 : decode cX8_odds 71 = .ok (.iload 5, 2) := by decide +kernel
theorem dX8_odds_73 : decode cX8_odds 73 = .ok (.iconst 3, 1) := by decide +kernel
theorem dX8_odds_74 : decode cX8_odds 74 = .ok (.invokevirtual 120, 3) := by decide +kernel
theorem dX8_odds_77 : decode cX8_odds 77 = .ok (.isub, 1) := by decide +kernel
theorem dX8_odds_78 : decode cX8_odds 78 = .ok (.imul, 1) := by decide +kernel
theorem dX8_odds_79 : decode cX8_odds 79 = .ok (.istore_n 3, 1) := by decide +kernel
theorem dX8_odds_80 : decode cX8_odds 80 = .ok (.iload 4, 2) := by decide +kernel
theorem dX8_odds_82 : decode cX8_odds 82 = .ok (.bipush 10, 2) := by decide +kernel
theorem dX8_odds_84 : decode cX8_odds 84 = .ok (.imul, 1) := by decide +kernel
theorem dX8_odds_85 : decode cX8_odds 85 = .ok (.istore 4, 2) := by decide +kernel
theorem dX8_odds_87 : decode cX8_odds 87 = .ok (.iinc 5 1, 3) := by decide +kernel
theorem dX8_odds_90 : decode cX8_odds 90 = .ok (.goto (-48), 3) := by decide +kernel
theorem dX8_odds_93 : decode cX8_odds 93 = .ok (.iload_n 2, 1) := by decide +kernel
theorem dX8_odds_94 : decode cX8_odds 94 = .ok (.ifCond .ne 12, 3) := by decide +kernel
theorem dX8_odds_97 : decode cX8_odds 97 = .ok (.iload_n 3, 1) := by decide +kernel
theorem dX8_odds_98 : decode cX8_odds 98 = .ok (.iload 4, 2) := by decide +kernel
theorem dX8_odds_100 : decode cX8_odds 100 = .ok (.invokestatic 212, 3) := by decide +kernel
theorem dX8_odds_103 : decode cX8_odds 103 = .ok (.goto 9, 3) := by decide +kernel
theorem dX8_odds_106 : decode cX8_odds 106 = .ok (.iload 4, 2) := by decide +kernel
theorem dX8_odds_108 : decode cX8_odds 108 = .ok (.iload_n 3, 1) := by decide +kernel
theorem dX8_odds_109 : decode cX8_odds 109 = .ok (.invokestatic 212, 3) := by decide +kernel
theorem dX8_odds_112 : decode cX8_odds 112 = .ok (.ireturn, 1) := by decide +kernel
set_option maxRecDepth 20000 in
theorem ggX8_rate_X8_isRock : GoodIn wsX8_rate wsX8_isRock := goodIn_r _ [6, 7, 8, 58, 59, 60, 61, 62, 63, 64, 65, 66, 67, 68, 69, 70, 71, 72, 73, 74, 75] (by decide +kernel) (by decide +kernel)
set_option maxRecDepth 20000 in
theorem gX8_rate_X8_isRock : GoodIn wsX8_rate (wsV RX8 109 RX8 yX8_isRock wsX8_isRock) := goodIn_app (goodIn_of _ (by decide +kernel)) ggX8_rate_X8_isRock
set_option maxRecDepth 20000 in
theorem ggX8_rate_X8_asRock : GoodIn wsX8_rate wsX8_asRock := goodIn_r _ [12, 13, 14, 15, 16, 17, 18, 19, 20, 21, 22, 23, 24, 58, 59, 60, 61, 62, 63, 64, 65, 66, 67, 68, 69, 70, 76, 77, 78, 79, 80, 81, 82, 83] (by decide +kernel) (by decide +kernel)
set_option maxRecDepth 20000 in
theorem gX8_rate_X8_asRock : GoodIn wsX8_rate (wsV RX8 227 RX8 yX8_asRock wsX8_asRock) := goodIn_app (goodIn_of _ (by decide +kernel)) ggX8_rate_X8_asRock
set_option maxRecDepth 20000 in
theorem ggX8_rate_X8_asChain : GoodIn wsX8_rate wsX8_asChain := goodIn_r _ [28, 13, 29, 7, 9, 10, 11, 5, 12, 14, 15, 16, 17, 18, 19, 20, 21, 22, 23, 24, 30, 31, 32, 33, 34, 35, 36, 58, 59, 60, 61, 62, 63, 64, 65, 66, 67, 68, 69, 70, 76, 77, 78, 79, 80, 81, 82, 83, 71, 72, 73, 74, 75] (by decide +kernel) (by decide +kernel)
set_option maxRecDepth 20000 in
theorem gX8_rate_X8_asChain : GoodIn wsX8_rate (wsV RX8 230 RX8 yX8_asChain wsX8_asChain) := goodIn_app (goodIn_of _ (by decide +kernel)) ggX8_rate_X8_asChain
set_option maxRecDepth 20000 in
theorem ggX8_rate_X8_asTower : GoodIn wsX8_rate wsX8_asTower := goodIn_r _ [40, 13, 41, 7, 9, 10, 11, 5, 12, 14, 15, 16, 17, 18, 19, 20, 21, 22, 23, 24, 30, 31, 32, 33, 34, 35, 36, 58, 59, 60, 61, 62, 63, 64, 65, 66, 67, 68, 69, 70, 76, 77, 78, 79, 80, 81, 82, 83, 71, 72, 73, 74, 75] (by decide +kernel) (by decide +kernel)
set_option maxRecDepth 20000 in
theorem gX8_rate_X8_asTower : GoodIn wsX8_rate (wsV RX8 233 RX8 yX8_asTower wsX8_asTower) := goodIn_app (goodIn_of _ (by decide +kernel)) ggX8_rate_X8_asTower
set_option maxRecDepth 20000 in
theorem ggX8_rate_X8_asBridge : GoodIn wsX8_rate wsX8_asBridge := goodIn_r _ [45, 13, 46, 25, 26, 27, 5, 28, 29, 7, 9, 10, 11, 12, 14, 15, 16, 17, 18, 19, 20, 21, 22, 23, 24, 30, 31, 32, 33, 34, 35, 36, 58, 59, 60, 61, 62, 63, 64, 65, 66, 67, 68, 69, 70, 76, 77, 78, 79, 80, 81, 82, 83, 71, 72, 73, 74, 75] (by decide +kernel) (by decide +kernel)
set_option maxRecDepth 20000 in
theorem gX8_rate_X8_asBridge : GoodIn wsX8_rate (wsV RX8 236 RX8 yX8_asBridge wsX8_asBridge) := goodIn_app (goodIn_of _ (by decide +kernel)) ggX8_rate_X8_asBridge
set_option maxRecDepth 20000 in
theorem ggX8_rate_X8_asIsle : GoodIn wsX8_rate wsX8_asIsle := goodIn_r _ [50, 13, 51, 37, 38, 39, 5, 40, 41, 7, 9, 10, 11, 12, 14, 15, 16, 17, 18, 19, 20, 21, 22, 23, 24, 30, 31, 32, 33, 34, 35, 36, 58, 59, 60, 61, 62, 63, 64, 65, 66, 67, 68, 69, 70, 76, 77, 78, 79, 80, 81, 82, 83, 71, 72, 73, 74, 75] (by decide +kernel) (by decide +kernel)
set_option maxRecDepth 20000 in
theorem gX8_rate_X8_asIsle : GoodIn wsX8_rate (wsV RX8 239 RX8 yX8_asIsle wsX8_asIsle) := goodIn_app (goodIn_of _ (by decide +kernel)) ggX8_rate_X8_asIsle
set_option maxRecDepth 20000 in
theorem ggX8_rate_X8_asBend : GoodIn wsX8_rate wsX8_asBend := goodIn_r _ [55, 13, 56, 14, 57, 9, 10, 11, 5, 12, 15, 16, 17, 18, 19, 20, 21, 22, 23, 24, 58, 59, 60, 61, 62, 63, 64, 65, 66, 67, 68, 69, 70, 76, 77, 78, 79, 80, 81, 82, 83] (by decide +kernel) (by decide +kernel)
set_option maxRecDepth 20000 in
theorem gX8_rate_X8_asBend : GoodIn wsX8_rate (wsV RX8 242 RX8 yX8_asBend wsX8_asBend) := goodIn_app (goodIn_of _ (by decide +kernel)) ggX8_rate_X8_asBend
theorem dX8_rate_0 : decode cX8_rate 0 = .ok (.aload_n 0, 1) := by decide +kernel
theorem dX8_rate_1 : decode cX8_rate 1 = .ok (.iload_n 2, 1) := by decide +kernel
theorem dX8_rate_2 : decode cX8_rate 2 = .ok (.invokevirtual 109, 3) := by decide +kernel
theorem dX8_rate_5 : decode cX8_rate 5 = .ok (.ifCond .ne 6, 3) := by decide +kernel
theorem dX8_rate_8 : decode cX8_rate 8 = .ok (.ldc 226, 2) := by decide +kernel
theorem dX8_rate_10 : decode cX8_rate 10 = .ok (.ireturn, 1) := by decide +kernel
theorem dX8_rate_11 : decode cX8_rate 11 = .ok (.iload_n 1, 1) := by decide +kernel
theorem dX8_rate_12 : decode cX8_rate 12 = .ok (.tableswitch 76 0 5 #[40, 46, 52, 58, 64, 70], 40) := by decide +kernel
theorem dX8_rate_52 : decode cX8_rate 52 = .ok (.aload_n 0, 1) := by decide +kernel
theorem dX8_rate_53 : decode cX8_rate 53 = .ok (.iload_n 2, 1) := by decide +kernel
theorem dX8_rate_54 : decode cX8_rate 54 = .ok (.invokevirtual 227, 3) := by decide +kernel
theorem dX8_rate_57 : decode cX8_rate 57 = .ok (.ireturn, 1) := by decide +kernel
theorem dX8_rate_58 : decode cX8_rate 58 = .ok (.aload_n 0, 1) := by decide +kernel
theorem dX8_rate_59 : decode cX8_rate 59 = .ok (.iload_n 2, 1) := by decide +kernel
theorem dX8_rate_60 : decode cX8_rate 60 = .ok (.invokevirtual 230, 3) := by decide +kernel
theorem dX8_rate_63 : decode cX8_rate 63 = .ok (.ireturn, 1) := by decide +kernel
theorem dX8_rate_64 : decode cX8_rate 64 = .ok (.aload_n 0, 1) := by decide +kernel
theorem dX8_rate_65 : decode cX8_rate 65 = .ok (.iload_n 2, 1) := by decide +kernel
theorem dX8_rate_66 : decode cX8_rate 66 = .ok (.invokevirtual 233, 3) := by decide +kernel
theorem dX8_rate_69 : decode cX8_rate 69 = .ok (.ireturn, 1) := by decide +kernel
theorem dX8_rate_70 : decode cX8_rate 70 = .ok (.aload_n 0, 1) := by decide +kernel
theorem dX8_rate_71 : decode cX8_rate 71 = .ok (.iload_n 2, 1) := by decide +kernel
theorem dX8_rate_72 : decode cX8_rate 72 = .ok (.invokevirtual 236, 3) := by decide +kernel
theorem dX8_rate_75 : decode cX8_rate 75 = .ok (.ireturn, 1) := by decide +kernel
theorem dX8_rate_76 : decode cX8_rate 76 = .ok (.aload_n 0, 1) := by decide +kernel
theorem dX8_rate_77 : decode cX8_rate 77 = .ok (.iload_n 2, 1) := by decide +kernel
theorem dX8_rate_78 : decode cX8_rate 78 = .ok (.invokevirtual 239, 3) := by decide +kernel
theorem dX8_rate_81 : decode cX8_rate 81 = .ok (.ireturn, 1) := by decide +kernel
theorem dX8_rate_82 : decode cX8_rate 82 = .ok (.aload_n 0, 1) := by decide +kernel
theorem dX8_rate_83 : decode cX8_rate 83 = .ok (.iload_n 2, 1) := by decide +kernel
theorem dX8_rate_84 : decode cX8_rate 84 = .ok (.invokevirtual 242, 3) := by decide +kernel
theorem dX8_rate_87 : decode cX8_rate 87 = .ok (.ireturn, 1) := by decide +kernel
theorem dX8_rate_88 : decode cX8_rate 88 = .ok (.ldc 226, 2) := by decide +kernel
theorem dX8_rate_90 : decode cX8_rate 90 = .ok (.ireturn, 1) := by decide +kernel
set_option maxRecDepth 20000 in
theorem ggX8_keep_X8_imageOf : GoodIn wsX8_keep wsX8_imageOf := goodIn_r _ [8, 9, 30, 31, 32, 33, 34, 35, 36, 37, 38, 39, 40, 41, 42] (by decide +kernel) (by decide +kernel)
set_option maxRecDepth 20000 in
theorem gX8_keep_X8_imageOf : GoodIn wsX8_keep (wsV RX8 245 RX8 yX8_imageOf wsX8_imageOf) := goodIn_app (goodIn_of _ (by decide +kernel)) ggX8_keep_X8_imageOf
set_option maxRecDepth 20000 in
theorem ggX8_keep_X0_become : GoodIn wsX8_keep wsX0_become := goodIn_r _ [14, 15, 16, 17, 18, 19, 20, 21, 22, 23, 24, 25, 26, 43, 44, 45, 46, 47, 48, 49, 50] (by decide +kernel) (by decide +kernel)
set_option maxRecDepth 20000 in
theorem gX8_keep_X0_become : GoodIn wsX8_keep (wsV RX8 249 RX0 yX0_become wsX0_become) := goodIn_app (goodIn_of _ (by decide +kernel)) ggX8_keep_X0_become
set_option maxRecDepth 20000 in
theorem ggX8_keep_X5_put : GoodIn wsX8_keep wsX5_put := goodIn_r _ [29] (by decide +kernel) (by decide +kernel)
set_option maxRecDepth 20000 in
theorem gX8_keep_X5_put : GoodIn wsX8_keep (va_wsS RX8 100 yX5_put wsX5_put) := goodIn_app (goodIn_of _ (by decide +kernel)) ggX8_keep_X5_put
theorem dX8_keep_0 : decode cX8_keep 0 = .ok (.aload_n 0, 1) := by decide +kernel
theorem dX8_keep_1 : decode cX8_keep 1 = .ok (.iload_n 1, 1) := by decide +kernel
theorem dX8_keep_2 : decode cX8_keep 2 = .ok (.invokevirtual 245, 3) := by decide +kernel
theorem dX8_keep_5 : decode cX8_keep 5 = .ok (.astore_n 2, 1) := by decide +kernel
theorem dX8_keep_6 : decode cX8_keep 6 = .ok (.aload_n 2, 1) := by decide +kernel
theorem dX8_keep_7 : decode cX8_keep 7 = .ok (.ifnonnull 5, 3) := by decide +kernel
theorem dX8_keep_10 : decode cX8_keep 10 = .ok (.iconst (-1), 1) := by decide +kernel
theorem dX8_keep_11 : decode cX8_keep 11 = .ok (.ireturn, 1) := by decide +kernel
theorem dX8_keep_12 : decode cX8_keep 12 = .ok (.aload_n 2, 1) := by decide +kernel
theorem dX8_keep_13 : decode cX8_keep 13 = .ok (.aload_n 0, 1) := by decide +kernel
theorem dX8_keep_14 : decode cX8_keep 14 = .ok (.getfield 38, 3) := by decide +kernel
theorem dX8_keep_17 : decode cX8_keep 17 = .ok (.invokevirtual 249, 3) := by decide +kernel
theorem dX8_keep_20 : decode cX8_keep 20 = .ok (.aload_n 0, 1) := by decide +kernel
theorem dX8_keep_21 : decode cX8_keep 21 = .ok (.getfield 53, 3) := by decide +kernel
theorem dX8_keep_24 : decode cX8_keep 24 = .ok (.iload_n 1, 1) := by decide +kernel
theorem dX8_keep_25 : decode cX8_keep 25 = .ok (.iconst 1, 1) := by decide +kernel
theorem dX8_keep_26 : decode cX8_keep 26 = .ok (.invokestatic 100, 3) := by decide +kernel
theorem dX8_keep_29 : decode cX8_keep 29 = .ok (.aload_n 0, 1) := by decide +kernel
theorem dX8_keep_30 : decode cX8_keep 30 = .ok (.getfield 38, 3) := by decide +kernel
theorem dX8_keep_33 : decode cX8_keep 33 = .ok (.getfield 127, 3) := by decide +kernel
theorem dX8_keep_36 : decode cX8_keep 36 = .ok (.ireturn, 1) := by decide +kernel
set_option maxRecDepth 20000 in
theorem ggX8_back_X8_imageOf : GoodIn wsX8_back wsX8_imageOf := goodIn_r _ [9, 10, 37, 38, 39, 40, 41, 42, 43, 44, 45, 46, 47, 48, 49] (by decide +kernel) (by decide +kernel)
set_option maxRecDepth 20000 in
theorem gX8_back_X8_imageOf : GoodIn wsX8_back (wsV RX8 245 RX8 yX8_imageOf wsX8_imageOf) := goodIn_app (goodIn_of _ (by decide +kernel)) ggX8_back_X8_imageOf
set_option maxRecDepth 20000 in
theorem ggX8_back_X5_get : GoodIn wsX8_back wsX5_get := goodIn_r _ [14] (by decide +kernel) (by decide +kernel)
set_option maxRecDepth 20000 in
theorem gX8_back_X5_get : GoodIn wsX8_back (va_wsS RX8 159 yX5_get wsX5_get) := goodIn_app (goodIn_of _ (by decide +kernel)) ggX8_back_X5_get
set_option maxRecDepth 20000 in
theorem ggX8_back_X0_become : GoodIn wsX8_back wsX0_become := goodIn_r _ [19, 20, 21, 22, 23, 24, 25, 26, 27, 28, 29, 13, 30, 50, 51, 52, 53, 54, 55, 56, 57] (by decide +kernel) (by decide +kernel)
set_option maxRecDepth 20000 in
theorem gX8_back_X0_become : GoodIn wsX8_back (wsV RX8 249 RX0 yX0_become wsX0_become) := goodIn_app (goodIn_of _ (by decide +kernel)) ggX8_back_X0_become
set_option maxRecDepth 20000 in
theorem ggX8_back_X1_forgetAll : GoodIn wsX8_back wsX1_forgetAll := goodIn_r _ [35, 36, 58, 59, 60] (by decide +kernel) (by decide +kernel)
set_option maxRecDepth 20000 in
theorem gX8_back_X1_forgetAll : GoodIn wsX8_back (wsV RX8 97 RX1 yX1_forgetAll wsX1_forgetAll) := goodIn_app (goodIn_of _ (by decide +kernel)) ggX8_back_X1_forgetAll
theorem dX8_back_0 : decode cX8_back 0 = .ok (.aload_n 0, 1) := by decide +kernel
theorem dX8_back_1 : decode cX8_back 1 = .ok (.iload_n 1, 1) := by decide +kernel
theorem dX8_back_2 : decode cX8_back 2 = .ok (.invokevirtual 245, 3) := by decide +kernel
theorem dX8_back_5 : decode cX8_back 5 = .ok (.astore_n 2, 1) := by decide +kernel
theorem dX8_back_6 : decode cX8_back 6 = .ok (.aload_n 2, 1) := by decide +kernel
theorem dX8_back_7 : decode cX8_back 7 = .ok (.ifnonnull 5, 3) := by decide +kernel
theorem dX8_back_10 : decode cX8_back 10 = .ok (.iconst (-1), 1) := by decide +kernel
theorem dX8_back_11 : decode cX8_back 11 = .ok (.ireturn, 1) := by decide +kernel
theorem dX8_back_12 : decode cX8_back 12 = .ok (.aload_n 0, 1) := by decide +kernel
theorem dX8_back_13 : decode cX8_back 13 = .ok (.getfield 53, 3) := by decide +kernel
theorem dX8_back_16 : decode cX8_back 16 = .ok (.iload_n 1, 1) := by decide +kernel
theorem dX8_back_17 : decode cX8_back 17 = .ok (.invokestatic 159, 3) := by decide +kernel
theorem dX8_back_20 : decode cX8_back 20 = .ok (.ifCond .ne 6, 3) := by decide +kernel
theorem dX8_back_23 : decode cX8_back 23 = .ok (.bipush (-2), 2) := by decide +kernel
theorem dX8_back_25 : decode cX8_back 25 = .ok (.ireturn, 1) := by decide +kernel
theorem dX8_back_26 : decode cX8_back 26 = .ok (.aload_n 0, 1) := by decide +kernel
theorem dX8_back_27 : decode cX8_back 27 = .ok (.getfield 38, 3) := by decide +kernel
theorem dX8_back_30 : decode cX8_back 30 = .ok (.aload_n 2, 1) := by decide +kernel
theorem dX8_back_31 : decode cX8_back 31 = .ok (.invokevirtual 249, 3) := by decide +kernel
theorem dX8_back_34 : decode cX8_back 34 = .ok (.aload_n 0, 1) := by decide +kernel
theorem dX8_back_35 : decode cX8_back 35 = .ok (.getfield 45, 3) := by decide +kernel
theorem dX8_back_38 : decode cX8_back 38 = .ok (.invokevirtual 97, 3) := by decide +kernel
theorem dX8_back_41 : decode cX8_back 41 = .ok (.aload_n 0, 1) := by decide +kernel
theorem dX8_back_42 : decode cX8_back 42 = .ok (.getfield 38, 3) := by decide +kernel
theorem dX8_back_45 : decode cX8_back 45 = .ok (.getfield 127, 3) := by decide +kernel
theorem dX8_back_48 : decode cX8_back 48 = .ok (.ireturn, 1) := by decide +kernel
theorem dX8_count_0 : decode cX8_count 0 = .ok (.iload_n 1, 1) := by decide +kernel
theorem dX8_count_1 : decode cX8_count 1 = .ok (.tableswitch 48 0 2 #[27, 35, 40], 27) := by decide +kernel
theorem dX8_count_28 : decode cX8_count 28 = .ok (.aload_n 0, 1) := by decide +kernel
theorem dX8_count_29 : decode cX8_count 29 = .ok (.getfield 32, 3) := by decide +kernel
theorem dX8_count_32 : decode cX8_count 32 = .ok (.getfield 188, 3) := by decide +kernel
theorem dX8_count_35 : decode cX8_count 35 = .ok (.ireturn, 1) := by decide +kernel
theorem dX8_count_36 : decode cX8_count 36 = .ok (.aload_n 0, 1) := by decide +kernel
theorem dX8_count_37 : decode cX8_count 37 = .ok (.getfield 72, 3) := by decide +kernel
theorem dX8_count_40 : decode cX8_count 40 = .ok (.ireturn, 1) := by decide +kernel
theorem dX8_count_41 : decode cX8_count 41 = .ok (.aload_n 0, 1) := by decide +kernel
theorem dX8_count_42 : decode cX8_count 42 = .ok (.getfield 10, 3) := by decide +kernel
theorem dX8_count_45 : decode cX8_count 45 = .ok (.getfield 83, 3) := by decide +kernel
theorem dX8_count_48 : decode cX8_count 48 = .ok (.ireturn, 1) := by decide +kernel
theorem dX8_count_49 : decode cX8_count 49 = .ok (.iconst (-1), 1) := by decide +kernel
theorem dX8_count_50 : decode cX8_count 50 = .ok (.ireturn, 1) := by decide +kernel
theorem dX8_trace_0 : decode cX8_trace 0 = .ok (.aload_n 0, 1) := by decide +kernel
theorem dX8_trace_1 : decode cX8_trace 1 = .ok (.getfield 76, 3) := by decide +kernel
theorem dX8_trace_4 : decode cX8_trace 4 = .ok (.lreturn, 1) := by decide +kernel
theorem dX8_isRock_0 : decode cX8_isRock 0 = .ok (.iload_n 1, 1) := by decide +kernel
theorem dX8_isRock_1 : decode cX8_isRock 1 = .ok (.ifCond .lt 18, 3) := by decide +kernel
theorem dX8_isRock_4 : decode cX8_isRock 4 = .ok (.iload_n 1, 1) := by decide +kernel
theorem dX8_isRock_5 : decode cX8_isRock 5 = .ok (.aload_n 0, 1) := by decide +kernel
theorem dX8_isRock_6 : decode cX8_isRock 6 = .ok (.getfield 32, 3) := by decide +kernel
theorem dX8_isRock_9 : decode cX8_isRock 9 = .ok (.getfield 188, 3) := by decide +kernel
theorem dX8_isRock_12 : decode cX8_isRock 12 = .ok (.if_icmp .ge 7, 3) := by decide +kernel
theorem dX8_isRock_15 : decode cX8_isRock 15 = .ok (.iconst 1, 1) := by decide +kernel
theorem dX8_isRock_16 : decode cX8_isRock 16 = .ok (.goto 4, 3) := by decide +kernel
theorem dX8_isRock_19 : decode cX8_isRock 19 = .ok (.iconst 0, 1) := by decide +kernel
theorem dX8_isRock_20 : decode cX8_isRock 20 = .ok (.ireturn, 1) := by decide +kernel
theorem dX8_isLord_0 : decode cX8_isLord 0 = .ok (.iload_n 1, 1) := by decide +kernel
theorem dX8_isLord_1 : decode cX8_isLord 1 = .ok (.ifCond .lt 12, 3) := by decide +kernel
theorem dX8_isLord_4 : decode cX8_isLord 4 = .ok (.iload_n 1, 1) := by decide +kernel
theorem dX8_isLord_5 : decode cX8_isLord 5 = .ok (.iconst 3, 1) := by decide +kernel
theorem dX8_isLord_6 : decode cX8_isLord 6 = .ok (.if_icmp .gt 7, 3) := by decide +kernel
theorem dX8_isLord_9 : decode cX8_isLord 9 = .ok (.iconst 1, 1) := by decide +kernel
theorem dX8_isLord_10 : decode cX8_isLord 10 = .ok (.goto 4, 3) := by decide +kernel
theorem dX8_isLord_13 : decode cX8_isLord 13 = .ok (.iconst 0, 1) := by decide +kernel
theorem dX8_isLord_14 : decode cX8_isLord 14 = .ok (.ireturn, 1) := by decide +kernel
theorem dX8_isAtSea_0 : decode cX8_isAtSea 0 = .ok (.aload_n 0, 1) := by decide +kernel
theorem dX8_isAtSea_1 : decode cX8_isAtSea 1 = .ok (.getfield 38, 3) := by decide +kernel
theorem dX8_isAtSea_4 : decode cX8_isAtSea 4 = .ok (.getfield 127, 3) := by decide +kernel
theorem dX8_isAtSea_7 : decode cX8_isAtSea 7 = .ok (.aload_n 0, 1) := by decide +kernel
theorem dX8_isAtSea_8 : decode cX8_isAtSea 8 = .ok (.getfield 32, 3) := by decide +kernel
theorem dX8_isAtSea_11 : decode cX8_isAtSea 11 = .ok (.getfield 188, 3) := by decide +kernel
theorem dX8_isAtSea_14 : decode cX8_isAtSea 14 = .ok (.if_icmp .lt 7, 3) := by decide +kernel
theorem dX8_isAtSea_17 : decode cX8_isAtSea 17 = .ok (.iconst 1, 1) := by decide +kernel
theorem dX8_isAtSea_18 : decode cX8_isAtSea 18 = .ok (.goto 4, 3) := by decide +kernel
theorem dX8_isAtSea_21 : decode cX8_isAtSea 21 = .ok (.iconst 0, 1) := by decide +kernel
theorem dX8_isAtSea_22 : decode cX8_isAtSea 22 = .ok (.ireturn, 1) := by decide +kernel
theorem dX8_bitsAhead_0 : decode cX8_bitsAhead 0 = .ok (.iconst 0, 1) := by decide +kernel
theorem dX8_bitsAhead_1 : decode cX8_bitsAhead 1 = .ok (.istore_n 1, 1) := by decide +kernel
theorem dX8_bitsAhead_2 : decode cX8_bitsAhead 2 = .ok (.aload_n 0, 1) := by decide +kernel
theorem dX8_bitsAhead_3 : decode cX8_bitsAhead 3 = .ok (.getfield 38, 3) := by decide +kernel
theorem dX8_bitsAhead_6 : decode cX8_bitsAhead 6 = .ok (.getfield 127, 3) := by decide +kernel
theorem dX8_bitsAhead_9 : decode cX8_bitsAhead 9 = .ok (.istore_n 2, 1) := by decide +kernel
theorem dX8_bitsAhead_10 : decode cX8_bitsAhead 10 = .ok (.iload_n 2, 1) := by decide +kernel
theorem dX8_bitsAhead_11 : decode cX8_bitsAhead 11 = .ok (.aload_n 0, 1) := by decide +kernel
theorem dX8_bitsAhead_12 : decode cX8_bitsAhead 12 = .ok (.getfield 32, 3) := by decide +kernel
theorem dX8_bitsAhead_15 : decode cX8_bitsAhead 15 = .ok (.getfield 188, 3) := by decide +kernel
theorem dX8_bitsAhead_18 : decode cX8_bitsAhead 18 = .ok (.if_icmp .ge 15, 3) := by decide +kernel
theorem dX8_bitsAhead_21 : decode cX8_bitsAhead 21 = .ok (.iload_n 1, 1) := by decide +kernel
theorem dX8_bitsAhead_22 : decode cX8_bitsAhead 22 = .ok (.iconst 1, 1) := by decide +kernel
theorem dX8_bitsAhead_23 : decode cX8_bitsAhead 23 = .ok (.iload_n 2, 1) := by decide +kernel
theorem dX8_bitsAhead_24 : decode cX8_bitsAhead 24 = .ok (.ishl, 1) := by decide +kernel
theorem dX8_bitsAhead_25 : decode cX8_bitsAhead 25 = .ok (.ior, 1) := by decide +kernel
theorem dX8_bitsAhead_26 : decode cX8_bitsAhead 26 = .ok (.istore_n 1, 1) := by decide +kernel
theorem dX8_bitsAhead_27 : decode cX8_bitsAhead 27 = .ok (.iinc 2 1, 3) := by decide +kernel
theorem dX8_bitsAhead_30 : decode cX8_bitsAhead 30 = .ok (.goto (-20), 3) := by decide +kernel
theorem dX8_bitsAhead_33 : decode cX8_bitsAhead 33 = .ok (.iload_n 1, 1) := by decide +kernel
theorem dX8_bitsAhead_34 : decode cX8_bitsAhead 34 = .ok (.ireturn, 1) := by decide +kernel
set_option maxRecDepth 20000 in
theorem ggX8_priceOf_X0_isBroken : GoodIn wsX8_priceOf wsX0_isBroken := goodIn_r _ [7, 8, 46, 47, 48, 49, 50, 51, 52, 53] (by decide +kernel) (by decide +kernel)
set_option maxRecDepth 20000 in
theorem gX8_priceOf_X0_isBroken : GoodIn wsX8_priceOf (wsV RX8 117 RX0 yX0_isBroken wsX0_isBroken) := goodIn_app (goodIn_of _ (by decide +kernel)) ggX8_priceOf_X0_isBroken
set_option maxRecDepth 20000 in
theorem ggX8_priceOf_X0_tollOf : GoodIn wsX8_priceOf wsX0_tollOf := goodIn_r _ [12, 13, 14, 15, 16, 17, 46, 47, 48, 49, 50, 51, 52, 53] (by decide +kernel) (by decide +kernel)
set_option maxRecDepth 20000 in
theorem gX8_priceOf_X0_tollOf : GoodIn wsX8_priceOf (wsV RX8 113 RX0 yX0_tollOf wsX0_tollOf) := goodIn_app (goodIn_of _ (by decide +kernel)) ggX8_priceOf_X0_tollOf
set_option maxRecDepth 20000 in
theorem ggX8_priceOf_X3_price : GoodIn wsX8_priceOf wsX3_price := goodIn_r _ [22, 23, 24, 25, 21, 26, 27, 28, 15, 16, 17, 29, 30, 31, 32, 54, 55, 56, 57, 58] (by decide +kernel) (by decide +kernel)
set_option maxRecDepth 20000 in
theorem gX8_priceOf_X3_price : GoodIn wsX8_priceOf (wsV RX8 251 RX3 yX3_price wsX3_price) := goodIn_app (goodIn_of _ (by decide +kernel)) ggX8_priceOf_X3_price
theorem dX8_priceOf_0 : decode cX8_priceOf 0 = .ok (.aload_n 0, 1) := by decide +kernel
theorem dX8_priceOf_1 : decode cX8_priceOf 1 = .ok (.getfield 38, 3) := by decide +kernel
theorem dX8_priceOf_4 : decode cX8_priceOf 4 = .ok (.iload_n 1, 1) := by decide +kernel
theorem dX8_priceOf_5 : decode cX8_priceOf 5 = .ok (.invokevirtual 117, 3) := by decide +kernel
theorem dX8_priceOf_8 : decode cX8_priceOf 8 = .ok (.ifCond .eq 7, 3) := by decide +kernel
theorem dX8_priceOf_11 : decode cX8_priceOf 11 = .ok (.iconst 0, 1) := by decide +kernel
theorem dX8_priceOf_12 : decode cX8_priceOf 12 = .ok (.goto 20, 3) := by decide +kernel
theorem dX8_priceOf_15 : decode cX8_priceOf 15 = .ok (.aload_n 0, 1) := by decide +kernel
theorem dX8_priceOf_16 : decode cX8_priceOf 16 = .ok (.getfield 32, 3) := by decide +kernel
theorem dX8_priceOf_19 : decode cX8_priceOf 19 = .ok (.iload_n 1, 1) := by decide +kernel
theorem dX8_priceOf_20 : decode cX8_priceOf 20 = .ok (.aload_n 0, 1) := by decide +kernel
theorem dX8_priceOf_21 : decode cX8_priceOf 21 = .ok (.getfield 38, 3) := by decide +kernel
theorem dX8_priceOf_24 : decode cX8_priceOf 24 = .ok (.iload_n 1, 1) := by decide +kernel
theorem dX8_priceOf_25 : decode cX8_priceOf 25 = .ok (.invokevirtual 113, 3) := by decide +kernel
theorem dX8_priceOf_28 : decode cX8_priceOf 28 = .ok (.iload_n 2, 1) := by decide +kernel
theorem dX8_priceOf_29 : decode cX8_priceOf 29 = .ok (.invokevirtual 251, 3) := by decide +kernel
theorem dX8_priceOf_32 : decode cX8_priceOf 32 = .ok (.ireturn, 1) := by decide +kernel
set_option maxRecDepth 20000 in
theorem ggX8_dueHere_X3_fact : GoodIn wsX8_dueHere wsX3_fact := goodIn_r _ [10, 11, 12, 13, 14, 15, 63, 64, 65, 66, 67] (by decide +kernel) (by decide +kernel)
set_option maxRecDepth 20000 in
theorem gX8_dueHere_X3_fact : GoodIn wsX8_dueHere (wsV RX8 120 RX3 yX3_fact wsX3_fact) := goodIn_app (goodIn_of _ (by decide +kernel)) ggX8_dueHere_X3_fact
set_option maxRecDepth 20000 in
theorem ggX8_dueHere_X8_priceOf : GoodIn wsX8_dueHere wsX8_priceOf := goodIn_r _ [20, 1, 3, 21, 22, 23, 24, 25, 26, 27, 28, 29, 30, 31, 32, 13, 14, 15, 33, 34, 35, 9, 36, 37, 7, 8, 10, 11, 12, 38, 39, 40, 41, 42, 43, 44, 45, 46, 47, 48, 49, 50, 51, 52, 53, 54, 55, 56, 57, 58, 59, 60, 61, 62, 63, 64, 65, 66, 67] (by decide +kernel) (by decide +kernel)
set_option maxRecDepth 20000 in
theorem gX8_dueHere_X8_priceOf : GoodIn wsX8_dueHere (wsV RX8 124 RX8 yX8_priceOf wsX8_priceOf) := goodIn_app (goodIn_of _ (by decide +kernel)) ggX8_dueHere_X8_priceOf
theorem dX8_dueHere_0 : decode cX8_dueHere 0 = .ok (.aload_n 0, 1) := by decide +kernel
theorem dX8_dueHere_1 : decode cX8_dueHere 1 = .ok (.getfield 38, 3) := by decide +kernel
theorem dX8_dueHere_4 : decode cX8_dueHere 4 = .ok (.getfield 136, 3) := by decide +kernel
theorem dX8_dueHere_7 : decode cX8_dueHere 7 = .ok (.aload_n 0, 1) := by decide +kernel
theorem dX8_dueHere_8 : decode cX8_dueHere 8 = .ok (.getfield 32, 3) := by decide +kernel
theorem dX8_dueHere_11 : decode cX8_dueHere 11 = .ok (.aload_n 0, 1) := by decide +kernel
theorem dX8_dueHere_12 : decode cX8_dueHere 12 = .ok (.getfield 38, 3) := by decide +kernel
theorem dX8_dueHere_15 : decode cX8_dueHere 15 = .ok (.getfield 127, 3) := by decide +kernel
theorem dX8_dueHere_18 : decode cX8_dueHere 18 = .ok (.iconst 2, 1) := by decide +kernel
theorem dX8_dueHere_19 : decode cX8_dueHere 19 = .ok (.invokevirtual 120, 3) := by decide +kernel
theorem dX8_dueHere_22 : decode cX8_dueHere 22 = .ok (.if_icmp .ne 7, 3) := by decide +kernel
theorem dX8_dueHere_25 : decode cX8_dueHere 25 = .ok (.iconst 1, 1) := by decide +kernel
theorem dX8_dueHere_26 : decode cX8_dueHere 26 = .ok (.goto 4, 3) := by decide +kernel
theorem dX8_dueHere_29 : decode cX8_dueHere 29 = .ok (.iconst 0, 1) := by decide +kernel
theorem dX8_dueHere_30 : decode cX8_dueHere 30 = .ok (.istore_n 1, 1) := by decide +kernel
theorem dX8_dueHere_31 : decode cX8_dueHere 31 = .ok (.iload_n 1, 1) := by decide +kernel
theorem dX8_dueHere_32 : decode cX8_dueHere 32 = .ok (.ifCond .eq 7, 3) := by decide +kernel
theorem dX8_dueHere_35 : decode cX8_dueHere 35 = .ok (.iconst 0, 1) := by decide +kernel
theorem dX8_dueHere_36 : decode cX8_dueHere 36 = .ok (.goto 21, 3) := by decide +kernel
theorem dX8_dueHere_39 : decode cX8_dueHere 39 = .ok (.aload_n 0, 1) := by decide +kernel
theorem dX8_dueHere_40 : decode cX8_dueHere 40 = .ok (.aload_n 0, 1) := by decide +kernel
theorem dX8_dueHere_41 : decode cX8_dueHere 41 = .ok (.getfield 38, 3) := by decide +kernel
theorem dX8_dueHere_44 : decode cX8_dueHere 44 = .ok (.getfield 127, 3) := by decide +kernel
theorem dX8_dueHere_47 : decode cX8_dueHere 47 = .ok (.aload_n 0, 1) := by decide +kernel
theorem dX8_dueHere_48 : decode cX8_dueHere 48 = .ok (.getfield 38, 3) := by decide +kernel
theorem dX8_dueHere_51 : decode cX8_dueHere 51 = .ok (.getfield 130, 3) := by decide +kernel
theorem dX8_dueHere_54 : decode cX8_dueHere 54 = .ok (.invokevirtual 124, 3) := by decide +kernel
theorem dX8_dueHere_57 : decode cX8_dueHere 57 = .ok (.ireturn, 1) := by decide +kernel
theorem dX8_goOn_0 : decode cX8_goOn 0 = .ok (.aload_n 0, 1) := by decide +kernel
theorem dX8_goOn_1 : decode cX8_goOn 1 = .ok (.getfield 38, 3) := by decide +kernel
theorem dX8_goOn_4 : decode cX8_goOn 4 = .ok (.iload_n 1, 1) := by decide +kernel
theorem dX8_goOn_5 : decode cX8_goOn 5 = .ok (.putfield 136, 3) := by decide +kernel
theorem dX8_goOn_8 : decode cX8_goOn 8 = .ok (.aload_n 0, 1) := by decide +kernel
theorem dX8_goOn_9 : decode cX8_goOn 9 = .ok (.getfield 38, 3) := by decide +kernel
theorem dX8_goOn_12 : decode cX8_goOn 12 = .ok (.dup, 1) := by decide +kernel
theorem dX8_goOn_13 : decode cX8_goOn 13 = .ok (.getfield 127, 3) := by decide +kernel
theorem dX8_goOn_16 : decode cX8_goOn 16 = .ok (.iconst 1, 1) := by decide +kernel
theorem dX8_goOn_17 : decode cX8_goOn 17 = .ok (.iadd, 1) := by decide +kernel
theorem dX8_goOn_18 : decode cX8_goOn 18 = .ok (.putfield 127, 3) := by decide +kernel
theorem dX8_goOn_21 : decode cX8_goOn 21 = .ok (.return_, 1) := by decide +kernel
theorem dX8_draw_0 : decode cX8_draw 0 = .ok (.ldc2_w 255, 3) := by decide +kernel
theorem dX8_draw_3 : decode cX8_draw 3 = .ok (.iload_n 0, 1) := by decide +kernel
theorem dX8_draw_4 : decode cX8_draw 4 = .ok (.i2l, 1) := by decide +kernel
theorem dX8_draw_5 : decode cX8_draw 5 = .ok (.lmul, 1) := by decide +kernel
theorem dX8_draw_6 : decode cX8_draw 6 = .ok (.ldc2_w 257, 3) := by decide +kernel
theorem dX8_draw_9 : decode cX8_draw 9 = .ok (.iload_n 1, 1) := by decide +kernel
theorem dX8_draw_10 : decode cX8_draw 10 = .ok (.i2l, 1) := by decide +kernel
theorem dX8_draw_11 : decode cX8_draw 11 = .ok (.lmul, 1) := by decide +kernel
theorem dX8_draw_12 : decode cX8_draw 12 = .ok (.ladd, 1) := by decide +kernel
theorem dX8_draw_13 : decode cX8_draw 13 = .ok (.lconst 1, 1) := by decide +kernel
theorem dX8_draw_14 : decode cX8_draw 14 = .ok (.ladd, 1) := by decide +kernel
theorem dX8_draw_15 : decode cX8_draw 15 = .ok (.lstore_n 2, 1) := by decide +kernel
theorem dX8_draw_16 : decode cX8_draw 16 = .ok (.lload_n 2, 1) := by decide +kernel
theorem dX8_draw_17 : decode cX8_draw 17 = .ok (.lload_n 2, 1) := by decide +kernel
theorem dX8_draw_18 : decode cX8_draw 18 = .ok (.lmul, 1) := by decide +kernel
theorem dX8_draw_19 : decode cX8_draw 19 = .ok (.ldc2_w 259, 3) := by decide +kernel
theorem dX8_draw_22 : decode cX8_draw 22 = .ok (.lrem, 1) := by decide +kernel
theorem dX8_draw_23 : decode cX8_draw 23 = .ok (.ldc2_w 261, 3) := by decide +kernel
theorem dX8_draw_26 : decode cX8_draw 26 = .ok (.ldiv, 1) := by decide +kernel
theorem dX8_draw_27 : decode cX8_draw 27 = .ok (.l2i, 1) := by decide +kernel
theorem dX8_draw_28 : decode cX8_draw 28 = .ok (.ireturn, 1) := by decide +kernel
set_option maxRecDepth 20000 in
theorem ggX8_findWay_X4_load : GoodIn wsX8_findWay wsX4_load := goodIn_r _ [7, 8, 9, 10, 11, 12, 13, 14, 15, 16, 17, 18, 19, 20, 21, 111, 112, 113, 114, 115, 116, 117, 118, 119, 120, 121, 122, 123, 124, 125, 126, 127, 128, 129, 130, 131, 132] (by decide +kernel) (by decide +kernel)
set_option maxRecDepth 20000 in
theorem gX8_findWay_X4_load : GoodIn wsX8_findWay (wsV RX8 263 RX4 yX4_load wsX4_load) := goodIn_app (goodIn_of _ (by decide +kernel)) ggX8_findWay_X4_load
set_option maxRecDepth 20000 in
theorem ggX8_findWay_X4_solve : GoodIn wsX8_findWay wsX4_solve := goodIn_r _ [25, 26, 27, 28, 6, 29, 9, 30, 31, 15, 17, 11, 32, 33, 34, 35, 36, 20, 37, 38, 39, 40, 41, 42, 43, 44, 45, 46, 47, 48, 49, 50, 51, 52, 53, 54, 55, 56, 57, 58, 59, 60, 61, 62, 63, 64, 65, 66, 67, 68, 69, 70, 71, 72, 73, 74, 75, 76, 77, 78, 79, 80, 81, 82, 83, 84, 85, 86, 87, 88, 89, 90, 91, 92, 93, 13, 94, 95, 96, 97, 119, 120, 121, 122, 123, 124, 125, 126, 127, 128, 129, 130, 131, 132, 133, 134, 135, 136, 137] (by decide +kernel) (by decide +kernel)
set_option maxRecDepth 20000 in
theorem gX8_findWay_X4_solve : GoodIn wsX8_findWay (wsV RX8 266 RX4 yX4_solve wsX4_solve) := goodIn_app (goodIn_of _ (by decide +kernel)) ggX8_findWay_X4_solve
theorem dX8_findWay_0 : decode cX8_findWay 0 = .ok (.aload_n 0, 1) := by decide +kernel
theorem dX8_findWay_1 : decode cX8_findWay 1 = .ok (.getfield 62, 3) := by decide +kernel
theorem dX8_findWay_4 : decode cX8_findWay 4 = .ok (.aload_n 0, 1) := by decide +kernel
theorem dX8_findWay_5 : decode cX8_findWay 5 = .ok (.getfield 38, 3) := by decide +kernel
theorem dX8_findWay_8 : decode cX8_findWay 8 = .ok (.invokevirtual 263, 3) := by decide +kernel
theorem dX8_findWay_11 : decode cX8_findWay 11 = .ok (.aload_n 0, 1) := by decide +kernel
theorem dX8_findWay_12 : decode cX8_findWay 12 = .ok (.getfield 62, 3) := by decide +kernel
theorem dX8_findWay_15 : decode cX8_findWay 15 = .ok (.invokevirtual 266, 3) := by decide +kernel
theorem dX8_findWay_18 : decode cX8_findWay 18 = .ok (.return_, 1) := by decide +kernel
set_option maxRecDepth 20000 in
theorem ggX8_costIfBroken_X4_load : GoodIn wsX8_costIfBroken wsX4_load := goodIn_r _ [9, 10, 11, 12, 13, 14, 15, 16, 17, 18, 19, 20, 21, 22, 23, 127, 128, 129, 130, 131, 132, 133, 134, 113, 114, 115, 116, 117, 118, 119, 120, 121, 122, 123, 124, 125, 126] (by decide +kernel) (by decide +kernel)
set_option maxRecDepth 20000 in
theorem gX8_costIfBroken_X4_load : GoodIn wsX8_costIfBroken (wsV RX8 263 RX4 yX4_load wsX4_load) := goodIn_app (goodIn_of _ (by decide +kernel)) ggX8_costIfBroken_X4_load
set_option maxRecDepth 20000 in
theorem ggX8_costIfBroken_X4_solve : GoodIn wsX8_costIfBroken wsX4_solve := goodIn_r _ [27, 28, 29, 30, 8, 31, 11, 32, 33, 17, 19, 13, 34, 35, 36, 37, 38, 22, 39, 40, 41, 42, 43, 44, 45, 46, 47, 48, 49, 50, 51, 52, 53, 54, 55, 56, 57, 58, 59, 60, 61, 62, 63, 64, 65, 66, 67, 68, 69, 70, 71, 72, 73, 74, 75, 76, 77, 78, 79, 80, 81, 82, 83, 84, 85, 86, 87, 88, 89, 90, 91, 92, 93, 94, 95, 15, 96, 97, 98, 99, 113, 114, 115, 116, 117, 118, 119, 120, 121, 122, 123, 124, 125, 126, 135, 136, 137, 138, 139] (by decide +kernel) (by decide +kernel)
set_option maxRecDepth 20000 in
theorem gX8_costIfBroken_X4_solve : GoodIn wsX8_costIfBroken (wsV RX8 266 RX4 yX4_solve wsX4_solve) := goodIn_app (goodIn_of _ (by decide +kernel)) ggX8_costIfBroken_X4_solve
theorem dX8_costIfBroken_0 : decode cX8_costIfBroken 0 = .ok (.aload_n 0, 1) := by decide +kernel
theorem dX8_costIfBroken_1 : decode cX8_costIfBroken 1 = .ok (.getfield 62, 3) := by decide +kernel
theorem dX8_costIfBroken_4 : decode cX8_costIfBroken 4 = .ok (.aload_n 0, 1) := by decide +kernel
theorem dX8_costIfBroken_5 : decode cX8_costIfBroken 5 = .ok (.getfield 38, 3) := by decide +kernel
theorem dX8_costIfBroken_8 : decode cX8_costIfBroken 8 = .ok (.invokevirtual 263, 3) := by decide +kernel
theorem dX8_costIfBroken_11 : decode cX8_costIfBroken 11 = .ok (.aload_n 0, 1) := by decide +kernel
theorem dX8_costIfBroken_12 : decode cX8_costIfBroken 12 = .ok (.getfield 62, 3) := by decide +kernel
theorem dX8_costIfBroken_15 : decode cX8_costIfBroken 15 = .ok (.dup, 1) := by decide +kernel
theorem dX8_costIfBroken_16 : decode cX8_costIfBroken 16 = .ok (.getfield 269, 3) := by decide +kernel
theorem dX8_costIfBroken_19 : decode cX8_costIfBroken 19 = .ok (.iload_n 1, 1) := by decide +kernel
theorem dX8_costIfBroken_20 : decode cX8_costIfBroken 20 = .ok (.ior, 1) := by decide +kernel
theorem dX8_costIfBroken_21 : decode cX8_costIfBroken 21 = .ok (.putfield 269, 3) := by decide +kernel
theorem dX8_costIfBroken_24 : decode cX8_costIfBroken 24 = .ok (.aload_n 0, 1) := by decide +kernel
theorem dX8_costIfBroken_25 : decode cX8_costIfBroken 25 = .ok (.getfield 62, 3) := by decide +kernel
theorem dX8_costIfBroken_28 : decode cX8_costIfBroken 28 = .ok (.invokevirtual 266, 3) := by decide +kernel
theorem dX8_costIfBroken_31 : decode cX8_costIfBroken 31 = .ok (.aload_n 0, 1) := by decide +kernel
theorem dX8_costIfBroken_32 : decode cX8_costIfBroken 32 = .ok (.getfield 62, 3) := by decide +kernel
theorem dX8_costIfBroken_35 : decode cX8_costIfBroken 35 = .ok (.getfield 194, 3) := by decide +kernel
theorem dX8_costIfBroken_38 : decode cX8_costIfBroken 38 = .ok (.ireturn, 1) := by decide +kernel
set_option maxRecDepth 20000 in
theorem ggX8_paidIfToll_X4_load : GoodIn wsX8_paidIfToll wsX4_load := goodIn_r _ [9, 10, 11, 12, 13, 14, 15, 16, 17, 18, 19, 20, 21, 22, 23, 129, 130, 131, 132, 133, 134, 135, 136, 115, 116, 117, 118, 119, 120, 121, 122, 123, 124, 125, 126, 127, 128] (by decide +kernel) (by decide +kernel)
set_option maxRecDepth 20000 in
theorem gX8_paidIfToll_X4_load : GoodIn wsX8_paidIfToll (wsV RX8 263 RX4 yX4_load wsX4_load) := goodIn_app (goodIn_of _ (by decide +kernel)) ggX8_paidIfToll_X4_load
set_option maxRecDepth 20000 in
theorem ggX8_paidIfToll_X5_put : GoodIn wsX8_paidIfToll wsX5_put := goodIn_r _ [26] (by decide +kernel) (by decide +kernel)
set_option maxRecDepth 20000 in
theorem gX8_paidIfToll_X5_put : GoodIn wsX8_paidIfToll (va_wsS RX8 100 yX5_put wsX5_put) := goodIn_app (goodIn_of _ (by decide +kernel)) ggX8_paidIfToll_X5_put
set_option maxRecDepth 20000 in
theorem ggX8_paidIfToll_X4_solve : GoodIn wsX8_paidIfToll wsX4_solve := goodIn_r _ [30, 31, 32, 33, 8, 34, 11, 35, 36, 17, 19, 13, 37, 38, 39, 40, 41, 22, 42, 43, 44, 45, 46, 47, 48, 49, 50, 51, 52, 53, 54, 55, 56, 57, 58, 25, 26, 59, 60, 61, 62, 63, 64, 65, 66, 67, 68, 69, 70, 71, 72, 73, 74, 75, 76, 77, 78, 79, 80, 81, 82, 83, 84, 85, 86, 87, 88, 89, 90, 91, 92, 93, 94, 95, 96, 15, 97, 98, 99, 100, 115, 116, 117, 118, 119, 120, 121, 122, 123, 124, 125, 126, 127, 128, 137, 138, 139, 140, 141] (by decide +kernel) (by decide +kernel)
set_option maxRecDepth 20000 in
theorem gX8_paidIfToll_X4_solve : GoodIn wsX8_paidIfToll (wsV RX8 266 RX4 yX4_solve wsX4_solve) := goodIn_app (goodIn_of _ (by decide +kernel)) ggX8_paidIfToll_X4_solve
set_option maxRecDepth 20000 in
theorem ggX8_paidIfToll_X5_get : GoodIn wsX8_paidIfToll wsX5_get := goodIn_r _ [42] (by decide +kernel) (by decide +kernel)
set_option maxRecDepth 20000 in
theorem gX8_paidIfToll_X5_get : GoodIn wsX8_paidIfToll (va_wsS RX8 159 yX5_get wsX5_get) := goodIn_app (goodIn_of _ (by decide +kernel)) ggX8_paidIfToll_X5_get
theorem dX8_paidIfToll_0 : decode cX8_paidIfToll 0 = .ok (.aload_n 0, 1) := by decide +kernel
theorem dX8_paidIfToll_1 : decode cX8_paidIfToll 1 = .ok (.getfield 62, 3) := by decide +kernel
theorem dX8_paidIfToll_4 : decode cX8_paidIfToll 4 = .ok (.aload_n 0, 1) := by decide +kernel
theorem dX8_paidIfToll_5 : decode cX8_paidIfToll 5 = .ok (.getfield 38, 3) := by decide +kernel
theorem dX8_paidIfToll_8 : decode cX8_paidIfToll 8 = .ok (.invokevirtual 263, 3) := by decide +kernel
theorem dX8_paidIfToll_11 : decode cX8_paidIfToll 11 = .ok (.aload_n 0, 1) := by decide +kernel
theorem dX8_paidIfToll_12 : decode cX8_paidIfToll 12 = .ok (.getfield 62, 3) := by decide +kernel
theorem dX8_paidIfToll_15 : decode cX8_paidIfToll 15 = .ok (.getfield 270, 3) := by decide +kernel
theorem dX8_paidIfToll_18 : decode cX8_paidIfToll 18 = .ok (.iload_n 1, 1) := by decide +kernel
theorem dX8_paidIfToll_19 : decode cX8_paidIfToll 19 = .ok (.iload_n 2, 1) := by decide +kernel
theorem dX8_paidIfToll_20 : decode cX8_paidIfToll 20 = .ok (.invokestatic 100, 3) := by decide +kernel
theorem dX8_paidIfToll_23 : decode cX8_paidIfToll 23 = .ok (.aload_n 0, 1) := by decide +kernel
theorem dX8_paidIfToll_24 : decode cX8_paidIfToll 24 = .ok (.getfield 62, 3) := by decide +kernel
theorem dX8_paidIfToll_27 : decode cX8_paidIfToll 27 = .ok (.invokevirtual 266, 3) := by decide +kernel
theorem dX8_paidIfToll_30 : decode cX8_paidIfToll 30 = .ok (.aload_n 0, 1) := by decide +kernel
theorem dX8_paidIfToll_31 : decode cX8_paidIfToll 31 = .ok (.getfield 62, 3) := by decide +kernel
theorem dX8_paidIfToll_34 : decode cX8_paidIfToll 34 = .ok (.getfield 206, 3) := by decide +kernel
theorem dX8_paidIfToll_37 : decode cX8_paidIfToll 37 = .ok (.iload_n 1, 1) := by decide +kernel
theorem dX8_paidIfToll_38 : decode cX8_paidIfToll 38 = .ok (.invokestatic 159, 3) := by decide +kernel
theorem dX8_paidIfToll_41 : decode cX8_paidIfToll 41 = .ok (.ireturn, 1) := by decide +kernel
set_option maxRecDepth 20000 in
theorem ggX8_costOf_X4_load : GoodIn wsX8_costOf wsX4_load := goodIn_r _ [9, 10, 11, 12, 13, 14, 15, 16, 17, 18, 19, 20, 21, 22, 23, 127, 128, 129, 130, 131, 132, 133, 134, 113, 114, 115, 116, 117, 118, 119, 120, 121, 122, 123, 124, 125, 126] (by decide +kernel) (by decide +kernel)
set_option maxRecDepth 20000 in
theorem gX8_costOf_X4_load : GoodIn wsX8_costOf (wsV RX8 263 RX4 yX4_load wsX4_load) := goodIn_app (goodIn_of _ (by decide +kernel)) ggX8_costOf_X4_load
set_option maxRecDepth 20000 in
theorem ggX8_costOf_X4_solve : GoodIn wsX8_costOf wsX4_solve := goodIn_r _ [27, 28, 29, 30, 8, 31, 11, 32, 33, 17, 19, 13, 34, 35, 36, 37, 38, 22, 39, 40, 41, 42, 43, 44, 45, 46, 47, 48, 49, 50, 51, 52, 53, 54, 55, 56, 57, 58, 59, 60, 61, 62, 63, 64, 65, 66, 67, 68, 69, 70, 71, 72, 73, 74, 75, 76, 77, 78, 79, 80, 81, 82, 83, 84, 85, 86, 87, 88, 89, 90, 91, 92, 93, 94, 95, 15, 96, 97, 98, 99, 113, 114, 115, 116, 117, 118, 119, 120, 121, 122, 123, 124, 125, 126, 135, 136, 137, 138, 139] (by decide +kernel) (by decide +kernel)
set_option maxRecDepth 20000 in
theorem gX8_costOf_X4_solve : GoodIn wsX8_costOf (wsV RX8 266 RX4 yX4_solve wsX4_solve) := goodIn_app (goodIn_of _ (by decide +kernel)) ggX8_costOf_X4_solve
theorem dX8_costOf_0 : decode cX8_costOf 0 = .ok (.aload_n 0, 1) := by decide +kernel
theorem dX8_costOf_1 : decode cX8_costOf 1 = .ok (.getfield 62, 3) := by decide +kernel
theorem dX8_costOf_4 : decode cX8_costOf 4 = .ok (.aload_n 0, 1) := by decide +kernel
theorem dX8_costOf_5 : decode cX8_costOf 5 = .ok (.getfield 38, 3) := by decide +kernel
theorem dX8_costOf_8 : decode cX8_costOf 8 = .ok (.invokevirtual 263, 3) := by decide +kernel
theorem dX8_costOf_11 : decode cX8_costOf 11 = .ok (.aload_n 0, 1) := by decide +kernel
theorem dX8_costOf_12 : decode cX8_costOf 12 = .ok (.getfield 62, 3) := by decide +kernel
theorem dX8_costOf_15 : decode cX8_costOf 15 = .ok (.iload_n 1, 1) := by decide +kernel
theorem dX8_costOf_16 : decode cX8_costOf 16 = .ok (.putfield 271, 3) := by decide +kernel
theorem dX8_costOf_19 : decode cX8_costOf 19 = .ok (.aload_n 0, 1) := by decide +kernel
theorem dX8_costOf_20 : decode cX8_costOf 20 = .ok (.getfield 62, 3) := by decide +kernel
theorem dX8_costOf_23 : decode cX8_costOf 23 = .ok (.invokevirtual 266, 3) := by decide +kernel
theorem dX8_costOf_26 : decode cX8_costOf 26 = .ok (.aload_n 0, 1) := by decide +kernel
theorem dX8_costOf_27 : decode cX8_costOf 27 = .ok (.getfield 62, 3) := by decide +kernel
theorem dX8_costOf_30 : decode cX8_costOf 30 = .ok (.getfield 194, 3) := by decide +kernel
theorem dX8_costOf_33 : decode cX8_costOf 33 = .ok (.ireturn, 1) := by decide +kernel
set_option maxRecDepth 20000 in
theorem ggX8_allLeftIfTook_X5_get : GoodIn wsX8_allLeftIfTook wsX5_get := goodIn_r _ [13] (by decide +kernel) (by decide +kernel)
set_option maxRecDepth 20000 in
theorem gX8_allLeftIfTook_X5_get : GoodIn wsX8_allLeftIfTook (va_wsS RX8 159 yX5_get wsX5_get) := goodIn_app (goodIn_of _ (by decide +kernel)) ggX8_allLeftIfTook_X5_get
set_option maxRecDepth 20000 in
theorem ggX8_allLeftIfTook_X4_spentAhead : GoodIn wsX8_allLeftIfTook wsX4_spentAhead := goodIn_r _ [18, 19, 20, 21, 11, 12, 13, 48, 49, 50, 51, 52, 53, 54, 55, 56, 57, 58, 59, 60, 61] (by decide +kernel) (by decide +kernel)
set_option maxRecDepth 20000 in
theorem gX8_allLeftIfTook_X4_spentAhead : GoodIn wsX8_allLeftIfTook (wsV RX8 272 RX4 yX4_spentAhead wsX4_spentAhead) := goodIn_app (goodIn_of _ (by decide +kernel)) ggX8_allLeftIfTook_X4_spentAhead
theorem dX8_allLeftIfTook_0 : decode cX8_allLeftIfTook 0 = .ok (.iconst 0, 1) := by decide +kernel
theorem dX8_allLeftIfTook_1 : decode cX8_allLeftIfTook 1 = .ok (.istore_n 2, 1) := by decide +kernel
theorem dX8_allLeftIfTook_2 : decode cX8_allLeftIfTook 2 = .ok (.iload_n 2, 1) := by decide +kernel
theorem dX8_allLeftIfTook_3 : decode cX8_allLeftIfTook 3 = .ok (.aload_n 0, 1) := by decide +kernel
theorem dX8_allLeftIfTook_4 : decode cX8_allLeftIfTook 4 = .ok (.getfield 72, 3) := by decide +kernel
theorem dX8_allLeftIfTook_7 : decode cX8_allLeftIfTook 7 = .ok (.if_icmp .ge 93, 3) := by decide +kernel
theorem dX8_allLeftIfTook_10 : decode cX8_allLeftIfTook 10 = .ok (.iload_n 2, 1) := by decide +kernel
theorem dX8_allLeftIfTook_11 : decode cX8_allLeftIfTook 11 = .ok (.bipush 6, 2) := by decide +kernel
theorem dX8_allLeftIfTook_13 : decode cX8_allLeftIfTook 13 = .ok (.if_icmp .ge 87, 3) := by decide +kernel
theorem dX8_allLeftIfTook_16 : decode cX8_allLeftIfTook 16 = .ok (.aload_n 0, 1) := by decide +kernel
theorem dX8_allLeftIfTook_17 : decode cX8_allLeftIfTook 17 = .ok (.getfield 38, 3) := by decide +kernel
theorem dX8_allLeftIfTook_20 : decode cX8_allLeftIfTook 20 = .ok (.getfield 127, 3) := by decide +kernel
theorem dX8_allLeftIfTook_23 : decode cX8_allLeftIfTook 23 = .ok (.aload_n 0, 1) := by decide +kernel
theorem dX8_allLeftIfTook_24 : decode cX8_allLeftIfTook 24 = .ok (.getfield 66, 3) := by decide +kernel
theorem dX8_allLeftIfTook_27 : decode cX8_allLeftIfTook 27 = .ok (.iload_n 2, 1) := by decide +kernel
theorem dX8_allLeftIfTook_28 : decode cX8_allLeftIfTook 28 = .ok (.invokestatic 159, 3) := by decide +kernel
theorem dX8_allLeftIfTook_31 : decode cX8_allLeftIfTook 31 = .ok (.iadd, 1) := by decide +kernel
theorem dX8_allLeftIfTook_32 : decode cX8_allLeftIfTook 32 = .ok (.istore_n 3, 1) := by decide +kernel
theorem dX8_allLeftIfTook_33 : decode cX8_allLeftIfTook 33 = .ok (.iload_n 3, 1) := by decide +kernel
theorem dX8_allLeftIfTook_34 : decode cX8_allLeftIfTook 34 = .ok (.aload_n 0, 1) := by decide +kernel
theorem dX8_allLeftIfTook_35 : decode cX8_allLeftIfTook 35 = .ok (.getfield 32, 3) := by decide +kernel
theorem dX8_allLeftIfTook_38 : decode cX8_allLeftIfTook 38 = .ok (.getfield 188, 3) := by decide +kernel
theorem dX8_allLeftIfTook_41 : decode cX8_allLeftIfTook 41 = .ok (.if_icmp .le 5, 3) := by decide +kernel
theorem dX8_allLeftIfTook_44 : decode cX8_allLeftIfTook 44 = .ok (.iconst 0, 1) := by decide +kernel
theorem dX8_allLeftIfTook_45 : decode cX8_allLeftIfTook 45 = .ok (.ireturn, 1) := by decide +kernel
theorem dX8_allLeftIfTook_46 : decode cX8_allLeftIfTook 46 = .ok (.iload_n 1, 1) := by decide +kernel
theorem dX8_allLeftIfTook_47 : decode cX8_allLeftIfTook 47 = .ok (.iload_n 3, 1) := by decide +kernel
theorem dX8_allLeftIfTook_48 : decode cX8_allLeftIfTook 48 = .ok (.if_icmp .ge 7, 3) := by decide +kernel
theorem dX8_allLeftIfTook_51 : decode cX8_allLeftIfTook 51 = .ok (.iconst 1, 1) := by decide +kernel
theorem dX8_allLeftIfTook_52 : decode cX8_allLeftIfTook 52 = .ok (.goto 4, 3) := by decide +kernel
theorem dX8_allLeftIfTook_55 : decode cX8_allLeftIfTook 55 = .ok (.iconst 0, 1) := by decide +kernel
theorem dX8_allLeftIfTook_56 : decode cX8_allLeftIfTook 56 = .ok (.istore 4, 2) := by decide +kernel
theorem dX8_allLeftIfTook_58 : decode cX8_allLeftIfTook 58 = .ok (.aload_n 0, 1) := by decide +kernel
theorem dX8_allLeftIfTook_59 : decode cX8_allLeftIfTook 59 = .ok (.getfield 38, 3) := by decide +kernel
theorem dX8_allLeftIfTook_62 : decode cX8_allLeftIfTook 62 = .ok (.getfield 133, 3) := by decide +kernel
theorem dX8_allLeftIfTook_65 : decode cX8_allLeftIfTook 65 = .ok (.aload_n 0, 1) := by decide +kernel
theorem dX8_allLeftIfTook_66 : decode cX8_allLeftIfTook 66 = .ok (.getfield 62, 3) := by decide +kernel
theorem dX8_allLeftIfTook_69 : decode cX8_allLeftIfTook 69 = .ok (.iload_n 3, 1) := by decide +kernel
theorem dX8_allLeftIfTook_70 : decode cX8_allLeftIfTook 70 = .ok (.invokevirtual 272, 3) := by decide +kernel
theorem dX8_allLeftIfTook_73 : decode cX8_allLeftIfTook 73 = .ok (.isub, 1) := by decide +kernel
theorem dX8_allLeftIfTook_74 : decode cX8_allLeftIfTook 74 = .ok (.iload 4, 2) := by decide +kernel
theorem dX8_allLeftIfTook_76 : decode cX8_allLeftIfTook 76 = .ok (.isub, 1) := by decide +kernel
theorem dX8_allLeftIfTook_77 : decode cX8_allLeftIfTook 77 = .ok (.istore 5, 2) := by decide +kernel
theorem dX8_allLeftIfTook_79 : decode cX8_allLeftIfTook 79 = .ok (.iload 5, 2) := by decide +kernel
theorem dX8_allLeftIfTook_81 : decode cX8_allLeftIfTook 81 = .ok (.aload_n 0, 1) := by decide +kernel
theorem dX8_allLeftIfTook_82 : decode cX8_allLeftIfTook 82 = .ok (.getfield 69, 3) := by decide +kernel
theorem dX8_allLeftIfTook_85 : decode cX8_allLeftIfTook 85 = .ok (.iload_n 2, 1) := by decide +kernel
theorem dX8_allLeftIfTook_86 : decode cX8_allLeftIfTook 86 = .ok (.invokestatic 159, 3) := by decide +kernel
theorem dX8_allLeftIfTook_89 : decode cX8_allLeftIfTook 89 = .ok (.if_icmp .eq 5, 3) := by decide +kernel
theorem dX8_allLeftIfTook_92 : decode cX8_allLeftIfTook 92 = .ok (.iconst 0, 1) := by decide +kernel
theorem dX8_allLeftIfTook_93 : decode cX8_allLeftIfTook 93 = .ok (.ireturn, 1) := by decide +kernel
theorem dX8_allLeftIfTook_94 : decode cX8_allLeftIfTook 94 = .ok (.iinc 2 1, 3) := by decide +kernel
theorem dX8_allLeftIfTook_97 : decode cX8_allLeftIfTook 97 = .ok (.goto (-95), 3) := by decide +kernel
theorem dX8_allLeftIfTook_100 : decode cX8_allLeftIfTook 100 = .ok (.iconst 1, 1) := by decide +kernel
theorem dX8_allLeftIfTook_101 : decode cX8_allLeftIfTook 101 = .ok (.ireturn, 1) := by decide +kernel
theorem dX8_imageOf_0 : decode cX8_imageOf 0 = .ok (.iload_n 1, 1) := by decide +kernel
theorem dX8_imageOf_1 : decode cX8_imageOf 1 = .ok (.ifCond .lt 26, 3) := by decide +kernel
theorem dX8_imageOf_4 : decode cX8_imageOf 4 = .ok (.iload_n 1, 1) := by decide +kernel
theorem dX8_imageOf_5 : decode cX8_imageOf 5 = .ok (.iconst 2, 1) := by decide +kernel
theorem dX8_imageOf_6 : decode cX8_imageOf 6 = .ok (.if_icmp .ge 21, 3) := by decide +kernel
theorem dX8_imageOf_9 : decode cX8_imageOf 9 = .ok (.iload_n 1, 1) := by decide +kernel
theorem dX8_imageOf_10 : decode cX8_imageOf 10 = .ok (.aload_n 0, 1) := by decide +kernel
theorem dX8_imageOf_11 : decode cX8_imageOf 11 = .ok (.getfield 49, 3) := by decide +kernel
theorem dX8_imageOf_14 : decode cX8_imageOf 14 = .ok (.arraylength, 1) := by decide +kernel
theorem dX8_imageOf_15 : decode cX8_imageOf 15 = .ok (.if_icmp .ge 12, 3) := by decide +kernel
theorem dX8_imageOf_18 : decode cX8_imageOf 18 = .ok (.aload_n 0, 1) := by decide +kernel
theorem dX8_imageOf_19 : decode cX8_imageOf 19 = .ok (.getfield 49, 3) := by decide +kernel
theorem dX8_imageOf_22 : decode cX8_imageOf 22 = .ok (.iload_n 1, 1) := by decide +kernel
theorem dX8_imageOf_23 : decode cX8_imageOf 23 = .ok (.aaload, 1) := by decide +kernel
theorem dX8_imageOf_24 : decode cX8_imageOf 24 = .ok (.goto 4, 3) := by decide +kernel
theorem dX8_imageOf_27 : decode cX8_imageOf 27 = .ok (.aconst_null, 1) := by decide +kernel
theorem dX8_imageOf_28 : decode cX8_imageOf 28 = .ok (.areturn, 1) := by decide +kernel
set_option maxRecDepth 20000 in
theorem ggX8_asRock_X0_tollOf : GoodIn wsX8_asRock wsX0_tollOf := goodIn_r _ [7, 8, 9, 10, 11, 12, 26, 27, 28, 29, 30, 31, 32, 33] (by decide +kernel) (by decide +kernel)
set_option maxRecDepth 20000 in
theorem gX8_asRock_X0_tollOf : GoodIn wsX8_asRock (wsV RX8 113 RX0 yX0_tollOf wsX0_tollOf) := goodIn_app (goodIn_of _ (by decide +kernel)) ggX8_asRock_X0_tollOf
theorem dX8_asRock_0 : decode cX8_asRock 0 = .ok (.aload_n 0, 1) := by decide +kernel
theorem dX8_asRock_1 : decode cX8_asRock 1 = .ok (.dup, 1) := by decide +kernel
theorem dX8_asRock_2 : decode cX8_asRock 2 = .ok (.getfield 76, 3) := by decide +kernel
theorem dX8_asRock_5 : decode cX8_asRock 5 = .ok (.lconst 1, 1) := by decide +kernel
theorem dX8_asRock_6 : decode cX8_asRock 6 = .ok (.ladd, 1) := by decide +kernel
theorem dX8_asRock_7 : decode cX8_asRock 7 = .ok (.putfield 76, 3) := by decide +kernel
theorem dX8_asRock_10 : decode cX8_asRock 10 = .ok (.aload_n 0, 1) := by decide +kernel
theorem dX8_asRock_11 : decode cX8_asRock 11 = .ok (.getfield 38, 3) := by decide +kernel
theorem dX8_asRock_14 : decode cX8_asRock 14 = .ok (.iload_n 1, 1) := by decide +kernel
theorem dX8_asRock_15 : decode cX8_asRock 15 = .ok (.invokevirtual 113, 3) := by decide +kernel
theorem dX8_asRock_18 : decode cX8_asRock 18 = .ok (.ireturn, 1) := by decide +kernel
set_option maxRecDepth 20000 in
theorem ggX8_asChain_X8_asRock : GoodIn wsX8_asChain wsX8_asRock := goodIn_r _ [8, 1, 9, 10, 11, 12, 13, 14, 15, 16, 17, 18, 19, 27, 28, 29, 30, 31, 32, 33, 34, 35, 36, 37, 38, 39, 40, 41, 42, 43, 44, 45, 46, 47] (by decide +kernel) (by decide +kernel)
set_option maxRecDepth 20000 in
theorem gX8_asChain_X8_asRock : GoodIn wsX8_asChain (wsV RX8 227 RX8 yX8_asRock wsX8_asRock) := goodIn_app (goodIn_of _ (by decide +kernel)) ggX8_asChain_X8_asRock
set_option maxRecDepth 20000 in
theorem ggX8_asChain_X3_fact : GoodIn wsX8_asChain wsX3_fact := goodIn_r _ [24, 25, 26, 17, 18, 19, 48, 49, 50, 51, 52] (by decide +kernel) (by decide +kernel)
set_option maxRecDepth 20000 in
theorem gX8_asChain_X3_fact : GoodIn wsX8_asChain (wsV RX8 120 RX3 yX3_fact wsX3_fact) := goodIn_app (goodIn_of _ (by decide +kernel)) ggX8_asChain_X3_fact
theorem dX8_asChain_0 : decode cX8_asChain 0 = .ok (.aload_n 0, 1) := by decide +kernel
theorem dX8_asChain_1 : decode cX8_asChain 1 = .ok (.dup, 1) := by decide +kernel
theorem dX8_asChain_2 : decode cX8_asChain 2 = .ok (.getfield 76, 3) := by decide +kernel
theorem dX8_asChain_5 : decode cX8_asChain 5 = .ok (.ldc2_w 275, 3) := by decide +kernel
theorem dX8_asChain_8 : decode cX8_asChain 8 = .ok (.ladd, 1) := by decide +kernel
theorem dX8_asChain_9 : decode cX8_asChain 9 = .ok (.putfield 76, 3) := by decide +kernel
theorem dX8_asChain_12 : decode cX8_asChain 12 = .ok (.aload_n 0, 1) := by decide +kernel
theorem dX8_asChain_13 : decode cX8_asChain 13 = .ok (.iload_n 1, 1) := by decide +kernel
theorem dX8_asChain_14 : decode cX8_asChain 14 = .ok (.invokevirtual 227, 3) := by decide +kernel
theorem dX8_asChain_17 : decode cX8_asChain 17 = .ok (.aload_n 0, 1) := by decide +kernel
theorem dX8_asChain_18 : decode cX8_asChain 18 = .ok (.getfield 32, 3) := by decide +kernel
theorem dX8_asChain_21 : decode cX8_asChain 21 = .ok (.iload_n 1, 1) := by decide +kernel
theorem dX8_asChain_22 : decode cX8_asChain 22 = .ok (.iconst 3, 1) := by decide +kernel
theorem dX8_asChain_23 : decode cX8_asChain 23 = .ok (.invokevirtual 120, 3) := by decide +kernel
theorem dX8_asChain_26 : decode cX8_asChain 26 = .ok (.iadd, 1) := by decide +kernel
theorem dX8_asChain_27 : decode cX8_asChain 27 = .ok (.ireturn, 1) := by decide +kernel
set_option maxRecDepth 20000 in
theorem ggX8_asTower_X8_asRock : GoodIn wsX8_asTower wsX8_asRock := goodIn_r _ [8, 1, 9, 10, 11, 12, 13, 14, 15, 16, 17, 18, 19, 27, 28, 29, 30, 31, 32, 33, 34, 35, 36, 37, 38, 39, 40, 41, 42, 43, 44, 45, 46, 47] (by decide +kernel) (by decide +kernel)
set_option maxRecDepth 20000 in
theorem gX8_asTower_X8_asRock : GoodIn wsX8_asTower (wsV RX8 227 RX8 yX8_asRock wsX8_asRock) := goodIn_app (goodIn_of _ (by decide +kernel)) ggX8_asTower_X8_asRock
set_option maxRecDepth 20000 in
theorem ggX8_asTower_X3_fact : GoodIn wsX8_asTower wsX3_fact := goodIn_r _ [24, 25, 26, 17, 18, 19, 48, 49, 50, 51, 52] (by decide +kernel) (by decide +kernel)
set_option maxRecDepth 20000 in
theorem gX8_asTower_X3_fact : GoodIn wsX8_asTower (wsV RX8 120 RX3 yX3_fact wsX3_fact) := goodIn_app (goodIn_of _ (by decide +kernel)) ggX8_asTower_X3_fact
theorem dX8_asTower_0 : decode cX8_asTower 0 = .ok (.aload_n 0, 1) := by decide +kernel
theorem dX8_asTower_1 : decode cX8_asTower 1 = .ok (.dup, 1) := by decide +kernel
theorem dX8_asTower_2 : decode cX8_asTower 2 = .ok (.getfield 76, 3) := by decide +kernel
theorem dX8_asTower_5 : decode cX8_asTower 5 = .ok (.ldc2_w 277, 3) := by decide +kernel
theorem dX8_asTower_8 : decode cX8_asTower 8 = .ok (.ladd, 1) := by decide +kernel
theorem dX8_asTower_9 : decode cX8_asTower 9 = .ok (.putfield 76, 3) := by decide +kernel
theorem dX8_asTower_12 : decode cX8_asTower 12 = .ok (.aload_n 0, 1) := by decide +kernel
theorem dX8_asTower_13 : decode cX8_asTower 13 = .ok (.iload_n 1, 1) := by decide +kernel
theorem dX8_asTower_14 : decode cX8_asTower 14 = .ok (.invokevirtual 227, 3) := by decide +kernel
theorem dX8_asTower_17 : decode cX8_asTower 17 = .ok (.aload_n 0, 1) := by decide +kernel
theorem dX8_asTower_18 : decode cX8_asTower 18 = .ok (.getfield 32, 3) := by decide +kernel
theorem dX8_asTower_21 : decode cX8_asTower 21 = .ok (.iload_n 1, 1) := by decide +kernel
theorem dX8_asTower_22 : decode cX8_asTower 22 = .ok (.iconst 4, 1) := by decide +kernel
theorem dX8_asTower_23 : decode cX8_asTower 23 = .ok (.invokevirtual 120, 3) := by decide +kernel
theorem dX8_asTower_26 : decode cX8_asTower 26 = .ok (.isub, 1) := by decide +kernel
theorem dX8_asTower_27 : decode cX8_asTower 27 = .ok (.ireturn, 1) := by decide +kernel
set_option maxRecDepth 20000 in
theorem ggX8_asBridge_X8_asChain : GoodIn wsX8_asBridge wsX8_asChain := goodIn_r _ [7, 1, 8, 9, 10, 11, 12, 6, 13, 14, 15, 16, 17, 18, 19, 20, 21, 22, 23, 24, 25, 26, 27, 28, 29, 30, 31, 32, 33, 34, 35, 36, 37, 38, 39, 40, 41, 42, 43, 44, 45, 46, 47, 48, 49, 50, 51, 52, 53, 54, 55, 56, 57] (by decide +kernel) (by decide +kernel)
set_option maxRecDepth 20000 in
theorem gX8_asBridge_X8_asChain : GoodIn wsX8_asBridge (wsV RX8 230 RX8 yX8_asChain wsX8_asChain) := goodIn_app (goodIn_of _ (by decide +kernel)) ggX8_asBridge_X8_asChain
theorem dX8_asBridge_0 : decode cX8_asBridge 0 = .ok (.aload_n 0, 1) := by decide +kernel
theorem dX8_asBridge_1 : decode cX8_asBridge 1 = .ok (.dup, 1) := by decide +kernel
theorem dX8_asBridge_2 : decode cX8_asBridge 2 = .ok (.getfield 76, 3) := by decide +kernel
theorem dX8_asBridge_5 : decode cX8_asBridge 5 = .ok (.ldc2_w 279, 3) := by decide +kernel
theorem dX8_asBridge_8 : decode cX8_asBridge 8 = .ok (.ladd, 1) := by decide +kernel
theorem dX8_asBridge_9 : decode cX8_asBridge 9 = .ok (.putfield 76, 3) := by decide +kernel
theorem dX8_asBridge_12 : decode cX8_asBridge 12 = .ok (.iconst 2, 1) := by decide +kernel
theorem dX8_asBridge_13 : decode cX8_asBridge 13 = .ok (.aload_n 0, 1) := by decide +kernel
theorem dX8_asBridge_14 : decode cX8_asBridge 14 = .ok (.iload_n 1, 1) := by decide +kernel
theorem dX8_asBridge_15 : decode cX8_asBridge 15 = .ok (.invokevirtual 230, 3) := by decide +kernel
theorem dX8_asBridge_18 : decode cX8_asBridge 18 = .ok (.imul, 1) := by decide +kernel
theorem dX8_asBridge_19 : decode cX8_asBridge 19 = .ok (.ireturn, 1) := by decide +kernel
set_option maxRecDepth 20000 in
theorem ggX8_asIsle_X8_asTower : GoodIn wsX8_asIsle wsX8_asTower := goodIn_r _ [7, 1, 8, 9, 10, 11, 12, 6, 13, 14, 15, 16, 17, 18, 19, 20, 21, 22, 23, 24, 25, 26, 27, 28, 29, 30, 31, 32, 33, 34, 35, 36, 37, 38, 39, 40, 41, 42, 43, 44, 45, 46, 47, 48, 49, 50, 51, 52, 53, 54, 55, 56, 57] (by decide +kernel) (by decide +kernel)
set_option maxRecDepth 20000 in
theorem gX8_asIsle_X8_asTower : GoodIn wsX8_asIsle (wsV RX8 233 RX8 yX8_asTower wsX8_asTower) := goodIn_app (goodIn_of _ (by decide +kernel)) ggX8_asIsle_X8_asTower
theorem dX8_asIsle_0 : decode cX8_asIsle 0 = .ok (.aload_n 0, 1) := by decide +kernel
theorem dX8_asIsle_1 : decode cX8_asIsle 1 = .ok (.dup, 1) := by decide +kernel
theorem dX8_asIsle_2 : decode cX8_asIsle 2 = .ok (.getfield 76, 3) := by decide +kernel
theorem dX8_asIsle_5 : decode cX8_asIsle 5 = .ok (.ldc2_w 281, 3) := by decide +kernel
theorem dX8_asIsle_8 : decode cX8_asIsle 8 = .ok (.ladd, 1) := by decide +kernel
theorem dX8_asIsle_9 : decode cX8_asIsle 9 = .ok (.putfield 76, 3) := by decide +kernel
theorem dX8_asIsle_12 : decode cX8_asIsle 12 = .ok (.aload_n 0, 1) := by decide +kernel
theorem dX8_asIsle_13 : decode cX8_asIsle 13 = .ok (.iload_n 1, 1) := by decide +kernel
theorem dX8_asIsle_14 : decode cX8_asIsle 14 = .ok (.invokevirtual 233, 3) := by decide +kernel
theorem dX8_asIsle_17 : decode cX8_asIsle 17 = .ok (.iload_n 1, 1) := by decide +kernel
theorem dX8_asIsle_18 : decode cX8_asIsle 18 = .ok (.iadd, 1) := by decide +kernel
theorem dX8_asIsle_19 : decode cX8_asIsle 19 = .ok (.ireturn, 1) := by decide +kernel
set_option maxRecDepth 20000 in
theorem ggX8_asBend_X8_asRock : GoodIn wsX8_asBend wsX8_asRock := goodIn_r _ [9, 1, 3, 10, 11, 12, 13, 14, 15, 16, 17, 18, 19, 20, 21, 22, 23, 24, 25, 26, 27, 28, 29, 30, 31, 32, 33, 34, 35, 36, 37, 38, 39, 40] (by decide +kernel) (by decide +kernel)
set_option maxRecDepth 20000 in
theorem gX8_asBend_X8_asRock : GoodIn wsX8_asBend (wsV RX8 227 RX8 yX8_asRock wsX8_asRock) := goodIn_app (goodIn_of _ (by decide +kernel)) ggX8_asBend_X8_asRock
theorem dX8_asBend_0 : decode cX8_asBend 0 = .ok (.aload_n 0, 1) := by decide +kernel
theorem dX8_asBend_1 : decode cX8_asBend 1 = .ok (.dup, 1) := by decide +kernel
theorem dX8_asBend_2 : decode cX8_asBend 2 = .ok (.getfield 76, 3) := by decide +kernel
theorem dX8_asBend_5 : decode cX8_asBend 5 = .ok (.ldc2_w 283, 3) := by decide +kernel
theorem dX8_asBend_8 : decode cX8_asBend 8 = .ok (.ladd, 1) := by decide +kernel
theorem dX8_asBend_9 : decode cX8_asBend 9 = .ok (.putfield 76, 3) := by decide +kernel
theorem dX8_asBend_12 : decode cX8_asBend 12 = .ok (.aload_n 0, 1) := by decide +kernel
theorem dX8_asBend_13 : decode cX8_asBend 13 = .ok (.iload_n 1, 1) := by decide +kernel
theorem dX8_asBend_14 : decode cX8_asBend 14 = .ok (.invokevirtual 227, 3) := by decide +kernel
theorem dX8_asBend_17 : decode cX8_asBend 17 = .ok (.aload_n 0, 1) := by decide +kernel
theorem dX8_asBend_18 : decode cX8_asBend 18 = .ok (.getfield 38, 3) := by decide +kernel
theorem dX8_asBend_21 : decode cX8_asBend 21 = .ok (.getfield 130, 3) := by decide +kernel
theorem dX8_asBend_24 : decode cX8_asBend 24 = .ok (.iadd, 1) := by decide +kernel
theorem dX8_asBend_25 : decode cX8_asBend 25 = .ok (.ireturn, 1) := by decide +kernel
theorem dX9_init_0 : decode cX9_init 0 = .ok (.aload_n 0, 1) := by decide +kernel
theorem dX9_init_1 : decode cX9_init 1 = .ok (.invokespecial 1, 3) := by decide +kernel
theorem dX9_init_4 : decode cX9_init 4 = .ok (.aload_n 0, 1) := by decide +kernel
theorem dX9_init_5 : decode cX9_init 5 = .ok (.sipush 200, 3) := by decide +kernel
theorem dX9_init_8 : decode cX9_init 8 = .ok (.newarray .int, 2) := by decide +kernel
theorem dX9_init_10 : decode cX9_init 10 = .ok (.putfield 7, 3) := by decide +kernel
theorem dX9_init_13 : decode cX9_init 13 = .ok (.aload_n 0, 1) := by decide +kernel
theorem dX9_init_14 : decode cX9_init 14 = .ok (.iconst 4, 1) := by decide +kernel
theorem dX9_init_15 : decode cX9_init 15 = .ok (.newarray .int, 2) := by decide +kernel
theorem dX9_init_17 : decode cX9_init 17 = .ok (.putfield 13, 3) := by decide +kernel
theorem dX9_init_20 : decode cX9_init 20 = .ok (.aload_n 0, 1) := by decide +kernel
theorem dX9_init_21 : decode cX9_init 21 = .ok (.bipush 8, 2) := by decide +kernel
theorem dX9_init_23 : decode cX9_init 23 = .ok (.newarray .int, 2) := by decide +kernel
theorem dX9_init_25 : decode cX9_init 25 = .ok (.putfield 16, 3) := by decide +kernel
theorem dX9_init_28 : decode cX9_init 28 = .ok (.aload_n 0, 1) := by decide +kernel
theorem dX9_init_29 : decode cX9_init 29 = .ok (.bipush 16, 2) := by decide +kernel
theorem dX9_init_31 : decode cX9_init 31 = .ok (.newarray .int, 2) := by decide +kernel
theorem dX9_init_33 : decode cX9_init 33 = .ok (.putfield 19, 3) := by decide +kernel
theorem dX9_init_36 : decode cX9_init 36 = .ok (.aload_n 0, 1) := by decide +kernel
theorem dX9_init_37 : decode cX9_init 37 = .ok (.bipush 16, 2) := by decide +kernel
theorem dX9_init_39 : decode cX9_init 39 = .ok (.newarray .int, 2) := by decide +kernel
theorem dX9_init_41 : decode cX9_init 41 = .ok (.putfield 22, 3) := by decide +kernel
theorem dX9_init_44 : decode cX9_init 44 = .ok (.aload_n 0, 1) := by decide +kernel
theorem dX9_init_45 : decode cX9_init 45 = .ok (.bipush 16, 2) := by decide +kernel
theorem dX9_init_47 : decode cX9_init 47 = .ok (.newarray .int, 2) := by decide +kernel
theorem dX9_init_49 : decode cX9_init 49 = .ok (.putfield 25, 3) := by decide +kernel
theorem dX9_init_52 : decode cX9_init 52 = .ok (.aload_n 0, 1) := by decide +kernel
theorem dX9_init_53 : decode cX9_init 53 = .ok (.bipush 16, 2) := by decide +kernel
theorem dX9_init_55 : decode cX9_init 55 = .ok (.newarray .int, 2) := by decide +kernel
theorem dX9_init_57 : decode cX9_init 57 = .ok (.putfield 28, 3) := by decide +kernel
theorem dX9_init_60 : decode cX9_init 60 = .ok (.aload_n 0, 1) := by decide +kernel
theorem dX9_init_61 : decode cX9_init 61 = .ok (.bipush 18, 2) := by decide +kernel
theorem dX9_init_63 : decode cX9_init 63 = .ok (.newarray .int, 2) := by decide +kernel
theorem dX9_init_65 : decode cX9_init 65 = .ok (.putfield 31, 3) := by decide +kernel
theorem dX9_init_68 : decode cX9_init 68 = .ok (.aload_n 0, 1) := by decide +kernel
theorem dX9_init_69 : decode cX9_init 69 = .ok (.bipush 18, 2) := by decide +kernel
theorem dX9_init_71 : decode cX9_init 71 = .ok (.newarray .int, 2) := by decide +kernel
theorem dX9_init_73 : decode cX9_init 73 = .ok (.putfield 34, 3) := by decide +kernel
theorem dX9_init_76 : decode cX9_init 76 = .ok (.aload_n 0, 1) := by decide +kernel
theorem dX9_init_77 : decode cX9_init 77 = .ok (.bipush 36, 2) := by decide +kernel
theorem dX9_init_79 : decode cX9_init 79 = .ok (.newarray .int, 2) := by decide +kernel
theorem dX9_init_81 : decode cX9_init 81 = .ok (.putfield 37, 3) := by decide +kernel
theorem dX9_init_84 : decode cX9_init 84 = .ok (.aload_n 0, 1) := by decide +kernel
theorem dX9_init_85 : decode cX9_init 85 = .ok (.iconst 2, 1) := by decide +kernel
theorem dX9_init_86 : decode cX9_init 86 = .ok (.newarray .boolean, 2) := by decide +kernel
theorem dX9_init_88 : decode cX9_init 88 = .ok (.putfield 40, 3) := by decide +kernel
theorem dX9_init_91 : decode cX9_init 91 = .ok (.aload_n 0, 1) := by decide +kernel
theorem dX9_init_92 : decode cX9_init 92 = .ok (.sipush 180, 3) := by decide +kernel
theorem dX9_init_95 : decode cX9_init 95 = .ok (.newarray .int, 2) := by decide +kernel
theorem dX9_init_97 : decode cX9_init 97 = .ok (.putfield 44, 3) := by decide +kernel
theorem dX9_init_100 : decode cX9_init 100 = .ok (.aload_n 0, 1) := by decide +kernel
theorem dX9_init_101 : decode cX9_init 101 = .ok (.bipush 6, 2) := by decide +kernel
theorem dX9_init_103 : decode cX9_init 103 = .ok (.newarray .int, 2) := by decide +kernel
theorem dX9_init_105 : decode cX9_init 105 = .ok (.putfield 47, 3) := by decide +kernel
theorem dX9_init_108 : decode cX9_init 108 = .ok (.aload_n 0, 1) := by decide +kernel
theorem dX9_init_109 : decode cX9_init 109 = .ok (.bipush 6, 2) := by decide +kernel
theorem dX9_init_111 : decode cX9_init 111 = .ok (.newarray .int, 2) := by decide +kernel
theorem dX9_init_113 : decode cX9_init 113 = .ok (.putfield 50, 3) := by decide +kernel
theorem dX9_init_116 : decode cX9_init 116 = .ok (.aload_n 0, 1) := by decide +kernel
theorem dX9_init_117 : decode cX9_init 117 = .ok (.bipush 45, 2) := by decide +kernel
theorem dX9_init_119 : decode cX9_init 119 = .ok (.newarray .int, 2) := by decide +kernel
theorem dX9_init_121 : decode cX9_init 121 = .ok (.putfield 53, 3) := by decide +kernel
theorem dX9_init_124 : decode cX9_init 124 = .ok (.aload_n 0, 1) := by decide +kernel
theorem dX9_init_125 : decode cX9_init 125 = .ok (.bipush 8, 2) := by decide +kernel
theorem dX9_init_127 : decode cX9_init 127 = .ok (.newarray .int, 2) := by decide +kernel
theorem dX9_init_129 : decode cX9_init 129 = .ok (.putfield 56, 3) := by decide +kernel
theorem dX9_init_132 : decode cX9_init 132 = .ok (.aload_n 0, 1) := by decide +kernel
theorem dX9_init_133 : decode cX9_init 133 = .ok (.bipush 8, 2) := by decide +kernel
theorem dX9_init_135 : decode cX9_init 135 = .ok (.newarray .int, 2) := by decide +kernel
theorem dX9_init_137 : decode cX9_init 137 = .ok (.putfield 59, 3) := by decide +kernel
theorem dX9_init_140 : decode cX9_init 140 = .ok (.aload_n 0, 1) := by decide +kernel
theorem dX9_init_141 : decode cX9_init 141 = .ok (.getfield 31, 3) := by decide +kernel
theorem dX9_init_144 : decode cX9_init 144 = .ok (.iconst 1, 1) := by decide +kernel
theorem dX9_init_145 : decode cX9_init 145 = .ok (.bipush 10, 2) := by decide +kernel
theorem dX9_init_147 : decode cX9_init 147 = .ok (.iastore, 1) := by decide +kernel
theorem dX9_init_148 : decode cX9_init 148 = .ok (.aload_n 0, 1) := by decide +kernel
theorem dX9_init_149 : decode cX9_init 149 = .ok (.getfield 31, 3) := by decide +kernel
theorem dX9_init_152 : decode cX9_init 152 = .ok (.iconst 2, 1) := by decide +kernel
theorem dX9_init_153 : decode cX9_init 153 = .ok (.bipush 100, 2) := by decide +kernel
theorem dX9_init_155 : decode cX9_init 155 = .ok (.iastore, 1) := by decide +kernel
theorem dX9_init_156 : decode cX9_init 156 = .ok (.return_, 1) := by decide +kernel
theorem dX9_in_0 : decode cX9_in 0 = .ok (.iload_n 0, 1) := by decide +kernel
theorem dX9_in_1 : decode cX9_in 1 = .ok (.iload_n 1, 1) := by decide +kernel
theorem dX9_in_2 : decode cX9_in 2 = .ok (.if_icmp .lt 12, 3) := by decide +kernel
theorem dX9_in_5 : decode cX9_in 5 = .ok (.iload_n 0, 1) := by decide +kernel
theorem dX9_in_6 : decode cX9_in 6 = .ok (.iload_n 2, 1) := by decide +kernel
theorem dX9_in_7 : decode cX9_in 7 = .ok (.if_icmp .gt 7, 3) := by decide +kernel
theorem dX9_in_10 : decode cX9_in 10 = .ok (.iconst 1, 1) := by decide +kernel
theorem dX9_in_11 : decode cX9_in 11 = .ok (.goto 4, 3) := by decide +kernel
theorem dX9_in_14 : decode cX9_in 14 = .ok (.iconst 0, 1) := by decide +kernel
theorem dX9_in_15 : decode cX9_in 15 = .ok (.ireturn, 1) := by decide +kernel
theorem dX9_ones_0 : decode cX9_ones 0 = .ok (.iconst 0, 1) := by decide +kernel
theorem dX9_ones_1 : decode cX9_ones 1 = .ok (.istore_n 1, 1) := by decide +kernel
theorem dX9_ones_2 : decode cX9_ones 2 = .ok (.iconst 0, 1) := by decide +kernel
theorem dX9_ones_3 : decode cX9_ones 3 = .ok (.istore_n 2, 1) := by decide +kernel
theorem dX9_ones_4 : decode cX9_ones 4 = .ok (.iload_n 2, 1) := by decide +kernel
theorem dX9_ones_5 : decode cX9_ones 5 = .ok (.bipush 8, 2) := by decide +kernel
theorem dX9_ones_7 : decode cX9_ones 7 = .ok (.if_icmp .ge 17, 3) := by decide +kernel
theorem dX9_ones_10 : decode cX9_ones 10 = .ok (.iload_n 1, 1) := by decide +kernel
theorem dX9_ones_11 : decode cX9_ones 11 = .ok (.iload_n 0, 1) := by decide +kernel
theorem dX9_ones_12 : decode cX9_ones 12 = .ok (.iload_n 2, 1) := by decide +kernel
theorem dX9_ones_13 : decode cX9_ones 13 = .ok (.ishr, 1) := by decide +kernel
theorem dX9_ones_14 : decode cX9_ones 14 = .ok (.iconst 1, 1) := by decide +kernel
theorem dX9_ones_15 : decode cX9_ones 15 = .ok (.iand, 1) := by decide +kernel
theorem dX9_ones_16 : decode cX9_ones 16 = .ok (.iadd, 1) := by decide +kernel
theorem dX9_ones_17 : decode cX9_ones 17 = .ok (.istore_n 1, 1) := by decide +kernel
theorem dX9_ones_18 : decode cX9_ones 18 = .ok (.iinc 2 1, 3) := by decide +kernel
theorem dX9_ones_21 : decode cX9_ones 21 = .ok (.goto (-17), 3) := by decide +kernel
theorem dX9_ones_24 : decode cX9_ones 24 = .ok (.iload_n 1, 1) := by decide +kernel
theorem dX9_ones_25 : decode cX9_ones 25 = .ok (.ireturn, 1) := by decide +kernel
set_option maxRecDepth 20000 in
theorem ggX9_type_X9_in : GoodIn wsX9_type wsX9_in := goodIn_r _ [7] (by decide +kernel) (by decide +kernel)
set_option maxRecDepth 20000 in
theorem gX9_type_X9_in : GoodIn wsX9_type (va_wsS RX9 66 yX9_in wsX9_in) := goodIn_app (goodIn_of _ (by decide +kernel)) ggX9_type_X9_in
theorem dX9_type_0 : decode cX9_type 0 = .ok (.aload_n 0, 1) := by decide +kernel
theorem dX9_type_1 : decode cX9_type 1 = .ok (.iconst 0, 1) := by decide +kernel
theorem dX9_type_2 : decode cX9_type 2 = .ok (.putfield 62, 3) := by decide +kernel
theorem dX9_type_5 : decode cX9_type 5 = .ok (.iload_n 1, 1) := by decide +kernel
theorem dX9_type_6 : decode cX9_type 6 = .ok (.iconst 0, 1) := by decide +kernel
theorem dX9_type_7 : decode cX9_type 7 = .ok (.sipush 255, 3) := by decide +kernel
theorem dX9_type_10 : decode cX9_type 10 = .ok (.invokestatic 66, 3) := by decide +kernel
theorem dX9_type_13 : decode cX9_type 13 = .ok (.ifCond .ne 5, 3) := by decide +kernel
theorem dX9_type_16 : decode cX9_type 16 = .ok (.iconst (-1), 1) := by decide +kernel
theorem dX9_type_17 : decode cX9_type 17 = .ok (.ireturn, 1) := by decide +kernel
theorem dX9_type_18 : decode cX9_type 18 = .ok (.aload_n 0, 1) := by decide +kernel
theorem dX9_type_19 : decode cX9_type 19 = .ok (.getfield 70, 3) := by decide +kernel
theorem dX9_type_22 : decode cX9_type 22 = .ok (.sipush 200, 3) := by decide +kernel
theorem dX9_type_25 : decode cX9_type 25 = .ok (.if_icmp .ne 6, 3) := by decide +kernel
theorem dX9_type_28 : decode cX9_type 28 = .ok (.bipush (-3), 2) := by decide +kernel
theorem dX9_type_30 : decode cX9_type 30 = .ok (.ireturn, 1) := by decide +kernel
theorem dX9_type_31 : decode cX9_type 31 = .ok (.aload_n 0, 1) := by decide +kernel
theorem dX9_type_32 : decode cX9_type 32 = .ok (.getfield 7, 3) := by decide +kernel
theorem dX9_type_35 : decode cX9_type 35 = .ok (.aload_n 0, 1) := by decide +kernel
theorem dX9_type_36 : decode cX9_type 36 = .ok (.getfield 70, 3) := by decide +kernel
theorem dX9_type_39 : decode cX9_type 39 = .ok (.iload_n 1, 1) := by decide +kernel
theorem dX9_type_40 : decode cX9_type 40 = .ok (.iastore, 1) := by decide +kernel
theorem dX9_type_41 : decode cX9_type 41 = .ok (.aload_n 0, 1) := by decide +kernel
theorem dX9_type_42 : decode cX9_type 42 = .ok (.dup, 1) := by decide +kernel
theorem dX9_type_43 : decode cX9_type 43 = .ok (.getfield 70, 3) := by decide +kernel
theorem dX9_type_46 : decode cX9_type 46 = .ok (.iconst 1, 1) := by decide +kernel
theorem dX9_type_47 : decode cX9_type 47 = .ok (.iadd, 1) := by decide +kernel
theorem dX9_type_48 : decode cX9_type 48 = .ok (.putfield 70, 3) := by decide +kernel
theorem dX9_type_51 : decode cX9_type 51 = .ok (.aload_n 0, 1) := by decide +kernel
theorem dX9_type_52 : decode cX9_type 52 = .ok (.getfield 70, 3) := by decide +kernel
theorem dX9_type_55 : decode cX9_type 55 = .ok (.ireturn, 1) := by decide +kernel
theorem dX9_clear_0 : decode cX9_clear 0 = .ok (.aload_n 0, 1) := by decide +kernel
theorem dX9_clear_1 : decode cX9_clear 1 = .ok (.iconst 0, 1) := by decide +kernel
theorem dX9_clear_2 : decode cX9_clear 2 = .ok (.putfield 62, 3) := by decide +kernel
theorem dX9_clear_5 : decode cX9_clear 5 = .ok (.aload_n 0, 1) := by decide +kernel
theorem dX9_clear_6 : decode cX9_clear 6 = .ok (.getfield 70, 3) := by decide +kernel
theorem dX9_clear_9 : decode cX9_clear 9 = .ok (.istore_n 1, 1) := by decide +kernel
theorem dX9_clear_10 : decode cX9_clear 10 = .ok (.aload_n 0, 1) := by decide +kernel
theorem dX9_clear_11 : decode cX9_clear 11 = .ok (.iconst 0, 1) := by decide +kernel
theorem dX9_clear_12 : decode cX9_clear 12 = .ok (.putfield 70, 3) := by decide +kernel
theorem dX9_clear_15 : decode cX9_clear 15 = .ok (.iload_n 1, 1) := by decide +kernel
theorem dX9_clear_16 : decode cX9_clear 16 = .ok (.ireturn, 1) := by decide +kernel
theorem dX9_letterAt_0 : decode cX9_letterAt 0 = .ok (.iload_n 1, 1) := by decide +kernel
theorem dX9_letterAt_1 : decode cX9_letterAt 1 = .ok (.aload_n 0, 1) := by decide +kernel
theorem dX9_letterAt_2 : decode cX9_letterAt 2 = .ok (.getfield 70, 3) := by decide +kernel
theorem dX9_letterAt_5 : decode cX9_letterAt 5 = .ok (.if_icmp .ge 12, 3) := by decide +kernel
theorem dX9_letterAt_8 : decode cX9_letterAt 8 = .ok (.aload_n 0, 1) := by decide +kernel
theorem dX9_letterAt_9 : decode cX9_letterAt 9 = .ok (.getfield 7, 3) := by decide +kernel
theorem dX9_letterAt_12 : decode cX9_letterAt 12 = .ok (.iload_n 1, 1) := by decide +kernel
theorem dX9_letterAt_13 : decode cX9_letterAt 13 = .ok (.iaload, 1) := by decide +kernel
theorem dX9_letterAt_14 : decode cX9_letterAt 14 = .ok (.goto 4, 3) := by decide +kernel
theorem dX9_letterAt_17 : decode cX9_letterAt 17 = .ok (.iconst (-1), 1) := by decide +kernel
theorem dX9_letterAt_18 : decode cX9_letterAt 18 = .ok (.ireturn, 1) := by decide +kernel
set_option maxRecDepth 20000 in
theorem ggX9_advances_X9_letterAt : GoodIn wsX9_advances wsX9_letterAt := goodIn_r _ [9, 10, 11, 15, 16, 17, 18, 19, 20, 21, 22, 23, 24, 25, 26, 27, 28, 29, 30, 31, 32, 33, 34, 35, 36, 37, 38, 39, 40, 41, 42] (by decide +kernel) (by decide +kernel)
set_option maxRecDepth 20000 in
theorem gX9_advances_X9_letterAt : GoodIn wsX9_advances (wsV RX9 76 RX9 yX9_letterAt wsX9_letterAt) := goodIn_app (goodIn_of _ (by decide +kernel)) ggX9_advances_X9_letterAt
set_option maxRecDepth 20000 in
theorem ggX9_advances_X9_in : GoodIn wsX9_advances wsX9_in := goodIn_r _ [14] (by decide +kernel) (by decide +kernel)
set_option maxRecDepth 20000 in
theorem gX9_advances_X9_in : GoodIn wsX9_advances (va_wsS RX9 66 yX9_in wsX9_in) := goodIn_app (goodIn_of _ (by decide +kernel)) ggX9_advances_X9_in
theorem dX9_advances_0 : decode cX9_advances 0 = .ok (.aload_n 0, 1) := by decide +kernel
theorem dX9_advances_1 : decode cX9_advances 1 = .ok (.aload_n 0, 1) := by decide +kernel
theorem dX9_advances_2 : decode cX9_advances 2 = .ok (.getfield 73, 3) := by decide +kernel
theorem dX9_advances_5 : decode cX9_advances 5 = .ok (.invokevirtual 76, 3) := by decide +kernel
theorem dX9_advances_8 : decode cX9_advances 8 = .ok (.bipush 32, 2) := by decide +kernel
theorem dX9_advances_10 : decode cX9_advances 10 = .ok (.if_icmp .ne 16, 3) := by decide +kernel
theorem dX9_advances_13 : decode cX9_advances 13 = .ok (.aload_n 0, 1) := by decide +kernel
theorem dX9_advances_14 : decode cX9_advances 14 = .ok (.dup, 1) := by decide +kernel
theorem dX9_advances_15 : decode cX9_advances 15 = .ok (.getfield 73, 3) := by decide +kernel
theorem dX9_advances_18 : decode cX9_advances 18 = .ok (.iconst 1, 1) := by decide +kernel
theorem dX9_advances_19 : decode cX9_advances 19 = .ok (.iadd, 1) := by decide +kernel
theorem dX9_advances_20 : decode cX9_advances 20 = .ok (.putfield 73, 3) := by decide +kernel
theorem dX9_advances_23 : decode cX9_advances 23 = .ok (.goto (-23), 3) := by decide +kernel
theorem dX9_advances_26 : decode cX9_advances 26 = .ok (.aload_n 0, 1) := by decide +kernel
theorem dX9_advances_27 : decode cX9_advances 27 = .ok (.aload_n 0, 1) := by decide +kernel
theorem dX9_advances_28 : decode cX9_advances 28 = .ok (.getfield 73, 3) := by decide +kernel
theorem dX9_advances_31 : decode cX9_advances 31 = .ok (.putfield 80, 3) := by decide +kernel
theorem dX9_advances_34 : decode cX9_advances 34 = .ok (.aload_n 0, 1) := by decide +kernel
theorem dX9_advances_35 : decode cX9_advances 35 = .ok (.aload_n 0, 1) := by decide +kernel
theorem dX9_advances_36 : decode cX9_advances 36 = .ok (.getfield 73, 3) := by decide +kernel
theorem dX9_advances_39 : decode cX9_advances 39 = .ok (.invokevirtual 76, 3) := by decide +kernel
theorem dX9_advances_42 : decode cX9_advances 42 = .ok (.istore_n 1, 1) := by decide +kernel
theorem dX9_advances_43 : decode cX9_advances 43 = .ok (.iload_n 1, 1) := by decide +kernel
theorem dX9_advances_44 : decode cX9_advances 44 = .ok (.ifCond .ge 11, 3) := by decide +kernel
theorem dX9_advances_47 : decode cX9_advances 47 = .ok (.aload_n 0, 1) := by decide +kernel
theorem dX9_advances_48 : decode cX9_advances 48 = .ok (.iconst 0, 1) := by decide +kernel
theorem dX9_advances_49 : decode cX9_advances 49 = .ok (.putfield 83, 3) := by decide +kernel
theorem dX9_advances_52 : decode cX9_advances 52 = .ok (.goto 183, 3) := by decide +kernel
theorem dX9_advances_55 : decode cX9_advances 55 = .ok (.iload_n 1, 1) := by decide +kernel
theorem dX9_advances_56 : decode cX9_advances 56 = .ok (.bipush 48, 2) := by decide +kernel
theorem dX9_advances_58 : decode cX9_advances 58 = .ok (.bipush 57, 2) := by decide +kernel
theorem dX9_advances_60 : decode cX9_advances 60 = .ok (.invokestatic 66, 3) := by decide +kernel
theorem dX9_advances_63 : decode cX9_advances 63 = .ok (.ifCond .eq 120, 3) := by decide +kernel
theorem dX9_advances_66 : decode cX9_advances 66 = .ok (.aload_n 0, 1) := by decide +kernel
theorem dX9_advances_67 : decode cX9_advances 67 = .ok (.iconst 0, 1) := by decide +kernel
theorem dX9_advances_68 : decode cX9_advances 68 = .ok (.putfield 86, 3) := by decide +kernel
theorem dX9_advances_71 : decode cX9_advances 71 = .ok (.aload_n 0, 1) := by decide +kernel
theorem dX9_advances_72 : decode cX9_advances 72 = .ok (.aload_n 0, 1) := by decide +kernel
theorem dX9_advances_73 : decode cX9_advances 73 = .ok (.getfield 73, 3) := by decide +kernel
theorem dX9_advances_76 : decode cX9_advances 76 = .ok (.invokevirtual 76, 3) := by decide +kernel
theorem dX9_advances_79 : decode cX9_advances 79 = .ok (.bipush 48, 2) := by decide +kernel
theorem dX9_advances_81 : decode cX9_advances 81 = .ok (.bipush 57, 2) := by decide +kernel
theorem dX9_advances_83 : decode cX9_advances 83 = .ok (.invokestatic 66, 3) := by decide +kernel
theorem dX9_advances_86 : decode cX9_advances 86 = .ok (.ifCond .eq 56, 3) := by decide +kernel
theorem dX9_advances_89 : decode cX9_advances 89 = .ok (.aload_n 0, 1) := by decide +kernel
theorem dX9_advances_90 : decode cX9_advances 90 = .ok (.aload_n 0, 1) := by decide +kernel
