theorem dX9_advances_91 : decode cX9_advances 91 = .ok (.getfield 86, 3) := by decide +kernel
theorem dX9_advances_94 : decode cX9_advances 94 = .ok (.sipush 900, 3) := by decide +kernel
theorem dX9_advances_97 : decode cX9_advances 97 = .ok (.if_icmp .le 10, 3) := by decide +kernel
theorem dX9_advances_100 : decode cX9_advances 100 = .ok (.aload_n 0, 1) := by decide +kernel
theorem dX9_advances_101 : decode cX9_advances 101 = .ok (.getfield 86, 3) := by decide +kernel
theorem dX9_advances_104 : decode cX9_advances 104 = .ok (.goto 22, 3) := by decide +kernel
theorem dX9_advances_107 : decode cX9_advances 107 = .ok (.bipush 10, 2) := by decide +kernel
theorem dX9_advances_109 : decode cX9_advances 109 = .ok (.aload_n 0, 1) := by decide +kernel
theorem dX9_advances_110 : decode cX9_advances 110 = .ok (.getfield 86, 3) := by decide +kernel
theorem dX9_advances_113 : decode cX9_advances 113 = .ok (.imul, 1) := by decide +kernel
theorem dX9_advances_114 : decode cX9_advances 114 = .ok (.aload_n 0, 1) := by decide +kernel
theorem dX9_advances_115 : decode cX9_advances 115 = .ok (.aload_n 0, 1) := by decide +kernel
theorem dX9_advances_116 : decode cX9_advances 116 = .ok (.getfield 73, 3) := by decide +kernel
theorem dX9_advances_119 : decode cX9_advances 119 = .ok (.invokevirtual 76, 3) := by decide +kernel
theorem dX9_advances_122 : decode cX9_advances 122 = .ok (.iadd, 1) := by decide +kernel
theorem dX9_advances_123 : decode cX9_advances 123 = .ok (.bipush 48, 2) := by decide +kernel
theorem dX9_advances_125 : decode cX9_advances 125 = .ok (.isub, 1) := by decide +kernel
theorem dX9_advances_126 : decode cX9_advances 126 = .ok (.putfield 86, 3) := by decide +kernel
theorem dX9_advances_129 : decode cX9_advances 129 = .ok (.aload_n 0, 1) := by decide +kernel
theorem dX9_advances_130 : decode cX9_advances 130 = .ok (.dup, 1) := by decide +kernel
theorem dX9_advances_131 : decode cX9_advances 131 = .ok (.getfield 73, 3) := by decide +kernel
theorem dX9_advances_134 : decode cX9_advances 134 = .ok (.iconst 1, 1) := by decide +kernel
theorem dX9_advances_135 : decode cX9_advances 135 = .ok (.iadd, 1) := by decide +kernel
theorem dX9_advances_136 : decode cX9_advances 136 = .ok (.putfield 73, 3) := by decide +kernel
theorem dX9_advances_139 : decode cX9_advances 139 = .ok (.goto (-68), 3) := by decide +kernel
theorem dX9_advances_142 : decode cX9_advances 142 = .ok (.aload_n 0, 1) := by decide +kernel
theorem dX9_advances_143 : decode cX9_advances 143 = .ok (.aload_n 0, 1) := by decide +kernel
theorem dX9_advances_144 : decode cX9_advances 144 = .ok (.getfield 86, 3) := by decide +kernel
theorem dX9_advances_147 : decode cX9_advances 147 = .ok (.sipush 900, 3) := by decide +kernel
theorem dX9_advances_150 : decode cX9_advances 150 = .ok (.if_icmp .gt 22, 3) := by decide +kernel
theorem dX9_advances_153 : decode cX9_advances 153 = .ok (.iload_n 1, 1) := by decide +kernel
theorem dX9_advances_154 : decode cX9_advances 154 = .ok (.bipush 48, 2) := by decide +kernel
theorem dX9_advances_156 : decode cX9_advances 156 = .ok (.if_icmp .ne 20, 3) := by decide +kernel
theorem dX9_advances_159 : decode cX9_advances 159 = .ok (.aload_n 0, 1) := by decide +kernel
theorem dX9_advances_160 : decode cX9_advances 160 = .ok (.getfield 73, 3) := by decide +kernel
theorem dX9_advances_163 : decode cX9_advances 163 = .ok (.aload_n 0, 1) := by decide +kernel
theorem dX9_advances_164 : decode cX9_advances 164 = .ok (.getfield 80, 3) := by decide +kernel
theorem dX9_advances_167 : decode cX9_advances 167 = .ok (.isub, 1) := by decide +kernel
theorem dX9_advances_168 : decode cX9_advances 168 = .ok (.iconst 1, 1) := by decide +kernel
theorem dX9_advances_169 : decode cX9_advances 169 = .ok (.if_icmp .le 7, 3) := by decide +kernel
theorem dX9_advances_172 : decode cX9_advances 172 = .ok (.iconst 4, 1) := by decide +kernel
theorem dX9_advances_173 : decode cX9_advances 173 = .ok (.goto 4, 3) := by decide +kernel
theorem dX9_advances_176 : decode cX9_advances 176 = .ok (.iconst 2, 1) := by decide +kernel
theorem dX9_advances_177 : decode cX9_advances 177 = .ok (.putfield 83, 3) := by decide +kernel
theorem dX9_advances_180 : decode cX9_advances 180 = .ok (.goto 55, 3) := by decide +kernel
theorem dX9_advances_183 : decode cX9_advances 183 = .ok (.aload_n 0, 1) := by decide +kernel
theorem dX9_advances_184 : decode cX9_advances 184 = .ok (.dup, 1) := by decide +kernel
theorem dX9_advances_185 : decode cX9_advances 185 = .ok (.getfield 73, 3) := by decide +kernel
theorem dX9_advances_188 : decode cX9_advances 188 = .ok (.iconst 1, 1) := by decide +kernel
theorem dX9_advances_189 : decode cX9_advances 189 = .ok (.iadd, 1) := by decide +kernel
theorem dX9_advances_190 : decode cX9_advances 190 = .ok (.putfield 73, 3) := by decide +kernel
theorem dX9_advances_193 : decode cX9_advances 193 = .ok (.aload_n 0, 1) := by decide +kernel
theorem dX9_advances_194 : decode cX9_advances 194 = .ok (.iload_n 1, 1) := by decide +kernel
theorem dX9_advances_195 : decode cX9_advances 195 = .ok (.putfield 86, 3) := by decide +kernel
theorem dX9_advances_198 : decode cX9_advances 198 = .ok (.aload_n 0, 1) := by decide +kernel
theorem dX9_advances_199 : decode cX9_advances 199 = .ok (.iload_n 1, 1) := by decide +kernel
theorem dX9_advances_200 : decode cX9_advances 200 = .ok (.bipush 59, 2) := by decide +kernel
theorem dX9_advances_202 : decode cX9_advances 202 = .ok (.if_icmp .ne 7, 3) := by decide +kernel
theorem dX9_advances_205 : decode cX9_advances 205 = .ok (.iconst 3, 1) := by decide +kernel
theorem dX9_advances_206 : decode cX9_advances 206 = .ok (.goto 26, 3) := by decide +kernel
theorem dX9_advances_209 : decode cX9_advances 209 = .ok (.iload_n 1, 1) := by decide +kernel
theorem dX9_advances_210 : decode cX9_advances 210 = .ok (.bipush 114, 2) := by decide +kernel
theorem dX9_advances_212 : decode cX9_advances 212 = .ok (.if_icmp .eq 15, 3) := by decide +kernel
theorem dX9_advances_215 : decode cX9_advances 215 = .ok (.iload_n 1, 1) := by decide +kernel
theorem dX9_advances_216 : decode cX9_advances 216 = .ok (.bipush 98, 2) := by decide +kernel
theorem dX9_advances_218 : decode cX9_advances 218 = .ok (.if_icmp .eq 9, 3) := by decide +kernel
theorem dX9_advances_221 : decode cX9_advances 221 = .ok (.iload_n 1, 1) := by decide +kernel
theorem dX9_advances_222 : decode cX9_advances 222 = .ok (.bipush 99, 2) := by decide +kernel
theorem dX9_advances_224 : decode cX9_advances 224 = .ok (.if_icmp .ne 7, 3) := by decide +kernel
theorem dX9_advances_227 : decode cX9_advances 227 = .ok (.iconst 1, 1) := by decide +kernel
theorem dX9_advances_228 : decode cX9_advances 228 = .ok (.goto 4, 3) := by decide +kernel
theorem dX9_advances_231 : decode cX9_advances 231 = .ok (.iconst 4, 1) := by decide +kernel
theorem dX9_advances_232 : decode cX9_advances 232 = .ok (.putfield 83, 3) := by decide +kernel
theorem dX9_advances_235 : decode cX9_advances 235 = .ok (.return_, 1) := by decide +kernel
theorem dX9_isWell_0 : decode cX9_isWell 0 = .ok (.aload_n 0, 1) := by decide +kernel
theorem dX9_isWell_1 : decode cX9_isWell 1 = .ok (.getfield 89, 3) := by decide +kernel
theorem dX9_isWell_4 : decode cX9_isWell 4 = .ok (.ifCond .ge 7, 3) := by decide +kernel
theorem dX9_isWell_7 : decode cX9_isWell 7 = .ok (.iconst 1, 1) := by decide +kernel
theorem dX9_isWell_8 : decode cX9_isWell 8 = .ok (.goto 4, 3) := by decide +kernel
theorem dX9_isWell_11 : decode cX9_isWell 11 = .ok (.iconst 0, 1) := by decide +kernel
theorem dX9_isWell_12 : decode cX9_isWell 12 = .ok (.ireturn, 1) := by decide +kernel
set_option maxRecDepth 20000 in
theorem ggX9_takesToken_X9_isWell : GoodIn wsX9_takesToken wsX9_isWell := goodIn_r _ [8, 2, 24, 25, 26, 27, 28, 29, 30, 31, 32, 33, 34, 35, 36, 37, 38, 39, 40, 41, 42, 43, 44, 45, 46, 47, 48, 49, 50, 51] (by decide +kernel) (by decide +kernel)
set_option maxRecDepth 20000 in
theorem gX9_takesToken_X9_isWell : GoodIn wsX9_takesToken (wsV RX9 92 RX9 yX9_isWell wsX9_isWell) := goodIn_app (goodIn_of _ (by decide +kernel)) ggX9_takesToken_X9_isWell
set_option maxRecDepth 20000 in
theorem ggX9_takesToken_X9_advances : GoodIn wsX9_takesToken wsX9_advances := goodIn_r _ [12, 13, 1, 14, 3, 15, 16, 17, 7, 18, 19, 20, 21, 22, 23, 24, 25, 26, 27, 28, 29, 30, 31, 32, 33, 34, 35, 36, 37, 38, 39, 40, 41, 42, 43, 44, 45, 46, 47, 48, 49, 50, 51] (by decide +kernel) (by decide +kernel)
set_option maxRecDepth 20000 in
theorem gX9_takesToken_X9_advances : GoodIn wsX9_takesToken (wsV RX9 96 RX9 yX9_advances wsX9_advances) := goodIn_app (goodIn_of _ (by decide +kernel)) ggX9_takesToken_X9_advances
theorem dX9_takesToken_0 : decode cX9_takesToken 0 = .ok (.aload_n 0, 1) := by decide +kernel
theorem dX9_takesToken_1 : decode cX9_takesToken 1 = .ok (.invokevirtual 92, 3) := by decide +kernel
theorem dX9_takesToken_4 : decode cX9_takesToken 4 = .ok (.ifCond .ne 5, 3) := by decide +kernel
theorem dX9_takesToken_7 : decode cX9_takesToken 7 = .ok (.iconst 0, 1) := by decide +kernel
theorem dX9_takesToken_8 : decode cX9_takesToken 8 = .ok (.ireturn, 1) := by decide +kernel
theorem dX9_takesToken_9 : decode cX9_takesToken 9 = .ok (.iload_n 1, 1) := by decide +kernel
theorem dX9_takesToken_10 : decode cX9_takesToken 10 = .ok (.ifCond .ne 13, 3) := by decide +kernel
theorem dX9_takesToken_13 : decode cX9_takesToken 13 = .ok (.aload_n 0, 1) := by decide +kernel
theorem dX9_takesToken_14 : decode cX9_takesToken 14 = .ok (.aload_n 0, 1) := by decide +kernel
theorem dX9_takesToken_15 : decode cX9_takesToken 15 = .ok (.getfield 80, 3) := by decide +kernel
theorem dX9_takesToken_18 : decode cX9_takesToken 18 = .ok (.putfield 89, 3) := by decide +kernel
theorem dX9_takesToken_21 : decode cX9_takesToken 21 = .ok (.iconst 0, 1) := by decide +kernel
theorem dX9_takesToken_22 : decode cX9_takesToken 22 = .ok (.ireturn, 1) := by decide +kernel
theorem dX9_takesToken_23 : decode cX9_takesToken 23 = .ok (.aload_n 0, 1) := by decide +kernel
theorem dX9_takesToken_24 : decode cX9_takesToken 24 = .ok (.getfield 86, 3) := by decide +kernel
theorem dX9_takesToken_27 : decode cX9_takesToken 27 = .ok (.istore_n 2, 1) := by decide +kernel
theorem dX9_takesToken_28 : decode cX9_takesToken 28 = .ok (.aload_n 0, 1) := by decide +kernel
theorem dX9_takesToken_29 : decode cX9_takesToken 29 = .ok (.invokevirtual 96, 3) := by decide +kernel
theorem dX9_takesToken_32 : decode cX9_takesToken 32 = .ok (.iload_n 2, 1) := by decide +kernel
theorem dX9_takesToken_33 : decode cX9_takesToken 33 = .ok (.ireturn, 1) := by decide +kernel
set_option maxRecDepth 20000 in
theorem ggX9_number_X9_in : GoodIn wsX9_number wsX9_in := goodIn_r _ [6] (by decide +kernel) (by decide +kernel)
set_option maxRecDepth 20000 in
theorem gX9_number_X9_in : GoodIn wsX9_number (va_wsS RX9 66 yX9_in wsX9_in) := goodIn_app (goodIn_of _ (by decide +kernel)) ggX9_number_X9_in
set_option maxRecDepth 20000 in
theorem ggX9_number_X9_takesToken : GoodIn wsX9_number wsX9_takesToken := goodIn_r _ [10, 11, 12, 2, 13, 14, 15, 5, 16, 17, 18, 19, 20, 21, 1, 22, 23, 24, 25, 26, 27, 3, 4, 6, 28, 29, 30, 31, 32, 33, 34, 35, 36, 37, 38, 39, 40, 41, 42, 43, 44, 45, 46, 47, 48, 49, 50, 51, 52, 53, 54, 55] (by decide +kernel) (by decide +kernel)
set_option maxRecDepth 20000 in
theorem gX9_number_X9_takesToken : GoodIn wsX9_number (wsV RX9 99 RX9 yX9_takesToken wsX9_takesToken) := goodIn_app (goodIn_of _ (by decide +kernel)) ggX9_number_X9_takesToken
theorem dX9_number_0 : decode cX9_number 0 = .ok (.aload_n 0, 1) := by decide +kernel
theorem dX9_number_1 : decode cX9_number 1 = .ok (.aload_n 0, 1) := by decide +kernel
theorem dX9_number_2 : decode cX9_number 2 = .ok (.getfield 83, 3) := by decide +kernel
theorem dX9_number_5 : decode cX9_number 5 = .ok (.iconst 2, 1) := by decide +kernel
theorem dX9_number_6 : decode cX9_number 6 = .ok (.if_icmp .ne 19, 3) := by decide +kernel
theorem dX9_number_9 : decode cX9_number 9 = .ok (.aload_n 0, 1) := by decide +kernel
theorem dX9_number_10 : decode cX9_number 10 = .ok (.getfield 86, 3) := by decide +kernel
theorem dX9_number_13 : decode cX9_number 13 = .ok (.iload_n 1, 1) := by decide +kernel
theorem dX9_number_14 : decode cX9_number 14 = .ok (.iload_n 2, 1) := by decide +kernel
theorem dX9_number_15 : decode cX9_number 15 = .ok (.invokestatic 66, 3) := by decide +kernel
theorem dX9_number_18 : decode cX9_number 18 = .ok (.ifCond .eq 7, 3) := by decide +kernel
theorem dX9_number_21 : decode cX9_number 21 = .ok (.iconst 1, 1) := by decide +kernel
theorem dX9_number_22 : decode cX9_number 22 = .ok (.goto 4, 3) := by decide +kernel
theorem dX9_number_25 : decode cX9_number 25 = .ok (.iconst 0, 1) := by decide +kernel
theorem dX9_number_26 : decode cX9_number 26 = .ok (.invokevirtual 99, 3) := by decide +kernel
theorem dX9_number_29 : decode cX9_number 29 = .ok (.ireturn, 1) := by decide +kernel
set_option maxRecDepth 20000 in
theorem ggX9_readsItem_X9_number : GoodIn wsX9_readsItem wsX9_number := goodIn_r _ [12, 13, 14, 15, 16, 11, 17, 18, 19, 20, 21, 22, 23, 24, 25, 26, 27, 28, 29, 30, 31, 32, 33, 34, 35, 36, 37, 38, 39, 40, 41, 42, 43, 44, 45, 46, 47, 48, 49, 50, 51, 52, 53, 54, 55, 56, 57, 58, 59, 60, 61, 62, 63, 64, 65, 66] (by decide +kernel) (by decide +kernel)
set_option maxRecDepth 20000 in
theorem gX9_readsItem_X9_number : GoodIn wsX9_readsItem (wsV RX9 103 RX9 yX9_number wsX9_number) := goodIn_app (goodIn_of _ (by decide +kernel)) ggX9_readsItem_X9_number
theorem dX9_readsItem_0 : decode cX9_readsItem 0 = .ok (.iload_n 1, 1) := by decide +kernel
theorem dX9_readsItem_1 : decode cX9_readsItem 1 = .ok (.bipush 114, 2) := by decide +kernel
theorem dX9_readsItem_3 : decode cX9_readsItem 3 = .ok (.if_icmp .ne 98, 3) := by decide +kernel
theorem dX9_readsItem_6 : decode cX9_readsItem 6 = .ok (.aload_n 0, 1) := by decide +kernel
theorem dX9_readsItem_7 : decode cX9_readsItem 7 = .ok (.getfield 13, 3) := by decide +kernel
theorem dX9_readsItem_10 : decode cX9_readsItem 10 = .ok (.iconst 1, 1) := by decide +kernel
theorem dX9_readsItem_11 : decode cX9_readsItem 11 = .ok (.iaload, 1) := by decide +kernel
theorem dX9_readsItem_12 : decode cX9_readsItem 12 = .ok (.istore_n 2, 1) := by decide +kernel
theorem dX9_readsItem_13 : decode cX9_readsItem 13 = .ok (.aload_n 0, 1) := by decide +kernel
theorem dX9_readsItem_14 : decode cX9_readsItem 14 = .ok (.getfield 16, 3) := by decide +kernel
theorem dX9_readsItem_17 : decode cX9_readsItem 17 = .ok (.iload_n 2, 1) := by decide +kernel
theorem dX9_readsItem_18 : decode cX9_readsItem 18 = .ok (.aload_n 0, 1) := by decide +kernel
theorem dX9_readsItem_19 : decode cX9_readsItem 19 = .ok (.iconst 0, 1) := by decide +kernel
theorem dX9_readsItem_20 : decode cX9_readsItem 20 = .ok (.bipush 9, 2) := by decide +kernel
theorem dX9_readsItem_22 : decode cX9_readsItem 22 = .ok (.invokevirtual 103, 3) := by decide +kernel
theorem dX9_readsItem_25 : decode cX9_readsItem 25 = .ok (.iastore, 1) := by decide +kernel
theorem dX9_readsItem_26 : decode cX9_readsItem 26 = .ok (.aload_n 0, 1) := by decide +kernel
theorem dX9_readsItem_27 : decode cX9_readsItem 27 = .ok (.getfield 19, 3) := by decide +kernel
theorem dX9_readsItem_30 : decode cX9_readsItem 30 = .ok (.bipush 8, 2) := by decide +kernel
theorem dX9_readsItem_32 : decode cX9_readsItem 32 = .ok (.iload_n 2, 1) := by decide +kernel
theorem dX9_readsItem_33 : decode cX9_readsItem 33 = .ok (.iadd, 1) := by decide +kernel
theorem dX9_readsItem_34 : decode cX9_readsItem 34 = .ok (.aload_n 0, 1) := by decide +kernel
theorem dX9_readsItem_35 : decode cX9_readsItem 35 = .ok (.iconst 1, 1) := by decide +kernel
theorem dX9_readsItem_36 : decode cX9_readsItem 36 = .ok (.iconst 5, 1) := by decide +kernel
theorem dX9_readsItem_37 : decode cX9_readsItem 37 = .ok (.invokevirtual 103, 3) := by decide +kernel
theorem dX9_readsItem_40 : decode cX9_readsItem 40 = .ok (.iastore, 1) := by decide +kernel
theorem dX9_readsItem_41 : decode cX9_readsItem 41 = .ok (.aload_n 0, 1) := by decide +kernel
theorem dX9_readsItem_42 : decode cX9_readsItem 42 = .ok (.getfield 22, 3) := by decide +kernel
theorem dX9_readsItem_45 : decode cX9_readsItem 45 = .ok (.bipush 8, 2) := by decide +kernel
theorem dX9_readsItem_47 : decode cX9_readsItem 47 = .ok (.iload_n 2, 1) := by decide +kernel
theorem dX9_readsItem_48 : decode cX9_readsItem 48 = .ok (.iadd, 1) := by decide +kernel
theorem dX9_readsItem_49 : decode cX9_readsItem 49 = .ok (.aload_n 0, 1) := by decide +kernel
theorem dX9_readsItem_50 : decode cX9_readsItem 50 = .ok (.iconst 0, 1) := by decide +kernel
theorem dX9_readsItem_51 : decode cX9_readsItem 51 = .ok (.iconst 3, 1) := by decide +kernel
theorem dX9_readsItem_52 : decode cX9_readsItem 52 = .ok (.invokevirtual 103, 3) := by decide +kernel
theorem dX9_readsItem_55 : decode cX9_readsItem 55 = .ok (.iastore, 1) := by decide +kernel
theorem dX9_readsItem_56 : decode cX9_readsItem 56 = .ok (.aload_n 0, 1) := by decide +kernel
theorem dX9_readsItem_57 : decode cX9_readsItem 57 = .ok (.getfield 25, 3) := by decide +kernel
theorem dX9_readsItem_60 : decode cX9_readsItem 60 = .ok (.bipush 8, 2) := by decide +kernel
theorem dX9_readsItem_62 : decode cX9_readsItem 62 = .ok (.iload_n 2, 1) := by decide +kernel
theorem dX9_readsItem_63 : decode cX9_readsItem 63 = .ok (.iadd, 1) := by decide +kernel
theorem dX9_readsItem_64 : decode cX9_readsItem 64 = .ok (.aload_n 0, 1) := by decide +kernel
theorem dX9_readsItem_65 : decode cX9_readsItem 65 = .ok (.iconst 0, 1) := by decide +kernel
theorem dX9_readsItem_66 : decode cX9_readsItem 66 = .ok (.bipush 10, 2) := by decide +kernel
theorem dX9_readsItem_68 : decode cX9_readsItem 68 = .ok (.invokevirtual 103, 3) := by decide +kernel
theorem dX9_readsItem_71 : decode cX9_readsItem 71 = .ok (.iastore, 1) := by decide +kernel
theorem dX9_readsItem_72 : decode cX9_readsItem 72 = .ok (.aload_n 0, 1) := by decide +kernel
theorem dX9_readsItem_73 : decode cX9_readsItem 73 = .ok (.getfield 28, 3) := by decide +kernel
theorem dX9_readsItem_76 : decode cX9_readsItem 76 = .ok (.bipush 8, 2) := by decide +kernel
theorem dX9_readsItem_78 : decode cX9_readsItem 78 = .ok (.iload_n 2, 1) := by decide +kernel
theorem dX9_readsItem_79 : decode cX9_readsItem 79 = .ok (.iadd, 1) := by decide +kernel
theorem dX9_readsItem_80 : decode cX9_readsItem 80 = .ok (.aload_n 0, 1) := by decide +kernel
theorem dX9_readsItem_81 : decode cX9_readsItem 81 = .ok (.iconst 0, 1) := by decide +kernel
theorem dX9_readsItem_82 : decode cX9_readsItem 82 = .ok (.bipush 30, 2) := by decide +kernel
theorem dX9_readsItem_84 : decode cX9_readsItem 84 = .ok (.invokevirtual 103, 3) := by decide +kernel
theorem dX9_readsItem_87 : decode cX9_readsItem 87 = .ok (.iastore, 1) := by decide +kernel
theorem dX9_readsItem_88 : decode cX9_readsItem 88 = .ok (.aload_n 0, 1) := by decide +kernel
theorem dX9_readsItem_89 : decode cX9_readsItem 89 = .ok (.getfield 13, 3) := by decide +kernel
theorem dX9_readsItem_92 : decode cX9_readsItem 92 = .ok (.iconst 1, 1) := by decide +kernel
theorem dX9_readsItem_93 : decode cX9_readsItem 93 = .ok (.dup2, 1) := by decide +kernel
theorem dX9_readsItem_94 : decode cX9_readsItem 94 = .ok (.iaload, 1) := by decide +kernel
theorem dX9_readsItem_95 : decode cX9_readsItem 95 = .ok (.iconst 1, 1) := by decide +kernel
theorem dX9_readsItem_96 : decode cX9_readsItem 96 = .ok (.iadd, 1) := by decide +kernel
theorem dX9_readsItem_97 : decode cX9_readsItem 97 = .ok (.iastore, 1) := by decide +kernel
theorem dX9_readsItem_98 : decode cX9_readsItem 98 = .ok (.goto 59, 3) := by decide +kernel
theorem dX9_readsItem_101 : decode cX9_readsItem 101 = .ok (.iload_n 1, 1) := by decide +kernel
theorem dX9_readsItem_102 : decode cX9_readsItem 102 = .ok (.bipush 98, 2) := by decide +kernel
theorem dX9_readsItem_104 : decode cX9_readsItem 104 = .ok (.if_icmp .ne 29, 3) := by decide +kernel
theorem dX9_readsItem_107 : decode cX9_readsItem 107 = .ok (.aload_n 0, 1) := by decide +kernel
theorem dX9_readsItem_108 : decode cX9_readsItem 108 = .ok (.getfield 13, 3) := by decide +kernel
theorem dX9_readsItem_111 : decode cX9_readsItem 111 = .ok (.iconst 2, 1) := by decide +kernel
theorem dX9_readsItem_112 : decode cX9_readsItem 112 = .ok (.aload_n 0, 1) := by decide +kernel
theorem dX9_readsItem_113 : decode cX9_readsItem 113 = .ok (.iconst 1, 1) := by decide +kernel
theorem dX9_readsItem_114 : decode cX9_readsItem 114 = .ok (.bipush 30, 2) := by decide +kernel
theorem dX9_readsItem_116 : decode cX9_readsItem 116 = .ok (.invokevirtual 103, 3) := by decide +kernel
theorem dX9_readsItem_119 : decode cX9_readsItem 119 = .ok (.iastore, 1) := by decide +kernel
theorem dX9_readsItem_120 : decode cX9_readsItem 120 = .ok (.aload_n 0, 1) := by decide +kernel
theorem dX9_readsItem_121 : decode cX9_readsItem 121 = .ok (.dup, 1) := by decide +kernel
theorem dX9_readsItem_122 : decode cX9_readsItem 122 = .ok (.getfield 107, 3) := by decide +kernel
theorem dX9_readsItem_125 : decode cX9_readsItem 125 = .ok (.iconst 1, 1) := by decide +kernel
theorem dX9_readsItem_126 : decode cX9_readsItem 126 = .ok (.ior, 1) := by decide +kernel
theorem dX9_readsItem_127 : decode cX9_readsItem 127 = .ok (.putfield 107, 3) := by decide +kernel
theorem dX9_readsItem_130 : decode cX9_readsItem 130 = .ok (.goto 27, 3) := by decide +kernel
theorem dX9_readsItem_133 : decode cX9_readsItem 133 = .ok (.aload_n 0, 1) := by decide +kernel
theorem dX9_readsItem_134 : decode cX9_readsItem 134 = .ok (.getfield 13, 3) := by decide +kernel
theorem dX9_readsItem_137 : decode cX9_readsItem 137 = .ok (.iconst 3, 1) := by decide +kernel
theorem dX9_readsItem_138 : decode cX9_readsItem 138 = .ok (.aload_n 0, 1) := by decide +kernel
theorem dX9_readsItem_139 : decode cX9_readsItem 139 = .ok (.iconst 0, 1) := by decide +kernel
theorem dX9_readsItem_140 : decode cX9_readsItem 140 = .ok (.sipush 900, 3) := by decide +kernel
theorem dX9_readsItem_143 : decode cX9_readsItem 143 = .ok (.invokevirtual 103, 3) := by decide +kernel
theorem dX9_readsItem_146 : decode cX9_readsItem 146 = .ok (.iastore, 1) := by decide +kernel
theorem dX9_readsItem_147 : decode cX9_readsItem 147 = .ok (.aload_n 0, 1) := by decide +kernel
theorem dX9_readsItem_148 : decode cX9_readsItem 148 = .ok (.dup, 1) := by decide +kernel
theorem dX9_readsItem_149 : decode cX9_readsItem 149 = .ok (.getfield 107, 3) := by decide +kernel
theorem dX9_readsItem_152 : decode cX9_readsItem 152 = .ok (.iconst 2, 1) := by decide +kernel
theorem dX9_readsItem_153 : decode cX9_readsItem 153 = .ok (.ior, 1) := by decide +kernel
theorem dX9_readsItem_154 : decode cX9_readsItem 154 = .ok (.putfield 107, 3) := by decide +kernel
theorem dX9_readsItem_157 : decode cX9_readsItem 157 = .ok (.return_, 1) := by decide +kernel
set_option maxRecDepth 20000 in
theorem ggX9_river_X9_advances : GoodIn wsX9_river wsX9_advances := goodIn_r _ [12, 3, 13, 6, 7, 14, 15, 16, 11, 17, 18, 19, 20, 21, 22, 52, 53, 54, 55, 56, 57, 58, 59, 60, 61, 62, 63, 64, 65, 66, 67, 68, 69, 70, 71, 72, 73, 74, 75, 76, 77, 78, 79] (by decide +kernel) (by decide +kernel)
set_option maxRecDepth 20000 in
theorem gX9_river_X9_advances : GoodIn wsX9_river (wsV RX9 96 RX9 yX9_advances wsX9_advances) := goodIn_app (goodIn_of _ (by decide +kernel)) ggX9_river_X9_advances
set_option maxRecDepth 20000 in
theorem ggX9_river_X9_isWell : GoodIn wsX9_river wsX9_isWell := goodIn_r _ [26, 2, 52, 53, 54, 55, 56, 57, 58, 59, 60, 61, 62, 63, 64, 65, 66, 67, 68, 69, 70, 71, 72, 73, 74, 75, 76, 77, 78, 79] (by decide +kernel) (by decide +kernel)
set_option maxRecDepth 20000 in
theorem gX9_river_X9_isWell : GoodIn wsX9_river (wsV RX9 92 RX9 yX9_isWell wsX9_isWell) := goodIn_app (goodIn_of _ (by decide +kernel)) ggX9_river_X9_isWell
set_option maxRecDepth 20000 in
theorem ggX9_river_X9_takesToken : GoodIn wsX9_river wsX9_takesToken := goodIn_r _ [30, 13, 2, 7, 23, 24, 25, 11, 26, 8, 9, 10, 12, 3, 6, 14, 15, 16, 17, 18, 19, 20, 21, 22, 52, 53, 54, 55, 56, 57, 58, 59, 60, 61, 62, 63, 64, 65, 66, 67, 68, 69, 70, 71, 72, 73, 74, 75, 76, 77, 78, 79] (by decide +kernel) (by decide +kernel)
set_option maxRecDepth 20000 in
theorem gX9_river_X9_takesToken : GoodIn wsX9_river (wsV RX9 99 RX9 yX9_takesToken wsX9_takesToken) := goodIn_app (goodIn_of _ (by decide +kernel)) ggX9_river_X9_takesToken
set_option maxRecDepth 20000 in
theorem ggX9_river_X9_readsItem : GoodIn wsX9_river wsX9_readsItem := goodIn_r _ [34, 5, 35, 36, 37, 38, 39, 4, 40, 41, 42, 11, 43, 6, 7, 20, 21, 22, 27, 28, 29, 30, 13, 2, 23, 24, 25, 26, 8, 9, 10, 12, 3, 14, 15, 16, 17, 18, 19, 52, 53, 54, 55, 56, 57, 58, 59, 60, 61, 62, 63, 64, 65, 66, 67, 68, 69, 70, 71, 72, 73, 74, 75, 76, 77, 78, 79] (by decide +kernel) (by decide +kernel)
set_option maxRecDepth 20000 in
theorem gX9_river_X9_readsItem : GoodIn wsX9_river (wsV RX9 110 RX9 yX9_readsItem wsX9_readsItem) := goodIn_app (goodIn_of _ (by decide +kernel)) ggX9_river_X9_readsItem
set_option maxRecDepth 20000 in
theorem ggX9_river_X9_settles : GoodIn wsX9_river wsX9_settles := goodIn_r _ [47, 5, 48, 36, 37, 38, 39, 35, 18, 49, 50, 51, 52, 53, 54, 55, 56, 57, 58, 59, 60, 61, 62, 63, 64, 65, 66, 67, 68, 69, 70, 71, 72, 73, 74, 75, 76, 77, 78, 79] (by decide +kernel) (by decide +kernel)
set_option maxRecDepth 20000 in
theorem gX9_river_X9_settles : GoodIn wsX9_river (wsV RX9 114 RX9 yX9_settles wsX9_settles) := goodIn_app (goodIn_of _ (by decide +kernel)) ggX9_river_X9_settles
theorem dX9_river_0 : decode cX9_river 0 = .ok (.aload_n 0, 1) := by decide +kernel
theorem dX9_river_1 : decode cX9_river 1 = .ok (.iconst 0, 1) := by decide +kernel
theorem dX9_river_2 : decode cX9_river 2 = .ok (.putfield 62, 3) := by decide +kernel
theorem dX9_river_5 : decode cX9_river 5 = .ok (.aload_n 0, 1) := by decide +kernel
theorem dX9_river_6 : decode cX9_river 6 = .ok (.iconst (-1), 1) := by decide +kernel
theorem dX9_river_7 : decode cX9_river 7 = .ok (.putfield 89, 3) := by decide +kernel
theorem dX9_river_10 : decode cX9_river 10 = .ok (.aload_n 0, 1) := by decide +kernel
theorem dX9_river_11 : decode cX9_river 11 = .ok (.iconst 0, 1) := by decide +kernel
theorem dX9_river_12 : decode cX9_river 12 = .ok (.putfield 73, 3) := by decide +kernel
theorem dX9_river_15 : decode cX9_river 15 = .ok (.aload_n 0, 1) := by decide +kernel
theorem dX9_river_16 : decode cX9_river 16 = .ok (.iconst 0, 1) := by decide +kernel
theorem dX9_river_17 : decode cX9_river 17 = .ok (.putfield 107, 3) := by decide +kernel
theorem dX9_river_20 : decode cX9_river 20 = .ok (.aload_n 0, 1) := by decide +kernel
theorem dX9_river_21 : decode cX9_river 21 = .ok (.getfield 13, 3) := by decide +kernel
theorem dX9_river_24 : decode cX9_river 24 = .ok (.iconst 1, 1) := by decide +kernel
theorem dX9_river_25 : decode cX9_river 25 = .ok (.iconst 0, 1) := by decide +kernel
theorem dX9_river_26 : decode cX9_river 26 = .ok (.iastore, 1) := by decide +kernel
theorem dX9_river_27 : decode cX9_river 27 = .ok (.aload_n 0, 1) := by decide +kernel
theorem dX9_river_28 : decode cX9_river 28 = .ok (.getfield 13, 3) := by decide +kernel
theorem dX9_river_31 : decode cX9_river 31 = .ok (.iconst 2, 1) := by decide +kernel
theorem dX9_river_32 : decode cX9_river 32 = .ok (.bipush 10, 2) := by decide +kernel
theorem dX9_river_34 : decode cX9_river 34 = .ok (.iastore, 1) := by decide +kernel
theorem dX9_river_35 : decode cX9_river 35 = .ok (.aload_n 0, 1) := by decide +kernel
theorem dX9_river_36 : decode cX9_river 36 = .ok (.getfield 13, 3) := by decide +kernel
theorem dX9_river_39 : decode cX9_river 39 = .ok (.iconst 3, 1) := by decide +kernel
theorem dX9_river_40 : decode cX9_river 40 = .ok (.bipush 100, 2) := by decide +kernel
theorem dX9_river_42 : decode cX9_river 42 = .ok (.iastore, 1) := by decide +kernel
theorem dX9_river_43 : decode cX9_river 43 = .ok (.iconst 0, 1) := by decide +kernel
theorem dX9_river_44 : decode cX9_river 44 = .ok (.istore_n 1, 1) := by decide +kernel
theorem dX9_river_45 : decode cX9_river 45 = .ok (.aload_n 0, 1) := by decide +kernel
theorem dX9_river_46 : decode cX9_river 46 = .ok (.invokevirtual 96, 3) := by decide +kernel
theorem dX9_river_49 : decode cX9_river 49 = .ok (.aload_n 0, 1) := by decide +kernel
theorem dX9_river_50 : decode cX9_river 50 = .ok (.invokevirtual 92, 3) := by decide +kernel
theorem dX9_river_53 : decode cX9_river 53 = .ok (.ifCond .eq 117, 3) := by decide +kernel
theorem dX9_river_56 : decode cX9_river 56 = .ok (.aload_n 0, 1) := by decide +kernel
theorem dX9_river_57 : decode cX9_river 57 = .ok (.getfield 83, 3) := by decide +kernel
theorem dX9_river_60 : decode cX9_river 60 = .ok (.ifCond .eq 110, 3) := by decide +kernel
theorem dX9_river_63 : decode cX9_river 63 = .ok (.aload_n 0, 1) := by decide +kernel
theorem dX9_river_64 : decode cX9_river 64 = .ok (.aload_n 0, 1) := by decide +kernel
theorem dX9_river_65 : decode cX9_river 65 = .ok (.getfield 83, 3) := by decide +kernel
theorem dX9_river_68 : decode cX9_river 68 = .ok (.iconst 1, 1) := by decide +kernel
theorem dX9_river_69 : decode cX9_river 69 = .ok (.if_icmp .ne 60, 3) := by decide +kernel
theorem dX9_river_72 : decode cX9_river 72 = .ok (.aload_n 0, 1) := by decide +kernel
theorem dX9_river_73 : decode cX9_river 73 = .ok (.getfield 86, 3) := by decide +kernel
theorem dX9_river_76 : decode cX9_river 76 = .ok (.bipush 114, 2) := by decide +kernel
theorem dX9_river_78 : decode cX9_river 78 = .ok (.if_icmp .ne 17, 3) := by decide +kernel
theorem dX9_river_81 : decode cX9_river 81 = .ok (.aload_n 0, 1) := by decide +kernel
theorem dX9_river_82 : decode cX9_river 82 = .ok (.getfield 13, 3) := by decide +kernel
theorem dX9_river_85 : decode cX9_river 85 = .ok (.iconst 1, 1) := by decide +kernel
theorem dX9_river_86 : decode cX9_river 86 = .ok (.iaload, 1) := by decide +kernel
theorem dX9_river_87 : decode cX9_river 87 = .ok (.bipush 8, 2) := by decide +kernel
theorem dX9_river_89 : decode cX9_river 89 = .ok (.if_icmp .ge 40, 3) := by decide +kernel
theorem dX9_river_92 : decode cX9_river 92 = .ok (.goto 33, 3) := by decide +kernel
theorem dX9_river_95 : decode cX9_river 95 = .ok (.aload_n 0, 1) := by decide +kernel
theorem dX9_river_96 : decode cX9_river 96 = .ok (.getfield 86, 3) := by decide +kernel
theorem dX9_river_99 : decode cX9_river 99 = .ok (.bipush 98, 2) := by decide +kernel
theorem dX9_river_101 : decode cX9_river 101 = .ok (.if_icmp .ne 15, 3) := by decide +kernel
theorem dX9_river_104 : decode cX9_river 104 = .ok (.aload_n 0, 1) := by decide +kernel
theorem dX9_river_105 : decode cX9_river 105 = .ok (.getfield 107, 3) := by decide +kernel
theorem dX9_river_108 : decode cX9_river 108 = .ok (.iconst 1, 1) := by decide +kernel
theorem dX9_river_109 : decode cX9_river 109 = .ok (.iand, 1) := by decide +kernel
theorem dX9_river_110 : decode cX9_river 110 = .ok (.ifCond .ne 19, 3) := by decide +kernel
theorem dX9_river_113 : decode cX9_river 113 = .ok (.goto 12, 3) := by decide +kernel
theorem dX9_river_116 : decode cX9_river 116 = .ok (.aload_n 0, 1) := by decide +kernel
theorem dX9_river_117 : decode cX9_river 117 = .ok (.getfield 107, 3) := by decide +kernel
theorem dX9_river_120 : decode cX9_river 120 = .ok (.iconst 2, 1) := by decide +kernel
theorem dX9_river_121 : decode cX9_river 121 = .ok (.iand, 1) := by decide +kernel
theorem dX9_river_122 : decode cX9_river 122 = .ok (.ifCond .ne 7, 3) := by decide +kernel
theorem dX9_river_125 : decode cX9_river 125 = .ok (.iconst 1, 1) := by decide +kernel
theorem dX9_river_126 : decode cX9_river 126 = .ok (.goto 4, 3) := by decide +kernel
theorem dX9_river_129 : decode cX9_river 129 = .ok (.iconst 0, 1) := by decide +kernel
theorem dX9_river_130 : decode cX9_river 130 = .ok (.invokevirtual 99, 3) := by decide +kernel
theorem dX9_river_133 : decode cX9_river 133 = .ok (.istore_n 2, 1) := by decide +kernel
theorem dX9_river_134 : decode cX9_river 134 = .ok (.aload_n 0, 1) := by decide +kernel
theorem dX9_river_135 : decode cX9_river 135 = .ok (.invokevirtual 92, 3) := by decide +kernel
theorem dX9_river_138 : decode cX9_river 138 = .ok (.ifCond .eq 8, 3) := by decide +kernel
theorem dX9_river_141 : decode cX9_river 141 = .ok (.aload_n 0, 1) := by decide +kernel
theorem dX9_river_142 : decode cX9_river 142 = .ok (.iload_n 2, 1) := by decide +kernel
theorem dX9_river_143 : decode cX9_river 143 = .ok (.invokevirtual 110, 3) := by decide +kernel
theorem dX9_river_146 : decode cX9_river 146 = .ok (.aload_n 0, 1) := by decide +kernel
theorem dX9_river_147 : decode cX9_river 147 = .ok (.aload_n 0, 1) := by decide +kernel
theorem dX9_river_148 : decode cX9_river 148 = .ok (.getfield 83, 3) := by decide +kernel
theorem dX9_river_151 : decode cX9_river 151 = .ok (.iconst 3, 1) := by decide +kernel
theorem dX9_river_152 : decode cX9_river 152 = .ok (.if_icmp .ne 7, 3) := by decide +kernel
theorem dX9_river_155 : decode cX9_river 155 = .ok (.iconst 1, 1) := by decide +kernel
theorem dX9_river_156 : decode cX9_river 156 = .ok (.goto 4, 3) := by decide +kernel
theorem dX9_river_159 : decode cX9_river 159 = .ok (.iconst 0, 1) := by decide +kernel
theorem dX9_river_160 : decode cX9_river 160 = .ok (.invokevirtual 99, 3) := by decide +kernel
theorem dX9_river_163 : decode cX9_river 163 = .ok (.pop, 1) := by decide +kernel
theorem dX9_river_164 : decode cX9_river 164 = .ok (.iinc 1 1, 3) := by decide +kernel
theorem dX9_river_167 : decode cX9_river 167 = .ok (.goto (-118), 3) := by decide +kernel
theorem dX9_river_170 : decode cX9_river 170 = .ok (.aload_n 0, 1) := by decide +kernel
theorem dX9_river_171 : decode cX9_river 171 = .ok (.invokevirtual 92, 3) := by decide +kernel
theorem dX9_river_174 : decode cX9_river 174 = .ok (.ifCond .ne 11, 3) := by decide +kernel
theorem dX9_river_177 : decode cX9_river 177 = .ok (.bipush (-10), 2) := by decide +kernel
theorem dX9_river_179 : decode cX9_river 179 = .ok (.aload_n 0, 1) := by decide +kernel
theorem dX9_river_180 : decode cX9_river 180 = .ok (.getfield 89, 3) := by decide +kernel
theorem dX9_river_183 : decode cX9_river 183 = .ok (.isub, 1) := by decide +kernel
theorem dX9_river_184 : decode cX9_river 184 = .ok (.ireturn, 1) := by decide +kernel
theorem dX9_river_185 : decode cX9_river 185 = .ok (.aload_n 0, 1) := by decide +kernel
theorem dX9_river_186 : decode cX9_river 186 = .ok (.invokevirtual 114, 3) := by decide +kernel
theorem dX9_river_189 : decode cX9_river 189 = .ok (.iload_n 1, 1) := by decide +kernel
theorem dX9_river_190 : decode cX9_river 190 = .ok (.ireturn, 1) := by decide +kernel
theorem dX9_settles_0 : decode cX9_settles 0 = .ok (.aload_n 0, 1) := by decide +kernel
theorem dX9_settles_1 : decode cX9_settles 1 = .ok (.getfield 13, 3) := by decide +kernel
theorem dX9_settles_4 : decode cX9_settles 4 = .ok (.iconst 0, 1) := by decide +kernel
theorem dX9_settles_5 : decode cX9_settles 5 = .ok (.aload_n 0, 1) := by decide +kernel
theorem dX9_settles_6 : decode cX9_settles 6 = .ok (.getfield 13, 3) := by decide +kernel
theorem dX9_settles_9 : decode cX9_settles 9 = .ok (.iconst 1, 1) := by decide +kernel
theorem dX9_settles_10 : decode cX9_settles 10 = .ok (.iaload, 1) := by decide +kernel
theorem dX9_settles_11 : decode cX9_settles 11 = .ok (.iastore, 1) := by decide +kernel
theorem dX9_settles_12 : decode cX9_settles 12 = .ok (.iconst 0, 1) := by decide +kernel
theorem dX9_settles_13 : decode cX9_settles 13 = .ok (.istore_n 1, 1) := by decide +kernel
theorem dX9_settles_14 : decode cX9_settles 14 = .ok (.iload_n 1, 1) := by decide +kernel
theorem dX9_settles_15 : decode cX9_settles 15 = .ok (.bipush 18, 2) := by decide +kernel
theorem dX9_settles_17 : decode cX9_settles 17 = .ok (.if_icmp .ge 16, 3) := by decide +kernel
theorem dX9_settles_20 : decode cX9_settles 20 = .ok (.aload_n 0, 1) := by decide +kernel
theorem dX9_settles_21 : decode cX9_settles 21 = .ok (.getfield 31, 3) := by decide +kernel
theorem dX9_settles_24 : decode cX9_settles 24 = .ok (.iload_n 1, 1) := by decide +kernel
theorem dX9_settles_25 : decode cX9_settles 25 = .ok (.iconst 0, 1) := by decide +kernel
theorem dX9_settles_26 : decode cX9_settles 26 = .ok (.iastore, 1) := by decide +kernel
theorem dX9_settles_27 : decode cX9_settles 27 = .ok (.iinc 1 1, 3) := by decide +kernel
theorem dX9_settles_30 : decode cX9_settles 30 = .ok (.goto (-16), 3) := by decide +kernel
theorem dX9_settles_33 : decode cX9_settles 33 = .ok (.iconst 0, 1) := by decide +kernel
theorem dX9_settles_34 : decode cX9_settles 34 = .ok (.istore_n 1, 1) := by decide +kernel
theorem dX9_settles_35 : decode cX9_settles 35 = .ok (.iload_n 1, 1) := by decide +kernel
theorem dX9_settles_36 : decode cX9_settles 36 = .ok (.aload_n 0, 1) := by decide +kernel
theorem dX9_settles_37 : decode cX9_settles 37 = .ok (.getfield 13, 3) := by decide +kernel
theorem dX9_settles_40 : decode cX9_settles 40 = .ok (.iconst 0, 1) := by decide +kernel
theorem dX9_settles_41 : decode cX9_settles 41 = .ok (.iaload, 1) := by decide +kernel
theorem dX9_settles_42 : decode cX9_settles 42 = .ok (.if_icmp .ge 84, 3) := by decide +kernel
theorem dX9_settles_45 : decode cX9_settles 45 = .ok (.aload_n 0, 1) := by decide +kernel
theorem dX9_settles_46 : decode cX9_settles 46 = .ok (.getfield 19, 3) := by decide +kernel
theorem dX9_settles_49 : decode cX9_settles 49 = .ok (.iload_n 1, 1) := by decide +kernel
theorem dX9_settles_50 : decode cX9_settles 50 = .ok (.aload_n 0, 1) := by decide +kernel
theorem dX9_settles_51 : decode cX9_settles 51 = .ok (.getfield 19, 3) := by decide +kernel
theorem dX9_settles_54 : decode cX9_settles 54 = .ok (.bipush 8, 2) := by decide +kernel
theorem dX9_settles_56 : decode cX9_settles 56 = .ok (.iload_n 1, 1) := by decide +kernel
theorem dX9_settles_57 : decode cX9_settles 57 = .ok (.iadd, 1) := by decide +kernel
theorem dX9_settles_58 : decode cX9_settles 58 = .ok (.iaload, 1) := by decide +kernel
theorem dX9_settles_59 : decode cX9_settles 59 = .ok (.iastore, 1) := by decide +kernel
theorem dX9_settles_60 : decode cX9_settles 60 = .ok (.aload_n 0, 1) := by decide +kernel
theorem dX9_settles_61 : decode cX9_settles 61 = .ok (.getfield 22, 3) := by decide +kernel
theorem dX9_settles_64 : decode cX9_settles 64 = .ok (.iload_n 1, 1) := by decide +kernel
theorem dX9_settles_65 : decode cX9_settles 65 = .ok (.aload_n 0, 1) := by decide +kernel
theorem dX9_settles_66 : decode cX9_settles 66 = .ok (.getfield 22, 3) := by decide +kernel
theorem dX9_settles_69 : decode cX9_settles 69 = .ok (.bipush 8, 2) := by decide +kernel
theorem dX9_settles_71 : decode cX9_settles 71 = .ok (.iload_n 1, 1) := by decide +kernel
theorem dX9_settles_72 : decode cX9_settles 72 = .ok (.iadd, 1) := by decide +kernel
theorem dX9_settles_73 : decode cX9_settles 73 = .ok (.iaload, 1) := by decide +kernel
theorem dX9_settles_74 : decode cX9_settles 74 = .ok (.iastore, 1) := by decide +kernel
theorem dX9_settles_75 : decode cX9_settles 75 = .ok (.aload_n 0, 1) := by decide +kernel
theorem dX9_settles_76 : decode cX9_settles 76 = .ok (.getfield 25, 3) := by decide +kernel
theorem dX9_settles_79 : decode cX9_settles 79 = .ok (.iload_n 1, 1) := by decide +kernel
theorem dX9_settles_80 : decode cX9_settles 80 = .ok (.aload_n 0, 1) := by decide +kernel
theorem dX9_settles_81 : decode cX9_settles 81 = .ok (.getfield 25, 3) := by decide +kernel
theorem dX9_settles_84 : decode cX9_settles 84 = .ok (.bipush 8, 2) := by decide +kernel
theorem dX9_settles_86 : decode cX9_settles 86 = .ok (.iload_n 1, 1) := by decide +kernel
theorem dX9_settles_87 : decode cX9_settles 87 = .ok (.iadd, 1) := by decide +kernel
theorem dX9_settles_88 : decode cX9_settles 88 = .ok (.iaload, 1) := by decide +kernel
theorem dX9_settles_89 : decode cX9_settles 89 = .ok (.iastore, 1) := by decide +kernel
theorem dX9_settles_90 : decode cX9_settles 90 = .ok (.aload_n 0, 1) := by decide +kernel
theorem dX9_settles_91 : decode cX9_settles 91 = .ok (.getfield 28, 3) := by decide +kernel
theorem dX9_settles_94 : decode cX9_settles 94 = .ok (.iload_n 1, 1) := by decide +kernel
theorem dX9_settles_95 : decode cX9_settles 95 = .ok (.aload_n 0, 1) := by decide +kernel
theorem dX9_settles_96 : decode cX9_settles 96 = .ok (.getfield 28, 3) := by decide +kernel
theorem dX9_settles_99 : decode cX9_settles 99 = .ok (.bipush 8, 2) := by decide +kernel
theorem dX9_settles_101 : decode cX9_settles 101 = .ok (.iload_n 1, 1) := by decide +kernel
theorem dX9_settles_102 : decode cX9_settles 102 = .ok (.iadd, 1) := by decide +kernel
theorem dX9_settles_103 : decode cX9_settles 103 = .ok (.iaload, 1) := by decide +kernel
theorem dX9_settles_104 : decode cX9_settles 104 = .ok (.iastore, 1) := by decide +kernel
theorem dX9_settles_105 : decode cX9_settles 105 = .ok (.aload_n 0, 1) := by decide +kernel
theorem dX9_settles_106 : decode cX9_settles 106 = .ok (.getfield 31, 3) := by decide +kernel
theorem dX9_settles_109 : decode cX9_settles 109 = .ok (.bipush 6, 2) := by decide +kernel
theorem dX9_settles_111 : decode cX9_settles 111 = .ok (.iload_n 1, 1) := by decide +kernel
theorem dX9_settles_112 : decode cX9_settles 112 = .ok (.iadd, 1) := by decide +kernel
theorem dX9_settles_113 : decode cX9_settles 113 = .ok (.aload_n 0, 1) := by decide +kernel
theorem dX9_settles_114 : decode cX9_settles 114 = .ok (.getfield 16, 3) := by decide +kernel
theorem dX9_settles_117 : decode cX9_settles 117 = .ok (.iload_n 1, 1) := by decide +kernel
theorem dX9_settles_118 : decode cX9_settles 118 = .ok (.iaload, 1) := by decide +kernel
theorem dX9_settles_119 : decode cX9_settles 119 = .ok (.iastore, 1) := by decide +kernel
theorem dX9_settles_120 : decode cX9_settles 120 = .ok (.iinc 1 1, 3) := by decide +kernel
theorem dX9_settles_123 : decode cX9_settles 123 = .ok (.goto (-88), 3) := by decide +kernel
theorem dX9_settles_126 : decode cX9_settles 126 = .ok (.aload_n 0, 1) := by decide +kernel
theorem dX9_settles_127 : decode cX9_settles 127 = .ok (.getfield 31, 3) := by decide +kernel
theorem dX9_settles_130 : decode cX9_settles 130 = .ok (.iconst 1, 1) := by decide +kernel
theorem dX9_settles_131 : decode cX9_settles 131 = .ok (.aload_n 0, 1) := by decide +kernel
theorem dX9_settles_132 : decode cX9_settles 132 = .ok (.getfield 13, 3) := by decide +kernel
theorem dX9_settles_135 : decode cX9_settles 135 = .ok (.iconst 2, 1) := by decide +kernel
theorem dX9_settles_136 : decode cX9_settles 136 = .ok (.iaload, 1) := by decide +kernel
theorem dX9_settles_137 : decode cX9_settles 137 = .ok (.iastore, 1) := by decide +kernel
theorem dX9_settles_138 : decode cX9_settles 138 = .ok (.aload_n 0, 1) := by decide +kernel
theorem dX9_settles_139 : decode cX9_settles 139 = .ok (.getfield 31, 3) := by decide +kernel
theorem dX9_settles_142 : decode cX9_settles 142 = .ok (.iconst 2, 1) := by decide +kernel
theorem dX9_settles_143 : decode cX9_settles 143 = .ok (.aload_n 0, 1) := by decide +kernel
theorem dX9_settles_144 : decode cX9_settles 144 = .ok (.getfield 13, 3) := by decide +kernel
theorem dX9_settles_147 : decode cX9_settles 147 = .ok (.iconst 3, 1) := by decide +kernel
theorem dX9_settles_148 : decode cX9_settles 148 = .ok (.iaload, 1) := by decide +kernel
theorem dX9_settles_149 : decode cX9_settles 149 = .ok (.iastore, 1) := by decide +kernel
theorem dX9_settles_150 : decode cX9_settles 150 = .ok (.aload_n 0, 1) := by decide +kernel
theorem dX9_settles_151 : decode cX9_settles 151 = .ok (.iconst 0, 1) := by decide +kernel
theorem dX9_settles_152 : decode cX9_settles 152 = .ok (.putfield 70, 3) := by decide +kernel
theorem dX9_settles_155 : decode cX9_settles 155 = .ok (.aload_n 0, 1) := by decide +kernel
theorem dX9_settles_156 : decode cX9_settles 156 = .ok (.iconst 0, 1) := by decide +kernel
theorem dX9_settles_157 : decode cX9_settles 157 = .ok (.putfield 117, 3) := by decide +kernel
theorem dX9_settles_160 : decode cX9_settles 160 = .ok (.aload_n 0, 1) := by decide +kernel
theorem dX9_settles_161 : decode cX9_settles 161 = .ok (.iconst 0, 1) := by decide +kernel
theorem dX9_settles_162 : decode cX9_settles 162 = .ok (.putfield 120, 3) := by decide +kernel
theorem dX9_settles_165 : decode cX9_settles 165 = .ok (.aload_n 0, 1) := by decide +kernel
theorem dX9_settles_166 : decode cX9_settles 166 = .ok (.getfield 40, 3) := by decide +kernel
theorem dX9_settles_169 : decode cX9_settles 169 = .ok (.iconst 0, 1) := by decide +kernel
theorem dX9_settles_170 : decode cX9_settles 170 = .ok (.iconst 0, 1) := by decide +kernel
theorem dX9_settles_171 : decode cX9_settles 171 = .ok (.bastore, 1) := by decide +kernel
theorem dX9_settles_172 : decode cX9_settles 172 = .ok (.aload_n 0, 1) := by decide +kernel
theorem dX9_settles_173 : decode cX9_settles 173 = .ok (.getfield 40, 3) := by decide +kernel
theorem dX9_settles_176 : decode cX9_settles 176 = .ok (.iconst 1, 1) := by decide +kernel
theorem dX9_settles_177 : decode cX9_settles 177 = .ok (.iconst 0, 1) := by decide +kernel
theorem dX9_settles_178 : decode cX9_settles 178 = .ok (.bastore, 1) := by decide +kernel
theorem dX9_settles_179 : decode cX9_settles 179 = .ok (.return_, 1) := by decide +kernel
set_option maxRecDepth 20000 in
theorem ggX9_isRock_X9_in : GoodIn wsX9_isRock wsX9_in := goodIn_r _ [5] (by decide +kernel) (by decide +kernel)
set_option maxRecDepth 20000 in
theorem gX9_isRock_X9_in : GoodIn wsX9_isRock (va_wsS RX9 66 yX9_in wsX9_in) := goodIn_app (goodIn_of _ (by decide +kernel)) ggX9_isRock_X9_in
theorem dX9_isRock_0 : decode cX9_isRock 0 = .ok (.iload_n 1, 1) := by decide +kernel
theorem dX9_isRock_1 : decode cX9_isRock 1 = .ok (.iconst 0, 1) := by decide +kernel
theorem dX9_isRock_2 : decode cX9_isRock 2 = .ok (.aload_n 0, 1) := by decide +kernel
theorem dX9_isRock_3 : decode cX9_isRock 3 = .ok (.getfield 13, 3) := by decide +kernel
theorem dX9_isRock_6 : decode cX9_isRock 6 = .ok (.iconst 0, 1) := by decide +kernel
theorem dX9_isRock_7 : decode cX9_isRock 7 = .ok (.iaload, 1) := by decide +kernel
theorem dX9_isRock_8 : decode cX9_isRock 8 = .ok (.iconst 1, 1) := by decide +kernel
theorem dX9_isRock_9 : decode cX9_isRock 9 = .ok (.isub, 1) := by decide +kernel
theorem dX9_isRock_10 : decode cX9_isRock 10 = .ok (.invokestatic 66, 3) := by decide +kernel
theorem dX9_isRock_13 : decode cX9_isRock 13 = .ok (.ireturn, 1) := by decide +kernel
theorem dX9_tollOf_0 : decode cX9_tollOf 0 = .ok (.aload_n 1, 1) := by decide +kernel
theorem dX9_tollOf_1 : decode cX9_tollOf 1 = .ok (.iconst 5, 1) := by decide +kernel
theorem dX9_tollOf_2 : decode cX9_tollOf 2 = .ok (.iaload, 1) := by decide +kernel
theorem dX9_tollOf_3 : decode cX9_tollOf 3 = .ok (.iload_n 2, 1) := by decide +kernel
theorem dX9_tollOf_4 : decode cX9_tollOf 4 = .ok (.ishr, 1) := by decide +kernel
theorem dX9_tollOf_5 : decode cX9_tollOf 5 = .ok (.iconst 1, 1) := by decide +kernel
theorem dX9_tollOf_6 : decode cX9_tollOf 6 = .ok (.iand, 1) := by decide +kernel
theorem dX9_tollOf_7 : decode cX9_tollOf 7 = .ok (.iconst 1, 1) := by decide +kernel
theorem dX9_tollOf_8 : decode cX9_tollOf 8 = .ok (.if_icmp .ne 7, 3) := by decide +kernel
theorem dX9_tollOf_11 : decode cX9_tollOf 11 = .ok (.iconst 0, 1) := by decide +kernel
theorem dX9_tollOf_12 : decode cX9_tollOf 12 = .ok (.goto 27, 3) := by decide +kernel
theorem dX9_tollOf_15 : decode cX9_tollOf 15 = .ok (.aload_n 1, 1) := by decide +kernel
theorem dX9_tollOf_16 : decode cX9_tollOf 16 = .ok (.bipush 6, 2) := by decide +kernel
theorem dX9_tollOf_18 : decode cX9_tollOf 18 = .ok (.iload_n 2, 1) := by decide +kernel
theorem dX9_tollOf_19 : decode cX9_tollOf 19 = .ok (.iadd, 1) := by decide +kernel
theorem dX9_tollOf_20 : decode cX9_tollOf 20 = .ok (.iaload, 1) := by decide +kernel
theorem dX9_tollOf_21 : decode cX9_tollOf 21 = .ok (.iload_n 3, 1) := by decide +kernel
theorem dX9_tollOf_22 : decode cX9_tollOf 22 = .ok (.aload_n 0, 1) := by decide +kernel
theorem dX9_tollOf_23 : decode cX9_tollOf 23 = .ok (.getfield 19, 3) := by decide +kernel
theorem dX9_tollOf_26 : decode cX9_tollOf 26 = .ok (.iload_n 2, 1) := by decide +kernel
theorem dX9_tollOf_27 : decode cX9_tollOf 27 = .ok (.iaload, 1) := by decide +kernel
theorem dX9_tollOf_28 : decode cX9_tollOf 28 = .ok (.iadd, 1) := by decide +kernel
theorem dX9_tollOf_29 : decode cX9_tollOf 29 = .ok (.iconst 1, 1) := by decide +kernel
theorem dX9_tollOf_30 : decode cX9_tollOf 30 = .ok (.isub, 1) := by decide +kernel
theorem dX9_tollOf_31 : decode cX9_tollOf 31 = .ok (.aload_n 0, 1) := by decide +kernel
theorem dX9_tollOf_32 : decode cX9_tollOf 32 = .ok (.getfield 19, 3) := by decide +kernel
theorem dX9_tollOf_35 : decode cX9_tollOf 35 = .ok (.iload_n 2, 1) := by decide +kernel
theorem dX9_tollOf_36 : decode cX9_tollOf 36 = .ok (.iaload, 1) := by decide +kernel
theorem dX9_tollOf_37 : decode cX9_tollOf 37 = .ok (.idiv, 1) := by decide +kernel
theorem dX9_tollOf_38 : decode cX9_tollOf 38 = .ok (.imul, 1) := by decide +kernel
theorem dX9_tollOf_39 : decode cX9_tollOf 39 = .ok (.ireturn, 1) := by decide +kernel
set_option maxRecDepth 20000 in
theorem ggX9_takenBy_X9_tollOf : GoodIn wsX9_takenBy wsX9_tollOf := goodIn_r _ [6, 7, 8, 9, 10, 11, 12, 13, 14, 15, 16, 17, 18, 19, 20, 21, 22, 23, 24, 25, 26, 27, 28, 29, 30, 31, 32, 33, 34, 35] (by decide +kernel) (by decide +kernel)
set_option maxRecDepth 20000 in
theorem gX9_takenBy_X9_tollOf : GoodIn wsX9_takenBy (wsV RX9 123 RX9 yX9_tollOf wsX9_tollOf) := goodIn_app (goodIn_of _ (by decide +kernel)) ggX9_takenBy_X9_tollOf
theorem dX9_takenBy_0 : decode cX9_takenBy 0 = .ok (.iload 4, 2) := by decide +kernel
theorem dX9_takenBy_2 : decode cX9_takenBy 2 = .ok (.aload_n 0, 1) := by decide +kernel
theorem dX9_takenBy_3 : decode cX9_takenBy 3 = .ok (.getfield 22, 3) := by decide +kernel
theorem dX9_takenBy_6 : decode cX9_takenBy 6 = .ok (.iload_n 2, 1) := by decide +kernel
theorem dX9_takenBy_7 : decode cX9_takenBy 7 = .ok (.iaload, 1) := by decide +kernel
theorem dX9_takenBy_8 : decode cX9_takenBy 8 = .ok (.iconst 1, 1) := by decide +kernel
theorem dX9_takenBy_9 : decode cX9_takenBy 9 = .ok (.iadd, 1) := by decide +kernel
theorem dX9_takenBy_10 : decode cX9_takenBy 10 = .ok (.if_icmp .ne 7, 3) := by decide +kernel
theorem dX9_takenBy_13 : decode cX9_takenBy 13 = .ok (.iconst 0, 1) := by decide +kernel
theorem dX9_takenBy_14 : decode cX9_takenBy 14 = .ok (.goto 10, 3) := by decide +kernel
theorem dX9_takenBy_17 : decode cX9_takenBy 17 = .ok (.aload_n 0, 1) := by decide +kernel
theorem dX9_takenBy_18 : decode cX9_takenBy 18 = .ok (.aload_n 1, 1) := by decide +kernel
theorem dX9_takenBy_19 : decode cX9_takenBy 19 = .ok (.iload_n 2, 1) := by decide +kernel
theorem dX9_takenBy_20 : decode cX9_takenBy 20 = .ok (.iload_n 3, 1) := by decide +kernel
theorem dX9_takenBy_21 : decode cX9_takenBy 21 = .ok (.invokevirtual 123, 3) := by decide +kernel
theorem dX9_takenBy_24 : decode cX9_takenBy 24 = .ok (.ireturn, 1) := by decide +kernel
set_option maxRecDepth 20000 in
theorem ggX9_rock_X9_isRock : GoodIn wsX9_rock wsX9_isRock := goodIn_r _ [11, 12, 13, 14, 10, 15, 16, 17, 18, 19, 20, 21, 22, 23, 24, 25, 26, 27, 28, 29, 30, 31, 32, 33, 34, 35, 36, 37, 38, 39, 40, 41, 42, 43] (by decide +kernel) (by decide +kernel)
set_option maxRecDepth 20000 in
theorem gX9_rock_X9_isRock : GoodIn wsX9_rock (wsV RX9 127 RX9 yX9_isRock wsX9_isRock) := goodIn_app (goodIn_of _ (by decide +kernel)) ggX9_rock_X9_isRock
set_option maxRecDepth 20000 in
theorem ggX9_rock_X9_in : GoodIn wsX9_rock wsX9_in := goodIn_r _ [15] (by decide +kernel) (by decide +kernel)
set_option maxRecDepth 20000 in
theorem gX9_rock_X9_in : GoodIn wsX9_rock (va_wsS RX9 66 yX9_in wsX9_in) := goodIn_app (goodIn_of _ (by decide +kernel)) ggX9_rock_X9_in
theorem dX9_rock_0 : decode cX9_rock 0 = .ok (.aload_n 0, 1) := by decide +kernel
theorem dX9_rock_1 : decode cX9_rock 1 = .ok (.iconst 0, 1) := by decide +kernel
theorem dX9_rock_2 : decode cX9_rock 2 = .ok (.putfield 62, 3) := by decide +kernel
theorem dX9_rock_5 : decode cX9_rock 5 = .ok (.aload_n 0, 1) := by decide +kernel
theorem dX9_rock_6 : decode cX9_rock 6 = .ok (.iload_n 1, 1) := by decide +kernel
theorem dX9_rock_7 : decode cX9_rock 7 = .ok (.invokevirtual 127, 3) := by decide +kernel
theorem dX9_rock_10 : decode cX9_rock 10 = .ok (.ifCond .eq 12, 3) := by decide +kernel
theorem dX9_rock_13 : decode cX9_rock 13 = .ok (.iload_n 2, 1) := by decide +kernel
theorem dX9_rock_14 : decode cX9_rock 14 = .ok (.iconst 0, 1) := by decide +kernel
theorem dX9_rock_15 : decode cX9_rock 15 = .ok (.iconst 5, 1) := by decide +kernel
theorem dX9_rock_16 : decode cX9_rock 16 = .ok (.invokestatic 66, 3) := by decide +kernel
theorem dX9_rock_19 : decode cX9_rock 19 = .ok (.ifCond .ne 5, 3) := by decide +kernel
theorem dX9_rock_22 : decode cX9_rock 22 = .ok (.iconst (-1), 1) := by decide +kernel
theorem dX9_rock_23 : decode cX9_rock 23 = .ok (.ireturn, 1) := by decide +kernel
theorem dX9_rock_24 : decode cX9_rock 24 = .ok (.iload_n 2, 1) := by decide +kernel
theorem dX9_rock_25 : decode cX9_rock 25 = .ok (.iconst 3, 1) := by decide +kernel
theorem dX9_rock_26 : decode cX9_rock 26 = .ok (.if_icmp .ge 40, 3) := by decide +kernel
theorem dX9_rock_29 : decode cX9_rock 29 = .ok (.iload_n 2, 1) := by decide +kernel
theorem dX9_rock_30 : decode cX9_rock 30 = .ok (.ifCond .ne 15, 3) := by decide +kernel
theorem dX9_rock_33 : decode cX9_rock 33 = .ok (.aload_n 0, 1) := by decide +kernel
theorem dX9_rock_34 : decode cX9_rock 34 = .ok (.getfield 31, 3) := by decide +kernel
theorem dX9_rock_37 : decode cX9_rock 37 = .ok (.bipush 6, 2) := by decide +kernel
theorem dX9_rock_39 : decode cX9_rock 39 = .ok (.iload_n 1, 1) := by decide +kernel
theorem dX9_rock_40 : decode cX9_rock 40 = .ok (.iadd, 1) := by decide +kernel
theorem dX9_rock_41 : decode cX9_rock 41 = .ok (.iaload, 1) := by decide +kernel
theorem dX9_rock_42 : decode cX9_rock 42 = .ok (.goto 23, 3) := by decide +kernel
theorem dX9_rock_45 : decode cX9_rock 45 = .ok (.iload_n 2, 1) := by decide +kernel
theorem dX9_rock_46 : decode cX9_rock 46 = .ok (.iconst 1, 1) := by decide +kernel
theorem dX9_rock_47 : decode cX9_rock 47 = .ok (.if_icmp .ne 12, 3) := by decide +kernel
theorem dX9_rock_50 : decode cX9_rock 50 = .ok (.aload_n 0, 1) := by decide +kernel
theorem dX9_rock_51 : decode cX9_rock 51 = .ok (.getfield 19, 3) := by decide +kernel
theorem dX9_rock_54 : decode cX9_rock 54 = .ok (.iload_n 1, 1) := by decide +kernel
theorem dX9_rock_55 : decode cX9_rock 55 = .ok (.iaload, 1) := by decide +kernel
theorem dX9_rock_56 : decode cX9_rock 56 = .ok (.goto 9, 3) := by decide +kernel
theorem dX9_rock_59 : decode cX9_rock 59 = .ok (.aload_n 0, 1) := by decide +kernel
theorem dX9_rock_60 : decode cX9_rock 60 = .ok (.getfield 22, 3) := by decide +kernel
theorem dX9_rock_63 : decode cX9_rock 63 = .ok (.iload_n 1, 1) := by decide +kernel
theorem dX9_rock_64 : decode cX9_rock 64 = .ok (.iaload, 1) := by decide +kernel
theorem dX9_rock_65 : decode cX9_rock 65 = .ok (.ireturn, 1) := by decide +kernel
theorem dX9_rock_66 : decode cX9_rock 66 = .ok (.iload_n 2, 1) := by decide +kernel
theorem dX9_rock_67 : decode cX9_rock 67 = .ok (.iconst 3, 1) := by decide +kernel
theorem dX9_rock_68 : decode cX9_rock 68 = .ok (.if_icmp .ne 12, 3) := by decide +kernel
theorem dX9_rock_71 : decode cX9_rock 71 = .ok (.aload_n 0, 1) := by decide +kernel
theorem dX9_rock_72 : decode cX9_rock 72 = .ok (.getfield 25, 3) := by decide +kernel
theorem dX9_rock_75 : decode cX9_rock 75 = .ok (.iload_n 1, 1) := by decide +kernel
theorem dX9_rock_76 : decode cX9_rock 76 = .ok (.iaload, 1) := by decide +kernel
theorem dX9_rock_77 : decode cX9_rock 77 = .ok (.goto 27, 3) := by decide +kernel
theorem dX9_rock_80 : decode cX9_rock 80 = .ok (.iload_n 2, 1) := by decide +kernel
theorem dX9_rock_81 : decode cX9_rock 81 = .ok (.iconst 4, 1) := by decide +kernel
theorem dX9_rock_82 : decode cX9_rock 82 = .ok (.if_icmp .ne 12, 3) := by decide +kernel
theorem dX9_rock_85 : decode cX9_rock 85 = .ok (.aload_n 0, 1) := by decide +kernel
theorem dX9_rock_86 : decode cX9_rock 86 = .ok (.getfield 28, 3) := by decide +kernel
theorem dX9_rock_89 : decode cX9_rock 89 = .ok (.iload_n 1, 1) := by decide +kernel
theorem dX9_rock_90 : decode cX9_rock 90 = .ok (.iaload, 1) := by decide +kernel
theorem dX9_rock_91 : decode cX9_rock 91 = .ok (.goto 13, 3) := by decide +kernel
theorem dX9_rock_94 : decode cX9_rock 94 = .ok (.aload_n 0, 1) := by decide +kernel
theorem dX9_rock_95 : decode cX9_rock 95 = .ok (.getfield 31, 3) := by decide +kernel
theorem dX9_rock_98 : decode cX9_rock 98 = .ok (.iconst 5, 1) := by decide +kernel
theorem dX9_rock_99 : decode cX9_rock 99 = .ok (.iaload, 1) := by decide +kernel
theorem dX9_rock_100 : decode cX9_rock 100 = .ok (.iload_n 1, 1) := by decide +kernel
theorem dX9_rock_101 : decode cX9_rock 101 = .ok (.ishr, 1) := by decide +kernel
theorem dX9_rock_102 : decode cX9_rock 102 = .ok (.iconst 1, 1) := by decide +kernel
theorem dX9_rock_103 : decode cX9_rock 103 = .ok (.iand, 1) := by decide +kernel
theorem dX9_rock_104 : decode cX9_rock 104 = .ok (.ireturn, 1) := by decide +kernel
set_option maxRecDepth 20000 in
theorem ggX9_takes_X9_isRock : GoodIn wsX9_takes wsX9_isRock := goodIn_r _ [7, 8, 9, 10, 6, 11, 17, 18, 19, 20, 21, 22, 23, 24, 25, 26, 27, 28, 29, 30, 31, 32, 33, 34, 35, 36, 37, 38, 39, 40, 41, 42, 43, 44] (by decide +kernel) (by decide +kernel)
set_option maxRecDepth 20000 in
theorem gX9_takes_X9_isRock : GoodIn wsX9_takes (wsV RX9 127 RX9 yX9_isRock wsX9_isRock) := goodIn_app (goodIn_of _ (by decide +kernel)) ggX9_takes_X9_isRock
set_option maxRecDepth 20000 in
theorem ggX9_takes_X9_in : GoodIn wsX9_takes wsX9_in := goodIn_r _ [11] (by decide +kernel) (by decide +kernel)
set_option maxRecDepth 20000 in
theorem gX9_takes_X9_in : GoodIn wsX9_takes (va_wsS RX9 66 yX9_in wsX9_in) := goodIn_app (goodIn_of _ (by decide +kernel)) ggX9_takes_X9_in
set_option maxRecDepth 20000 in
theorem ggX9_takes_X9_tollOf : GoodIn wsX9_takes wsX9_tollOf := goodIn_r _ [15, 16, 17, 18, 19, 20, 21, 22, 23, 24, 25, 26, 27, 28, 29, 30, 31, 32, 33, 34, 35, 36, 37, 38, 39, 40, 41, 42, 43, 44] (by decide +kernel) (by decide +kernel)
set_option maxRecDepth 20000 in
theorem gX9_takes_X9_tollOf : GoodIn wsX9_takes (wsV RX9 123 RX9 yX9_tollOf wsX9_tollOf) := goodIn_app (goodIn_of _ (by decide +kernel)) ggX9_takes_X9_tollOf
theorem dX9_takes_0 : decode cX9_takes 0 = .ok (.aload_n 0, 1) := by decide +kernel
theorem dX9_takes_1 : decode cX9_takes 1 = .ok (.iconst 0, 1) := by decide +kernel
theorem dX9_takes_2 : decode cX9_takes 2 = .ok (.putfield 62, 3) := by decide +kernel
theorem dX9_takes_5 : decode cX9_takes 5 = .ok (.aload_n 0, 1) := by decide +kernel
theorem dX9_takes_6 : decode cX9_takes 6 = .ok (.iload_n 1, 1) := by decide +kernel
theorem dX9_takes_7 : decode cX9_takes 7 = .ok (.invokevirtual 127, 3) := by decide +kernel
theorem dX9_takes_10 : decode cX9_takes 10 = .ok (.ifCond .eq 26, 3) := by decide +kernel
theorem dX9_takes_13 : decode cX9_takes 13 = .ok (.iload_n 2, 1) := by decide +kernel
theorem dX9_takes_14 : decode cX9_takes 14 = .ok (.iconst 0, 1) := by decide +kernel
theorem dX9_takes_15 : decode cX9_takes 15 = .ok (.bipush 30, 2) := by decide +kernel
theorem dX9_takes_17 : decode cX9_takes 17 = .ok (.invokestatic 66, 3) := by decide +kernel
theorem dX9_takes_20 : decode cX9_takes 20 = .ok (.ifCond .eq 16, 3) := by decide +kernel
theorem dX9_takes_23 : decode cX9_takes 23 = .ok (.aload_n 0, 1) := by decide +kernel
theorem dX9_takes_24 : decode cX9_takes 24 = .ok (.aload_n 0, 1) := by decide +kernel
theorem dX9_takes_25 : decode cX9_takes 25 = .ok (.getfield 31, 3) := by decide +kernel
theorem dX9_takes_28 : decode cX9_takes 28 = .ok (.iload_n 1, 1) := by decide +kernel
theorem dX9_takes_29 : decode cX9_takes 29 = .ok (.iload_n 2, 1) := by decide +kernel
theorem dX9_takes_30 : decode cX9_takes 30 = .ok (.invokevirtual 123, 3) := by decide +kernel
theorem dX9_takes_33 : decode cX9_takes 33 = .ok (.goto 4, 3) := by decide +kernel
theorem dX9_takes_36 : decode cX9_takes 36 = .ok (.iconst (-1), 1) := by decide +kernel
theorem dX9_takes_37 : decode cX9_takes 37 = .ok (.ireturn, 1) := by decide +kernel
theorem dX9_isSea_0 : decode cX9_isSea 0 = .ok (.aload_n 0, 1) := by decide +kernel
theorem dX9_isSea_1 : decode cX9_isSea 1 = .ok (.getfield 31, 3) := by decide +kernel
theorem dX9_isSea_4 : decode cX9_isSea 4 = .ok (.iconst 0, 1) := by decide +kernel
theorem dX9_isSea_5 : decode cX9_isSea 5 = .ok (.iaload, 1) := by decide +kernel
theorem dX9_isSea_6 : decode cX9_isSea 6 = .ok (.aload_n 0, 1) := by decide +kernel
theorem dX9_isSea_7 : decode cX9_isSea 7 = .ok (.getfield 13, 3) := by decide +kernel
theorem dX9_isSea_10 : decode cX9_isSea 10 = .ok (.iconst 0, 1) := by decide +kernel
theorem dX9_isSea_11 : decode cX9_isSea 11 = .ok (.iaload, 1) := by decide +kernel
theorem dX9_isSea_12 : decode cX9_isSea 12 = .ok (.if_icmp .ne 7, 3) := by decide +kernel
theorem dX9_isSea_15 : decode cX9_isSea 15 = .ok (.iconst 1, 1) := by decide +kernel
theorem dX9_isSea_16 : decode cX9_isSea 16 = .ok (.goto 4, 3) := by decide +kernel
theorem dX9_isSea_19 : decode cX9_isSea 19 = .ok (.iconst 0, 1) := by decide +kernel
theorem dX9_isSea_20 : decode cX9_isSea 20 = .ok (.ireturn, 1) := by decide +kernel
set_option maxRecDepth 20000 in
theorem ggX9_now_X9_in : GoodIn wsX9_now wsX9_in := goodIn_r _ [7] (by decide +kernel) (by decide +kernel)
set_option maxRecDepth 20000 in
theorem gX9_now_X9_in : GoodIn wsX9_now (va_wsS RX9 66 yX9_in wsX9_in) := goodIn_app (goodIn_of _ (by decide +kernel)) ggX9_now_X9_in
set_option maxRecDepth 20000 in
theorem ggX9_now_X9_isSea : GoodIn wsX9_now wsX9_isSea := goodIn_r _ [11, 2, 12, 23, 24, 25, 26, 27, 28, 29, 30, 31, 32, 33, 34, 35, 36, 37, 38, 39, 40, 41, 42, 43, 44, 45, 46, 47, 48, 49, 50] (by decide +kernel) (by decide +kernel)
set_option maxRecDepth 20000 in
theorem gX9_now_X9_isSea : GoodIn wsX9_now (wsV RX9 131 RX9 yX9_isSea wsX9_isSea) := goodIn_app (goodIn_of _ (by decide +kernel)) ggX9_now_X9_isSea
set_option maxRecDepth 20000 in
theorem ggX9_now_X9_takenBy : GoodIn wsX9_now wsX9_takenBy := goodIn_r _ [16, 17, 18, 19, 20, 6, 21, 22, 23, 24, 25, 26, 27, 28, 29, 30, 31, 32, 33, 34, 35, 36, 37, 38, 39, 40, 41, 42, 43, 44, 45, 46, 47, 48, 49, 50] (by decide +kernel) (by decide +kernel)
set_option maxRecDepth 20000 in
theorem gX9_now_X9_takenBy : GoodIn wsX9_now (wsV RX9 134 RX9 yX9_takenBy wsX9_takenBy) := goodIn_app (goodIn_of _ (by decide +kernel)) ggX9_now_X9_takenBy
theorem dX9_now_0 : decode cX9_now 0 = .ok (.aload_n 0, 1) := by decide +kernel
theorem dX9_now_1 : decode cX9_now 1 = .ok (.iconst 0, 1) := by decide +kernel
theorem dX9_now_2 : decode cX9_now 2 = .ok (.putfield 62, 3) := by decide +kernel
theorem dX9_now_5 : decode cX9_now 5 = .ok (.iload_n 1, 1) := by decide +kernel
theorem dX9_now_6 : decode cX9_now 6 = .ok (.iconst 0, 1) := by decide +kernel
theorem dX9_now_7 : decode cX9_now 7 = .ok (.bipush 6, 2) := by decide +kernel
theorem dX9_now_9 : decode cX9_now 9 = .ok (.invokestatic 66, 3) := by decide +kernel
theorem dX9_now_12 : decode cX9_now 12 = .ok (.ifCond .ne 5, 3) := by decide +kernel
theorem dX9_now_15 : decode cX9_now 15 = .ok (.iconst (-1), 1) := by decide +kernel
theorem dX9_now_16 : decode cX9_now 16 = .ok (.ireturn, 1) := by decide +kernel
theorem dX9_now_17 : decode cX9_now 17 = .ok (.iload_n 1, 1) := by decide +kernel
theorem dX9_now_18 : decode cX9_now 18 = .ok (.iconst 3, 1) := by decide +kernel
theorem dX9_now_19 : decode cX9_now 19 = .ok (.if_icmp .ge 10, 3) := by decide +kernel
theorem dX9_now_22 : decode cX9_now 22 = .ok (.aload_n 0, 1) := by decide +kernel
theorem dX9_now_23 : decode cX9_now 23 = .ok (.getfield 31, 3) := by decide +kernel
theorem dX9_now_26 : decode cX9_now 26 = .ok (.iload_n 1, 1) := by decide +kernel
theorem dX9_now_27 : decode cX9_now 27 = .ok (.iaload, 1) := by decide +kernel
theorem dX9_now_28 : decode cX9_now 28 = .ok (.ireturn, 1) := by decide +kernel
theorem dX9_now_29 : decode cX9_now 29 = .ok (.iload_n 1, 1) := by decide +kernel
theorem dX9_now_30 : decode cX9_now 30 = .ok (.iconst 3, 1) := by decide +kernel
theorem dX9_now_31 : decode cX9_now 31 = .ok (.if_icmp .ne 28, 3) := by decide +kernel
theorem dX9_now_34 : decode cX9_now 34 = .ok (.aload_n 0, 1) := by decide +kernel
theorem dX9_now_35 : decode cX9_now 35 = .ok (.getfield 31, 3) := by decide +kernel
theorem dX9_now_38 : decode cX9_now 38 = .ok (.iconst 3, 1) := by decide +kernel
theorem dX9_now_39 : decode cX9_now 39 = .ok (.iaload, 1) := by decide +kernel
theorem dX9_now_40 : decode cX9_now 40 = .ok (.ifCond .ne 8, 3) := by decide +kernel
theorem dX9_now_43 : decode cX9_now 43 = .ok (.bipush (-9), 2) := by decide +kernel
theorem dX9_now_45 : decode cX9_now 45 = .ok (.goto 79, 3) := by decide +kernel
theorem dX9_now_48 : decode cX9_now 48 = .ok (.aload_n 0, 1) := by decide +kernel
theorem dX9_now_49 : decode cX9_now 49 = .ok (.getfield 31, 3) := by decide +kernel
theorem dX9_now_52 : decode cX9_now 52 = .ok (.iconst 3, 1) := by decide +kernel
theorem dX9_now_53 : decode cX9_now 53 = .ok (.iaload, 1) := by decide +kernel
theorem dX9_now_54 : decode cX9_now 54 = .ok (.iconst 1, 1) := by decide +kernel
theorem dX9_now_55 : decode cX9_now 55 = .ok (.isub, 1) := by decide +kernel
theorem dX9_now_56 : decode cX9_now 56 = .ok (.goto 68, 3) := by decide +kernel
theorem dX9_now_59 : decode cX9_now 59 = .ok (.iload_n 1, 1) := by decide +kernel
theorem dX9_now_60 : decode cX9_now 60 = .ok (.iconst 4, 1) := by decide +kernel
theorem dX9_now_61 : decode cX9_now 61 = .ok (.if_icmp .ne 12, 3) := by decide +kernel
theorem dX9_now_64 : decode cX9_now 64 = .ok (.aload_n 0, 1) := by decide +kernel
theorem dX9_now_65 : decode cX9_now 65 = .ok (.getfield 31, 3) := by decide +kernel
theorem dX9_now_68 : decode cX9_now 68 = .ok (.iconst 4, 1) := by decide +kernel
theorem dX9_now_69 : decode cX9_now 69 = .ok (.iaload, 1) := by decide +kernel
theorem dX9_now_70 : decode cX9_now 70 = .ok (.goto 54, 3) := by decide +kernel
theorem dX9_now_73 : decode cX9_now 73 = .ok (.iload_n 1, 1) := by decide +kernel
theorem dX9_now_74 : decode cX9_now 74 = .ok (.bipush 6, 2) := by decide +kernel
theorem dX9_now_76 : decode cX9_now 76 = .ok (.if_icmp .ne 10, 3) := by decide +kernel
theorem dX9_now_79 : decode cX9_now 79 = .ok (.aload_n 0, 1) := by decide +kernel
theorem dX9_now_80 : decode cX9_now 80 = .ok (.getfield 120, 3) := by decide +kernel
theorem dX9_now_83 : decode cX9_now 83 = .ok (.goto 41, 3) := by decide +kernel
theorem dX9_now_86 : decode cX9_now 86 = .ok (.aload_n 0, 1) := by decide +kernel
theorem dX9_now_87 : decode cX9_now 87 = .ok (.invokevirtual 131, 3) := by decide +kernel
theorem dX9_now_90 : decode cX9_now 90 = .ok (.ifCond .eq 8, 3) := by decide +kernel
theorem dX9_now_93 : decode cX9_now 93 = .ok (.bipush (-9), 2) := by decide +kernel
theorem dX9_now_95 : decode cX9_now 95 = .ok (.goto 29, 3) := by decide +kernel
theorem dX9_now_98 : decode cX9_now 98 = .ok (.aload_n 0, 1) := by decide +kernel
theorem dX9_now_99 : decode cX9_now 99 = .ok (.aload_n 0, 1) := by decide +kernel
theorem dX9_now_100 : decode cX9_now 100 = .ok (.getfield 31, 3) := by decide +kernel
theorem dX9_now_103 : decode cX9_now 103 = .ok (.aload_n 0, 1) := by decide +kernel
theorem dX9_now_104 : decode cX9_now 104 = .ok (.getfield 31, 3) := by decide +kernel
theorem dX9_now_107 : decode cX9_now 107 = .ok (.iconst 0, 1) := by decide +kernel
theorem dX9_now_108 : decode cX9_now 108 = .ok (.iaload, 1) := by decide +kernel
theorem dX9_now_109 : decode cX9_now 109 = .ok (.aload_n 0, 1) := by decide +kernel
theorem dX9_now_110 : decode cX9_now 110 = .ok (.getfield 31, 3) := by decide +kernel
theorem dX9_now_113 : decode cX9_now 113 = .ok (.iconst 1, 1) := by decide +kernel
theorem dX9_now_114 : decode cX9_now 114 = .ok (.iaload, 1) := by decide +kernel
theorem dX9_now_115 : decode cX9_now 115 = .ok (.aload_n 0, 1) := by decide +kernel
theorem dX9_now_116 : decode cX9_now 116 = .ok (.getfield 31, 3) := by decide +kernel
theorem dX9_now_119 : decode cX9_now 119 = .ok (.iconst 3, 1) := by decide +kernel
theorem dX9_now_120 : decode cX9_now 120 = .ok (.iaload, 1) := by decide +kernel
theorem dX9_now_121 : decode cX9_now 121 = .ok (.invokevirtual 134, 3) := by decide +kernel
theorem dX9_now_124 : decode cX9_now 124 = .ok (.ireturn, 1) := by decide +kernel
set_option maxRecDepth 20000 in
theorem ggX9_got_X9_in : GoodIn wsX9_got wsX9_in := goodIn_r _ [6] (by decide +kernel) (by decide +kernel)
set_option maxRecDepth 20000 in
theorem gX9_got_X9_in : GoodIn wsX9_got (va_wsS RX9 66 yX9_in wsX9_in) := goodIn_app (goodIn_of _ (by decide +kernel)) ggX9_got_X9_in
theorem dX9_got_0 : decode cX9_got 0 = .ok (.aload_n 0, 1) := by decide +kernel
theorem dX9_got_1 : decode cX9_got 1 = .ok (.iconst 0, 1) := by decide +kernel
theorem dX9_got_2 : decode cX9_got 2 = .ok (.putfield 62, 3) := by decide +kernel
theorem dX9_got_5 : decode cX9_got 5 = .ok (.iload_n 1, 1) := by decide +kernel
theorem dX9_got_6 : decode cX9_got 6 = .ok (.iconst 0, 1) := by decide +kernel
theorem dX9_got_7 : decode cX9_got 7 = .ok (.iconst 3, 1) := by decide +kernel
theorem dX9_got_8 : decode cX9_got 8 = .ok (.invokestatic 66, 3) := by decide +kernel
theorem dX9_got_11 : decode cX9_got 11 = .ok (.ifCond .eq 15, 3) := by decide +kernel
theorem dX9_got_14 : decode cX9_got 14 = .ok (.aload_n 0, 1) := by decide +kernel
theorem dX9_got_15 : decode cX9_got 15 = .ok (.getfield 31, 3) := by decide +kernel
theorem dX9_got_18 : decode cX9_got 18 = .ok (.bipush 14, 2) := by decide +kernel
theorem dX9_got_20 : decode cX9_got 20 = .ok (.iload_n 1, 1) := by decide +kernel
theorem dX9_got_21 : decode cX9_got 21 = .ok (.iadd, 1) := by decide +kernel
theorem dX9_got_22 : decode cX9_got 22 = .ok (.iaload, 1) := by decide +kernel
theorem dX9_got_23 : decode cX9_got 23 = .ok (.goto 4, 3) := by decide +kernel
theorem dX9_got_26 : decode cX9_got 26 = .ok (.iconst (-1), 1) := by decide +kernel
theorem dX9_got_27 : decode cX9_got 27 = .ok (.ireturn, 1) := by decide +kernel
theorem dX9_notes_0 : decode cX9_notes 0 = .ok (.aload_n 0, 1) := by decide +kernel
theorem dX9_notes_1 : decode cX9_notes 1 = .ok (.getfield 120, 3) := by decide +kernel
theorem dX9_notes_4 : decode cX9_notes 4 = .ok (.bipush 10, 2) := by decide +kernel
theorem dX9_notes_6 : decode cX9_notes 6 = .ok (.if_icmp .ne 39, 3) := by decide +kernel
theorem dX9_notes_9 : decode cX9_notes 9 = .ok (.iconst 0, 1) := by decide +kernel
theorem dX9_notes_10 : decode cX9_notes 10 = .ok (.istore_n 1, 1) := by decide +kernel
theorem dX9_notes_11 : decode cX9_notes 11 = .ok (.iload_n 1, 1) := by decide +kernel
theorem dX9_notes_12 : decode cX9_notes 12 = .ok (.sipush 162, 3) := by decide +kernel
theorem dX9_notes_15 : decode cX9_notes 15 = .ok (.if_icmp .ge 24, 3) := by decide +kernel
theorem dX9_notes_18 : decode cX9_notes 18 = .ok (.aload_n 0, 1) := by decide +kernel
theorem dX9_notes_19 : decode cX9_notes 19 = .ok (.getfield 44, 3) := by decide +kernel
theorem dX9_notes_22 : decode cX9_notes 22 = .ok (.iload_n 1, 1) := by decide +kernel
theorem dX9_notes_23 : decode cX9_notes 23 = .ok (.aload_n 0, 1) := by decide +kernel
theorem dX9_notes_24 : decode cX9_notes 24 = .ok (.getfield 44, 3) := by decide +kernel
theorem dX9_notes_27 : decode cX9_notes 27 = .ok (.iload_n 1, 1) := by decide +kernel
theorem dX9_notes_28 : decode cX9_notes 28 = .ok (.bipush 18, 2) := by decide +kernel
theorem dX9_notes_30 : decode cX9_notes 30 = .ok (.iadd, 1) := by decide +kernel
theorem dX9_notes_31 : decode cX9_notes 31 = .ok (.iaload, 1) := by decide +kernel
theorem dX9_notes_32 : decode cX9_notes 32 = .ok (.iastore, 1) := by decide +kernel
theorem dX9_notes_33 : decode cX9_notes 33 = .ok (.iinc 1 1, 3) := by decide +kernel
theorem dX9_notes_36 : decode cX9_notes 36 = .ok (.goto (-25), 3) := by decide +kernel
theorem dX9_notes_39 : decode cX9_notes 39 = .ok (.aload_n 0, 1) := by decide +kernel
theorem dX9_notes_40 : decode cX9_notes 40 = .ok (.bipush 9, 2) := by decide +kernel
theorem dX9_notes_42 : decode cX9_notes 42 = .ok (.putfield 120, 3) := by decide +kernel
theorem dX9_notes_45 : decode cX9_notes 45 = .ok (.iconst 0, 1) := by decide +kernel
theorem dX9_notes_46 : decode cX9_notes 46 = .ok (.istore_n 1, 1) := by decide +kernel
theorem dX9_notes_47 : decode cX9_notes 47 = .ok (.iload_n 1, 1) := by decide +kernel
theorem dX9_notes_48 : decode cX9_notes 48 = .ok (.bipush 18, 2) := by decide +kernel
theorem dX9_notes_50 : decode cX9_notes 50 = .ok (.if_icmp .ge 29, 3) := by decide +kernel
theorem dX9_notes_53 : decode cX9_notes 53 = .ok (.aload_n 0, 1) := by decide +kernel
theorem dX9_notes_54 : decode cX9_notes 54 = .ok (.getfield 44, 3) := by decide +kernel
theorem dX9_notes_57 : decode cX9_notes 57 = .ok (.bipush 18, 2) := by decide +kernel
theorem dX9_notes_59 : decode cX9_notes 59 = .ok (.aload_n 0, 1) := by decide +kernel
theorem dX9_notes_60 : decode cX9_notes 60 = .ok (.getfield 120, 3) := by decide +kernel
theorem dX9_notes_63 : decode cX9_notes 63 = .ok (.imul, 1) := by decide +kernel
theorem dX9_notes_64 : decode cX9_notes 64 = .ok (.iload_n 1, 1) := by decide +kernel
theorem dX9_notes_65 : decode cX9_notes 65 = .ok (.iadd, 1) := by decide +kernel
theorem dX9_notes_66 : decode cX9_notes 66 = .ok (.aload_n 0, 1) := by decide +kernel
theorem dX9_notes_67 : decode cX9_notes 67 = .ok (.getfield 31, 3) := by decide +kernel
theorem dX9_notes_70 : decode cX9_notes 70 = .ok (.iload_n 1, 1) := by decide +kernel
theorem dX9_notes_71 : decode cX9_notes 71 = .ok (.iaload, 1) := by decide +kernel
theorem dX9_notes_72 : decode cX9_notes 72 = .ok (.iastore, 1) := by decide +kernel
theorem dX9_notes_73 : decode cX9_notes 73 = .ok (.iinc 1 1, 3) := by decide +kernel
theorem dX9_notes_76 : decode cX9_notes 76 = .ok (.goto (-29), 3) := by decide +kernel
theorem dX9_notes_79 : decode cX9_notes 79 = .ok (.aload_n 0, 1) := by decide +kernel
theorem dX9_notes_80 : decode cX9_notes 80 = .ok (.dup, 1) := by decide +kernel
theorem dX9_notes_81 : decode cX9_notes 81 = .ok (.getfield 120, 3) := by decide +kernel
theorem dX9_notes_84 : decode cX9_notes 84 = .ok (.iconst 1, 1) := by decide +kernel
theorem dX9_notes_85 : decode cX9_notes 85 = .ok (.iadd, 1) := by decide +kernel
theorem dX9_notes_86 : decode cX9_notes 86 = .ok (.putfield 120, 3) := by decide +kernel
theorem dX9_notes_89 : decode cX9_notes 89 = .ok (.return_, 1) := by decide +kernel
set_option maxRecDepth 20000 in
theorem ggX9_pays_X9_isSea : GoodIn wsX9_pays wsX9_isSea := goodIn_r _ [8, 2, 9, 25, 26, 27, 28, 29, 30, 31, 32, 33, 34, 35, 36, 37, 38, 39, 40, 41, 42, 43, 44, 45, 46, 47, 48, 49, 50, 51, 52] (by decide +kernel) (by decide +kernel)
set_option maxRecDepth 20000 in
theorem gX9_pays_X9_isSea : GoodIn wsX9_pays (wsV RX9 131 RX9 yX9_isSea wsX9_isSea) := goodIn_app (goodIn_of _ (by decide +kernel)) ggX9_pays_X9_isSea
set_option maxRecDepth 20000 in
theorem ggX9_pays_X9_takenBy : GoodIn wsX9_pays wsX9_takenBy := goodIn_r _ [13, 3, 14, 15, 16, 7, 17, 18, 25, 26, 27, 28, 29, 30, 31, 32, 33, 34, 35, 36, 37, 38, 39, 40, 41, 42, 43, 44, 45, 46, 47, 48, 49, 50, 51, 52] (by decide +kernel) (by decide +kernel)
set_option maxRecDepth 20000 in
theorem gX9_pays_X9_takenBy : GoodIn wsX9_pays (wsV RX9 134 RX9 yX9_takenBy wsX9_takenBy) := goodIn_app (goodIn_of _ (by decide +kernel)) ggX9_pays_X9_takenBy
set_option maxRecDepth 20000 in
theorem ggX9_pays_X9_notes : GoodIn wsX9_pays wsX9_notes := goodIn_r _ [22, 23, 24, 2, 25, 26, 27, 28, 29, 30, 31, 32, 33, 34, 35, 36, 37, 38, 39, 40, 41, 42, 43, 44, 45, 46, 47, 48, 49, 50, 51, 52] (by decide +kernel) (by decide +kernel)
set_option maxRecDepth 20000 in
theorem gX9_pays_X9_notes : GoodIn wsX9_pays (wsV RX9 138 RX9 yX9_notes wsX9_notes) := goodIn_app (goodIn_of _ (by decide +kernel)) ggX9_pays_X9_notes
theorem dX9_pays_0 : decode cX9_pays 0 = .ok (.aload_n 0, 1) := by decide +kernel
theorem dX9_pays_1 : decode cX9_pays 1 = .ok (.iconst 0, 1) := by decide +kernel
theorem dX9_pays_2 : decode cX9_pays 2 = .ok (.putfield 62, 3) := by decide +kernel
theorem dX9_pays_5 : decode cX9_pays 5 = .ok (.aload_n 0, 1) := by decide +kernel
theorem dX9_pays_6 : decode cX9_pays 6 = .ok (.invokevirtual 131, 3) := by decide +kernel
theorem dX9_pays_9 : decode cX9_pays 9 = .ok (.ifCond .eq 6, 3) := by decide +kernel
theorem dX9_pays_12 : decode cX9_pays 12 = .ok (.bipush (-2), 2) := by decide +kernel
theorem dX9_pays_14 : decode cX9_pays 14 = .ok (.ireturn, 1) := by decide +kernel
theorem dX9_pays_15 : decode cX9_pays 15 = .ok (.aload_n 0, 1) := by decide +kernel
theorem dX9_pays_16 : decode cX9_pays 16 = .ok (.getfield 31, 3) := by decide +kernel
theorem dX9_pays_19 : decode cX9_pays 19 = .ok (.iconst 0, 1) := by decide +kernel
theorem dX9_pays_20 : decode cX9_pays 20 = .ok (.iaload, 1) := by decide +kernel
theorem dX9_pays_21 : decode cX9_pays 21 = .ok (.istore_n 1, 1) := by decide +kernel
theorem dX9_pays_22 : decode cX9_pays 22 = .ok (.aload_n 0, 1) := by decide +kernel
theorem dX9_pays_23 : decode cX9_pays 23 = .ok (.aload_n 0, 1) := by decide +kernel
theorem dX9_pays_24 : decode cX9_pays 24 = .ok (.getfield 31, 3) := by decide +kernel
theorem dX9_pays_27 : decode cX9_pays 27 = .ok (.iload_n 1, 1) := by decide +kernel
theorem dX9_pays_28 : decode cX9_pays 28 = .ok (.aload_n 0, 1) := by decide +kernel
theorem dX9_pays_29 : decode cX9_pays 29 = .ok (.getfield 31, 3) := by decide +kernel
theorem dX9_pays_32 : decode cX9_pays 32 = .ok (.iconst 1, 1) := by decide +kernel
theorem dX9_pays_33 : decode cX9_pays 33 = .ok (.iaload, 1) := by decide +kernel
theorem dX9_pays_34 : decode cX9_pays 34 = .ok (.aload_n 0, 1) := by decide +kernel
theorem dX9_pays_35 : decode cX9_pays 35 = .ok (.getfield 31, 3) := by decide +kernel
theorem dX9_pays_38 : decode cX9_pays 38 = .ok (.iconst 3, 1) := by decide +kernel
theorem dX9_pays_39 : decode cX9_pays 39 = .ok (.iaload, 1) := by decide +kernel
theorem dX9_pays_40 : decode cX9_pays 40 = .ok (.invokevirtual 134, 3) := by decide +kernel
theorem dX9_pays_43 : decode cX9_pays 43 = .ok (.istore_n 2, 1) := by decide +kernel
theorem dX9_pays_44 : decode cX9_pays 44 = .ok (.iload_n 2, 1) := by decide +kernel
theorem dX9_pays_45 : decode cX9_pays 45 = .ok (.aload_n 0, 1) := by decide +kernel
theorem dX9_pays_46 : decode cX9_pays 46 = .ok (.getfield 31, 3) := by decide +kernel
theorem dX9_pays_49 : decode cX9_pays 49 = .ok (.iconst 2, 1) := by decide +kernel
theorem dX9_pays_50 : decode cX9_pays 50 = .ok (.iaload, 1) := by decide +kernel
theorem dX9_pays_51 : decode cX9_pays 51 = .ok (.if_icmp .le 6, 3) := by decide +kernel
theorem dX9_pays_54 : decode cX9_pays 54 = .ok (.bipush (-2), 2) := by decide +kernel
theorem dX9_pays_56 : decode cX9_pays 56 = .ok (.ireturn, 1) := by decide +kernel
theorem dX9_pays_57 : decode cX9_pays 57 = .ok (.aload_n 0, 1) := by decide +kernel
theorem dX9_pays_58 : decode cX9_pays 58 = .ok (.invokevirtual 138, 3) := by decide +kernel
theorem dX9_pays_61 : decode cX9_pays 61 = .ok (.aload_n 0, 1) := by decide +kernel
theorem dX9_pays_62 : decode cX9_pays 62 = .ok (.getfield 31, 3) := by decide +kernel
theorem dX9_pays_65 : decode cX9_pays 65 = .ok (.iconst 2, 1) := by decide +kernel
theorem dX9_pays_66 : decode cX9_pays 66 = .ok (.dup2, 1) := by decide +kernel
theorem dX9_pays_67 : decode cX9_pays 67 = .ok (.iaload, 1) := by decide +kernel
theorem dX9_pays_68 : decode cX9_pays 68 = .ok (.iload_n 2, 1) := by decide +kernel
theorem dX9_pays_69 : decode cX9_pays 69 = .ok (.isub, 1) := by decide +kernel
theorem dX9_pays_70 : decode cX9_pays 70 = .ok (.iastore, 1) := by decide +kernel
theorem dX9_pays_71 : decode cX9_pays 71 = .ok (.aload_n 0, 1) := by decide +kernel
theorem dX9_pays_72 : decode cX9_pays 72 = .ok (.getfield 31, 3) := by decide +kernel
theorem dX9_pays_75 : decode cX9_pays 75 = .ok (.bipush 14, 2) := by decide +kernel
theorem dX9_pays_77 : decode cX9_pays 77 = .ok (.aload_n 0, 1) := by decide +kernel
theorem dX9_pays_78 : decode cX9_pays 78 = .ok (.getfield 22, 3) := by decide +kernel
theorem dX9_pays_81 : decode cX9_pays 81 = .ok (.iload_n 1, 1) := by decide +kernel
theorem dX9_pays_82 : decode cX9_pays 82 = .ok (.iaload, 1) := by decide +kernel
theorem dX9_pays_83 : decode cX9_pays 83 = .ok (.iadd, 1) := by decide +kernel
theorem dX9_pays_84 : decode cX9_pays 84 = .ok (.dup2, 1) := by decide +kernel
theorem dX9_pays_85 : decode cX9_pays 85 = .ok (.iaload, 1) := by decide +kernel
theorem dX9_pays_86 : decode cX9_pays 86 = .ok (.iload_n 2, 1) := by decide +kernel
theorem dX9_pays_87 : decode cX9_pays 87 = .ok (.iadd, 1) := by decide +kernel
theorem dX9_pays_88 : decode cX9_pays 88 = .ok (.iastore, 1) := by decide +kernel
theorem dX9_pays_89 : decode cX9_pays 89 = .ok (.aload_n 0, 1) := by decide +kernel
theorem dX9_pays_90 : decode cX9_pays 90 = .ok (.getfield 31, 3) := by decide +kernel
theorem dX9_pays_93 : decode cX9_pays 93 = .ok (.iconst 3, 1) := by decide +kernel
theorem dX9_pays_94 : decode cX9_pays 94 = .ok (.iload_n 2, 1) := by decide +kernel
theorem dX9_pays_95 : decode cX9_pays 95 = .ok (.ifCond .le 14, 3) := by decide +kernel
theorem dX9_pays_98 : decode cX9_pays 98 = .ok (.aload_n 0, 1) := by decide +kernel
theorem dX9_pays_99 : decode cX9_pays 99 = .ok (.getfield 22, 3) := by decide +kernel
theorem dX9_pays_102 : decode cX9_pays 102 = .ok (.iload_n 1, 1) := by decide +kernel
theorem dX9_pays_103 : decode cX9_pays 103 = .ok (.iaload, 1) := by decide +kernel
theorem dX9_pays_104 : decode cX9_pays 104 = .ok (.iconst 1, 1) := by decide +kernel
theorem dX9_pays_105 : decode cX9_pays 105 = .ok (.iadd, 1) := by decide +kernel
theorem dX9_pays_106 : decode cX9_pays 106 = .ok (.goto 4, 3) := by decide +kernel
theorem dX9_pays_109 : decode cX9_pays 109 = .ok (.iconst 0, 1) := by decide +kernel
theorem dX9_pays_110 : decode cX9_pays 110 = .ok (.iastore, 1) := by decide +kernel
theorem dX9_pays_111 : decode cX9_pays 111 = .ok (.aload_n 0, 1) := by decide +kernel
theorem dX9_pays_112 : decode cX9_pays 112 = .ok (.getfield 31, 3) := by decide +kernel
theorem dX9_pays_115 : decode cX9_pays 115 = .ok (.iconst 0, 1) := by decide +kernel
theorem dX9_pays_116 : decode cX9_pays 116 = .ok (.dup2, 1) := by decide +kernel
