set_option maxRecDepth 20000 in
theorem ggX0_start_X3_fact : GoodIn wsX0_start wsX3_fact := goodIn_r _ [15, 16, 17, 18, 19, 20, 32, 33, 34, 35, 36] (by decide +kernel) (by decide +kernel)
set_option maxRecDepth 20000 in
theorem gX0_start_X3_fact : GoodIn wsX0_start (wsV RX0 41 RX3 yX3_fact wsX3_fact) := goodIn_app (goodIn_of _ (by decide +kernel)) ggX0_start_X3_fact
set_option maxRecDepth 20000 in
theorem ggX0_start_X5_put : GoodIn wsX0_start wsX5_put := goodIn_r _ [23] (by decide +kernel) (by decide +kernel)
set_option maxRecDepth 20000 in
theorem gX0_start_X5_put : GoodIn wsX0_start (va_wsS RX0 45 yX5_put wsX5_put) := goodIn_app (goodIn_of _ (by decide +kernel)) ggX0_start_X5_put
theorem dX0_start_0 : decode cX0_start 0 = .ok (.aload_n 0, 1) := by decide +kernel
theorem dX0_start_1 : decode cX0_start 1 = .ok (.iconst 0, 1) := by decide +kernel
theorem dX0_start_2 : decode cX0_start 2 = .ok (.putfield 18, 3) := by decide +kernel
theorem dX0_start_5 : decode cX0_start 5 = .ok (.aload_n 0, 1) := by decide +kernel
theorem dX0_start_6 : decode cX0_start 6 = .ok (.aload_n 1, 1) := by decide +kernel
theorem dX0_start_7 : decode cX0_start 7 = .ok (.getfield 22, 3) := by decide +kernel
theorem dX0_start_10 : decode cX0_start 10 = .ok (.putfield 27, 3) := by decide +kernel
theorem dX0_start_13 : decode cX0_start 13 = .ok (.aload_n 0, 1) := by decide +kernel
theorem dX0_start_14 : decode cX0_start 14 = .ok (.aload_n 1, 1) := by decide +kernel
theorem dX0_start_15 : decode cX0_start 15 = .ok (.getfield 28, 3) := by decide +kernel
theorem dX0_start_18 : decode cX0_start 18 = .ok (.putfield 31, 3) := by decide +kernel
theorem dX0_start_21 : decode cX0_start 21 = .ok (.aload_n 0, 1) := by decide +kernel
theorem dX0_start_22 : decode cX0_start 22 = .ok (.bipush (-9), 2) := by decide +kernel
theorem dX0_start_24 : decode cX0_start 24 = .ok (.putfield 32, 3) := by decide +kernel
theorem dX0_start_27 : decode cX0_start 27 = .ok (.aload_n 0, 1) := by decide +kernel
theorem dX0_start_28 : decode cX0_start 28 = .ok (.iconst 0, 1) := by decide +kernel
theorem dX0_start_29 : decode cX0_start 29 = .ok (.putfield 35, 3) := by decide +kernel
theorem dX0_start_32 : decode cX0_start 32 = .ok (.aload_n 0, 1) := by decide +kernel
theorem dX0_start_33 : decode cX0_start 33 = .ok (.iconst 0, 1) := by decide +kernel
theorem dX0_start_34 : decode cX0_start 34 = .ok (.putfield 38, 3) := by decide +kernel
theorem dX0_start_37 : decode cX0_start 37 = .ok (.iconst 0, 1) := by decide +kernel
theorem dX0_start_38 : decode cX0_start 38 = .ok (.istore_n 2, 1) := by decide +kernel
theorem dX0_start_39 : decode cX0_start 39 = .ok (.iload_n 2, 1) := by decide +kernel
theorem dX0_start_40 : decode cX0_start 40 = .ok (.bipush 8, 2) := by decide +kernel
theorem dX0_start_42 : decode cX0_start 42 = .ok (.if_icmp .ge 23, 3) := by decide +kernel
theorem dX0_start_45 : decode cX0_start 45 = .ok (.aload_n 0, 1) := by decide +kernel
theorem dX0_start_46 : decode cX0_start 46 = .ok (.getfield 9, 3) := by decide +kernel
theorem dX0_start_49 : decode cX0_start 49 = .ok (.iload_n 2, 1) := by decide +kernel
theorem dX0_start_50 : decode cX0_start 50 = .ok (.aload_n 1, 1) := by decide +kernel
theorem dX0_start_51 : decode cX0_start 51 = .ok (.iload_n 2, 1) := by decide +kernel
theorem dX0_start_52 : decode cX0_start 52 = .ok (.iconst 0, 1) := by decide +kernel
theorem dX0_start_53 : decode cX0_start 53 = .ok (.invokevirtual 41, 3) := by decide +kernel
theorem dX0_start_56 : decode cX0_start 56 = .ok (.invokestatic 45, 3) := by decide +kernel
theorem dX0_start_59 : decode cX0_start 59 = .ok (.iinc 2 1, 3) := by decide +kernel
theorem dX0_start_62 : decode cX0_start 62 = .ok (.goto (-23), 3) := by decide +kernel
theorem dX0_start_65 : decode cX0_start 65 = .ok (.iconst 0, 1) := by decide +kernel
theorem dX0_start_66 : decode cX0_start 66 = .ok (.istore_n 2, 1) := by decide +kernel
theorem dX0_start_67 : decode cX0_start 67 = .ok (.iload_n 2, 1) := by decide +kernel
theorem dX0_start_68 : decode cX0_start 68 = .ok (.iconst 3, 1) := by decide +kernel
theorem dX0_start_69 : decode cX0_start 69 = .ok (.if_icmp .gt 18, 3) := by decide +kernel
theorem dX0_start_72 : decode cX0_start 72 = .ok (.aload_n 0, 1) := by decide +kernel
theorem dX0_start_73 : decode cX0_start 73 = .ok (.getfield 15, 3) := by decide +kernel
theorem dX0_start_76 : decode cX0_start 76 = .ok (.iload_n 2, 1) := by decide +kernel
theorem dX0_start_77 : decode cX0_start 77 = .ok (.iconst 0, 1) := by decide +kernel
theorem dX0_start_78 : decode cX0_start 78 = .ok (.invokestatic 45, 3) := by decide +kernel
theorem dX0_start_81 : decode cX0_start 81 = .ok (.iinc 2 1, 3) := by decide +kernel
theorem dX0_start_84 : decode cX0_start 84 = .ok (.goto (-17), 3) := by decide +kernel
theorem dX0_start_87 : decode cX0_start 87 = .ok (.return_, 1) := by decide +kernel
set_option maxRecDepth 20000 in
theorem ggX0_become_X5_copy : GoodIn wsX0_become wsX5_copy := goodIn_r _ [12] (by decide +kernel) (by decide +kernel)
set_option maxRecDepth 20000 in
theorem gX0_become_X5_copy : GoodIn wsX0_become (va_wsS RX0 51 yX5_copy wsX5_copy) := goodIn_app (goodIn_of _ (by decide +kernel)) ggX0_become_X5_copy
theorem dX0_become_0 : decode cX0_become 0 = .ok (.aload_n 0, 1) := by decide +kernel
theorem dX0_become_1 : decode cX0_become 1 = .ok (.aload_n 1, 1) := by decide +kernel
theorem dX0_become_2 : decode cX0_become 2 = .ok (.getfield 18, 3) := by decide +kernel
theorem dX0_become_5 : decode cX0_become 5 = .ok (.putfield 18, 3) := by decide +kernel
theorem dX0_become_8 : decode cX0_become 8 = .ok (.aload_n 0, 1) := by decide +kernel
theorem dX0_become_9 : decode cX0_become 9 = .ok (.aload_n 1, 1) := by decide +kernel
theorem dX0_become_10 : decode cX0_become 10 = .ok (.getfield 27, 3) := by decide +kernel
theorem dX0_become_13 : decode cX0_become 13 = .ok (.putfield 27, 3) := by decide +kernel
theorem dX0_become_16 : decode cX0_become 16 = .ok (.aload_n 0, 1) := by decide +kernel
theorem dX0_become_17 : decode cX0_become 17 = .ok (.aload_n 1, 1) := by decide +kernel
theorem dX0_become_18 : decode cX0_become 18 = .ok (.getfield 31, 3) := by decide +kernel
theorem dX0_become_21 : decode cX0_become 21 = .ok (.putfield 31, 3) := by decide +kernel
theorem dX0_become_24 : decode cX0_become 24 = .ok (.aload_n 0, 1) := by decide +kernel
theorem dX0_become_25 : decode cX0_become 25 = .ok (.aload_n 1, 1) := by decide +kernel
theorem dX0_become_26 : decode cX0_become 26 = .ok (.getfield 32, 3) := by decide +kernel
theorem dX0_become_29 : decode cX0_become 29 = .ok (.putfield 32, 3) := by decide +kernel
theorem dX0_become_32 : decode cX0_become 32 = .ok (.aload_n 0, 1) := by decide +kernel
theorem dX0_become_33 : decode cX0_become 33 = .ok (.aload_n 1, 1) := by decide +kernel
theorem dX0_become_34 : decode cX0_become 34 = .ok (.getfield 35, 3) := by decide +kernel
theorem dX0_become_37 : decode cX0_become 37 = .ok (.putfield 35, 3) := by decide +kernel
theorem dX0_become_40 : decode cX0_become 40 = .ok (.aload_n 0, 1) := by decide +kernel
theorem dX0_become_41 : decode cX0_become 41 = .ok (.aload_n 1, 1) := by decide +kernel
theorem dX0_become_42 : decode cX0_become 42 = .ok (.getfield 38, 3) := by decide +kernel
theorem dX0_become_45 : decode cX0_become 45 = .ok (.putfield 38, 3) := by decide +kernel
theorem dX0_become_48 : decode cX0_become 48 = .ok (.aload_n 1, 1) := by decide +kernel
theorem dX0_become_49 : decode cX0_become 49 = .ok (.getfield 9, 3) := by decide +kernel
theorem dX0_become_52 : decode cX0_become 52 = .ok (.aload_n 0, 1) := by decide +kernel
theorem dX0_become_53 : decode cX0_become 53 = .ok (.getfield 9, 3) := by decide +kernel
theorem dX0_become_56 : decode cX0_become 56 = .ok (.invokestatic 51, 3) := by decide +kernel
theorem dX0_become_59 : decode cX0_become 59 = .ok (.aload_n 1, 1) := by decide +kernel
theorem dX0_become_60 : decode cX0_become 60 = .ok (.getfield 15, 3) := by decide +kernel
theorem dX0_become_63 : decode cX0_become 63 = .ok (.aload_n 0, 1) := by decide +kernel
theorem dX0_become_64 : decode cX0_become 64 = .ok (.getfield 15, 3) := by decide +kernel
theorem dX0_become_67 : decode cX0_become 67 = .ok (.invokestatic 51, 3) := by decide +kernel
theorem dX0_become_70 : decode cX0_become 70 = .ok (.return_, 1) := by decide +kernel
theorem dX0_isBroken_0 : decode cX0_isBroken 0 = .ok (.aload_n 0, 1) := by decide +kernel
theorem dX0_isBroken_1 : decode cX0_isBroken 1 = .ok (.getfield 38, 3) := by decide +kernel
theorem dX0_isBroken_4 : decode cX0_isBroken 4 = .ok (.iload_n 1, 1) := by decide +kernel
theorem dX0_isBroken_5 : decode cX0_isBroken 5 = .ok (.ishr, 1) := by decide +kernel
theorem dX0_isBroken_6 : decode cX0_isBroken 6 = .ok (.iconst 1, 1) := by decide +kernel
theorem dX0_isBroken_7 : decode cX0_isBroken 7 = .ok (.iand, 1) := by decide +kernel
theorem dX0_isBroken_8 : decode cX0_isBroken 8 = .ok (.iconst 1, 1) := by decide +kernel
theorem dX0_isBroken_9 : decode cX0_isBroken 9 = .ok (.if_icmp .ne 7, 3) := by decide +kernel
theorem dX0_isBroken_12 : decode cX0_isBroken 12 = .ok (.iconst 1, 1) := by decide +kernel
theorem dX0_isBroken_13 : decode cX0_isBroken 13 = .ok (.goto 4, 3) := by decide +kernel
theorem dX0_isBroken_16 : decode cX0_isBroken 16 = .ok (.iconst 0, 1) := by decide +kernel
theorem dX0_isBroken_17 : decode cX0_isBroken 17 = .ok (.ireturn, 1) := by decide +kernel
set_option maxRecDepth 20000 in
theorem ggX0_tollOf_X5_get : GoodIn wsX0_tollOf wsX5_get := goodIn_r _ [5] (by decide +kernel) (by decide +kernel)
set_option maxRecDepth 20000 in
theorem gX0_tollOf_X5_get : GoodIn wsX0_tollOf (va_wsS RX0 55 yX5_get wsX5_get) := goodIn_app (goodIn_of _ (by decide +kernel)) ggX0_tollOf_X5_get
theorem dX0_tollOf_0 : decode cX0_tollOf 0 = .ok (.aload_n 0, 1) := by decide +kernel
theorem dX0_tollOf_1 : decode cX0_tollOf 1 = .ok (.getfield 9, 3) := by decide +kernel
theorem dX0_tollOf_4 : decode cX0_tollOf 4 = .ok (.iload_n 1, 1) := by decide +kernel
theorem dX0_tollOf_5 : decode cX0_tollOf 5 = .ok (.invokestatic 55, 3) := by decide +kernel
theorem dX0_tollOf_8 : decode cX0_tollOf 8 = .ok (.ireturn, 1) := by decide +kernel
set_option maxRecDepth 20000 in
theorem ggX1_init_X0_init : GoodIn wsX1_init wsX0_init := goodIn_r _ [12, 13, 2, 3, 14, 15, 16, 20, 21, 22, 23, 24, 25, 26, 27] (by decide +kernel) (by decide +kernel)
set_option maxRecDepth 20000 in
theorem gX1_init_X0_init : GoodIn wsX1_init (wsX0_init) := ggX1_init_X0_init
theorem dX1_init_0 : decode cX1_init 0 = .ok (.aload_n 0, 1) := by decide +kernel
theorem dX1_init_1 : decode cX1_init 1 = .ok (.invokespecial 3, 3) := by decide +kernel
theorem dX1_init_4 : decode cX1_init 4 = .ok (.aload_n 0, 1) := by decide +kernel
theorem dX1_init_5 : decode cX1_init 5 = .ok (.bipush 10, 2) := by decide +kernel
theorem dX1_init_7 : decode cX1_init 7 = .ok (.anewarray 9, 3) := by decide +kernel
theorem dX1_init_10 : decode cX1_init 10 = .ok (.putfield 11, 3) := by decide +kernel
theorem dX1_init_13 : decode cX1_init 13 = .ok (.iconst 0, 1) := by decide +kernel
theorem dX1_init_14 : decode cX1_init 14 = .ok (.istore_n 1, 1) := by decide +kernel
theorem dX1_init_15 : decode cX1_init 15 = .ok (.iload_n 1, 1) := by decide +kernel
theorem dX1_init_16 : decode cX1_init 16 = .ok (.bipush 10, 2) := by decide +kernel
theorem dX1_init_18 : decode cX1_init 18 = .ok (.if_icmp .ge 31, 3) := by decide +kernel
theorem dX1_init_21 : decode cX1_init 21 = .ok (.iload_n 1, 1) := by decide +kernel
theorem dX1_init_22 : decode cX1_init 22 = .ok (.aload_n 0, 1) := by decide +kernel
theorem dX1_init_23 : decode cX1_init 23 = .ok (.getfield 11, 3) := by decide +kernel
theorem dX1_init_26 : decode cX1_init 26 = .ok (.arraylength, 1) := by decide +kernel
theorem dX1_init_27 : decode cX1_init 27 = .ok (.if_icmp .ge 22, 3) := by decide +kernel
theorem dX1_init_30 : decode cX1_init 30 = .ok (.aload_n 0, 1) := by decide +kernel
theorem dX1_init_31 : decode cX1_init 31 = .ok (.getfield 11, 3) := by decide +kernel
theorem dX1_init_34 : decode cX1_init 34 = .ok (.iload_n 1, 1) := by decide +kernel
theorem dX1_init_35 : decode cX1_init 35 = .ok (.new 9, 3) := by decide +kernel
theorem dX1_init_38 : decode cX1_init 38 = .ok (.dup, 1) := by decide +kernel
theorem dX1_init_39 : decode cX1_init 39 = .ok (.invokespecial 17, 3) := by decide +kernel
theorem dX1_init_42 : decode cX1_init 42 = .ok (.aastore, 1) := by decide +kernel
theorem dX1_init_43 : decode cX1_init 43 = .ok (.iinc 1 1, 3) := by decide +kernel
theorem dX1_init_46 : decode cX1_init 46 = .ok (.goto (-31), 3) := by decide +kernel
theorem dX1_init_49 : decode cX1_init 49 = .ok (.aload_n 0, 1) := by decide +kernel
theorem dX1_init_50 : decode cX1_init 50 = .ok (.iconst 0, 1) := by decide +kernel
theorem dX1_init_51 : decode cX1_init 51 = .ok (.putfield 18, 3) := by decide +kernel
theorem dX1_init_54 : decode cX1_init 54 = .ok (.aload_n 0, 1) := by decide +kernel
theorem dX1_init_55 : decode cX1_init 55 = .ok (.iconst 0, 1) := by decide +kernel
theorem dX1_init_56 : decode cX1_init 56 = .ok (.putfield 22, 3) := by decide +kernel
theorem dX1_init_59 : decode cX1_init 59 = .ok (.return_, 1) := by decide +kernel
theorem dX1_forgetAll_0 : decode cX1_forgetAll 0 = .ok (.aload_n 0, 1) := by decide +kernel
theorem dX1_forgetAll_1 : decode cX1_forgetAll 1 = .ok (.iconst 0, 1) := by decide +kernel
theorem dX1_forgetAll_2 : decode cX1_forgetAll 2 = .ok (.putfield 18, 3) := by decide +kernel
theorem dX1_forgetAll_5 : decode cX1_forgetAll 5 = .ok (.return_, 1) := by decide +kernel
set_option maxRecDepth 20000 in
theorem ggX1_remember_X1_boatAt : GoodIn wsX1_remember wsX1_boatAt := goodIn_r _ [11, 12, 30, 31, 32] (by decide +kernel) (by decide +kernel)
set_option maxRecDepth 20000 in
theorem gX1_remember_X1_boatAt : GoodIn wsX1_remember (wsV RX1 25 RX1 yX1_boatAt wsX1_boatAt) := goodIn_app (goodIn_of _ (by decide +kernel)) ggX1_remember_X1_boatAt
set_option maxRecDepth 20000 in
theorem ggX1_remember_X0_become : GoodIn wsX1_remember wsX0_become := goodIn_r _ [17, 18, 19, 20, 21, 22, 23, 24, 25, 26, 27, 28, 29, 33, 34, 35, 36, 37, 38, 39, 40] (by decide +kernel) (by decide +kernel)
set_option maxRecDepth 20000 in
theorem gX1_remember_X0_become : GoodIn wsX1_remember (wsV RX1 29 RX0 yX0_become wsX0_become) := goodIn_app (goodIn_of _ (by decide +kernel)) ggX1_remember_X0_become
theorem dX1_remember_0 : decode cX1_remember 0 = .ok (.aload_n 0, 1) := by decide +kernel
theorem dX1_remember_1 : decode cX1_remember 1 = .ok (.aload_n 0, 1) := by decide +kernel
theorem dX1_remember_2 : decode cX1_remember 2 = .ok (.getfield 22, 3) := by decide +kernel
theorem dX1_remember_5 : decode cX1_remember 5 = .ok (.invokevirtual 25, 3) := by decide +kernel
theorem dX1_remember_8 : decode cX1_remember 8 = .ok (.astore_n 2, 1) := by decide +kernel
theorem dX1_remember_9 : decode cX1_remember 9 = .ok (.aload_n 2, 1) := by decide +kernel
theorem dX1_remember_10 : decode cX1_remember 10 = .ok (.ifnonnull 4, 3) := by decide +kernel
theorem dX1_remember_13 : decode cX1_remember 13 = .ok (.return_, 1) := by decide +kernel
theorem dX1_remember_14 : decode cX1_remember 14 = .ok (.aload_n 2, 1) := by decide +kernel
theorem dX1_remember_15 : decode cX1_remember 15 = .ok (.aload_n 1, 1) := by decide +kernel
theorem dX1_remember_16 : decode cX1_remember 16 = .ok (.invokevirtual 29, 3) := by decide +kernel
theorem dX1_remember_19 : decode cX1_remember 19 = .ok (.aload_n 0, 1) := by decide +kernel
theorem dX1_remember_20 : decode cX1_remember 20 = .ok (.aload_n 0, 1) := by decide +kernel
theorem dX1_remember_21 : decode cX1_remember 21 = .ok (.getfield 22, 3) := by decide +kernel
theorem dX1_remember_24 : decode cX1_remember 24 = .ok (.iconst 1, 1) := by decide +kernel
theorem dX1_remember_25 : decode cX1_remember 25 = .ok (.iadd, 1) := by decide +kernel
theorem dX1_remember_26 : decode cX1_remember 26 = .ok (.bipush 10, 2) := by decide +kernel
theorem dX1_remember_28 : decode cX1_remember 28 = .ok (.irem, 1) := by decide +kernel
theorem dX1_remember_29 : decode cX1_remember 29 = .ok (.putfield 22, 3) := by decide +kernel
theorem dX1_remember_32 : decode cX1_remember 32 = .ok (.aload_n 0, 1) := by decide +kernel
theorem dX1_remember_33 : decode cX1_remember 33 = .ok (.aload_n 0, 1) := by decide +kernel
theorem dX1_remember_34 : decode cX1_remember 34 = .ok (.getfield 18, 3) := by decide +kernel
theorem dX1_remember_37 : decode cX1_remember 37 = .ok (.iconst 1, 1) := by decide +kernel
theorem dX1_remember_38 : decode cX1_remember 38 = .ok (.iadd, 1) := by decide +kernel
theorem dX1_remember_39 : decode cX1_remember 39 = .ok (.bipush 10, 2) := by decide +kernel
theorem dX1_remember_41 : decode cX1_remember 41 = .ok (.invokestatic 33, 3) := by decide +kernel
theorem dX1_remember_44 : decode cX1_remember 44 = .ok (.putfield 18, 3) := by decide +kernel
theorem dX1_remember_47 : decode cX1_remember 47 = .ok (.return_, 1) := by decide +kernel
set_option maxRecDepth 20000 in
theorem ggX1_restore_X1_boatAt : GoodIn wsX1_restore wsX1_boatAt := goodIn_r _ [7, 8, 26, 27, 28] (by decide +kernel) (by decide +kernel)
set_option maxRecDepth 20000 in
theorem gX1_restore_X1_boatAt : GoodIn wsX1_restore (wsV RX1 25 RX1 yX1_boatAt wsX1_boatAt) := goodIn_app (goodIn_of _ (by decide +kernel)) ggX1_restore_X1_boatAt
set_option maxRecDepth 20000 in
theorem ggX1_restore_X0_become : GoodIn wsX1_restore wsX0_become := goodIn_r _ [13, 14, 15, 16, 17, 18, 19, 20, 21, 22, 23, 24, 25, 29, 30, 31, 32, 33, 34, 35, 36] (by decide +kernel) (by decide +kernel)
set_option maxRecDepth 20000 in
theorem gX1_restore_X0_become : GoodIn wsX1_restore (wsV RX1 29 RX0 yX0_become wsX0_become) := goodIn_app (goodIn_of _ (by decide +kernel)) ggX1_restore_X0_become
theorem dX1_restore_0 : decode cX1_restore 0 = .ok (.aload_n 0, 1) := by decide +kernel
theorem dX1_restore_1 : decode cX1_restore 1 = .ok (.getfield 22, 3) := by decide +kernel
theorem dX1_restore_4 : decode cX1_restore 4 = .ok (.bipush 10, 2) := by decide +kernel
theorem dX1_restore_6 : decode cX1_restore 6 = .ok (.iadd, 1) := by decide +kernel
theorem dX1_restore_7 : decode cX1_restore 7 = .ok (.iconst 1, 1) := by decide +kernel
theorem dX1_restore_8 : decode cX1_restore 8 = .ok (.isub, 1) := by decide +kernel
theorem dX1_restore_9 : decode cX1_restore 9 = .ok (.bipush 10, 2) := by decide +kernel
theorem dX1_restore_11 : decode cX1_restore 11 = .ok (.irem, 1) := by decide +kernel
theorem dX1_restore_12 : decode cX1_restore 12 = .ok (.istore_n 2, 1) := by decide +kernel
theorem dX1_restore_13 : decode cX1_restore 13 = .ok (.aload_n 0, 1) := by decide +kernel
theorem dX1_restore_14 : decode cX1_restore 14 = .ok (.iload_n 2, 1) := by decide +kernel
theorem dX1_restore_15 : decode cX1_restore 15 = .ok (.invokevirtual 25, 3) := by decide +kernel
theorem dX1_restore_18 : decode cX1_restore 18 = .ok (.astore_n 3, 1) := by decide +kernel
theorem dX1_restore_19 : decode cX1_restore 19 = .ok (.aload_n 3, 1) := by decide +kernel
theorem dX1_restore_20 : decode cX1_restore 20 = .ok (.ifnull 10, 3) := by decide +kernel
theorem dX1_restore_23 : decode cX1_restore 23 = .ok (.aload_n 0, 1) := by decide +kernel
theorem dX1_restore_24 : decode cX1_restore 24 = .ok (.getfield 18, 3) := by decide +kernel
theorem dX1_restore_27 : decode cX1_restore 27 = .ok (.ifCond .ne 4, 3) := by decide +kernel
theorem dX1_restore_30 : decode cX1_restore 30 = .ok (.return_, 1) := by decide +kernel
theorem dX1_restore_31 : decode cX1_restore 31 = .ok (.aload_n 1, 1) := by decide +kernel
theorem dX1_restore_32 : decode cX1_restore 32 = .ok (.aload_n 3, 1) := by decide +kernel
theorem dX1_restore_33 : decode cX1_restore 33 = .ok (.invokevirtual 29, 3) := by decide +kernel
theorem dX1_restore_36 : decode cX1_restore 36 = .ok (.aload_n 0, 1) := by decide +kernel
theorem dX1_restore_37 : decode cX1_restore 37 = .ok (.iload_n 2, 1) := by decide +kernel
theorem dX1_restore_38 : decode cX1_restore 38 = .ok (.putfield 22, 3) := by decide +kernel
theorem dX1_restore_41 : decode cX1_restore 41 = .ok (.aload_n 0, 1) := by decide +kernel
theorem dX1_restore_42 : decode cX1_restore 42 = .ok (.dup, 1) := by decide +kernel
theorem dX1_restore_43 : decode cX1_restore 43 = .ok (.getfield 18, 3) := by decide +kernel
theorem dX1_restore_46 : decode cX1_restore 46 = .ok (.iconst 1, 1) := by decide +kernel
theorem dX1_restore_47 : decode cX1_restore 47 = .ok (.isub, 1) := by decide +kernel
theorem dX1_restore_48 : decode cX1_restore 48 = .ok (.putfield 18, 3) := by decide +kernel
theorem dX1_restore_51 : decode cX1_restore 51 = .ok (.return_, 1) := by decide +kernel
theorem dX1_boatAt_0 : decode cX1_boatAt 0 = .ok (.iload_n 1, 1) := by decide +kernel
theorem dX1_boatAt_1 : decode cX1_boatAt 1 = .ok (.ifCond .lt 21, 3) := by decide +kernel
theorem dX1_boatAt_4 : decode cX1_boatAt 4 = .ok (.iload_n 1, 1) := by decide +kernel
theorem dX1_boatAt_5 : decode cX1_boatAt 5 = .ok (.aload_n 0, 1) := by decide +kernel
theorem dX1_boatAt_6 : decode cX1_boatAt 6 = .ok (.getfield 11, 3) := by decide +kernel
theorem dX1_boatAt_9 : decode cX1_boatAt 9 = .ok (.arraylength, 1) := by decide +kernel
theorem dX1_boatAt_10 : decode cX1_boatAt 10 = .ok (.if_icmp .ge 12, 3) := by decide +kernel
theorem dX1_boatAt_13 : decode cX1_boatAt 13 = .ok (.aload_n 0, 1) := by decide +kernel
theorem dX1_boatAt_14 : decode cX1_boatAt 14 = .ok (.getfield 11, 3) := by decide +kernel
theorem dX1_boatAt_17 : decode cX1_boatAt 17 = .ok (.iload_n 1, 1) := by decide +kernel
theorem dX1_boatAt_18 : decode cX1_boatAt 18 = .ok (.aaload, 1) := by decide +kernel
theorem dX1_boatAt_19 : decode cX1_boatAt 19 = .ok (.goto 4, 3) := by decide +kernel
theorem dX1_boatAt_22 : decode cX1_boatAt 22 = .ok (.aconst_null, 1) := by decide +kernel
theorem dX1_boatAt_23 : decode cX1_boatAt 23 = .ok (.areturn, 1) := by decide +kernel
theorem dX2_init_0 : decode cX2_init 0 = .ok (.aload_n 0, 1) := by decide +kernel
theorem dX2_init_1 : decode cX2_init 1 = .ok (.invokespecial 3, 3) := by decide +kernel
theorem dX2_init_4 : decode cX2_init 4 = .ok (.aload_n 0, 1) := by decide +kernel
theorem dX2_init_5 : decode cX2_init 5 = .ok (.aload_n 1, 1) := by decide +kernel
theorem dX2_init_6 : decode cX2_init 6 = .ok (.putfield 9, 3) := by decide +kernel
theorem dX2_init_9 : decode cX2_init 9 = .ok (.return_, 1) := by decide +kernel
set_option maxRecDepth 20000 in
theorem ggX2_read_X3_untell : GoodIn wsX2_read wsX3_untell := goodIn_r _ [11, 12, 13, 14, 15, 88, 89, 90, 91, 92] (by decide +kernel) (by decide +kernel)
set_option maxRecDepth 20000 in
theorem gX2_read_X3_untell : GoodIn wsX2_read (wsV RX2 15 RX3 yX3_untell wsX3_untell) := goodIn_app (goodIn_of _ (by decide +kernel)) ggX2_read_X3_untell
set_option maxRecDepth 20000 in
theorem ggX2_read_X2_readToken : GoodIn wsX2_read wsX2_readToken := goodIn_r _ [20, 1, 21, 22, 5, 4, 23, 24, 25, 26, 27, 28, 29, 30, 19, 31, 32, 33, 34, 35, 36, 37, 38, 39, 40, 41, 42, 43, 81, 82, 83, 84, 85, 86, 87, 93, 94] (by decide +kernel) (by decide +kernel)
set_option maxRecDepth 20000 in
theorem gX2_read_X2_readToken : GoodIn wsX2_read (wsV RX2 31 RX2 yX2_readToken wsX2_readToken) := goodIn_app (goodIn_of _ (by decide +kernel)) ggX2_read_X2_readToken
set_option maxRecDepth 20000 in
theorem ggX2_read_X2_readRock : GoodIn wsX2_read wsX2_readRock := goodIn_r _ [47, 48, 49, 50, 36, 51, 52, 53, 54, 55, 56, 57, 19, 58, 4, 16, 17, 18, 20, 1, 21, 22, 5, 23, 24, 25, 26, 27, 28, 29, 30, 31, 32, 33, 34, 35, 37, 38, 39, 40, 41, 42, 43, 59, 60, 61, 10, 62, 63, 64, 65, 66, 67, 68, 69, 70, 88, 89, 90, 91, 92, 81, 82, 83, 84, 85, 86, 87, 93, 94] (by decide +kernel) (by decide +kernel)
set_option maxRecDepth 20000 in
theorem gX2_read_X2_readRock : GoodIn wsX2_read (wsV RX2 37 RX2 yX2_readRock wsX2_readRock) := goodIn_app (goodIn_of _ (by decide +kernel)) ggX2_read_X2_readRock
set_option maxRecDepth 20000 in
theorem ggX2_read_X2_readBarrels : GoodIn wsX2_read wsX2_readBarrels := goodIn_r _ [74, 2, 36, 75, 55, 56, 57, 19, 58, 4, 16, 17, 18, 20, 1, 21, 22, 5, 23, 24, 25, 26, 27, 28, 29, 30, 31, 32, 33, 34, 35, 37, 38, 39, 40, 41, 42, 43, 67, 68, 69, 70, 81, 82, 83, 84, 85, 86, 87, 88, 89, 90, 91, 92, 93, 94] (by decide +kernel) (by decide +kernel)
set_option maxRecDepth 20000 in
theorem gX2_read_X2_readBarrels : GoodIn wsX2_read (wsV RX2 41 RX2 yX2_readBarrels wsX2_readBarrels) := goodIn_app (goodIn_of _ (by decide +kernel)) ggX2_read_X2_readBarrels
set_option maxRecDepth 20000 in
theorem ggX2_read_X2_readCoins : GoodIn wsX2_read wsX2_readCoins := goodIn_r _ [79, 3, 36, 80, 55, 56, 57, 19, 58, 4, 16, 17, 18, 20, 1, 21, 22, 5, 23, 24, 25, 26, 27, 28, 29, 30, 31, 32, 33, 34, 35, 37, 38, 39, 40, 41, 42, 43, 67, 68, 69, 70, 81, 82, 83, 84, 85, 86, 87, 88, 89, 90, 91, 92, 93, 94] (by decide +kernel) (by decide +kernel)
set_option maxRecDepth 20000 in
theorem gX2_read_X2_readCoins : GoodIn wsX2_read (wsV RX2 44 RX2 yX2_readCoins wsX2_readCoins) := goodIn_app (goodIn_of _ (by decide +kernel)) ggX2_read_X2_readCoins
theorem dX2_read_0 : decode cX2_read 0 = .ok (.aload_n 1, 1) := by decide +kernel
theorem dX2_read_1 : decode cX2_read 1 = .ok (.invokevirtual 15, 3) := by decide +kernel
theorem dX2_read_4 : decode cX2_read 4 = .ok (.aload_n 0, 1) := by decide +kernel
theorem dX2_read_5 : decode cX2_read 5 = .ok (.iconst 0, 1) := by decide +kernel
theorem dX2_read_6 : decode cX2_read 6 = .ok (.putfield 20, 3) := by decide +kernel
theorem dX2_read_9 : decode cX2_read 9 = .ok (.aload_n 0, 1) := by decide +kernel
theorem dX2_read_10 : decode cX2_read 10 = .ok (.iconst 0, 1) := by decide +kernel
theorem dX2_read_11 : decode cX2_read 11 = .ok (.putfield 24, 3) := by decide +kernel
theorem dX2_read_14 : decode cX2_read 14 = .ok (.aload_n 0, 1) := by decide +kernel
theorem dX2_read_15 : decode cX2_read 15 = .ok (.iconst 0, 1) := by decide +kernel
theorem dX2_read_16 : decode cX2_read 16 = .ok (.putfield 28, 3) := by decide +kernel
theorem dX2_read_19 : decode cX2_read 19 = .ok (.iconst 0, 1) := by decide +kernel
theorem dX2_read_20 : decode cX2_read 20 = .ok (.istore_n 2, 1) := by decide +kernel
theorem dX2_read_21 : decode cX2_read 21 = .ok (.iload_n 2, 1) := by decide +kernel
theorem dX2_read_22 : decode cX2_read 22 = .ok (.bipush 10, 2) := by decide +kernel
theorem dX2_read_24 : decode cX2_read 24 = .ok (.if_icmp .gt 97, 3) := by decide +kernel
theorem dX2_read_27 : decode cX2_read 27 = .ok (.aload_n 0, 1) := by decide +kernel
theorem dX2_read_28 : decode cX2_read 28 = .ok (.invokevirtual 31, 3) := by decide +kernel
theorem dX2_read_31 : decode cX2_read 31 = .ok (.aload_n 0, 1) := by decide +kernel
theorem dX2_read_32 : decode cX2_read 32 = .ok (.getfield 34, 3) := by decide +kernel
theorem dX2_read_35 : decode cX2_read 35 = .ok (.iconst (-1), 1) := by decide +kernel
theorem dX2_read_36 : decode cX2_read 36 = .ok (.if_icmp .ne 5, 3) := by decide +kernel
theorem dX2_read_39 : decode cX2_read 39 = .ok (.iconst (-1), 1) := by decide +kernel
theorem dX2_read_40 : decode cX2_read 40 = .ok (.ireturn, 1) := by decide +kernel
theorem dX2_read_41 : decode cX2_read 41 = .ok (.aload_n 0, 1) := by decide +kernel
theorem dX2_read_42 : decode cX2_read 42 = .ok (.getfield 34, 3) := by decide +kernel
theorem dX2_read_45 : decode cX2_read 45 = .ok (.istore_n 3, 1) := by decide +kernel
theorem dX2_read_46 : decode cX2_read 46 = .ok (.iload_n 3, 1) := by decide +kernel
theorem dX2_read_47 : decode cX2_read 47 = .ok (.bipush 114, 2) := by decide +kernel
theorem dX2_read_49 : decode cX2_read 49 = .ok (.if_icmp .ne 11, 3) := by decide +kernel
theorem dX2_read_52 : decode cX2_read 52 = .ok (.aload_n 0, 1) := by decide +kernel
theorem dX2_read_53 : decode cX2_read 53 = .ok (.aload_n 1, 1) := by decide +kernel
theorem dX2_read_54 : decode cX2_read 54 = .ok (.invokevirtual 37, 3) := by decide +kernel
theorem dX2_read_57 : decode cX2_read 57 = .ok (.ifCond .ne 31, 3) := by decide +kernel
theorem dX2_read_60 : decode cX2_read 60 = .ok (.iload_n 3, 1) := by decide +kernel
theorem dX2_read_61 : decode cX2_read 61 = .ok (.bipush 98, 2) := by decide +kernel
theorem dX2_read_63 : decode cX2_read 63 = .ok (.if_icmp .ne 11, 3) := by decide +kernel
theorem dX2_read_66 : decode cX2_read 66 = .ok (.aload_n 0, 1) := by decide +kernel
theorem dX2_read_67 : decode cX2_read 67 = .ok (.aload_n 1, 1) := by decide +kernel
theorem dX2_read_68 : decode cX2_read 68 = .ok (.invokevirtual 41, 3) := by decide +kernel
theorem dX2_read_71 : decode cX2_read 71 = .ok (.ifCond .ne 17, 3) := by decide +kernel
theorem dX2_read_74 : decode cX2_read 74 = .ok (.iload_n 3, 1) := by decide +kernel
theorem dX2_read_75 : decode cX2_read 75 = .ok (.bipush 99, 2) := by decide +kernel
theorem dX2_read_77 : decode cX2_read 77 = .ok (.if_icmp .ne 15, 3) := by decide +kernel
theorem dX2_read_80 : decode cX2_read 80 = .ok (.aload_n 0, 1) := by decide +kernel
theorem dX2_read_81 : decode cX2_read 81 = .ok (.aload_n 1, 1) := by decide +kernel
theorem dX2_read_82 : decode cX2_read 82 = .ok (.invokevirtual 44, 3) := by decide +kernel
theorem dX2_read_85 : decode cX2_read 85 = .ok (.ifCond .eq 7, 3) := by decide +kernel
theorem dX2_read_88 : decode cX2_read 88 = .ok (.iconst 1, 1) := by decide +kernel
theorem dX2_read_89 : decode cX2_read 89 = .ok (.goto 4, 3) := by decide +kernel
theorem dX2_read_92 : decode cX2_read 92 = .ok (.iconst 0, 1) := by decide +kernel
theorem dX2_read_93 : decode cX2_read 93 = .ok (.istore 4, 2) := by decide +kernel
theorem dX2_read_95 : decode cX2_read 95 = .ok (.iload 4, 2) := by decide +kernel
theorem dX2_read_97 : decode cX2_read 97 = .ok (.ifCond .ne 8, 3) := by decide +kernel
theorem dX2_read_100 : decode cX2_read 100 = .ok (.aload_n 0, 1) := by decide +kernel
theorem dX2_read_101 : decode cX2_read 101 = .ok (.getfield 47, 3) := by decide +kernel
theorem dX2_read_104 : decode cX2_read 104 = .ok (.ireturn, 1) := by decide +kernel
theorem dX2_read_105 : decode cX2_read 105 = .ok (.aload_n 1, 1) := by decide +kernel
theorem dX2_read_106 : decode cX2_read 106 = .ok (.dup, 1) := by decide +kernel
theorem dX2_read_107 : decode cX2_read 107 = .ok (.getfield 50, 3) := by decide +kernel
theorem dX2_read_110 : decode cX2_read 110 = .ok (.iconst 1, 1) := by decide +kernel
theorem dX2_read_111 : decode cX2_read 111 = .ok (.iadd, 1) := by decide +kernel
theorem dX2_read_112 : decode cX2_read 112 = .ok (.putfield 50, 3) := by decide +kernel
theorem dX2_read_115 : decode cX2_read 115 = .ok (.iinc 2 1, 3) := by decide +kernel
theorem dX2_read_118 : decode cX2_read 118 = .ok (.goto (-97), 3) := by decide +kernel
theorem dX2_read_121 : decode cX2_read 121 = .ok (.aload_n 0, 1) := by decide +kernel
theorem dX2_read_122 : decode cX2_read 122 = .ok (.getfield 47, 3) := by decide +kernel
theorem dX2_read_125 : decode cX2_read 125 = .ok (.ireturn, 1) := by decide +kernel
set_option maxRecDepth 20000 in
theorem ggX2_readRock_X5_get : GoodIn wsX2_readRock wsX5_get := goodIn_r _ [8] (by decide +kernel) (by decide +kernel)
set_option maxRecDepth 20000 in
theorem gX2_readRock_X5_get : GoodIn wsX2_readRock (va_wsS RX2 60 yX5_get wsX5_get) := goodIn_app (goodIn_of _ (by decide +kernel)) ggX2_readRock_X5_get
set_option maxRecDepth 20000 in
theorem ggX2_readRock_X2_readNumber : GoodIn wsX2_readRock wsX2_readNumber := goodIn_r _ [13, 14, 4, 15, 16, 17, 12, 18, 19, 20, 21, 22, 23, 24, 25, 26, 27, 28, 29, 30, 31, 32, 33, 34, 35, 36, 37, 38, 39, 40, 41, 42, 61, 62, 63, 64, 65, 66, 67, 68, 69] (by decide +kernel) (by decide +kernel)
set_option maxRecDepth 20000 in
theorem gX2_readRock_X2_readNumber : GoodIn wsX2_readRock (wsV RX2 69 RX2 yX2_readNumber wsX2_readNumber) := goodIn_app (goodIn_of _ (by decide +kernel)) ggX2_readRock_X2_readNumber
set_option maxRecDepth 20000 in
theorem ggX2_readRock_X3_tell : GoodIn wsX2_readRock wsX3_tell := goodIn_r _ [47, 48, 49, 50, 7, 51, 56, 57, 58, 59, 60] (by decide +kernel) (by decide +kernel)
set_option maxRecDepth 20000 in
theorem gX2_readRock_X3_tell : GoodIn wsX2_readRock (wsV RX2 76 RX3 yX3_tell wsX3_tell) := goodIn_app (goodIn_of _ (by decide +kernel)) ggX2_readRock_X3_tell
set_option maxRecDepth 20000 in
theorem ggX2_readRock_X2_readEnd : GoodIn wsX2_readRock wsX2_readEnd := goodIn_r _ [55, 14, 15, 16, 17, 12, 18, 19, 20, 21, 22, 23, 24, 25, 26, 27, 28, 29, 30, 31, 32, 33, 34, 35, 4, 36, 37, 38, 39, 40, 41, 42, 61, 62, 63, 64, 65, 66, 67, 68, 69] (by decide +kernel) (by decide +kernel)
set_option maxRecDepth 20000 in
theorem gX2_readRock_X2_readEnd : GoodIn wsX2_readRock (wsV RX2 80 RX2 yX2_readEnd wsX2_readEnd) := goodIn_app (goodIn_of _ (by decide +kernel)) ggX2_readRock_X2_readEnd
theorem dX2_readRock_0 : decode cX2_readRock 0 = .ok (.aload_n 1, 1) := by decide +kernel
theorem dX2_readRock_1 : decode cX2_readRock 1 = .ok (.getfield 53, 3) := by decide +kernel
theorem dX2_readRock_4 : decode cX2_readRock 4 = .ok (.bipush 8, 2) := by decide +kernel
theorem dX2_readRock_6 : decode cX2_readRock 6 = .ok (.if_icmp .lt 5, 3) := by decide +kernel
theorem dX2_readRock_9 : decode cX2_readRock 9 = .ok (.iconst 0, 1) := by decide +kernel
theorem dX2_readRock_10 : decode cX2_readRock 10 = .ok (.ireturn, 1) := by decide +kernel
theorem dX2_readRock_11 : decode cX2_readRock 11 = .ok (.iconst 0, 1) := by decide +kernel
theorem dX2_readRock_12 : decode cX2_readRock 12 = .ok (.istore_n 2, 1) := by decide +kernel
theorem dX2_readRock_13 : decode cX2_readRock 13 = .ok (.iload_n 2, 1) := by decide +kernel
theorem dX2_readRock_14 : decode cX2_readRock 14 = .ok (.iconst 5, 1) := by decide +kernel
theorem dX2_readRock_15 : decode cX2_readRock 15 = .ok (.if_icmp .ge 45, 3) := by decide +kernel
theorem dX2_readRock_18 : decode cX2_readRock 18 = .ok (.aload_n 0, 1) := by decide +kernel
theorem dX2_readRock_19 : decode cX2_readRock 19 = .ok (.getstatic 56, 3) := by decide +kernel
theorem dX2_readRock_22 : decode cX2_readRock 22 = .ok (.iload_n 2, 1) := by decide +kernel
theorem dX2_readRock_23 : decode cX2_readRock 23 = .ok (.invokestatic 60, 3) := by decide +kernel
theorem dX2_readRock_26 : decode cX2_readRock 26 = .ok (.getstatic 66, 3) := by decide +kernel
theorem dX2_readRock_29 : decode cX2_readRock 29 = .ok (.iload_n 2, 1) := by decide +kernel
theorem dX2_readRock_30 : decode cX2_readRock 30 = .ok (.invokestatic 60, 3) := by decide +kernel
theorem dX2_readRock_33 : decode cX2_readRock 33 = .ok (.invokevirtual 69, 3) := by decide +kernel
theorem dX2_readRock_36 : decode cX2_readRock 36 = .ok (.ifCond .ne 5, 3) := by decide +kernel
theorem dX2_readRock_39 : decode cX2_readRock 39 = .ok (.iconst 0, 1) := by decide +kernel
theorem dX2_readRock_40 : decode cX2_readRock 40 = .ok (.ireturn, 1) := by decide +kernel
theorem dX2_readRock_41 : decode cX2_readRock 41 = .ok (.aload_n 1, 1) := by decide +kernel
theorem dX2_readRock_42 : decode cX2_readRock 42 = .ok (.aload_n 1, 1) := by decide +kernel
theorem dX2_readRock_43 : decode cX2_readRock 43 = .ok (.getfield 53, 3) := by decide +kernel
theorem dX2_readRock_46 : decode cX2_readRock 46 = .ok (.iload_n 2, 1) := by decide +kernel
theorem dX2_readRock_47 : decode cX2_readRock 47 = .ok (.aload_n 0, 1) := by decide +kernel
theorem dX2_readRock_48 : decode cX2_readRock 48 = .ok (.getfield 73, 3) := by decide +kernel
theorem dX2_readRock_51 : decode cX2_readRock 51 = .ok (.invokevirtual 76, 3) := by decide +kernel
theorem dX2_readRock_54 : decode cX2_readRock 54 = .ok (.iinc 2 1, 3) := by decide +kernel
theorem dX2_readRock_57 : decode cX2_readRock 57 = .ok (.goto (-44), 3) := by decide +kernel
theorem dX2_readRock_60 : decode cX2_readRock 60 = .ok (.aload_n 1, 1) := by decide +kernel
theorem dX2_readRock_61 : decode cX2_readRock 61 = .ok (.dup, 1) := by decide +kernel
theorem dX2_readRock_62 : decode cX2_readRock 62 = .ok (.getfield 53, 3) := by decide +kernel
theorem dX2_readRock_65 : decode cX2_readRock 65 = .ok (.iconst 1, 1) := by decide +kernel
theorem dX2_readRock_66 : decode cX2_readRock 66 = .ok (.iadd, 1) := by decide +kernel
theorem dX2_readRock_67 : decode cX2_readRock 67 = .ok (.putfield 53, 3) := by decide +kernel
theorem dX2_readRock_70 : decode cX2_readRock 70 = .ok (.aload_n 0, 1) := by decide +kernel
theorem dX2_readRock_71 : decode cX2_readRock 71 = .ok (.invokevirtual 80, 3) := by decide +kernel
theorem dX2_readRock_74 : decode cX2_readRock 74 = .ok (.ireturn, 1) := by decide +kernel
set_option maxRecDepth 20000 in
theorem ggX2_readBarrels_X2_readNumber : GoodIn wsX2_readBarrels wsX2_readNumber := goodIn_r _ [8, 9, 2, 10, 11, 12, 7, 13, 14, 15, 16, 17, 18, 19, 20, 21, 22, 23, 24, 25, 26, 27, 28, 29, 30, 31, 32, 33, 34, 35, 36, 37, 42, 43, 44, 45, 46, 47, 48, 54, 55] (by decide +kernel) (by decide +kernel)
set_option maxRecDepth 20000 in
theorem gX2_readBarrels_X2_readNumber : GoodIn wsX2_readBarrels (wsV RX2 69 RX2 yX2_readNumber wsX2_readNumber) := goodIn_app (goodIn_of _ (by decide +kernel)) ggX2_readBarrels_X2_readNumber
set_option maxRecDepth 20000 in
theorem ggX2_readBarrels_X2_readEnd : GoodIn wsX2_readBarrels wsX2_readEnd := goodIn_r _ [41, 9, 10, 11, 12, 7, 13, 14, 15, 16, 17, 18, 19, 20, 21, 22, 23, 24, 25, 26, 27, 28, 29, 30, 2, 31, 32, 33, 34, 35, 36, 37, 42, 43, 44, 45, 46, 47, 48, 54, 55] (by decide +kernel) (by decide +kernel)
set_option maxRecDepth 20000 in
theorem gX2_readBarrels_X2_readEnd : GoodIn wsX2_readBarrels (wsV RX2 80 RX2 yX2_readEnd wsX2_readEnd) := goodIn_app (goodIn_of _ (by decide +kernel)) ggX2_readBarrels_X2_readEnd
theorem dX2_readBarrels_0 : decode cX2_readBarrels 0 = .ok (.aload_n 0, 1) := by decide +kernel
theorem dX2_readBarrels_1 : decode cX2_readBarrels 1 = .ok (.getfield 24, 3) := by decide +kernel
theorem dX2_readBarrels_4 : decode cX2_readBarrels 4 = .ok (.ifCond .ne 13, 3) := by decide +kernel
theorem dX2_readBarrels_7 : decode cX2_readBarrels 7 = .ok (.aload_n 0, 1) := by decide +kernel
theorem dX2_readBarrels_8 : decode cX2_readBarrels 8 = .ok (.iconst 1, 1) := by decide +kernel
theorem dX2_readBarrels_9 : decode cX2_readBarrels 9 = .ok (.bipush 30, 2) := by decide +kernel
theorem dX2_readBarrels_11 : decode cX2_readBarrels 11 = .ok (.invokevirtual 69, 3) := by decide +kernel
theorem dX2_readBarrels_14 : decode cX2_readBarrels 14 = .ok (.ifCond .ne 5, 3) := by decide +kernel
theorem dX2_readBarrels_17 : decode cX2_readBarrels 17 = .ok (.iconst 0, 1) := by decide +kernel
theorem dX2_readBarrels_18 : decode cX2_readBarrels 18 = .ok (.ireturn, 1) := by decide +kernel
theorem dX2_readBarrels_19 : decode cX2_readBarrels 19 = .ok (.aload_n 1, 1) := by decide +kernel
theorem dX2_readBarrels_20 : decode cX2_readBarrels 20 = .ok (.aload_n 0, 1) := by decide +kernel
theorem dX2_readBarrels_21 : decode cX2_readBarrels 21 = .ok (.getfield 73, 3) := by decide +kernel
theorem dX2_readBarrels_24 : decode cX2_readBarrels 24 = .ok (.putfield 84, 3) := by decide +kernel
theorem dX2_readBarrels_27 : decode cX2_readBarrels 27 = .ok (.aload_n 0, 1) := by decide +kernel
theorem dX2_readBarrels_28 : decode cX2_readBarrels 28 = .ok (.iconst 1, 1) := by decide +kernel
theorem dX2_readBarrels_29 : decode cX2_readBarrels 29 = .ok (.putfield 24, 3) := by decide +kernel
theorem dX2_readBarrels_32 : decode cX2_readBarrels 32 = .ok (.aload_n 0, 1) := by decide +kernel
theorem dX2_readBarrels_33 : decode cX2_readBarrels 33 = .ok (.invokevirtual 80, 3) := by decide +kernel
theorem dX2_readBarrels_36 : decode cX2_readBarrels 36 = .ok (.ireturn, 1) := by decide +kernel
set_option maxRecDepth 20000 in
theorem ggX2_readCoins_X2_readNumber : GoodIn wsX2_readCoins wsX2_readNumber := goodIn_r _ [8, 9, 2, 10, 11, 12, 7, 13, 14, 15, 16, 17, 18, 19, 20, 21, 22, 23, 24, 25, 26, 27, 28, 29, 30, 31, 32, 33, 34, 35, 36, 37, 42, 43, 44, 45, 46, 47, 48, 54, 55] (by decide +kernel) (by decide +kernel)
set_option maxRecDepth 20000 in
theorem gX2_readCoins_X2_readNumber : GoodIn wsX2_readCoins (wsV RX2 69 RX2 yX2_readNumber wsX2_readNumber) := goodIn_app (goodIn_of _ (by decide +kernel)) ggX2_readCoins_X2_readNumber
set_option maxRecDepth 20000 in
theorem ggX2_readCoins_X2_readEnd : GoodIn wsX2_readCoins wsX2_readEnd := goodIn_r _ [41, 9, 10, 11, 12, 7, 13, 14, 15, 16, 17, 18, 19, 20, 21, 22, 23, 24, 25, 26, 27, 28, 29, 30, 2, 31, 32, 33, 34, 35, 36, 37, 42, 43, 44, 45, 46, 47, 48, 54, 55] (by decide +kernel) (by decide +kernel)
set_option maxRecDepth 20000 in
theorem gX2_readCoins_X2_readEnd : GoodIn wsX2_readCoins (wsV RX2 80 RX2 yX2_readEnd wsX2_readEnd) := goodIn_app (goodIn_of _ (by decide +kernel)) ggX2_readCoins_X2_readEnd
theorem dX2_readCoins_0 : decode cX2_readCoins 0 = .ok (.aload_n 0, 1) := by decide +kernel
theorem dX2_readCoins_1 : decode cX2_readCoins 1 = .ok (.getfield 28, 3) := by decide +kernel
theorem dX2_readCoins_4 : decode cX2_readCoins 4 = .ok (.ifCond .ne 14, 3) := by decide +kernel
theorem dX2_readCoins_7 : decode cX2_readCoins 7 = .ok (.aload_n 0, 1) := by decide +kernel
theorem dX2_readCoins_8 : decode cX2_readCoins 8 = .ok (.iconst 0, 1) := by decide +kernel
theorem dX2_readCoins_9 : decode cX2_readCoins 9 = .ok (.sipush 900, 3) := by decide +kernel
theorem dX2_readCoins_12 : decode cX2_readCoins 12 = .ok (.invokevirtual 69, 3) := by decide +kernel
theorem dX2_readCoins_15 : decode cX2_readCoins 15 = .ok (.ifCond .ne 5, 3) := by decide +kernel
theorem dX2_readCoins_18 : decode cX2_readCoins 18 = .ok (.iconst 0, 1) := by decide +kernel
theorem dX2_readCoins_19 : decode cX2_readCoins 19 = .ok (.ireturn, 1) := by decide +kernel
theorem dX2_readCoins_20 : decode cX2_readCoins 20 = .ok (.aload_n 1, 1) := by decide +kernel
theorem dX2_readCoins_21 : decode cX2_readCoins 21 = .ok (.aload_n 0, 1) := by decide +kernel
theorem dX2_readCoins_22 : decode cX2_readCoins 22 = .ok (.getfield 73, 3) := by decide +kernel
theorem dX2_readCoins_25 : decode cX2_readCoins 25 = .ok (.putfield 87, 3) := by decide +kernel
theorem dX2_readCoins_28 : decode cX2_readCoins 28 = .ok (.aload_n 0, 1) := by decide +kernel
theorem dX2_readCoins_29 : decode cX2_readCoins 29 = .ok (.iconst 1, 1) := by decide +kernel
theorem dX2_readCoins_30 : decode cX2_readCoins 30 = .ok (.putfield 28, 3) := by decide +kernel
theorem dX2_readCoins_33 : decode cX2_readCoins 33 = .ok (.aload_n 0, 1) := by decide +kernel
theorem dX2_readCoins_34 : decode cX2_readCoins 34 = .ok (.invokevirtual 80, 3) := by decide +kernel
theorem dX2_readCoins_37 : decode cX2_readCoins 37 = .ok (.ireturn, 1) := by decide +kernel
set_option maxRecDepth 20000 in
theorem ggX2_readNumber_X2_readToken : GoodIn wsX2_readNumber wsX2_readToken := goodIn_r _ [7, 8, 9, 10, 11, 1, 12, 13, 14, 15, 16, 17, 18, 19, 6, 20, 21, 22, 23, 24, 2, 25, 26, 27, 28, 29, 30, 31, 32, 33, 34, 35, 36, 37, 38, 39, 40] (by decide +kernel) (by decide +kernel)
set_option maxRecDepth 20000 in
theorem gX2_readNumber_X2_readToken : GoodIn wsX2_readNumber (wsV RX2 31 RX2 yX2_readToken wsX2_readToken) := goodIn_app (goodIn_of _ (by decide +kernel)) ggX2_readNumber_X2_readToken
theorem dX2_readNumber_0 : decode cX2_readNumber 0 = .ok (.aload_n 0, 1) := by decide +kernel
theorem dX2_readNumber_1 : decode cX2_readNumber 1 = .ok (.invokevirtual 31, 3) := by decide +kernel
theorem dX2_readNumber_4 : decode cX2_readNumber 4 = .ok (.aload_n 0, 1) := by decide +kernel
theorem dX2_readNumber_5 : decode cX2_readNumber 5 = .ok (.getfield 34, 3) := by decide +kernel
theorem dX2_readNumber_8 : decode cX2_readNumber 8 = .ok (.bipush (-3), 2) := by decide +kernel
theorem dX2_readNumber_10 : decode cX2_readNumber 10 = .ok (.if_icmp .ne 23, 3) := by decide +kernel
theorem dX2_readNumber_13 : decode cX2_readNumber 13 = .ok (.aload_n 0, 1) := by decide +kernel
theorem dX2_readNumber_14 : decode cX2_readNumber 14 = .ok (.getfield 73, 3) := by decide +kernel
theorem dX2_readNumber_17 : decode cX2_readNumber 17 = .ok (.iload_n 1, 1) := by decide +kernel
theorem dX2_readNumber_18 : decode cX2_readNumber 18 = .ok (.if_icmp .lt 15, 3) := by decide +kernel
theorem dX2_readNumber_21 : decode cX2_readNumber 21 = .ok (.aload_n 0, 1) := by decide +kernel
theorem dX2_readNumber_22 : decode cX2_readNumber 22 = .ok (.getfield 73, 3) := by decide +kernel
theorem dX2_readNumber_25 : decode cX2_readNumber 25 = .ok (.iload_n 2, 1) := by decide +kernel
theorem dX2_readNumber_26 : decode cX2_readNumber 26 = .ok (.if_icmp .gt 7, 3) := by decide +kernel
theorem dX2_readNumber_29 : decode cX2_readNumber 29 = .ok (.iconst 1, 1) := by decide +kernel
theorem dX2_readNumber_30 : decode cX2_readNumber 30 = .ok (.goto 4, 3) := by decide +kernel
theorem dX2_readNumber_33 : decode cX2_readNumber 33 = .ok (.iconst 0, 1) := by decide +kernel
theorem dX2_readNumber_34 : decode cX2_readNumber 34 = .ok (.ireturn, 1) := by decide +kernel
set_option maxRecDepth 20000 in
theorem ggX2_readEnd_X2_readToken : GoodIn wsX2_readEnd wsX2_readToken := goodIn_r _ [6, 7, 8, 9, 10, 1, 11, 12, 13, 14, 15, 16, 17, 18, 5, 19, 20, 21, 22, 23, 24, 25, 26, 27, 28, 29, 30, 31, 32, 33, 34, 35, 36, 37, 38, 39, 40] (by decide +kernel) (by decide +kernel)
set_option maxRecDepth 20000 in
theorem gX2_readEnd_X2_readToken : GoodIn wsX2_readEnd (wsV RX2 31 RX2 yX2_readToken wsX2_readToken) := goodIn_app (goodIn_of _ (by decide +kernel)) ggX2_readEnd_X2_readToken
theorem dX2_readEnd_0 : decode cX2_readEnd 0 = .ok (.aload_n 0, 1) := by decide +kernel
theorem dX2_readEnd_1 : decode cX2_readEnd 1 = .ok (.invokevirtual 31, 3) := by decide +kernel
theorem dX2_readEnd_4 : decode cX2_readEnd 4 = .ok (.aload_n 0, 1) := by decide +kernel
theorem dX2_readEnd_5 : decode cX2_readEnd 5 = .ok (.getfield 34, 3) := by decide +kernel
theorem dX2_readEnd_8 : decode cX2_readEnd 8 = .ok (.bipush 59, 2) := by decide +kernel
theorem dX2_readEnd_10 : decode cX2_readEnd 10 = .ok (.if_icmp .ne 7, 3) := by decide +kernel
theorem dX2_readEnd_13 : decode cX2_readEnd 13 = .ok (.iconst 1, 1) := by decide +kernel
theorem dX2_readEnd_14 : decode cX2_readEnd 14 = .ok (.goto 4, 3) := by decide +kernel
theorem dX2_readEnd_17 : decode cX2_readEnd 17 = .ok (.iconst 0, 1) := by decide +kernel
theorem dX2_readEnd_18 : decode cX2_readEnd 18 = .ok (.ireturn, 1) := by decide +kernel
set_option maxRecDepth 20000 in
theorem ggX2_readToken_X7_letterAt : GoodIn wsX2_readToken wsX7_letterAt := goodIn_r _ [10, 11, 35, 36] (by decide +kernel) (by decide +kernel)
set_option maxRecDepth 20000 in
theorem gX2_readToken_X7_letterAt : GoodIn wsX2_readToken (wsV RX2 95 RX7 yX7_letterAt wsX7_letterAt) := goodIn_app (goodIn_of _ (by decide +kernel)) ggX2_readToken_X7_letterAt
set_option maxRecDepth 20000 in
theorem ggX2_readToken_X2_isDigit : GoodIn wsX2_readToken wsX2_isDigit := goodIn_r _ [15] (by decide +kernel) (by decide +kernel)
set_option maxRecDepth 20000 in
theorem gX2_readToken_X2_isDigit : GoodIn wsX2_readToken (va_wsS RX2 99 yX2_isDigit wsX2_isDigit) := goodIn_app (goodIn_of _ (by decide +kernel)) ggX2_readToken_X2_isDigit
set_option maxRecDepth 20000 in
theorem ggX2_readToken_X2_readDigits : GoodIn wsX2_readToken wsX2_readDigits := goodIn_r _ [19, 2, 4, 20, 1, 3, 21, 22, 23, 24, 5, 6, 7, 8, 9, 10, 11, 12, 13, 14, 15, 28, 29, 30, 31, 32, 33, 34, 35, 36] (by decide +kernel) (by decide +kernel)
set_option maxRecDepth 20000 in
theorem gX2_readToken_X2_readDigits : GoodIn wsX2_readToken (wsV RX2 103 RX2 yX2_readDigits wsX2_readDigits) := goodIn_app (goodIn_of _ (by decide +kernel)) ggX2_readToken_X2_readDigits
set_option maxRecDepth 20000 in
theorem ggX2_readToken_X2_isSign : GoodIn wsX2_readToken wsX2_isSign := goodIn_r _ [27] (by decide +kernel) (by decide +kernel)
set_option maxRecDepth 20000 in
theorem gX2_readToken_X2_isSign : GoodIn wsX2_readToken (va_wsS RX2 106 yX2_isSign wsX2_isSign) := goodIn_app (goodIn_of _ (by decide +kernel)) ggX2_readToken_X2_isSign
theorem dX2_readToken_0 : decode cX2_readToken 0 = .ok (.aload_n 0, 1) := by decide +kernel
theorem dX2_readToken_1 : decode cX2_readToken 1 = .ok (.getfield 20, 3) := by decide +kernel
theorem dX2_readToken_4 : decode cX2_readToken 4 = .ok (.aload_n 0, 1) := by decide +kernel
theorem dX2_readToken_5 : decode cX2_readToken 5 = .ok (.getfield 9, 3) := by decide +kernel
theorem dX2_readToken_8 : decode cX2_readToken 8 = .ok (.getfield 90, 3) := by decide +kernel
theorem dX2_readToken_11 : decode cX2_readToken 11 = .ok (.if_icmp .ge 32, 3) := by decide +kernel
theorem dX2_readToken_14 : decode cX2_readToken 14 = .ok (.aload_n 0, 1) := by decide +kernel
theorem dX2_readToken_15 : decode cX2_readToken 15 = .ok (.getfield 9, 3) := by decide +kernel
theorem dX2_readToken_18 : decode cX2_readToken 18 = .ok (.aload_n 0, 1) := by decide +kernel
theorem dX2_readToken_19 : decode cX2_readToken 19 = .ok (.getfield 20, 3) := by decide +kernel
theorem dX2_readToken_22 : decode cX2_readToken 22 = .ok (.invokevirtual 95, 3) := by decide +kernel
theorem dX2_readToken_25 : decode cX2_readToken 25 = .ok (.bipush 32, 2) := by decide +kernel
theorem dX2_readToken_27 : decode cX2_readToken 27 = .ok (.if_icmp .ne 16, 3) := by decide +kernel
theorem dX2_readToken_30 : decode cX2_readToken 30 = .ok (.aload_n 0, 1) := by decide +kernel
theorem dX2_readToken_31 : decode cX2_readToken 31 = .ok (.dup, 1) := by decide +kernel
theorem dX2_readToken_32 : decode cX2_readToken 32 = .ok (.getfield 20, 3) := by decide +kernel
theorem dX2_readToken_35 : decode cX2_readToken 35 = .ok (.iconst 1, 1) := by decide +kernel
theorem dX2_readToken_36 : decode cX2_readToken 36 = .ok (.iadd, 1) := by decide +kernel
theorem dX2_readToken_37 : decode cX2_readToken 37 = .ok (.putfield 20, 3) := by decide +kernel
theorem dX2_readToken_40 : decode cX2_readToken 40 = .ok (.goto (-40), 3) := by decide +kernel
theorem dX2_readToken_43 : decode cX2_readToken 43 = .ok (.aload_n 0, 1) := by decide +kernel
theorem dX2_readToken_44 : decode cX2_readToken 44 = .ok (.aload_n 0, 1) := by decide +kernel
theorem dX2_readToken_45 : decode cX2_readToken 45 = .ok (.getfield 20, 3) := by decide +kernel
theorem dX2_readToken_48 : decode cX2_readToken 48 = .ok (.putfield 47, 3) := by decide +kernel
theorem dX2_readToken_51 : decode cX2_readToken 51 = .ok (.aload_n 0, 1) := by decide +kernel
theorem dX2_readToken_52 : decode cX2_readToken 52 = .ok (.getfield 20, 3) := by decide +kernel
theorem dX2_readToken_55 : decode cX2_readToken 55 = .ok (.aload_n 0, 1) := by decide +kernel
theorem dX2_readToken_56 : decode cX2_readToken 56 = .ok (.getfield 9, 3) := by decide +kernel
theorem dX2_readToken_59 : decode cX2_readToken 59 = .ok (.getfield 90, 3) := by decide +kernel
theorem dX2_readToken_62 : decode cX2_readToken 62 = .ok (.if_icmp .lt 9, 3) := by decide +kernel
theorem dX2_readToken_65 : decode cX2_readToken 65 = .ok (.aload_n 0, 1) := by decide +kernel
theorem dX2_readToken_66 : decode cX2_readToken 66 = .ok (.iconst (-1), 1) := by decide +kernel
theorem dX2_readToken_67 : decode cX2_readToken 67 = .ok (.putfield 34, 3) := by decide +kernel
theorem dX2_readToken_70 : decode cX2_readToken 70 = .ok (.return_, 1) := by decide +kernel
theorem dX2_readToken_71 : decode cX2_readToken 71 = .ok (.aload_n 0, 1) := by decide +kernel
theorem dX2_readToken_72 : decode cX2_readToken 72 = .ok (.getfield 9, 3) := by decide +kernel
theorem dX2_readToken_75 : decode cX2_readToken 75 = .ok (.aload_n 0, 1) := by decide +kernel
theorem dX2_readToken_76 : decode cX2_readToken 76 = .ok (.getfield 20, 3) := by decide +kernel
theorem dX2_readToken_79 : decode cX2_readToken 79 = .ok (.invokevirtual 95, 3) := by decide +kernel
theorem dX2_readToken_82 : decode cX2_readToken 82 = .ok (.istore_n 1, 1) := by decide +kernel
theorem dX2_readToken_83 : decode cX2_readToken 83 = .ok (.iload_n 1, 1) := by decide +kernel
theorem dX2_readToken_84 : decode cX2_readToken 84 = .ok (.invokestatic 99, 3) := by decide +kernel
theorem dX2_readToken_87 : decode cX2_readToken 87 = .ok (.ifCond .eq 8, 3) := by decide +kernel
theorem dX2_readToken_90 : decode cX2_readToken 90 = .ok (.aload_n 0, 1) := by decide +kernel
theorem dX2_readToken_91 : decode cX2_readToken 91 = .ok (.invokevirtual 103, 3) := by decide +kernel
theorem dX2_readToken_94 : decode cX2_readToken 94 = .ok (.return_, 1) := by decide +kernel
theorem dX2_readToken_95 : decode cX2_readToken 95 = .ok (.aload_n 0, 1) := by decide +kernel
theorem dX2_readToken_96 : decode cX2_readToken 96 = .ok (.dup, 1) := by decide +kernel
theorem dX2_readToken_97 : decode cX2_readToken 97 = .ok (.getfield 20, 3) := by decide +kernel
theorem dX2_readToken_100 : decode cX2_readToken 100 = .ok (.iconst 1, 1) := by decide +kernel
theorem dX2_readToken_101 : decode cX2_readToken 101 = .ok (.iadd, 1) := by decide +kernel
theorem dX2_readToken_102 : decode cX2_readToken 102 = .ok (.putfield 20, 3) := by decide +kernel
theorem dX2_readToken_105 : decode cX2_readToken 105 = .ok (.aload_n 0, 1) := by decide +kernel
theorem dX2_readToken_106 : decode cX2_readToken 106 = .ok (.iload_n 1, 1) := by decide +kernel
theorem dX2_readToken_107 : decode cX2_readToken 107 = .ok (.invokestatic 106, 3) := by decide +kernel
theorem dX2_readToken_110 : decode cX2_readToken 110 = .ok (.ifCond .eq 7, 3) := by decide +kernel
theorem dX2_readToken_113 : decode cX2_readToken 113 = .ok (.iload_n 1, 1) := by decide +kernel
theorem dX2_readToken_114 : decode cX2_readToken 114 = .ok (.goto 5, 3) := by decide +kernel
theorem dX2_readToken_117 : decode cX2_readToken 117 = .ok (.bipush (-2), 2) := by decide +kernel
theorem dX2_readToken_119 : decode cX2_readToken 119 = .ok (.putfield 34, 3) := by decide +kernel
theorem dX2_readToken_122 : decode cX2_readToken 122 = .ok (.return_, 1) := by decide +kernel
set_option maxRecDepth 20000 in
theorem ggX2_readDigits_X7_letterAt : GoodIn wsX2_readDigits wsX7_letterAt := goodIn_r _ [15, 16, 28, 29] (by decide +kernel) (by decide +kernel)
set_option maxRecDepth 20000 in
theorem gX2_readDigits_X7_letterAt : GoodIn wsX2_readDigits (wsV RX2 95 RX7 yX7_letterAt wsX7_letterAt) := goodIn_app (goodIn_of _ (by decide +kernel)) ggX2_readDigits_X7_letterAt
set_option maxRecDepth 20000 in
theorem ggX2_readDigits_X2_isDigit : GoodIn wsX2_readDigits wsX2_isDigit := goodIn_r _ [20] (by decide +kernel) (by decide +kernel)
set_option maxRecDepth 20000 in
theorem gX2_readDigits_X2_isDigit : GoodIn wsX2_readDigits (va_wsS RX2 99 yX2_isDigit wsX2_isDigit) := goodIn_app (goodIn_of _ (by decide +kernel)) ggX2_readDigits_X2_isDigit
theorem dX2_readDigits_0 : decode cX2_readDigits 0 = .ok (.aload_n 0, 1) := by decide +kernel
theorem dX2_readDigits_1 : decode cX2_readDigits 1 = .ok (.getfield 9, 3) := by decide +kernel
theorem dX2_readDigits_4 : decode cX2_readDigits 4 = .ok (.aload_n 0, 1) := by decide +kernel
theorem dX2_readDigits_5 : decode cX2_readDigits 5 = .ok (.getfield 47, 3) := by decide +kernel
theorem dX2_readDigits_8 : decode cX2_readDigits 8 = .ok (.invokevirtual 95, 3) := by decide +kernel
theorem dX2_readDigits_11 : decode cX2_readDigits 11 = .ok (.bipush 48, 2) := by decide +kernel
theorem dX2_readDigits_13 : decode cX2_readDigits 13 = .ok (.if_icmp .ne 7, 3) := by decide +kernel
theorem dX2_readDigits_16 : decode cX2_readDigits 16 = .ok (.iconst 1, 1) := by decide +kernel
theorem dX2_readDigits_17 : decode cX2_readDigits 17 = .ok (.goto 4, 3) := by decide +kernel
theorem dX2_readDigits_20 : decode cX2_readDigits 20 = .ok (.iconst 0, 1) := by decide +kernel
theorem dX2_readDigits_21 : decode cX2_readDigits 21 = .ok (.istore_n 1, 1) := by decide +kernel
theorem dX2_readDigits_22 : decode cX2_readDigits 22 = .ok (.aload_n 0, 1) := by decide +kernel
theorem dX2_readDigits_23 : decode cX2_readDigits 23 = .ok (.iconst 0, 1) := by decide +kernel
theorem dX2_readDigits_24 : decode cX2_readDigits 24 = .ok (.putfield 73, 3) := by decide +kernel
theorem dX2_readDigits_27 : decode cX2_readDigits 27 = .ok (.aload_n 0, 1) := by decide +kernel
theorem dX2_readDigits_28 : decode cX2_readDigits 28 = .ok (.getfield 20, 3) := by decide +kernel
theorem dX2_readDigits_31 : decode cX2_readDigits 31 = .ok (.aload_n 0, 1) := by decide +kernel
theorem dX2_readDigits_32 : decode cX2_readDigits 32 = .ok (.getfield 9, 3) := by decide +kernel
theorem dX2_readDigits_35 : decode cX2_readDigits 35 = .ok (.getfield 90, 3) := by decide +kernel
theorem dX2_readDigits_38 : decode cX2_readDigits 38 = .ok (.if_icmp .ge 65, 3) := by decide +kernel
theorem dX2_readDigits_41 : decode cX2_readDigits 41 = .ok (.aload_n 0, 1) := by decide +kernel
theorem dX2_readDigits_42 : decode cX2_readDigits 42 = .ok (.getfield 9, 3) := by decide +kernel
theorem dX2_readDigits_45 : decode cX2_readDigits 45 = .ok (.aload_n 0, 1) := by decide +kernel
theorem dX2_readDigits_46 : decode cX2_readDigits 46 = .ok (.getfield 20, 3) := by decide +kernel
theorem dX2_readDigits_49 : decode cX2_readDigits 49 = .ok (.invokevirtual 95, 3) := by decide +kernel
theorem dX2_readDigits_52 : decode cX2_readDigits 52 = .ok (.invokestatic 99, 3) := by decide +kernel
theorem dX2_readDigits_55 : decode cX2_readDigits 55 = .ok (.ifCond .eq 48, 3) := by decide +kernel
theorem dX2_readDigits_58 : decode cX2_readDigits 58 = .ok (.aload_n 0, 1) := by decide +kernel
theorem dX2_readDigits_59 : decode cX2_readDigits 59 = .ok (.aload_n 0, 1) := by decide +kernel
theorem dX2_readDigits_60 : decode cX2_readDigits 60 = .ok (.getfield 73, 3) := by decide +kernel
theorem dX2_readDigits_63 : decode cX2_readDigits 63 = .ok (.bipush 10, 2) := by decide +kernel
theorem dX2_readDigits_65 : decode cX2_readDigits 65 = .ok (.imul, 1) := by decide +kernel
theorem dX2_readDigits_66 : decode cX2_readDigits 66 = .ok (.aload_n 0, 1) := by decide +kernel
theorem dX2_readDigits_67 : decode cX2_readDigits 67 = .ok (.getfield 9, 3) := by decide +kernel
theorem dX2_readDigits_70 : decode cX2_readDigits 70 = .ok (.aload_n 0, 1) := by decide +kernel
theorem dX2_readDigits_71 : decode cX2_readDigits 71 = .ok (.getfield 20, 3) := by decide +kernel
theorem dX2_readDigits_74 : decode cX2_readDigits 74 = .ok (.invokevirtual 95, 3) := by decide +kernel
theorem dX2_readDigits_77 : decode cX2_readDigits 77 = .ok (.iadd, 1) := by decide +kernel
theorem dX2_readDigits_78 : decode cX2_readDigits 78 = .ok (.bipush 48, 2) := by decide +kernel
theorem dX2_readDigits_80 : decode cX2_readDigits 80 = .ok (.isub, 1) := by decide +kernel
theorem dX2_readDigits_81 : decode cX2_readDigits 81 = .ok (.sipush 901, 3) := by decide +kernel
theorem dX2_readDigits_84 : decode cX2_readDigits 84 = .ok (.invokestatic 109, 3) := by decide +kernel
theorem dX2_readDigits_87 : decode cX2_readDigits 87 = .ok (.putfield 73, 3) := by decide +kernel
theorem dX2_readDigits_90 : decode cX2_readDigits 90 = .ok (.aload_n 0, 1) := by decide +kernel
theorem dX2_readDigits_91 : decode cX2_readDigits 91 = .ok (.dup, 1) := by decide +kernel
theorem dX2_readDigits_92 : decode cX2_readDigits 92 = .ok (.getfield 20, 3) := by decide +kernel
theorem dX2_readDigits_95 : decode cX2_readDigits 95 = .ok (.iconst 1, 1) := by decide +kernel
theorem dX2_readDigits_96 : decode cX2_readDigits 96 = .ok (.iadd, 1) := by decide +kernel
theorem dX2_readDigits_97 : decode cX2_readDigits 97 = .ok (.putfield 20, 3) := by decide +kernel
theorem dX2_readDigits_100 : decode cX2_readDigits 100 = .ok (.goto (-73), 3) := by decide +kernel
theorem dX2_readDigits_103 : decode cX2_readDigits 103 = .ok (.iload_n 1, 1) := by decide +kernel
theorem dX2_readDigits_104 : decode cX2_readDigits 104 = .ok (.ifCond .eq 20, 3) := by decide +kernel
theorem dX2_readDigits_107 : decode cX2_readDigits 107 = .ok (.aload_n 0, 1) := by decide +kernel
theorem dX2_readDigits_108 : decode cX2_readDigits 108 = .ok (.getfield 20, 3) := by decide +kernel
theorem dX2_readDigits_111 : decode cX2_readDigits 111 = .ok (.aload_n 0, 1) := by decide +kernel
theorem dX2_readDigits_112 : decode cX2_readDigits 112 = .ok (.getfield 47, 3) := by decide +kernel
theorem dX2_readDigits_115 : decode cX2_readDigits 115 = .ok (.isub, 1) := by decide +kernel
theorem dX2_readDigits_116 : decode cX2_readDigits 116 = .ok (.iconst 1, 1) := by decide +kernel
theorem dX2_readDigits_117 : decode cX2_readDigits 117 = .ok (.if_icmp .le 7, 3) := by decide +kernel
theorem dX2_readDigits_120 : decode cX2_readDigits 120 = .ok (.iconst 1, 1) := by decide +kernel
theorem dX2_readDigits_121 : decode cX2_readDigits 121 = .ok (.goto 4, 3) := by decide +kernel
theorem dX2_readDigits_124 : decode cX2_readDigits 124 = .ok (.iconst 0, 1) := by decide +kernel
theorem dX2_readDigits_125 : decode cX2_readDigits 125 = .ok (.istore_n 2, 1) := by decide +kernel
theorem dX2_readDigits_126 : decode cX2_readDigits 126 = .ok (.aload_n 0, 1) := by decide +kernel
theorem dX2_readDigits_127 : decode cX2_readDigits 127 = .ok (.iload_n 2, 1) := by decide +kernel
theorem dX2_readDigits_128 : decode cX2_readDigits 128 = .ok (.ifCond .ne 13, 3) := by decide +kernel
theorem dX2_readDigits_131 : decode cX2_readDigits 131 = .ok (.aload_n 0, 1) := by decide +kernel
theorem dX2_readDigits_132 : decode cX2_readDigits 132 = .ok (.getfield 73, 3) := by decide +kernel
theorem dX2_readDigits_135 : decode cX2_readDigits 135 = .ok (.sipush 900, 3) := by decide +kernel
theorem dX2_readDigits_138 : decode cX2_readDigits 138 = .ok (.if_icmp .le 8, 3) := by decide +kernel
theorem dX2_readDigits_141 : decode cX2_readDigits 141 = .ok (.bipush (-2), 2) := by decide +kernel
theorem dX2_readDigits_143 : decode cX2_readDigits 143 = .ok (.goto 5, 3) := by decide +kernel
theorem dX2_readDigits_146 : decode cX2_readDigits 146 = .ok (.bipush (-3), 2) := by decide +kernel
theorem dX2_readDigits_148 : decode cX2_readDigits 148 = .ok (.putfield 34, 3) := by decide +kernel
theorem dX2_readDigits_151 : decode cX2_readDigits 151 = .ok (.return_, 1) := by decide +kernel
theorem dX2_isDigit_0 : decode cX2_isDigit 0 = .ok (.iload_n 0, 1) := by decide +kernel
theorem dX2_isDigit_1 : decode cX2_isDigit 1 = .ok (.bipush 48, 2) := by decide +kernel
theorem dX2_isDigit_3 : decode cX2_isDigit 3 = .ok (.if_icmp .lt 13, 3) := by decide +kernel
theorem dX2_isDigit_6 : decode cX2_isDigit 6 = .ok (.iload_n 0, 1) := by decide +kernel
theorem dX2_isDigit_7 : decode cX2_isDigit 7 = .ok (.bipush 57, 2) := by decide +kernel
theorem dX2_isDigit_9 : decode cX2_isDigit 9 = .ok (.if_icmp .gt 7, 3) := by decide +kernel
theorem dX2_isDigit_12 : decode cX2_isDigit 12 = .ok (.iconst 1, 1) := by decide +kernel
theorem dX2_isDigit_13 : decode cX2_isDigit 13 = .ok (.goto 4, 3) := by decide +kernel
theorem dX2_isDigit_16 : decode cX2_isDigit 16 = .ok (.iconst 0, 1) := by decide +kernel
theorem dX2_isDigit_17 : decode cX2_isDigit 17 = .ok (.ireturn, 1) := by decide +kernel
theorem dX2_isSign_0 : decode cX2_isSign 0 = .ok (.iload_n 0, 1) := by decide +kernel
theorem dX2_isSign_1 : decode cX2_isSign 1 = .ok (.bipush 114, 2) := by decide +kernel
theorem dX2_isSign_3 : decode cX2_isSign 3 = .ok (.if_icmp .eq 21, 3) := by decide +kernel
theorem dX2_isSign_6 : decode cX2_isSign 6 = .ok (.iload_n 0, 1) := by decide +kernel
theorem dX2_isSign_7 : decode cX2_isSign 7 = .ok (.bipush 98, 2) := by decide +kernel
theorem dX2_isSign_9 : decode cX2_isSign 9 = .ok (.if_icmp .eq 15, 3) := by decide +kernel
theorem dX2_isSign_12 : decode cX2_isSign 12 = .ok (.iload_n 0, 1) := by decide +kernel
theorem dX2_isSign_13 : decode cX2_isSign 13 = .ok (.bipush 99, 2) := by decide +kernel
theorem dX2_isSign_15 : decode cX2_isSign 15 = .ok (.if_icmp .eq 9, 3) := by decide +kernel
theorem dX2_isSign_18 : decode cX2_isSign 18 = .ok (.iload_n 0, 1) := by decide +kernel
theorem dX2_isSign_19 : decode cX2_isSign 19 = .ok (.bipush 59, 2) := by decide +kernel
theorem dX2_isSign_21 : decode cX2_isSign 21 = .ok (.if_icmp .ne 7, 3) := by decide +kernel
theorem dX2_isSign_24 : decode cX2_isSign 24 = .ok (.iconst 1, 1) := by decide +kernel
theorem dX2_isSign_25 : decode cX2_isSign 25 = .ok (.goto 4, 3) := by decide +kernel
theorem dX2_isSign_28 : decode cX2_isSign 28 = .ok (.iconst 0, 1) := by decide +kernel
theorem dX2_isSign_29 : decode cX2_isSign 29 = .ok (.ireturn, 1) := by decide +kernel
set_option maxRecDepth 20000 in
theorem ggX3_init_X3_untell : GoodIn wsX3_init wsX3_untell := goodIn_r _ [10, 11, 12, 13, 14, 15, 16, 17, 18, 19] (by decide +kernel) (by decide +kernel)
set_option maxRecDepth 20000 in
theorem gX3_init_X3_untell : GoodIn wsX3_init (wsV RX3 15 RX3 yX3_untell wsX3_untell) := goodIn_app (goodIn_of _ (by decide +kernel)) ggX3_init_X3_untell
theorem dX3_init_0 : decode cX3_init 0 = .ok (.aload_n 0, 1) := by decide +kernel
theorem dX3_init_1 : decode cX3_init 1 = .ok (.invokespecial 3, 3) := by decide +kernel
theorem dX3_init_4 : decode cX3_init 4 = .ok (.aload_n 0, 1) := by decide +kernel
theorem dX3_init_5 : decode cX3_init 5 = .ok (.bipush 40, 2) := by decide +kernel
theorem dX3_init_7 : decode cX3_init 7 = .ok (.newarray .int, 2) := by decide +kernel
theorem dX3_init_9 : decode cX3_init 9 = .ok (.putfield 9, 3) := by decide +kernel
theorem dX3_init_12 : decode cX3_init 12 = .ok (.aload_n 0, 1) := by decide +kernel
theorem dX3_init_13 : decode cX3_init 13 = .ok (.invokevirtual 15, 3) := by decide +kernel
theorem dX3_init_16 : decode cX3_init 16 = .ok (.return_, 1) := by decide +kernel
theorem dX3_untell_0 : decode cX3_untell 0 = .ok (.aload_n 0, 1) := by decide +kernel
theorem dX3_untell_1 : decode cX3_untell 1 = .ok (.iconst 0, 1) := by decide +kernel
theorem dX3_untell_2 : decode cX3_untell 2 = .ok (.putfield 18, 3) := by decide +kernel
theorem dX3_untell_5 : decode cX3_untell 5 = .ok (.aload_n 0, 1) := by decide +kernel
theorem dX3_untell_6 : decode cX3_untell 6 = .ok (.bipush 10, 2) := by decide +kernel
theorem dX3_untell_8 : decode cX3_untell 8 = .ok (.putfield 22, 3) := by decide +kernel
theorem dX3_untell_11 : decode cX3_untell 11 = .ok (.aload_n 0, 1) := by decide +kernel
theorem dX3_untell_12 : decode cX3_untell 12 = .ok (.bipush 100, 2) := by decide +kernel
theorem dX3_untell_14 : decode cX3_untell 14 = .ok (.putfield 25, 3) := by decide +kernel
theorem dX3_untell_17 : decode cX3_untell 17 = .ok (.aload_n 0, 1) := by decide +kernel
theorem dX3_untell_18 : decode cX3_untell 18 = .ok (.iconst 0, 1) := by decide +kernel
theorem dX3_untell_19 : decode cX3_untell 19 = .ok (.putfield 28, 3) := by decide +kernel
theorem dX3_untell_22 : decode cX3_untell 22 = .ok (.return_, 1) := by decide +kernel
set_option maxRecDepth 20000 in
theorem ggX3_become_X5_copy : GoodIn wsX3_become wsX5_copy := goodIn_r _ [9] (by decide +kernel) (by decide +kernel)
set_option maxRecDepth 20000 in
theorem gX3_become_X5_copy : GoodIn wsX3_become (va_wsS RX3 31 yX5_copy wsX5_copy) := goodIn_app (goodIn_of _ (by decide +kernel)) ggX3_become_X5_copy
theorem dX3_become_0 : decode cX3_become 0 = .ok (.aload_n 0, 1) := by decide +kernel
theorem dX3_become_1 : decode cX3_become 1 = .ok (.aload_n 1, 1) := by decide +kernel
theorem dX3_become_2 : decode cX3_become 2 = .ok (.getfield 18, 3) := by decide +kernel
theorem dX3_become_5 : decode cX3_become 5 = .ok (.putfield 18, 3) := by decide +kernel
theorem dX3_become_8 : decode cX3_become 8 = .ok (.aload_n 0, 1) := by decide +kernel
theorem dX3_become_9 : decode cX3_become 9 = .ok (.aload_n 1, 1) := by decide +kernel
theorem dX3_become_10 : decode cX3_become 10 = .ok (.getfield 22, 3) := by decide +kernel
theorem dX3_become_13 : decode cX3_become 13 = .ok (.putfield 22, 3) := by decide +kernel
theorem dX3_become_16 : decode cX3_become 16 = .ok (.aload_n 0, 1) := by decide +kernel
theorem dX3_become_17 : decode cX3_become 17 = .ok (.aload_n 1, 1) := by decide +kernel
theorem dX3_become_18 : decode cX3_become 18 = .ok (.getfield 25, 3) := by decide +kernel
theorem dX3_become_21 : decode cX3_become 21 = .ok (.putfield 25, 3) := by decide +kernel
theorem dX3_become_24 : decode cX3_become 24 = .ok (.aload_n 0, 1) := by decide +kernel
theorem dX3_become_25 : decode cX3_become 25 = .ok (.aload_n 1, 1) := by decide +kernel
theorem dX3_become_26 : decode cX3_become 26 = .ok (.getfield 28, 3) := by decide +kernel
theorem dX3_become_29 : decode cX3_become 29 = .ok (.putfield 28, 3) := by decide +kernel
theorem dX3_become_32 : decode cX3_become 32 = .ok (.aload_n 1, 1) := by decide +kernel
theorem dX3_become_33 : decode cX3_become 33 = .ok (.getfield 9, 3) := by decide +kernel
theorem dX3_become_36 : decode cX3_become 36 = .ok (.aload_n 0, 1) := by decide +kernel
theorem dX3_become_37 : decode cX3_become 37 = .ok (.getfield 9, 3) := by decide +kernel
theorem dX3_become_40 : decode cX3_become 40 = .ok (.invokestatic 31, 3) := by decide +kernel
theorem dX3_become_43 : decode cX3_become 43 = .ok (.return_, 1) := by decide +kernel
set_option maxRecDepth 20000 in
theorem ggX3_fact_X5_get : GoodIn wsX3_fact wsX5_get := goodIn_r _ [5] (by decide +kernel) (by decide +kernel)
set_option maxRecDepth 20000 in
theorem gX3_fact_X5_get : GoodIn wsX3_fact (va_wsS RX3 37 yX5_get wsX5_get) := goodIn_app (goodIn_of _ (by decide +kernel)) ggX3_fact_X5_get
theorem dX3_fact_0 : decode cX3_fact 0 = .ok (.aload_n 0, 1) := by decide +kernel
theorem dX3_fact_1 : decode cX3_fact 1 = .ok (.getfield 9, 3) := by decide +kernel
theorem dX3_fact_4 : decode cX3_fact 4 = .ok (.iload_n 1, 1) := by decide +kernel
theorem dX3_fact_5 : decode cX3_fact 5 = .ok (.iconst 5, 1) := by decide +kernel
theorem dX3_fact_6 : decode cX3_fact 6 = .ok (.imul, 1) := by decide +kernel
theorem dX3_fact_7 : decode cX3_fact 7 = .ok (.iload_n 2, 1) := by decide +kernel
theorem dX3_fact_8 : decode cX3_fact 8 = .ok (.iadd, 1) := by decide +kernel
theorem dX3_fact_9 : decode cX3_fact 9 = .ok (.invokestatic 37, 3) := by decide +kernel
theorem dX3_fact_12 : decode cX3_fact 12 = .ok (.ireturn, 1) := by decide +kernel
set_option maxRecDepth 20000 in
theorem ggX3_tell_X5_put : GoodIn wsX3_tell wsX5_put := goodIn_r _ [5] (by decide +kernel) (by decide +kernel)
set_option maxRecDepth 20000 in
theorem gX3_tell_X5_put : GoodIn wsX3_tell (va_wsS RX3 41 yX5_put wsX5_put) := goodIn_app (goodIn_of _ (by decide +kernel)) ggX3_tell_X5_put
theorem dX3_tell_0 : decode cX3_tell 0 = .ok (.aload_n 0, 1) := by decide +kernel
theorem dX3_tell_1 : decode cX3_tell 1 = .ok (.getfield 9, 3) := by decide +kernel
theorem dX3_tell_4 : decode cX3_tell 4 = .ok (.iload_n 1, 1) := by decide +kernel
theorem dX3_tell_5 : decode cX3_tell 5 = .ok (.iconst 5, 1) := by decide +kernel
theorem dX3_tell_6 : decode cX3_tell 6 = .ok (.imul, 1) := by decide +kernel
theorem dX3_tell_7 : decode cX3_tell 7 = .ok (.iload_n 2, 1) := by decide +kernel
theorem dX3_tell_8 : decode cX3_tell 8 = .ok (.iadd, 1) := by decide +kernel
theorem dX3_tell_9 : decode cX3_tell 9 = .ok (.iload_n 3, 1) := by decide +kernel
theorem dX3_tell_10 : decode cX3_tell 10 = .ok (.invokestatic 41, 3) := by decide +kernel
theorem dX3_tell_13 : decode cX3_tell 13 = .ok (.return_, 1) := by decide +kernel
set_option maxRecDepth 20000 in
theorem ggX3_price_X3_fact : GoodIn wsX3_price wsX3_fact := goodIn_r _ [5, 6, 7, 8, 9, 10, 15, 16, 17, 18, 19] (by decide +kernel) (by decide +kernel)
set_option maxRecDepth 20000 in
theorem gX3_price_X3_fact : GoodIn wsX3_price (wsV RX3 45 RX3 yX3_fact wsX3_fact) := goodIn_app (goodIn_of _ (by decide +kernel)) ggX3_price_X3_fact
set_option maxRecDepth 20000 in
theorem ggX3_price_X6_upward : GoodIn wsX3_price wsX6_upward := goodIn_r _ [14] (by decide +kernel) (by decide +kernel)
set_option maxRecDepth 20000 in
theorem gX3_price_X6_upward : GoodIn wsX3_price (va_wsS RX3 49 yX6_upward wsX6_upward) := goodIn_app (goodIn_of _ (by decide +kernel)) ggX3_price_X6_upward
theorem dX3_price_0 : decode cX3_price 0 = .ok (.iload_n 2, 1) := by decide +kernel
theorem dX3_price_1 : decode cX3_price 1 = .ok (.iload_n 3, 1) := by decide +kernel
theorem dX3_price_2 : decode cX3_price 2 = .ok (.aload_n 0, 1) := by decide +kernel
theorem dX3_price_3 : decode cX3_price 3 = .ok (.iload_n 1, 1) := by decide +kernel
theorem dX3_price_4 : decode cX3_price 4 = .ok (.iconst 1, 1) := by decide +kernel
theorem dX3_price_5 : decode cX3_price 5 = .ok (.invokevirtual 45, 3) := by decide +kernel
theorem dX3_price_8 : decode cX3_price 8 = .ok (.invokestatic 49, 3) := by decide +kernel
theorem dX3_price_11 : decode cX3_price 11 = .ok (.imul, 1) := by decide +kernel
theorem dX3_price_12 : decode cX3_price 12 = .ok (.ireturn, 1) := by decide +kernel
theorem dX4_init_0 : decode cX4_init 0 = .ok (.aload_n 0, 1) := by decide +kernel
theorem dX4_init_1 : decode cX4_init 1 = .ok (.invokespecial 3, 3) := by decide +kernel
theorem dX4_init_4 : decode cX4_init 4 = .ok (.aload_n 0, 1) := by decide +kernel
theorem dX4_init_5 : decode cX4_init 5 = .ok (.aload_n 1, 1) := by decide +kernel
theorem dX4_init_6 : decode cX4_init 6 = .ok (.putfield 9, 3) := by decide +kernel
theorem dX4_init_9 : decode cX4_init 9 = .ok (.aload_n 0, 1) := by decide +kernel
theorem dX4_init_10 : decode cX4_init 10 = .ok (.bipush 8, 2) := by decide +kernel
theorem dX4_init_12 : decode cX4_init 12 = .ok (.newarray .int, 2) := by decide +kernel
theorem dX4_init_14 : decode cX4_init 14 = .ok (.putfield 15, 3) := by decide +kernel
theorem dX4_init_17 : decode cX4_init 17 = .ok (.aload_n 0, 1) := by decide +kernel
theorem dX4_init_18 : decode cX4_init 18 = .ok (.bipush 8, 2) := by decide +kernel
theorem dX4_init_20 : decode cX4_init 20 = .ok (.newarray .int, 2) := by decide +kernel
theorem dX4_init_22 : decode cX4_init 22 = .ok (.putfield 19, 3) := by decide +kernel
theorem dX4_init_25 : decode cX4_init 25 = .ok (.aload_n 0, 1) := by decide +kernel
theorem dX4_init_26 : decode cX4_init 26 = .ok (.bipush 8, 2) := by decide +kernel
theorem dX4_init_28 : decode cX4_init 28 = .ok (.newarray .int, 2) := by decide +kernel
theorem dX4_init_30 : decode cX4_init 30 = .ok (.putfield 22, 3) := by decide +kernel
theorem dX4_init_33 : decode cX4_init 33 = .ok (.aload_n 0, 1) := by decide +kernel
theorem dX4_init_34 : decode cX4_init 34 = .ok (.bipush 8, 2) := by decide +kernel
theorem dX4_init_36 : decode cX4_init 36 = .ok (.newarray .int, 2) := by decide +kernel
theorem dX4_init_38 : decode cX4_init 38 = .ok (.putfield 25, 3) := by decide +kernel
theorem dX4_init_41 : decode cX4_init 41 = .ok (.aload_n 0, 1) := by decide +kernel
theorem dX4_init_42 : decode cX4_init 42 = .ok (.bipush 8, 2) := by decide +kernel
theorem dX4_init_44 : decode cX4_init 44 = .ok (.newarray .int, 2) := by decide +kernel
theorem dX4_init_46 : decode cX4_init 46 = .ok (.putfield 28, 3) := by decide +kernel
theorem dX4_init_49 : decode cX4_init 49 = .ok (.aload_n 0, 1) := by decide +kernel
theorem dX4_init_50 : decode cX4_init 50 = .ok (.bipush 8, 2) := by decide +kernel
theorem dX4_init_52 : decode cX4_init 52 = .ok (.newarray .int, 2) := by decide +kernel
theorem dX4_init_54 : decode cX4_init 54 = .ok (.putfield 31, 3) := by decide +kernel
theorem dX4_init_57 : decode cX4_init 57 = .ok (.aload_n 0, 1) := by decide +kernel
theorem dX4_init_58 : decode cX4_init 58 = .ok (.bipush 8, 2) := by decide +kernel
theorem dX4_init_60 : decode cX4_init 60 = .ok (.newarray .int, 2) := by decide +kernel
theorem dX4_init_62 : decode cX4_init 62 = .ok (.putfield 34, 3) := by decide +kernel
theorem dX4_init_65 : decode cX4_init 65 = .ok (.aload_n 0, 1) := by decide +kernel
theorem dX4_init_66 : decode cX4_init 66 = .ok (.bipush 18, 2) := by decide +kernel
theorem dX4_init_68 : decode cX4_init 68 = .ok (.newarray .int, 2) := by decide +kernel
theorem dX4_init_70 : decode cX4_init 70 = .ok (.putfield 37, 3) := by decide +kernel
theorem dX4_init_73 : decode cX4_init 73 = .ok (.return_, 1) := by decide +kernel
set_option maxRecDepth 20000 in
theorem ggX4_load_X5_copy : GoodIn wsX4_load wsX5_copy := goodIn_r _ [14] (by decide +kernel) (by decide +kernel)
set_option maxRecDepth 20000 in
theorem gX4_load_X5_copy : GoodIn wsX4_load (va_wsS RX4 60 yX5_copy wsX5_copy) := goodIn_app (goodIn_of _ (by decide +kernel)) ggX4_load_X5_copy
theorem dX4_load_0 : decode cX4_load 0 = .ok (.aload_n 0, 1) := by decide +kernel
theorem dX4_load_1 : decode cX4_load 1 = .ok (.aload_n 1, 1) := by decide +kernel
theorem dX4_load_2 : decode cX4_load 2 = .ok (.getfield 40, 3) := by decide +kernel
theorem dX4_load_5 : decode cX4_load 5 = .ok (.putfield 46, 3) := by decide +kernel
theorem dX4_load_8 : decode cX4_load 8 = .ok (.aload_n 0, 1) := by decide +kernel
theorem dX4_load_9 : decode cX4_load 9 = .ok (.aload_n 1, 1) := by decide +kernel
theorem dX4_load_10 : decode cX4_load 10 = .ok (.getfield 47, 3) := by decide +kernel
theorem dX4_load_13 : decode cX4_load 13 = .ok (.putfield 50, 3) := by decide +kernel
theorem dX4_load_16 : decode cX4_load 16 = .ok (.aload_n 0, 1) := by decide +kernel
theorem dX4_load_17 : decode cX4_load 17 = .ok (.aload_n 1, 1) := by decide +kernel
theorem dX4_load_18 : decode cX4_load 18 = .ok (.getfield 51, 3) := by decide +kernel
theorem dX4_load_21 : decode cX4_load 21 = .ok (.putfield 54, 3) := by decide +kernel
theorem dX4_load_24 : decode cX4_load 24 = .ok (.aload_n 0, 1) := by decide +kernel
theorem dX4_load_25 : decode cX4_load 25 = .ok (.aload_n 1, 1) := by decide +kernel
theorem dX4_load_26 : decode cX4_load 26 = .ok (.getfield 55, 3) := by decide +kernel
theorem dX4_load_29 : decode cX4_load 29 = .ok (.putfield 58, 3) := by decide +kernel
theorem dX4_load_32 : decode cX4_load 32 = .ok (.aload_n 1, 1) := by decide +kernel
theorem dX4_load_33 : decode cX4_load 33 = .ok (.getfield 59, 3) := by decide +kernel
theorem dX4_load_36 : decode cX4_load 36 = .ok (.aload_n 0, 1) := by decide +kernel
theorem dX4_load_37 : decode cX4_load 37 = .ok (.getfield 15, 3) := by decide +kernel
theorem dX4_load_40 : decode cX4_load 40 = .ok (.invokestatic 60, 3) := by decide +kernel
theorem dX4_load_43 : decode cX4_load 43 = .ok (.return_, 1) := by decide +kernel
set_option maxRecDepth 20000 in
theorem ggX4_solve_X4_priceAll : GoodIn wsX4_solve wsX4_priceAll := goodIn_r _ [5, 6, 7, 8, 9, 10, 11, 12, 13, 14, 15, 16, 17, 18, 19, 20, 21, 22, 23, 24, 25, 26, 27, 28, 29, 30, 31, 32, 33, 34, 35, 36, 37, 80, 81, 82, 83, 84, 85, 86, 87, 88, 89, 90, 91, 92, 93, 94, 95, 96, 97, 98] (by decide +kernel) (by decide +kernel)
set_option maxRecDepth 20000 in
theorem gX4_solve_X4_priceAll : GoodIn wsX4_solve (wsV RX4 66 RX4 yX4_priceAll wsX4_priceAll) := goodIn_app (goodIn_of _ (by decide +kernel)) ggX4_solve_X4_priceAll
set_option maxRecDepth 20000 in
theorem ggX4_solve_X4_weighAll : GoodIn wsX4_solve wsX4_weighAll := goodIn_r _ [41, 7, 8, 6, 42, 43, 44, 45, 46, 47, 48, 4, 49, 50, 34, 35, 17, 36, 51, 52, 53, 54, 55, 56, 57, 58, 12, 15, 16, 18, 59, 60, 61, 62, 14, 63, 64, 65, 66, 67, 68, 69, 70, 13, 80, 81, 82, 83, 84, 85, 86, 87, 88, 89, 90, 91, 92, 93, 94, 95, 96, 97, 98] (by decide +kernel) (by decide +kernel)
set_option maxRecDepth 20000 in
theorem gX4_solve_X4_weighAll : GoodIn wsX4_solve (wsV RX4 69 RX4 yX4_weighAll wsX4_weighAll) := goodIn_app (goodIn_of _ (by decide +kernel)) ggX4_solve_X4_weighAll
set_option maxRecDepth 20000 in
theorem ggX4_solve_X4_walk : GoodIn wsX4_solve wsX4_walk := goodIn_r _ [74, 6, 7, 8, 75, 76, 77, 78, 79, 13, 37, 25, 26, 22, 27, 28, 29, 16, 17, 18, 63, 64, 65, 4, 66, 50, 15, 67, 68, 69, 70, 51, 52, 53, 54, 55, 56, 57, 58, 12, 59, 60, 61, 62, 14, 34, 35, 36, 80, 81, 82, 83, 84, 85, 86, 87, 88, 89, 90, 91, 92, 93, 94, 95, 96, 97, 98] (by decide +kernel) (by decide +kernel)
set_option maxRecDepth 20000 in
theorem gX4_solve_X4_walk : GoodIn wsX4_solve (wsV RX4 72 RX4 yX4_walk wsX4_walk) := goodIn_app (goodIn_of _ (by decide +kernel)) ggX4_solve_X4_walk
theorem dX4_solve_0 : decode cX4_solve 0 = .ok (.aload_n 0, 1) := by decide +kernel
theorem dX4_solve_1 : decode cX4_solve 1 = .ok (.invokevirtual 66, 3) := by decide +kernel
theorem dX4_solve_4 : decode cX4_solve 4 = .ok (.aload_n 0, 1) := by decide +kernel
theorem dX4_solve_5 : decode cX4_solve 5 = .ok (.invokevirtual 69, 3) := by decide +kernel
theorem dX4_solve_8 : decode cX4_solve 8 = .ok (.aload_n 0, 1) := by decide +kernel
theorem dX4_solve_9 : decode cX4_solve 9 = .ok (.invokevirtual 72, 3) := by decide +kernel
theorem dX4_solve_12 : decode cX4_solve 12 = .ok (.return_, 1) := by decide +kernel
set_option maxRecDepth 20000 in
theorem ggX4_spentAhead_X5_get : GoodIn wsX4_spentAhead wsX5_get := goodIn_r _ [6] (by decide +kernel) (by decide +kernel)
set_option maxRecDepth 20000 in
theorem gX4_spentAhead_X5_get : GoodIn wsX4_spentAhead (va_wsS RX4 75 yX5_get wsX5_get) := goodIn_app (goodIn_of _ (by decide +kernel)) ggX4_spentAhead_X5_get
theorem dX4_spentAhead_0 : decode cX4_spentAhead 0 = .ok (.iconst 0, 1) := by decide +kernel
theorem dX4_spentAhead_1 : decode cX4_spentAhead 1 = .ok (.istore_n 2, 1) := by decide +kernel
theorem dX4_spentAhead_2 : decode cX4_spentAhead 2 = .ok (.aload_n 0, 1) := by decide +kernel
theorem dX4_spentAhead_3 : decode cX4_spentAhead 3 = .ok (.getfield 46, 3) := by decide +kernel
theorem dX4_spentAhead_6 : decode cX4_spentAhead 6 = .ok (.istore_n 3, 1) := by decide +kernel
theorem dX4_spentAhead_7 : decode cX4_spentAhead 7 = .ok (.iload_n 3, 1) := by decide +kernel
theorem dX4_spentAhead_8 : decode cX4_spentAhead 8 = .ok (.iload_n 1, 1) := by decide +kernel
theorem dX4_spentAhead_9 : decode cX4_spentAhead 9 = .ok (.if_icmp .ge 26, 3) := by decide +kernel
theorem dX4_spentAhead_12 : decode cX4_spentAhead 12 = .ok (.iload_n 3, 1) := by decide +kernel
theorem dX4_spentAhead_13 : decode cX4_spentAhead 13 = .ok (.bipush 8, 2) := by decide +kernel
theorem dX4_spentAhead_15 : decode cX4_spentAhead 15 = .ok (.if_icmp .ge 20, 3) := by decide +kernel
theorem dX4_spentAhead_18 : decode cX4_spentAhead 18 = .ok (.iload_n 2, 1) := by decide +kernel
theorem dX4_spentAhead_19 : decode cX4_spentAhead 19 = .ok (.aload_n 0, 1) := by decide +kernel
theorem dX4_spentAhead_20 : decode cX4_spentAhead 20 = .ok (.getfield 34, 3) := by decide +kernel
theorem dX4_spentAhead_23 : decode cX4_spentAhead 23 = .ok (.iload_n 3, 1) := by decide +kernel
theorem dX4_spentAhead_24 : decode cX4_spentAhead 24 = .ok (.invokestatic 75, 3) := by decide +kernel
theorem dX4_spentAhead_27 : decode cX4_spentAhead 27 = .ok (.iadd, 1) := by decide +kernel
theorem dX4_spentAhead_28 : decode cX4_spentAhead 28 = .ok (.istore_n 2, 1) := by decide +kernel
theorem dX4_spentAhead_29 : decode cX4_spentAhead 29 = .ok (.iinc 3 1, 3) := by decide +kernel
theorem dX4_spentAhead_32 : decode cX4_spentAhead 32 = .ok (.goto (-25), 3) := by decide +kernel
theorem dX4_spentAhead_35 : decode cX4_spentAhead 35 = .ok (.iload_n 2, 1) := by decide +kernel
theorem dX4_spentAhead_36 : decode cX4_spentAhead 36 = .ok (.ireturn, 1) := by decide +kernel
set_option maxRecDepth 20000 in
theorem ggX4_priceAll_X5_get : GoodIn wsX4_priceAll wsX5_get := goodIn_r _ [13] (by decide +kernel) (by decide +kernel)
set_option maxRecDepth 20000 in
theorem gX4_priceAll_X5_get : GoodIn wsX4_priceAll (va_wsS RX4 75 yX5_get wsX5_get) := goodIn_app (goodIn_of _ (by decide +kernel)) ggX4_priceAll_X5_get
set_option maxRecDepth 20000 in
theorem ggX4_priceAll_X3_price : GoodIn wsX4_priceAll wsX3_price := goodIn_r _ [18, 19, 20, 21, 17, 22, 23, 24, 11, 12, 13, 25, 26, 27, 28, 47, 48, 49, 50, 51] (by decide +kernel) (by decide +kernel)
set_option maxRecDepth 20000 in
theorem gX4_priceAll_X3_price : GoodIn wsX4_priceAll (wsV RX4 84 RX3 yX3_price wsX3_price) := goodIn_app (goodIn_of _ (by decide +kernel)) ggX4_priceAll_X3_price
set_option maxRecDepth 20000 in
theorem ggX4_priceAll_X5_put : GoodIn wsX4_priceAll wsX5_put := goodIn_r _ [31] (by decide +kernel) (by decide +kernel)
set_option maxRecDepth 20000 in
theorem gX4_priceAll_X5_put : GoodIn wsX4_priceAll (va_wsS RX4 88 yX5_put wsX5_put) := goodIn_app (goodIn_of _ (by decide +kernel)) ggX4_priceAll_X5_put
set_option maxRecDepth 20000 in
theorem ggX4_priceAll_X3_fact : GoodIn wsX4_priceAll wsX3_fact := goodIn_r _ [22, 23, 24, 11, 12, 13, 47, 48, 49, 50, 51] (by decide +kernel) (by decide +kernel)
set_option maxRecDepth 20000 in
theorem gX4_priceAll_X3_fact : GoodIn wsX4_priceAll (wsV RX4 92 RX3 yX3_fact wsX3_fact) := goodIn_app (goodIn_of _ (by decide +kernel)) ggX4_priceAll_X3_fact
theorem dX4_priceAll_0 : decode cX4_priceAll 0 = .ok (.aload_n 0, 1) := by decide +kernel
theorem dX4_priceAll_1 : decode cX4_priceAll 1 = .ok (.getfield 46, 3) := by decide +kernel
theorem dX4_priceAll_4 : decode cX4_priceAll 4 = .ok (.istore_n 1, 1) := by decide +kernel
theorem dX4_priceAll_5 : decode cX4_priceAll 5 = .ok (.iload_n 1, 1) := by decide +kernel
theorem dX4_priceAll_6 : decode cX4_priceAll 6 = .ok (.aload_n 0, 1) := by decide +kernel
