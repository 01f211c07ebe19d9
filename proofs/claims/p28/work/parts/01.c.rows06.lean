set_option maxRecDepth 20000 in
theorem ggX0_init_X1_init : GoodIn wsX0_init wsX1_init := goodIn_r _ [12, 13, 2, 3, 14, 15, 16, 17, 18, 19, 20, 21, 22, 23, 24, 25, 26, 27, 28, 29, 30, 31, 32, 33, 34, 35, 36, 37, 38, 39, 40, 41, 42, 43, 44, 45, 46, 47, 48, 49, 50, 51, 52, 66, 67, 68, 69, 70, 71, 72, 73, 56, 57, 58, 59, 60, 61, 62, 63, 64, 65, 74] (by decide +kernel) (by decide +kernel)
set_option maxRecDepth 20000 in
theorem gX0_init_X1_init : GoodIn wsX0_init (wsX1_init) := ggX0_init_X1_init
theorem dX0_init_0 : decode cX0_init 0 = .ok (.aload_n 0, 1) := by decide +kernel
theorem dX0_init_1 : decode cX0_init 1 = .ok (.invokespecial 3, 3) := by decide +kernel
theorem dX0_init_4 : decode cX0_init 4 = .ok (.aload_n 0, 1) := by decide +kernel
theorem dX0_init_5 : decode cX0_init 5 = .ok (.bipush 6, 2) := by decide +kernel
theorem dX0_init_7 : decode cX0_init 7 = .ok (.anewarray 9, 3) := by decide +kernel
theorem dX0_init_10 : decode cX0_init 10 = .ok (.putfield 11, 3) := by decide +kernel
theorem dX0_init_13 : decode cX0_init 13 = .ok (.aload_n 0, 1) := by decide +kernel
theorem dX0_init_14 : decode cX0_init 14 = .ok (.iconst 0, 1) := by decide +kernel
theorem dX0_init_15 : decode cX0_init 15 = .ok (.putfield 17, 3) := by decide +kernel
theorem dX0_init_18 : decode cX0_init 18 = .ok (.aload_n 0, 1) := by decide +kernel
theorem dX0_init_19 : decode cX0_init 19 = .ok (.iconst 0, 1) := by decide +kernel
theorem dX0_init_20 : decode cX0_init 20 = .ok (.putfield 21, 3) := by decide +kernel
theorem dX0_init_23 : decode cX0_init 23 = .ok (.iconst 0, 1) := by decide +kernel
theorem dX0_init_24 : decode cX0_init 24 = .ok (.istore_n 1, 1) := by decide +kernel
theorem dX0_init_25 : decode cX0_init 25 = .ok (.iload_n 1, 1) := by decide +kernel
theorem dX0_init_26 : decode cX0_init 26 = .ok (.aload_n 0, 1) := by decide +kernel
theorem dX0_init_27 : decode cX0_init 27 = .ok (.getfield 11, 3) := by decide +kernel
theorem dX0_init_30 : decode cX0_init 30 = .ok (.arraylength, 1) := by decide +kernel
theorem dX0_init_31 : decode cX0_init 31 = .ok (.if_icmp .ge 22, 3) := by decide +kernel
theorem dX0_init_34 : decode cX0_init 34 = .ok (.aload_n 0, 1) := by decide +kernel
theorem dX0_init_35 : decode cX0_init 35 = .ok (.getfield 11, 3) := by decide +kernel
theorem dX0_init_38 : decode cX0_init 38 = .ok (.iload_n 1, 1) := by decide +kernel
theorem dX0_init_39 : decode cX0_init 39 = .ok (.new 9, 3) := by decide +kernel
theorem dX0_init_42 : decode cX0_init 42 = .ok (.dup, 1) := by decide +kernel
theorem dX0_init_43 : decode cX0_init 43 = .ok (.invokespecial 24, 3) := by decide +kernel
theorem dX0_init_46 : decode cX0_init 46 = .ok (.aastore, 1) := by decide +kernel
theorem dX0_init_47 : decode cX0_init 47 = .ok (.iinc 1 1, 3) := by decide +kernel
theorem dX0_init_50 : decode cX0_init 50 = .ok (.goto (-25), 3) := by decide +kernel
theorem dX0_init_53 : decode cX0_init 53 = .ok (.return_, 1) := by decide +kernel
set_option maxRecDepth 20000 in
theorem ggX0_keep_X0_stateAt : GoodIn wsX0_keep wsX0_stateAt := goodIn_r _ [7, 8, 48, 49, 50] (by decide +kernel) (by decide +kernel)
set_option maxRecDepth 20000 in
theorem gX0_keep_X0_stateAt : GoodIn wsX0_keep (wsV RX0 25 RX0 yX0_stateAt wsX0_stateAt) := goodIn_app (goodIn_of _ (by decide +kernel)) ggX0_keep_X0_stateAt
set_option maxRecDepth 20000 in
theorem ggX0_keep_X1_copyFrom : GoodIn wsX0_keep wsX1_copyFrom := goodIn_r _ [13, 14, 15, 16, 17, 18, 19, 20, 21, 22, 23, 24, 25, 26, 27, 28, 29, 30, 31, 32, 33, 34, 35, 36, 37, 38, 39, 40, 41, 42, 43, 44, 45, 46, 47, 51, 52, 53, 54, 55, 56, 57, 58, 59, 60, 61, 62, 63, 64, 65, 66, 67, 68, 69] (by decide +kernel) (by decide +kernel)
set_option maxRecDepth 20000 in
theorem gX0_keep_X1_copyFrom : GoodIn wsX0_keep (wsV RX0 29 RX1 yX1_copyFrom wsX1_copyFrom) := goodIn_app (goodIn_of _ (by decide +kernel)) ggX0_keep_X1_copyFrom
theorem dX0_keep_0 : decode cX0_keep 0 = .ok (.aload_n 0, 1) := by decide +kernel
theorem dX0_keep_1 : decode cX0_keep 1 = .ok (.aload_n 0, 1) := by decide +kernel
theorem dX0_keep_2 : decode cX0_keep 2 = .ok (.getfield 17, 3) := by decide +kernel
theorem dX0_keep_5 : decode cX0_keep 5 = .ok (.aload_n 0, 1) := by decide +kernel
theorem dX0_keep_6 : decode cX0_keep 6 = .ok (.getfield 21, 3) := by decide +kernel
theorem dX0_keep_9 : decode cX0_keep 9 = .ok (.iadd, 1) := by decide +kernel
theorem dX0_keep_10 : decode cX0_keep 10 = .ok (.bipush 6, 2) := by decide +kernel
theorem dX0_keep_12 : decode cX0_keep 12 = .ok (.irem, 1) := by decide +kernel
theorem dX0_keep_13 : decode cX0_keep 13 = .ok (.invokevirtual 25, 3) := by decide +kernel
theorem dX0_keep_16 : decode cX0_keep 16 = .ok (.astore_n 2, 1) := by decide +kernel
theorem dX0_keep_17 : decode cX0_keep 17 = .ok (.aload_n 2, 1) := by decide +kernel
theorem dX0_keep_18 : decode cX0_keep 18 = .ok (.ifnonnull 4, 3) := by decide +kernel
theorem dX0_keep_21 : decode cX0_keep 21 = .ok (.return_, 1) := by decide +kernel
theorem dX0_keep_22 : decode cX0_keep 22 = .ok (.aload_n 2, 1) := by decide +kernel
theorem dX0_keep_23 : decode cX0_keep 23 = .ok (.aload_n 1, 1) := by decide +kernel
theorem dX0_keep_24 : decode cX0_keep 24 = .ok (.invokevirtual 29, 3) := by decide +kernel
theorem dX0_keep_27 : decode cX0_keep 27 = .ok (.aload_n 0, 1) := by decide +kernel
theorem dX0_keep_28 : decode cX0_keep 28 = .ok (.getfield 21, 3) := by decide +kernel
theorem dX0_keep_31 : decode cX0_keep 31 = .ok (.bipush 6, 2) := by decide +kernel
theorem dX0_keep_33 : decode cX0_keep 33 = .ok (.if_icmp .ne 19, 3) := by decide +kernel
theorem dX0_keep_36 : decode cX0_keep 36 = .ok (.aload_n 0, 1) := by decide +kernel
theorem dX0_keep_37 : decode cX0_keep 37 = .ok (.aload_n 0, 1) := by decide +kernel
theorem dX0_keep_38 : decode cX0_keep 38 = .ok (.getfield 17, 3) := by decide +kernel
theorem dX0_keep_41 : decode cX0_keep 41 = .ok (.iconst 1, 1) := by decide +kernel
theorem dX0_keep_42 : decode cX0_keep 42 = .ok (.iadd, 1) := by decide +kernel
theorem dX0_keep_43 : decode cX0_keep 43 = .ok (.bipush 6, 2) := by decide +kernel
theorem dX0_keep_45 : decode cX0_keep 45 = .ok (.irem, 1) := by decide +kernel
theorem dX0_keep_46 : decode cX0_keep 46 = .ok (.putfield 17, 3) := by decide +kernel
theorem dX0_keep_49 : decode cX0_keep 49 = .ok (.goto 13, 3) := by decide +kernel
theorem dX0_keep_52 : decode cX0_keep 52 = .ok (.aload_n 0, 1) := by decide +kernel
theorem dX0_keep_53 : decode cX0_keep 53 = .ok (.dup, 1) := by decide +kernel
theorem dX0_keep_54 : decode cX0_keep 54 = .ok (.getfield 21, 3) := by decide +kernel
theorem dX0_keep_57 : decode cX0_keep 57 = .ok (.iconst 1, 1) := by decide +kernel
theorem dX0_keep_58 : decode cX0_keep 58 = .ok (.iadd, 1) := by decide +kernel
theorem dX0_keep_59 : decode cX0_keep 59 = .ok (.putfield 21, 3) := by decide +kernel
theorem dX0_keep_62 : decode cX0_keep 62 = .ok (.return_, 1) := by decide +kernel
set_option maxRecDepth 20000 in
theorem ggX0_restore_X0_stateAt : GoodIn wsX0_restore wsX0_stateAt := goodIn_r _ [7, 8, 48, 49, 50] (by decide +kernel) (by decide +kernel)
set_option maxRecDepth 20000 in
theorem gX0_restore_X0_stateAt : GoodIn wsX0_restore (wsV RX0 25 RX0 yX0_stateAt wsX0_stateAt) := goodIn_app (goodIn_of _ (by decide +kernel)) ggX0_restore_X0_stateAt
set_option maxRecDepth 20000 in
theorem ggX0_restore_X1_copyFrom : GoodIn wsX0_restore wsX1_copyFrom := goodIn_r _ [13, 14, 15, 16, 17, 18, 19, 20, 21, 22, 23, 24, 25, 26, 27, 28, 29, 30, 31, 32, 33, 34, 35, 36, 37, 38, 39, 40, 41, 42, 43, 44, 45, 46, 47, 51, 52, 53, 54, 55, 56, 57, 58, 59, 60, 61, 62, 63, 64, 65, 66, 67, 68, 69] (by decide +kernel) (by decide +kernel)
set_option maxRecDepth 20000 in
theorem gX0_restore_X1_copyFrom : GoodIn wsX0_restore (wsV RX0 29 RX1 yX1_copyFrom wsX1_copyFrom) := goodIn_app (goodIn_of _ (by decide +kernel)) ggX0_restore_X1_copyFrom
theorem dX0_restore_0 : decode cX0_restore 0 = .ok (.aload_n 0, 1) := by decide +kernel
theorem dX0_restore_1 : decode cX0_restore 1 = .ok (.getfield 21, 3) := by decide +kernel
theorem dX0_restore_4 : decode cX0_restore 4 = .ok (.ifCond .ne 4, 3) := by decide +kernel
theorem dX0_restore_7 : decode cX0_restore 7 = .ok (.return_, 1) := by decide +kernel
theorem dX0_restore_8 : decode cX0_restore 8 = .ok (.aload_n 0, 1) := by decide +kernel
theorem dX0_restore_9 : decode cX0_restore 9 = .ok (.dup, 1) := by decide +kernel
theorem dX0_restore_10 : decode cX0_restore 10 = .ok (.getfield 21, 3) := by decide +kernel
theorem dX0_restore_13 : decode cX0_restore 13 = .ok (.iconst 1, 1) := by decide +kernel
theorem dX0_restore_14 : decode cX0_restore 14 = .ok (.isub, 1) := by decide +kernel
theorem dX0_restore_15 : decode cX0_restore 15 = .ok (.putfield 21, 3) := by decide +kernel
theorem dX0_restore_18 : decode cX0_restore 18 = .ok (.aload_n 0, 1) := by decide +kernel
theorem dX0_restore_19 : decode cX0_restore 19 = .ok (.aload_n 0, 1) := by decide +kernel
theorem dX0_restore_20 : decode cX0_restore 20 = .ok (.getfield 17, 3) := by decide +kernel
theorem dX0_restore_23 : decode cX0_restore 23 = .ok (.aload_n 0, 1) := by decide +kernel
theorem dX0_restore_24 : decode cX0_restore 24 = .ok (.getfield 21, 3) := by decide +kernel
theorem dX0_restore_27 : decode cX0_restore 27 = .ok (.iadd, 1) := by decide +kernel
theorem dX0_restore_28 : decode cX0_restore 28 = .ok (.bipush 6, 2) := by decide +kernel
theorem dX0_restore_30 : decode cX0_restore 30 = .ok (.irem, 1) := by decide +kernel
theorem dX0_restore_31 : decode cX0_restore 31 = .ok (.invokevirtual 25, 3) := by decide +kernel
theorem dX0_restore_34 : decode cX0_restore 34 = .ok (.astore_n 2, 1) := by decide +kernel
theorem dX0_restore_35 : decode cX0_restore 35 = .ok (.aload_n 2, 1) := by decide +kernel
theorem dX0_restore_36 : decode cX0_restore 36 = .ok (.ifnull 8, 3) := by decide +kernel
theorem dX0_restore_39 : decode cX0_restore 39 = .ok (.aload_n 1, 1) := by decide +kernel
theorem dX0_restore_40 : decode cX0_restore 40 = .ok (.aload_n 2, 1) := by decide +kernel
theorem dX0_restore_41 : decode cX0_restore 41 = .ok (.invokevirtual 29, 3) := by decide +kernel
theorem dX0_restore_44 : decode cX0_restore 44 = .ok (.return_, 1) := by decide +kernel
theorem dX0_stateAt_0 : decode cX0_stateAt 0 = .ok (.iload_n 1, 1) := by decide +kernel
theorem dX0_stateAt_1 : decode cX0_stateAt 1 = .ok (.ifCond .lt 21, 3) := by decide +kernel
theorem dX0_stateAt_4 : decode cX0_stateAt 4 = .ok (.iload_n 1, 1) := by decide +kernel
theorem dX0_stateAt_5 : decode cX0_stateAt 5 = .ok (.aload_n 0, 1) := by decide +kernel
theorem dX0_stateAt_6 : decode cX0_stateAt 6 = .ok (.getfield 11, 3) := by decide +kernel
theorem dX0_stateAt_9 : decode cX0_stateAt 9 = .ok (.arraylength, 1) := by decide +kernel
theorem dX0_stateAt_10 : decode cX0_stateAt 10 = .ok (.if_icmp .ge 12, 3) := by decide +kernel
theorem dX0_stateAt_13 : decode cX0_stateAt 13 = .ok (.aload_n 0, 1) := by decide +kernel
theorem dX0_stateAt_14 : decode cX0_stateAt 14 = .ok (.getfield 11, 3) := by decide +kernel
theorem dX0_stateAt_17 : decode cX0_stateAt 17 = .ok (.iload_n 1, 1) := by decide +kernel
theorem dX0_stateAt_18 : decode cX0_stateAt 18 = .ok (.aaload, 1) := by decide +kernel
theorem dX0_stateAt_19 : decode cX0_stateAt 19 = .ok (.goto 4, 3) := by decide +kernel
theorem dX0_stateAt_22 : decode cX0_stateAt 22 = .ok (.aconst_null, 1) := by decide +kernel
theorem dX0_stateAt_23 : decode cX0_stateAt 23 = .ok (.areturn, 1) := by decide +kernel
set_option maxRecDepth 20000 in
theorem ggX1_init_X2_init : GoodIn wsX1_init wsX2_init := goodIn_r _ [21, 22, 2, 3, 23, 9, 10, 24, 25, 26, 27, 28, 29, 30, 31, 32, 33, 34, 35, 36, 37, 61, 43, 44, 45, 46, 47, 48, 49, 50] (by decide +kernel) (by decide +kernel)
set_option maxRecDepth 20000 in
theorem gX1_init_X2_init_n11 : GoodIn wsX1_init (wsX2_init) := ggX1_init_X2_init
set_option maxRecDepth 20000 in
theorem ggX1_init_X5_init : GoodIn wsX1_init wsX5_init := goodIn_r _ [34, 35, 2, 3, 36, 37, 61] (by decide +kernel) (by decide +kernel)
set_option maxRecDepth 20000 in
theorem gX1_init_X5_init : GoodIn wsX1_init (wsX5_init) := ggX1_init_X5_init
set_option maxRecDepth 20000 in
theorem ggX1_init_X5_fill : GoodIn wsX1_init wsX5_fill := goodIn_r _ [42, 37, 61] (by decide +kernel) (by decide +kernel)
set_option maxRecDepth 20000 in
theorem gX1_init_X5_fill : GoodIn wsX1_init (wsV RX1 52 RX5 yX5_fill wsX5_fill) := goodIn_app (goodIn_of _ (by decide +kernel)) ggX1_init_X5_fill
theorem dX1_init_0 : decode cX1_init 0 = .ok (.aload_n 0, 1) := by decide +kernel
theorem dX1_init_1 : decode cX1_init 1 = .ok (.invokespecial 3, 3) := by decide +kernel
theorem dX1_init_4 : decode cX1_init 4 = .ok (.aload_n 0, 1) := by decide +kernel
theorem dX1_init_5 : decode cX1_init 5 = .ok (.new 9, 3) := by decide +kernel
theorem dX1_init_8 : decode cX1_init 8 = .ok (.dup, 1) := by decide +kernel
theorem dX1_init_9 : decode cX1_init 9 = .ok (.invokespecial 11, 3) := by decide +kernel
theorem dX1_init_12 : decode cX1_init 12 = .ok (.putfield 12, 3) := by decide +kernel
theorem dX1_init_15 : decode cX1_init 15 = .ok (.aload_n 0, 1) := by decide +kernel
theorem dX1_init_16 : decode cX1_init 16 = .ok (.new 18, 3) := by decide +kernel
theorem dX1_init_19 : decode cX1_init 19 = .ok (.dup, 1) := by decide +kernel
theorem dX1_init_20 : decode cX1_init 20 = .ok (.bipush 6, 2) := by decide +kernel
theorem dX1_init_22 : decode cX1_init 22 = .ok (.invokespecial 20, 3) := by decide +kernel
theorem dX1_init_25 : decode cX1_init 25 = .ok (.putfield 23, 3) := by decide +kernel
theorem dX1_init_28 : decode cX1_init 28 = .ok (.aload_n 0, 1) := by decide +kernel
theorem dX1_init_29 : decode cX1_init 29 = .ok (.new 18, 3) := by decide +kernel
theorem dX1_init_32 : decode cX1_init 32 = .ok (.dup, 1) := by decide +kernel
theorem dX1_init_33 : decode cX1_init 33 = .ok (.bipush 6, 2) := by decide +kernel
theorem dX1_init_35 : decode cX1_init 35 = .ok (.invokespecial 20, 3) := by decide +kernel
theorem dX1_init_38 : decode cX1_init 38 = .ok (.putfield 27, 3) := by decide +kernel
theorem dX1_init_41 : decode cX1_init 41 = .ok (.aload_n 0, 1) := by decide +kernel
theorem dX1_init_42 : decode cX1_init 42 = .ok (.new 18, 3) := by decide +kernel
theorem dX1_init_45 : decode cX1_init 45 = .ok (.dup, 1) := by decide +kernel
theorem dX1_init_46 : decode cX1_init 46 = .ok (.bipush 6, 2) := by decide +kernel
theorem dX1_init_48 : decode cX1_init 48 = .ok (.invokespecial 20, 3) := by decide +kernel
theorem dX1_init_51 : decode cX1_init 51 = .ok (.putfield 30, 3) := by decide +kernel
theorem dX1_init_54 : decode cX1_init 54 = .ok (.aload_n 0, 1) := by decide +kernel
theorem dX1_init_55 : decode cX1_init 55 = .ok (.new 18, 3) := by decide +kernel
theorem dX1_init_58 : decode cX1_init 58 = .ok (.dup, 1) := by decide +kernel
theorem dX1_init_59 : decode cX1_init 59 = .ok (.bipush 8, 2) := by decide +kernel
theorem dX1_init_61 : decode cX1_init 61 = .ok (.invokespecial 20, 3) := by decide +kernel
theorem dX1_init_64 : decode cX1_init 64 = .ok (.putfield 33, 3) := by decide +kernel
theorem dX1_init_67 : decode cX1_init 67 = .ok (.aload_n 0, 1) := by decide +kernel
theorem dX1_init_68 : decode cX1_init 68 = .ok (.iconst 0, 1) := by decide +kernel
theorem dX1_init_69 : decode cX1_init 69 = .ok (.putfield 36, 3) := by decide +kernel
theorem dX1_init_72 : decode cX1_init 72 = .ok (.aload_n 0, 1) := by decide +kernel
theorem dX1_init_73 : decode cX1_init 73 = .ok (.iconst 0, 1) := by decide +kernel
theorem dX1_init_74 : decode cX1_init 74 = .ok (.putfield 40, 3) := by decide +kernel
theorem dX1_init_77 : decode cX1_init 77 = .ok (.aload_n 0, 1) := by decide +kernel
theorem dX1_init_78 : decode cX1_init 78 = .ok (.iconst 0, 1) := by decide +kernel
theorem dX1_init_79 : decode cX1_init 79 = .ok (.putfield 43, 3) := by decide +kernel
theorem dX1_init_82 : decode cX1_init 82 = .ok (.aload_n 0, 1) := by decide +kernel
theorem dX1_init_83 : decode cX1_init 83 = .ok (.iconst 0, 1) := by decide +kernel
theorem dX1_init_84 : decode cX1_init 84 = .ok (.putfield 46, 3) := by decide +kernel
theorem dX1_init_87 : decode cX1_init 87 = .ok (.aload_n 0, 1) := by decide +kernel
theorem dX1_init_88 : decode cX1_init 88 = .ok (.iconst 0, 1) := by decide +kernel
theorem dX1_init_89 : decode cX1_init 89 = .ok (.putfield 49, 3) := by decide +kernel
theorem dX1_init_92 : decode cX1_init 92 = .ok (.aload_n 0, 1) := by decide +kernel
theorem dX1_init_93 : decode cX1_init 93 = .ok (.getfield 23, 3) := by decide +kernel
theorem dX1_init_96 : decode cX1_init 96 = .ok (.iconst (-1), 1) := by decide +kernel
theorem dX1_init_97 : decode cX1_init 97 = .ok (.invokevirtual 52, 3) := by decide +kernel
theorem dX1_init_100 : decode cX1_init 100 = .ok (.return_, 1) := by decide +kernel
theorem dX1_isClearing_0 : decode cX1_isClearing 0 = .ok (.aload_n 0, 1) := by decide +kernel
theorem dX1_isClearing_1 : decode cX1_isClearing 1 = .ok (.getfield 46, 3) := by decide +kernel
theorem dX1_isClearing_4 : decode cX1_isClearing 4 = .ok (.ifCond .le 7, 3) := by decide +kernel
theorem dX1_isClearing_7 : decode cX1_isClearing 7 = .ok (.iconst 1, 1) := by decide +kernel
theorem dX1_isClearing_8 : decode cX1_isClearing 8 = .ok (.goto 4, 3) := by decide +kernel
theorem dX1_isClearing_11 : decode cX1_isClearing 11 = .ok (.iconst 0, 1) := by decide +kernel
theorem dX1_isClearing_12 : decode cX1_isClearing 12 = .ok (.ireturn, 1) := by decide +kernel
set_option maxRecDepth 20000 in
theorem ggX1_greensNow_X5_at : GoodIn wsX1_greensNow wsX5_at := goodIn_r _ [9, 10, 35] (by decide +kernel) (by decide +kernel)
set_option maxRecDepth 20000 in
theorem gX1_greensNow_X5_at : GoodIn wsX1_greensNow (wsV RX1 58 RX5 yX5_at wsX5_at) := goodIn_app (goodIn_of _ (by decide +kernel)) ggX1_greensNow_X5_at
set_option maxRecDepth 20000 in
theorem ggX1_greensNow_X1_isClearing : GoodIn wsX1_greensNow wsX1_isClearing := goodIn_r _ [15, 16, 17, 18, 19, 20, 21, 22, 23, 24, 25, 26] (by decide +kernel) (by decide +kernel)
set_option maxRecDepth 20000 in
theorem gX1_greensNow_X1_isClearing : GoodIn wsX1_greensNow (wsV RX1 62 RX1 yX1_isClearing wsX1_isClearing) := goodIn_app (goodIn_of _ (by decide +kernel)) ggX1_greensNow_X1_isClearing
theorem dX1_greensNow_0 : decode cX1_greensNow 0 = .ok (.aload_n 0, 1) := by decide +kernel
theorem dX1_greensNow_1 : decode cX1_greensNow 1 = .ok (.getfield 12, 3) := by decide +kernel
theorem dX1_greensNow_4 : decode cX1_greensNow 4 = .ok (.getfield 55, 3) := by decide +kernel
theorem dX1_greensNow_7 : decode cX1_greensNow 7 = .ok (.aload_n 0, 1) := by decide +kernel
theorem dX1_greensNow_8 : decode cX1_greensNow 8 = .ok (.getfield 36, 3) := by decide +kernel
theorem dX1_greensNow_11 : decode cX1_greensNow 11 = .ok (.invokevirtual 58, 3) := by decide +kernel
theorem dX1_greensNow_14 : decode cX1_greensNow 14 = .ok (.istore_n 1, 1) := by decide +kernel
theorem dX1_greensNow_15 : decode cX1_greensNow 15 = .ok (.aload_n 0, 1) := by decide +kernel
theorem dX1_greensNow_16 : decode cX1_greensNow 16 = .ok (.invokevirtual 62, 3) := by decide +kernel
theorem dX1_greensNow_19 : decode cX1_greensNow 19 = .ok (.ifCond .eq 22, 3) := by decide +kernel
theorem dX1_greensNow_22 : decode cX1_greensNow 22 = .ok (.iload_n 1, 1) := by decide +kernel
theorem dX1_greensNow_23 : decode cX1_greensNow 23 = .ok (.aload_n 0, 1) := by decide +kernel
theorem dX1_greensNow_24 : decode cX1_greensNow 24 = .ok (.getfield 12, 3) := by decide +kernel
theorem dX1_greensNow_27 : decode cX1_greensNow 27 = .ok (.getfield 55, 3) := by decide +kernel
theorem dX1_greensNow_30 : decode cX1_greensNow 30 = .ok (.aload_n 0, 1) := by decide +kernel
theorem dX1_greensNow_31 : decode cX1_greensNow 31 = .ok (.getfield 40, 3) := by decide +kernel
theorem dX1_greensNow_34 : decode cX1_greensNow 34 = .ok (.invokevirtual 58, 3) := by decide +kernel
theorem dX1_greensNow_37 : decode cX1_greensNow 37 = .ok (.iand, 1) := by decide +kernel
theorem dX1_greensNow_38 : decode cX1_greensNow 38 = .ok (.goto 4, 3) := by decide +kernel
theorem dX1_greensNow_41 : decode cX1_greensNow 41 = .ok (.iload_n 1, 1) := by decide +kernel
theorem dX1_greensNow_42 : decode cX1_greensNow 42 = .ok (.ireturn, 1) := by decide +kernel
set_option maxRecDepth 20000 in
theorem ggX1_waiting_X5_at : GoodIn wsX1_waiting wsX5_at := goodIn_r _ [6, 7, 18] (by decide +kernel) (by decide +kernel)
set_option maxRecDepth 20000 in
theorem gX1_waiting_X5_at : GoodIn wsX1_waiting (wsV RX1 58 RX5 yX5_at wsX5_at) := goodIn_app (goodIn_of _ (by decide +kernel)) ggX1_waiting_X5_at
theorem dX1_waiting_0 : decode cX1_waiting 0 = .ok (.iconst 0, 1) := by decide +kernel
theorem dX1_waiting_1 : decode cX1_waiting 1 = .ok (.istore_n 1, 1) := by decide +kernel
theorem dX1_waiting_2 : decode cX1_waiting 2 = .ok (.iconst 0, 1) := by decide +kernel
theorem dX1_waiting_3 : decode cX1_waiting 3 = .ok (.istore_n 2, 1) := by decide +kernel
theorem dX1_waiting_4 : decode cX1_waiting 4 = .ok (.iload_n 2, 1) := by decide +kernel
theorem dX1_waiting_5 : decode cX1_waiting 5 = .ok (.bipush 6, 2) := by decide +kernel
theorem dX1_waiting_7 : decode cX1_waiting 7 = .ok (.if_icmp .ge 27, 3) := by decide +kernel
theorem dX1_waiting_10 : decode cX1_waiting 10 = .ok (.aload_n 0, 1) := by decide +kernel
theorem dX1_waiting_11 : decode cX1_waiting 11 = .ok (.getfield 23, 3) := by decide +kernel
theorem dX1_waiting_14 : decode cX1_waiting 14 = .ok (.iload_n 2, 1) := by decide +kernel
theorem dX1_waiting_15 : decode cX1_waiting 15 = .ok (.invokevirtual 58, 3) := by decide +kernel
theorem dX1_waiting_18 : decode cX1_waiting 18 = .ok (.iconst (-1), 1) := by decide +kernel
theorem dX1_waiting_19 : decode cX1_waiting 19 = .ok (.if_icmp .eq 9, 3) := by decide +kernel
theorem dX1_waiting_22 : decode cX1_waiting 22 = .ok (.iload_n 1, 1) := by decide +kernel
theorem dX1_waiting_23 : decode cX1_waiting 23 = .ok (.iconst 1, 1) := by decide +kernel
theorem dX1_waiting_24 : decode cX1_waiting 24 = .ok (.iload_n 2, 1) := by decide +kernel
theorem dX1_waiting_25 : decode cX1_waiting 25 = .ok (.ishl, 1) := by decide +kernel
theorem dX1_waiting_26 : decode cX1_waiting 26 = .ok (.ior, 1) := by decide +kernel
theorem dX1_waiting_27 : decode cX1_waiting 27 = .ok (.istore_n 1, 1) := by decide +kernel
theorem dX1_waiting_28 : decode cX1_waiting 28 = .ok (.iinc 2 1, 3) := by decide +kernel
theorem dX1_waiting_31 : decode cX1_waiting 31 = .ok (.goto (-27), 3) := by decide +kernel
theorem dX1_waiting_34 : decode cX1_waiting 34 = .ok (.iload_n 1, 1) := by decide +kernel
theorem dX1_waiting_35 : decode cX1_waiting 35 = .ok (.ireturn, 1) := by decide +kernel
set_option maxRecDepth 20000 in
theorem ggX1_ruleHolds_X2_askersOf : GoodIn wsX1_ruleHolds wsX2_askersOf := goodIn_r _ [6, 7, 8, 9, 10, 11, 12, 13, 24, 25, 26, 27, 28, 29, 30, 31, 32] (by decide +kernel) (by decide +kernel)
set_option maxRecDepth 20000 in
theorem gX1_ruleHolds_X2_askersOf : GoodIn wsX1_ruleHolds (wsV RX1 66 RX2 yX2_askersOf wsX2_askersOf) := goodIn_app (goodIn_of _ (by decide +kernel)) ggX1_ruleHolds_X2_askersOf
theorem dX1_ruleHolds_0 : decode cX1_ruleHolds 0 = .ok (.aload_n 0, 1) := by decide +kernel
theorem dX1_ruleHolds_1 : decode cX1_ruleHolds 1 = .ok (.getfield 12, 3) := by decide +kernel
theorem dX1_ruleHolds_4 : decode cX1_ruleHolds 4 = .ok (.iload_n 1, 1) := by decide +kernel
theorem dX1_ruleHolds_5 : decode cX1_ruleHolds 5 = .ok (.iload_n 2, 1) := by decide +kernel
theorem dX1_ruleHolds_6 : decode cX1_ruleHolds 6 = .ok (.invokevirtual 66, 3) := by decide +kernel
theorem dX1_ruleHolds_9 : decode cX1_ruleHolds 9 = .ok (.istore 4, 2) := by decide +kernel
theorem dX1_ruleHolds_11 : decode cX1_ruleHolds 11 = .ok (.iload 4, 2) := by decide +kernel
theorem dX1_ruleHolds_13 : decode cX1_ruleHolds 13 = .ok (.ifCond .eq 10, 3) := by decide +kernel
theorem dX1_ruleHolds_16 : decode cX1_ruleHolds 16 = .ok (.iload 4, 2) := by decide +kernel
theorem dX1_ruleHolds_18 : decode cX1_ruleHolds 18 = .ok (.iload_n 3, 1) := by decide +kernel
theorem dX1_ruleHolds_19 : decode cX1_ruleHolds 19 = .ok (.iand, 1) := by decide +kernel
theorem dX1_ruleHolds_20 : decode cX1_ruleHolds 20 = .ok (.ifCond .eq 7, 3) := by decide +kernel
theorem dX1_ruleHolds_23 : decode cX1_ruleHolds 23 = .ok (.iconst 1, 1) := by decide +kernel
theorem dX1_ruleHolds_24 : decode cX1_ruleHolds 24 = .ok (.goto 4, 3) := by decide +kernel
theorem dX1_ruleHolds_27 : decode cX1_ruleHolds 27 = .ok (.iconst 0, 1) := by decide +kernel
theorem dX1_ruleHolds_28 : decode cX1_ruleHolds 28 = .ok (.ireturn, 1) := by decide +kernel
set_option maxRecDepth 20000 in
theorem ggX1_putInto_X5_fill : GoodIn wsX1_putInto wsX5_fill := goodIn_r _ [9, 10, 21] (by decide +kernel) (by decide +kernel)
set_option maxRecDepth 20000 in
theorem gX1_putInto_X5_fill : GoodIn wsX1_putInto (wsV RX1 52 RX5 yX5_fill wsX5_fill) := goodIn_app (goodIn_of _ (by decide +kernel)) ggX1_putInto_X5_fill
theorem dX1_putInto_0 : decode cX1_putInto 0 = .ok (.aload_n 0, 1) := by decide +kernel
theorem dX1_putInto_1 : decode cX1_putInto 1 = .ok (.iload_n 1, 1) := by decide +kernel
theorem dX1_putInto_2 : decode cX1_putInto 2 = .ok (.putfield 36, 3) := by decide +kernel
theorem dX1_putInto_5 : decode cX1_putInto 5 = .ok (.aload_n 0, 1) := by decide +kernel
theorem dX1_putInto_6 : decode cX1_putInto 6 = .ok (.iconst 0, 1) := by decide +kernel
theorem dX1_putInto_7 : decode cX1_putInto 7 = .ok (.putfield 43, 3) := by decide +kernel
theorem dX1_putInto_10 : decode cX1_putInto 10 = .ok (.aload_n 0, 1) := by decide +kernel
theorem dX1_putInto_11 : decode cX1_putInto 11 = .ok (.iconst 0, 1) := by decide +kernel
theorem dX1_putInto_12 : decode cX1_putInto 12 = .ok (.putfield 46, 3) := by decide +kernel
theorem dX1_putInto_15 : decode cX1_putInto 15 = .ok (.aload_n 0, 1) := by decide +kernel
theorem dX1_putInto_16 : decode cX1_putInto 16 = .ok (.getfield 23, 3) := by decide +kernel
theorem dX1_putInto_19 : decode cX1_putInto 19 = .ok (.iconst (-1), 1) := by decide +kernel
theorem dX1_putInto_20 : decode cX1_putInto 20 = .ok (.invokevirtual 52, 3) := by decide +kernel
theorem dX1_putInto_23 : decode cX1_putInto 23 = .ok (.return_, 1) := by decide +kernel
set_option maxRecDepth 20000 in
theorem ggX1_passTick_X1_passWaits : GoodIn wsX1_passTick wsX1_passWaits := goodIn_r _ [12, 13, 14, 15, 16, 17, 18, 19, 20, 21, 22, 11, 23, 2, 24, 7, 25, 26, 27, 28, 29, 30, 31, 32, 33, 34, 35, 4, 36, 37, 38, 39, 40, 41, 42, 83, 84, 85, 86, 87, 88, 89, 90, 91, 92, 93, 94, 95, 96, 97, 98, 99, 100, 101] (by decide +kernel) (by decide +kernel)
set_option maxRecDepth 20000 in
theorem gX1_passTick_X1_passWaits : GoodIn wsX1_passTick (wsV RX1 70 RX1 yX1_passWaits wsX1_passWaits) := goodIn_app (goodIn_of _ (by decide +kernel)) ggX1_passTick_X1_passWaits
set_option maxRecDepth 20000 in
theorem ggX1_passTick_X1_isClearing : GoodIn wsX1_passTick wsX1_isClearing := goodIn_r _ [35, 4, 83, 84, 85, 86, 87, 88, 89, 90, 91, 92] (by decide +kernel) (by decide +kernel)
set_option maxRecDepth 20000 in
theorem gX1_passTick_X1_isClearing : GoodIn wsX1_passTick (wsV RX1 62 RX1 yX1_isClearing wsX1_isClearing) := goodIn_app (goodIn_of _ (by decide +kernel)) ggX1_passTick_X1_isClearing
set_option maxRecDepth 20000 in
theorem ggX1_passTick_X1_arrive : GoodIn wsX1_passTick wsX1_arrive := goodIn_r _ [46, 5, 47, 7, 26, 27, 28, 29, 30, 31, 39, 40, 41, 42, 83, 84, 85, 86, 87, 88, 89, 90, 91, 92, 101] (by decide +kernel) (by decide +kernel)
set_option maxRecDepth 20000 in
theorem gX1_passTick_X1_arrive : GoodIn wsX1_passTick (wsV RX1 76 RX1 yX1_arrive wsX1_arrive) := goodIn_app (goodIn_of _ (by decide +kernel)) ggX1_passTick_X1_arrive
set_option maxRecDepth 20000 in
theorem ggX1_passTick_X5_at : GoodIn wsX1_passTick wsX5_at := goodIn_r _ [30, 31, 101] (by decide +kernel) (by decide +kernel)
set_option maxRecDepth 20000 in
theorem gX1_passTick_X5_at : GoodIn wsX1_passTick (wsV RX1 58 RX5 yX5_at wsX5_at) := goodIn_app (goodIn_of _ (by decide +kernel)) ggX1_passTick_X5_at
set_option maxRecDepth 20000 in
theorem ggX1_passTick_X1_followRule : GoodIn wsX1_passTick wsX1_followRule := goodIn_r _ [51, 2, 52, 7, 53, 54, 55, 11, 56, 13, 26, 27, 28, 29, 30, 31, 57, 58, 59, 60, 61, 62, 63, 64, 65, 66, 67, 68, 69, 70, 71, 72, 73, 74, 75, 76, 25, 4, 77, 78, 79, 80, 81, 82, 43, 44, 45, 46, 5, 47, 39, 40, 41, 42, 83, 84, 85, 86, 87, 88, 89, 90, 91, 92, 93, 94, 95, 96, 97, 98, 99, 100, 101] (by decide +kernel) (by decide +kernel)
set_option maxRecDepth 20000 in
theorem gX1_passTick_X1_followRule : GoodIn wsX1_passTick (wsV RX1 82 RX1 yX1_followRule wsX1_followRule) := goodIn_app (goodIn_of _ (by decide +kernel)) ggX1_passTick_X1_followRule
theorem dX1_passTick_0 : decode cX1_passTick 0 = .ok (.aload_n 0, 1) := by decide +kernel
theorem dX1_passTick_1 : decode cX1_passTick 1 = .ok (.dup, 1) := by decide +kernel
theorem dX1_passTick_2 : decode cX1_passTick 2 = .ok (.getfield 49, 3) := by decide +kernel
theorem dX1_passTick_5 : decode cX1_passTick 5 = .ok (.iconst 1, 1) := by decide +kernel
theorem dX1_passTick_6 : decode cX1_passTick 6 = .ok (.iadd, 1) := by decide +kernel
theorem dX1_passTick_7 : decode cX1_passTick 7 = .ok (.putfield 49, 3) := by decide +kernel
theorem dX1_passTick_10 : decode cX1_passTick 10 = .ok (.aload_n 0, 1) := by decide +kernel
theorem dX1_passTick_11 : decode cX1_passTick 11 = .ok (.invokevirtual 70, 3) := by decide +kernel
theorem dX1_passTick_14 : decode cX1_passTick 14 = .ok (.aload_n 0, 1) := by decide +kernel
theorem dX1_passTick_15 : decode cX1_passTick 15 = .ok (.getfield 12, 3) := by decide +kernel
theorem dX1_passTick_18 : decode cX1_passTick 18 = .ok (.getfield 73, 3) := by decide +kernel
theorem dX1_passTick_21 : decode cX1_passTick 21 = .ok (.ifCond .ne 4, 3) := by decide +kernel
theorem dX1_passTick_24 : decode cX1_passTick 24 = .ok (.return_, 1) := by decide +kernel
theorem dX1_passTick_25 : decode cX1_passTick 25 = .ok (.aload_n 0, 1) := by decide +kernel
theorem dX1_passTick_26 : decode cX1_passTick 26 = .ok (.invokevirtual 62, 3) := by decide +kernel
theorem dX1_passTick_29 : decode cX1_passTick 29 = .ok (.ifCond .eq 25, 3) := by decide +kernel
theorem dX1_passTick_32 : decode cX1_passTick 32 = .ok (.aload_n 0, 1) := by decide +kernel
theorem dX1_passTick_33 : decode cX1_passTick 33 = .ok (.dup, 1) := by decide +kernel
theorem dX1_passTick_34 : decode cX1_passTick 34 = .ok (.getfield 46, 3) := by decide +kernel
theorem dX1_passTick_37 : decode cX1_passTick 37 = .ok (.iconst 1, 1) := by decide +kernel
theorem dX1_passTick_38 : decode cX1_passTick 38 = .ok (.isub, 1) := by decide +kernel
theorem dX1_passTick_39 : decode cX1_passTick 39 = .ok (.putfield 46, 3) := by decide +kernel
theorem dX1_passTick_42 : decode cX1_passTick 42 = .ok (.aload_n 0, 1) := by decide +kernel
theorem dX1_passTick_43 : decode cX1_passTick 43 = .ok (.getfield 46, 3) := by decide +kernel
theorem dX1_passTick_46 : decode cX1_passTick 46 = .ok (.ifCond .ne 7, 3) := by decide +kernel
theorem dX1_passTick_49 : decode cX1_passTick 49 = .ok (.aload_n 0, 1) := by decide +kernel
theorem dX1_passTick_50 : decode cX1_passTick 50 = .ok (.invokevirtual 76, 3) := by decide +kernel
theorem dX1_passTick_53 : decode cX1_passTick 53 = .ok (.return_, 1) := by decide +kernel
theorem dX1_passTick_54 : decode cX1_passTick 54 = .ok (.aload_n 0, 1) := by decide +kernel
theorem dX1_passTick_55 : decode cX1_passTick 55 = .ok (.dup, 1) := by decide +kernel
theorem dX1_passTick_56 : decode cX1_passTick 56 = .ok (.getfield 43, 3) := by decide +kernel
theorem dX1_passTick_59 : decode cX1_passTick 59 = .ok (.iconst 1, 1) := by decide +kernel
theorem dX1_passTick_60 : decode cX1_passTick 60 = .ok (.iadd, 1) := by decide +kernel
theorem dX1_passTick_61 : decode cX1_passTick 61 = .ok (.putfield 43, 3) := by decide +kernel
theorem dX1_passTick_64 : decode cX1_passTick 64 = .ok (.aload_n 0, 1) := by decide +kernel
theorem dX1_passTick_65 : decode cX1_passTick 65 = .ok (.getfield 43, 3) := by decide +kernel
theorem dX1_passTick_68 : decode cX1_passTick 68 = .ok (.aload_n 0, 1) := by decide +kernel
theorem dX1_passTick_69 : decode cX1_passTick 69 = .ok (.getfield 12, 3) := by decide +kernel
theorem dX1_passTick_72 : decode cX1_passTick 72 = .ok (.getfield 79, 3) := by decide +kernel
theorem dX1_passTick_75 : decode cX1_passTick 75 = .ok (.aload_n 0, 1) := by decide +kernel
theorem dX1_passTick_76 : decode cX1_passTick 76 = .ok (.getfield 36, 3) := by decide +kernel
theorem dX1_passTick_79 : decode cX1_passTick 79 = .ok (.invokevirtual 58, 3) := by decide +kernel
theorem dX1_passTick_82 : decode cX1_passTick 82 = .ok (.if_icmp .lt 7, 3) := by decide +kernel
theorem dX1_passTick_85 : decode cX1_passTick 85 = .ok (.aload_n 0, 1) := by decide +kernel
theorem dX1_passTick_86 : decode cX1_passTick 86 = .ok (.invokevirtual 82, 3) := by decide +kernel
theorem dX1_passTick_89 : decode cX1_passTick 89 = .ok (.return_, 1) := by decide +kernel
set_option maxRecDepth 20000 in
theorem ggX1_passWaits_X1_greensNow : GoodIn wsX1_passWaits wsX1_greensNow := goodIn_r _ [12, 13, 14, 15, 16, 17, 18, 19, 20, 21, 22, 23, 24, 25, 11, 26, 27, 35, 36, 37, 38, 39, 40, 41, 42, 43, 44, 45, 46, 47, 48, 49, 50, 51, 52, 53] (by decide +kernel) (by decide +kernel)
set_option maxRecDepth 20000 in
theorem gX1_passWaits_X1_greensNow : GoodIn wsX1_passWaits (wsV RX1 85 RX1 yX1_greensNow wsX1_greensNow) := goodIn_app (goodIn_of _ (by decide +kernel)) ggX1_passWaits_X1_greensNow
set_option maxRecDepth 20000 in
theorem ggX1_passWaits_X5_at : GoodIn wsX1_passWaits wsX5_at := goodIn_r _ [21, 22, 53] (by decide +kernel) (by decide +kernel)
set_option maxRecDepth 20000 in
theorem gX1_passWaits_X5_at : GoodIn wsX1_passWaits (wsV RX1 58 RX5 yX5_at wsX5_at) := goodIn_app (goodIn_of _ (by decide +kernel)) ggX1_passWaits_X5_at
set_option maxRecDepth 20000 in
theorem ggX1_passWaits_X7_has : GoodIn wsX1_passWaits wsX7_has := goodIn_r _ [30] (by decide +kernel) (by decide +kernel)
set_option maxRecDepth 20000 in
theorem gX1_passWaits_X7_has_n89 : GoodIn wsX1_passWaits (wsX7_has) := ggX1_passWaits_X7_has
set_option maxRecDepth 20000 in
theorem ggX1_passWaits_X5_put : GoodIn wsX1_passWaits wsX5_put := goodIn_r _ [34, 22, 53] (by decide +kernel) (by decide +kernel)
set_option maxRecDepth 20000 in
theorem gX1_passWaits_X5_put : GoodIn wsX1_passWaits (wsV RX1 93 RX5 yX5_put wsX5_put) := goodIn_app (goodIn_of _ (by decide +kernel)) ggX1_passWaits_X5_put
theorem dX1_passWaits_0 : decode cX1_passWaits 0 = .ok (.aload_n 0, 1) := by decide +kernel
theorem dX1_passWaits_1 : decode cX1_passWaits 1 = .ok (.invokevirtual 85, 3) := by decide +kernel
theorem dX1_passWaits_4 : decode cX1_passWaits 4 = .ok (.istore_n 1, 1) := by decide +kernel
theorem dX1_passWaits_5 : decode cX1_passWaits 5 = .ok (.iconst 0, 1) := by decide +kernel
theorem dX1_passWaits_6 : decode cX1_passWaits 6 = .ok (.istore_n 2, 1) := by decide +kernel
theorem dX1_passWaits_7 : decode cX1_passWaits 7 = .ok (.iload_n 2, 1) := by decide +kernel
theorem dX1_passWaits_8 : decode cX1_passWaits 8 = .ok (.bipush 6, 2) := by decide +kernel
theorem dX1_passWaits_10 : decode cX1_passWaits 10 = .ok (.if_icmp .ge 95, 3) := by decide +kernel
theorem dX1_passWaits_13 : decode cX1_passWaits 13 = .ok (.aload_n 0, 1) := by decide +kernel
theorem dX1_passWaits_14 : decode cX1_passWaits 14 = .ok (.getfield 23, 3) := by decide +kernel
theorem dX1_passWaits_17 : decode cX1_passWaits 17 = .ok (.iload_n 2, 1) := by decide +kernel
theorem dX1_passWaits_18 : decode cX1_passWaits 18 = .ok (.invokevirtual 58, 3) := by decide +kernel
theorem dX1_passWaits_21 : decode cX1_passWaits 21 = .ok (.istore_n 3, 1) := by decide +kernel
theorem dX1_passWaits_22 : decode cX1_passWaits 22 = .ok (.iload_n 3, 1) := by decide +kernel
theorem dX1_passWaits_23 : decode cX1_passWaits 23 = .ok (.iconst (-1), 1) := by decide +kernel
theorem dX1_passWaits_24 : decode cX1_passWaits 24 = .ok (.if_icmp .ne 6, 3) := by decide +kernel
theorem dX1_passWaits_27 : decode cX1_passWaits 27 = .ok (.goto 72, 3) := by decide +kernel
theorem dX1_passWaits_30 : decode cX1_passWaits 30 = .ok (.iload_n 1, 1) := by decide +kernel
theorem dX1_passWaits_31 : decode cX1_passWaits 31 = .ok (.iload_n 2, 1) := by decide +kernel
theorem dX1_passWaits_32 : decode cX1_passWaits 32 = .ok (.invokestatic 89, 3) := by decide +kernel
theorem dX1_passWaits_35 : decode cX1_passWaits 35 = .ok (.ifCond .eq 53, 3) := by decide +kernel
theorem dX1_passWaits_38 : decode cX1_passWaits 38 = .ok (.aload_n 0, 1) := by decide +kernel
theorem dX1_passWaits_39 : decode cX1_passWaits 39 = .ok (.getfield 23, 3) := by decide +kernel
theorem dX1_passWaits_42 : decode cX1_passWaits 42 = .ok (.iload_n 2, 1) := by decide +kernel
theorem dX1_passWaits_43 : decode cX1_passWaits 43 = .ok (.iconst (-1), 1) := by decide +kernel
theorem dX1_passWaits_44 : decode cX1_passWaits 44 = .ok (.invokevirtual 93, 3) := by decide +kernel
theorem dX1_passWaits_47 : decode cX1_passWaits 47 = .ok (.aload_n 0, 1) := by decide +kernel
theorem dX1_passWaits_48 : decode cX1_passWaits 48 = .ok (.getfield 27, 3) := by decide +kernel
theorem dX1_passWaits_51 : decode cX1_passWaits 51 = .ok (.iload_n 2, 1) := by decide +kernel
theorem dX1_passWaits_52 : decode cX1_passWaits 52 = .ok (.aload_n 0, 1) := by decide +kernel
theorem dX1_passWaits_53 : decode cX1_passWaits 53 = .ok (.getfield 27, 3) := by decide +kernel
theorem dX1_passWaits_56 : decode cX1_passWaits 56 = .ok (.iload_n 2, 1) := by decide +kernel
theorem dX1_passWaits_57 : decode cX1_passWaits 57 = .ok (.invokevirtual 58, 3) := by decide +kernel
theorem dX1_passWaits_60 : decode cX1_passWaits 60 = .ok (.iconst 1, 1) := by decide +kernel
theorem dX1_passWaits_61 : decode cX1_passWaits 61 = .ok (.iadd, 1) := by decide +kernel
theorem dX1_passWaits_62 : decode cX1_passWaits 62 = .ok (.invokevirtual 93, 3) := by decide +kernel
theorem dX1_passWaits_65 : decode cX1_passWaits 65 = .ok (.aload_n 0, 1) := by decide +kernel
theorem dX1_passWaits_66 : decode cX1_passWaits 66 = .ok (.getfield 30, 3) := by decide +kernel
theorem dX1_passWaits_69 : decode cX1_passWaits 69 = .ok (.iload_n 2, 1) := by decide +kernel
theorem dX1_passWaits_70 : decode cX1_passWaits 70 = .ok (.aload_n 0, 1) := by decide +kernel
theorem dX1_passWaits_71 : decode cX1_passWaits 71 = .ok (.getfield 30, 3) := by decide +kernel
theorem dX1_passWaits_74 : decode cX1_passWaits 74 = .ok (.iload_n 2, 1) := by decide +kernel
theorem dX1_passWaits_75 : decode cX1_passWaits 75 = .ok (.invokevirtual 58, 3) := by decide +kernel
theorem dX1_passWaits_78 : decode cX1_passWaits 78 = .ok (.iload_n 3, 1) := by decide +kernel
theorem dX1_passWaits_79 : decode cX1_passWaits 79 = .ok (.invokestatic 97, 3) := by decide +kernel
theorem dX1_passWaits_82 : decode cX1_passWaits 82 = .ok (.invokevirtual 93, 3) := by decide +kernel
theorem dX1_passWaits_85 : decode cX1_passWaits 85 = .ok (.goto 14, 3) := by decide +kernel
theorem dX1_passWaits_88 : decode cX1_passWaits 88 = .ok (.aload_n 0, 1) := by decide +kernel
theorem dX1_passWaits_89 : decode cX1_passWaits 89 = .ok (.getfield 23, 3) := by decide +kernel
theorem dX1_passWaits_92 : decode cX1_passWaits 92 = .ok (.iload_n 2, 1) := by decide +kernel
theorem dX1_passWaits_93 : decode cX1_passWaits 93 = .ok (.iload_n 3, 1) := by decide +kernel
theorem dX1_passWaits_94 : decode cX1_passWaits 94 = .ok (.iconst 1, 1) := by decide +kernel
theorem dX1_passWaits_95 : decode cX1_passWaits 95 = .ok (.iadd, 1) := by decide +kernel
theorem dX1_passWaits_96 : decode cX1_passWaits 96 = .ok (.invokevirtual 93, 3) := by decide +kernel
theorem dX1_passWaits_99 : decode cX1_passWaits 99 = .ok (.iinc 2 1, 3) := by decide +kernel
theorem dX1_passWaits_102 : decode cX1_passWaits 102 = .ok (.goto (-95), 3) := by decide +kernel
theorem dX1_passWaits_105 : decode cX1_passWaits 105 = .ok (.return_, 1) := by decide +kernel
set_option maxRecDepth 20000 in
theorem ggX1_followRule_X1_waiting : GoodIn wsX1_followRule wsX1_waiting := goodIn_r _ [8, 9, 10, 11, 12, 13, 14, 15, 54, 55, 56, 57, 58, 59, 60, 61, 62, 63, 72] (by decide +kernel) (by decide +kernel)
set_option maxRecDepth 20000 in
theorem gX1_followRule_X1_waiting : GoodIn wsX1_followRule (wsV RX1 102 RX1 yX1_waiting wsX1_waiting) := goodIn_app (goodIn_of _ (by decide +kernel)) ggX1_followRule_X1_waiting
set_option maxRecDepth 20000 in
theorem ggX1_followRule_X5_at : GoodIn wsX1_followRule wsX5_at := goodIn_r _ [14, 15, 72] (by decide +kernel) (by decide +kernel)
set_option maxRecDepth 20000 in
theorem gX1_followRule_X5_at : GoodIn wsX1_followRule (wsV RX1 58 RX5 yX5_at wsX5_at) := goodIn_app (goodIn_of _ (by decide +kernel)) ggX1_followRule_X5_at
set_option maxRecDepth 20000 in
theorem ggX1_followRule_X1_ruleHolds : GoodIn wsX1_followRule wsX1_ruleHolds := goodIn_r _ [19, 1, 20, 21, 22, 23, 24, 25, 26, 11, 12, 13, 14, 15, 54, 55, 56, 57, 58, 59, 60, 61, 62, 63, 64, 65, 66, 67, 68, 69, 70, 71, 72] (by decide +kernel) (by decide +kernel)
set_option maxRecDepth 20000 in
theorem gX1_followRule_X1_ruleHolds : GoodIn wsX1_followRule (wsV RX1 108 RX1 yX1_ruleHolds wsX1_ruleHolds) := goodIn_app (goodIn_of _ (by decide +kernel)) ggX1_followRule_X1_ruleHolds
set_option maxRecDepth 20000 in
theorem ggX1_followRule_X2_goalOf : GoodIn wsX1_followRule wsX2_goalOf := goodIn_r _ [30, 31, 26, 11, 12, 13, 14, 15, 64, 65, 66, 67, 68, 69, 70, 71, 72] (by decide +kernel) (by decide +kernel)
set_option maxRecDepth 20000 in
theorem gX1_followRule_X2_goalOf : GoodIn wsX1_followRule (wsV RX1 112 RX2 yX2_goalOf wsX2_goalOf) := goodIn_app (goodIn_of _ (by decide +kernel)) ggX1_followRule_X2_goalOf
set_option maxRecDepth 20000 in
theorem ggX1_followRule_X1_leaveFor : GoodIn wsX1_followRule wsX1_leaveFor := goodIn_r _ [35, 3, 36, 1, 37, 38, 39, 40, 23, 41, 42, 43, 26, 11, 12, 13, 14, 15, 44, 45, 46, 7, 47, 48, 49, 10, 50, 51, 52, 53, 54, 55, 56, 57, 58, 59, 60, 61, 62, 63, 64, 65, 66, 67, 68, 69, 70, 71, 72] (by decide +kernel) (by decide +kernel)
set_option maxRecDepth 20000 in
theorem gX1_followRule_X1_leaveFor : GoodIn wsX1_followRule (wsV RX1 115 RX1 yX1_leaveFor wsX1_leaveFor) := goodIn_app (goodIn_of _ (by decide +kernel)) ggX1_followRule_X1_leaveFor
theorem dX1_followRule_0 : decode cX1_followRule 0 = .ok (.aload_n 0, 1) := by decide +kernel
theorem dX1_followRule_1 : decode cX1_followRule 1 = .ok (.invokevirtual 102, 3) := by decide +kernel
theorem dX1_followRule_4 : decode cX1_followRule 4 = .ok (.istore_n 1, 1) := by decide +kernel
theorem dX1_followRule_5 : decode cX1_followRule 5 = .ok (.aload_n 0, 1) := by decide +kernel
theorem dX1_followRule_6 : decode cX1_followRule 6 = .ok (.getfield 12, 3) := by decide +kernel
theorem dX1_followRule_9 : decode cX1_followRule 9 = .ok (.getfield 105, 3) := by decide +kernel
theorem dX1_followRule_12 : decode cX1_followRule 12 = .ok (.aload_n 0, 1) := by decide +kernel
theorem dX1_followRule_13 : decode cX1_followRule 13 = .ok (.getfield 36, 3) := by decide +kernel
theorem dX1_followRule_16 : decode cX1_followRule 16 = .ok (.invokevirtual 58, 3) := by decide +kernel
theorem dX1_followRule_19 : decode cX1_followRule 19 = .ok (.istore_n 2, 1) := by decide +kernel
theorem dX1_followRule_20 : decode cX1_followRule 20 = .ok (.iconst 0, 1) := by decide +kernel
theorem dX1_followRule_21 : decode cX1_followRule 21 = .ok (.istore_n 3, 1) := by decide +kernel
theorem dX1_followRule_22 : decode cX1_followRule 22 = .ok (.iload_n 3, 1) := by decide +kernel
theorem dX1_followRule_23 : decode cX1_followRule 23 = .ok (.iload_n 2, 1) := by decide +kernel
theorem dX1_followRule_24 : decode cX1_followRule 24 = .ok (.if_icmp .ge 39, 3) := by decide +kernel
theorem dX1_followRule_27 : decode cX1_followRule 27 = .ok (.aload_n 0, 1) := by decide +kernel
theorem dX1_followRule_28 : decode cX1_followRule 28 = .ok (.aload_n 0, 1) := by decide +kernel
theorem dX1_followRule_29 : decode cX1_followRule 29 = .ok (.getfield 36, 3) := by decide +kernel
theorem dX1_followRule_32 : decode cX1_followRule 32 = .ok (.iload_n 3, 1) := by decide +kernel
theorem dX1_followRule_33 : decode cX1_followRule 33 = .ok (.iload_n 1, 1) := by decide +kernel
theorem dX1_followRule_34 : decode cX1_followRule 34 = .ok (.invokevirtual 108, 3) := by decide +kernel
theorem dX1_followRule_37 : decode cX1_followRule 37 = .ok (.ifCond .eq 20, 3) := by decide +kernel
theorem dX1_followRule_40 : decode cX1_followRule 40 = .ok (.aload_n 0, 1) := by decide +kernel
theorem dX1_followRule_41 : decode cX1_followRule 41 = .ok (.aload_n 0, 1) := by decide +kernel
theorem dX1_followRule_42 : decode cX1_followRule 42 = .ok (.getfield 12, 3) := by decide +kernel
theorem dX1_followRule_45 : decode cX1_followRule 45 = .ok (.aload_n 0, 1) := by decide +kernel
theorem dX1_followRule_46 : decode cX1_followRule 46 = .ok (.getfield 36, 3) := by decide +kernel
theorem dX1_followRule_49 : decode cX1_followRule 49 = .ok (.iload_n 3, 1) := by decide +kernel
theorem dX1_followRule_50 : decode cX1_followRule 50 = .ok (.invokevirtual 112, 3) := by decide +kernel
theorem dX1_followRule_53 : decode cX1_followRule 53 = .ok (.invokevirtual 115, 3) := by decide +kernel
theorem dX1_followRule_56 : decode cX1_followRule 56 = .ok (.return_, 1) := by decide +kernel
theorem dX1_followRule_57 : decode cX1_followRule 57 = .ok (.iinc 3 1, 3) := by decide +kernel
theorem dX1_followRule_60 : decode cX1_followRule 60 = .ok (.goto (-38), 3) := by decide +kernel
theorem dX1_followRule_63 : decode cX1_followRule 63 = .ok (.return_, 1) := by decide +kernel
set_option maxRecDepth 20000 in
theorem ggX1_leaveFor_X2_clearingBetween : GoodIn wsX1_leaveFor wsX2_clearingBetween := goodIn_r _ [9, 10, 11, 12, 13, 14, 15, 16, 17, 40, 41, 42, 43, 44, 45, 46, 47, 48] (by decide +kernel) (by decide +kernel)
set_option maxRecDepth 20000 in
theorem gX1_leaveFor_X2_clearingBetween : GoodIn wsX1_leaveFor (wsV RX1 118 RX2 yX2_clearingBetween wsX2_clearingBetween) := goodIn_app (goodIn_of _ (by decide +kernel)) ggX1_leaveFor_X2_clearingBetween
set_option maxRecDepth 20000 in
theorem ggX1_leaveFor_X1_arrive : GoodIn wsX1_leaveFor wsX1_arrive := goodIn_r _ [22, 23, 24, 1, 25, 13, 14, 15, 16, 17, 26, 27, 28, 29, 30, 31, 32, 33, 34, 35, 36, 37, 38, 39, 48] (by decide +kernel) (by decide +kernel)
set_option maxRecDepth 20000 in
theorem gX1_leaveFor_X1_arrive : GoodIn wsX1_leaveFor (wsV RX1 76 RX1 yX1_arrive wsX1_arrive) := goodIn_app (goodIn_of _ (by decide +kernel)) ggX1_leaveFor_X1_arrive
theorem dX1_leaveFor_0 : decode cX1_leaveFor 0 = .ok (.aload_n 0, 1) := by decide +kernel
theorem dX1_leaveFor_1 : decode cX1_leaveFor 1 = .ok (.aload_n 0, 1) := by decide +kernel
theorem dX1_leaveFor_2 : decode cX1_leaveFor 2 = .ok (.getfield 36, 3) := by decide +kernel
theorem dX1_leaveFor_5 : decode cX1_leaveFor 5 = .ok (.putfield 40, 3) := by decide +kernel
theorem dX1_leaveFor_8 : decode cX1_leaveFor 8 = .ok (.aload_n 0, 1) := by decide +kernel
theorem dX1_leaveFor_9 : decode cX1_leaveFor 9 = .ok (.iload_n 1, 1) := by decide +kernel
theorem dX1_leaveFor_10 : decode cX1_leaveFor 10 = .ok (.putfield 36, 3) := by decide +kernel
theorem dX1_leaveFor_13 : decode cX1_leaveFor 13 = .ok (.aload_n 0, 1) := by decide +kernel
theorem dX1_leaveFor_14 : decode cX1_leaveFor 14 = .ok (.aload_n 0, 1) := by decide +kernel
theorem dX1_leaveFor_15 : decode cX1_leaveFor 15 = .ok (.getfield 12, 3) := by decide +kernel
theorem dX1_leaveFor_18 : decode cX1_leaveFor 18 = .ok (.aload_n 0, 1) := by decide +kernel
theorem dX1_leaveFor_19 : decode cX1_leaveFor 19 = .ok (.getfield 40, 3) := by decide +kernel
theorem dX1_leaveFor_22 : decode cX1_leaveFor 22 = .ok (.iload_n 1, 1) := by decide +kernel
theorem dX1_leaveFor_23 : decode cX1_leaveFor 23 = .ok (.invokevirtual 118, 3) := by decide +kernel
theorem dX1_leaveFor_26 : decode cX1_leaveFor 26 = .ok (.putfield 46, 3) := by decide +kernel
theorem dX1_leaveFor_29 : decode cX1_leaveFor 29 = .ok (.aload_n 0, 1) := by decide +kernel
theorem dX1_leaveFor_30 : decode cX1_leaveFor 30 = .ok (.getfield 46, 3) := by decide +kernel
theorem dX1_leaveFor_33 : decode cX1_leaveFor 33 = .ok (.ifCond .ne 7, 3) := by decide +kernel
theorem dX1_leaveFor_36 : decode cX1_leaveFor 36 = .ok (.aload_n 0, 1) := by decide +kernel
theorem dX1_leaveFor_37 : decode cX1_leaveFor 37 = .ok (.invokevirtual 76, 3) := by decide +kernel
theorem dX1_leaveFor_40 : decode cX1_leaveFor 40 = .ok (.return_, 1) := by decide +kernel
set_option maxRecDepth 20000 in
theorem ggX1_arrive_X5_at : GoodIn wsX1_arrive wsX5_at := goodIn_r _ [8, 9, 24] (by decide +kernel) (by decide +kernel)
set_option maxRecDepth 20000 in
theorem gX1_arrive_X5_at : GoodIn wsX1_arrive (wsV RX1 58 RX5 yX5_at wsX5_at) := goodIn_app (goodIn_of _ (by decide +kernel)) ggX1_arrive_X5_at
set_option maxRecDepth 20000 in
theorem ggX1_arrive_X5_put : GoodIn wsX1_arrive wsX5_put := goodIn_r _ [13, 9, 24] (by decide +kernel) (by decide +kernel)
set_option maxRecDepth 20000 in
theorem gX1_arrive_X5_put : GoodIn wsX1_arrive (wsV RX1 93 RX5 yX5_put wsX5_put) := goodIn_app (goodIn_of _ (by decide +kernel)) ggX1_arrive_X5_put
theorem dX1_arrive_0 : decode cX1_arrive 0 = .ok (.aload_n 0, 1) := by decide +kernel
theorem dX1_arrive_1 : decode cX1_arrive 1 = .ok (.iconst 0, 1) := by decide +kernel
theorem dX1_arrive_2 : decode cX1_arrive 2 = .ok (.putfield 43, 3) := by decide +kernel
theorem dX1_arrive_5 : decode cX1_arrive 5 = .ok (.aload_n 0, 1) := by decide +kernel
theorem dX1_arrive_6 : decode cX1_arrive 6 = .ok (.getfield 33, 3) := by decide +kernel
theorem dX1_arrive_9 : decode cX1_arrive 9 = .ok (.aload_n 0, 1) := by decide +kernel
theorem dX1_arrive_10 : decode cX1_arrive 10 = .ok (.getfield 36, 3) := by decide +kernel
theorem dX1_arrive_13 : decode cX1_arrive 13 = .ok (.aload_n 0, 1) := by decide +kernel
theorem dX1_arrive_14 : decode cX1_arrive 14 = .ok (.getfield 33, 3) := by decide +kernel
theorem dX1_arrive_17 : decode cX1_arrive 17 = .ok (.aload_n 0, 1) := by decide +kernel
theorem dX1_arrive_18 : decode cX1_arrive 18 = .ok (.getfield 36, 3) := by decide +kernel
theorem dX1_arrive_21 : decode cX1_arrive 21 = .ok (.invokevirtual 58, 3) := by decide +kernel
theorem dX1_arrive_24 : decode cX1_arrive 24 = .ok (.iconst 1, 1) := by decide +kernel
theorem dX1_arrive_25 : decode cX1_arrive 25 = .ok (.iadd, 1) := by decide +kernel
theorem dX1_arrive_26 : decode cX1_arrive 26 = .ok (.invokevirtual 93, 3) := by decide +kernel
theorem dX1_arrive_29 : decode cX1_arrive 29 = .ok (.return_, 1) := by decide +kernel
set_option maxRecDepth 20000 in
theorem ggX1_copyFrom_X2_copyFrom : GoodIn wsX1_copyFrom wsX2_copyFrom := goodIn_r _ [15, 16, 17, 18, 19, 20, 21, 22, 23, 24, 25, 26, 27, 28, 29, 30, 31, 32, 33, 45, 46, 47, 48, 49, 50, 51, 52, 53] (by decide +kernel) (by decide +kernel)
set_option maxRecDepth 20000 in
theorem gX1_copyFrom_X2_copyFrom : GoodIn wsX1_copyFrom (wsV RX1 121 RX2 yX2_copyFrom wsX2_copyFrom) := goodIn_app (goodIn_of _ (by decide +kernel)) ggX1_copyFrom_X2_copyFrom
set_option maxRecDepth 20000 in
theorem ggX1_copyFrom_X5_copyFrom : GoodIn wsX1_copyFrom wsX5_copyFrom := goodIn_r _ [28, 29, 30, 31, 32, 27, 33, 53] (by decide +kernel) (by decide +kernel)
set_option maxRecDepth 20000 in
theorem gX1_copyFrom_X5_copyFrom : GoodIn wsX1_copyFrom (wsV RX1 125 RX5 yX5_copyFrom wsX5_copyFrom) := goodIn_app (goodIn_of _ (by decide +kernel)) ggX1_copyFrom_X5_copyFrom
theorem dX1_copyFrom_0 : decode cX1_copyFrom 0 = .ok (.aload_n 0, 1) := by decide +kernel
theorem dX1_copyFrom_1 : decode cX1_copyFrom 1 = .ok (.getfield 12, 3) := by decide +kernel
theorem dX1_copyFrom_4 : decode cX1_copyFrom 4 = .ok (.aload_n 1, 1) := by decide +kernel
theorem dX1_copyFrom_5 : decode cX1_copyFrom 5 = .ok (.getfield 12, 3) := by decide +kernel
theorem dX1_copyFrom_8 : decode cX1_copyFrom 8 = .ok (.invokevirtual 121, 3) := by decide +kernel
theorem dX1_copyFrom_11 : decode cX1_copyFrom 11 = .ok (.aload_n 0, 1) := by decide +kernel
theorem dX1_copyFrom_12 : decode cX1_copyFrom 12 = .ok (.getfield 23, 3) := by decide +kernel
theorem dX1_copyFrom_15 : decode cX1_copyFrom 15 = .ok (.aload_n 1, 1) := by decide +kernel
theorem dX1_copyFrom_16 : decode cX1_copyFrom 16 = .ok (.getfield 23, 3) := by decide +kernel
theorem dX1_copyFrom_19 : decode cX1_copyFrom 19 = .ok (.invokevirtual 125, 3) := by decide +kernel
theorem dX1_copyFrom_22 : decode cX1_copyFrom 22 = .ok (.aload_n 0, 1) := by decide +kernel
theorem dX1_copyFrom_23 : decode cX1_copyFrom 23 = .ok (.getfield 27, 3) := by decide +kernel
theorem dX1_copyFrom_26 : decode cX1_copyFrom 26 = .ok (.aload_n 1, 1) := by decide +kernel
theorem dX1_copyFrom_27 : decode cX1_copyFrom 27 = .ok (.getfield 27, 3) := by decide +kernel
theorem dX1_copyFrom_30 : decode cX1_copyFrom 30 = .ok (.invokevirtual 125, 3) := by decide +kernel
theorem dX1_copyFrom_33 : decode cX1_copyFrom 33 = .ok (.aload_n 0, 1) := by decide +kernel
theorem dX1_copyFrom_34 : decode cX1_copyFrom 34 = .ok (.getfield 30, 3) := by decide +kernel
theorem dX1_copyFrom_37 : decode cX1_copyFrom 37 = .ok (.aload_n 1, 1) := by decide +kernel
theorem dX1_copyFrom_38 : decode cX1_copyFrom 38 = .ok (.getfield 30, 3) := by decide +kernel
theorem dX1_copyFrom_41 : decode cX1_copyFrom 41 = .ok (.invokevirtual 125, 3) := by decide +kernel
theorem dX1_copyFrom_44 : decode cX1_copyFrom 44 = .ok (.aload_n 0, 1) := by decide +kernel
theorem dX1_copyFrom_45 : decode cX1_copyFrom 45 = .ok (.getfield 33, 3) := by decide +kernel
theorem dX1_copyFrom_48 : decode cX1_copyFrom 48 = .ok (.aload_n 1, 1) := by decide +kernel
theorem dX1_copyFrom_49 : decode cX1_copyFrom 49 = .ok (.getfield 33, 3) := by decide +kernel
theorem dX1_copyFrom_52 : decode cX1_copyFrom 52 = .ok (.invokevirtual 125, 3) := by decide +kernel
theorem dX1_copyFrom_55 : decode cX1_copyFrom 55 = .ok (.aload_n 0, 1) := by decide +kernel
theorem dX1_copyFrom_56 : decode cX1_copyFrom 56 = .ok (.aload_n 1, 1) := by decide +kernel
theorem dX1_copyFrom_57 : decode cX1_copyFrom 57 = .ok (.getfield 36, 3) := by decide +kernel
theorem dX1_copyFrom_60 : decode cX1_copyFrom 60 = .ok (.putfield 36, 3) := by decide +kernel
theorem dX1_copyFrom_63 : decode cX1_copyFrom 63 = .ok (.aload_n 0, 1) := by decide +kernel
theorem dX1_copyFrom_64 : decode cX1_copyFrom 64 = .ok (.aload_n 1, 1) := by decide +kernel
theorem dX1_copyFrom_65 : decode cX1_copyFrom 65 = .ok (.getfield 40, 3) := by decide +kernel
theorem dX1_copyFrom_68 : decode cX1_copyFrom 68 = .ok (.putfield 40, 3) := by decide +kernel
theorem dX1_copyFrom_71 : decode cX1_copyFrom 71 = .ok (.aload_n 0, 1) := by decide +kernel
theorem dX1_copyFrom_72 : decode cX1_copyFrom 72 = .ok (.aload_n 1, 1) := by decide +kernel
theorem dX1_copyFrom_73 : decode cX1_copyFrom 73 = .ok (.getfield 43, 3) := by decide +kernel
theorem dX1_copyFrom_76 : decode cX1_copyFrom 76 = .ok (.putfield 43, 3) := by decide +kernel
theorem dX1_copyFrom_79 : decode cX1_copyFrom 79 = .ok (.aload_n 0, 1) := by decide +kernel
theorem dX1_copyFrom_80 : decode cX1_copyFrom 80 = .ok (.aload_n 1, 1) := by decide +kernel
theorem dX1_copyFrom_81 : decode cX1_copyFrom 81 = .ok (.getfield 46, 3) := by decide +kernel
theorem dX1_copyFrom_84 : decode cX1_copyFrom 84 = .ok (.putfield 46, 3) := by decide +kernel
theorem dX1_copyFrom_87 : decode cX1_copyFrom 87 = .ok (.aload_n 0, 1) := by decide +kernel
theorem dX1_copyFrom_88 : decode cX1_copyFrom 88 = .ok (.aload_n 1, 1) := by decide +kernel
theorem dX1_copyFrom_89 : decode cX1_copyFrom 89 = .ok (.getfield 49, 3) := by decide +kernel
theorem dX1_copyFrom_92 : decode cX1_copyFrom 92 = .ok (.putfield 49, 3) := by decide +kernel
theorem dX1_copyFrom_95 : decode cX1_copyFrom 95 = .ok (.return_, 1) := by decide +kernel
set_option maxRecDepth 20000 in
theorem ggX2_init_X5_init : GoodIn wsX2_init wsX5_init := goodIn_r _ [17, 18, 2, 3, 19, 20, 21] (by decide +kernel) (by decide +kernel)
set_option maxRecDepth 20000 in
theorem gX2_init_X5_init : GoodIn wsX2_init (wsX5_init) := ggX2_init_X5_init
theorem dX2_init_0 : decode cX2_init 0 = .ok (.aload_n 0, 1) := by decide +kernel
theorem dX2_init_1 : decode cX2_init 1 = .ok (.invokespecial 3, 3) := by decide +kernel
theorem dX2_init_4 : decode cX2_init 4 = .ok (.aload_n 0, 1) := by decide +kernel
theorem dX2_init_5 : decode cX2_init 5 = .ok (.new 9, 3) := by decide +kernel
theorem dX2_init_8 : decode cX2_init 8 = .ok (.dup, 1) := by decide +kernel
theorem dX2_init_9 : decode cX2_init 9 = .ok (.bipush 6, 2) := by decide +kernel
theorem dX2_init_11 : decode cX2_init 11 = .ok (.invokespecial 11, 3) := by decide +kernel
theorem dX2_init_14 : decode cX2_init 14 = .ok (.putfield 14, 3) := by decide +kernel
theorem dX2_init_17 : decode cX2_init 17 = .ok (.aload_n 0, 1) := by decide +kernel
theorem dX2_init_18 : decode cX2_init 18 = .ok (.new 9, 3) := by decide +kernel
theorem dX2_init_21 : decode cX2_init 21 = .ok (.dup, 1) := by decide +kernel
theorem dX2_init_22 : decode cX2_init 22 = .ok (.bipush 8, 2) := by decide +kernel
theorem dX2_init_24 : decode cX2_init 24 = .ok (.invokespecial 11, 3) := by decide +kernel
theorem dX2_init_27 : decode cX2_init 27 = .ok (.putfield 20, 3) := by decide +kernel
theorem dX2_init_30 : decode cX2_init 30 = .ok (.aload_n 0, 1) := by decide +kernel
theorem dX2_init_31 : decode cX2_init 31 = .ok (.new 9, 3) := by decide +kernel
theorem dX2_init_34 : decode cX2_init 34 = .ok (.dup, 1) := by decide +kernel
theorem dX2_init_35 : decode cX2_init 35 = .ok (.bipush 8, 2) := by decide +kernel
theorem dX2_init_37 : decode cX2_init 37 = .ok (.invokespecial 11, 3) := by decide +kernel
theorem dX2_init_40 : decode cX2_init 40 = .ok (.putfield 23, 3) := by decide +kernel
theorem dX2_init_43 : decode cX2_init 43 = .ok (.aload_n 0, 1) := by decide +kernel
theorem dX2_init_44 : decode cX2_init 44 = .ok (.new 9, 3) := by decide +kernel
theorem dX2_init_47 : decode cX2_init 47 = .ok (.dup, 1) := by decide +kernel
theorem dX2_init_48 : decode cX2_init 48 = .ok (.bipush 8, 2) := by decide +kernel
theorem dX2_init_50 : decode cX2_init 50 = .ok (.invokespecial 11, 3) := by decide +kernel
theorem dX2_init_53 : decode cX2_init 53 = .ok (.putfield 26, 3) := by decide +kernel
theorem dX2_init_56 : decode cX2_init 56 = .ok (.aload_n 0, 1) := by decide +kernel
theorem dX2_init_57 : decode cX2_init 57 = .ok (.new 9, 3) := by decide +kernel
theorem dX2_init_60 : decode cX2_init 60 = .ok (.dup, 1) := by decide +kernel
theorem dX2_init_61 : decode cX2_init 61 = .ok (.bipush 32, 2) := by decide +kernel
theorem dX2_init_63 : decode cX2_init 63 = .ok (.invokespecial 11, 3) := by decide +kernel
theorem dX2_init_66 : decode cX2_init 66 = .ok (.putfield 29, 3) := by decide +kernel
theorem dX2_init_69 : decode cX2_init 69 = .ok (.aload_n 0, 1) := by decide +kernel
theorem dX2_init_70 : decode cX2_init 70 = .ok (.new 9, 3) := by decide +kernel
theorem dX2_init_73 : decode cX2_init 73 = .ok (.dup, 1) := by decide +kernel
theorem dX2_init_74 : decode cX2_init 74 = .ok (.bipush 32, 2) := by decide +kernel
theorem dX2_init_76 : decode cX2_init 76 = .ok (.invokespecial 11, 3) := by decide +kernel
theorem dX2_init_79 : decode cX2_init 79 = .ok (.putfield 32, 3) := by decide +kernel
theorem dX2_init_82 : decode cX2_init 82 = .ok (.aload_n 0, 1) := by decide +kernel
theorem dX2_init_83 : decode cX2_init 83 = .ok (.iconst 0, 1) := by decide +kernel
theorem dX2_init_84 : decode cX2_init 84 = .ok (.putfield 35, 3) := by decide +kernel
theorem dX2_init_87 : decode cX2_init 87 = .ok (.aload_n 0, 1) := by decide +kernel
theorem dX2_init_88 : decode cX2_init 88 = .ok (.iconst 2, 1) := by decide +kernel
theorem dX2_init_89 : decode cX2_init 89 = .ok (.putfield 39, 3) := by decide +kernel
theorem dX2_init_92 : decode cX2_init 92 = .ok (.return_, 1) := by decide +kernel
theorem dX2_hasPhase_0 : decode cX2_hasPhase 0 = .ok (.iload_n 1, 1) := by decide +kernel
theorem dX2_hasPhase_1 : decode cX2_hasPhase 1 = .ok (.ifCond .lt 15, 3) := by decide +kernel
theorem dX2_hasPhase_4 : decode cX2_hasPhase 4 = .ok (.iload_n 1, 1) := by decide +kernel
theorem dX2_hasPhase_5 : decode cX2_hasPhase 5 = .ok (.aload_n 0, 1) := by decide +kernel
theorem dX2_hasPhase_6 : decode cX2_hasPhase 6 = .ok (.getfield 35, 3) := by decide +kernel
theorem dX2_hasPhase_9 : decode cX2_hasPhase 9 = .ok (.if_icmp .ge 7, 3) := by decide +kernel
theorem dX2_hasPhase_12 : decode cX2_hasPhase 12 = .ok (.iconst 1, 1) := by decide +kernel
theorem dX2_hasPhase_13 : decode cX2_hasPhase 13 = .ok (.goto 4, 3) := by decide +kernel
theorem dX2_hasPhase_16 : decode cX2_hasPhase 16 = .ok (.iconst 0, 1) := by decide +kernel
theorem dX2_hasPhase_17 : decode cX2_hasPhase 17 = .ok (.ireturn, 1) := by decide +kernel
theorem dX2_isFull_0 : decode cX2_isFull 0 = .ok (.aload_n 0, 1) := by decide +kernel
theorem dX2_isFull_1 : decode cX2_isFull 1 = .ok (.getfield 35, 3) := by decide +kernel
theorem dX2_isFull_4 : decode cX2_isFull 4 = .ok (.bipush 8, 2) := by decide +kernel
theorem dX2_isFull_6 : decode cX2_isFull 6 = .ok (.if_icmp .lt 7, 3) := by decide +kernel
theorem dX2_isFull_9 : decode cX2_isFull 9 = .ok (.iconst 1, 1) := by decide +kernel
theorem dX2_isFull_10 : decode cX2_isFull 10 = .ok (.goto 4, 3) := by decide +kernel
theorem dX2_isFull_13 : decode cX2_isFull 13 = .ok (.iconst 0, 1) := by decide +kernel
theorem dX2_isFull_14 : decode cX2_isFull 14 = .ok (.ireturn, 1) := by decide +kernel
set_option maxRecDepth 20000 in
theorem ggX2_isFullOfRules_X5_at : GoodIn wsX2_isFullOfRules wsX5_at := goodIn_r _ [6, 7, 16] (by decide +kernel) (by decide +kernel)
set_option maxRecDepth 20000 in
theorem gX2_isFullOfRules_X5_at : GoodIn wsX2_isFullOfRules (wsV RX2 42 RX5 yX5_at wsX5_at) := goodIn_app (goodIn_of _ (by decide +kernel)) ggX2_isFullOfRules_X5_at
theorem dX2_isFullOfRules_0 : decode cX2_isFullOfRules 0 = .ok (.aload_n 0, 1) := by decide +kernel
theorem dX2_isFullOfRules_1 : decode cX2_isFullOfRules 1 = .ok (.getfield 26, 3) := by decide +kernel
theorem dX2_isFullOfRules_4 : decode cX2_isFullOfRules 4 = .ok (.iload_n 1, 1) := by decide +kernel
theorem dX2_isFullOfRules_5 : decode cX2_isFullOfRules 5 = .ok (.invokevirtual 42, 3) := by decide +kernel
theorem dX2_isFullOfRules_8 : decode cX2_isFullOfRules 8 = .ok (.iconst 4, 1) := by decide +kernel
theorem dX2_isFullOfRules_9 : decode cX2_isFullOfRules 9 = .ok (.if_icmp .lt 7, 3) := by decide +kernel
theorem dX2_isFullOfRules_12 : decode cX2_isFullOfRules 12 = .ok (.iconst 1, 1) := by decide +kernel
theorem dX2_isFullOfRules_13 : decode cX2_isFullOfRules 13 = .ok (.goto 4, 3) := by decide +kernel
theorem dX2_isFullOfRules_16 : decode cX2_isFullOfRules 16 = .ok (.iconst 0, 1) := by decide +kernel
theorem dX2_isFullOfRules_17 : decode cX2_isFullOfRules 17 = .ok (.ireturn, 1) := by decide +kernel
set_option maxRecDepth 20000 in
theorem ggX2_goalOf_X5_at : GoodIn wsX2_goalOf wsX5_at := goodIn_r _ [6, 7, 16] (by decide +kernel) (by decide +kernel)
set_option maxRecDepth 20000 in
theorem gX2_goalOf_X5_at : GoodIn wsX2_goalOf (wsV RX2 42 RX5 yX5_at wsX5_at) := goodIn_app (goodIn_of _ (by decide +kernel)) ggX2_goalOf_X5_at
theorem dX2_goalOf_0 : decode cX2_goalOf 0 = .ok (.aload_n 0, 1) := by decide +kernel
theorem dX2_goalOf_1 : decode cX2_goalOf 1 = .ok (.getfield 29, 3) := by decide +kernel
theorem dX2_goalOf_4 : decode cX2_goalOf 4 = .ok (.iload_n 1, 1) := by decide +kernel
theorem dX2_goalOf_5 : decode cX2_goalOf 5 = .ok (.iconst 4, 1) := by decide +kernel
theorem dX2_goalOf_6 : decode cX2_goalOf 6 = .ok (.imul, 1) := by decide +kernel
theorem dX2_goalOf_7 : decode cX2_goalOf 7 = .ok (.iload_n 2, 1) := by decide +kernel
theorem dX2_goalOf_8 : decode cX2_goalOf 8 = .ok (.iadd, 1) := by decide +kernel
theorem dX2_goalOf_9 : decode cX2_goalOf 9 = .ok (.invokevirtual 42, 3) := by decide +kernel
theorem dX2_goalOf_12 : decode cX2_goalOf 12 = .ok (.ireturn, 1) := by decide +kernel
set_option maxRecDepth 20000 in
theorem ggX2_askersOf_X5_at : GoodIn wsX2_askersOf wsX5_at := goodIn_r _ [6, 7, 16] (by decide +kernel) (by decide +kernel)
set_option maxRecDepth 20000 in
theorem gX2_askersOf_X5_at : GoodIn wsX2_askersOf (wsV RX2 42 RX5 yX5_at wsX5_at) := goodIn_app (goodIn_of _ (by decide +kernel)) ggX2_askersOf_X5_at
theorem dX2_askersOf_0 : decode cX2_askersOf 0 = .ok (.aload_n 0, 1) := by decide +kernel
theorem dX2_askersOf_1 : decode cX2_askersOf 1 = .ok (.getfield 32, 3) := by decide +kernel
theorem dX2_askersOf_4 : decode cX2_askersOf 4 = .ok (.iload_n 1, 1) := by decide +kernel
theorem dX2_askersOf_5 : decode cX2_askersOf 5 = .ok (.iconst 4, 1) := by decide +kernel
theorem dX2_askersOf_6 : decode cX2_askersOf 6 = .ok (.imul, 1) := by decide +kernel
theorem dX2_askersOf_7 : decode cX2_askersOf 7 = .ok (.iload_n 2, 1) := by decide +kernel
theorem dX2_askersOf_8 : decode cX2_askersOf 8 = .ok (.iadd, 1) := by decide +kernel
theorem dX2_askersOf_9 : decode cX2_askersOf 9 = .ok (.invokevirtual 42, 3) := by decide +kernel
theorem dX2_askersOf_12 : decode cX2_askersOf 12 = .ok (.ireturn, 1) := by decide +kernel
set_option maxRecDepth 20000 in
theorem ggX2_appendPhase_X5_put : GoodIn wsX2_appendPhase wsX5_put := goodIn_r _ [9, 10, 19] (by decide +kernel) (by decide +kernel)
set_option maxRecDepth 20000 in
theorem gX2_appendPhase_X5_put : GoodIn wsX2_appendPhase (wsV RX2 46 RX5 yX5_put wsX5_put) := goodIn_app (goodIn_of _ (by decide +kernel)) ggX2_appendPhase_X5_put
theorem dX2_appendPhase_0 : decode cX2_appendPhase 0 = .ok (.aload_n 0, 1) := by decide +kernel
theorem dX2_appendPhase_1 : decode cX2_appendPhase 1 = .ok (.getfield 35, 3) := by decide +kernel
theorem dX2_appendPhase_4 : decode cX2_appendPhase 4 = .ok (.istore_n 3, 1) := by decide +kernel
theorem dX2_appendPhase_5 : decode cX2_appendPhase 5 = .ok (.aload_n 0, 1) := by decide +kernel
theorem dX2_appendPhase_6 : decode cX2_appendPhase 6 = .ok (.getfield 20, 3) := by decide +kernel
theorem dX2_appendPhase_9 : decode cX2_appendPhase 9 = .ok (.iload_n 3, 1) := by decide +kernel
theorem dX2_appendPhase_10 : decode cX2_appendPhase 10 = .ok (.iload_n 1, 1) := by decide +kernel
theorem dX2_appendPhase_11 : decode cX2_appendPhase 11 = .ok (.invokevirtual 46, 3) := by decide +kernel
theorem dX2_appendPhase_14 : decode cX2_appendPhase 14 = .ok (.aload_n 0, 1) := by decide +kernel
theorem dX2_appendPhase_15 : decode cX2_appendPhase 15 = .ok (.getfield 23, 3) := by decide +kernel
theorem dX2_appendPhase_18 : decode cX2_appendPhase 18 = .ok (.iload_n 3, 1) := by decide +kernel
theorem dX2_appendPhase_19 : decode cX2_appendPhase 19 = .ok (.iload_n 2, 1) := by decide +kernel
theorem dX2_appendPhase_20 : decode cX2_appendPhase 20 = .ok (.invokevirtual 46, 3) := by decide +kernel
theorem dX2_appendPhase_23 : decode cX2_appendPhase 23 = .ok (.aload_n 0, 1) := by decide +kernel
theorem dX2_appendPhase_24 : decode cX2_appendPhase 24 = .ok (.getfield 26, 3) := by decide +kernel
theorem dX2_appendPhase_27 : decode cX2_appendPhase 27 = .ok (.iload_n 3, 1) := by decide +kernel
theorem dX2_appendPhase_28 : decode cX2_appendPhase 28 = .ok (.iconst 0, 1) := by decide +kernel
theorem dX2_appendPhase_29 : decode cX2_appendPhase 29 = .ok (.invokevirtual 46, 3) := by decide +kernel
theorem dX2_appendPhase_32 : decode cX2_appendPhase 32 = .ok (.aload_n 0, 1) := by decide +kernel
theorem dX2_appendPhase_33 : decode cX2_appendPhase 33 = .ok (.iload_n 3, 1) := by decide +kernel
theorem dX2_appendPhase_34 : decode cX2_appendPhase 34 = .ok (.iconst 1, 1) := by decide +kernel
theorem dX2_appendPhase_35 : decode cX2_appendPhase 35 = .ok (.iadd, 1) := by decide +kernel
theorem dX2_appendPhase_36 : decode cX2_appendPhase 36 = .ok (.putfield 35, 3) := by decide +kernel
theorem dX2_appendPhase_39 : decode cX2_appendPhase 39 = .ok (.iload_n 3, 1) := by decide +kernel
theorem dX2_appendPhase_40 : decode cX2_appendPhase 40 = .ok (.ireturn, 1) := by decide +kernel
set_option maxRecDepth 20000 in
theorem ggX2_appendRule_X5_at : GoodIn wsX2_appendRule wsX5_at := goodIn_r _ [8, 9, 22] (by decide +kernel) (by decide +kernel)
set_option maxRecDepth 20000 in
theorem gX2_appendRule_X5_at : GoodIn wsX2_appendRule (wsV RX2 42 RX5 yX5_at wsX5_at) := goodIn_app (goodIn_of _ (by decide +kernel)) ggX2_appendRule_X5_at
set_option maxRecDepth 20000 in
theorem ggX2_appendRule_X5_put : GoodIn wsX2_appendRule wsX5_put := goodIn_r _ [13, 9, 22] (by decide +kernel) (by decide +kernel)
set_option maxRecDepth 20000 in
theorem gX2_appendRule_X5_put : GoodIn wsX2_appendRule (wsV RX2 46 RX5 yX5_put wsX5_put) := goodIn_app (goodIn_of _ (by decide +kernel)) ggX2_appendRule_X5_put
theorem dX2_appendRule_0 : decode cX2_appendRule 0 = .ok (.aload_n 0, 1) := by decide +kernel
theorem dX2_appendRule_1 : decode cX2_appendRule 1 = .ok (.getfield 26, 3) := by decide +kernel
theorem dX2_appendRule_4 : decode cX2_appendRule 4 = .ok (.iload_n 1, 1) := by decide +kernel
theorem dX2_appendRule_5 : decode cX2_appendRule 5 = .ok (.invokevirtual 42, 3) := by decide +kernel
theorem dX2_appendRule_8 : decode cX2_appendRule 8 = .ok (.istore 4, 2) := by decide +kernel
theorem dX2_appendRule_10 : decode cX2_appendRule 10 = .ok (.aload_n 0, 1) := by decide +kernel
theorem dX2_appendRule_11 : decode cX2_appendRule 11 = .ok (.getfield 29, 3) := by decide +kernel
theorem dX2_appendRule_14 : decode cX2_appendRule 14 = .ok (.iload_n 1, 1) := by decide +kernel
theorem dX2_appendRule_15 : decode cX2_appendRule 15 = .ok (.iconst 4, 1) := by decide +kernel
theorem dX2_appendRule_16 : decode cX2_appendRule 16 = .ok (.imul, 1) := by decide +kernel
theorem dX2_appendRule_17 : decode cX2_appendRule 17 = .ok (.iload 4, 2) := by decide +kernel
theorem dX2_appendRule_19 : decode cX2_appendRule 19 = .ok (.iadd, 1) := by decide +kernel
theorem dX2_appendRule_20 : decode cX2_appendRule 20 = .ok (.iload_n 2, 1) := by decide +kernel
theorem dX2_appendRule_21 : decode cX2_appendRule 21 = .ok (.invokevirtual 46, 3) := by decide +kernel
theorem dX2_appendRule_24 : decode cX2_appendRule 24 = .ok (.aload_n 0, 1) := by decide +kernel
theorem dX2_appendRule_25 : decode cX2_appendRule 25 = .ok (.getfield 32, 3) := by decide +kernel
theorem dX2_appendRule_28 : decode cX2_appendRule 28 = .ok (.iload_n 1, 1) := by decide +kernel
theorem dX2_appendRule_29 : decode cX2_appendRule 29 = .ok (.iconst 4, 1) := by decide +kernel
theorem dX2_appendRule_30 : decode cX2_appendRule 30 = .ok (.imul, 1) := by decide +kernel
theorem dX2_appendRule_31 : decode cX2_appendRule 31 = .ok (.iload 4, 2) := by decide +kernel
theorem dX2_appendRule_33 : decode cX2_appendRule 33 = .ok (.iadd, 1) := by decide +kernel
theorem dX2_appendRule_34 : decode cX2_appendRule 34 = .ok (.iload_n 3, 1) := by decide +kernel
theorem dX2_appendRule_35 : decode cX2_appendRule 35 = .ok (.invokevirtual 46, 3) := by decide +kernel
theorem dX2_appendRule_38 : decode cX2_appendRule 38 = .ok (.aload_n 0, 1) := by decide +kernel
theorem dX2_appendRule_39 : decode cX2_appendRule 39 = .ok (.getfield 26, 3) := by decide +kernel
theorem dX2_appendRule_42 : decode cX2_appendRule 42 = .ok (.iload_n 1, 1) := by decide +kernel
theorem dX2_appendRule_43 : decode cX2_appendRule 43 = .ok (.iload 4, 2) := by decide +kernel
theorem dX2_appendRule_45 : decode cX2_appendRule 45 = .ok (.iconst 1, 1) := by decide +kernel
theorem dX2_appendRule_46 : decode cX2_appendRule 46 = .ok (.iadd, 1) := by decide +kernel
theorem dX2_appendRule_47 : decode cX2_appendRule 47 = .ok (.invokevirtual 46, 3) := by decide +kernel
theorem dX2_appendRule_50 : decode cX2_appendRule 50 = .ok (.iload 4, 2) := by decide +kernel
theorem dX2_appendRule_52 : decode cX2_appendRule 52 = .ok (.iconst 1, 1) := by decide +kernel
theorem dX2_appendRule_53 : decode cX2_appendRule 53 = .ok (.iadd, 1) := by decide +kernel
theorem dX2_appendRule_54 : decode cX2_appendRule 54 = .ok (.ireturn, 1) := by decide +kernel
set_option maxRecDepth 20000 in
theorem ggX2_putClash_X5_at : GoodIn wsX2_putClash wsX5_at := goodIn_r _ [6, 7, 20] (by decide +kernel) (by decide +kernel)
set_option maxRecDepth 20000 in
theorem gX2_putClash_X5_at : GoodIn wsX2_putClash (wsV RX2 42 RX5 yX5_at wsX5_at) := goodIn_app (goodIn_of _ (by decide +kernel)) ggX2_putClash_X5_at
set_option maxRecDepth 20000 in
theorem ggX2_putClash_X5_put : GoodIn wsX2_putClash wsX5_put := goodIn_r _ [11, 7, 20] (by decide +kernel) (by decide +kernel)
set_option maxRecDepth 20000 in
theorem gX2_putClash_X5_put : GoodIn wsX2_putClash (wsV RX2 46 RX5 yX5_put wsX5_put) := goodIn_app (goodIn_of _ (by decide +kernel)) ggX2_putClash_X5_put
theorem dX2_putClash_0 : decode cX2_putClash 0 = .ok (.aload_n 0, 1) := by decide +kernel
theorem dX2_putClash_1 : decode cX2_putClash 1 = .ok (.getfield 14, 3) := by decide +kernel
theorem dX2_putClash_4 : decode cX2_putClash 4 = .ok (.iload_n 1, 1) := by decide +kernel
theorem dX2_putClash_5 : decode cX2_putClash 5 = .ok (.invokevirtual 42, 3) := by decide +kernel
theorem dX2_putClash_8 : decode cX2_putClash 8 = .ok (.iconst 1, 1) := by decide +kernel
theorem dX2_putClash_9 : decode cX2_putClash 9 = .ok (.iload_n 2, 1) := by decide +kernel
theorem dX2_putClash_10 : decode cX2_putClash 10 = .ok (.ishl, 1) := by decide +kernel
theorem dX2_putClash_11 : decode cX2_putClash 11 = .ok (.iconst (-1), 1) := by decide +kernel
theorem dX2_putClash_12 : decode cX2_putClash 12 = .ok (.ixor, 1) := by decide +kernel
theorem dX2_putClash_13 : decode cX2_putClash 13 = .ok (.iand, 1) := by decide +kernel
theorem dX2_putClash_14 : decode cX2_putClash 14 = .ok (.istore 4, 2) := by decide +kernel
theorem dX2_putClash_16 : decode cX2_putClash 16 = .ok (.aload_n 0, 1) := by decide +kernel
theorem dX2_putClash_17 : decode cX2_putClash 17 = .ok (.getfield 14, 3) := by decide +kernel
theorem dX2_putClash_20 : decode cX2_putClash 20 = .ok (.iload_n 2, 1) := by decide +kernel
theorem dX2_putClash_21 : decode cX2_putClash 21 = .ok (.invokevirtual 42, 3) := by decide +kernel
theorem dX2_putClash_24 : decode cX2_putClash 24 = .ok (.iconst 1, 1) := by decide +kernel
theorem dX2_putClash_25 : decode cX2_putClash 25 = .ok (.iload_n 1, 1) := by decide +kernel
theorem dX2_putClash_26 : decode cX2_putClash 26 = .ok (.ishl, 1) := by decide +kernel
theorem dX2_putClash_27 : decode cX2_putClash 27 = .ok (.iconst (-1), 1) := by decide +kernel
theorem dX2_putClash_28 : decode cX2_putClash 28 = .ok (.ixor, 1) := by decide +kernel
theorem dX2_putClash_29 : decode cX2_putClash 29 = .ok (.iand, 1) := by decide +kernel
theorem dX2_putClash_30 : decode cX2_putClash 30 = .ok (.istore 5, 2) := by decide +kernel
theorem dX2_putClash_32 : decode cX2_putClash 32 = .ok (.aload_n 0, 1) := by decide +kernel
theorem dX2_putClash_33 : decode cX2_putClash 33 = .ok (.getfield 14, 3) := by decide +kernel
theorem dX2_putClash_36 : decode cX2_putClash 36 = .ok (.iload_n 1, 1) := by decide +kernel
theorem dX2_putClash_37 : decode cX2_putClash 37 = .ok (.iload_n 3, 1) := by decide +kernel
theorem dX2_putClash_38 : decode cX2_putClash 38 = .ok (.ifCond .eq 12, 3) := by decide +kernel
theorem dX2_putClash_41 : decode cX2_putClash 41 = .ok (.iload 4, 2) := by decide +kernel
theorem dX2_putClash_43 : decode cX2_putClash 43 = .ok (.iconst 1, 1) := by decide +kernel
theorem dX2_putClash_44 : decode cX2_putClash 44 = .ok (.iload_n 2, 1) := by decide +kernel
theorem dX2_putClash_45 : decode cX2_putClash 45 = .ok (.ishl, 1) := by decide +kernel
theorem dX2_putClash_46 : decode cX2_putClash 46 = .ok (.ior, 1) := by decide +kernel
theorem dX2_putClash_47 : decode cX2_putClash 47 = .ok (.goto 5, 3) := by decide +kernel
theorem dX2_putClash_50 : decode cX2_putClash 50 = .ok (.iload 4, 2) := by decide +kernel
theorem dX2_putClash_52 : decode cX2_putClash 52 = .ok (.invokevirtual 46, 3) := by decide +kernel
theorem dX2_putClash_55 : decode cX2_putClash 55 = .ok (.aload_n 0, 1) := by decide +kernel
theorem dX2_putClash_56 : decode cX2_putClash 56 = .ok (.getfield 14, 3) := by decide +kernel
theorem dX2_putClash_59 : decode cX2_putClash 59 = .ok (.iload_n 2, 1) := by decide +kernel
theorem dX2_putClash_60 : decode cX2_putClash 60 = .ok (.iload_n 3, 1) := by decide +kernel
theorem dX2_putClash_61 : decode cX2_putClash 61 = .ok (.ifCond .eq 12, 3) := by decide +kernel
theorem dX2_putClash_64 : decode cX2_putClash 64 = .ok (.iload 5, 2) := by decide +kernel
theorem dX2_putClash_66 : decode cX2_putClash 66 = .ok (.iconst 1, 1) := by decide +kernel
theorem dX2_putClash_67 : decode cX2_putClash 67 = .ok (.iload_n 1, 1) := by decide +kernel
theorem dX2_putClash_68 : decode cX2_putClash 68 = .ok (.ishl, 1) := by decide +kernel
theorem dX2_putClash_69 : decode cX2_putClash 69 = .ok (.ior, 1) := by decide +kernel
theorem dX2_putClash_70 : decode cX2_putClash 70 = .ok (.goto 5, 3) := by decide +kernel
theorem dX2_putClash_73 : decode cX2_putClash 73 = .ok (.iload 5, 2) := by decide +kernel
theorem dX2_putClash_75 : decode cX2_putClash 75 = .ok (.invokevirtual 46, 3) := by decide +kernel
theorem dX2_putClash_78 : decode cX2_putClash 78 = .ok (.return_, 1) := by decide +kernel
set_option maxRecDepth 20000 in
theorem ggX2_isUnsafe_X5_at : GoodIn wsX2_isUnsafe wsX5_at := goodIn_r _ [7, 8, 20] (by decide +kernel) (by decide +kernel)
set_option maxRecDepth 20000 in
theorem gX2_isUnsafe_X5_at : GoodIn wsX2_isUnsafe (wsV RX2 42 RX5 yX5_at wsX5_at) := goodIn_app (goodIn_of _ (by decide +kernel)) ggX2_isUnsafe_X5_at
set_option maxRecDepth 20000 in
theorem ggX2_isUnsafe_X7_has : GoodIn wsX2_isUnsafe wsX7_has := goodIn_r _ [11] (by decide +kernel) (by decide +kernel)
set_option maxRecDepth 20000 in
theorem gX2_isUnsafe_X7_has_n54 : GoodIn wsX2_isUnsafe (wsX7_has) := ggX2_isUnsafe_X7_has
theorem dX2_isUnsafe_0 : decode cX2_isUnsafe 0 = .ok (.aload_n 0, 1) := by decide +kernel
theorem dX2_isUnsafe_1 : decode cX2_isUnsafe 1 = .ok (.getfield 20, 3) := by decide +kernel
theorem dX2_isUnsafe_4 : decode cX2_isUnsafe 4 = .ok (.iload_n 1, 1) := by decide +kernel
theorem dX2_isUnsafe_5 : decode cX2_isUnsafe 5 = .ok (.invokevirtual 42, 3) := by decide +kernel
theorem dX2_isUnsafe_8 : decode cX2_isUnsafe 8 = .ok (.istore_n 2, 1) := by decide +kernel
theorem dX2_isUnsafe_9 : decode cX2_isUnsafe 9 = .ok (.iconst 0, 1) := by decide +kernel
theorem dX2_isUnsafe_10 : decode cX2_isUnsafe 10 = .ok (.istore_n 3, 1) := by decide +kernel
theorem dX2_isUnsafe_11 : decode cX2_isUnsafe 11 = .ok (.iload_n 3, 1) := by decide +kernel
theorem dX2_isUnsafe_12 : decode cX2_isUnsafe 12 = .ok (.bipush 6, 2) := by decide +kernel
theorem dX2_isUnsafe_14 : decode cX2_isUnsafe 14 = .ok (.if_icmp .ge 32, 3) := by decide +kernel
theorem dX2_isUnsafe_17 : decode cX2_isUnsafe 17 = .ok (.iload_n 2, 1) := by decide +kernel
theorem dX2_isUnsafe_18 : decode cX2_isUnsafe 18 = .ok (.iload_n 3, 1) := by decide +kernel
theorem dX2_isUnsafe_19 : decode cX2_isUnsafe 19 = .ok (.invokestatic 54, 3) := by decide +kernel
theorem dX2_isUnsafe_22 : decode cX2_isUnsafe 22 = .ok (.ifCond .eq 18, 3) := by decide +kernel
theorem dX2_isUnsafe_25 : decode cX2_isUnsafe 25 = .ok (.iload_n 2, 1) := by decide +kernel
theorem dX2_isUnsafe_26 : decode cX2_isUnsafe 26 = .ok (.aload_n 0, 1) := by decide +kernel
theorem dX2_isUnsafe_27 : decode cX2_isUnsafe 27 = .ok (.getfield 14, 3) := by decide +kernel
theorem dX2_isUnsafe_30 : decode cX2_isUnsafe 30 = .ok (.iload_n 3, 1) := by decide +kernel
theorem dX2_isUnsafe_31 : decode cX2_isUnsafe 31 = .ok (.invokevirtual 42, 3) := by decide +kernel
theorem dX2_isUnsafe_34 : decode cX2_isUnsafe 34 = .ok (.iand, 1) := by decide +kernel
theorem dX2_isUnsafe_35 : decode cX2_isUnsafe 35 = .ok (.ifCond .eq 5, 3) := by decide +kernel
theorem dX2_isUnsafe_38 : decode cX2_isUnsafe 38 = .ok (.iconst 1, 1) := by decide +kernel
theorem dX2_isUnsafe_39 : decode cX2_isUnsafe 39 = .ok (.ireturn, 1) := by decide +kernel
theorem dX2_isUnsafe_40 : decode cX2_isUnsafe 40 = .ok (.iinc 3 1, 3) := by decide +kernel
theorem dX2_isUnsafe_43 : decode cX2_isUnsafe 43 = .ok (.goto (-32), 3) := by decide +kernel
theorem dX2_isUnsafe_46 : decode cX2_isUnsafe 46 = .ok (.iconst 0, 1) := by decide +kernel
theorem dX2_isUnsafe_47 : decode cX2_isUnsafe 47 = .ok (.ireturn, 1) := by decide +kernel
set_option maxRecDepth 20000 in
theorem ggX2_unsafePhases_X2_isUnsafe : GoodIn wsX2_unsafePhases wsX2_isUnsafe := goodIn_r _ [6, 7, 8, 9, 10, 11, 12, 13, 14, 15, 16, 17, 18, 19, 20, 21, 22, 23, 24, 25, 26] (by decide +kernel) (by decide +kernel)
set_option maxRecDepth 20000 in
theorem gX2_unsafePhases_X2_isUnsafe : GoodIn wsX2_unsafePhases (wsV RX2 58 RX2 yX2_isUnsafe wsX2_isUnsafe) := goodIn_app (goodIn_of _ (by decide +kernel)) ggX2_unsafePhases_X2_isUnsafe
theorem dX2_unsafePhases_0 : decode cX2_unsafePhases 0 = .ok (.iconst 0, 1) := by decide +kernel
theorem dX2_unsafePhases_1 : decode cX2_unsafePhases 1 = .ok (.istore_n 1, 1) := by decide +kernel
theorem dX2_unsafePhases_2 : decode cX2_unsafePhases 2 = .ok (.iconst 0, 1) := by decide +kernel
theorem dX2_unsafePhases_3 : decode cX2_unsafePhases 3 = .ok (.istore_n 2, 1) := by decide +kernel
theorem dX2_unsafePhases_4 : decode cX2_unsafePhases 4 = .ok (.iload_n 2, 1) := by decide +kernel
theorem dX2_unsafePhases_5 : decode cX2_unsafePhases 5 = .ok (.aload_n 0, 1) := by decide +kernel
theorem dX2_unsafePhases_6 : decode cX2_unsafePhases 6 = .ok (.getfield 35, 3) := by decide +kernel
theorem dX2_unsafePhases_9 : decode cX2_unsafePhases 9 = .ok (.if_icmp .ge 23, 3) := by decide +kernel
theorem dX2_unsafePhases_12 : decode cX2_unsafePhases 12 = .ok (.aload_n 0, 1) := by decide +kernel
theorem dX2_unsafePhases_13 : decode cX2_unsafePhases 13 = .ok (.iload_n 2, 1) := by decide +kernel
theorem dX2_unsafePhases_14 : decode cX2_unsafePhases 14 = .ok (.invokevirtual 58, 3) := by decide +kernel
theorem dX2_unsafePhases_17 : decode cX2_unsafePhases 17 = .ok (.ifCond .eq 9, 3) := by decide +kernel
theorem dX2_unsafePhases_20 : decode cX2_unsafePhases 20 = .ok (.iload_n 1, 1) := by decide +kernel
theorem dX2_unsafePhases_21 : decode cX2_unsafePhases 21 = .ok (.iconst 1, 1) := by decide +kernel
theorem dX2_unsafePhases_22 : decode cX2_unsafePhases 22 = .ok (.iload_n 2, 1) := by decide +kernel
theorem dX2_unsafePhases_23 : decode cX2_unsafePhases 23 = .ok (.ishl, 1) := by decide +kernel
theorem dX2_unsafePhases_24 : decode cX2_unsafePhases 24 = .ok (.ior, 1) := by decide +kernel
theorem dX2_unsafePhases_25 : decode cX2_unsafePhases 25 = .ok (.istore_n 1, 1) := by decide +kernel
theorem dX2_unsafePhases_26 : decode cX2_unsafePhases 26 = .ok (.iinc 2 1, 3) := by decide +kernel
theorem dX2_unsafePhases_29 : decode cX2_unsafePhases 29 = .ok (.goto (-25), 3) := by decide +kernel
theorem dX2_unsafePhases_32 : decode cX2_unsafePhases 32 = .ok (.iload_n 1, 1) := by decide +kernel
theorem dX2_unsafePhases_33 : decode cX2_unsafePhases 33 = .ok (.ireturn, 1) := by decide +kernel
set_option maxRecDepth 20000 in
theorem ggX2_phasesWith_X5_at : GoodIn wsX2_phasesWith wsX5_at := goodIn_r _ [7, 8, 20] (by decide +kernel) (by decide +kernel)
set_option maxRecDepth 20000 in
theorem gX2_phasesWith_X5_at : GoodIn wsX2_phasesWith (wsV RX2 42 RX5 yX5_at wsX5_at) := goodIn_app (goodIn_of _ (by decide +kernel)) ggX2_phasesWith_X5_at
set_option maxRecDepth 20000 in
theorem ggX2_phasesWith_X7_has : GoodIn wsX2_phasesWith wsX7_has := goodIn_r _ [11] (by decide +kernel) (by decide +kernel)
set_option maxRecDepth 20000 in
theorem gX2_phasesWith_X7_has_n54 : GoodIn wsX2_phasesWith (wsX7_has) := ggX2_phasesWith_X7_has
theorem dX2_phasesWith_0 : decode cX2_phasesWith 0 = .ok (.iconst 0, 1) := by decide +kernel
theorem dX2_phasesWith_1 : decode cX2_phasesWith 1 = .ok (.istore_n 2, 1) := by decide +kernel
theorem dX2_phasesWith_2 : decode cX2_phasesWith 2 = .ok (.iconst 0, 1) := by decide +kernel
theorem dX2_phasesWith_3 : decode cX2_phasesWith 3 = .ok (.istore_n 3, 1) := by decide +kernel
theorem dX2_phasesWith_4 : decode cX2_phasesWith 4 = .ok (.iload_n 3, 1) := by decide +kernel
theorem dX2_phasesWith_5 : decode cX2_phasesWith 5 = .ok (.aload_n 0, 1) := by decide +kernel
theorem dX2_phasesWith_6 : decode cX2_phasesWith 6 = .ok (.getfield 35, 3) := by decide +kernel
theorem dX2_phasesWith_9 : decode cX2_phasesWith 9 = .ok (.if_icmp .ge 30, 3) := by decide +kernel
theorem dX2_phasesWith_12 : decode cX2_phasesWith 12 = .ok (.aload_n 0, 1) := by decide +kernel
theorem dX2_phasesWith_13 : decode cX2_phasesWith 13 = .ok (.getfield 20, 3) := by decide +kernel
theorem dX2_phasesWith_16 : decode cX2_phasesWith 16 = .ok (.iload_n 3, 1) := by decide +kernel
theorem dX2_phasesWith_17 : decode cX2_phasesWith 17 = .ok (.invokevirtual 42, 3) := by decide +kernel
theorem dX2_phasesWith_20 : decode cX2_phasesWith 20 = .ok (.iload_n 1, 1) := by decide +kernel
theorem dX2_phasesWith_21 : decode cX2_phasesWith 21 = .ok (.invokestatic 54, 3) := by decide +kernel
theorem dX2_phasesWith_24 : decode cX2_phasesWith 24 = .ok (.ifCond .eq 9, 3) := by decide +kernel
theorem dX2_phasesWith_27 : decode cX2_phasesWith 27 = .ok (.iload_n 2, 1) := by decide +kernel
theorem dX2_phasesWith_28 : decode cX2_phasesWith 28 = .ok (.iconst 1, 1) := by decide +kernel
theorem dX2_phasesWith_29 : decode cX2_phasesWith 29 = .ok (.iload_n 3, 1) := by decide +kernel
theorem dX2_phasesWith_30 : decode cX2_phasesWith 30 = .ok (.ishl, 1) := by decide +kernel
theorem dX2_phasesWith_31 : decode cX2_phasesWith 31 = .ok (.ior, 1) := by decide +kernel
theorem dX2_phasesWith_32 : decode cX2_phasesWith 32 = .ok (.istore_n 2, 1) := by decide +kernel
theorem dX2_phasesWith_33 : decode cX2_phasesWith 33 = .ok (.iinc 3 1, 3) := by decide +kernel
theorem dX2_phasesWith_36 : decode cX2_phasesWith 36 = .ok (.goto (-32), 3) := by decide +kernel
theorem dX2_phasesWith_39 : decode cX2_phasesWith 39 = .ok (.iload_n 2, 1) := by decide +kernel
theorem dX2_phasesWith_40 : decode cX2_phasesWith 40 = .ok (.ireturn, 1) := by decide +kernel
set_option maxRecDepth 20000 in
theorem ggX2_clearingBetween_X5_at : GoodIn wsX2_clearingBetween wsX5_at := goodIn_r _ [7, 8, 17] (by decide +kernel) (by decide +kernel)
set_option maxRecDepth 20000 in
theorem gX2_clearingBetween_X5_at : GoodIn wsX2_clearingBetween (wsV RX2 42 RX5 yX5_at wsX5_at) := goodIn_app (goodIn_of _ (by decide +kernel)) ggX2_clearingBetween_X5_at
theorem dX2_clearingBetween_0 : decode cX2_clearingBetween 0 = .ok (.aload_n 0, 1) := by decide +kernel
theorem dX2_clearingBetween_1 : decode cX2_clearingBetween 1 = .ok (.getfield 20, 3) := by decide +kernel
theorem dX2_clearingBetween_4 : decode cX2_clearingBetween 4 = .ok (.iload_n 1, 1) := by decide +kernel
theorem dX2_clearingBetween_5 : decode cX2_clearingBetween 5 = .ok (.invokevirtual 42, 3) := by decide +kernel
theorem dX2_clearingBetween_8 : decode cX2_clearingBetween 8 = .ok (.aload_n 0, 1) := by decide +kernel
theorem dX2_clearingBetween_9 : decode cX2_clearingBetween 9 = .ok (.getfield 20, 3) := by decide +kernel
theorem dX2_clearingBetween_12 : decode cX2_clearingBetween 12 = .ok (.iload_n 2, 1) := by decide +kernel
theorem dX2_clearingBetween_13 : decode cX2_clearingBetween 13 = .ok (.invokevirtual 42, 3) := by decide +kernel
theorem dX2_clearingBetween_16 : decode cX2_clearingBetween 16 = .ok (.if_icmp .ne 7, 3) := by decide +kernel
theorem dX2_clearingBetween_19 : decode cX2_clearingBetween 19 = .ok (.iconst 0, 1) := by decide +kernel
theorem dX2_clearingBetween_20 : decode cX2_clearingBetween 20 = .ok (.goto 7, 3) := by decide +kernel
theorem dX2_clearingBetween_23 : decode cX2_clearingBetween 23 = .ok (.aload_n 0, 1) := by decide +kernel
theorem dX2_clearingBetween_24 : decode cX2_clearingBetween 24 = .ok (.getfield 39, 3) := by decide +kernel
theorem dX2_clearingBetween_27 : decode cX2_clearingBetween 27 = .ok (.ireturn, 1) := by decide +kernel
set_option maxRecDepth 20000 in
theorem ggX2_copyFrom_X5_copyFrom : GoodIn wsX2_copyFrom wsX5_copyFrom := goodIn_r _ [13, 14, 15, 16, 17, 12, 18, 27] (by decide +kernel) (by decide +kernel)
set_option maxRecDepth 20000 in
theorem gX2_copyFrom_X5_copyFrom : GoodIn wsX2_copyFrom (wsV RX2 65 RX5 yX5_copyFrom wsX5_copyFrom) := goodIn_app (goodIn_of _ (by decide +kernel)) ggX2_copyFrom_X5_copyFrom
theorem dX2_copyFrom_0 : decode cX2_copyFrom 0 = .ok (.aload_n 0, 1) := by decide +kernel
theorem dX2_copyFrom_1 : decode cX2_copyFrom 1 = .ok (.getfield 14, 3) := by decide +kernel
theorem dX2_copyFrom_4 : decode cX2_copyFrom 4 = .ok (.aload_n 1, 1) := by decide +kernel
theorem dX2_copyFrom_5 : decode cX2_copyFrom 5 = .ok (.getfield 14, 3) := by decide +kernel
theorem dX2_copyFrom_8 : decode cX2_copyFrom 8 = .ok (.invokevirtual 65, 3) := by decide +kernel
theorem dX2_copyFrom_11 : decode cX2_copyFrom 11 = .ok (.aload_n 0, 1) := by decide +kernel
theorem dX2_copyFrom_12 : decode cX2_copyFrom 12 = .ok (.getfield 20, 3) := by decide +kernel
theorem dX2_copyFrom_15 : decode cX2_copyFrom 15 = .ok (.aload_n 1, 1) := by decide +kernel
theorem dX2_copyFrom_16 : decode cX2_copyFrom 16 = .ok (.getfield 20, 3) := by decide +kernel
theorem dX2_copyFrom_19 : decode cX2_copyFrom 19 = .ok (.invokevirtual 65, 3) := by decide +kernel
theorem dX2_copyFrom_22 : decode cX2_copyFrom 22 = .ok (.aload_n 0, 1) := by decide +kernel
theorem dX2_copyFrom_23 : decode cX2_copyFrom 23 = .ok (.getfield 23, 3) := by decide +kernel
theorem dX2_copyFrom_26 : decode cX2_copyFrom 26 = .ok (.aload_n 1, 1) := by decide +kernel
theorem dX2_copyFrom_27 : decode cX2_copyFrom 27 = .ok (.getfield 23, 3) := by decide +kernel
theorem dX2_copyFrom_30 : decode cX2_copyFrom 30 = .ok (.invokevirtual 65, 3) := by decide +kernel
theorem dX2_copyFrom_33 : decode cX2_copyFrom 33 = .ok (.aload_n 0, 1) := by decide +kernel
theorem dX2_copyFrom_34 : decode cX2_copyFrom 34 = .ok (.getfield 26, 3) := by decide +kernel
theorem dX2_copyFrom_37 : decode cX2_copyFrom 37 = .ok (.aload_n 1, 1) := by decide +kernel
theorem dX2_copyFrom_38 : decode cX2_copyFrom 38 = .ok (.getfield 26, 3) := by decide +kernel
theorem dX2_copyFrom_41 : decode cX2_copyFrom 41 = .ok (.invokevirtual 65, 3) := by decide +kernel
theorem dX2_copyFrom_44 : decode cX2_copyFrom 44 = .ok (.aload_n 0, 1) := by decide +kernel
theorem dX2_copyFrom_45 : decode cX2_copyFrom 45 = .ok (.getfield 29, 3) := by decide +kernel
theorem dX2_copyFrom_48 : decode cX2_copyFrom 48 = .ok (.aload_n 1, 1) := by decide +kernel
theorem dX2_copyFrom_49 : decode cX2_copyFrom 49 = .ok (.getfield 29, 3) := by decide +kernel
theorem dX2_copyFrom_52 : decode cX2_copyFrom 52 = .ok (.invokevirtual 65, 3) := by decide +kernel
theorem dX2_copyFrom_55 : decode cX2_copyFrom 55 = .ok (.aload_n 0, 1) := by decide +kernel
theorem dX2_copyFrom_56 : decode cX2_copyFrom 56 = .ok (.getfield 32, 3) := by decide +kernel
theorem dX2_copyFrom_59 : decode cX2_copyFrom 59 = .ok (.aload_n 1, 1) := by decide +kernel
theorem dX2_copyFrom_60 : decode cX2_copyFrom 60 = .ok (.getfield 32, 3) := by decide +kernel
theorem dX2_copyFrom_63 : decode cX2_copyFrom 63 = .ok (.invokevirtual 65, 3) := by decide +kernel
theorem dX2_copyFrom_66 : decode cX2_copyFrom 66 = .ok (.aload_n 0, 1) := by decide +kernel
theorem dX2_copyFrom_67 : decode cX2_copyFrom 67 = .ok (.aload_n 1, 1) := by decide +kernel
theorem dX2_copyFrom_68 : decode cX2_copyFrom 68 = .ok (.getfield 35, 3) := by decide +kernel
theorem dX2_copyFrom_71 : decode cX2_copyFrom 71 = .ok (.putfield 35, 3) := by decide +kernel
theorem dX2_copyFrom_74 : decode cX2_copyFrom 74 = .ok (.aload_n 0, 1) := by decide +kernel
theorem dX2_copyFrom_75 : decode cX2_copyFrom 75 = .ok (.aload_n 1, 1) := by decide +kernel
theorem dX2_copyFrom_76 : decode cX2_copyFrom 76 = .ok (.getfield 39, 3) := by decide +kernel
theorem dX2_copyFrom_79 : decode cX2_copyFrom 79 = .ok (.putfield 39, 3) := by decide +kernel
theorem dX2_copyFrom_82 : decode cX2_copyFrom 82 = .ok (.return_, 1) := by decide +kernel
set_option maxRecDepth 20000 in
theorem ggX3_init_X5_init : GoodIn wsX3_init wsX5_init := goodIn_r _ [15, 16, 2, 3, 17, 18, 19] (by decide +kernel) (by decide +kernel)
set_option maxRecDepth 20000 in
theorem gX3_init_X5_init : GoodIn wsX3_init (wsX5_init) := ggX3_init_X5_init
theorem dX3_init_0 : decode cX3_init 0 = .ok (.aload_n 0, 1) := by decide +kernel
theorem dX3_init_1 : decode cX3_init 1 = .ok (.invokespecial 3, 3) := by decide +kernel
theorem dX3_init_4 : decode cX3_init 4 = .ok (.aload_n 0, 1) := by decide +kernel
theorem dX3_init_5 : decode cX3_init 5 = .ok (.new 9, 3) := by decide +kernel
theorem dX3_init_8 : decode cX3_init 8 = .ok (.dup, 1) := by decide +kernel
theorem dX3_init_9 : decode cX3_init 9 = .ok (.bipush 8, 2) := by decide +kernel
theorem dX3_init_11 : decode cX3_init 11 = .ok (.invokespecial 11, 3) := by decide +kernel
theorem dX3_init_14 : decode cX3_init 14 = .ok (.putfield 14, 3) := by decide +kernel
theorem dX3_init_17 : decode cX3_init 17 = .ok (.aload_n 0, 1) := by decide +kernel
theorem dX3_init_18 : decode cX3_init 18 = .ok (.new 9, 3) := by decide +kernel
theorem dX3_init_21 : decode cX3_init 21 = .ok (.dup, 1) := by decide +kernel
theorem dX3_init_22 : decode cX3_init 22 = .ok (.bipush 48, 2) := by decide +kernel
theorem dX3_init_24 : decode cX3_init 24 = .ok (.invokespecial 11, 3) := by decide +kernel
theorem dX3_init_27 : decode cX3_init 27 = .ok (.putfield 20, 3) := by decide +kernel
theorem dX3_init_30 : decode cX3_init 30 = .ok (.aload_n 0, 1) := by decide +kernel
theorem dX3_init_31 : decode cX3_init 31 = .ok (.new 9, 3) := by decide +kernel
theorem dX3_init_34 : decode cX3_init 34 = .ok (.dup, 1) := by decide +kernel
theorem dX3_init_35 : decode cX3_init 35 = .ok (.bipush 48, 2) := by decide +kernel
theorem dX3_init_37 : decode cX3_init 37 = .ok (.invokespecial 11, 3) := by decide +kernel
theorem dX3_init_40 : decode cX3_init 40 = .ok (.putfield 23, 3) := by decide +kernel
theorem dX3_init_43 : decode cX3_init 43 = .ok (.aload_n 0, 1) := by decide +kernel
theorem dX3_init_44 : decode cX3_init 44 = .ok (.new 9, 3) := by decide +kernel
theorem dX3_init_47 : decode cX3_init 47 = .ok (.dup, 1) := by decide +kernel
theorem dX3_init_48 : decode cX3_init 48 = .ok (.bipush 48, 2) := by decide +kernel
theorem dX3_init_50 : decode cX3_init 50 = .ok (.invokespecial 11, 3) := by decide +kernel
theorem dX3_init_53 : decode cX3_init 53 = .ok (.putfield 26, 3) := by decide +kernel
theorem dX3_init_56 : decode cX3_init 56 = .ok (.aload_n 0, 1) := by decide +kernel
theorem dX3_init_57 : decode cX3_init 57 = .ok (.new 9, 3) := by decide +kernel
theorem dX3_init_60 : decode cX3_init 60 = .ok (.dup, 1) := by decide +kernel
theorem dX3_init_61 : decode cX3_init 61 = .ok (.bipush 6, 2) := by decide +kernel
theorem dX3_init_63 : decode cX3_init 63 = .ok (.invokespecial 11, 3) := by decide +kernel
theorem dX3_init_66 : decode cX3_init 66 = .ok (.putfield 29, 3) := by decide +kernel
theorem dX3_init_69 : decode cX3_init 69 = .ok (.aload_n 0, 1) := by decide +kernel
theorem dX3_init_70 : decode cX3_init 70 = .ok (.iconst 0, 1) := by decide +kernel
theorem dX3_init_71 : decode cX3_init 71 = .ok (.putfield 32, 3) := by decide +kernel
theorem dX3_init_74 : decode cX3_init 74 = .ok (.return_, 1) := by decide +kernel
set_option maxRecDepth 20000 in
theorem ggX3_noteComing_X5_at : GoodIn wsX3_noteComing wsX5_at := goodIn_r _ [9, 10, 49] (by decide +kernel) (by decide +kernel)
set_option maxRecDepth 20000 in
theorem gX3_noteComing_X5_at : GoodIn wsX3_noteComing (wsV RX3 44 RX5 yX5_at wsX5_at) := goodIn_app (goodIn_of _ (by decide +kernel)) ggX3_noteComing_X5_at
set_option maxRecDepth 20000 in
theorem ggX3_noteComing_X2_goalOf : GoodIn wsX3_noteComing wsX2_goalOf := goodIn_r _ [15, 16, 17, 6, 7, 8, 9, 10, 35, 36, 37, 38, 39, 40, 41, 42, 49] (by decide +kernel) (by decide +kernel)
set_option maxRecDepth 20000 in
theorem gX3_noteComing_X2_goalOf : GoodIn wsX3_noteComing (wsV RX3 48 RX2 yX2_goalOf wsX2_goalOf) := goodIn_app (goodIn_of _ (by decide +kernel)) ggX3_noteComing_X2_goalOf
set_option maxRecDepth 20000 in
theorem ggX3_noteComing_X5_put : GoodIn wsX3_noteComing wsX5_put := goodIn_r _ [21, 10, 49] (by decide +kernel) (by decide +kernel)
set_option maxRecDepth 20000 in
theorem gX3_noteComing_X5_put : GoodIn wsX3_noteComing (wsV RX3 52 RX5 yX5_put wsX5_put) := goodIn_app (goodIn_of _ (by decide +kernel)) ggX3_noteComing_X5_put
set_option maxRecDepth 20000 in
theorem ggX3_noteComing_X3_comingWith : GoodIn wsX3_noteComing wsX3_comingWith := goodIn_r _ [26, 1, 3, 27, 28, 29, 14, 30, 31, 32, 33, 34, 5, 6, 7, 8, 9, 10, 35, 36, 37, 38, 39, 40, 41, 42, 43, 44, 45, 46, 47, 48, 49] (by decide +kernel) (by decide +kernel)
set_option maxRecDepth 20000 in
theorem gX3_noteComing_X3_comingWith : GoodIn wsX3_noteComing (wsV RX3 56 RX3 yX3_comingWith wsX3_comingWith) := goodIn_app (goodIn_of _ (by decide +kernel)) ggX3_noteComing_X3_comingWith
theorem dX3_noteComing_0 : decode cX3_noteComing 0 = .ok (.iconst 0, 1) := by decide +kernel
theorem dX3_noteComing_1 : decode cX3_noteComing 1 = .ok (.istore_n 3, 1) := by decide +kernel
theorem dX3_noteComing_2 : decode cX3_noteComing 2 = .ok (.iload_n 3, 1) := by decide +kernel
theorem dX3_noteComing_3 : decode cX3_noteComing 3 = .ok (.aload_n 1, 1) := by decide +kernel
theorem dX3_noteComing_4 : decode cX3_noteComing 4 = .ok (.getfield 36, 3) := by decide +kernel
theorem dX3_noteComing_7 : decode cX3_noteComing 7 = .ok (.if_icmp .ge 62, 3) := by decide +kernel
theorem dX3_noteComing_10 : decode cX3_noteComing 10 = .ok (.iconst 0, 1) := by decide +kernel
theorem dX3_noteComing_11 : decode cX3_noteComing 11 = .ok (.istore 4, 2) := by decide +kernel
theorem dX3_noteComing_13 : decode cX3_noteComing 13 = .ok (.aload_n 1, 1) := by decide +kernel
theorem dX3_noteComing_14 : decode cX3_noteComing 14 = .ok (.getfield 41, 3) := by decide +kernel
theorem dX3_noteComing_17 : decode cX3_noteComing 17 = .ok (.iload_n 3, 1) := by decide +kernel
theorem dX3_noteComing_18 : decode cX3_noteComing 18 = .ok (.invokevirtual 44, 3) := by decide +kernel
theorem dX3_noteComing_21 : decode cX3_noteComing 21 = .ok (.istore 5, 2) := by decide +kernel
theorem dX3_noteComing_23 : decode cX3_noteComing 23 = .ok (.iconst 0, 1) := by decide +kernel
theorem dX3_noteComing_24 : decode cX3_noteComing 24 = .ok (.istore 6, 2) := by decide +kernel
theorem dX3_noteComing_26 : decode cX3_noteComing 26 = .ok (.iload 6, 2) := by decide +kernel
theorem dX3_noteComing_28 : decode cX3_noteComing 28 = .ok (.iload 5, 2) := by decide +kernel
theorem dX3_noteComing_30 : decode cX3_noteComing 30 = .ok (.if_icmp .ge 23, 3) := by decide +kernel
theorem dX3_noteComing_33 : decode cX3_noteComing 33 = .ok (.iload 4, 2) := by decide +kernel
theorem dX3_noteComing_35 : decode cX3_noteComing 35 = .ok (.iconst 1, 1) := by decide +kernel
theorem dX3_noteComing_36 : decode cX3_noteComing 36 = .ok (.aload_n 1, 1) := by decide +kernel
theorem dX3_noteComing_37 : decode cX3_noteComing 37 = .ok (.iload_n 3, 1) := by decide +kernel
theorem dX3_noteComing_38 : decode cX3_noteComing 38 = .ok (.iload 6, 2) := by decide +kernel
theorem dX3_noteComing_40 : decode cX3_noteComing 40 = .ok (.invokevirtual 48, 3) := by decide +kernel
theorem dX3_noteComing_43 : decode cX3_noteComing 43 = .ok (.ishl, 1) := by decide +kernel
theorem dX3_noteComing_44 : decode cX3_noteComing 44 = .ok (.ior, 1) := by decide +kernel
theorem dX3_noteComing_45 : decode cX3_noteComing 45 = .ok (.istore 4, 2) := by decide +kernel
theorem dX3_noteComing_47 : decode cX3_noteComing 47 = .ok (.iinc 6 1, 3) := by decide +kernel
theorem dX3_noteComing_50 : decode cX3_noteComing 50 = .ok (.goto (-24), 3) := by decide +kernel
theorem dX3_noteComing_53 : decode cX3_noteComing 53 = .ok (.aload_n 0, 1) := by decide +kernel
theorem dX3_noteComing_54 : decode cX3_noteComing 54 = .ok (.getfield 14, 3) := by decide +kernel
theorem dX3_noteComing_57 : decode cX3_noteComing 57 = .ok (.iload_n 3, 1) := by decide +kernel
theorem dX3_noteComing_58 : decode cX3_noteComing 58 = .ok (.iload 4, 2) := by decide +kernel
theorem dX3_noteComing_60 : decode cX3_noteComing 60 = .ok (.invokevirtual 52, 3) := by decide +kernel
theorem dX3_noteComing_63 : decode cX3_noteComing 63 = .ok (.iinc 3 1, 3) := by decide +kernel
theorem dX3_noteComing_66 : decode cX3_noteComing 66 = .ok (.goto (-64), 3) := by decide +kernel
theorem dX3_noteComing_69 : decode cX3_noteComing 69 = .ok (.aload_n 0, 1) := by decide +kernel
theorem dX3_noteComing_70 : decode cX3_noteComing 70 = .ok (.aload_n 0, 1) := by decide +kernel
theorem dX3_noteComing_71 : decode cX3_noteComing 71 = .ok (.aload_n 1, 1) := by decide +kernel
theorem dX3_noteComing_72 : decode cX3_noteComing 72 = .ok (.iload_n 2, 1) := by decide +kernel
theorem dX3_noteComing_73 : decode cX3_noteComing 73 = .ok (.iconst (-1), 1) := by decide +kernel
theorem dX3_noteComing_74 : decode cX3_noteComing 74 = .ok (.iconst (-1), 1) := by decide +kernel
theorem dX3_noteComing_75 : decode cX3_noteComing 75 = .ok (.invokevirtual 56, 3) := by decide +kernel
theorem dX3_noteComing_78 : decode cX3_noteComing 78 = .ok (.putfield 32, 3) := by decide +kernel
theorem dX3_noteComing_81 : decode cX3_noteComing 81 = .ok (.return_, 1) := by decide +kernel
set_option maxRecDepth 20000 in
theorem ggX3_noteStarving_X3_cell : GoodIn wsX3_noteStarving wsX3_cell := goodIn_r _ [7] (by decide +kernel) (by decide +kernel)
set_option maxRecDepth 20000 in
theorem gX3_noteStarving_X3_cell : GoodIn wsX3_noteStarving (va_wsS RX3 60 yX3_cell wsX3_cell) := goodIn_app (goodIn_of _ (by decide +kernel)) ggX3_noteStarving_X3_cell
set_option maxRecDepth 20000 in
theorem ggX3_noteStarving_X3_waysFrom : GoodIn wsX3_noteStarving wsX3_waysFrom := goodIn_r _ [11, 12, 13, 14, 15, 16, 17, 18, 19, 20, 21, 22, 23, 24, 25, 26, 27, 28, 29, 30, 31, 32, 33, 48, 49, 50, 51, 52, 53, 54, 55, 62] (by decide +kernel) (by decide +kernel)
set_option maxRecDepth 20000 in
theorem gX3_noteStarving_X3_waysFrom : GoodIn wsX3_noteStarving (wsV RX3 63 RX3 yX3_waysFrom wsX3_waysFrom) := goodIn_app (goodIn_of _ (by decide +kernel)) ggX3_noteStarving_X3_waysFrom
set_option maxRecDepth 20000 in
theorem ggX3_noteStarving_X5_put : GoodIn wsX3_noteStarving wsX5_put := goodIn_r _ [37, 18, 62] (by decide +kernel) (by decide +kernel)
set_option maxRecDepth 20000 in
theorem gX3_noteStarving_X5_put : GoodIn wsX3_noteStarving (wsV RX3 52 RX5 yX5_put wsX5_put) := goodIn_app (goodIn_of _ (by decide +kernel)) ggX3_noteStarving_X5_put
set_option maxRecDepth 20000 in
theorem ggX3_noteStarving_X3_starvingWith : GoodIn wsX3_noteStarving wsX3_starvingWith := goodIn_r _ [41, 1, 2, 42, 43, 44, 22, 45, 46, 47, 25, 14, 15, 16, 17, 18, 26, 27, 28, 4, 5, 6, 7, 13, 48, 49, 50, 51, 52, 53, 54, 55, 56, 57, 58, 59, 60, 61, 62] (by decide +kernel) (by decide +kernel)
set_option maxRecDepth 20000 in
theorem gX3_noteStarving_X3_starvingWith : GoodIn wsX3_noteStarving (wsV RX3 67 RX3 yX3_starvingWith wsX3_starvingWith) := goodIn_app (goodIn_of _ (by decide +kernel)) ggX3_noteStarving_X3_starvingWith
theorem dX3_noteStarving_0 : decode cX3_noteStarving 0 = .ok (.iconst 0, 1) := by decide +kernel
theorem dX3_noteStarving_1 : decode cX3_noteStarving 1 = .ok (.istore_n 3, 1) := by decide +kernel
theorem dX3_noteStarving_2 : decode cX3_noteStarving 2 = .ok (.iload_n 3, 1) := by decide +kernel
theorem dX3_noteStarving_3 : decode cX3_noteStarving 3 = .ok (.aload_n 1, 1) := by decide +kernel
theorem dX3_noteStarving_4 : decode cX3_noteStarving 4 = .ok (.getfield 36, 3) := by decide +kernel
theorem dX3_noteStarving_7 : decode cX3_noteStarving 7 = .ok (.if_icmp .ge 28, 3) := by decide +kernel
theorem dX3_noteStarving_10 : decode cX3_noteStarving 10 = .ok (.aload_n 0, 1) := by decide +kernel
theorem dX3_noteStarving_11 : decode cX3_noteStarving 11 = .ok (.getfield 20, 3) := by decide +kernel
theorem dX3_noteStarving_14 : decode cX3_noteStarving 14 = .ok (.iload_n 2, 1) := by decide +kernel
theorem dX3_noteStarving_15 : decode cX3_noteStarving 15 = .ok (.iload_n 3, 1) := by decide +kernel
theorem dX3_noteStarving_16 : decode cX3_noteStarving 16 = .ok (.invokestatic 60, 3) := by decide +kernel
theorem dX3_noteStarving_19 : decode cX3_noteStarving 19 = .ok (.aload_n 0, 1) := by decide +kernel
theorem dX3_noteStarving_20 : decode cX3_noteStarving 20 = .ok (.aload_n 1, 1) := by decide +kernel
theorem dX3_noteStarving_21 : decode cX3_noteStarving 21 = .ok (.iload_n 2, 1) := by decide +kernel
theorem dX3_noteStarving_22 : decode cX3_noteStarving 22 = .ok (.iload_n 3, 1) := by decide +kernel
theorem dX3_noteStarving_23 : decode cX3_noteStarving 23 = .ok (.invokevirtual 63, 3) := by decide +kernel
theorem dX3_noteStarving_26 : decode cX3_noteStarving 26 = .ok (.invokevirtual 52, 3) := by decide +kernel
theorem dX3_noteStarving_29 : decode cX3_noteStarving 29 = .ok (.iinc 3 1, 3) := by decide +kernel
theorem dX3_noteStarving_32 : decode cX3_noteStarving 32 = .ok (.goto (-30), 3) := by decide +kernel
theorem dX3_noteStarving_35 : decode cX3_noteStarving 35 = .ok (.aload_n 0, 1) := by decide +kernel
theorem dX3_noteStarving_36 : decode cX3_noteStarving 36 = .ok (.getfield 29, 3) := by decide +kernel
theorem dX3_noteStarving_39 : decode cX3_noteStarving 39 = .ok (.iload_n 2, 1) := by decide +kernel
theorem dX3_noteStarving_40 : decode cX3_noteStarving 40 = .ok (.aload_n 0, 1) := by decide +kernel
theorem dX3_noteStarving_41 : decode cX3_noteStarving 41 = .ok (.aload_n 1, 1) := by decide +kernel
theorem dX3_noteStarving_42 : decode cX3_noteStarving 42 = .ok (.iload_n 2, 1) := by decide +kernel
theorem dX3_noteStarving_43 : decode cX3_noteStarving 43 = .ok (.iconst (-1), 1) := by decide +kernel
theorem dX3_noteStarving_44 : decode cX3_noteStarving 44 = .ok (.iconst (-1), 1) := by decide +kernel
theorem dX3_noteStarving_45 : decode cX3_noteStarving 45 = .ok (.invokevirtual 67, 3) := by decide +kernel
theorem dX3_noteStarving_48 : decode cX3_noteStarving 48 = .ok (.invokevirtual 52, 3) := by decide +kernel
theorem dX3_noteStarving_51 : decode cX3_noteStarving 51 = .ok (.return_, 1) := by decide +kernel
set_option maxRecDepth 20000 in
theorem ggX3_noteWaits_X2_phasesWith : GoodIn wsX3_noteWaits wsX2_phasesWith := goodIn_r _ [8, 9, 10, 11, 12, 13, 14, 15, 16, 17, 18, 19, 47, 48, 49, 50, 51, 52, 53, 54, 61] (by decide +kernel) (by decide +kernel)
set_option maxRecDepth 20000 in
theorem gX3_noteWaits_X2_phasesWith : GoodIn wsX3_noteWaits (wsV RX3 70 RX2 yX2_phasesWith wsX2_phasesWith) := goodIn_app (goodIn_of _ (by decide +kernel)) ggX3_noteWaits_X2_phasesWith
set_option maxRecDepth 20000 in
theorem ggX3_noteWaits_X3_cell : GoodIn wsX3_noteWaits wsX3_cell := goodIn_r _ [23] (by decide +kernel) (by decide +kernel)
set_option maxRecDepth 20000 in
theorem gX3_noteWaits_X3_cell : GoodIn wsX3_noteWaits (va_wsS RX3 60 yX3_cell wsX3_cell) := goodIn_app (goodIn_of _ (by decide +kernel)) ggX3_noteWaits_X3_cell
set_option maxRecDepth 20000 in
theorem ggX3_noteWaits_X5_put : GoodIn wsX3_noteWaits wsX5_put := goodIn_r _ [27, 16, 61] (by decide +kernel) (by decide +kernel)
set_option maxRecDepth 20000 in
theorem gX3_noteWaits_X5_put : GoodIn wsX3_noteWaits (wsV RX3 52 RX5 yX5_put wsX5_put) := goodIn_app (goodIn_of _ (by decide +kernel)) ggX3_noteWaits_X5_put
set_option maxRecDepth 20000 in
theorem ggX3_noteWaits_X7_has : GoodIn wsX3_noteWaits wsX7_has := goodIn_r _ [19] (by decide +kernel) (by decide +kernel)
set_option maxRecDepth 20000 in
theorem gX3_noteWaits_X7_has_n73 : GoodIn wsX3_noteWaits (wsX7_has) := ggX3_noteWaits_X7_has
set_option maxRecDepth 20000 in
theorem ggX3_noteWaits_X3_noteWait : GoodIn wsX3_noteWaits wsX3_noteWait := goodIn_r _ [31, 32, 1, 33, 2, 34, 35, 36, 37, 3, 38, 39, 40, 20, 21, 22, 23, 41, 12, 13, 14, 15, 16, 17, 18, 19, 42, 43, 44, 7, 45, 10, 46, 11, 24, 25, 26, 27, 55, 56, 57, 58, 59, 60, 47, 48, 49, 50, 51, 52, 53, 54, 61] (by decide +kernel) (by decide +kernel)
set_option maxRecDepth 20000 in
theorem gX3_noteWaits_X3_noteWait : GoodIn wsX3_noteWaits (wsV RX3 77 RX3 yX3_noteWait wsX3_noteWait) := goodIn_app (goodIn_of _ (by decide +kernel)) ggX3_noteWaits_X3_noteWait
theorem dX3_noteWaits_0 : decode cX3_noteWaits 0 = .ok (.aload_n 1, 1) := by decide +kernel
theorem dX3_noteWaits_1 : decode cX3_noteWaits 1 = .ok (.iload_n 2, 1) := by decide +kernel
theorem dX3_noteWaits_2 : decode cX3_noteWaits 2 = .ok (.invokevirtual 70, 3) := by decide +kernel
theorem dX3_noteWaits_5 : decode cX3_noteWaits 5 = .ok (.istore_n 3, 1) := by decide +kernel
theorem dX3_noteWaits_6 : decode cX3_noteWaits 6 = .ok (.iconst 0, 1) := by decide +kernel
theorem dX3_noteWaits_7 : decode cX3_noteWaits 7 = .ok (.istore 4, 2) := by decide +kernel
theorem dX3_noteWaits_9 : decode cX3_noteWaits 9 = .ok (.iload 4, 2) := by decide +kernel
theorem dX3_noteWaits_11 : decode cX3_noteWaits 11 = .ok (.aload_n 1, 1) := by decide +kernel
theorem dX3_noteWaits_12 : decode cX3_noteWaits 12 = .ok (.getfield 36, 3) := by decide +kernel
theorem dX3_noteWaits_15 : decode cX3_noteWaits 15 = .ok (.if_icmp .ge 52, 3) := by decide +kernel
theorem dX3_noteWaits_18 : decode cX3_noteWaits 18 = .ok (.aload_n 0, 1) := by decide +kernel
theorem dX3_noteWaits_19 : decode cX3_noteWaits 19 = .ok (.getfield 23, 3) := by decide +kernel
theorem dX3_noteWaits_22 : decode cX3_noteWaits 22 = .ok (.iload_n 2, 1) := by decide +kernel
theorem dX3_noteWaits_23 : decode cX3_noteWaits 23 = .ok (.iload 4, 2) := by decide +kernel
theorem dX3_noteWaits_25 : decode cX3_noteWaits 25 = .ok (.invokestatic 60, 3) := by decide +kernel
theorem dX3_noteWaits_28 : decode cX3_noteWaits 28 = .ok (.iconst 0, 1) := by decide +kernel
theorem dX3_noteWaits_29 : decode cX3_noteWaits 29 = .ok (.invokevirtual 52, 3) := by decide +kernel
theorem dX3_noteWaits_32 : decode cX3_noteWaits 32 = .ok (.aload_n 0, 1) := by decide +kernel
theorem dX3_noteWaits_33 : decode cX3_noteWaits 33 = .ok (.getfield 26, 3) := by decide +kernel
theorem dX3_noteWaits_36 : decode cX3_noteWaits 36 = .ok (.iload_n 2, 1) := by decide +kernel
theorem dX3_noteWaits_37 : decode cX3_noteWaits 37 = .ok (.iload 4, 2) := by decide +kernel
theorem dX3_noteWaits_39 : decode cX3_noteWaits 39 = .ok (.invokestatic 60, 3) := by decide +kernel
theorem dX3_noteWaits_42 : decode cX3_noteWaits 42 = .ok (.iload_n 3, 1) := by decide +kernel
theorem dX3_noteWaits_43 : decode cX3_noteWaits 43 = .ok (.iload 4, 2) := by decide +kernel
theorem dX3_noteWaits_45 : decode cX3_noteWaits 45 = .ok (.invokestatic 73, 3) := by decide +kernel
theorem dX3_noteWaits_48 : decode cX3_noteWaits 48 = .ok (.ifCond .eq 7, 3) := by decide +kernel
theorem dX3_noteWaits_51 : decode cX3_noteWaits 51 = .ok (.iconst 0, 1) := by decide +kernel
theorem dX3_noteWaits_52 : decode cX3_noteWaits 52 = .ok (.goto 6, 3) := by decide +kernel
theorem dX3_noteWaits_55 : decode cX3_noteWaits 55 = .ok (.sipush 1000, 3) := by decide +kernel
theorem dX3_noteWaits_58 : decode cX3_noteWaits 58 = .ok (.invokevirtual 52, 3) := by decide +kernel
theorem dX3_noteWaits_61 : decode cX3_noteWaits 61 = .ok (.iinc 4 1, 3) := by decide +kernel
theorem dX3_noteWaits_64 : decode cX3_noteWaits 64 = .ok (.goto (-55), 3) := by decide +kernel
theorem dX3_noteWaits_67 : decode cX3_noteWaits 67 = .ok (.iconst 0, 1) := by decide +kernel
theorem dX3_noteWaits_68 : decode cX3_noteWaits 68 = .ok (.istore 4, 2) := by decide +kernel
theorem dX3_noteWaits_70 : decode cX3_noteWaits 70 = .ok (.iload 4, 2) := by decide +kernel
theorem dX3_noteWaits_72 : decode cX3_noteWaits 72 = .ok (.aload_n 1, 1) := by decide +kernel
theorem dX3_noteWaits_73 : decode cX3_noteWaits 73 = .ok (.getfield 36, 3) := by decide +kernel
theorem dX3_noteWaits_76 : decode cX3_noteWaits 76 = .ok (.if_icmp .ge 44, 3) := by decide +kernel
theorem dX3_noteWaits_79 : decode cX3_noteWaits 79 = .ok (.iconst 0, 1) := by decide +kernel
theorem dX3_noteWaits_80 : decode cX3_noteWaits 80 = .ok (.istore 5, 2) := by decide +kernel
theorem dX3_noteWaits_82 : decode cX3_noteWaits 82 = .ok (.iload 5, 2) := by decide +kernel
theorem dX3_noteWaits_84 : decode cX3_noteWaits 84 = .ok (.aload_n 1, 1) := by decide +kernel
theorem dX3_noteWaits_85 : decode cX3_noteWaits 85 = .ok (.getfield 36, 3) := by decide +kernel
theorem dX3_noteWaits_88 : decode cX3_noteWaits 88 = .ok (.if_icmp .ge 26, 3) := by decide +kernel
theorem dX3_noteWaits_91 : decode cX3_noteWaits 91 = .ok (.iload_n 3, 1) := by decide +kernel
theorem dX3_noteWaits_92 : decode cX3_noteWaits 92 = .ok (.iload 5, 2) := by decide +kernel
theorem dX3_noteWaits_94 : decode cX3_noteWaits 94 = .ok (.invokestatic 73, 3) := by decide +kernel
theorem dX3_noteWaits_97 : decode cX3_noteWaits 97 = .ok (.ifCond .ne 11, 3) := by decide +kernel
theorem dX3_noteWaits_100 : decode cX3_noteWaits 100 = .ok (.aload_n 0, 1) := by decide +kernel
theorem dX3_noteWaits_101 : decode cX3_noteWaits 101 = .ok (.aload_n 1, 1) := by decide +kernel
theorem dX3_noteWaits_102 : decode cX3_noteWaits 102 = .ok (.iload_n 2, 1) := by decide +kernel
theorem dX3_noteWaits_103 : decode cX3_noteWaits 103 = .ok (.iload 5, 2) := by decide +kernel
theorem dX3_noteWaits_105 : decode cX3_noteWaits 105 = .ok (.invokevirtual 77, 3) := by decide +kernel
theorem dX3_noteWaits_108 : decode cX3_noteWaits 108 = .ok (.iinc 5 1, 3) := by decide +kernel
theorem dX3_noteWaits_111 : decode cX3_noteWaits 111 = .ok (.goto (-29), 3) := by decide +kernel
theorem dX3_noteWaits_114 : decode cX3_noteWaits 114 = .ok (.iinc 4 1, 3) := by decide +kernel
theorem dX3_noteWaits_117 : decode cX3_noteWaits 117 = .ok (.goto (-47), 3) := by decide +kernel
theorem dX3_noteWaits_120 : decode cX3_noteWaits 120 = .ok (.return_, 1) := by decide +kernel
set_option maxRecDepth 20000 in
theorem ggX3_starvesFrom_X5_at : GoodIn wsX3_starvesFrom wsX5_at := goodIn_r _ [6, 7, 17] (by decide +kernel) (by decide +kernel)
set_option maxRecDepth 20000 in
theorem gX3_starvesFrom_X5_at : GoodIn wsX3_starvesFrom (wsV RX3 44 RX5 yX5_at wsX5_at) := goodIn_app (goodIn_of _ (by decide +kernel)) ggX3_starvesFrom_X5_at
set_option maxRecDepth 20000 in
theorem ggX3_starvesFrom_X7_has : GoodIn wsX3_starvesFrom wsX7_has := goodIn_r _ [10] (by decide +kernel) (by decide +kernel)
set_option maxRecDepth 20000 in
theorem gX3_starvesFrom_X7_has_n73 : GoodIn wsX3_starvesFrom (wsX7_has) := ggX3_starvesFrom_X7_has
theorem dX3_starvesFrom_0 : decode cX3_starvesFrom 0 = .ok (.aload_n 0, 1) := by decide +kernel
theorem dX3_starvesFrom_1 : decode cX3_starvesFrom 1 = .ok (.getfield 29, 3) := by decide +kernel
theorem dX3_starvesFrom_4 : decode cX3_starvesFrom 4 = .ok (.iload_n 1, 1) := by decide +kernel
theorem dX3_starvesFrom_5 : decode cX3_starvesFrom 5 = .ok (.invokevirtual 44, 3) := by decide +kernel
theorem dX3_starvesFrom_8 : decode cX3_starvesFrom 8 = .ok (.iload_n 2, 1) := by decide +kernel
theorem dX3_starvesFrom_9 : decode cX3_starvesFrom 9 = .ok (.invokestatic 73, 3) := by decide +kernel
theorem dX3_starvesFrom_12 : decode cX3_starvesFrom 12 = .ok (.ireturn, 1) := by decide +kernel
set_option maxRecDepth 20000 in
theorem ggX3_canStarve_X5_at : GoodIn wsX3_canStarve wsX5_at := goodIn_r _ [7, 8, 15] (by decide +kernel) (by decide +kernel)
set_option maxRecDepth 20000 in
theorem gX3_canStarve_X5_at : GoodIn wsX3_canStarve (wsV RX3 44 RX5 yX5_at wsX5_at) := goodIn_app (goodIn_of _ (by decide +kernel)) ggX3_canStarve_X5_at
theorem dX3_canStarve_0 : decode cX3_canStarve 0 = .ok (.aload_n 0, 1) := by decide +kernel
theorem dX3_canStarve_1 : decode cX3_canStarve 1 = .ok (.getfield 29, 3) := by decide +kernel
theorem dX3_canStarve_4 : decode cX3_canStarve 4 = .ok (.iload_n 1, 1) := by decide +kernel
theorem dX3_canStarve_5 : decode cX3_canStarve 5 = .ok (.invokevirtual 44, 3) := by decide +kernel
theorem dX3_canStarve_8 : decode cX3_canStarve 8 = .ok (.aload_n 0, 1) := by decide +kernel
theorem dX3_canStarve_9 : decode cX3_canStarve 9 = .ok (.getfield 32, 3) := by decide +kernel
theorem dX3_canStarve_12 : decode cX3_canStarve 12 = .ok (.iand, 1) := by decide +kernel
theorem dX3_canStarve_13 : decode cX3_canStarve 13 = .ok (.ifCond .eq 7, 3) := by decide +kernel
theorem dX3_canStarve_16 : decode cX3_canStarve 16 = .ok (.iconst 1, 1) := by decide +kernel
theorem dX3_canStarve_17 : decode cX3_canStarve 17 = .ok (.goto 4, 3) := by decide +kernel
theorem dX3_canStarve_20 : decode cX3_canStarve 20 = .ok (.iconst 0, 1) := by decide +kernel
theorem dX3_canStarve_21 : decode cX3_canStarve 21 = .ok (.ireturn, 1) := by decide +kernel
set_option maxRecDepth 20000 in
theorem ggX3_starvingDirections_X3_canStarve : GoodIn wsX3_starvingDirections wsX3_canStarve := goodIn_r _ [5, 6, 7, 8, 9, 10, 11, 12, 13, 14, 15, 16, 17, 18, 19, 20] (by decide +kernel) (by decide +kernel)
set_option maxRecDepth 20000 in
theorem gX3_starvingDirections_X3_canStarve : GoodIn wsX3_starvingDirections (wsV RX3 81 RX3 yX3_canStarve wsX3_canStarve) := goodIn_app (goodIn_of _ (by decide +kernel)) ggX3_starvingDirections_X3_canStarve
theorem dX3_starvingDirections_0 : decode cX3_starvingDirections 0 = .ok (.iconst 0, 1) := by decide +kernel
theorem dX3_starvingDirections_1 : decode cX3_starvingDirections 1 = .ok (.istore_n 1, 1) := by decide +kernel
theorem dX3_starvingDirections_2 : decode cX3_starvingDirections 2 = .ok (.iconst 0, 1) := by decide +kernel
theorem dX3_starvingDirections_3 : decode cX3_starvingDirections 3 = .ok (.istore_n 2, 1) := by decide +kernel
theorem dX3_starvingDirections_4 : decode cX3_starvingDirections 4 = .ok (.iload_n 2, 1) := by decide +kernel
theorem dX3_starvingDirections_5 : decode cX3_starvingDirections 5 = .ok (.bipush 6, 2) := by decide +kernel
theorem dX3_starvingDirections_7 : decode cX3_starvingDirections 7 = .ok (.if_icmp .ge 23, 3) := by decide +kernel
theorem dX3_starvingDirections_10 : decode cX3_starvingDirections 10 = .ok (.aload_n 0, 1) := by decide +kernel
theorem dX3_starvingDirections_11 : decode cX3_starvingDirections 11 = .ok (.iload_n 2, 1) := by decide +kernel
theorem dX3_starvingDirections_12 : decode cX3_starvingDirections 12 = .ok (.invokevirtual 81, 3) := by decide +kernel
theorem dX3_starvingDirections_15 : decode cX3_starvingDirections 15 = .ok (.ifCond .eq 9, 3) := by decide +kernel
theorem dX3_starvingDirections_18 : decode cX3_starvingDirections 18 = .ok (.iload_n 1, 1) := by decide +kernel
theorem dX3_starvingDirections_19 : decode cX3_starvingDirections 19 = .ok (.iconst 1, 1) := by decide +kernel
theorem dX3_starvingDirections_20 : decode cX3_starvingDirections 20 = .ok (.iload_n 2, 1) := by decide +kernel
theorem dX3_starvingDirections_21 : decode cX3_starvingDirections 21 = .ok (.ishl, 1) := by decide +kernel
theorem dX3_starvingDirections_22 : decode cX3_starvingDirections 22 = .ok (.ior, 1) := by decide +kernel
theorem dX3_starvingDirections_23 : decode cX3_starvingDirections 23 = .ok (.istore_n 1, 1) := by decide +kernel
theorem dX3_starvingDirections_24 : decode cX3_starvingDirections 24 = .ok (.iinc 2 1, 3) := by decide +kernel
theorem dX3_starvingDirections_27 : decode cX3_starvingDirections 27 = .ok (.goto (-23), 3) := by decide +kernel
theorem dX3_starvingDirections_30 : decode cX3_starvingDirections 30 = .ok (.iload_n 1, 1) := by decide +kernel
theorem dX3_starvingDirections_31 : decode cX3_starvingDirections 31 = .ok (.ireturn, 1) := by decide +kernel
set_option maxRecDepth 20000 in
theorem ggX3_longestFrom_X3_starvesFrom : GoodIn wsX3_longestFrom wsX3_starvesFrom := goodIn_r _ [6, 7, 8, 9, 10, 11, 12, 13, 14, 15, 16, 20, 21, 22, 23, 24, 25, 26] (by decide +kernel) (by decide +kernel)
set_option maxRecDepth 20000 in
theorem gX3_longestFrom_X3_starvesFrom : GoodIn wsX3_longestFrom (wsV RX3 85 RX3 yX3_starvesFrom wsX3_starvesFrom) := goodIn_app (goodIn_of _ (by decide +kernel)) ggX3_longestFrom_X3_starvesFrom
set_option maxRecDepth 20000 in
theorem ggX3_longestFrom_X3_cell : GoodIn wsX3_longestFrom wsX3_cell := goodIn_r _ [19] (by decide +kernel) (by decide +kernel)
set_option maxRecDepth 20000 in
theorem gX3_longestFrom_X3_cell : GoodIn wsX3_longestFrom (va_wsS RX3 60 yX3_cell wsX3_cell) := goodIn_app (goodIn_of _ (by decide +kernel)) ggX3_longestFrom_X3_cell
set_option maxRecDepth 20000 in
theorem ggX3_longestFrom_X5_at : GoodIn wsX3_longestFrom wsX5_at := goodIn_r _ [12, 13, 26] (by decide +kernel) (by decide +kernel)
set_option maxRecDepth 20000 in
theorem gX3_longestFrom_X5_at : GoodIn wsX3_longestFrom (wsV RX3 44 RX5 yX5_at wsX5_at) := goodIn_app (goodIn_of _ (by decide +kernel)) ggX3_longestFrom_X5_at
theorem dX3_longestFrom_0 : decode cX3_longestFrom 0 = .ok (.aload_n 0, 1) := by decide +kernel
theorem dX3_longestFrom_1 : decode cX3_longestFrom 1 = .ok (.iload_n 1, 1) := by decide +kernel
theorem dX3_longestFrom_2 : decode cX3_longestFrom 2 = .ok (.iload_n 2, 1) := by decide +kernel
theorem dX3_longestFrom_3 : decode cX3_longestFrom 3 = .ok (.invokevirtual 85, 3) := by decide +kernel
theorem dX3_longestFrom_6 : decode cX3_longestFrom 6 = .ok (.ifCond .eq 7, 3) := by decide +kernel
theorem dX3_longestFrom_9 : decode cX3_longestFrom 9 = .ok (.iconst (-1), 1) := by decide +kernel
theorem dX3_longestFrom_10 : decode cX3_longestFrom 10 = .ok (.goto 15, 3) := by decide +kernel
theorem dX3_longestFrom_13 : decode cX3_longestFrom 13 = .ok (.aload_n 0, 1) := by decide +kernel
theorem dX3_longestFrom_14 : decode cX3_longestFrom 14 = .ok (.getfield 23, 3) := by decide +kernel
theorem dX3_longestFrom_17 : decode cX3_longestFrom 17 = .ok (.iload_n 1, 1) := by decide +kernel
theorem dX3_longestFrom_18 : decode cX3_longestFrom 18 = .ok (.iload_n 2, 1) := by decide +kernel
theorem dX3_longestFrom_19 : decode cX3_longestFrom 19 = .ok (.invokestatic 60, 3) := by decide +kernel
theorem dX3_longestFrom_22 : decode cX3_longestFrom 22 = .ok (.invokevirtual 44, 3) := by decide +kernel
theorem dX3_longestFrom_25 : decode cX3_longestFrom 25 = .ok (.ireturn, 1) := by decide +kernel
set_option maxRecDepth 20000 in
theorem ggX3_shortestFrom_X3_cell : GoodIn wsX3_shortestFrom wsX3_cell := goodIn_r _ [5] (by decide +kernel) (by decide +kernel)
set_option maxRecDepth 20000 in
theorem gX3_shortestFrom_X3_cell : GoodIn wsX3_shortestFrom (va_wsS RX3 60 yX3_cell wsX3_cell) := goodIn_app (goodIn_of _ (by decide +kernel)) ggX3_shortestFrom_X3_cell
set_option maxRecDepth 20000 in
theorem ggX3_shortestFrom_X5_at : GoodIn wsX3_shortestFrom wsX5_at := goodIn_r _ [10, 11, 18] (by decide +kernel) (by decide +kernel)
set_option maxRecDepth 20000 in
theorem gX3_shortestFrom_X5_at : GoodIn wsX3_shortestFrom (wsV RX3 44 RX5 yX5_at wsX5_at) := goodIn_app (goodIn_of _ (by decide +kernel)) ggX3_shortestFrom_X5_at
theorem dX3_shortestFrom_0 : decode cX3_shortestFrom 0 = .ok (.aload_n 0, 1) := by decide +kernel
theorem dX3_shortestFrom_1 : decode cX3_shortestFrom 1 = .ok (.getfield 26, 3) := by decide +kernel
theorem dX3_shortestFrom_4 : decode cX3_shortestFrom 4 = .ok (.iload_n 1, 1) := by decide +kernel
theorem dX3_shortestFrom_5 : decode cX3_shortestFrom 5 = .ok (.iload_n 2, 1) := by decide +kernel
theorem dX3_shortestFrom_6 : decode cX3_shortestFrom 6 = .ok (.invokestatic 60, 3) := by decide +kernel
theorem dX3_shortestFrom_9 : decode cX3_shortestFrom 9 = .ok (.invokevirtual 44, 3) := by decide +kernel
theorem dX3_shortestFrom_12 : decode cX3_shortestFrom 12 = .ok (.istore_n 3, 1) := by decide +kernel
theorem dX3_shortestFrom_13 : decode cX3_shortestFrom 13 = .ok (.iload_n 3, 1) := by decide +kernel
theorem dX3_shortestFrom_14 : decode cX3_shortestFrom 14 = .ok (.sipush 1000, 3) := by decide +kernel
theorem dX3_shortestFrom_17 : decode cX3_shortestFrom 17 = .ok (.if_icmp .lt 7, 3) := by decide +kernel
theorem dX3_shortestFrom_20 : decode cX3_shortestFrom 20 = .ok (.iconst (-1), 1) := by decide +kernel
theorem dX3_shortestFrom_21 : decode cX3_shortestFrom 21 = .ok (.goto 4, 3) := by decide +kernel
theorem dX3_shortestFrom_24 : decode cX3_shortestFrom 24 = .ok (.iload_n 3, 1) := by decide +kernel
theorem dX3_shortestFrom_25 : decode cX3_shortestFrom 25 = .ok (.ireturn, 1) := by decide +kernel
theorem dX3_cell_0 : decode cX3_cell 0 = .ok (.iload_n 0, 1) := by decide +kernel
theorem dX3_cell_1 : decode cX3_cell 1 = .ok (.bipush 8, 2) := by decide +kernel
theorem dX3_cell_3 : decode cX3_cell 3 = .ok (.imul, 1) := by decide +kernel
theorem dX3_cell_4 : decode cX3_cell 4 = .ok (.iload_n 1, 1) := by decide +kernel
theorem dX3_cell_5 : decode cX3_cell 5 = .ok (.iadd, 1) := by decide +kernel
theorem dX3_cell_6 : decode cX3_cell 6 = .ok (.ireturn, 1) := by decide +kernel
set_option maxRecDepth 20000 in
theorem ggX3_comingWith_X2_hasPhase : GoodIn wsX3_comingWith wsX2_hasPhase := goodIn_r _ [7, 8, 18, 19, 20, 21, 22, 23, 24, 25] (by decide +kernel) (by decide +kernel)
set_option maxRecDepth 20000 in
theorem gX3_comingWith_X2_hasPhase : GoodIn wsX3_comingWith (wsV RX3 100 RX2 yX2_hasPhase wsX2_hasPhase) := goodIn_app (goodIn_of _ (by decide +kernel)) ggX3_comingWith_X2_hasPhase
set_option maxRecDepth 20000 in
theorem ggX3_comingWith_X7_has : GoodIn wsX3_comingWith wsX7_has := goodIn_r _ [11] (by decide +kernel) (by decide +kernel)
set_option maxRecDepth 20000 in
theorem gX3_comingWith_X7_has_n73 : GoodIn wsX3_comingWith (wsX7_has) := ggX3_comingWith_X7_has
set_option maxRecDepth 20000 in
theorem ggX3_comingWith_X5_at : GoodIn wsX3_comingWith wsX5_at := goodIn_r _ [16, 17, 32] (by decide +kernel) (by decide +kernel)
set_option maxRecDepth 20000 in
theorem gX3_comingWith_X5_at : GoodIn wsX3_comingWith (wsV RX3 44 RX5 yX5_at wsX5_at) := goodIn_app (goodIn_of _ (by decide +kernel)) ggX3_comingWith_X5_at
theorem dX3_comingWith_0 : decode cX3_comingWith 0 = .ok (.aload_n 1, 1) := by decide +kernel
theorem dX3_comingWith_1 : decode cX3_comingWith 1 = .ok (.iload_n 2, 1) := by decide +kernel
theorem dX3_comingWith_2 : decode cX3_comingWith 2 = .ok (.invokevirtual 100, 3) := by decide +kernel
theorem dX3_comingWith_5 : decode cX3_comingWith 5 = .ok (.ifCond .eq 9, 3) := by decide +kernel
theorem dX3_comingWith_8 : decode cX3_comingWith 8 = .ok (.iconst 1, 1) := by decide +kernel
theorem dX3_comingWith_9 : decode cX3_comingWith 9 = .ok (.iload_n 2, 1) := by decide +kernel
theorem dX3_comingWith_10 : decode cX3_comingWith 10 = .ok (.ishl, 1) := by decide +kernel
theorem dX3_comingWith_11 : decode cX3_comingWith 11 = .ok (.goto 4, 3) := by decide +kernel
theorem dX3_comingWith_14 : decode cX3_comingWith 14 = .ok (.iconst 0, 1) := by decide +kernel
theorem dX3_comingWith_15 : decode cX3_comingWith 15 = .ok (.istore 5, 2) := by decide +kernel
theorem dX3_comingWith_17 : decode cX3_comingWith 17 = .ok (.iconst 1, 1) := by decide +kernel
theorem dX3_comingWith_18 : decode cX3_comingWith 18 = .ok (.istore 6, 2) := by decide +kernel
theorem dX3_comingWith_20 : decode cX3_comingWith 20 = .ok (.iconst 0, 1) := by decide +kernel
theorem dX3_comingWith_21 : decode cX3_comingWith 21 = .ok (.istore 7, 2) := by decide +kernel
theorem dX3_comingWith_23 : decode cX3_comingWith 23 = .ok (.iload 7, 2) := by decide +kernel
theorem dX3_comingWith_25 : decode cX3_comingWith 25 = .ok (.aload_n 1, 1) := by decide +kernel
theorem dX3_comingWith_26 : decode cX3_comingWith 26 = .ok (.getfield 36, 3) := by decide +kernel
theorem dX3_comingWith_29 : decode cX3_comingWith 29 = .ok (.if_icmp .ge 97, 3) := by decide +kernel
theorem dX3_comingWith_32 : decode cX3_comingWith 32 = .ok (.iload 6, 2) := by decide +kernel
theorem dX3_comingWith_34 : decode cX3_comingWith 34 = .ok (.ifCond .eq 92, 3) := by decide +kernel
theorem dX3_comingWith_37 : decode cX3_comingWith 37 = .ok (.iload 5, 2) := by decide +kernel
theorem dX3_comingWith_39 : decode cX3_comingWith 39 = .ok (.istore 8, 2) := by decide +kernel
theorem dX3_comingWith_41 : decode cX3_comingWith 41 = .ok (.iconst 0, 1) := by decide +kernel
theorem dX3_comingWith_42 : decode cX3_comingWith 42 = .ok (.istore 9, 2) := by decide +kernel
theorem dX3_comingWith_44 : decode cX3_comingWith 44 = .ok (.iload 9, 2) := by decide +kernel
theorem dX3_comingWith_46 : decode cX3_comingWith 46 = .ok (.aload_n 1, 1) := by decide +kernel
theorem dX3_comingWith_47 : decode cX3_comingWith 47 = .ok (.getfield 36, 3) := by decide +kernel
theorem dX3_comingWith_50 : decode cX3_comingWith 50 = .ok (.if_icmp .ge 56, 3) := by decide +kernel
theorem dX3_comingWith_53 : decode cX3_comingWith 53 = .ok (.iload 5, 2) := by decide +kernel
theorem dX3_comingWith_55 : decode cX3_comingWith 55 = .ok (.iload 9, 2) := by decide +kernel
theorem dX3_comingWith_57 : decode cX3_comingWith 57 = .ok (.invokestatic 73, 3) := by decide +kernel
theorem dX3_comingWith_60 : decode cX3_comingWith 60 = .ok (.ifCond .eq 40, 3) := by decide +kernel
theorem dX3_comingWith_63 : decode cX3_comingWith 63 = .ok (.iload 5, 2) := by decide +kernel
theorem dX3_comingWith_65 : decode cX3_comingWith 65 = .ok (.iload 9, 2) := by decide +kernel
theorem dX3_comingWith_67 : decode cX3_comingWith 67 = .ok (.iload_n 3, 1) := by decide +kernel
theorem dX3_comingWith_68 : decode cX3_comingWith 68 = .ok (.if_icmp .ne 20, 3) := by decide +kernel
theorem dX3_comingWith_71 : decode cX3_comingWith 71 = .ok (.aload_n 0, 1) := by decide +kernel
theorem dX3_comingWith_72 : decode cX3_comingWith 72 = .ok (.getfield 14, 3) := by decide +kernel
theorem dX3_comingWith_75 : decode cX3_comingWith 75 = .ok (.iload 9, 2) := by decide +kernel
theorem dX3_comingWith_77 : decode cX3_comingWith 77 = .ok (.invokevirtual 44, 3) := by decide +kernel
theorem dX3_comingWith_80 : decode cX3_comingWith 80 = .ok (.iconst 1, 1) := by decide +kernel
theorem dX3_comingWith_81 : decode cX3_comingWith 81 = .ok (.iload 4, 2) := by decide +kernel
theorem dX3_comingWith_83 : decode cX3_comingWith 83 = .ok (.ishl, 1) := by decide +kernel
theorem dX3_comingWith_84 : decode cX3_comingWith 84 = .ok (.ior, 1) := by decide +kernel
theorem dX3_comingWith_85 : decode cX3_comingWith 85 = .ok (.goto 12, 3) := by decide +kernel
theorem dX3_comingWith_88 : decode cX3_comingWith 88 = .ok (.aload_n 0, 1) := by decide +kernel
theorem dX3_comingWith_89 : decode cX3_comingWith 89 = .ok (.getfield 14, 3) := by decide +kernel
theorem dX3_comingWith_92 : decode cX3_comingWith 92 = .ok (.iload 9, 2) := by decide +kernel
theorem dX3_comingWith_94 : decode cX3_comingWith 94 = .ok (.invokevirtual 44, 3) := by decide +kernel
theorem dX3_comingWith_97 : decode cX3_comingWith 97 = .ok (.ior, 1) := by decide +kernel
theorem dX3_comingWith_98 : decode cX3_comingWith 98 = .ok (.istore 5, 2) := by decide +kernel
theorem dX3_comingWith_100 : decode cX3_comingWith 100 = .ok (.iinc 9 1, 3) := by decide +kernel
theorem dX3_comingWith_103 : decode cX3_comingWith 103 = .ok (.goto (-59), 3) := by decide +kernel
theorem dX3_comingWith_106 : decode cX3_comingWith 106 = .ok (.iload 5, 2) := by decide +kernel
theorem dX3_comingWith_108 : decode cX3_comingWith 108 = .ok (.iload 8, 2) := by decide +kernel
theorem dX3_comingWith_110 : decode cX3_comingWith 110 = .ok (.if_icmp .eq 7, 3) := by decide +kernel
theorem dX3_comingWith_113 : decode cX3_comingWith 113 = .ok (.iconst 1, 1) := by decide +kernel
theorem dX3_comingWith_114 : decode cX3_comingWith 114 = .ok (.goto 4, 3) := by decide +kernel
theorem dX3_comingWith_117 : decode cX3_comingWith 117 = .ok (.iconst 0, 1) := by decide +kernel
theorem dX3_comingWith_118 : decode cX3_comingWith 118 = .ok (.istore 6, 2) := by decide +kernel
theorem dX3_comingWith_120 : decode cX3_comingWith 120 = .ok (.iinc 7 1, 3) := by decide +kernel
theorem dX3_comingWith_123 : decode cX3_comingWith 123 = .ok (.goto (-100), 3) := by decide +kernel
theorem dX3_comingWith_126 : decode cX3_comingWith 126 = .ok (.iload 5, 2) := by decide +kernel
theorem dX3_comingWith_128 : decode cX3_comingWith 128 = .ok (.ireturn, 1) := by decide +kernel
set_option maxRecDepth 20000 in
theorem ggX3_waysFrom_X5_at : GoodIn wsX3_waysFrom wsX5_at := goodIn_r _ [6, 7, 31] (by decide +kernel) (by decide +kernel)
set_option maxRecDepth 20000 in
theorem gX3_waysFrom_X5_at : GoodIn wsX3_waysFrom (wsV RX3 44 RX5 yX5_at wsX5_at) := goodIn_app (goodIn_of _ (by decide +kernel)) ggX3_waysFrom_X5_at
set_option maxRecDepth 20000 in
theorem ggX3_waysFrom_X2_askersOf : GoodIn wsX3_waysFrom wsX2_askersOf := goodIn_r _ [12, 13, 14, 3, 4, 5, 6, 7, 23, 24, 25, 26, 27, 28, 29, 30, 31] (by decide +kernel) (by decide +kernel)
set_option maxRecDepth 20000 in
theorem gX3_waysFrom_X2_askersOf : GoodIn wsX3_waysFrom (wsV RX3 103 RX2 yX2_askersOf wsX2_askersOf) := goodIn_app (goodIn_of _ (by decide +kernel)) ggX3_waysFrom_X2_askersOf
set_option maxRecDepth 20000 in
theorem ggX3_waysFrom_X7_has : GoodIn wsX3_waysFrom wsX7_has := goodIn_r _ [17] (by decide +kernel) (by decide +kernel)
set_option maxRecDepth 20000 in
theorem gX3_waysFrom_X7_has_n73 : GoodIn wsX3_waysFrom (wsX7_has) := ggX3_waysFrom_X7_has
set_option maxRecDepth 20000 in
theorem ggX3_waysFrom_X2_goalOf : GoodIn wsX3_waysFrom wsX2_goalOf := goodIn_r _ [21, 22, 14, 3, 4, 5, 6, 7, 23, 24, 25, 26, 27, 28, 29, 30, 31] (by decide +kernel) (by decide +kernel)
set_option maxRecDepth 20000 in
theorem gX3_waysFrom_X2_goalOf : GoodIn wsX3_waysFrom (wsV RX3 48 RX2 yX2_goalOf wsX2_goalOf) := goodIn_app (goodIn_of _ (by decide +kernel)) ggX3_waysFrom_X2_goalOf
theorem dX3_waysFrom_0 : decode cX3_waysFrom 0 = .ok (.iconst 0, 1) := by decide +kernel
theorem dX3_waysFrom_1 : decode cX3_waysFrom 1 = .ok (.istore 4, 2) := by decide +kernel
theorem dX3_waysFrom_3 : decode cX3_waysFrom 3 = .ok (.iconst 0, 1) := by decide +kernel
theorem dX3_waysFrom_4 : decode cX3_waysFrom 4 = .ok (.istore 5, 2) := by decide +kernel
theorem dX3_waysFrom_6 : decode cX3_waysFrom 6 = .ok (.aload_n 1, 1) := by decide +kernel
theorem dX3_waysFrom_7 : decode cX3_waysFrom 7 = .ok (.getfield 41, 3) := by decide +kernel
theorem dX3_waysFrom_10 : decode cX3_waysFrom 10 = .ok (.iload_n 3, 1) := by decide +kernel
theorem dX3_waysFrom_11 : decode cX3_waysFrom 11 = .ok (.invokevirtual 44, 3) := by decide +kernel
theorem dX3_waysFrom_14 : decode cX3_waysFrom 14 = .ok (.istore 6, 2) := by decide +kernel
theorem dX3_waysFrom_16 : decode cX3_waysFrom 16 = .ok (.iconst 0, 1) := by decide +kernel
theorem dX3_waysFrom_17 : decode cX3_waysFrom 17 = .ok (.istore 7, 2) := by decide +kernel
theorem dX3_waysFrom_19 : decode cX3_waysFrom 19 = .ok (.iload 7, 2) := by decide +kernel
theorem dX3_waysFrom_21 : decode cX3_waysFrom 21 = .ok (.iload 6, 2) := by decide +kernel
theorem dX3_waysFrom_23 : decode cX3_waysFrom 23 = .ok (.if_icmp .ge 83, 3) := by decide +kernel
theorem dX3_waysFrom_26 : decode cX3_waysFrom 26 = .ok (.aload_n 1, 1) := by decide +kernel
theorem dX3_waysFrom_27 : decode cX3_waysFrom 27 = .ok (.iload_n 3, 1) := by decide +kernel
theorem dX3_waysFrom_28 : decode cX3_waysFrom 28 = .ok (.iload 7, 2) := by decide +kernel
theorem dX3_waysFrom_30 : decode cX3_waysFrom 30 = .ok (.invokevirtual 103, 3) := by decide +kernel
theorem dX3_waysFrom_33 : decode cX3_waysFrom 33 = .ok (.istore 8, 2) := by decide +kernel
theorem dX3_waysFrom_35 : decode cX3_waysFrom 35 = .ok (.iload 8, 2) := by decide +kernel
theorem dX3_waysFrom_37 : decode cX3_waysFrom 37 = .ok (.ifCond .eq 12, 3) := by decide +kernel
theorem dX3_waysFrom_40 : decode cX3_waysFrom 40 = .ok (.iload 8, 2) := by decide +kernel
theorem dX3_waysFrom_42 : decode cX3_waysFrom 42 = .ok (.iload_n 2, 1) := by decide +kernel
theorem dX3_waysFrom_43 : decode cX3_waysFrom 43 = .ok (.invokestatic 73, 3) := by decide +kernel
theorem dX3_waysFrom_46 : decode cX3_waysFrom 46 = .ok (.ifCond .eq 7, 3) := by decide +kernel
theorem dX3_waysFrom_49 : decode cX3_waysFrom 49 = .ok (.iconst 1, 1) := by decide +kernel
theorem dX3_waysFrom_50 : decode cX3_waysFrom 50 = .ok (.goto 4, 3) := by decide +kernel
theorem dX3_waysFrom_53 : decode cX3_waysFrom 53 = .ok (.iconst 0, 1) := by decide +kernel
theorem dX3_waysFrom_54 : decode cX3_waysFrom 54 = .ok (.istore 9, 2) := by decide +kernel
theorem dX3_waysFrom_56 : decode cX3_waysFrom 56 = .ok (.iload 9, 2) := by decide +kernel
theorem dX3_waysFrom_58 : decode cX3_waysFrom 58 = .ok (.ifCond .ne 13, 3) := by decide +kernel
theorem dX3_waysFrom_61 : decode cX3_waysFrom 61 = .ok (.iload 8, 2) := by decide +kernel
theorem dX3_waysFrom_63 : decode cX3_waysFrom 63 = .ok (.iload 5, 2) := by decide +kernel
theorem dX3_waysFrom_65 : decode cX3_waysFrom 65 = .ok (.iconst (-1), 1) := by decide +kernel
theorem dX3_waysFrom_66 : decode cX3_waysFrom 66 = .ok (.ixor, 1) := by decide +kernel
theorem dX3_waysFrom_67 : decode cX3_waysFrom 67 = .ok (.iand, 1) := by decide +kernel
theorem dX3_waysFrom_68 : decode cX3_waysFrom 68 = .ok (.ifCond .eq 17, 3) := by decide +kernel
theorem dX3_waysFrom_71 : decode cX3_waysFrom 71 = .ok (.iload 4, 2) := by decide +kernel
theorem dX3_waysFrom_73 : decode cX3_waysFrom 73 = .ok (.iconst 1, 1) := by decide +kernel
theorem dX3_waysFrom_74 : decode cX3_waysFrom 74 = .ok (.aload_n 1, 1) := by decide +kernel
theorem dX3_waysFrom_75 : decode cX3_waysFrom 75 = .ok (.iload_n 3, 1) := by decide +kernel
theorem dX3_waysFrom_76 : decode cX3_waysFrom 76 = .ok (.iload 7, 2) := by decide +kernel
theorem dX3_waysFrom_78 : decode cX3_waysFrom 78 = .ok (.invokevirtual 48, 3) := by decide +kernel
theorem dX3_waysFrom_81 : decode cX3_waysFrom 81 = .ok (.ishl, 1) := by decide +kernel
theorem dX3_waysFrom_82 : decode cX3_waysFrom 82 = .ok (.ior, 1) := by decide +kernel
theorem dX3_waysFrom_83 : decode cX3_waysFrom 83 = .ok (.istore 4, 2) := by decide +kernel
theorem dX3_waysFrom_85 : decode cX3_waysFrom 85 = .ok (.iload 9, 2) := by decide +kernel
theorem dX3_waysFrom_87 : decode cX3_waysFrom 87 = .ok (.ifCond .eq 6, 3) := by decide +kernel
theorem dX3_waysFrom_90 : decode cX3_waysFrom 90 = .ok (.iload 4, 2) := by decide +kernel
theorem dX3_waysFrom_92 : decode cX3_waysFrom 92 = .ok (.ireturn, 1) := by decide +kernel
theorem dX3_waysFrom_93 : decode cX3_waysFrom 93 = .ok (.iload 5, 2) := by decide +kernel
theorem dX3_waysFrom_95 : decode cX3_waysFrom 95 = .ok (.iload 8, 2) := by decide +kernel
theorem dX3_waysFrom_97 : decode cX3_waysFrom 97 = .ok (.ior, 1) := by decide +kernel
theorem dX3_waysFrom_98 : decode cX3_waysFrom 98 = .ok (.istore 5, 2) := by decide +kernel
theorem dX3_waysFrom_100 : decode cX3_waysFrom 100 = .ok (.iinc 7 1, 3) := by decide +kernel
theorem dX3_waysFrom_103 : decode cX3_waysFrom 103 = .ok (.goto (-84), 3) := by decide +kernel
theorem dX3_waysFrom_106 : decode cX3_waysFrom 106 = .ok (.iload 4, 2) := by decide +kernel
theorem dX3_waysFrom_108 : decode cX3_waysFrom 108 = .ok (.sipush 256, 3) := by decide +kernel
theorem dX3_waysFrom_111 : decode cX3_waysFrom 111 = .ok (.ior, 1) := by decide +kernel
theorem dX3_waysFrom_112 : decode cX3_waysFrom 112 = .ok (.ireturn, 1) := by decide +kernel
set_option maxRecDepth 20000 in
theorem ggX3_starvingWith_X2_phasesWith : GoodIn wsX3_starvingWith wsX2_phasesWith := goodIn_r _ [7, 8, 9, 10, 11, 12, 13, 14, 15, 16, 17, 18, 24, 25, 26, 27, 28, 29, 30, 31, 38] (by decide +kernel) (by decide +kernel)
set_option maxRecDepth 20000 in
theorem gX3_starvingWith_X2_phasesWith : GoodIn wsX3_starvingWith (wsV RX3 70 RX2 yX2_phasesWith wsX2_phasesWith) := goodIn_app (goodIn_of _ (by decide +kernel)) ggX3_starvingWith_X2_phasesWith
set_option maxRecDepth 20000 in
theorem ggX3_starvingWith_X3_cell : GoodIn wsX3_starvingWith wsX3_cell := goodIn_r _ [22] (by decide +kernel) (by decide +kernel)
set_option maxRecDepth 20000 in
theorem gX3_starvingWith_X3_cell : GoodIn wsX3_starvingWith (va_wsS RX3 60 yX3_cell wsX3_cell) := goodIn_app (goodIn_of _ (by decide +kernel)) ggX3_starvingWith_X3_cell
set_option maxRecDepth 20000 in
theorem ggX3_starvingWith_X5_at : GoodIn wsX3_starvingWith wsX5_at := goodIn_r _ [14, 15, 38] (by decide +kernel) (by decide +kernel)
set_option maxRecDepth 20000 in
theorem gX3_starvingWith_X5_at : GoodIn wsX3_starvingWith (wsV RX3 44 RX5 yX5_at wsX5_at) := goodIn_app (goodIn_of _ (by decide +kernel)) ggX3_starvingWith_X5_at
theorem dX3_starvingWith_0 : decode cX3_starvingWith 0 = .ok (.iconst 1, 1) := by decide +kernel
theorem dX3_starvingWith_1 : decode cX3_starvingWith 1 = .ok (.aload_n 1, 1) := by decide +kernel
theorem dX3_starvingWith_2 : decode cX3_starvingWith 2 = .ok (.getfield 36, 3) := by decide +kernel
theorem dX3_starvingWith_5 : decode cX3_starvingWith 5 = .ok (.ishl, 1) := by decide +kernel
theorem dX3_starvingWith_6 : decode cX3_starvingWith 6 = .ok (.iconst 1, 1) := by decide +kernel
theorem dX3_starvingWith_7 : decode cX3_starvingWith 7 = .ok (.isub, 1) := by decide +kernel
theorem dX3_starvingWith_8 : decode cX3_starvingWith 8 = .ok (.istore 5, 2) := by decide +kernel
theorem dX3_starvingWith_10 : decode cX3_starvingWith 10 = .ok (.aload_n 1, 1) := by decide +kernel
theorem dX3_starvingWith_11 : decode cX3_starvingWith 11 = .ok (.iload_n 2, 1) := by decide +kernel
theorem dX3_starvingWith_12 : decode cX3_starvingWith 12 = .ok (.invokevirtual 70, 3) := by decide +kernel
theorem dX3_starvingWith_15 : decode cX3_starvingWith 15 = .ok (.istore 6, 2) := by decide +kernel
theorem dX3_starvingWith_17 : decode cX3_starvingWith 17 = .ok (.iconst 1, 1) := by decide +kernel
theorem dX3_starvingWith_18 : decode cX3_starvingWith 18 = .ok (.istore 7, 2) := by decide +kernel
theorem dX3_starvingWith_20 : decode cX3_starvingWith 20 = .ok (.iconst 0, 1) := by decide +kernel
theorem dX3_starvingWith_21 : decode cX3_starvingWith 21 = .ok (.istore 8, 2) := by decide +kernel
theorem dX3_starvingWith_23 : decode cX3_starvingWith 23 = .ok (.iload 8, 2) := by decide +kernel
theorem dX3_starvingWith_25 : decode cX3_starvingWith 25 = .ok (.aload_n 1, 1) := by decide +kernel
theorem dX3_starvingWith_26 : decode cX3_starvingWith 26 = .ok (.getfield 36, 3) := by decide +kernel
theorem dX3_starvingWith_29 : decode cX3_starvingWith 29 = .ok (.if_icmp .ge 97, 3) := by decide +kernel
theorem dX3_starvingWith_32 : decode cX3_starvingWith 32 = .ok (.iload 7, 2) := by decide +kernel
theorem dX3_starvingWith_34 : decode cX3_starvingWith 34 = .ok (.ifCond .eq 92, 3) := by decide +kernel
theorem dX3_starvingWith_37 : decode cX3_starvingWith 37 = .ok (.iload 6, 2) := by decide +kernel
theorem dX3_starvingWith_39 : decode cX3_starvingWith 39 = .ok (.istore 9, 2) := by decide +kernel
theorem dX3_starvingWith_41 : decode cX3_starvingWith 41 = .ok (.iconst 0, 1) := by decide +kernel
theorem dX3_starvingWith_42 : decode cX3_starvingWith 42 = .ok (.istore 10, 2) := by decide +kernel
theorem dX3_starvingWith_44 : decode cX3_starvingWith 44 = .ok (.iload 10, 2) := by decide +kernel
theorem dX3_starvingWith_46 : decode cX3_starvingWith 46 = .ok (.aload_n 1, 1) := by decide +kernel
theorem dX3_starvingWith_47 : decode cX3_starvingWith 47 = .ok (.getfield 36, 3) := by decide +kernel
theorem dX3_starvingWith_50 : decode cX3_starvingWith 50 = .ok (.if_icmp .ge 56, 3) := by decide +kernel
theorem dX3_starvingWith_53 : decode cX3_starvingWith 53 = .ok (.iload 10, 2) := by decide +kernel
theorem dX3_starvingWith_55 : decode cX3_starvingWith 55 = .ok (.iload_n 3, 1) := by decide +kernel
theorem dX3_starvingWith_56 : decode cX3_starvingWith 56 = .ok (.if_icmp .ne 10, 3) := by decide +kernel
theorem dX3_starvingWith_59 : decode cX3_starvingWith 59 = .ok (.iconst 1, 1) := by decide +kernel
theorem dX3_starvingWith_60 : decode cX3_starvingWith 60 = .ok (.iload 4, 2) := by decide +kernel
theorem dX3_starvingWith_62 : decode cX3_starvingWith 62 = .ok (.ishl, 1) := by decide +kernel
theorem dX3_starvingWith_63 : decode cX3_starvingWith 63 = .ok (.goto 16, 3) := by decide +kernel
theorem dX3_starvingWith_66 : decode cX3_starvingWith 66 = .ok (.aload_n 0, 1) := by decide +kernel
theorem dX3_starvingWith_67 : decode cX3_starvingWith 67 = .ok (.getfield 20, 3) := by decide +kernel
theorem dX3_starvingWith_70 : decode cX3_starvingWith 70 = .ok (.iload_n 2, 1) := by decide +kernel
theorem dX3_starvingWith_71 : decode cX3_starvingWith 71 = .ok (.iload 10, 2) := by decide +kernel
theorem dX3_starvingWith_73 : decode cX3_starvingWith 73 = .ok (.invokestatic 60, 3) := by decide +kernel
theorem dX3_starvingWith_76 : decode cX3_starvingWith 76 = .ok (.invokevirtual 44, 3) := by decide +kernel
theorem dX3_starvingWith_79 : decode cX3_starvingWith 79 = .ok (.istore 11, 2) := by decide +kernel
theorem dX3_starvingWith_81 : decode cX3_starvingWith 81 = .ok (.iload 11, 2) := by decide +kernel
theorem dX3_starvingWith_83 : decode cX3_starvingWith 83 = .ok (.iload 6, 2) := by decide +kernel
theorem dX3_starvingWith_85 : decode cX3_starvingWith 85 = .ok (.iconst (-1), 1) := by decide +kernel
theorem dX3_starvingWith_86 : decode cX3_starvingWith 86 = .ok (.ixor, 1) := by decide +kernel
theorem dX3_starvingWith_87 : decode cX3_starvingWith 87 = .ok (.iand, 1) := by decide +kernel
theorem dX3_starvingWith_88 : decode cX3_starvingWith 88 = .ok (.ifCond .ne 12, 3) := by decide +kernel
theorem dX3_starvingWith_91 : decode cX3_starvingWith 91 = .ok (.iload 6, 2) := by decide +kernel
theorem dX3_starvingWith_93 : decode cX3_starvingWith 93 = .ok (.iconst 1, 1) := by decide +kernel
theorem dX3_starvingWith_94 : decode cX3_starvingWith 94 = .ok (.iload 10, 2) := by decide +kernel
theorem dX3_starvingWith_96 : decode cX3_starvingWith 96 = .ok (.ishl, 1) := by decide +kernel
theorem dX3_starvingWith_97 : decode cX3_starvingWith 97 = .ok (.ior, 1) := by decide +kernel
theorem dX3_starvingWith_98 : decode cX3_starvingWith 98 = .ok (.istore 6, 2) := by decide +kernel
theorem dX3_starvingWith_100 : decode cX3_starvingWith 100 = .ok (.iinc 10 1, 3) := by decide +kernel
theorem dX3_starvingWith_103 : decode cX3_starvingWith 103 = .ok (.goto (-59), 3) := by decide +kernel
theorem dX3_starvingWith_106 : decode cX3_starvingWith 106 = .ok (.iload 6, 2) := by decide +kernel
theorem dX3_starvingWith_108 : decode cX3_starvingWith 108 = .ok (.iload 9, 2) := by decide +kernel
theorem dX3_starvingWith_110 : decode cX3_starvingWith 110 = .ok (.if_icmp .eq 7, 3) := by decide +kernel
theorem dX3_starvingWith_113 : decode cX3_starvingWith 113 = .ok (.iconst 1, 1) := by decide +kernel
theorem dX3_starvingWith_114 : decode cX3_starvingWith 114 = .ok (.goto 4, 3) := by decide +kernel
theorem dX3_starvingWith_117 : decode cX3_starvingWith 117 = .ok (.iconst 0, 1) := by decide +kernel
theorem dX3_starvingWith_118 : decode cX3_starvingWith 118 = .ok (.istore 7, 2) := by decide +kernel
theorem dX3_starvingWith_120 : decode cX3_starvingWith 120 = .ok (.iinc 8 1, 3) := by decide +kernel
theorem dX3_starvingWith_123 : decode cX3_starvingWith 123 = .ok (.goto (-100), 3) := by decide +kernel
theorem dX3_starvingWith_126 : decode cX3_starvingWith 126 = .ok (.iload 5, 2) := by decide +kernel
theorem dX3_starvingWith_128 : decode cX3_starvingWith 128 = .ok (.iload 6, 2) := by decide +kernel
theorem dX3_starvingWith_130 : decode cX3_starvingWith 130 = .ok (.iconst (-1), 1) := by decide +kernel
theorem dX3_starvingWith_131 : decode cX3_starvingWith 131 = .ok (.ixor, 1) := by decide +kernel
theorem dX3_starvingWith_132 : decode cX3_starvingWith 132 = .ok (.iand, 1) := by decide +kernel
theorem dX3_starvingWith_133 : decode cX3_starvingWith 133 = .ok (.ireturn, 1) := by decide +kernel
set_option maxRecDepth 20000 in
theorem ggX3_noteWait_X3_cell : GoodIn wsX3_noteWait wsX3_cell := goodIn_r _ [16] (by decide +kernel) (by decide +kernel)
set_option maxRecDepth 20000 in
theorem gX3_noteWait_X3_cell : GoodIn wsX3_noteWait (va_wsS RX3 60 yX3_cell wsX3_cell) := goodIn_app (goodIn_of _ (by decide +kernel)) ggX3_noteWait_X3_cell
set_option maxRecDepth 20000 in
theorem ggX3_noteWait_X5_at : GoodIn wsX3_noteWait wsX5_at := goodIn_r _ [21, 22, 52] (by decide +kernel) (by decide +kernel)
set_option maxRecDepth 20000 in
theorem gX3_noteWait_X5_at : GoodIn wsX3_noteWait (wsV RX3 44 RX5 yX5_at wsX5_at) := goodIn_app (goodIn_of _ (by decide +kernel)) ggX3_noteWait_X5_at
set_option maxRecDepth 20000 in
theorem ggX3_noteWait_X7_has : GoodIn wsX3_noteWait wsX7_has := goodIn_r _ [25] (by decide +kernel) (by decide +kernel)
set_option maxRecDepth 20000 in
theorem gX3_noteWait_X7_has_n73 : GoodIn wsX3_noteWait (wsX7_has) := ggX3_noteWait_X7_has
set_option maxRecDepth 20000 in
theorem ggX3_noteWait_X2_clearingBetween : GoodIn wsX3_noteWait wsX2_clearingBetween := goodIn_r _ [30, 31, 32, 33, 18, 19, 20, 21, 22, 44, 45, 46, 47, 48, 49, 50, 51, 52] (by decide +kernel) (by decide +kernel)
set_option maxRecDepth 20000 in
theorem gX3_noteWait_X2_clearingBetween : GoodIn wsX3_noteWait (wsV RX3 109 RX2 yX2_clearingBetween wsX2_clearingBetween) := goodIn_app (goodIn_of _ (by decide +kernel)) ggX3_noteWait_X2_clearingBetween
set_option maxRecDepth 20000 in
theorem ggX3_noteWait_X5_put : GoodIn wsX3_noteWait wsX5_put := goodIn_r _ [37, 22, 52] (by decide +kernel) (by decide +kernel)
set_option maxRecDepth 20000 in
theorem gX3_noteWait_X5_put : GoodIn wsX3_noteWait (wsV RX3 52 RX5 yX5_put wsX5_put) := goodIn_app (goodIn_of _ (by decide +kernel)) ggX3_noteWait_X5_put
theorem dX3_noteWait_0 : decode cX3_noteWait 0 = .ok (.aload_n 0, 1) := by decide +kernel
theorem dX3_noteWait_1 : decode cX3_noteWait 1 = .ok (.getfield 20, 3) := by decide +kernel
theorem dX3_noteWait_4 : decode cX3_noteWait 4 = .ok (.iload_n 2, 1) := by decide +kernel
theorem dX3_noteWait_5 : decode cX3_noteWait 5 = .ok (.iload_n 3, 1) := by decide +kernel
theorem dX3_noteWait_6 : decode cX3_noteWait 6 = .ok (.invokestatic 60, 3) := by decide +kernel
theorem dX3_noteWait_9 : decode cX3_noteWait 9 = .ok (.invokevirtual 44, 3) := by decide +kernel
theorem dX3_noteWait_12 : decode cX3_noteWait 12 = .ok (.istore 4, 2) := by decide +kernel
theorem dX3_noteWait_14 : decode cX3_noteWait 14 = .ok (.iconst 0, 1) := by decide +kernel
theorem dX3_noteWait_15 : decode cX3_noteWait 15 = .ok (.istore 5, 2) := by decide +kernel
theorem dX3_noteWait_17 : decode cX3_noteWait 17 = .ok (.sipush 1000, 3) := by decide +kernel
theorem dX3_noteWait_20 : decode cX3_noteWait 20 = .ok (.istore 6, 2) := by decide +kernel
theorem dX3_noteWait_22 : decode cX3_noteWait 22 = .ok (.iconst 0, 1) := by decide +kernel
theorem dX3_noteWait_23 : decode cX3_noteWait 23 = .ok (.istore 7, 2) := by decide +kernel
theorem dX3_noteWait_25 : decode cX3_noteWait 25 = .ok (.iload 7, 2) := by decide +kernel
theorem dX3_noteWait_27 : decode cX3_noteWait 27 = .ok (.aload_n 1, 1) := by decide +kernel
theorem dX3_noteWait_28 : decode cX3_noteWait 28 = .ok (.getfield 36, 3) := by decide +kernel
theorem dX3_noteWait_31 : decode cX3_noteWait 31 = .ok (.if_icmp .ge 83, 3) := by decide +kernel
theorem dX3_noteWait_34 : decode cX3_noteWait 34 = .ok (.iload 4, 2) := by decide +kernel
theorem dX3_noteWait_36 : decode cX3_noteWait 36 = .ok (.iload 7, 2) := by decide +kernel
theorem dX3_noteWait_38 : decode cX3_noteWait 38 = .ok (.invokestatic 73, 3) := by decide +kernel
theorem dX3_noteWait_41 : decode cX3_noteWait 41 = .ok (.ifCond .eq 67, 3) := by decide +kernel
theorem dX3_noteWait_44 : decode cX3_noteWait 44 = .ok (.aload_n 1, 1) := by decide +kernel
theorem dX3_noteWait_45 : decode cX3_noteWait 45 = .ok (.getfield 106, 3) := by decide +kernel
theorem dX3_noteWait_48 : decode cX3_noteWait 48 = .ok (.iload_n 3, 1) := by decide +kernel
theorem dX3_noteWait_49 : decode cX3_noteWait 49 = .ok (.invokevirtual 44, 3) := by decide +kernel
theorem dX3_noteWait_52 : decode cX3_noteWait 52 = .ok (.aload_n 1, 1) := by decide +kernel
theorem dX3_noteWait_53 : decode cX3_noteWait 53 = .ok (.iload_n 3, 1) := by decide +kernel
theorem dX3_noteWait_54 : decode cX3_noteWait 54 = .ok (.iload 7, 2) := by decide +kernel
theorem dX3_noteWait_56 : decode cX3_noteWait 56 = .ok (.invokevirtual 109, 3) := by decide +kernel
theorem dX3_noteWait_59 : decode cX3_noteWait 59 = .ok (.iadd, 1) := by decide +kernel
theorem dX3_noteWait_60 : decode cX3_noteWait 60 = .ok (.istore 8, 2) := by decide +kernel
theorem dX3_noteWait_62 : decode cX3_noteWait 62 = .ok (.iload 5, 2) := by decide +kernel
theorem dX3_noteWait_64 : decode cX3_noteWait 64 = .ok (.iload 8, 2) := by decide +kernel
theorem dX3_noteWait_66 : decode cX3_noteWait 66 = .ok (.aload_n 0, 1) := by decide +kernel
theorem dX3_noteWait_67 : decode cX3_noteWait 67 = .ok (.getfield 23, 3) := by decide +kernel
theorem dX3_noteWait_70 : decode cX3_noteWait 70 = .ok (.iload_n 2, 1) := by decide +kernel
theorem dX3_noteWait_71 : decode cX3_noteWait 71 = .ok (.iload 7, 2) := by decide +kernel
theorem dX3_noteWait_73 : decode cX3_noteWait 73 = .ok (.invokestatic 60, 3) := by decide +kernel
theorem dX3_noteWait_76 : decode cX3_noteWait 76 = .ok (.invokevirtual 44, 3) := by decide +kernel
theorem dX3_noteWait_79 : decode cX3_noteWait 79 = .ok (.iadd, 1) := by decide +kernel
theorem dX3_noteWait_80 : decode cX3_noteWait 80 = .ok (.invokestatic 95, 3) := by decide +kernel
theorem dX3_noteWait_83 : decode cX3_noteWait 83 = .ok (.istore 5, 2) := by decide +kernel
theorem dX3_noteWait_85 : decode cX3_noteWait 85 = .ok (.iload 6, 2) := by decide +kernel
theorem dX3_noteWait_87 : decode cX3_noteWait 87 = .ok (.iload 8, 2) := by decide +kernel
theorem dX3_noteWait_89 : decode cX3_noteWait 89 = .ok (.aload_n 0, 1) := by decide +kernel
theorem dX3_noteWait_90 : decode cX3_noteWait 90 = .ok (.getfield 26, 3) := by decide +kernel
theorem dX3_noteWait_93 : decode cX3_noteWait 93 = .ok (.iload_n 2, 1) := by decide +kernel
theorem dX3_noteWait_94 : decode cX3_noteWait 94 = .ok (.iload 7, 2) := by decide +kernel
theorem dX3_noteWait_96 : decode cX3_noteWait 96 = .ok (.invokestatic 60, 3) := by decide +kernel
theorem dX3_noteWait_99 : decode cX3_noteWait 99 = .ok (.invokevirtual 44, 3) := by decide +kernel
theorem dX3_noteWait_102 : decode cX3_noteWait 102 = .ok (.iadd, 1) := by decide +kernel
theorem dX3_noteWait_103 : decode cX3_noteWait 103 = .ok (.invokestatic 112, 3) := by decide +kernel
theorem dX3_noteWait_106 : decode cX3_noteWait 106 = .ok (.istore 6, 2) := by decide +kernel
theorem dX3_noteWait_108 : decode cX3_noteWait 108 = .ok (.iinc 7 1, 3) := by decide +kernel
theorem dX3_noteWait_111 : decode cX3_noteWait 111 = .ok (.goto (-86), 3) := by decide +kernel
theorem dX3_noteWait_114 : decode cX3_noteWait 114 = .ok (.aload_n 0, 1) := by decide +kernel
theorem dX3_noteWait_115 : decode cX3_noteWait 115 = .ok (.getfield 23, 3) := by decide +kernel
theorem dX3_noteWait_118 : decode cX3_noteWait 118 = .ok (.iload_n 2, 1) := by decide +kernel
theorem dX3_noteWait_119 : decode cX3_noteWait 119 = .ok (.iload_n 3, 1) := by decide +kernel
theorem dX3_noteWait_120 : decode cX3_noteWait 120 = .ok (.invokestatic 60, 3) := by decide +kernel
theorem dX3_noteWait_123 : decode cX3_noteWait 123 = .ok (.iload 5, 2) := by decide +kernel
theorem dX3_noteWait_125 : decode cX3_noteWait 125 = .ok (.invokevirtual 52, 3) := by decide +kernel
theorem dX3_noteWait_128 : decode cX3_noteWait 128 = .ok (.aload_n 0, 1) := by decide +kernel
theorem dX3_noteWait_129 : decode cX3_noteWait 129 = .ok (.getfield 26, 3) := by decide +kernel
theorem dX3_noteWait_132 : decode cX3_noteWait 132 = .ok (.iload_n 2, 1) := by decide +kernel
theorem dX3_noteWait_133 : decode cX3_noteWait 133 = .ok (.iload_n 3, 1) := by decide +kernel
theorem dX3_noteWait_134 : decode cX3_noteWait 134 = .ok (.invokestatic 60, 3) := by decide +kernel
theorem dX3_noteWait_137 : decode cX3_noteWait 137 = .ok (.iload 6, 2) := by decide +kernel
theorem dX3_noteWait_139 : decode cX3_noteWait 139 = .ok (.invokevirtual 52, 3) := by decide +kernel
theorem dX3_noteWait_142 : decode cX3_noteWait 142 = .ok (.return_, 1) := by decide +kernel
theorem dX4_init_0 : decode cX4_init 0 = .ok (.aload_n 0, 1) := by decide +kernel
theorem dX4_init_1 : decode cX4_init 1 = .ok (.invokespecial 3, 3) := by decide +kernel
theorem dX4_init_4 : decode cX4_init 4 = .ok (.aload_n 0, 1) := by decide +kernel
theorem dX4_init_5 : decode cX4_init 5 = .ok (.iconst 0, 1) := by decide +kernel
theorem dX4_init_6 : decode cX4_init 6 = .ok (.putfield 11, 3) := by decide +kernel
theorem dX4_init_9 : decode cX4_init 9 = .ok (.aload_n 0, 1) := by decide +kernel
theorem dX4_init_10 : decode cX4_init 10 = .ok (.iconst 0, 1) := by decide +kernel
theorem dX4_init_11 : decode cX4_init 11 = .ok (.putfield 15, 3) := by decide +kernel
theorem dX4_init_14 : decode cX4_init 14 = .ok (.aload_n 0, 1) := by decide +kernel
theorem dX4_init_15 : decode cX4_init 15 = .ok (.iconst 0, 1) := by decide +kernel
theorem dX4_init_16 : decode cX4_init 16 = .ok (.putfield 18, 3) := by decide +kernel
theorem dX4_init_19 : decode cX4_init 19 = .ok (.aload_n 0, 1) := by decide +kernel
theorem dX4_init_20 : decode cX4_init 20 = .ok (.iconst 0, 1) := by decide +kernel
theorem dX4_init_21 : decode cX4_init 21 = .ok (.putfield 21, 3) := by decide +kernel
theorem dX4_init_24 : decode cX4_init 24 = .ok (.aload_n 0, 1) := by decide +kernel
theorem dX4_init_25 : decode cX4_init 25 = .ok (.iconst 0, 1) := by decide +kernel
theorem dX4_init_26 : decode cX4_init 26 = .ok (.putfield 24, 3) := by decide +kernel
theorem dX4_init_29 : decode cX4_init 29 = .ok (.aload_n 0, 1) := by decide +kernel
theorem dX4_init_30 : decode cX4_init 30 = .ok (.iconst 0, 1) := by decide +kernel
theorem dX4_init_31 : decode cX4_init 31 = .ok (.putfield 27, 3) := by decide +kernel
theorem dX4_init_34 : decode cX4_init 34 = .ok (.return_, 1) := by decide +kernel
theorem dX5_init_0 : decode cX5_init 0 = .ok (.aload_n 0, 1) := by decide +kernel
theorem dX5_init_1 : decode cX5_init 1 = .ok (.invokespecial 1, 3) := by decide +kernel
theorem dX5_init_4 : decode cX5_init 4 = .ok (.aload_n 0, 1) := by decide +kernel
theorem dX5_init_5 : decode cX5_init 5 = .ok (.iload_n 1, 1) := by decide +kernel
theorem dX5_init_6 : decode cX5_init 6 = .ok (.ifCond .ge 7, 3) := by decide +kernel
theorem dX5_init_9 : decode cX5_init 9 = .ok (.iconst 0, 1) := by decide +kernel
theorem dX5_init_10 : decode cX5_init 10 = .ok (.goto 4, 3) := by decide +kernel
theorem dX5_init_13 : decode cX5_init 13 = .ok (.iload_n 1, 1) := by decide +kernel
theorem dX5_init_14 : decode cX5_init 14 = .ok (.newarray .int, 2) := by decide +kernel
theorem dX5_init_16 : decode cX5_init 16 = .ok (.putfield 7, 3) := by decide +kernel
theorem dX5_init_19 : decode cX5_init 19 = .ok (.return_, 1) := by decide +kernel
theorem dX5_at_0 : decode cX5_at 0 = .ok (.iload_n 1, 1) := by decide +kernel
theorem dX5_at_1 : decode cX5_at 1 = .ok (.ifCond .lt 21, 3) := by decide +kernel
theorem dX5_at_4 : decode cX5_at 4 = .ok (.iload_n 1, 1) := by decide +kernel
theorem dX5_at_5 : decode cX5_at 5 = .ok (.aload_n 0, 1) := by decide +kernel
theorem dX5_at_6 : decode cX5_at 6 = .ok (.getfield 7, 3) := by decide +kernel
theorem dX5_at_9 : decode cX5_at 9 = .ok (.arraylength, 1) := by decide +kernel
theorem dX5_at_10 : decode cX5_at 10 = .ok (.if_icmp .ge 12, 3) := by decide +kernel
theorem dX5_at_13 : decode cX5_at 13 = .ok (.aload_n 0, 1) := by decide +kernel
theorem dX5_at_14 : decode cX5_at 14 = .ok (.getfield 7, 3) := by decide +kernel
theorem dX5_at_17 : decode cX5_at 17 = .ok (.iload_n 1, 1) := by decide +kernel
theorem dX5_at_18 : decode cX5_at 18 = .ok (.iaload, 1) := by decide +kernel
theorem dX5_at_19 : decode cX5_at 19 = .ok (.goto 4, 3) := by decide +kernel
theorem dX5_at_22 : decode cX5_at 22 = .ok (.iconst 0, 1) := by decide +kernel
theorem dX5_at_23 : decode cX5_at 23 = .ok (.ireturn, 1) := by decide +kernel
theorem dX5_put_0 : decode cX5_put 0 = .ok (.iload_n 1, 1) := by decide +kernel
theorem dX5_put_1 : decode cX5_put 1 = .ok (.ifCond .lt 19, 3) := by decide +kernel
theorem dX5_put_4 : decode cX5_put 4 = .ok (.iload_n 1, 1) := by decide +kernel
theorem dX5_put_5 : decode cX5_put 5 = .ok (.aload_n 0, 1) := by decide +kernel
theorem dX5_put_6 : decode cX5_put 6 = .ok (.getfield 7, 3) := by decide +kernel
theorem dX5_put_9 : decode cX5_put 9 = .ok (.arraylength, 1) := by decide +kernel
theorem dX5_put_10 : decode cX5_put 10 = .ok (.if_icmp .ge 10, 3) := by decide +kernel
theorem dX5_put_13 : decode cX5_put 13 = .ok (.aload_n 0, 1) := by decide +kernel
theorem dX5_put_14 : decode cX5_put 14 = .ok (.getfield 7, 3) := by decide +kernel
theorem dX5_put_17 : decode cX5_put 17 = .ok (.iload_n 1, 1) := by decide +kernel
theorem dX5_put_18 : decode cX5_put 18 = .ok (.iload_n 2, 1) := by decide +kernel
theorem dX5_put_19 : decode cX5_put 19 = .ok (.iastore, 1) := by decide +kernel
theorem dX5_put_20 : decode cX5_put 20 = .ok (.return_, 1) := by decide +kernel
theorem dX5_fill_0 : decode cX5_fill 0 = .ok (.iconst 0, 1) := by decide +kernel
theorem dX5_fill_1 : decode cX5_fill 1 = .ok (.istore_n 2, 1) := by decide +kernel
theorem dX5_fill_2 : decode cX5_fill 2 = .ok (.iload_n 2, 1) := by decide +kernel
theorem dX5_fill_3 : decode cX5_fill 3 = .ok (.aload_n 0, 1) := by decide +kernel
theorem dX5_fill_4 : decode cX5_fill 4 = .ok (.getfield 7, 3) := by decide +kernel
theorem dX5_fill_7 : decode cX5_fill 7 = .ok (.arraylength, 1) := by decide +kernel
theorem dX5_fill_8 : decode cX5_fill 8 = .ok (.if_icmp .ge 16, 3) := by decide +kernel
theorem dX5_fill_11 : decode cX5_fill 11 = .ok (.aload_n 0, 1) := by decide +kernel
theorem dX5_fill_12 : decode cX5_fill 12 = .ok (.getfield 7, 3) := by decide +kernel
theorem dX5_fill_15 : decode cX5_fill 15 = .ok (.iload_n 2, 1) := by decide +kernel
theorem dX5_fill_16 : decode cX5_fill 16 = .ok (.iload_n 1, 1) := by decide +kernel
theorem dX5_fill_17 : decode cX5_fill 17 = .ok (.iastore, 1) := by decide +kernel
theorem dX5_fill_18 : decode cX5_fill 18 = .ok (.iinc 2 1, 3) := by decide +kernel
theorem dX5_fill_21 : decode cX5_fill 21 = .ok (.goto (-19), 3) := by decide +kernel
theorem dX5_fill_24 : decode cX5_fill 24 = .ok (.return_, 1) := by decide +kernel
set_option maxRecDepth 20000 in
theorem ggX5_copyFrom_X5_at : GoodIn wsX5_copyFrom wsX5_at := goodIn_r _ [6, 1, 7] (by decide +kernel) (by decide +kernel)
set_option maxRecDepth 20000 in
theorem gX5_copyFrom_X5_at : GoodIn wsX5_copyFrom (wsV RX5 13 RX5 yX5_at wsX5_at) := goodIn_app (goodIn_of _ (by decide +kernel)) ggX5_copyFrom_X5_at
theorem dX5_copyFrom_0 : decode cX5_copyFrom 0 = .ok (.iconst 0, 1) := by decide +kernel
theorem dX5_copyFrom_1 : decode cX5_copyFrom 1 = .ok (.istore_n 2, 1) := by decide +kernel
theorem dX5_copyFrom_2 : decode cX5_copyFrom 2 = .ok (.iload_n 2, 1) := by decide +kernel
theorem dX5_copyFrom_3 : decode cX5_copyFrom 3 = .ok (.aload_n 0, 1) := by decide +kernel
theorem dX5_copyFrom_4 : decode cX5_copyFrom 4 = .ok (.getfield 7, 3) := by decide +kernel
theorem dX5_copyFrom_7 : decode cX5_copyFrom 7 = .ok (.arraylength, 1) := by decide +kernel
theorem dX5_copyFrom_8 : decode cX5_copyFrom 8 = .ok (.if_icmp .ge 20, 3) := by decide +kernel
theorem dX5_copyFrom_11 : decode cX5_copyFrom 11 = .ok (.aload_n 0, 1) := by decide +kernel
theorem dX5_copyFrom_12 : decode cX5_copyFrom 12 = .ok (.getfield 7, 3) := by decide +kernel
theorem dX5_copyFrom_15 : decode cX5_copyFrom 15 = .ok (.iload_n 2, 1) := by decide +kernel
theorem dX5_copyFrom_16 : decode cX5_copyFrom 16 = .ok (.aload_n 1, 1) := by decide +kernel
theorem dX5_copyFrom_17 : decode cX5_copyFrom 17 = .ok (.iload_n 2, 1) := by decide +kernel
theorem dX5_copyFrom_18 : decode cX5_copyFrom 18 = .ok (.invokevirtual 13, 3) := by decide +kernel
theorem dX5_copyFrom_21 : decode cX5_copyFrom 21 = .ok (.iastore, 1) := by decide +kernel
theorem dX5_copyFrom_22 : decode cX5_copyFrom 22 = .ok (.iinc 2 1, 3) := by decide +kernel
theorem dX5_copyFrom_25 : decode cX5_copyFrom 25 = .ok (.goto (-23), 3) := by decide +kernel
theorem dX5_copyFrom_28 : decode cX5_copyFrom 28 = .ok (.return_, 1) := by decide +kernel
set_option maxRecDepth 20000 in
theorem ggX6_init_X5_init : GoodIn wsX6_init wsX5_init := goodIn_r _ [15, 16, 2, 3, 17, 18, 28] (by decide +kernel) (by decide +kernel)
set_option maxRecDepth 20000 in
theorem gX6_init_X5_init : GoodIn wsX6_init (wsX5_init) := ggX6_init_X5_init
set_option maxRecDepth 20000 in
theorem ggX6_init_X4_init : GoodIn wsX6_init wsX4_init := goodIn_r _ [20, 21, 2, 3, 22, 23, 24, 25, 26, 27, 32, 33, 34, 35, 36, 37] (by decide +kernel) (by decide +kernel)
set_option maxRecDepth 20000 in
theorem gX6_init_X4_init_n22 : GoodIn wsX6_init (wsX4_init) := ggX6_init_X4_init
theorem dX6_init_0 : decode cX6_init 0 = .ok (.aload_n 0, 1) := by decide +kernel
theorem dX6_init_1 : decode cX6_init 1 = .ok (.invokespecial 3, 3) := by decide +kernel
theorem dX6_init_4 : decode cX6_init 4 = .ok (.aload_n 0, 1) := by decide +kernel
theorem dX6_init_5 : decode cX6_init 5 = .ok (.new 9, 3) := by decide +kernel
theorem dX6_init_8 : decode cX6_init 8 = .ok (.dup, 1) := by decide +kernel
theorem dX6_init_9 : decode cX6_init 9 = .ok (.bipush 60, 2) := by decide +kernel
theorem dX6_init_11 : decode cX6_init 11 = .ok (.invokespecial 11, 3) := by decide +kernel
theorem dX6_init_14 : decode cX6_init 14 = .ok (.putfield 14, 3) := by decide +kernel
theorem dX6_init_17 : decode cX6_init 17 = .ok (.aload_n 0, 1) := by decide +kernel
theorem dX6_init_18 : decode cX6_init 18 = .ok (.new 20, 3) := by decide +kernel
theorem dX6_init_21 : decode cX6_init 21 = .ok (.dup, 1) := by decide +kernel
theorem dX6_init_22 : decode cX6_init 22 = .ok (.invokespecial 22, 3) := by decide +kernel
theorem dX6_init_25 : decode cX6_init 25 = .ok (.putfield 23, 3) := by decide +kernel
theorem dX6_init_28 : decode cX6_init 28 = .ok (.aload_n 0, 1) := by decide +kernel
theorem dX6_init_29 : decode cX6_init 29 = .ok (.iconst 0, 1) := by decide +kernel
theorem dX6_init_30 : decode cX6_init 30 = .ok (.putfield 27, 3) := by decide +kernel
theorem dX6_init_33 : decode cX6_init 33 = .ok (.return_, 1) := by decide +kernel
