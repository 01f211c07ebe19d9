theorem dX8_init_0 : decode cX8_init 0 = .ok (.aload_n 0, 1) := by decide +kernel
theorem dX8_init_1 : decode cX8_init 1 = .ok (.invokespecial 1, 3) := by decide +kernel
theorem dX8_init_4 : decode cX8_init 4 = .ok (.aload_n 0, 1) := by decide +kernel
theorem dX8_init_5 : decode cX8_init 5 = .ok (.sipush 143, 3) := by decide +kernel
theorem dX8_init_8 : decode cX8_init 8 = .ok (.newarray .int, 2) := by decide +kernel
theorem dX8_init_10 : decode cX8_init 10 = .ok (.putfield 7, 3) := by decide +kernel
theorem dX8_init_13 : decode cX8_init 13 = .ok (.aload_n 0, 1) := by decide +kernel
theorem dX8_init_14 : decode cX8_init 14 = .ok (.sipush 858, 3) := by decide +kernel
theorem dX8_init_17 : decode cX8_init 17 = .ok (.newarray .int, 2) := by decide +kernel
theorem dX8_init_19 : decode cX8_init 19 = .ok (.putfield 13, 3) := by decide +kernel
theorem dX8_init_22 : decode cX8_init 22 = .ok (.aload_n 0, 1) := by decide +kernel
theorem dX8_init_23 : decode cX8_init 23 = .ok (.bipush 60, 2) := by decide +kernel
theorem dX8_init_25 : decode cX8_init 25 = .ok (.newarray .int, 2) := by decide +kernel
theorem dX8_init_27 : decode cX8_init 27 = .ok (.putfield 16, 3) := by decide +kernel
theorem dX8_init_30 : decode cX8_init 30 = .ok (.aload_n 0, 1) := by decide +kernel
theorem dX8_init_31 : decode cX8_init 31 = .ok (.bipush 68, 2) := by decide +kernel
theorem dX8_init_33 : decode cX8_init 33 = .ok (.newarray .int, 2) := by decide +kernel
theorem dX8_init_35 : decode cX8_init 35 = .ok (.putfield 19, 3) := by decide +kernel
theorem dX8_init_38 : decode cX8_init 38 = .ok (.aload_n 0, 1) := by decide +kernel
theorem dX8_init_39 : decode cX8_init 39 = .ok (.bipush 8, 2) := by decide +kernel
theorem dX8_init_41 : decode cX8_init 41 = .ok (.newarray .int, 2) := by decide +kernel
theorem dX8_init_43 : decode cX8_init 43 = .ok (.putfield 22, 3) := by decide +kernel
theorem dX8_init_46 : decode cX8_init 46 = .ok (.aload_n 0, 1) := by decide +kernel
theorem dX8_init_47 : decode cX8_init 47 = .ok (.bipush 10, 2) := by decide +kernel
theorem dX8_init_49 : decode cX8_init 49 = .ok (.newarray .int, 2) := by decide +kernel
theorem dX8_init_51 : decode cX8_init 51 = .ok (.putfield 25, 3) := by decide +kernel
theorem dX8_init_54 : decode cX8_init 54 = .ok (.aload_n 0, 1) := by decide +kernel
theorem dX8_init_55 : decode cX8_init 55 = .ok (.getfield 7, 3) := by decide +kernel
theorem dX8_init_58 : decode cX8_init 58 = .ok (.iconst 1, 1) := by decide +kernel
theorem dX8_init_59 : decode cX8_init 59 = .ok (.iconst 2, 1) := by decide +kernel
theorem dX8_init_60 : decode cX8_init 60 = .ok (.iastore, 1) := by decide +kernel
theorem dX8_init_61 : decode cX8_init 61 = .ok (.aload_n 0, 1) := by decide +kernel
theorem dX8_init_62 : decode cX8_init 62 = .ok (.getfield 7, 3) := by decide +kernel
theorem dX8_init_65 : decode cX8_init 65 = .ok (.iconst 2, 1) := by decide +kernel
theorem dX8_init_66 : decode cX8_init 66 = .ok (.iconst (-1), 1) := by decide +kernel
theorem dX8_init_67 : decode cX8_init 67 = .ok (.iastore, 1) := by decide +kernel
theorem dX8_init_68 : decode cX8_init 68 = .ok (.aload_n 0, 1) := by decide +kernel
theorem dX8_init_69 : decode cX8_init 69 = .ok (.getfield 7, 3) := by decide +kernel
theorem dX8_init_72 : decode cX8_init 72 = .ok (.iconst 5, 1) := by decide +kernel
theorem dX8_init_73 : decode cX8_init 73 = .ok (.iconst (-1), 1) := by decide +kernel
theorem dX8_init_74 : decode cX8_init 74 = .ok (.iastore, 1) := by decide +kernel
theorem dX8_init_75 : decode cX8_init 75 = .ok (.iconst 0, 1) := by decide +kernel
theorem dX8_init_76 : decode cX8_init 76 = .ok (.istore_n 1, 1) := by decide +kernel
theorem dX8_init_77 : decode cX8_init 77 = .ok (.iload_n 1, 1) := by decide +kernel
theorem dX8_init_78 : decode cX8_init 78 = .ok (.bipush 6, 2) := by decide +kernel
theorem dX8_init_80 : decode cX8_init 80 = .ok (.if_icmp .ge 19, 3) := by decide +kernel
theorem dX8_init_83 : decode cX8_init 83 = .ok (.aload_n 0, 1) := by decide +kernel
theorem dX8_init_84 : decode cX8_init 84 = .ok (.getfield 7, 3) := by decide +kernel
theorem dX8_init_87 : decode cX8_init 87 = .ok (.bipush 13, 2) := by decide +kernel
theorem dX8_init_89 : decode cX8_init 89 = .ok (.iload_n 1, 1) := by decide +kernel
theorem dX8_init_90 : decode cX8_init 90 = .ok (.iadd, 1) := by decide +kernel
theorem dX8_init_91 : decode cX8_init 91 = .ok (.iconst (-1), 1) := by decide +kernel
theorem dX8_init_92 : decode cX8_init 92 = .ok (.iastore, 1) := by decide +kernel
theorem dX8_init_93 : decode cX8_init 93 = .ok (.iinc 1 1, 3) := by decide +kernel
theorem dX8_init_96 : decode cX8_init 96 = .ok (.goto (-19), 3) := by decide +kernel
theorem dX8_init_99 : decode cX8_init 99 = .ok (.return_, 1) := by decide +kernel
theorem dX8_thrown_0 : decode cX8_thrown 0 = .ok (.aload_n 0, 1) := by decide +kernel
theorem dX8_thrown_1 : decode cX8_thrown 1 = .ok (.getfield 28, 3) := by decide +kernel
theorem dX8_thrown_4 : decode cX8_thrown 4 = .ok (.ireturn, 1) := by decide +kernel
theorem dX8_in_0 : decode cX8_in 0 = .ok (.iload_n 0, 1) := by decide +kernel
theorem dX8_in_1 : decode cX8_in 1 = .ok (.iload_n 1, 1) := by decide +kernel
theorem dX8_in_2 : decode cX8_in 2 = .ok (.if_icmp .lt 12, 3) := by decide +kernel
theorem dX8_in_5 : decode cX8_in 5 = .ok (.iload_n 0, 1) := by decide +kernel
theorem dX8_in_6 : decode cX8_in 6 = .ok (.iload_n 2, 1) := by decide +kernel
theorem dX8_in_7 : decode cX8_in 7 = .ok (.if_icmp .gt 7, 3) := by decide +kernel
theorem dX8_in_10 : decode cX8_in 10 = .ok (.iconst 1, 1) := by decide +kernel
theorem dX8_in_11 : decode cX8_in 11 = .ok (.goto 4, 3) := by decide +kernel
theorem dX8_in_14 : decode cX8_in 14 = .ok (.iconst 0, 1) := by decide +kernel
theorem dX8_in_15 : decode cX8_in 15 = .ok (.ireturn, 1) := by decide +kernel
set_option maxRecDepth 20000 in
theorem ggX8_isDirection_X8_in : GoodIn wsX8_isDirection wsX8_in := goodIn_r _ [4] (by decide +kernel) (by decide +kernel)
set_option maxRecDepth 20000 in
theorem gX8_isDirection_X8_in : GoodIn wsX8_isDirection (va_wsS RX8 32 yX8_in wsX8_in) := goodIn_app (goodIn_of _ (by decide +kernel)) ggX8_isDirection_X8_in
theorem dX8_isDirection_0 : decode cX8_isDirection 0 = .ok (.iload_n 0, 1) := by decide +kernel
theorem dX8_isDirection_1 : decode cX8_isDirection 1 = .ok (.iconst 0, 1) := by decide +kernel
theorem dX8_isDirection_2 : decode cX8_isDirection 2 = .ok (.iconst 5, 1) := by decide +kernel
theorem dX8_isDirection_3 : decode cX8_isDirection 3 = .ok (.invokestatic 32, 3) := by decide +kernel
theorem dX8_isDirection_6 : decode cX8_isDirection 6 = .ok (.ireturn, 1) := by decide +kernel
theorem dX8_isPhase_0 : decode cX8_isPhase 0 = .ok (.iload_n 1, 1) := by decide +kernel
theorem dX8_isPhase_1 : decode cX8_isPhase 1 = .ok (.ifCond .lt 17, 3) := by decide +kernel
theorem dX8_isPhase_4 : decode cX8_isPhase 4 = .ok (.iload_n 1, 1) := by decide +kernel
theorem dX8_isPhase_5 : decode cX8_isPhase 5 = .ok (.aload_n 0, 1) := by decide +kernel
theorem dX8_isPhase_6 : decode cX8_isPhase 6 = .ok (.getfield 7, 3) := by decide +kernel
theorem dX8_isPhase_9 : decode cX8_isPhase 9 = .ok (.iconst 0, 1) := by decide +kernel
theorem dX8_isPhase_10 : decode cX8_isPhase 10 = .ok (.iaload, 1) := by decide +kernel
theorem dX8_isPhase_11 : decode cX8_isPhase 11 = .ok (.if_icmp .ge 7, 3) := by decide +kernel
theorem dX8_isPhase_14 : decode cX8_isPhase 14 = .ok (.iconst 1, 1) := by decide +kernel
theorem dX8_isPhase_15 : decode cX8_isPhase 15 = .ok (.goto 4, 3) := by decide +kernel
theorem dX8_isPhase_18 : decode cX8_isPhase 18 = .ok (.iconst 0, 1) := by decide +kernel
theorem dX8_isPhase_19 : decode cX8_isPhase 19 = .ok (.ireturn, 1) := by decide +kernel
theorem dX8_of_0 : decode cX8_of 0 = .ok (.aload_n 0, 1) := by decide +kernel
theorem dX8_of_1 : decode cX8_of 1 = .ok (.getfield 7, 3) := by decide +kernel
theorem dX8_of_4 : decode cX8_of 4 = .ok (.bipush 31, 2) := by decide +kernel
theorem dX8_of_6 : decode cX8_of 6 = .ok (.bipush 14, 2) := by decide +kernel
theorem dX8_of_8 : decode cX8_of 8 = .ok (.iload_n 1, 1) := by decide +kernel
theorem dX8_of_9 : decode cX8_of 9 = .ok (.imul, 1) := by decide +kernel
theorem dX8_of_10 : decode cX8_of 10 = .ok (.iadd, 1) := by decide +kernel
theorem dX8_of_11 : decode cX8_of 11 = .ok (.iload_n 2, 1) := by decide +kernel
theorem dX8_of_12 : decode cX8_of 12 = .ok (.iadd, 1) := by decide +kernel
theorem dX8_of_13 : decode cX8_of 13 = .ok (.iaload, 1) := by decide +kernel
theorem dX8_of_14 : decode cX8_of 14 = .ok (.ireturn, 1) := by decide +kernel
set_option maxRecDepth 20000 in
theorem ggX8_greens_X8_of : GoodIn wsX8_greens wsX8_of := goodIn_r _ [5, 6, 7, 8, 9, 10, 11, 12, 13, 14, 15, 16, 17, 18, 19] (by decide +kernel) (by decide +kernel)
set_option maxRecDepth 20000 in
theorem gX8_greens_X8_of : GoodIn wsX8_greens (wsV RX8 36 RX8 yX8_of wsX8_of) := goodIn_app (goodIn_of _ (by decide +kernel)) ggX8_greens_X8_of
theorem dX8_greens_0 : decode cX8_greens 0 = .ok (.aload_n 0, 1) := by decide +kernel
theorem dX8_greens_1 : decode cX8_greens 1 = .ok (.iload_n 1, 1) := by decide +kernel
theorem dX8_greens_2 : decode cX8_greens 2 = .ok (.iconst 0, 1) := by decide +kernel
theorem dX8_greens_3 : decode cX8_greens 3 = .ok (.invokevirtual 36, 3) := by decide +kernel
theorem dX8_greens_6 : decode cX8_greens 6 = .ok (.ireturn, 1) := by decide +kernel
set_option maxRecDepth 20000 in
theorem ggX8_rules_X8_of : GoodIn wsX8_rules wsX8_of := goodIn_r _ [5, 6, 7, 8, 9, 10, 11, 12, 13, 14, 15, 16, 17, 18, 19] (by decide +kernel) (by decide +kernel)
set_option maxRecDepth 20000 in
theorem gX8_rules_X8_of : GoodIn wsX8_rules (wsV RX8 36 RX8 yX8_of wsX8_of) := goodIn_app (goodIn_of _ (by decide +kernel)) ggX8_rules_X8_of
theorem dX8_rules_0 : decode cX8_rules 0 = .ok (.aload_n 0, 1) := by decide +kernel
theorem dX8_rules_1 : decode cX8_rules 1 = .ok (.iload_n 1, 1) := by decide +kernel
theorem dX8_rules_2 : decode cX8_rules 2 = .ok (.iconst 3, 1) := by decide +kernel
theorem dX8_rules_3 : decode cX8_rules 3 = .ok (.invokevirtual 36, 3) := by decide +kernel
theorem dX8_rules_6 : decode cX8_rules 6 = .ok (.ireturn, 1) := by decide +kernel
set_option maxRecDepth 20000 in
theorem ggX8_goal_X8_of : GoodIn wsX8_goal wsX8_of := goodIn_r _ [5, 6, 7, 8, 9, 10, 11, 12, 13, 14, 15, 16, 17, 18, 19] (by decide +kernel) (by decide +kernel)
set_option maxRecDepth 20000 in
theorem gX8_goal_X8_of : GoodIn wsX8_goal (wsV RX8 36 RX8 yX8_of wsX8_of) := goodIn_app (goodIn_of _ (by decide +kernel)) ggX8_goal_X8_of
theorem dX8_goal_0 : decode cX8_goal 0 = .ok (.aload_n 0, 1) := by decide +kernel
theorem dX8_goal_1 : decode cX8_goal 1 = .ok (.iload_n 1, 1) := by decide +kernel
theorem dX8_goal_2 : decode cX8_goal 2 = .ok (.iconst 4, 1) := by decide +kernel
theorem dX8_goal_3 : decode cX8_goal 3 = .ok (.iconst 2, 1) := by decide +kernel
theorem dX8_goal_4 : decode cX8_goal 4 = .ok (.iload_n 2, 1) := by decide +kernel
theorem dX8_goal_5 : decode cX8_goal 5 = .ok (.imul, 1) := by decide +kernel
theorem dX8_goal_6 : decode cX8_goal 6 = .ok (.iadd, 1) := by decide +kernel
theorem dX8_goal_7 : decode cX8_goal 7 = .ok (.invokevirtual 36, 3) := by decide +kernel
theorem dX8_goal_10 : decode cX8_goal 10 = .ok (.ireturn, 1) := by decide +kernel
set_option maxRecDepth 20000 in
theorem ggX8_askers_X8_of : GoodIn wsX8_askers wsX8_of := goodIn_r _ [5, 6, 7, 8, 9, 10, 11, 12, 13, 14, 15, 16, 17, 18, 19] (by decide +kernel) (by decide +kernel)
set_option maxRecDepth 20000 in
theorem gX8_askers_X8_of : GoodIn wsX8_askers (wsV RX8 36 RX8 yX8_of wsX8_of) := goodIn_app (goodIn_of _ (by decide +kernel)) ggX8_askers_X8_of
theorem dX8_askers_0 : decode cX8_askers 0 = .ok (.aload_n 0, 1) := by decide +kernel
theorem dX8_askers_1 : decode cX8_askers 1 = .ok (.iload_n 1, 1) := by decide +kernel
theorem dX8_askers_2 : decode cX8_askers 2 = .ok (.iconst 4, 1) := by decide +kernel
theorem dX8_askers_3 : decode cX8_askers 3 = .ok (.iconst 2, 1) := by decide +kernel
theorem dX8_askers_4 : decode cX8_askers 4 = .ok (.iload_n 2, 1) := by decide +kernel
theorem dX8_askers_5 : decode cX8_askers 5 = .ok (.imul, 1) := by decide +kernel
theorem dX8_askers_6 : decode cX8_askers 6 = .ok (.iadd, 1) := by decide +kernel
theorem dX8_askers_7 : decode cX8_askers 7 = .ok (.iconst 1, 1) := by decide +kernel
theorem dX8_askers_8 : decode cX8_askers 8 = .ok (.iadd, 1) := by decide +kernel
theorem dX8_askers_9 : decode cX8_askers 9 = .ok (.invokevirtual 36, 3) := by decide +kernel
theorem dX8_askers_12 : decode cX8_askers 12 = .ok (.ireturn, 1) := by decide +kernel
set_option maxRecDepth 20000 in
theorem ggX8_hasGreen_X8_greens : GoodIn wsX8_hasGreen wsX8_greens := goodIn_r _ [5, 6, 7, 8, 4, 9, 10, 11, 12, 13, 14, 15, 16, 17, 18, 19, 20, 21, 22, 23] (by decide +kernel) (by decide +kernel)
set_option maxRecDepth 20000 in
theorem gX8_hasGreen_X8_greens : GoodIn wsX8_hasGreen (wsV RX8 40 RX8 yX8_greens wsX8_greens) := goodIn_app (goodIn_of _ (by decide +kernel)) ggX8_hasGreen_X8_greens
theorem dX8_hasGreen_0 : decode cX8_hasGreen 0 = .ok (.aload_n 0, 1) := by decide +kernel
theorem dX8_hasGreen_1 : decode cX8_hasGreen 1 = .ok (.iload_n 1, 1) := by decide +kernel
theorem dX8_hasGreen_2 : decode cX8_hasGreen 2 = .ok (.invokevirtual 40, 3) := by decide +kernel
theorem dX8_hasGreen_5 : decode cX8_hasGreen 5 = .ok (.iload_n 2, 1) := by decide +kernel
theorem dX8_hasGreen_6 : decode cX8_hasGreen 6 = .ok (.ishr, 1) := by decide +kernel
theorem dX8_hasGreen_7 : decode cX8_hasGreen 7 = .ok (.iconst 1, 1) := by decide +kernel
theorem dX8_hasGreen_8 : decode cX8_hasGreen 8 = .ok (.iand, 1) := by decide +kernel
theorem dX8_hasGreen_9 : decode cX8_hasGreen 9 = .ok (.iconst 1, 1) := by decide +kernel
theorem dX8_hasGreen_10 : decode cX8_hasGreen 10 = .ok (.if_icmp .ne 7, 3) := by decide +kernel
theorem dX8_hasGreen_13 : decode cX8_hasGreen 13 = .ok (.iconst 1, 1) := by decide +kernel
theorem dX8_hasGreen_14 : decode cX8_hasGreen 14 = .ok (.goto 4, 3) := by decide +kernel
theorem dX8_hasGreen_17 : decode cX8_hasGreen 17 = .ok (.iconst 0, 1) := by decide +kernel
theorem dX8_hasGreen_18 : decode cX8_hasGreen 18 = .ok (.ireturn, 1) := by decide +kernel
theorem dX8_isClearing_0 : decode cX8_isClearing 0 = .ok (.aload_n 0, 1) := by decide +kernel
theorem dX8_isClearing_1 : decode cX8_isClearing 1 = .ok (.getfield 7, 3) := by decide +kernel
theorem dX8_isClearing_4 : decode cX8_isClearing 4 = .ok (.iconst 4, 1) := by decide +kernel
theorem dX8_isClearing_5 : decode cX8_isClearing 5 = .ok (.iaload, 1) := by decide +kernel
theorem dX8_isClearing_6 : decode cX8_isClearing 6 = .ok (.ifCond .le 7, 3) := by decide +kernel
theorem dX8_isClearing_9 : decode cX8_isClearing 9 = .ok (.iconst 1, 1) := by decide +kernel
theorem dX8_isClearing_10 : decode cX8_isClearing 10 = .ok (.goto 4, 3) := by decide +kernel
theorem dX8_isClearing_13 : decode cX8_isClearing 13 = .ok (.iconst 0, 1) := by decide +kernel
theorem dX8_isClearing_14 : decode cX8_isClearing 14 = .ok (.ireturn, 1) := by decide +kernel
theorem dX8_save_0 : decode cX8_save 0 = .ok (.aload_n 0, 1) := by decide +kernel
theorem dX8_save_1 : decode cX8_save 1 = .ok (.getfield 44, 3) := by decide +kernel
theorem dX8_save_4 : decode cX8_save 4 = .ok (.bipush 6, 2) := by decide +kernel
theorem dX8_save_6 : decode cX8_save 6 = .ok (.if_icmp .ne 44, 3) := by decide +kernel
theorem dX8_save_9 : decode cX8_save 9 = .ok (.iconst 0, 1) := by decide +kernel
theorem dX8_save_10 : decode cX8_save 10 = .ok (.istore_n 1, 1) := by decide +kernel
theorem dX8_save_11 : decode cX8_save 11 = .ok (.iload_n 1, 1) := by decide +kernel
theorem dX8_save_12 : decode cX8_save 12 = .ok (.sipush 715, 3) := by decide +kernel
theorem dX8_save_15 : decode cX8_save 15 = .ok (.if_icmp .ge 25, 3) := by decide +kernel
theorem dX8_save_18 : decode cX8_save 18 = .ok (.aload_n 0, 1) := by decide +kernel
theorem dX8_save_19 : decode cX8_save 19 = .ok (.getfield 13, 3) := by decide +kernel
theorem dX8_save_22 : decode cX8_save 22 = .ok (.iload_n 1, 1) := by decide +kernel
theorem dX8_save_23 : decode cX8_save 23 = .ok (.aload_n 0, 1) := by decide +kernel
theorem dX8_save_24 : decode cX8_save 24 = .ok (.getfield 13, 3) := by decide +kernel
theorem dX8_save_27 : decode cX8_save 27 = .ok (.iload_n 1, 1) := by decide +kernel
theorem dX8_save_28 : decode cX8_save 28 = .ok (.sipush 143, 3) := by decide +kernel
theorem dX8_save_31 : decode cX8_save 31 = .ok (.iadd, 1) := by decide +kernel
theorem dX8_save_32 : decode cX8_save 32 = .ok (.iaload, 1) := by decide +kernel
theorem dX8_save_33 : decode cX8_save 33 = .ok (.iastore, 1) := by decide +kernel
theorem dX8_save_34 : decode cX8_save 34 = .ok (.iinc 1 1, 3) := by decide +kernel
theorem dX8_save_37 : decode cX8_save 37 = .ok (.goto (-26), 3) := by decide +kernel
theorem dX8_save_40 : decode cX8_save 40 = .ok (.aload_n 0, 1) := by decide +kernel
theorem dX8_save_41 : decode cX8_save 41 = .ok (.dup, 1) := by decide +kernel
theorem dX8_save_42 : decode cX8_save 42 = .ok (.getfield 44, 3) := by decide +kernel
theorem dX8_save_45 : decode cX8_save 45 = .ok (.iconst 1, 1) := by decide +kernel
theorem dX8_save_46 : decode cX8_save 46 = .ok (.isub, 1) := by decide +kernel
theorem dX8_save_47 : decode cX8_save 47 = .ok (.putfield 44, 3) := by decide +kernel
theorem dX8_save_50 : decode cX8_save 50 = .ok (.iconst 0, 1) := by decide +kernel
theorem dX8_save_51 : decode cX8_save 51 = .ok (.istore_n 1, 1) := by decide +kernel
theorem dX8_save_52 : decode cX8_save 52 = .ok (.iload_n 1, 1) := by decide +kernel
theorem dX8_save_53 : decode cX8_save 53 = .ok (.sipush 143, 3) := by decide +kernel
theorem dX8_save_56 : decode cX8_save 56 = .ok (.if_icmp .ge 30, 3) := by decide +kernel
theorem dX8_save_59 : decode cX8_save 59 = .ok (.aload_n 0, 1) := by decide +kernel
theorem dX8_save_60 : decode cX8_save 60 = .ok (.getfield 13, 3) := by decide +kernel
theorem dX8_save_63 : decode cX8_save 63 = .ok (.aload_n 0, 1) := by decide +kernel
theorem dX8_save_64 : decode cX8_save 64 = .ok (.getfield 44, 3) := by decide +kernel
theorem dX8_save_67 : decode cX8_save 67 = .ok (.sipush 143, 3) := by decide +kernel
theorem dX8_save_70 : decode cX8_save 70 = .ok (.imul, 1) := by decide +kernel
theorem dX8_save_71 : decode cX8_save 71 = .ok (.iload_n 1, 1) := by decide +kernel
theorem dX8_save_72 : decode cX8_save 72 = .ok (.iadd, 1) := by decide +kernel
theorem dX8_save_73 : decode cX8_save 73 = .ok (.aload_n 0, 1) := by decide +kernel
theorem dX8_save_74 : decode cX8_save 74 = .ok (.getfield 7, 3) := by decide +kernel
theorem dX8_save_77 : decode cX8_save 77 = .ok (.iload_n 1, 1) := by decide +kernel
theorem dX8_save_78 : decode cX8_save 78 = .ok (.iaload, 1) := by decide +kernel
theorem dX8_save_79 : decode cX8_save 79 = .ok (.iastore, 1) := by decide +kernel
theorem dX8_save_80 : decode cX8_save 80 = .ok (.iinc 1 1, 3) := by decide +kernel
theorem dX8_save_83 : decode cX8_save 83 = .ok (.goto (-31), 3) := by decide +kernel
theorem dX8_save_86 : decode cX8_save 86 = .ok (.aload_n 0, 1) := by decide +kernel
theorem dX8_save_87 : decode cX8_save 87 = .ok (.dup, 1) := by decide +kernel
theorem dX8_save_88 : decode cX8_save 88 = .ok (.getfield 44, 3) := by decide +kernel
theorem dX8_save_91 : decode cX8_save 91 = .ok (.iconst 1, 1) := by decide +kernel
theorem dX8_save_92 : decode cX8_save 92 = .ok (.iadd, 1) := by decide +kernel
theorem dX8_save_93 : decode cX8_save 93 = .ok (.putfield 44, 3) := by decide +kernel
theorem dX8_save_96 : decode cX8_save 96 = .ok (.return_, 1) := by decide +kernel
theorem dX8_undo_0 : decode cX8_undo 0 = .ok (.aload_n 0, 1) := by decide +kernel
theorem dX8_undo_1 : decode cX8_undo 1 = .ok (.aload_n 0, 1) := by decide +kernel
theorem dX8_undo_2 : decode cX8_undo 2 = .ok (.getfield 44, 3) := by decide +kernel
theorem dX8_undo_5 : decode cX8_undo 5 = .ok (.ifCond .ne 7, 3) := by decide +kernel
theorem dX8_undo_8 : decode cX8_undo 8 = .ok (.iconst 1, 1) := by decide +kernel
theorem dX8_undo_9 : decode cX8_undo 9 = .ok (.goto 4, 3) := by decide +kernel
theorem dX8_undo_12 : decode cX8_undo 12 = .ok (.iconst 0, 1) := by decide +kernel
theorem dX8_undo_13 : decode cX8_undo 13 = .ok (.putfield 28, 3) := by decide +kernel
theorem dX8_undo_16 : decode cX8_undo 16 = .ok (.aload_n 0, 1) := by decide +kernel
theorem dX8_undo_17 : decode cX8_undo 17 = .ok (.getfield 28, 3) := by decide +kernel
theorem dX8_undo_20 : decode cX8_undo 20 = .ok (.ifCond .le 5, 3) := by decide +kernel
theorem dX8_undo_23 : decode cX8_undo 23 = .ok (.iconst 0, 1) := by decide +kernel
theorem dX8_undo_24 : decode cX8_undo 24 = .ok (.ireturn, 1) := by decide +kernel
theorem dX8_undo_25 : decode cX8_undo 25 = .ok (.aload_n 0, 1) := by decide +kernel
theorem dX8_undo_26 : decode cX8_undo 26 = .ok (.dup, 1) := by decide +kernel
theorem dX8_undo_27 : decode cX8_undo 27 = .ok (.getfield 44, 3) := by decide +kernel
theorem dX8_undo_30 : decode cX8_undo 30 = .ok (.iconst 1, 1) := by decide +kernel
theorem dX8_undo_31 : decode cX8_undo 31 = .ok (.isub, 1) := by decide +kernel
theorem dX8_undo_32 : decode cX8_undo 32 = .ok (.putfield 44, 3) := by decide +kernel
theorem dX8_undo_35 : decode cX8_undo 35 = .ok (.iconst 0, 1) := by decide +kernel
theorem dX8_undo_36 : decode cX8_undo 36 = .ok (.istore_n 1, 1) := by decide +kernel
theorem dX8_undo_37 : decode cX8_undo 37 = .ok (.iload_n 1, 1) := by decide +kernel
theorem dX8_undo_38 : decode cX8_undo 38 = .ok (.sipush 143, 3) := by decide +kernel
theorem dX8_undo_41 : decode cX8_undo 41 = .ok (.if_icmp .ge 30, 3) := by decide +kernel
theorem dX8_undo_44 : decode cX8_undo 44 = .ok (.aload_n 0, 1) := by decide +kernel
theorem dX8_undo_45 : decode cX8_undo 45 = .ok (.getfield 7, 3) := by decide +kernel
theorem dX8_undo_48 : decode cX8_undo 48 = .ok (.iload_n 1, 1) := by decide +kernel
theorem dX8_undo_49 : decode cX8_undo 49 = .ok (.aload_n 0, 1) := by decide +kernel
theorem dX8_undo_50 : decode cX8_undo 50 = .ok (.getfield 13, 3) := by decide +kernel
theorem dX8_undo_53 : decode cX8_undo 53 = .ok (.aload_n 0, 1) := by decide +kernel
theorem dX8_undo_54 : decode cX8_undo 54 = .ok (.getfield 44, 3) := by decide +kernel
theorem dX8_undo_57 : decode cX8_undo 57 = .ok (.sipush 143, 3) := by decide +kernel
theorem dX8_undo_60 : decode cX8_undo 60 = .ok (.imul, 1) := by decide +kernel
theorem dX8_undo_61 : decode cX8_undo 61 = .ok (.iload_n 1, 1) := by decide +kernel
theorem dX8_undo_62 : decode cX8_undo 62 = .ok (.iadd, 1) := by decide +kernel
theorem dX8_undo_63 : decode cX8_undo 63 = .ok (.iaload, 1) := by decide +kernel
theorem dX8_undo_64 : decode cX8_undo 64 = .ok (.iastore, 1) := by decide +kernel
theorem dX8_undo_65 : decode cX8_undo 65 = .ok (.iinc 1 1, 3) := by decide +kernel
theorem dX8_undo_68 : decode cX8_undo 68 = .ok (.goto (-31), 3) := by decide +kernel
theorem dX8_undo_71 : decode cX8_undo 71 = .ok (.aload_n 0, 1) := by decide +kernel
theorem dX8_undo_72 : decode cX8_undo 72 = .ok (.getfield 44, 3) := by decide +kernel
theorem dX8_undo_75 : decode cX8_undo 75 = .ok (.ireturn, 1) := by decide +kernel
theorem dX8_setClash_0 : decode cX8_setClash 0 = .ok (.aload_n 0, 1) := by decide +kernel
theorem dX8_setClash_1 : decode cX8_setClash 1 = .ok (.getfield 7, 3) := by decide +kernel
theorem dX8_setClash_4 : decode cX8_setClash 4 = .ok (.bipush 7, 2) := by decide +kernel
theorem dX8_setClash_6 : decode cX8_setClash 6 = .ok (.iload_n 1, 1) := by decide +kernel
theorem dX8_setClash_7 : decode cX8_setClash 7 = .ok (.iadd, 1) := by decide +kernel
theorem dX8_setClash_8 : decode cX8_setClash 8 = .ok (.aload_n 0, 1) := by decide +kernel
theorem dX8_setClash_9 : decode cX8_setClash 9 = .ok (.getfield 7, 3) := by decide +kernel
theorem dX8_setClash_12 : decode cX8_setClash 12 = .ok (.bipush 7, 2) := by decide +kernel
theorem dX8_setClash_14 : decode cX8_setClash 14 = .ok (.iload_n 1, 1) := by decide +kernel
theorem dX8_setClash_15 : decode cX8_setClash 15 = .ok (.iadd, 1) := by decide +kernel
theorem dX8_setClash_16 : decode cX8_setClash 16 = .ok (.iaload, 1) := by decide +kernel
theorem dX8_setClash_17 : decode cX8_setClash 17 = .ok (.iconst 1, 1) := by decide +kernel
theorem dX8_setClash_18 : decode cX8_setClash 18 = .ok (.iload_n 2, 1) := by decide +kernel
theorem dX8_setClash_19 : decode cX8_setClash 19 = .ok (.ishl, 1) := by decide +kernel
theorem dX8_setClash_20 : decode cX8_setClash 20 = .ok (.iconst (-1), 1) := by decide +kernel
theorem dX8_setClash_21 : decode cX8_setClash 21 = .ok (.ixor, 1) := by decide +kernel
theorem dX8_setClash_22 : decode cX8_setClash 22 = .ok (.iand, 1) := by decide +kernel
theorem dX8_setClash_23 : decode cX8_setClash 23 = .ok (.iload_n 3, 1) := by decide +kernel
theorem dX8_setClash_24 : decode cX8_setClash 24 = .ok (.iload_n 2, 1) := by decide +kernel
theorem dX8_setClash_25 : decode cX8_setClash 25 = .ok (.ishl, 1) := by decide +kernel
theorem dX8_setClash_26 : decode cX8_setClash 26 = .ok (.ior, 1) := by decide +kernel
theorem dX8_setClash_27 : decode cX8_setClash 27 = .ok (.iastore, 1) := by decide +kernel
theorem dX8_setClash_28 : decode cX8_setClash 28 = .ok (.aload_n 0, 1) := by decide +kernel
theorem dX8_setClash_29 : decode cX8_setClash 29 = .ok (.getfield 7, 3) := by decide +kernel
theorem dX8_setClash_32 : decode cX8_setClash 32 = .ok (.bipush 7, 2) := by decide +kernel
theorem dX8_setClash_34 : decode cX8_setClash 34 = .ok (.iload_n 2, 1) := by decide +kernel
theorem dX8_setClash_35 : decode cX8_setClash 35 = .ok (.iadd, 1) := by decide +kernel
theorem dX8_setClash_36 : decode cX8_setClash 36 = .ok (.aload_n 0, 1) := by decide +kernel
theorem dX8_setClash_37 : decode cX8_setClash 37 = .ok (.getfield 7, 3) := by decide +kernel
theorem dX8_setClash_40 : decode cX8_setClash 40 = .ok (.bipush 7, 2) := by decide +kernel
theorem dX8_setClash_42 : decode cX8_setClash 42 = .ok (.iload_n 2, 1) := by decide +kernel
theorem dX8_setClash_43 : decode cX8_setClash 43 = .ok (.iadd, 1) := by decide +kernel
theorem dX8_setClash_44 : decode cX8_setClash 44 = .ok (.iaload, 1) := by decide +kernel
theorem dX8_setClash_45 : decode cX8_setClash 45 = .ok (.iconst 1, 1) := by decide +kernel
theorem dX8_setClash_46 : decode cX8_setClash 46 = .ok (.iload_n 1, 1) := by decide +kernel
theorem dX8_setClash_47 : decode cX8_setClash 47 = .ok (.ishl, 1) := by decide +kernel
theorem dX8_setClash_48 : decode cX8_setClash 48 = .ok (.iconst (-1), 1) := by decide +kernel
theorem dX8_setClash_49 : decode cX8_setClash 49 = .ok (.ixor, 1) := by decide +kernel
theorem dX8_setClash_50 : decode cX8_setClash 50 = .ok (.iand, 1) := by decide +kernel
theorem dX8_setClash_51 : decode cX8_setClash 51 = .ok (.iload_n 3, 1) := by decide +kernel
theorem dX8_setClash_52 : decode cX8_setClash 52 = .ok (.iload_n 1, 1) := by decide +kernel
theorem dX8_setClash_53 : decode cX8_setClash 53 = .ok (.ishl, 1) := by decide +kernel
theorem dX8_setClash_54 : decode cX8_setClash 54 = .ok (.ior, 1) := by decide +kernel
theorem dX8_setClash_55 : decode cX8_setClash 55 = .ok (.iastore, 1) := by decide +kernel
theorem dX8_setClash_56 : decode cX8_setClash 56 = .ok (.return_, 1) := by decide +kernel
theorem dX8_doClash_0 : decode cX8_doClash 0 = .ok (.aload_n 0, 1) := by decide +kernel
theorem dX8_doClash_1 : decode cX8_doClash 1 = .ok (.getfield 7, 3) := by decide +kernel
theorem dX8_doClash_4 : decode cX8_doClash 4 = .ok (.bipush 7, 2) := by decide +kernel
theorem dX8_doClash_6 : decode cX8_doClash 6 = .ok (.iload_n 1, 1) := by decide +kernel
theorem dX8_doClash_7 : decode cX8_doClash 7 = .ok (.iadd, 1) := by decide +kernel
theorem dX8_doClash_8 : decode cX8_doClash 8 = .ok (.iaload, 1) := by decide +kernel
theorem dX8_doClash_9 : decode cX8_doClash 9 = .ok (.iload_n 2, 1) := by decide +kernel
theorem dX8_doClash_10 : decode cX8_doClash 10 = .ok (.ishr, 1) := by decide +kernel
theorem dX8_doClash_11 : decode cX8_doClash 11 = .ok (.iconst 1, 1) := by decide +kernel
theorem dX8_doClash_12 : decode cX8_doClash 12 = .ok (.iand, 1) := by decide +kernel
theorem dX8_doClash_13 : decode cX8_doClash 13 = .ok (.iconst 1, 1) := by decide +kernel
theorem dX8_doClash_14 : decode cX8_doClash 14 = .ok (.if_icmp .ne 7, 3) := by decide +kernel
theorem dX8_doClash_17 : decode cX8_doClash 17 = .ok (.iconst 1, 1) := by decide +kernel
theorem dX8_doClash_18 : decode cX8_doClash 18 = .ok (.goto 4, 3) := by decide +kernel
theorem dX8_doClash_21 : decode cX8_doClash 21 = .ok (.iconst 0, 1) := by decide +kernel
theorem dX8_doClash_22 : decode cX8_doClash 22 = .ok (.ireturn, 1) := by decide +kernel
set_option maxRecDepth 20000 in
theorem ggX8_clash_X8_isDirection : GoodIn wsX8_clash wsX8_isDirection := goodIn_r _ [5, 6, 7, 4, 8] (by decide +kernel) (by decide +kernel)
set_option maxRecDepth 20000 in
theorem gX8_clash_X8_isDirection : GoodIn wsX8_clash (va_wsS RX8 47 yX8_isDirection wsX8_isDirection) := goodIn_app (goodIn_of _ (by decide +kernel)) ggX8_clash_X8_isDirection
set_option maxRecDepth 20000 in
theorem ggX8_clash_X8_save : GoodIn wsX8_clash wsX8_save := goodIn_r _ [12, 13, 14, 15, 24, 25, 26, 27, 28, 29, 30, 31, 32, 33, 34, 35, 36] (by decide +kernel) (by decide +kernel)
set_option maxRecDepth 20000 in
theorem gX8_clash_X8_save : GoodIn wsX8_clash (wsV RX8 51 RX8 yX8_save wsX8_save) := goodIn_app (goodIn_of _ (by decide +kernel)) ggX8_clash_X8_save
set_option maxRecDepth 20000 in
theorem ggX8_clash_X8_doClash : GoodIn wsX8_clash wsX8_doClash := goodIn_r _ [19, 15, 24, 25, 26, 27, 28, 29, 30, 31, 32, 33, 34, 35, 36] (by decide +kernel) (by decide +kernel)
set_option maxRecDepth 20000 in
theorem gX8_clash_X8_doClash : GoodIn wsX8_clash (wsV RX8 54 RX8 yX8_doClash wsX8_doClash) := goodIn_app (goodIn_of _ (by decide +kernel)) ggX8_clash_X8_doClash
set_option maxRecDepth 20000 in
theorem ggX8_clash_X8_setClash : GoodIn wsX8_clash wsX8_setClash := goodIn_r _ [23, 15, 24, 25, 26, 27, 28, 29, 30, 31, 32, 33, 34, 35, 36] (by decide +kernel) (by decide +kernel)
set_option maxRecDepth 20000 in
theorem gX8_clash_X8_setClash : GoodIn wsX8_clash (wsV RX8 58 RX8 yX8_setClash wsX8_setClash) := goodIn_app (goodIn_of _ (by decide +kernel)) ggX8_clash_X8_setClash
theorem dX8_clash_0 : decode cX8_clash 0 = .ok (.aload_n 0, 1) := by decide +kernel
theorem dX8_clash_1 : decode cX8_clash 1 = .ok (.iload_n 1, 1) := by decide +kernel
theorem dX8_clash_2 : decode cX8_clash 2 = .ok (.invokestatic 47, 3) := by decide +kernel
theorem dX8_clash_5 : decode cX8_clash 5 = .ok (.ifCond .eq 19, 3) := by decide +kernel
theorem dX8_clash_8 : decode cX8_clash 8 = .ok (.iload_n 2, 1) := by decide +kernel
theorem dX8_clash_9 : decode cX8_clash 9 = .ok (.invokestatic 47, 3) := by decide +kernel
theorem dX8_clash_12 : decode cX8_clash 12 = .ok (.ifCond .eq 12, 3) := by decide +kernel
theorem dX8_clash_15 : decode cX8_clash 15 = .ok (.iload_n 1, 1) := by decide +kernel
theorem dX8_clash_16 : decode cX8_clash 16 = .ok (.iload_n 2, 1) := by decide +kernel
theorem dX8_clash_17 : decode cX8_clash 17 = .ok (.if_icmp .eq 7, 3) := by decide +kernel
theorem dX8_clash_20 : decode cX8_clash 20 = .ok (.iconst 0, 1) := by decide +kernel
theorem dX8_clash_21 : decode cX8_clash 21 = .ok (.goto 4, 3) := by decide +kernel
theorem dX8_clash_24 : decode cX8_clash 24 = .ok (.iconst 1, 1) := by decide +kernel
theorem dX8_clash_25 : decode cX8_clash 25 = .ok (.putfield 28, 3) := by decide +kernel
theorem dX8_clash_28 : decode cX8_clash 28 = .ok (.aload_n 0, 1) := by decide +kernel
theorem dX8_clash_29 : decode cX8_clash 29 = .ok (.getfield 28, 3) := by decide +kernel
theorem dX8_clash_32 : decode cX8_clash 32 = .ok (.ifCond .le 5, 3) := by decide +kernel
theorem dX8_clash_35 : decode cX8_clash 35 = .ok (.iconst 0, 1) := by decide +kernel
theorem dX8_clash_36 : decode cX8_clash 36 = .ok (.ireturn, 1) := by decide +kernel
theorem dX8_clash_37 : decode cX8_clash 37 = .ok (.aload_n 0, 1) := by decide +kernel
theorem dX8_clash_38 : decode cX8_clash 38 = .ok (.invokevirtual 51, 3) := by decide +kernel
theorem dX8_clash_41 : decode cX8_clash 41 = .ok (.aload_n 0, 1) := by decide +kernel
theorem dX8_clash_42 : decode cX8_clash 42 = .ok (.iload_n 1, 1) := by decide +kernel
theorem dX8_clash_43 : decode cX8_clash 43 = .ok (.iload_n 2, 1) := by decide +kernel
theorem dX8_clash_44 : decode cX8_clash 44 = .ok (.invokevirtual 54, 3) := by decide +kernel
theorem dX8_clash_47 : decode cX8_clash 47 = .ok (.ifCond .eq 7, 3) := by decide +kernel
theorem dX8_clash_50 : decode cX8_clash 50 = .ok (.iconst 0, 1) := by decide +kernel
theorem dX8_clash_51 : decode cX8_clash 51 = .ok (.goto 4, 3) := by decide +kernel
theorem dX8_clash_54 : decode cX8_clash 54 = .ok (.iconst 1, 1) := by decide +kernel
theorem dX8_clash_55 : decode cX8_clash 55 = .ok (.istore_n 3, 1) := by decide +kernel
theorem dX8_clash_56 : decode cX8_clash 56 = .ok (.aload_n 0, 1) := by decide +kernel
theorem dX8_clash_57 : decode cX8_clash 57 = .ok (.iload_n 1, 1) := by decide +kernel
theorem dX8_clash_58 : decode cX8_clash 58 = .ok (.iload_n 2, 1) := by decide +kernel
theorem dX8_clash_59 : decode cX8_clash 59 = .ok (.iload_n 3, 1) := by decide +kernel
theorem dX8_clash_60 : decode cX8_clash 60 = .ok (.invokevirtual 58, 3) := by decide +kernel
theorem dX8_clash_63 : decode cX8_clash 63 = .ok (.iload_n 3, 1) := by decide +kernel
theorem dX8_clash_64 : decode cX8_clash 64 = .ok (.ireturn, 1) := by decide +kernel
set_option maxRecDepth 20000 in
theorem ggX8_whyNotPhase_X8_in : GoodIn wsX8_whyNotPhase wsX8_in := goodIn_r _ [5] (by decide +kernel) (by decide +kernel)
set_option maxRecDepth 20000 in
theorem gX8_whyNotPhase_X8_in : GoodIn wsX8_whyNotPhase (va_wsS RX8 32 yX8_in wsX8_in) := goodIn_app (goodIn_of _ (by decide +kernel)) ggX8_whyNotPhase_X8_in
theorem dX8_whyNotPhase_0 : decode cX8_whyNotPhase 0 = .ok (.iload_n 1, 1) := by decide +kernel
theorem dX8_whyNotPhase_1 : decode cX8_whyNotPhase 1 = .ok (.iconst 0, 1) := by decide +kernel
theorem dX8_whyNotPhase_2 : decode cX8_whyNotPhase 2 = .ok (.bipush 63, 2) := by decide +kernel
theorem dX8_whyNotPhase_4 : decode cX8_whyNotPhase 4 = .ok (.invokestatic 32, 3) := by decide +kernel
theorem dX8_whyNotPhase_7 : decode cX8_whyNotPhase 7 = .ok (.ifCond .eq 13, 3) := by decide +kernel
theorem dX8_whyNotPhase_10 : decode cX8_whyNotPhase 10 = .ok (.iload_n 2, 1) := by decide +kernel
theorem dX8_whyNotPhase_11 : decode cX8_whyNotPhase 11 = .ok (.iconst 1, 1) := by decide +kernel
theorem dX8_whyNotPhase_12 : decode cX8_whyNotPhase 12 = .ok (.bipush 9, 2) := by decide +kernel
theorem dX8_whyNotPhase_14 : decode cX8_whyNotPhase 14 = .ok (.invokestatic 32, 3) := by decide +kernel
theorem dX8_whyNotPhase_17 : decode cX8_whyNotPhase 17 = .ok (.ifCond .ne 7, 3) := by decide +kernel
theorem dX8_whyNotPhase_20 : decode cX8_whyNotPhase 20 = .ok (.iconst 1, 1) := by decide +kernel
theorem dX8_whyNotPhase_21 : decode cX8_whyNotPhase 21 = .ok (.goto 19, 3) := by decide +kernel
theorem dX8_whyNotPhase_24 : decode cX8_whyNotPhase 24 = .ok (.aload_n 0, 1) := by decide +kernel
theorem dX8_whyNotPhase_25 : decode cX8_whyNotPhase 25 = .ok (.getfield 7, 3) := by decide +kernel
theorem dX8_whyNotPhase_28 : decode cX8_whyNotPhase 28 = .ok (.iconst 0, 1) := by decide +kernel
theorem dX8_whyNotPhase_29 : decode cX8_whyNotPhase 29 = .ok (.iaload, 1) := by decide +kernel
theorem dX8_whyNotPhase_30 : decode cX8_whyNotPhase 30 = .ok (.bipush 8, 2) := by decide +kernel
theorem dX8_whyNotPhase_32 : decode cX8_whyNotPhase 32 = .ok (.if_icmp .ne 7, 3) := by decide +kernel
theorem dX8_whyNotPhase_35 : decode cX8_whyNotPhase 35 = .ok (.iconst 2, 1) := by decide +kernel
theorem dX8_whyNotPhase_36 : decode cX8_whyNotPhase 36 = .ok (.goto 4, 3) := by decide +kernel
theorem dX8_whyNotPhase_39 : decode cX8_whyNotPhase 39 = .ok (.iconst 0, 1) := by decide +kernel
theorem dX8_whyNotPhase_40 : decode cX8_whyNotPhase 40 = .ok (.ireturn, 1) := by decide +kernel
theorem dX8_phaseAdded_0 : decode cX8_phaseAdded 0 = .ok (.aload_n 0, 1) := by decide +kernel
theorem dX8_phaseAdded_1 : decode cX8_phaseAdded 1 = .ok (.getfield 7, 3) := by decide +kernel
theorem dX8_phaseAdded_4 : decode cX8_phaseAdded 4 = .ok (.iconst 0, 1) := by decide +kernel
theorem dX8_phaseAdded_5 : decode cX8_phaseAdded 5 = .ok (.iaload, 1) := by decide +kernel
theorem dX8_phaseAdded_6 : decode cX8_phaseAdded 6 = .ok (.istore_n 3, 1) := by decide +kernel
theorem dX8_phaseAdded_7 : decode cX8_phaseAdded 7 = .ok (.iconst 0, 1) := by decide +kernel
theorem dX8_phaseAdded_8 : decode cX8_phaseAdded 8 = .ok (.istore 4, 2) := by decide +kernel
theorem dX8_phaseAdded_10 : decode cX8_phaseAdded 10 = .ok (.iload 4, 2) := by decide +kernel
theorem dX8_phaseAdded_12 : decode cX8_phaseAdded 12 = .ok (.bipush 14, 2) := by decide +kernel
theorem dX8_phaseAdded_14 : decode cX8_phaseAdded 14 = .ok (.if_icmp .ge 25, 3) := by decide +kernel
theorem dX8_phaseAdded_17 : decode cX8_phaseAdded 17 = .ok (.aload_n 0, 1) := by decide +kernel
theorem dX8_phaseAdded_18 : decode cX8_phaseAdded 18 = .ok (.getfield 7, 3) := by decide +kernel
theorem dX8_phaseAdded_21 : decode cX8_phaseAdded 21 = .ok (.bipush 31, 2) := by decide +kernel
theorem dX8_phaseAdded_23 : decode cX8_phaseAdded 23 = .ok (.bipush 14, 2) := by decide +kernel
theorem dX8_phaseAdded_25 : decode cX8_phaseAdded 25 = .ok (.iload_n 3, 1) := by decide +kernel
theorem dX8_phaseAdded_26 : decode cX8_phaseAdded 26 = .ok (.imul, 1) := by decide +kernel
theorem dX8_phaseAdded_27 : decode cX8_phaseAdded 27 = .ok (.iadd, 1) := by decide +kernel
theorem dX8_phaseAdded_28 : decode cX8_phaseAdded 28 = .ok (.iload 4, 2) := by decide +kernel
theorem dX8_phaseAdded_30 : decode cX8_phaseAdded 30 = .ok (.iadd, 1) := by decide +kernel
theorem dX8_phaseAdded_31 : decode cX8_phaseAdded 31 = .ok (.iconst 0, 1) := by decide +kernel
theorem dX8_phaseAdded_32 : decode cX8_phaseAdded 32 = .ok (.iastore, 1) := by decide +kernel
theorem dX8_phaseAdded_33 : decode cX8_phaseAdded 33 = .ok (.iinc 4 1, 3) := by decide +kernel
theorem dX8_phaseAdded_36 : decode cX8_phaseAdded 36 = .ok (.goto (-26), 3) := by decide +kernel
theorem dX8_phaseAdded_39 : decode cX8_phaseAdded 39 = .ok (.aload_n 0, 1) := by decide +kernel
theorem dX8_phaseAdded_40 : decode cX8_phaseAdded 40 = .ok (.getfield 7, 3) := by decide +kernel
theorem dX8_phaseAdded_43 : decode cX8_phaseAdded 43 = .ok (.bipush 31, 2) := by decide +kernel
theorem dX8_phaseAdded_45 : decode cX8_phaseAdded 45 = .ok (.bipush 14, 2) := by decide +kernel
theorem dX8_phaseAdded_47 : decode cX8_phaseAdded 47 = .ok (.iload_n 3, 1) := by decide +kernel
theorem dX8_phaseAdded_48 : decode cX8_phaseAdded 48 = .ok (.imul, 1) := by decide +kernel
theorem dX8_phaseAdded_49 : decode cX8_phaseAdded 49 = .ok (.iadd, 1) := by decide +kernel
theorem dX8_phaseAdded_50 : decode cX8_phaseAdded 50 = .ok (.iconst 0, 1) := by decide +kernel
theorem dX8_phaseAdded_51 : decode cX8_phaseAdded 51 = .ok (.iadd, 1) := by decide +kernel
theorem dX8_phaseAdded_52 : decode cX8_phaseAdded 52 = .ok (.iload_n 1, 1) := by decide +kernel
theorem dX8_phaseAdded_53 : decode cX8_phaseAdded 53 = .ok (.iastore, 1) := by decide +kernel
theorem dX8_phaseAdded_54 : decode cX8_phaseAdded 54 = .ok (.aload_n 0, 1) := by decide +kernel
theorem dX8_phaseAdded_55 : decode cX8_phaseAdded 55 = .ok (.getfield 7, 3) := by decide +kernel
theorem dX8_phaseAdded_58 : decode cX8_phaseAdded 58 = .ok (.bipush 31, 2) := by decide +kernel
theorem dX8_phaseAdded_60 : decode cX8_phaseAdded 60 = .ok (.bipush 14, 2) := by decide +kernel
theorem dX8_phaseAdded_62 : decode cX8_phaseAdded 62 = .ok (.iload_n 3, 1) := by decide +kernel
theorem dX8_phaseAdded_63 : decode cX8_phaseAdded 63 = .ok (.imul, 1) := by decide +kernel
theorem dX8_phaseAdded_64 : decode cX8_phaseAdded 64 = .ok (.iadd, 1) := by decide +kernel
theorem dX8_phaseAdded_65 : decode cX8_phaseAdded 65 = .ok (.iconst 1, 1) := by decide +kernel
theorem dX8_phaseAdded_66 : decode cX8_phaseAdded 66 = .ok (.iadd, 1) := by decide +kernel
theorem dX8_phaseAdded_67 : decode cX8_phaseAdded 67 = .ok (.iload_n 2, 1) := by decide +kernel
theorem dX8_phaseAdded_68 : decode cX8_phaseAdded 68 = .ok (.iastore, 1) := by decide +kernel
theorem dX8_phaseAdded_69 : decode cX8_phaseAdded 69 = .ok (.aload_n 0, 1) := by decide +kernel
theorem dX8_phaseAdded_70 : decode cX8_phaseAdded 70 = .ok (.getfield 7, 3) := by decide +kernel
theorem dX8_phaseAdded_73 : decode cX8_phaseAdded 73 = .ok (.iconst 0, 1) := by decide +kernel
theorem dX8_phaseAdded_74 : decode cX8_phaseAdded 74 = .ok (.dup2, 1) := by decide +kernel
theorem dX8_phaseAdded_75 : decode cX8_phaseAdded 75 = .ok (.iaload, 1) := by decide +kernel
theorem dX8_phaseAdded_76 : decode cX8_phaseAdded 76 = .ok (.iconst 1, 1) := by decide +kernel
theorem dX8_phaseAdded_77 : decode cX8_phaseAdded 77 = .ok (.iadd, 1) := by decide +kernel
theorem dX8_phaseAdded_78 : decode cX8_phaseAdded 78 = .ok (.iastore, 1) := by decide +kernel
theorem dX8_phaseAdded_79 : decode cX8_phaseAdded 79 = .ok (.aload_n 0, 1) := by decide +kernel
theorem dX8_phaseAdded_80 : decode cX8_phaseAdded 80 = .ok (.getfield 7, 3) := by decide +kernel
theorem dX8_phaseAdded_83 : decode cX8_phaseAdded 83 = .ok (.iconst 2, 1) := by decide +kernel
theorem dX8_phaseAdded_84 : decode cX8_phaseAdded 84 = .ok (.iload_n 3, 1) := by decide +kernel
theorem dX8_phaseAdded_85 : decode cX8_phaseAdded 85 = .ok (.ifCond .ne 7, 3) := by decide +kernel
theorem dX8_phaseAdded_88 : decode cX8_phaseAdded 88 = .ok (.iconst 0, 1) := by decide +kernel
theorem dX8_phaseAdded_89 : decode cX8_phaseAdded 89 = .ok (.goto 9, 3) := by decide +kernel
theorem dX8_phaseAdded_92 : decode cX8_phaseAdded 92 = .ok (.aload_n 0, 1) := by decide +kernel
theorem dX8_phaseAdded_93 : decode cX8_phaseAdded 93 = .ok (.getfield 7, 3) := by decide +kernel
theorem dX8_phaseAdded_96 : decode cX8_phaseAdded 96 = .ok (.iconst 2, 1) := by decide +kernel
theorem dX8_phaseAdded_97 : decode cX8_phaseAdded 97 = .ok (.iaload, 1) := by decide +kernel
theorem dX8_phaseAdded_98 : decode cX8_phaseAdded 98 = .ok (.iastore, 1) := by decide +kernel
theorem dX8_phaseAdded_99 : decode cX8_phaseAdded 99 = .ok (.iload_n 3, 1) := by decide +kernel
theorem dX8_phaseAdded_100 : decode cX8_phaseAdded 100 = .ok (.ireturn, 1) := by decide +kernel
set_option maxRecDepth 20000 in
theorem ggX8_addPhase_X8_whyNotPhase : GoodIn wsX8_addPhase wsX8_whyNotPhase := goodIn_r _ [6, 7, 8, 9, 5, 10, 21, 22, 23, 24, 25, 26, 27, 28, 29, 30, 31, 32, 33] (by decide +kernel) (by decide +kernel)
set_option maxRecDepth 20000 in
theorem gX8_addPhase_X8_whyNotPhase : GoodIn wsX8_addPhase (wsV RX8 62 RX8 yX8_whyNotPhase wsX8_whyNotPhase) := goodIn_app (goodIn_of _ (by decide +kernel)) ggX8_addPhase_X8_whyNotPhase
set_option maxRecDepth 20000 in
theorem ggX8_addPhase_X8_save : GoodIn wsX8_addPhase wsX8_save := goodIn_r _ [14, 15, 16, 7, 21, 22, 23, 24, 25, 26, 27, 28, 29, 30, 31, 32, 33] (by decide +kernel) (by decide +kernel)
set_option maxRecDepth 20000 in
theorem gX8_addPhase_X8_save : GoodIn wsX8_addPhase (wsV RX8 51 RX8 yX8_save wsX8_save) := goodIn_app (goodIn_of _ (by decide +kernel)) ggX8_addPhase_X8_save
set_option maxRecDepth 20000 in
theorem ggX8_addPhase_X8_phaseAdded : GoodIn wsX8_addPhase wsX8_phaseAdded := goodIn_r _ [20, 7, 21, 22, 23, 24, 25, 26, 27, 28, 29, 30, 31, 32, 33] (by decide +kernel) (by decide +kernel)
set_option maxRecDepth 20000 in
theorem gX8_addPhase_X8_phaseAdded : GoodIn wsX8_addPhase (wsV RX8 65 RX8 yX8_phaseAdded wsX8_phaseAdded) := goodIn_app (goodIn_of _ (by decide +kernel)) ggX8_addPhase_X8_phaseAdded
theorem dX8_addPhase_0 : decode cX8_addPhase 0 = .ok (.aload_n 0, 1) := by decide +kernel
theorem dX8_addPhase_1 : decode cX8_addPhase 1 = .ok (.aload_n 0, 1) := by decide +kernel
theorem dX8_addPhase_2 : decode cX8_addPhase 2 = .ok (.iload_n 1, 1) := by decide +kernel
theorem dX8_addPhase_3 : decode cX8_addPhase 3 = .ok (.iload_n 2, 1) := by decide +kernel
theorem dX8_addPhase_4 : decode cX8_addPhase 4 = .ok (.invokevirtual 62, 3) := by decide +kernel
theorem dX8_addPhase_7 : decode cX8_addPhase 7 = .ok (.putfield 28, 3) := by decide +kernel
theorem dX8_addPhase_10 : decode cX8_addPhase 10 = .ok (.aload_n 0, 1) := by decide +kernel
theorem dX8_addPhase_11 : decode cX8_addPhase 11 = .ok (.getfield 28, 3) := by decide +kernel
theorem dX8_addPhase_14 : decode cX8_addPhase 14 = .ok (.ifCond .le 5, 3) := by decide +kernel
theorem dX8_addPhase_17 : decode cX8_addPhase 17 = .ok (.iconst 0, 1) := by decide +kernel
theorem dX8_addPhase_18 : decode cX8_addPhase 18 = .ok (.ireturn, 1) := by decide +kernel
theorem dX8_addPhase_19 : decode cX8_addPhase 19 = .ok (.aload_n 0, 1) := by decide +kernel
theorem dX8_addPhase_20 : decode cX8_addPhase 20 = .ok (.invokevirtual 51, 3) := by decide +kernel
theorem dX8_addPhase_23 : decode cX8_addPhase 23 = .ok (.aload_n 0, 1) := by decide +kernel
theorem dX8_addPhase_24 : decode cX8_addPhase 24 = .ok (.iload_n 1, 1) := by decide +kernel
theorem dX8_addPhase_25 : decode cX8_addPhase 25 = .ok (.iload_n 2, 1) := by decide +kernel
theorem dX8_addPhase_26 : decode cX8_addPhase 26 = .ok (.invokevirtual 65, 3) := by decide +kernel
theorem dX8_addPhase_29 : decode cX8_addPhase 29 = .ok (.ireturn, 1) := by decide +kernel
set_option maxRecDepth 20000 in
theorem ggX8_whyNotRule_X8_isPhase : GoodIn wsX8_whyNotRule wsX8_isPhase := goodIn_r _ [5, 6, 18, 19, 20, 21, 22, 23, 24, 25, 26, 27, 28, 29, 30] (by decide +kernel) (by decide +kernel)
set_option maxRecDepth 20000 in
theorem gX8_whyNotRule_X8_isPhase : GoodIn wsX8_whyNotRule (wsV RX8 68 RX8 yX8_isPhase wsX8_isPhase) := goodIn_app (goodIn_of _ (by decide +kernel)) ggX8_whyNotRule_X8_isPhase
set_option maxRecDepth 20000 in
theorem ggX8_whyNotRule_X8_in : GoodIn wsX8_whyNotRule wsX8_in := goodIn_r _ [9] (by decide +kernel) (by decide +kernel)
set_option maxRecDepth 20000 in
theorem gX8_whyNotRule_X8_in : GoodIn wsX8_whyNotRule (va_wsS RX8 32 yX8_in wsX8_in) := goodIn_app (goodIn_of _ (by decide +kernel)) ggX8_whyNotRule_X8_in
set_option maxRecDepth 20000 in
theorem ggX8_whyNotRule_X8_rules : GoodIn wsX8_whyNotRule wsX8_rules := goodIn_r _ [13, 14, 15, 16, 4, 17, 6, 18, 19, 20, 21, 22, 23, 24, 25, 26, 27, 28, 29, 30] (by decide +kernel) (by decide +kernel)
set_option maxRecDepth 20000 in
theorem gX8_whyNotRule_X8_rules : GoodIn wsX8_whyNotRule (wsV RX8 71 RX8 yX8_rules wsX8_rules) := goodIn_app (goodIn_of _ (by decide +kernel)) ggX8_whyNotRule_X8_rules
theorem dX8_whyNotRule_0 : decode cX8_whyNotRule 0 = .ok (.aload_n 0, 1) := by decide +kernel
theorem dX8_whyNotRule_1 : decode cX8_whyNotRule 1 = .ok (.iload_n 1, 1) := by decide +kernel
theorem dX8_whyNotRule_2 : decode cX8_whyNotRule 2 = .ok (.invokevirtual 68, 3) := by decide +kernel
theorem dX8_whyNotRule_5 : decode cX8_whyNotRule 5 = .ok (.ifCond .eq 11, 3) := by decide +kernel
theorem dX8_whyNotRule_8 : decode cX8_whyNotRule 8 = .ok (.aload_n 0, 1) := by decide +kernel
theorem dX8_whyNotRule_9 : decode cX8_whyNotRule 9 = .ok (.iload_n 2, 1) := by decide +kernel
theorem dX8_whyNotRule_10 : decode cX8_whyNotRule 10 = .ok (.invokevirtual 68, 3) := by decide +kernel
theorem dX8_whyNotRule_13 : decode cX8_whyNotRule 13 = .ok (.ifCond .ne 5, 3) := by decide +kernel
theorem dX8_whyNotRule_16 : decode cX8_whyNotRule 16 = .ok (.iconst 1, 1) := by decide +kernel
theorem dX8_whyNotRule_17 : decode cX8_whyNotRule 17 = .ok (.ireturn, 1) := by decide +kernel
theorem dX8_whyNotRule_18 : decode cX8_whyNotRule 18 = .ok (.iload_n 1, 1) := by decide +kernel
theorem dX8_whyNotRule_19 : decode cX8_whyNotRule 19 = .ok (.iload_n 2, 1) := by decide +kernel
theorem dX8_whyNotRule_20 : decode cX8_whyNotRule 20 = .ok (.if_icmp .eq 13, 3) := by decide +kernel
theorem dX8_whyNotRule_23 : decode cX8_whyNotRule 23 = .ok (.iload_n 3, 1) := by decide +kernel
theorem dX8_whyNotRule_24 : decode cX8_whyNotRule 24 = .ok (.iconst 0, 1) := by decide +kernel
theorem dX8_whyNotRule_25 : decode cX8_whyNotRule 25 = .ok (.bipush 63, 2) := by decide +kernel
theorem dX8_whyNotRule_27 : decode cX8_whyNotRule 27 = .ok (.invokestatic 32, 3) := by decide +kernel
theorem dX8_whyNotRule_30 : decode cX8_whyNotRule 30 = .ok (.ifCond .ne 5, 3) := by decide +kernel
theorem dX8_whyNotRule_33 : decode cX8_whyNotRule 33 = .ok (.iconst 2, 1) := by decide +kernel
theorem dX8_whyNotRule_34 : decode cX8_whyNotRule 34 = .ok (.ireturn, 1) := by decide +kernel
theorem dX8_whyNotRule_35 : decode cX8_whyNotRule 35 = .ok (.aload_n 0, 1) := by decide +kernel
theorem dX8_whyNotRule_36 : decode cX8_whyNotRule 36 = .ok (.iload_n 1, 1) := by decide +kernel
theorem dX8_whyNotRule_37 : decode cX8_whyNotRule 37 = .ok (.invokevirtual 71, 3) := by decide +kernel
theorem dX8_whyNotRule_40 : decode cX8_whyNotRule 40 = .ok (.iconst 4, 1) := by decide +kernel
theorem dX8_whyNotRule_41 : decode cX8_whyNotRule 41 = .ok (.if_icmp .ne 7, 3) := by decide +kernel
theorem dX8_whyNotRule_44 : decode cX8_whyNotRule 44 = .ok (.iconst 3, 1) := by decide +kernel
theorem dX8_whyNotRule_45 : decode cX8_whyNotRule 45 = .ok (.goto 4, 3) := by decide +kernel
theorem dX8_whyNotRule_48 : decode cX8_whyNotRule 48 = .ok (.iconst 0, 1) := by decide +kernel
theorem dX8_whyNotRule_49 : decode cX8_whyNotRule 49 = .ok (.ireturn, 1) := by decide +kernel
set_option maxRecDepth 20000 in
theorem ggX8_ruleAdded_X8_rules : GoodIn wsX8_ruleAdded wsX8_rules := goodIn_r _ [6, 7, 8, 9, 5, 10, 1, 11, 12, 13, 14, 15, 16, 17, 18, 19, 20, 21, 22, 23] (by decide +kernel) (by decide +kernel)
set_option maxRecDepth 20000 in
theorem gX8_ruleAdded_X8_rules : GoodIn wsX8_ruleAdded (wsV RX8 71 RX8 yX8_rules wsX8_rules) := goodIn_app (goodIn_of _ (by decide +kernel)) ggX8_ruleAdded_X8_rules
theorem dX8_ruleAdded_0 : decode cX8_ruleAdded 0 = .ok (.bipush 31, 2) := by decide +kernel
theorem dX8_ruleAdded_2 : decode cX8_ruleAdded 2 = .ok (.bipush 14, 2) := by decide +kernel
theorem dX8_ruleAdded_4 : decode cX8_ruleAdded 4 = .ok (.iload_n 1, 1) := by decide +kernel
theorem dX8_ruleAdded_5 : decode cX8_ruleAdded 5 = .ok (.imul, 1) := by decide +kernel
theorem dX8_ruleAdded_6 : decode cX8_ruleAdded 6 = .ok (.iadd, 1) := by decide +kernel
theorem dX8_ruleAdded_7 : decode cX8_ruleAdded 7 = .ok (.istore 4, 2) := by decide +kernel
theorem dX8_ruleAdded_9 : decode cX8_ruleAdded 9 = .ok (.aload_n 0, 1) := by decide +kernel
theorem dX8_ruleAdded_10 : decode cX8_ruleAdded 10 = .ok (.getfield 7, 3) := by decide +kernel
theorem dX8_ruleAdded_13 : decode cX8_ruleAdded 13 = .ok (.iload 4, 2) := by decide +kernel
theorem dX8_ruleAdded_15 : decode cX8_ruleAdded 15 = .ok (.iconst 4, 1) := by decide +kernel
theorem dX8_ruleAdded_16 : decode cX8_ruleAdded 16 = .ok (.iadd, 1) := by decide +kernel
theorem dX8_ruleAdded_17 : decode cX8_ruleAdded 17 = .ok (.iconst 2, 1) := by decide +kernel
theorem dX8_ruleAdded_18 : decode cX8_ruleAdded 18 = .ok (.aload_n 0, 1) := by decide +kernel
theorem dX8_ruleAdded_19 : decode cX8_ruleAdded 19 = .ok (.iload_n 1, 1) := by decide +kernel
theorem dX8_ruleAdded_20 : decode cX8_ruleAdded 20 = .ok (.invokevirtual 71, 3) := by decide +kernel
theorem dX8_ruleAdded_23 : decode cX8_ruleAdded 23 = .ok (.imul, 1) := by decide +kernel
theorem dX8_ruleAdded_24 : decode cX8_ruleAdded 24 = .ok (.iadd, 1) := by decide +kernel
theorem dX8_ruleAdded_25 : decode cX8_ruleAdded 25 = .ok (.iload_n 2, 1) := by decide +kernel
theorem dX8_ruleAdded_26 : decode cX8_ruleAdded 26 = .ok (.iastore, 1) := by decide +kernel
theorem dX8_ruleAdded_27 : decode cX8_ruleAdded 27 = .ok (.aload_n 0, 1) := by decide +kernel
theorem dX8_ruleAdded_28 : decode cX8_ruleAdded 28 = .ok (.getfield 7, 3) := by decide +kernel
theorem dX8_ruleAdded_31 : decode cX8_ruleAdded 31 = .ok (.iload 4, 2) := by decide +kernel
theorem dX8_ruleAdded_33 : decode cX8_ruleAdded 33 = .ok (.iconst 4, 1) := by decide +kernel
theorem dX8_ruleAdded_34 : decode cX8_ruleAdded 34 = .ok (.iadd, 1) := by decide +kernel
theorem dX8_ruleAdded_35 : decode cX8_ruleAdded 35 = .ok (.iconst 2, 1) := by decide +kernel
theorem dX8_ruleAdded_36 : decode cX8_ruleAdded 36 = .ok (.aload_n 0, 1) := by decide +kernel
theorem dX8_ruleAdded_37 : decode cX8_ruleAdded 37 = .ok (.iload_n 1, 1) := by decide +kernel
theorem dX8_ruleAdded_38 : decode cX8_ruleAdded 38 = .ok (.invokevirtual 71, 3) := by decide +kernel
theorem dX8_ruleAdded_41 : decode cX8_ruleAdded 41 = .ok (.imul, 1) := by decide +kernel
theorem dX8_ruleAdded_42 : decode cX8_ruleAdded 42 = .ok (.iadd, 1) := by decide +kernel
theorem dX8_ruleAdded_43 : decode cX8_ruleAdded 43 = .ok (.iconst 1, 1) := by decide +kernel
theorem dX8_ruleAdded_44 : decode cX8_ruleAdded 44 = .ok (.iadd, 1) := by decide +kernel
theorem dX8_ruleAdded_45 : decode cX8_ruleAdded 45 = .ok (.iload_n 3, 1) := by decide +kernel
theorem dX8_ruleAdded_46 : decode cX8_ruleAdded 46 = .ok (.iastore, 1) := by decide +kernel
theorem dX8_ruleAdded_47 : decode cX8_ruleAdded 47 = .ok (.aload_n 0, 1) := by decide +kernel
theorem dX8_ruleAdded_48 : decode cX8_ruleAdded 48 = .ok (.getfield 7, 3) := by decide +kernel
theorem dX8_ruleAdded_51 : decode cX8_ruleAdded 51 = .ok (.iload 4, 2) := by decide +kernel
theorem dX8_ruleAdded_53 : decode cX8_ruleAdded 53 = .ok (.iconst 3, 1) := by decide +kernel
theorem dX8_ruleAdded_54 : decode cX8_ruleAdded 54 = .ok (.iadd, 1) := by decide +kernel
theorem dX8_ruleAdded_55 : decode cX8_ruleAdded 55 = .ok (.dup2, 1) := by decide +kernel
theorem dX8_ruleAdded_56 : decode cX8_ruleAdded 56 = .ok (.iaload, 1) := by decide +kernel
theorem dX8_ruleAdded_57 : decode cX8_ruleAdded 57 = .ok (.iconst 1, 1) := by decide +kernel
theorem dX8_ruleAdded_58 : decode cX8_ruleAdded 58 = .ok (.iadd, 1) := by decide +kernel
theorem dX8_ruleAdded_59 : decode cX8_ruleAdded 59 = .ok (.iastore, 1) := by decide +kernel
theorem dX8_ruleAdded_60 : decode cX8_ruleAdded 60 = .ok (.aload_n 0, 1) := by decide +kernel
theorem dX8_ruleAdded_61 : decode cX8_ruleAdded 61 = .ok (.iload_n 1, 1) := by decide +kernel
theorem dX8_ruleAdded_62 : decode cX8_ruleAdded 62 = .ok (.invokevirtual 71, 3) := by decide +kernel
theorem dX8_ruleAdded_65 : decode cX8_ruleAdded 65 = .ok (.ireturn, 1) := by decide +kernel
set_option maxRecDepth 20000 in
theorem ggX8_addRule_X8_whyNotRule : GoodIn wsX8_addRule wsX8_whyNotRule := goodIn_r _ [6, 7, 8, 9, 5, 10, 11, 12, 13, 14, 15, 16, 17, 18, 19, 20, 21, 22, 33, 34, 35, 36, 37, 38, 39, 40, 41, 42, 43, 44, 45] (by decide +kernel) (by decide +kernel)
set_option maxRecDepth 20000 in
theorem gX8_addRule_X8_whyNotRule : GoodIn wsX8_addRule (wsV RX8 74 RX8 yX8_whyNotRule wsX8_whyNotRule) := goodIn_app (goodIn_of _ (by decide +kernel)) ggX8_addRule_X8_whyNotRule
set_option maxRecDepth 20000 in
theorem ggX8_addRule_X8_save : GoodIn wsX8_addRule wsX8_save := goodIn_r _ [26, 27, 28, 11, 33, 34, 35, 36, 37, 38, 39, 40, 41, 42, 43, 44, 45] (by decide +kernel) (by decide +kernel)
set_option maxRecDepth 20000 in
theorem gX8_addRule_X8_save : GoodIn wsX8_addRule (wsV RX8 51 RX8 yX8_save wsX8_save) := goodIn_app (goodIn_of _ (by decide +kernel)) ggX8_addRule_X8_save
set_option maxRecDepth 20000 in
theorem ggX8_addRule_X8_ruleAdded : GoodIn wsX8_addRule wsX8_ruleAdded := goodIn_r _ [32, 11, 15, 16, 17, 5, 18, 19, 20, 21, 22, 33, 34, 35, 36, 37, 38, 39, 40, 41, 42, 43, 44, 45] (by decide +kernel) (by decide +kernel)
set_option maxRecDepth 20000 in
theorem gX8_addRule_X8_ruleAdded : GoodIn wsX8_addRule (wsV RX8 78 RX8 yX8_ruleAdded wsX8_ruleAdded) := goodIn_app (goodIn_of _ (by decide +kernel)) ggX8_addRule_X8_ruleAdded
theorem dX8_addRule_0 : decode cX8_addRule 0 = .ok (.aload_n 0, 1) := by decide +kernel
theorem dX8_addRule_1 : decode cX8_addRule 1 = .ok (.aload_n 0, 1) := by decide +kernel
theorem dX8_addRule_2 : decode cX8_addRule 2 = .ok (.iload_n 1, 1) := by decide +kernel
theorem dX8_addRule_3 : decode cX8_addRule 3 = .ok (.iload_n 2, 1) := by decide +kernel
theorem dX8_addRule_4 : decode cX8_addRule 4 = .ok (.iload_n 3, 1) := by decide +kernel
theorem dX8_addRule_5 : decode cX8_addRule 5 = .ok (.invokevirtual 74, 3) := by decide +kernel
theorem dX8_addRule_8 : decode cX8_addRule 8 = .ok (.putfield 28, 3) := by decide +kernel
theorem dX8_addRule_11 : decode cX8_addRule 11 = .ok (.aload_n 0, 1) := by decide +kernel
theorem dX8_addRule_12 : decode cX8_addRule 12 = .ok (.getfield 28, 3) := by decide +kernel
theorem dX8_addRule_15 : decode cX8_addRule 15 = .ok (.ifCond .le 5, 3) := by decide +kernel
theorem dX8_addRule_18 : decode cX8_addRule 18 = .ok (.iconst 0, 1) := by decide +kernel
theorem dX8_addRule_19 : decode cX8_addRule 19 = .ok (.ireturn, 1) := by decide +kernel
theorem dX8_addRule_20 : decode cX8_addRule 20 = .ok (.aload_n 0, 1) := by decide +kernel
theorem dX8_addRule_21 : decode cX8_addRule 21 = .ok (.invokevirtual 51, 3) := by decide +kernel
theorem dX8_addRule_24 : decode cX8_addRule 24 = .ok (.aload_n 0, 1) := by decide +kernel
theorem dX8_addRule_25 : decode cX8_addRule 25 = .ok (.iload_n 1, 1) := by decide +kernel
theorem dX8_addRule_26 : decode cX8_addRule 26 = .ok (.iload_n 2, 1) := by decide +kernel
theorem dX8_addRule_27 : decode cX8_addRule 27 = .ok (.iload_n 3, 1) := by decide +kernel
theorem dX8_addRule_28 : decode cX8_addRule 28 = .ok (.invokevirtual 78, 3) := by decide +kernel
theorem dX8_addRule_31 : decode cX8_addRule 31 = .ok (.ireturn, 1) := by decide +kernel
set_option maxRecDepth 20000 in
theorem ggX8_dropRule_X8_isPhase : GoodIn wsX8_dropRule wsX8_isPhase := goodIn_r _ [7, 2, 22, 23, 24, 25, 26, 27, 28, 29, 30, 31, 32, 33, 34] (by decide +kernel) (by decide +kernel)
set_option maxRecDepth 20000 in
theorem gX8_dropRule_X8_isPhase : GoodIn wsX8_dropRule (wsV RX8 68 RX8 yX8_isPhase wsX8_isPhase) := goodIn_app (goodIn_of _ (by decide +kernel)) ggX8_dropRule_X8_isPhase
set_option maxRecDepth 20000 in
theorem ggX8_dropRule_X8_rules : GoodIn wsX8_dropRule wsX8_rules := goodIn_r _ [11, 12, 13, 14, 6, 15, 2, 22, 23, 24, 25, 26, 27, 28, 29, 30, 31, 32, 33, 34] (by decide +kernel) (by decide +kernel)
set_option maxRecDepth 20000 in
theorem gX8_dropRule_X8_rules : GoodIn wsX8_dropRule (wsV RX8 71 RX8 yX8_rules wsX8_rules) := goodIn_app (goodIn_of _ (by decide +kernel)) ggX8_dropRule_X8_rules
set_option maxRecDepth 20000 in
theorem ggX8_dropRule_X8_save : GoodIn wsX8_dropRule wsX8_save := goodIn_r _ [19, 20, 21, 2, 22, 23, 24, 25, 26, 27, 28, 29, 30, 31, 32, 33, 34] (by decide +kernel) (by decide +kernel)
set_option maxRecDepth 20000 in
theorem gX8_dropRule_X8_save : GoodIn wsX8_dropRule (wsV RX8 51 RX8 yX8_save wsX8_save) := goodIn_app (goodIn_of _ (by decide +kernel)) ggX8_dropRule_X8_save
theorem dX8_dropRule_0 : decode cX8_dropRule 0 = .ok (.aload_n 0, 1) := by decide +kernel
theorem dX8_dropRule_1 : decode cX8_dropRule 1 = .ok (.aload_n 0, 1) := by decide +kernel
theorem dX8_dropRule_2 : decode cX8_dropRule 2 = .ok (.iload_n 1, 1) := by decide +kernel
theorem dX8_dropRule_3 : decode cX8_dropRule 3 = .ok (.invokevirtual 68, 3) := by decide +kernel
theorem dX8_dropRule_6 : decode cX8_dropRule 6 = .ok (.ifCond .ne 7, 3) := by decide +kernel
theorem dX8_dropRule_9 : decode cX8_dropRule 9 = .ok (.iconst 1, 1) := by decide +kernel
theorem dX8_dropRule_10 : decode cX8_dropRule 10 = .ok (.goto 16, 3) := by decide +kernel
theorem dX8_dropRule_13 : decode cX8_dropRule 13 = .ok (.aload_n 0, 1) := by decide +kernel
theorem dX8_dropRule_14 : decode cX8_dropRule 14 = .ok (.iload_n 1, 1) := by decide +kernel
theorem dX8_dropRule_15 : decode cX8_dropRule 15 = .ok (.invokevirtual 71, 3) := by decide +kernel
theorem dX8_dropRule_18 : decode cX8_dropRule 18 = .ok (.ifCond .ne 7, 3) := by decide +kernel
theorem dX8_dropRule_21 : decode cX8_dropRule 21 = .ok (.iconst 2, 1) := by decide +kernel
theorem dX8_dropRule_22 : decode cX8_dropRule 22 = .ok (.goto 4, 3) := by decide +kernel
theorem dX8_dropRule_25 : decode cX8_dropRule 25 = .ok (.iconst 0, 1) := by decide +kernel
theorem dX8_dropRule_26 : decode cX8_dropRule 26 = .ok (.putfield 28, 3) := by decide +kernel
theorem dX8_dropRule_29 : decode cX8_dropRule 29 = .ok (.aload_n 0, 1) := by decide +kernel
theorem dX8_dropRule_30 : decode cX8_dropRule 30 = .ok (.getfield 28, 3) := by decide +kernel
theorem dX8_dropRule_33 : decode cX8_dropRule 33 = .ok (.ifCond .le 5, 3) := by decide +kernel
theorem dX8_dropRule_36 : decode cX8_dropRule 36 = .ok (.iconst 0, 1) := by decide +kernel
theorem dX8_dropRule_37 : decode cX8_dropRule 37 = .ok (.ireturn, 1) := by decide +kernel
theorem dX8_dropRule_38 : decode cX8_dropRule 38 = .ok (.aload_n 0, 1) := by decide +kernel
theorem dX8_dropRule_39 : decode cX8_dropRule 39 = .ok (.invokevirtual 51, 3) := by decide +kernel
theorem dX8_dropRule_42 : decode cX8_dropRule 42 = .ok (.bipush 31, 2) := by decide +kernel
theorem dX8_dropRule_44 : decode cX8_dropRule 44 = .ok (.bipush 14, 2) := by decide +kernel
theorem dX8_dropRule_46 : decode cX8_dropRule 46 = .ok (.iload_n 1, 1) := by decide +kernel
theorem dX8_dropRule_47 : decode cX8_dropRule 47 = .ok (.imul, 1) := by decide +kernel
theorem dX8_dropRule_48 : decode cX8_dropRule 48 = .ok (.iadd, 1) := by decide +kernel
theorem dX8_dropRule_49 : decode cX8_dropRule 49 = .ok (.istore_n 2, 1) := by decide +kernel
theorem dX8_dropRule_50 : decode cX8_dropRule 50 = .ok (.aload_n 0, 1) := by decide +kernel
theorem dX8_dropRule_51 : decode cX8_dropRule 51 = .ok (.getfield 7, 3) := by decide +kernel
theorem dX8_dropRule_54 : decode cX8_dropRule 54 = .ok (.iload_n 2, 1) := by decide +kernel
theorem dX8_dropRule_55 : decode cX8_dropRule 55 = .ok (.iconst 3, 1) := by decide +kernel
theorem dX8_dropRule_56 : decode cX8_dropRule 56 = .ok (.iadd, 1) := by decide +kernel
theorem dX8_dropRule_57 : decode cX8_dropRule 57 = .ok (.dup2, 1) := by decide +kernel
theorem dX8_dropRule_58 : decode cX8_dropRule 58 = .ok (.iaload, 1) := by decide +kernel
theorem dX8_dropRule_59 : decode cX8_dropRule 59 = .ok (.iconst 1, 1) := by decide +kernel
theorem dX8_dropRule_60 : decode cX8_dropRule 60 = .ok (.isub, 1) := by decide +kernel
theorem dX8_dropRule_61 : decode cX8_dropRule 61 = .ok (.iastore, 1) := by decide +kernel
theorem dX8_dropRule_62 : decode cX8_dropRule 62 = .ok (.iload_n 2, 1) := by decide +kernel
theorem dX8_dropRule_63 : decode cX8_dropRule 63 = .ok (.iconst 4, 1) := by decide +kernel
theorem dX8_dropRule_64 : decode cX8_dropRule 64 = .ok (.iadd, 1) := by decide +kernel
theorem dX8_dropRule_65 : decode cX8_dropRule 65 = .ok (.iconst 2, 1) := by decide +kernel
theorem dX8_dropRule_66 : decode cX8_dropRule 66 = .ok (.aload_n 0, 1) := by decide +kernel
theorem dX8_dropRule_67 : decode cX8_dropRule 67 = .ok (.iload_n 1, 1) := by decide +kernel
theorem dX8_dropRule_68 : decode cX8_dropRule 68 = .ok (.invokevirtual 71, 3) := by decide +kernel
theorem dX8_dropRule_71 : decode cX8_dropRule 71 = .ok (.imul, 1) := by decide +kernel
theorem dX8_dropRule_72 : decode cX8_dropRule 72 = .ok (.iadd, 1) := by decide +kernel
theorem dX8_dropRule_73 : decode cX8_dropRule 73 = .ok (.istore_n 3, 1) := by decide +kernel
theorem dX8_dropRule_74 : decode cX8_dropRule 74 = .ok (.aload_n 0, 1) := by decide +kernel
theorem dX8_dropRule_75 : decode cX8_dropRule 75 = .ok (.getfield 7, 3) := by decide +kernel
theorem dX8_dropRule_78 : decode cX8_dropRule 78 = .ok (.iload_n 3, 1) := by decide +kernel
theorem dX8_dropRule_79 : decode cX8_dropRule 79 = .ok (.iaload, 1) := by decide +kernel
theorem dX8_dropRule_80 : decode cX8_dropRule 80 = .ok (.istore 4, 2) := by decide +kernel
theorem dX8_dropRule_82 : decode cX8_dropRule 82 = .ok (.aload_n 0, 1) := by decide +kernel
theorem dX8_dropRule_83 : decode cX8_dropRule 83 = .ok (.getfield 7, 3) := by decide +kernel
theorem dX8_dropRule_86 : decode cX8_dropRule 86 = .ok (.iload_n 3, 1) := by decide +kernel
theorem dX8_dropRule_87 : decode cX8_dropRule 87 = .ok (.iconst 0, 1) := by decide +kernel
theorem dX8_dropRule_88 : decode cX8_dropRule 88 = .ok (.iastore, 1) := by decide +kernel
theorem dX8_dropRule_89 : decode cX8_dropRule 89 = .ok (.aload_n 0, 1) := by decide +kernel
theorem dX8_dropRule_90 : decode cX8_dropRule 90 = .ok (.getfield 7, 3) := by decide +kernel
theorem dX8_dropRule_93 : decode cX8_dropRule 93 = .ok (.iload_n 3, 1) := by decide +kernel
theorem dX8_dropRule_94 : decode cX8_dropRule 94 = .ok (.iconst 1, 1) := by decide +kernel
theorem dX8_dropRule_95 : decode cX8_dropRule 95 = .ok (.iadd, 1) := by decide +kernel
theorem dX8_dropRule_96 : decode cX8_dropRule 96 = .ok (.iconst 0, 1) := by decide +kernel
theorem dX8_dropRule_97 : decode cX8_dropRule 97 = .ok (.iastore, 1) := by decide +kernel
theorem dX8_dropRule_98 : decode cX8_dropRule 98 = .ok (.iload 4, 2) := by decide +kernel
theorem dX8_dropRule_100 : decode cX8_dropRule 100 = .ok (.ireturn, 1) := by decide +kernel
set_option maxRecDepth 20000 in
theorem ggX8_change_X8_isPhase : GoodIn wsX8_change wsX8_isPhase := goodIn_r _ [7, 2, 25, 26, 27, 28, 29, 30, 31, 32, 33, 34, 35, 36, 37] (by decide +kernel) (by decide +kernel)
set_option maxRecDepth 20000 in
theorem gX8_change_X8_isPhase : GoodIn wsX8_change (wsV RX8 68 RX8 yX8_isPhase wsX8_isPhase) := goodIn_app (goodIn_of _ (by decide +kernel)) ggX8_change_X8_isPhase
set_option maxRecDepth 20000 in
theorem ggX8_change_X8_in : GoodIn wsX8_change wsX8_in := goodIn_r _ [10] (by decide +kernel) (by decide +kernel)
set_option maxRecDepth 20000 in
theorem gX8_change_X8_in : GoodIn wsX8_change (va_wsS RX8 32 yX8_in wsX8_in) := goodIn_app (goodIn_of _ (by decide +kernel)) ggX8_change_X8_in
set_option maxRecDepth 20000 in
theorem ggX8_change_X8_save : GoodIn wsX8_change wsX8_save := goodIn_r _ [14, 15, 16, 2, 25, 26, 27, 28, 29, 30, 31, 32, 33, 34, 35, 36, 37] (by decide +kernel) (by decide +kernel)
set_option maxRecDepth 20000 in
theorem gX8_change_X8_save : GoodIn wsX8_change (wsV RX8 51 RX8 yX8_save wsX8_save) := goodIn_app (goodIn_of _ (by decide +kernel)) ggX8_change_X8_save
set_option maxRecDepth 20000 in
theorem ggX8_change_X8_greens : GoodIn wsX8_change wsX8_greens := goodIn_r _ [20, 21, 22, 23, 6, 24, 2, 25, 26, 27, 28, 29, 30, 31, 32, 33, 34, 35, 36, 37] (by decide +kernel) (by decide +kernel)
set_option maxRecDepth 20000 in
theorem gX8_change_X8_greens : GoodIn wsX8_change (wsV RX8 40 RX8 yX8_greens wsX8_greens) := goodIn_app (goodIn_of _ (by decide +kernel)) ggX8_change_X8_greens
theorem dX8_change_0 : decode cX8_change 0 = .ok (.aload_n 0, 1) := by decide +kernel
theorem dX8_change_1 : decode cX8_change 1 = .ok (.aload_n 0, 1) := by decide +kernel
theorem dX8_change_2 : decode cX8_change 2 = .ok (.iload_n 1, 1) := by decide +kernel
theorem dX8_change_3 : decode cX8_change 3 = .ok (.invokevirtual 68, 3) := by decide +kernel
theorem dX8_change_6 : decode cX8_change 6 = .ok (.ifCond .ne 7, 3) := by decide +kernel
theorem dX8_change_9 : decode cX8_change 9 = .ok (.iconst 1, 1) := by decide +kernel
theorem dX8_change_10 : decode cX8_change 10 = .ok (.goto 28, 3) := by decide +kernel
theorem dX8_change_13 : decode cX8_change 13 = .ok (.iload_n 2, 1) := by decide +kernel
theorem dX8_change_14 : decode cX8_change 14 = .ok (.iconst 0, 1) := by decide +kernel
theorem dX8_change_15 : decode cX8_change 15 = .ok (.bipush 63, 2) := by decide +kernel
theorem dX8_change_17 : decode cX8_change 17 = .ok (.invokestatic 32, 3) := by decide +kernel
theorem dX8_change_20 : decode cX8_change 20 = .ok (.ifCond .eq 17, 3) := by decide +kernel
theorem dX8_change_23 : decode cX8_change 23 = .ok (.iload_n 3, 1) := by decide +kernel
theorem dX8_change_24 : decode cX8_change 24 = .ok (.iconst 1, 1) := by decide +kernel
theorem dX8_change_25 : decode cX8_change 25 = .ok (.bipush 9, 2) := by decide +kernel
theorem dX8_change_27 : decode cX8_change 27 = .ok (.invokestatic 32, 3) := by decide +kernel
theorem dX8_change_30 : decode cX8_change 30 = .ok (.ifCond .eq 7, 3) := by decide +kernel
theorem dX8_change_33 : decode cX8_change 33 = .ok (.iconst 0, 1) := by decide +kernel
theorem dX8_change_34 : decode cX8_change 34 = .ok (.goto 4, 3) := by decide +kernel
theorem dX8_change_37 : decode cX8_change 37 = .ok (.iconst 2, 1) := by decide +kernel
theorem dX8_change_38 : decode cX8_change 38 = .ok (.putfield 28, 3) := by decide +kernel
theorem dX8_change_41 : decode cX8_change 41 = .ok (.aload_n 0, 1) := by decide +kernel
theorem dX8_change_42 : decode cX8_change 42 = .ok (.getfield 28, 3) := by decide +kernel
theorem dX8_change_45 : decode cX8_change 45 = .ok (.ifCond .le 5, 3) := by decide +kernel
theorem dX8_change_48 : decode cX8_change 48 = .ok (.iconst 0, 1) := by decide +kernel
theorem dX8_change_49 : decode cX8_change 49 = .ok (.ireturn, 1) := by decide +kernel
theorem dX8_change_50 : decode cX8_change 50 = .ok (.aload_n 0, 1) := by decide +kernel
theorem dX8_change_51 : decode cX8_change 51 = .ok (.invokevirtual 51, 3) := by decide +kernel
theorem dX8_change_54 : decode cX8_change 54 = .ok (.aload_n 0, 1) := by decide +kernel
theorem dX8_change_55 : decode cX8_change 55 = .ok (.iload_n 1, 1) := by decide +kernel
theorem dX8_change_56 : decode cX8_change 56 = .ok (.invokevirtual 40, 3) := by decide +kernel
theorem dX8_change_59 : decode cX8_change 59 = .ok (.istore 4, 2) := by decide +kernel
theorem dX8_change_61 : decode cX8_change 61 = .ok (.aload_n 0, 1) := by decide +kernel
theorem dX8_change_62 : decode cX8_change 62 = .ok (.getfield 7, 3) := by decide +kernel
theorem dX8_change_65 : decode cX8_change 65 = .ok (.bipush 31, 2) := by decide +kernel
theorem dX8_change_67 : decode cX8_change 67 = .ok (.bipush 14, 2) := by decide +kernel
theorem dX8_change_69 : decode cX8_change 69 = .ok (.iload_n 1, 1) := by decide +kernel
theorem dX8_change_70 : decode cX8_change 70 = .ok (.imul, 1) := by decide +kernel
theorem dX8_change_71 : decode cX8_change 71 = .ok (.iadd, 1) := by decide +kernel
theorem dX8_change_72 : decode cX8_change 72 = .ok (.iconst 0, 1) := by decide +kernel
theorem dX8_change_73 : decode cX8_change 73 = .ok (.iadd, 1) := by decide +kernel
theorem dX8_change_74 : decode cX8_change 74 = .ok (.iload_n 2, 1) := by decide +kernel
theorem dX8_change_75 : decode cX8_change 75 = .ok (.iastore, 1) := by decide +kernel
theorem dX8_change_76 : decode cX8_change 76 = .ok (.aload_n 0, 1) := by decide +kernel
theorem dX8_change_77 : decode cX8_change 77 = .ok (.getfield 7, 3) := by decide +kernel
theorem dX8_change_80 : decode cX8_change 80 = .ok (.bipush 31, 2) := by decide +kernel
theorem dX8_change_82 : decode cX8_change 82 = .ok (.bipush 14, 2) := by decide +kernel
theorem dX8_change_84 : decode cX8_change 84 = .ok (.iload_n 1, 1) := by decide +kernel
theorem dX8_change_85 : decode cX8_change 85 = .ok (.imul, 1) := by decide +kernel
theorem dX8_change_86 : decode cX8_change 86 = .ok (.iadd, 1) := by decide +kernel
theorem dX8_change_87 : decode cX8_change 87 = .ok (.iconst 1, 1) := by decide +kernel
theorem dX8_change_88 : decode cX8_change 88 = .ok (.iadd, 1) := by decide +kernel
theorem dX8_change_89 : decode cX8_change 89 = .ok (.iload_n 3, 1) := by decide +kernel
theorem dX8_change_90 : decode cX8_change 90 = .ok (.iastore, 1) := by decide +kernel
theorem dX8_change_91 : decode cX8_change 91 = .ok (.iload 4, 2) := by decide +kernel
theorem dX8_change_93 : decode cX8_change 93 = .ok (.ireturn, 1) := by decide +kernel
set_option maxRecDepth 20000 in
theorem ggX8_set_X8_in : GoodIn wsX8_set wsX8_in := goodIn_r _ [6] (by decide +kernel) (by decide +kernel)
set_option maxRecDepth 20000 in
theorem gX8_set_X8_in : GoodIn wsX8_set (va_wsS RX8 32 yX8_in wsX8_in) := goodIn_app (goodIn_of _ (by decide +kernel)) ggX8_set_X8_in
set_option maxRecDepth 20000 in
theorem ggX8_set_X8_save : GoodIn wsX8_set wsX8_save := goodIn_r _ [10, 11, 12, 2, 13, 14, 15, 16, 17, 18, 19, 20, 21, 22, 23, 24, 25] (by decide +kernel) (by decide +kernel)
set_option maxRecDepth 20000 in
theorem gX8_set_X8_save : GoodIn wsX8_set (wsV RX8 51 RX8 yX8_save wsX8_save) := goodIn_app (goodIn_of _ (by decide +kernel)) ggX8_set_X8_save
theorem dX8_set_0 : decode cX8_set 0 = .ok (.aload_n 0, 1) := by decide +kernel
theorem dX8_set_1 : decode cX8_set 1 = .ok (.iload_n 1, 1) := by decide +kernel
theorem dX8_set_2 : decode cX8_set 2 = .ok (.iconst 0, 1) := by decide +kernel
theorem dX8_set_3 : decode cX8_set 3 = .ok (.iconst 5, 1) := by decide +kernel
theorem dX8_set_4 : decode cX8_set 4 = .ok (.invokestatic 32, 3) := by decide +kernel
theorem dX8_set_7 : decode cX8_set 7 = .ok (.ifCond .eq 7, 3) := by decide +kernel
theorem dX8_set_10 : decode cX8_set 10 = .ok (.iconst 0, 1) := by decide +kernel
theorem dX8_set_11 : decode cX8_set 11 = .ok (.goto 4, 3) := by decide +kernel
theorem dX8_set_14 : decode cX8_set 14 = .ok (.iconst 1, 1) := by decide +kernel
theorem dX8_set_15 : decode cX8_set 15 = .ok (.putfield 28, 3) := by decide +kernel
theorem dX8_set_18 : decode cX8_set 18 = .ok (.aload_n 0, 1) := by decide +kernel
theorem dX8_set_19 : decode cX8_set 19 = .ok (.getfield 28, 3) := by decide +kernel
theorem dX8_set_22 : decode cX8_set 22 = .ok (.ifCond .le 5, 3) := by decide +kernel
theorem dX8_set_25 : decode cX8_set 25 = .ok (.iconst 0, 1) := by decide +kernel
theorem dX8_set_26 : decode cX8_set 26 = .ok (.ireturn, 1) := by decide +kernel
theorem dX8_set_27 : decode cX8_set 27 = .ok (.aload_n 0, 1) := by decide +kernel
theorem dX8_set_28 : decode cX8_set 28 = .ok (.invokevirtual 51, 3) := by decide +kernel
theorem dX8_set_31 : decode cX8_set 31 = .ok (.aload_n 0, 1) := by decide +kernel
theorem dX8_set_32 : decode cX8_set 32 = .ok (.getfield 7, 3) := by decide +kernel
theorem dX8_set_35 : decode cX8_set 35 = .ok (.iconst 1, 1) := by decide +kernel
theorem dX8_set_36 : decode cX8_set 36 = .ok (.iaload, 1) := by decide +kernel
theorem dX8_set_37 : decode cX8_set 37 = .ok (.istore_n 2, 1) := by decide +kernel
theorem dX8_set_38 : decode cX8_set 38 = .ok (.aload_n 0, 1) := by decide +kernel
theorem dX8_set_39 : decode cX8_set 39 = .ok (.getfield 7, 3) := by decide +kernel
theorem dX8_set_42 : decode cX8_set 42 = .ok (.iconst 1, 1) := by decide +kernel
theorem dX8_set_43 : decode cX8_set 43 = .ok (.iload_n 1, 1) := by decide +kernel
theorem dX8_set_44 : decode cX8_set 44 = .ok (.iastore, 1) := by decide +kernel
theorem dX8_set_45 : decode cX8_set 45 = .ok (.iload_n 2, 1) := by decide +kernel
theorem dX8_set_46 : decode cX8_set 46 = .ok (.ireturn, 1) := by decide +kernel
theorem dX8_waiting_0 : decode cX8_waiting 0 = .ok (.iconst 0, 1) := by decide +kernel
theorem dX8_waiting_1 : decode cX8_waiting 1 = .ok (.istore_n 1, 1) := by decide +kernel
theorem dX8_waiting_2 : decode cX8_waiting 2 = .ok (.iconst 0, 1) := by decide +kernel
theorem dX8_waiting_3 : decode cX8_waiting 3 = .ok (.istore_n 2, 1) := by decide +kernel
theorem dX8_waiting_4 : decode cX8_waiting 4 = .ok (.iload_n 2, 1) := by decide +kernel
theorem dX8_waiting_5 : decode cX8_waiting 5 = .ok (.bipush 6, 2) := by decide +kernel
theorem dX8_waiting_7 : decode cX8_waiting 7 = .ok (.if_icmp .ge 32, 3) := by decide +kernel
theorem dX8_waiting_10 : decode cX8_waiting 10 = .ok (.iload_n 1, 1) := by decide +kernel
theorem dX8_waiting_11 : decode cX8_waiting 11 = .ok (.aload_n 0, 1) := by decide +kernel
theorem dX8_waiting_12 : decode cX8_waiting 12 = .ok (.getfield 7, 3) := by decide +kernel
theorem dX8_waiting_15 : decode cX8_waiting 15 = .ok (.bipush 13, 2) := by decide +kernel
theorem dX8_waiting_17 : decode cX8_waiting 17 = .ok (.iload_n 2, 1) := by decide +kernel
theorem dX8_waiting_18 : decode cX8_waiting 18 = .ok (.iadd, 1) := by decide +kernel
theorem dX8_waiting_19 : decode cX8_waiting 19 = .ok (.iaload, 1) := by decide +kernel
theorem dX8_waiting_20 : decode cX8_waiting 20 = .ok (.iconst (-1), 1) := by decide +kernel
theorem dX8_waiting_21 : decode cX8_waiting 21 = .ok (.if_icmp .ne 7, 3) := by decide +kernel
theorem dX8_waiting_24 : decode cX8_waiting 24 = .ok (.iconst 0, 1) := by decide +kernel
theorem dX8_waiting_25 : decode cX8_waiting 25 = .ok (.goto 6, 3) := by decide +kernel
theorem dX8_waiting_28 : decode cX8_waiting 28 = .ok (.iconst 1, 1) := by decide +kernel
theorem dX8_waiting_29 : decode cX8_waiting 29 = .ok (.iload_n 2, 1) := by decide +kernel
theorem dX8_waiting_30 : decode cX8_waiting 30 = .ok (.ishl, 1) := by decide +kernel
theorem dX8_waiting_31 : decode cX8_waiting 31 = .ok (.ior, 1) := by decide +kernel
theorem dX8_waiting_32 : decode cX8_waiting 32 = .ok (.istore_n 1, 1) := by decide +kernel
theorem dX8_waiting_33 : decode cX8_waiting 33 = .ok (.iinc 2 1, 3) := by decide +kernel
theorem dX8_waiting_36 : decode cX8_waiting 36 = .ok (.goto (-32), 3) := by decide +kernel
theorem dX8_waiting_39 : decode cX8_waiting 39 = .ok (.iload_n 1, 1) := by decide +kernel
theorem dX8_waiting_40 : decode cX8_waiting 40 = .ok (.ireturn, 1) := by decide +kernel
theorem dX8_bits_0 : decode cX8_bits 0 = .ok (.iconst 0, 1) := by decide +kernel
theorem dX8_bits_1 : decode cX8_bits 1 = .ok (.istore_n 1, 1) := by decide +kernel
theorem dX8_bits_2 : decode cX8_bits 2 = .ok (.iload_n 0, 1) := by decide +kernel
theorem dX8_bits_3 : decode cX8_bits 3 = .ok (.istore_n 2, 1) := by decide +kernel
theorem dX8_bits_4 : decode cX8_bits 4 = .ok (.iload_n 2, 1) := by decide +kernel
theorem dX8_bits_5 : decode cX8_bits 5 = .ok (.ifCond .eq 15, 3) := by decide +kernel
theorem dX8_bits_8 : decode cX8_bits 8 = .ok (.iinc 1 1, 3) := by decide +kernel
theorem dX8_bits_11 : decode cX8_bits 11 = .ok (.iload_n 2, 1) := by decide +kernel
theorem dX8_bits_12 : decode cX8_bits 12 = .ok (.iload_n 2, 1) := by decide +kernel
theorem dX8_bits_13 : decode cX8_bits 13 = .ok (.iconst 1, 1) := by decide +kernel
theorem dX8_bits_14 : decode cX8_bits 14 = .ok (.isub, 1) := by decide +kernel
theorem dX8_bits_15 : decode cX8_bits 15 = .ok (.iand, 1) := by decide +kernel
theorem dX8_bits_16 : decode cX8_bits 16 = .ok (.istore_n 2, 1) := by decide +kernel
theorem dX8_bits_17 : decode cX8_bits 17 = .ok (.goto (-13), 3) := by decide +kernel
theorem dX8_bits_20 : decode cX8_bits 20 = .ok (.iload_n 1, 1) := by decide +kernel
theorem dX8_bits_21 : decode cX8_bits 21 = .ok (.ireturn, 1) := by decide +kernel
set_option maxRecDepth 20000 in
theorem ggX8_greensNow_X8_isClearing : GoodIn wsX8_greensNow wsX8_isClearing := goodIn_r _ [6, 1, 15, 16, 17, 18, 19, 20, 21, 22, 23, 24, 25, 26, 27] (by decide +kernel) (by decide +kernel)
set_option maxRecDepth 20000 in
theorem gX8_greensNow_X8_isClearing : GoodIn wsX8_greensNow (wsV RX8 81 RX8 yX8_isClearing wsX8_isClearing) := goodIn_app (goodIn_of _ (by decide +kernel)) ggX8_greensNow_X8_isClearing
set_option maxRecDepth 20000 in
theorem ggX8_greensNow_X8_greens : GoodIn wsX8_greensNow wsX8_greens := goodIn_r _ [10, 11, 12, 13, 5, 14, 1, 15, 16, 17, 18, 19, 20, 21, 22, 23, 24, 25, 26, 27] (by decide +kernel) (by decide +kernel)
set_option maxRecDepth 20000 in
theorem gX8_greensNow_X8_greens : GoodIn wsX8_greensNow (wsV RX8 40 RX8 yX8_greens wsX8_greens) := goodIn_app (goodIn_of _ (by decide +kernel)) ggX8_greensNow_X8_greens
theorem dX8_greensNow_0 : decode cX8_greensNow 0 = .ok (.aload_n 0, 1) := by decide +kernel
theorem dX8_greensNow_1 : decode cX8_greensNow 1 = .ok (.getfield 7, 3) := by decide +kernel
theorem dX8_greensNow_4 : decode cX8_greensNow 4 = .ok (.iconst 2, 1) := by decide +kernel
theorem dX8_greensNow_5 : decode cX8_greensNow 5 = .ok (.iaload, 1) := by decide +kernel
theorem dX8_greensNow_6 : decode cX8_greensNow 6 = .ok (.iconst (-1), 1) := by decide +kernel
theorem dX8_greensNow_7 : decode cX8_greensNow 7 = .ok (.if_icmp .ne 5, 3) := by decide +kernel
theorem dX8_greensNow_10 : decode cX8_greensNow 10 = .ok (.iconst 0, 1) := by decide +kernel
theorem dX8_greensNow_11 : decode cX8_greensNow 11 = .ok (.ireturn, 1) := by decide +kernel
theorem dX8_greensNow_12 : decode cX8_greensNow 12 = .ok (.aload_n 0, 1) := by decide +kernel
theorem dX8_greensNow_13 : decode cX8_greensNow 13 = .ok (.invokevirtual 81, 3) := by decide +kernel
theorem dX8_greensNow_16 : decode cX8_greensNow 16 = .ok (.ifCond .eq 27, 3) := by decide +kernel
theorem dX8_greensNow_19 : decode cX8_greensNow 19 = .ok (.aload_n 0, 1) := by decide +kernel
theorem dX8_greensNow_20 : decode cX8_greensNow 20 = .ok (.aload_n 0, 1) := by decide +kernel
theorem dX8_greensNow_21 : decode cX8_greensNow 21 = .ok (.getfield 7, 3) := by decide +kernel
theorem dX8_greensNow_24 : decode cX8_greensNow 24 = .ok (.iconst 2, 1) := by decide +kernel
theorem dX8_greensNow_25 : decode cX8_greensNow 25 = .ok (.iaload, 1) := by decide +kernel
theorem dX8_greensNow_26 : decode cX8_greensNow 26 = .ok (.invokevirtual 40, 3) := by decide +kernel
theorem dX8_greensNow_29 : decode cX8_greensNow 29 = .ok (.aload_n 0, 1) := by decide +kernel
theorem dX8_greensNow_30 : decode cX8_greensNow 30 = .ok (.aload_n 0, 1) := by decide +kernel
theorem dX8_greensNow_31 : decode cX8_greensNow 31 = .ok (.getfield 7, 3) := by decide +kernel
theorem dX8_greensNow_34 : decode cX8_greensNow 34 = .ok (.iconst 5, 1) := by decide +kernel
theorem dX8_greensNow_35 : decode cX8_greensNow 35 = .ok (.iaload, 1) := by decide +kernel
theorem dX8_greensNow_36 : decode cX8_greensNow 36 = .ok (.invokevirtual 40, 3) := by decide +kernel
theorem dX8_greensNow_39 : decode cX8_greensNow 39 = .ok (.iand, 1) := by decide +kernel
theorem dX8_greensNow_40 : decode cX8_greensNow 40 = .ok (.goto 13, 3) := by decide +kernel
theorem dX8_greensNow_43 : decode cX8_greensNow 43 = .ok (.aload_n 0, 1) := by decide +kernel
theorem dX8_greensNow_44 : decode cX8_greensNow 44 = .ok (.aload_n 0, 1) := by decide +kernel
theorem dX8_greensNow_45 : decode cX8_greensNow 45 = .ok (.getfield 7, 3) := by decide +kernel
theorem dX8_greensNow_48 : decode cX8_greensNow 48 = .ok (.iconst 2, 1) := by decide +kernel
theorem dX8_greensNow_49 : decode cX8_greensNow 49 = .ok (.iaload, 1) := by decide +kernel
theorem dX8_greensNow_50 : decode cX8_greensNow 50 = .ok (.invokevirtual 40, 3) := by decide +kernel
theorem dX8_greensNow_53 : decode cX8_greensNow 53 = .ok (.ireturn, 1) := by decide +kernel
set_option maxRecDepth 20000 in
theorem ggX8_come_X8_isDirection : GoodIn wsX8_come wsX8_isDirection := goodIn_r _ [6, 7, 8, 5, 9] (by decide +kernel) (by decide +kernel)
set_option maxRecDepth 20000 in
theorem gX8_come_X8_isDirection : GoodIn wsX8_come (va_wsS RX8 47 yX8_isDirection wsX8_isDirection) := goodIn_app (goodIn_of _ (by decide +kernel)) ggX8_come_X8_isDirection
set_option maxRecDepth 20000 in
theorem ggX8_come_X8_save : GoodIn wsX8_come wsX8_save := goodIn_r _ [13, 14, 15, 2, 16, 17, 18, 19, 20, 21, 22, 23, 24, 25, 26, 27, 28] (by decide +kernel) (by decide +kernel)
set_option maxRecDepth 20000 in
theorem gX8_come_X8_save : GoodIn wsX8_come (wsV RX8 51 RX8 yX8_save wsX8_save) := goodIn_app (goodIn_of _ (by decide +kernel)) ggX8_come_X8_save
theorem dX8_come_0 : decode cX8_come 0 = .ok (.aload_n 0, 1) := by decide +kernel
theorem dX8_come_1 : decode cX8_come 1 = .ok (.iload_n 1, 1) := by decide +kernel
theorem dX8_come_2 : decode cX8_come 2 = .ok (.invokestatic 47, 3) := by decide +kernel
theorem dX8_come_5 : decode cX8_come 5 = .ok (.ifCond .eq 7, 3) := by decide +kernel
theorem dX8_come_8 : decode cX8_come 8 = .ok (.iconst 0, 1) := by decide +kernel
theorem dX8_come_9 : decode cX8_come 9 = .ok (.goto 4, 3) := by decide +kernel
theorem dX8_come_12 : decode cX8_come 12 = .ok (.iconst 1, 1) := by decide +kernel
theorem dX8_come_13 : decode cX8_come 13 = .ok (.putfield 28, 3) := by decide +kernel
theorem dX8_come_16 : decode cX8_come 16 = .ok (.aload_n 0, 1) := by decide +kernel
theorem dX8_come_17 : decode cX8_come 17 = .ok (.getfield 28, 3) := by decide +kernel
theorem dX8_come_20 : decode cX8_come 20 = .ok (.ifCond .le 5, 3) := by decide +kernel
theorem dX8_come_23 : decode cX8_come 23 = .ok (.iconst 0, 1) := by decide +kernel
theorem dX8_come_24 : decode cX8_come 24 = .ok (.ireturn, 1) := by decide +kernel
theorem dX8_come_25 : decode cX8_come 25 = .ok (.aload_n 0, 1) := by decide +kernel
theorem dX8_come_26 : decode cX8_come 26 = .ok (.invokevirtual 51, 3) := by decide +kernel
theorem dX8_come_29 : decode cX8_come 29 = .ok (.aload_n 0, 1) := by decide +kernel
theorem dX8_come_30 : decode cX8_come 30 = .ok (.getfield 7, 3) := by decide +kernel
theorem dX8_come_33 : decode cX8_come 33 = .ok (.bipush 13, 2) := by decide +kernel
theorem dX8_come_35 : decode cX8_come 35 = .ok (.iload_n 1, 1) := by decide +kernel
theorem dX8_come_36 : decode cX8_come 36 = .ok (.iadd, 1) := by decide +kernel
theorem dX8_come_37 : decode cX8_come 37 = .ok (.aload_n 0, 1) := by decide +kernel
theorem dX8_come_38 : decode cX8_come 38 = .ok (.getfield 7, 3) := by decide +kernel
theorem dX8_come_41 : decode cX8_come 41 = .ok (.bipush 13, 2) := by decide +kernel
theorem dX8_come_43 : decode cX8_come 43 = .ok (.iload_n 1, 1) := by decide +kernel
theorem dX8_come_44 : decode cX8_come 44 = .ok (.iadd, 1) := by decide +kernel
theorem dX8_come_45 : decode cX8_come 45 = .ok (.iaload, 1) := by decide +kernel
theorem dX8_come_46 : decode cX8_come 46 = .ok (.iconst (-1), 1) := by decide +kernel
theorem dX8_come_47 : decode cX8_come 47 = .ok (.if_icmp .ne 7, 3) := by decide +kernel
theorem dX8_come_50 : decode cX8_come 50 = .ok (.iconst 0, 1) := by decide +kernel
theorem dX8_come_51 : decode cX8_come 51 = .ok (.goto 12, 3) := by decide +kernel
theorem dX8_come_54 : decode cX8_come 54 = .ok (.aload_n 0, 1) := by decide +kernel
theorem dX8_come_55 : decode cX8_come 55 = .ok (.getfield 7, 3) := by decide +kernel
theorem dX8_come_58 : decode cX8_come 58 = .ok (.bipush 13, 2) := by decide +kernel
theorem dX8_come_60 : decode cX8_come 60 = .ok (.iload_n 1, 1) := by decide +kernel
theorem dX8_come_61 : decode cX8_come 61 = .ok (.iadd, 1) := by decide +kernel
theorem dX8_come_62 : decode cX8_come 62 = .ok (.iaload, 1) := by decide +kernel
theorem dX8_come_63 : decode cX8_come 63 = .ok (.iastore, 1) := by decide +kernel
theorem dX8_come_64 : decode cX8_come 64 = .ok (.aload_n 0, 1) := by decide +kernel
theorem dX8_come_65 : decode cX8_come 65 = .ok (.getfield 7, 3) := by decide +kernel
theorem dX8_come_68 : decode cX8_come 68 = .ok (.bipush 13, 2) := by decide +kernel
theorem dX8_come_70 : decode cX8_come 70 = .ok (.iload_n 1, 1) := by decide +kernel
theorem dX8_come_71 : decode cX8_come 71 = .ok (.iadd, 1) := by decide +kernel
theorem dX8_come_72 : decode cX8_come 72 = .ok (.iaload, 1) := by decide +kernel
theorem dX8_come_73 : decode cX8_come 73 = .ok (.ireturn, 1) := by decide +kernel
set_option maxRecDepth 20000 in
theorem ggX8_serve_X8_greensNow : GoodIn wsX8_serve wsX8_greensNow := goodIn_r _ [6, 1, 7, 8, 9, 5, 10, 11, 12, 13, 14, 15, 16, 17, 18, 19, 20, 21, 22, 23, 24, 25, 26, 27, 28, 29, 30, 31] (by decide +kernel) (by decide +kernel)
set_option maxRecDepth 20000 in
theorem gX8_serve_X8_greensNow : GoodIn wsX8_serve (wsV RX8 85 RX8 yX8_greensNow wsX8_greensNow) := goodIn_app (goodIn_of _ (by decide +kernel)) ggX8_serve_X8_greensNow
theorem dX8_serve_0 : decode cX8_serve 0 = .ok (.aload_n 0, 1) := by decide +kernel
theorem dX8_serve_1 : decode cX8_serve 1 = .ok (.invokevirtual 85, 3) := by decide +kernel
theorem dX8_serve_4 : decode cX8_serve 4 = .ok (.istore_n 1, 1) := by decide +kernel
theorem dX8_serve_5 : decode cX8_serve 5 = .ok (.iconst 0, 1) := by decide +kernel
theorem dX8_serve_6 : decode cX8_serve 6 = .ok (.istore_n 2, 1) := by decide +kernel
theorem dX8_serve_7 : decode cX8_serve 7 = .ok (.iload_n 2, 1) := by decide +kernel
theorem dX8_serve_8 : decode cX8_serve 8 = .ok (.bipush 6, 2) := by decide +kernel
theorem dX8_serve_10 : decode cX8_serve 10 = .ok (.if_icmp .ge 112, 3) := by decide +kernel
theorem dX8_serve_13 : decode cX8_serve 13 = .ok (.aload_n 0, 1) := by decide +kernel
theorem dX8_serve_14 : decode cX8_serve 14 = .ok (.getfield 7, 3) := by decide +kernel
theorem dX8_serve_17 : decode cX8_serve 17 = .ok (.bipush 13, 2) := by decide +kernel
theorem dX8_serve_19 : decode cX8_serve 19 = .ok (.iload_n 2, 1) := by decide +kernel
theorem dX8_serve_20 : decode cX8_serve 20 = .ok (.iadd, 1) := by decide +kernel
theorem dX8_serve_21 : decode cX8_serve 21 = .ok (.iaload, 1) := by decide +kernel
theorem dX8_serve_22 : decode cX8_serve 22 = .ok (.istore_n 3, 1) := by decide +kernel
theorem dX8_serve_23 : decode cX8_serve 23 = .ok (.iload_n 3, 1) := by decide +kernel
theorem dX8_serve_24 : decode cX8_serve 24 = .ok (.iconst (-1), 1) := by decide +kernel
theorem dX8_serve_25 : decode cX8_serve 25 = .ok (.if_icmp .eq 73, 3) := by decide +kernel
theorem dX8_serve_28 : decode cX8_serve 28 = .ok (.iload_n 1, 1) := by decide +kernel
theorem dX8_serve_29 : decode cX8_serve 29 = .ok (.iload_n 2, 1) := by decide +kernel
theorem dX8_serve_30 : decode cX8_serve 30 = .ok (.ishr, 1) := by decide +kernel
theorem dX8_serve_31 : decode cX8_serve 31 = .ok (.iconst 1, 1) := by decide +kernel
theorem dX8_serve_32 : decode cX8_serve 32 = .ok (.iand, 1) := by decide +kernel
theorem dX8_serve_33 : decode cX8_serve 33 = .ok (.iconst 1, 1) := by decide +kernel
theorem dX8_serve_34 : decode cX8_serve 34 = .ok (.if_icmp .ne 64, 3) := by decide +kernel
theorem dX8_serve_37 : decode cX8_serve 37 = .ok (.aload_n 0, 1) := by decide +kernel
theorem dX8_serve_38 : decode cX8_serve 38 = .ok (.getfield 7, 3) := by decide +kernel
theorem dX8_serve_41 : decode cX8_serve 41 = .ok (.bipush 19, 2) := by decide +kernel
theorem dX8_serve_43 : decode cX8_serve 43 = .ok (.iload_n 2, 1) := by decide +kernel
theorem dX8_serve_44 : decode cX8_serve 44 = .ok (.iadd, 1) := by decide +kernel
theorem dX8_serve_45 : decode cX8_serve 45 = .ok (.dup2, 1) := by decide +kernel
theorem dX8_serve_46 : decode cX8_serve 46 = .ok (.iaload, 1) := by decide +kernel
theorem dX8_serve_47 : decode cX8_serve 47 = .ok (.iconst 1, 1) := by decide +kernel
theorem dX8_serve_48 : decode cX8_serve 48 = .ok (.iadd, 1) := by decide +kernel
theorem dX8_serve_49 : decode cX8_serve 49 = .ok (.iastore, 1) := by decide +kernel
theorem dX8_serve_50 : decode cX8_serve 50 = .ok (.aload_n 0, 1) := by decide +kernel
theorem dX8_serve_51 : decode cX8_serve 51 = .ok (.getfield 7, 3) := by decide +kernel
theorem dX8_serve_54 : decode cX8_serve 54 = .ok (.bipush 25, 2) := by decide +kernel
theorem dX8_serve_56 : decode cX8_serve 56 = .ok (.iload_n 2, 1) := by decide +kernel
theorem dX8_serve_57 : decode cX8_serve 57 = .ok (.iadd, 1) := by decide +kernel
theorem dX8_serve_58 : decode cX8_serve 58 = .ok (.iload_n 3, 1) := by decide +kernel
theorem dX8_serve_59 : decode cX8_serve 59 = .ok (.aload_n 0, 1) := by decide +kernel
theorem dX8_serve_60 : decode cX8_serve 60 = .ok (.getfield 7, 3) := by decide +kernel
theorem dX8_serve_63 : decode cX8_serve 63 = .ok (.bipush 25, 2) := by decide +kernel
theorem dX8_serve_65 : decode cX8_serve 65 = .ok (.iload_n 2, 1) := by decide +kernel
theorem dX8_serve_66 : decode cX8_serve 66 = .ok (.iadd, 1) := by decide +kernel
theorem dX8_serve_67 : decode cX8_serve 67 = .ok (.iaload, 1) := by decide +kernel
theorem dX8_serve_68 : decode cX8_serve 68 = .ok (.if_icmp .le 7, 3) := by decide +kernel
theorem dX8_serve_71 : decode cX8_serve 71 = .ok (.iload_n 3, 1) := by decide +kernel
theorem dX8_serve_72 : decode cX8_serve 72 = .ok (.goto 12, 3) := by decide +kernel
theorem dX8_serve_75 : decode cX8_serve 75 = .ok (.aload_n 0, 1) := by decide +kernel
theorem dX8_serve_76 : decode cX8_serve 76 = .ok (.getfield 7, 3) := by decide +kernel
theorem dX8_serve_79 : decode cX8_serve 79 = .ok (.bipush 25, 2) := by decide +kernel
theorem dX8_serve_81 : decode cX8_serve 81 = .ok (.iload_n 2, 1) := by decide +kernel
theorem dX8_serve_82 : decode cX8_serve 82 = .ok (.iadd, 1) := by decide +kernel
theorem dX8_serve_83 : decode cX8_serve 83 = .ok (.iaload, 1) := by decide +kernel
theorem dX8_serve_84 : decode cX8_serve 84 = .ok (.iastore, 1) := by decide +kernel
theorem dX8_serve_85 : decode cX8_serve 85 = .ok (.aload_n 0, 1) := by decide +kernel
theorem dX8_serve_86 : decode cX8_serve 86 = .ok (.getfield 7, 3) := by decide +kernel
theorem dX8_serve_89 : decode cX8_serve 89 = .ok (.bipush 13, 2) := by decide +kernel
theorem dX8_serve_91 : decode cX8_serve 91 = .ok (.iload_n 2, 1) := by decide +kernel
theorem dX8_serve_92 : decode cX8_serve 92 = .ok (.iadd, 1) := by decide +kernel
theorem dX8_serve_93 : decode cX8_serve 93 = .ok (.iconst (-1), 1) := by decide +kernel
theorem dX8_serve_94 : decode cX8_serve 94 = .ok (.iastore, 1) := by decide +kernel
theorem dX8_serve_95 : decode cX8_serve 95 = .ok (.goto 21, 3) := by decide +kernel
theorem dX8_serve_98 : decode cX8_serve 98 = .ok (.iload_n 3, 1) := by decide +kernel
theorem dX8_serve_99 : decode cX8_serve 99 = .ok (.iconst (-1), 1) := by decide +kernel
theorem dX8_serve_100 : decode cX8_serve 100 = .ok (.if_icmp .eq 16, 3) := by decide +kernel
theorem dX8_serve_103 : decode cX8_serve 103 = .ok (.aload_n 0, 1) := by decide +kernel
theorem dX8_serve_104 : decode cX8_serve 104 = .ok (.getfield 7, 3) := by decide +kernel
theorem dX8_serve_107 : decode cX8_serve 107 = .ok (.bipush 13, 2) := by decide +kernel
theorem dX8_serve_109 : decode cX8_serve 109 = .ok (.iload_n 2, 1) := by decide +kernel
theorem dX8_serve_110 : decode cX8_serve 110 = .ok (.iadd, 1) := by decide +kernel
theorem dX8_serve_111 : decode cX8_serve 111 = .ok (.dup2, 1) := by decide +kernel
theorem dX8_serve_112 : decode cX8_serve 112 = .ok (.iaload, 1) := by decide +kernel
theorem dX8_serve_113 : decode cX8_serve 113 = .ok (.iconst 1, 1) := by decide +kernel
theorem dX8_serve_114 : decode cX8_serve 114 = .ok (.iadd, 1) := by decide +kernel
theorem dX8_serve_115 : decode cX8_serve 115 = .ok (.iastore, 1) := by decide +kernel
theorem dX8_serve_116 : decode cX8_serve 116 = .ok (.iinc 2 1, 3) := by decide +kernel
theorem dX8_serve_119 : decode cX8_serve 119 = .ok (.goto (-112), 3) := by decide +kernel
theorem dX8_serve_122 : decode cX8_serve 122 = .ok (.return_, 1) := by decide +kernel
set_option maxRecDepth 20000 in
theorem ggX8_holding_X8_rules : GoodIn wsX8_holding wsX8_rules := goodIn_r _ [5, 6, 7, 8, 4, 9, 10, 23, 24, 25, 26, 27, 28, 29, 30, 31, 32, 33, 34, 35] (by decide +kernel) (by decide +kernel)
set_option maxRecDepth 20000 in
theorem gX8_holding_X8_rules : GoodIn wsX8_holding (wsV RX8 71 RX8 yX8_rules wsX8_rules) := goodIn_app (goodIn_of _ (by decide +kernel)) ggX8_holding_X8_rules
set_option maxRecDepth 20000 in
theorem ggX8_holding_X8_holds : GoodIn wsX8_holding wsX8_holds := goodIn_r _ [14, 15, 16, 17, 4, 18, 6, 7, 8, 9, 10, 19, 20, 21, 22, 23, 24, 25, 26, 27, 28, 29, 30, 31, 32, 33, 34, 35] (by decide +kernel) (by decide +kernel)
set_option maxRecDepth 20000 in
theorem gX8_holding_X8_holds : GoodIn wsX8_holding (wsV RX8 89 RX8 yX8_holds wsX8_holds) := goodIn_app (goodIn_of _ (by decide +kernel)) ggX8_holding_X8_holds
theorem dX8_holding_0 : decode cX8_holding 0 = .ok (.iconst 0, 1) := by decide +kernel
theorem dX8_holding_1 : decode cX8_holding 1 = .ok (.istore_n 2, 1) := by decide +kernel
theorem dX8_holding_2 : decode cX8_holding 2 = .ok (.iload_n 2, 1) := by decide +kernel
theorem dX8_holding_3 : decode cX8_holding 3 = .ok (.aload_n 0, 1) := by decide +kernel
theorem dX8_holding_4 : decode cX8_holding 4 = .ok (.iload_n 1, 1) := by decide +kernel
theorem dX8_holding_5 : decode cX8_holding 5 = .ok (.invokevirtual 71, 3) := by decide +kernel
theorem dX8_holding_8 : decode cX8_holding 8 = .ok (.if_icmp .ge 20, 3) := by decide +kernel
theorem dX8_holding_11 : decode cX8_holding 11 = .ok (.aload_n 0, 1) := by decide +kernel
theorem dX8_holding_12 : decode cX8_holding 12 = .ok (.iload_n 1, 1) := by decide +kernel
theorem dX8_holding_13 : decode cX8_holding 13 = .ok (.iload_n 2, 1) := by decide +kernel
theorem dX8_holding_14 : decode cX8_holding 14 = .ok (.invokevirtual 89, 3) := by decide +kernel
theorem dX8_holding_17 : decode cX8_holding 17 = .ok (.ifCond .eq 5, 3) := by decide +kernel
theorem dX8_holding_20 : decode cX8_holding 20 = .ok (.iload_n 2, 1) := by decide +kernel
theorem dX8_holding_21 : decode cX8_holding 21 = .ok (.ireturn, 1) := by decide +kernel
theorem dX8_holding_22 : decode cX8_holding 22 = .ok (.iinc 2 1, 3) := by decide +kernel
theorem dX8_holding_25 : decode cX8_holding 25 = .ok (.goto (-23), 3) := by decide +kernel
theorem dX8_holding_28 : decode cX8_holding 28 = .ok (.iconst (-1), 1) := by decide +kernel
theorem dX8_holding_29 : decode cX8_holding 29 = .ok (.ireturn, 1) := by decide +kernel
set_option maxRecDepth 20000 in
theorem ggX8_holds_X8_askers : GoodIn wsX8_holds wsX8_askers := goodIn_r _ [5, 6, 7, 8, 4, 9, 10, 15, 16, 17, 18, 19, 20, 21, 22, 23, 24, 25, 26, 27] (by decide +kernel) (by decide +kernel)
set_option maxRecDepth 20000 in
theorem gX8_holds_X8_askers : GoodIn wsX8_holds (wsV RX8 92 RX8 yX8_askers wsX8_askers) := goodIn_app (goodIn_of _ (by decide +kernel)) ggX8_holds_X8_askers
set_option maxRecDepth 20000 in
theorem ggX8_holds_X8_waiting : GoodIn wsX8_holds wsX8_waiting := goodIn_r _ [14, 10, 15, 16, 17, 18, 19, 20, 21, 22, 23, 24, 25, 26, 27] (by decide +kernel) (by decide +kernel)
set_option maxRecDepth 20000 in
theorem gX8_holds_X8_waiting : GoodIn wsX8_holds (wsV RX8 95 RX8 yX8_waiting wsX8_waiting) := goodIn_app (goodIn_of _ (by decide +kernel)) ggX8_holds_X8_waiting
theorem dX8_holds_0 : decode cX8_holds 0 = .ok (.aload_n 0, 1) := by decide +kernel
theorem dX8_holds_1 : decode cX8_holds 1 = .ok (.iload_n 1, 1) := by decide +kernel
theorem dX8_holds_2 : decode cX8_holds 2 = .ok (.iload_n 2, 1) := by decide +kernel
theorem dX8_holds_3 : decode cX8_holds 3 = .ok (.invokevirtual 92, 3) := by decide +kernel
theorem dX8_holds_6 : decode cX8_holds 6 = .ok (.ifCond .eq 17, 3) := by decide +kernel
theorem dX8_holds_9 : decode cX8_holds 9 = .ok (.aload_n 0, 1) := by decide +kernel
theorem dX8_holds_10 : decode cX8_holds 10 = .ok (.iload_n 1, 1) := by decide +kernel
theorem dX8_holds_11 : decode cX8_holds 11 = .ok (.iload_n 2, 1) := by decide +kernel
theorem dX8_holds_12 : decode cX8_holds 12 = .ok (.invokevirtual 92, 3) := by decide +kernel
theorem dX8_holds_15 : decode cX8_holds 15 = .ok (.aload_n 0, 1) := by decide +kernel
theorem dX8_holds_16 : decode cX8_holds 16 = .ok (.invokevirtual 95, 3) := by decide +kernel
theorem dX8_holds_19 : decode cX8_holds 19 = .ok (.iand, 1) := by decide +kernel
theorem dX8_holds_20 : decode cX8_holds 20 = .ok (.ifCond .eq 7, 3) := by decide +kernel
theorem dX8_holds_23 : decode cX8_holds 23 = .ok (.iconst 1, 1) := by decide +kernel
theorem dX8_holds_24 : decode cX8_holds 24 = .ok (.goto 4, 3) := by decide +kernel
theorem dX8_holds_27 : decode cX8_holds 27 = .ok (.iconst 0, 1) := by decide +kernel
theorem dX8_holds_28 : decode cX8_holds 28 = .ok (.ireturn, 1) := by decide +kernel
set_option maxRecDepth 20000 in
theorem ggX8_clearingTo_X8_greens : GoodIn wsX8_clearingTo wsX8_greens := goodIn_r _ [6, 7, 8, 9, 5, 10, 1, 11, 12, 13, 14, 15, 16, 17, 18, 19, 20, 21, 22, 23] (by decide +kernel) (by decide +kernel)
set_option maxRecDepth 20000 in
theorem gX8_clearingTo_X8_greens : GoodIn wsX8_clearingTo (wsV RX8 40 RX8 yX8_greens wsX8_greens) := goodIn_app (goodIn_of _ (by decide +kernel)) ggX8_clearingTo_X8_greens
theorem dX8_clearingTo_0 : decode cX8_clearingTo 0 = .ok (.aload_n 0, 1) := by decide +kernel
theorem dX8_clearingTo_1 : decode cX8_clearingTo 1 = .ok (.iload_n 1, 1) := by decide +kernel
theorem dX8_clearingTo_2 : decode cX8_clearingTo 2 = .ok (.invokevirtual 40, 3) := by decide +kernel
theorem dX8_clearingTo_5 : decode cX8_clearingTo 5 = .ok (.aload_n 0, 1) := by decide +kernel
theorem dX8_clearingTo_6 : decode cX8_clearingTo 6 = .ok (.iload_n 2, 1) := by decide +kernel
theorem dX8_clearingTo_7 : decode cX8_clearingTo 7 = .ok (.invokevirtual 40, 3) := by decide +kernel
theorem dX8_clearingTo_10 : decode cX8_clearingTo 10 = .ok (.if_icmp .ne 7, 3) := by decide +kernel
theorem dX8_clearingTo_13 : decode cX8_clearingTo 13 = .ok (.iconst 0, 1) := by decide +kernel
theorem dX8_clearingTo_14 : decode cX8_clearingTo 14 = .ok (.goto 9, 3) := by decide +kernel
theorem dX8_clearingTo_17 : decode cX8_clearingTo 17 = .ok (.aload_n 0, 1) := by decide +kernel
theorem dX8_clearingTo_18 : decode cX8_clearingTo 18 = .ok (.getfield 7, 3) := by decide +kernel
theorem dX8_clearingTo_21 : decode cX8_clearingTo 21 = .ok (.iconst 1, 1) := by decide +kernel
theorem dX8_clearingTo_22 : decode cX8_clearingTo 22 = .ok (.iaload, 1) := by decide +kernel
theorem dX8_clearingTo_23 : decode cX8_clearingTo 23 = .ok (.ireturn, 1) := by decide +kernel
theorem dX8_arrive_0 : decode cX8_arrive 0 = .ok (.aload_n 0, 1) := by decide +kernel
theorem dX8_arrive_1 : decode cX8_arrive 1 = .ok (.getfield 7, 3) := by decide +kernel
theorem dX8_arrive_4 : decode cX8_arrive 4 = .ok (.iconst 2, 1) := by decide +kernel
theorem dX8_arrive_5 : decode cX8_arrive 5 = .ok (.iload_n 1, 1) := by decide +kernel
theorem dX8_arrive_6 : decode cX8_arrive 6 = .ok (.iastore, 1) := by decide +kernel
theorem dX8_arrive_7 : decode cX8_arrive 7 = .ok (.aload_n 0, 1) := by decide +kernel
theorem dX8_arrive_8 : decode cX8_arrive 8 = .ok (.getfield 7, 3) := by decide +kernel
theorem dX8_arrive_11 : decode cX8_arrive 11 = .ok (.iconst 3, 1) := by decide +kernel
theorem dX8_arrive_12 : decode cX8_arrive 12 = .ok (.iconst 0, 1) := by decide +kernel
theorem dX8_arrive_13 : decode cX8_arrive 13 = .ok (.iastore, 1) := by decide +kernel
theorem dX8_arrive_14 : decode cX8_arrive 14 = .ok (.aload_n 0, 1) := by decide +kernel
theorem dX8_arrive_15 : decode cX8_arrive 15 = .ok (.getfield 7, 3) := by decide +kernel
theorem dX8_arrive_18 : decode cX8_arrive 18 = .ok (.iconst 4, 1) := by decide +kernel
theorem dX8_arrive_19 : decode cX8_arrive 19 = .ok (.iconst 0, 1) := by decide +kernel
theorem dX8_arrive_20 : decode cX8_arrive 20 = .ok (.iastore, 1) := by decide +kernel
theorem dX8_arrive_21 : decode cX8_arrive 21 = .ok (.aload_n 0, 1) := by decide +kernel
theorem dX8_arrive_22 : decode cX8_arrive 22 = .ok (.getfield 7, 3) := by decide +kernel
theorem dX8_arrive_25 : decode cX8_arrive 25 = .ok (.iconst 5, 1) := by decide +kernel
theorem dX8_arrive_26 : decode cX8_arrive 26 = .ok (.iconst (-1), 1) := by decide +kernel
theorem dX8_arrive_27 : decode cX8_arrive 27 = .ok (.iastore, 1) := by decide +kernel
theorem dX8_arrive_28 : decode cX8_arrive 28 = .ok (.aload_n 0, 1) := by decide +kernel
theorem dX8_arrive_29 : decode cX8_arrive 29 = .ok (.getfield 7, 3) := by decide +kernel
theorem dX8_arrive_32 : decode cX8_arrive 32 = .ok (.bipush 31, 2) := by decide +kernel
theorem dX8_arrive_34 : decode cX8_arrive 34 = .ok (.bipush 14, 2) := by decide +kernel
theorem dX8_arrive_36 : decode cX8_arrive 36 = .ok (.iload_n 1, 1) := by decide +kernel
theorem dX8_arrive_37 : decode cX8_arrive 37 = .ok (.imul, 1) := by decide +kernel
theorem dX8_arrive_38 : decode cX8_arrive 38 = .ok (.iadd, 1) := by decide +kernel
theorem dX8_arrive_39 : decode cX8_arrive 39 = .ok (.iconst 2, 1) := by decide +kernel
theorem dX8_arrive_40 : decode cX8_arrive 40 = .ok (.iadd, 1) := by decide +kernel
theorem dX8_arrive_41 : decode cX8_arrive 41 = .ok (.dup2, 1) := by decide +kernel
theorem dX8_arrive_42 : decode cX8_arrive 42 = .ok (.iaload, 1) := by decide +kernel
theorem dX8_arrive_43 : decode cX8_arrive 43 = .ok (.iconst 1, 1) := by decide +kernel
theorem dX8_arrive_44 : decode cX8_arrive 44 = .ok (.iadd, 1) := by decide +kernel
theorem dX8_arrive_45 : decode cX8_arrive 45 = .ok (.iastore, 1) := by decide +kernel
theorem dX8_arrive_46 : decode cX8_arrive 46 = .ok (.return_, 1) := by decide +kernel
set_option maxRecDepth 20000 in
theorem ggX8_follow_X8_clearingTo : GoodIn wsX8_follow wsX8_clearingTo := goodIn_r _ [6, 1, 7, 8, 9, 5, 10, 11, 12, 13, 14, 19, 20, 21, 22, 23, 24, 25, 26, 27, 28, 29, 30, 31] (by decide +kernel) (by decide +kernel)
set_option maxRecDepth 20000 in
theorem gX8_follow_X8_clearingTo : GoodIn wsX8_follow (wsV RX8 98 RX8 yX8_clearingTo wsX8_clearingTo) := goodIn_app (goodIn_of _ (by decide +kernel)) ggX8_follow_X8_clearingTo
set_option maxRecDepth 20000 in
theorem ggX8_follow_X8_arrive : GoodIn wsX8_follow wsX8_arrive := goodIn_r _ [18, 1, 19, 20, 21, 22, 23, 24, 25, 26, 27, 28, 29, 30, 31] (by decide +kernel) (by decide +kernel)
set_option maxRecDepth 20000 in
theorem gX8_follow_X8_arrive : GoodIn wsX8_follow (wsV RX8 101 RX8 yX8_arrive wsX8_arrive) := goodIn_app (goodIn_of _ (by decide +kernel)) ggX8_follow_X8_arrive
theorem dX8_follow_0 : decode cX8_follow 0 = .ok (.aload_n 0, 1) := by decide +kernel
theorem dX8_follow_1 : decode cX8_follow 1 = .ok (.iload_n 1, 1) := by decide +kernel
theorem dX8_follow_2 : decode cX8_follow 2 = .ok (.iload_n 2, 1) := by decide +kernel
theorem dX8_follow_3 : decode cX8_follow 3 = .ok (.invokevirtual 98, 3) := by decide +kernel
theorem dX8_follow_6 : decode cX8_follow 6 = .ok (.istore_n 3, 1) := by decide +kernel
theorem dX8_follow_7 : decode cX8_follow 7 = .ok (.iload_n 3, 1) := by decide +kernel
theorem dX8_follow_8 : decode cX8_follow 8 = .ok (.ifCond .ne 11, 3) := by decide +kernel
theorem dX8_follow_11 : decode cX8_follow 11 = .ok (.aload_n 0, 1) := by decide +kernel
theorem dX8_follow_12 : decode cX8_follow 12 = .ok (.iload_n 2, 1) := by decide +kernel
theorem dX8_follow_13 : decode cX8_follow 13 = .ok (.invokevirtual 101, 3) := by decide +kernel
theorem dX8_follow_16 : decode cX8_follow 16 = .ok (.goto 31, 3) := by decide +kernel
theorem dX8_follow_19 : decode cX8_follow 19 = .ok (.aload_n 0, 1) := by decide +kernel
theorem dX8_follow_20 : decode cX8_follow 20 = .ok (.getfield 7, 3) := by decide +kernel
theorem dX8_follow_23 : decode cX8_follow 23 = .ok (.iconst 2, 1) := by decide +kernel
theorem dX8_follow_24 : decode cX8_follow 24 = .ok (.iload_n 2, 1) := by decide +kernel
theorem dX8_follow_25 : decode cX8_follow 25 = .ok (.iastore, 1) := by decide +kernel
theorem dX8_follow_26 : decode cX8_follow 26 = .ok (.aload_n 0, 1) := by decide +kernel
theorem dX8_follow_27 : decode cX8_follow 27 = .ok (.getfield 7, 3) := by decide +kernel
theorem dX8_follow_30 : decode cX8_follow 30 = .ok (.iconst 5, 1) := by decide +kernel
theorem dX8_follow_31 : decode cX8_follow 31 = .ok (.iload_n 1, 1) := by decide +kernel
theorem dX8_follow_32 : decode cX8_follow 32 = .ok (.iastore, 1) := by decide +kernel
theorem dX8_follow_33 : decode cX8_follow 33 = .ok (.aload_n 0, 1) := by decide +kernel
theorem dX8_follow_34 : decode cX8_follow 34 = .ok (.getfield 7, 3) := by decide +kernel
theorem dX8_follow_37 : decode cX8_follow 37 = .ok (.iconst 3, 1) := by decide +kernel
theorem dX8_follow_38 : decode cX8_follow 38 = .ok (.iconst 0, 1) := by decide +kernel
theorem dX8_follow_39 : decode cX8_follow 39 = .ok (.iastore, 1) := by decide +kernel
theorem dX8_follow_40 : decode cX8_follow 40 = .ok (.aload_n 0, 1) := by decide +kernel
theorem dX8_follow_41 : decode cX8_follow 41 = .ok (.getfield 7, 3) := by decide +kernel
theorem dX8_follow_44 : decode cX8_follow 44 = .ok (.iconst 4, 1) := by decide +kernel
theorem dX8_follow_45 : decode cX8_follow 45 = .ok (.iload_n 3, 1) := by decide +kernel
theorem dX8_follow_46 : decode cX8_follow 46 = .ok (.iastore, 1) := by decide +kernel
theorem dX8_follow_47 : decode cX8_follow 47 = .ok (.return_, 1) := by decide +kernel
set_option maxRecDepth 20000 in
theorem ggX8_tick_X8_serve : GoodIn wsX8_tick wsX8_serve := goodIn_r _ [6, 1, 7, 8, 9, 5, 10, 11, 12, 13, 14, 15, 16, 17, 18, 19, 20, 21, 22, 59, 60, 61, 62, 63, 64, 65, 66, 67, 68, 69, 70, 71] (by decide +kernel) (by decide +kernel)
set_option maxRecDepth 20000 in
theorem gX8_tick_X8_serve : GoodIn wsX8_tick (wsV RX8 105 RX8 yX8_serve wsX8_serve) := goodIn_app (goodIn_of _ (by decide +kernel)) ggX8_tick_X8_serve
set_option maxRecDepth 20000 in
theorem ggX8_tick_X8_isClearing : GoodIn wsX8_tick wsX8_isClearing := goodIn_r _ [14, 1, 59, 60, 61, 62, 63, 64, 65, 66, 67, 68, 69, 70, 71] (by decide +kernel) (by decide +kernel)
set_option maxRecDepth 20000 in
theorem gX8_tick_X8_isClearing : GoodIn wsX8_tick (wsV RX8 81 RX8 yX8_isClearing wsX8_isClearing) := goodIn_app (goodIn_of _ (by decide +kernel)) ggX8_tick_X8_isClearing
set_option maxRecDepth 20000 in
theorem ggX8_tick_X8_arrive : GoodIn wsX8_tick wsX8_arrive := goodIn_r _ [26, 1, 59, 60, 61, 62, 63, 64, 65, 66, 67, 68, 69, 70, 71] (by decide +kernel) (by decide +kernel)
set_option maxRecDepth 20000 in
theorem gX8_tick_X8_arrive : GoodIn wsX8_tick (wsV RX8 101 RX8 yX8_arrive wsX8_arrive) := goodIn_app (goodIn_of _ (by decide +kernel)) ggX8_tick_X8_arrive
set_option maxRecDepth 20000 in
theorem ggX8_tick_X8_of : GoodIn wsX8_tick wsX8_of := goodIn_r _ [22, 1, 59, 60, 61, 62, 63, 64, 65, 66, 67, 68, 69, 70, 71] (by decide +kernel) (by decide +kernel)
set_option maxRecDepth 20000 in
theorem gX8_tick_X8_of : GoodIn wsX8_tick (wsV RX8 36 RX8 yX8_of wsX8_of) := goodIn_app (goodIn_of _ (by decide +kernel)) ggX8_tick_X8_of
set_option maxRecDepth 20000 in
theorem ggX8_tick_X8_holding : GoodIn wsX8_tick wsX8_holding := goodIn_r _ [30, 31, 32, 33, 5, 34, 19, 20, 21, 22, 1, 35, 36, 37, 38, 39, 40, 41, 42, 43, 44, 45, 46, 59, 60, 61, 62, 63, 64, 65, 66, 67, 68, 69, 70, 71] (by decide +kernel) (by decide +kernel)
set_option maxRecDepth 20000 in
theorem gX8_tick_X8_holding : GoodIn wsX8_tick (wsV RX8 108 RX8 yX8_holding wsX8_holding) := goodIn_app (goodIn_of _ (by decide +kernel)) ggX8_tick_X8_holding
set_option maxRecDepth 20000 in
theorem ggX8_tick_X8_goal : GoodIn wsX8_tick wsX8_goal := goodIn_r _ [50, 19, 20, 21, 5, 22, 1, 59, 60, 61, 62, 63, 64, 65, 66, 67, 68, 69, 70, 71] (by decide +kernel) (by decide +kernel)
set_option maxRecDepth 20000 in
theorem gX8_tick_X8_goal : GoodIn wsX8_tick (wsV RX8 111 RX8 yX8_goal wsX8_goal) := goodIn_app (goodIn_of _ (by decide +kernel)) ggX8_tick_X8_goal
set_option maxRecDepth 20000 in
theorem ggX8_tick_X8_follow : GoodIn wsX8_tick wsX8_follow := goodIn_r _ [54, 1, 55, 56, 57, 5, 58, 15, 16, 17, 18, 19, 20, 21, 22, 23, 24, 25, 26, 59, 60, 61, 62, 63, 64, 65, 66, 67, 68, 69, 70, 71] (by decide +kernel) (by decide +kernel)
set_option maxRecDepth 20000 in
theorem gX8_tick_X8_follow : GoodIn wsX8_tick (wsV RX8 114 RX8 yX8_follow wsX8_follow) := goodIn_app (goodIn_of _ (by decide +kernel)) ggX8_tick_X8_follow
theorem dX8_tick_0 : decode cX8_tick 0 = .ok (.aload_n 0, 1) := by decide +kernel
theorem dX8_tick_1 : decode cX8_tick 1 = .ok (.getfield 7, 3) := by decide +kernel
theorem dX8_tick_4 : decode cX8_tick 4 = .ok (.bipush 6, 2) := by decide +kernel
theorem dX8_tick_6 : decode cX8_tick 6 = .ok (.dup2, 1) := by decide +kernel
theorem dX8_tick_7 : decode cX8_tick 7 = .ok (.iaload, 1) := by decide +kernel
theorem dX8_tick_8 : decode cX8_tick 8 = .ok (.iconst 1, 1) := by decide +kernel
theorem dX8_tick_9 : decode cX8_tick 9 = .ok (.iadd, 1) := by decide +kernel
theorem dX8_tick_10 : decode cX8_tick 10 = .ok (.iastore, 1) := by decide +kernel
theorem dX8_tick_11 : decode cX8_tick 11 = .ok (.aload_n 0, 1) := by decide +kernel
theorem dX8_tick_12 : decode cX8_tick 12 = .ok (.invokevirtual 105, 3) := by decide +kernel
theorem dX8_tick_15 : decode cX8_tick 15 = .ok (.aload_n 0, 1) := by decide +kernel
theorem dX8_tick_16 : decode cX8_tick 16 = .ok (.getfield 7, 3) := by decide +kernel
theorem dX8_tick_19 : decode cX8_tick 19 = .ok (.iconst 2, 1) := by decide +kernel
theorem dX8_tick_20 : decode cX8_tick 20 = .ok (.iaload, 1) := by decide +kernel
theorem dX8_tick_21 : decode cX8_tick 21 = .ok (.istore_n 1, 1) := by decide +kernel
theorem dX8_tick_22 : decode cX8_tick 22 = .ok (.iload_n 1, 1) := by decide +kernel
theorem dX8_tick_23 : decode cX8_tick 23 = .ok (.iconst (-1), 1) := by decide +kernel
theorem dX8_tick_24 : decode cX8_tick 24 = .ok (.if_icmp .ne 4, 3) := by decide +kernel
theorem dX8_tick_27 : decode cX8_tick 27 = .ok (.return_, 1) := by decide +kernel
theorem dX8_tick_28 : decode cX8_tick 28 = .ok (.aload_n 0, 1) := by decide +kernel
theorem dX8_tick_29 : decode cX8_tick 29 = .ok (.invokevirtual 81, 3) := by decide +kernel
theorem dX8_tick_32 : decode cX8_tick 32 = .ok (.ifCond .eq 28, 3) := by decide +kernel
theorem dX8_tick_35 : decode cX8_tick 35 = .ok (.aload_n 0, 1) := by decide +kernel
theorem dX8_tick_36 : decode cX8_tick 36 = .ok (.getfield 7, 3) := by decide +kernel
theorem dX8_tick_39 : decode cX8_tick 39 = .ok (.iconst 4, 1) := by decide +kernel
theorem dX8_tick_40 : decode cX8_tick 40 = .ok (.dup2, 1) := by decide +kernel
theorem dX8_tick_41 : decode cX8_tick 41 = .ok (.iaload, 1) := by decide +kernel
theorem dX8_tick_42 : decode cX8_tick 42 = .ok (.iconst 1, 1) := by decide +kernel
theorem dX8_tick_43 : decode cX8_tick 43 = .ok (.isub, 1) := by decide +kernel
theorem dX8_tick_44 : decode cX8_tick 44 = .ok (.iastore, 1) := by decide +kernel
theorem dX8_tick_45 : decode cX8_tick 45 = .ok (.aload_n 0, 1) := by decide +kernel
theorem dX8_tick_46 : decode cX8_tick 46 = .ok (.getfield 7, 3) := by decide +kernel
theorem dX8_tick_49 : decode cX8_tick 49 = .ok (.iconst 4, 1) := by decide +kernel
theorem dX8_tick_50 : decode cX8_tick 50 = .ok (.iaload, 1) := by decide +kernel
theorem dX8_tick_51 : decode cX8_tick 51 = .ok (.ifCond .ne 8, 3) := by decide +kernel
theorem dX8_tick_54 : decode cX8_tick 54 = .ok (.aload_n 0, 1) := by decide +kernel
theorem dX8_tick_55 : decode cX8_tick 55 = .ok (.iload_n 1, 1) := by decide +kernel
theorem dX8_tick_56 : decode cX8_tick 56 = .ok (.invokevirtual 101, 3) := by decide +kernel
theorem dX8_tick_59 : decode cX8_tick 59 = .ok (.return_, 1) := by decide +kernel
theorem dX8_tick_60 : decode cX8_tick 60 = .ok (.aload_n 0, 1) := by decide +kernel
theorem dX8_tick_61 : decode cX8_tick 61 = .ok (.getfield 7, 3) := by decide +kernel
theorem dX8_tick_64 : decode cX8_tick 64 = .ok (.iconst 3, 1) := by decide +kernel
theorem dX8_tick_65 : decode cX8_tick 65 = .ok (.dup2, 1) := by decide +kernel
theorem dX8_tick_66 : decode cX8_tick 66 = .ok (.iaload, 1) := by decide +kernel
theorem dX8_tick_67 : decode cX8_tick 67 = .ok (.iconst 1, 1) := by decide +kernel
theorem dX8_tick_68 : decode cX8_tick 68 = .ok (.iadd, 1) := by decide +kernel
theorem dX8_tick_69 : decode cX8_tick 69 = .ok (.iastore, 1) := by decide +kernel
theorem dX8_tick_70 : decode cX8_tick 70 = .ok (.aload_n 0, 1) := by decide +kernel
theorem dX8_tick_71 : decode cX8_tick 71 = .ok (.getfield 7, 3) := by decide +kernel
theorem dX8_tick_74 : decode cX8_tick 74 = .ok (.iconst 3, 1) := by decide +kernel
theorem dX8_tick_75 : decode cX8_tick 75 = .ok (.iaload, 1) := by decide +kernel
theorem dX8_tick_76 : decode cX8_tick 76 = .ok (.aload_n 0, 1) := by decide +kernel
theorem dX8_tick_77 : decode cX8_tick 77 = .ok (.iload_n 1, 1) := by decide +kernel
theorem dX8_tick_78 : decode cX8_tick 78 = .ok (.iconst 1, 1) := by decide +kernel
theorem dX8_tick_79 : decode cX8_tick 79 = .ok (.invokevirtual 36, 3) := by decide +kernel
theorem dX8_tick_82 : decode cX8_tick 82 = .ok (.if_icmp .lt 11, 3) := by decide +kernel
theorem dX8_tick_85 : decode cX8_tick 85 = .ok (.aload_n 0, 1) := by decide +kernel
theorem dX8_tick_86 : decode cX8_tick 86 = .ok (.iload_n 1, 1) := by decide +kernel
theorem dX8_tick_87 : decode cX8_tick 87 = .ok (.invokevirtual 108, 3) := by decide +kernel
theorem dX8_tick_90 : decode cX8_tick 90 = .ok (.goto 4, 3) := by decide +kernel
theorem dX8_tick_93 : decode cX8_tick 93 = .ok (.iconst (-1), 1) := by decide +kernel
theorem dX8_tick_94 : decode cX8_tick 94 = .ok (.istore_n 2, 1) := by decide +kernel
theorem dX8_tick_95 : decode cX8_tick 95 = .ok (.iload_n 2, 1) := by decide +kernel
theorem dX8_tick_96 : decode cX8_tick 96 = .ok (.iconst (-1), 1) := by decide +kernel
theorem dX8_tick_97 : decode cX8_tick 97 = .ok (.if_icmp .eq 14, 3) := by decide +kernel
theorem dX8_tick_100 : decode cX8_tick 100 = .ok (.aload_n 0, 1) := by decide +kernel
theorem dX8_tick_101 : decode cX8_tick 101 = .ok (.iload_n 1, 1) := by decide +kernel
theorem dX8_tick_102 : decode cX8_tick 102 = .ok (.aload_n 0, 1) := by decide +kernel
theorem dX8_tick_103 : decode cX8_tick 103 = .ok (.iload_n 1, 1) := by decide +kernel
theorem dX8_tick_104 : decode cX8_tick 104 = .ok (.iload_n 2, 1) := by decide +kernel
theorem dX8_tick_105 : decode cX8_tick 105 = .ok (.invokevirtual 111, 3) := by decide +kernel
theorem dX8_tick_108 : decode cX8_tick 108 = .ok (.invokevirtual 114, 3) := by decide +kernel
theorem dX8_tick_111 : decode cX8_tick 111 = .ok (.return_, 1) := by decide +kernel
set_option maxRecDepth 20000 in
theorem ggX8_run_X8_in : GoodIn wsX8_run wsX8_in := goodIn_r _ [5] (by decide +kernel) (by decide +kernel)
set_option maxRecDepth 20000 in
theorem gX8_run_X8_in : GoodIn wsX8_run (va_wsS RX8 32 yX8_in wsX8_in) := goodIn_app (goodIn_of _ (by decide +kernel)) ggX8_run_X8_in
set_option maxRecDepth 20000 in
theorem ggX8_run_X8_save : GoodIn wsX8_run wsX8_save := goodIn_r _ [9, 10, 11, 12, 76, 77, 78, 79, 80, 81, 82, 83, 84, 85, 86, 87, 88] (by decide +kernel) (by decide +kernel)
set_option maxRecDepth 20000 in
theorem gX8_run_X8_save : GoodIn wsX8_run (wsV RX8 51 RX8 yX8_save wsX8_save) := goodIn_app (goodIn_of _ (by decide +kernel)) ggX8_run_X8_save
set_option maxRecDepth 20000 in
theorem ggX8_run_X8_tick : GoodIn wsX8_run wsX8_tick := goodIn_r _ [16, 12, 17, 18, 19, 4, 20, 21, 22, 23, 24, 25, 26, 27, 28, 29, 30, 31, 32, 33, 34, 35, 36, 37, 38, 39, 40, 41, 42, 43, 44, 45, 46, 47, 48, 49, 50, 51, 52, 53, 54, 55, 56, 57, 58, 59, 60, 61, 62, 63, 64, 65, 66, 67, 68, 69, 70, 71, 72, 76, 77, 78, 79, 80, 81, 82, 83, 84, 85, 86, 87, 88] (by decide +kernel) (by decide +kernel)
set_option maxRecDepth 20000 in
theorem gX8_run_X8_tick : GoodIn wsX8_run (wsV RX8 118 RX8 yX8_tick wsX8_tick) := goodIn_app (goodIn_of _ (by decide +kernel)) ggX8_run_X8_tick
set_option maxRecDepth 20000 in
theorem ggX8_run_X8_waiting : GoodIn wsX8_run wsX8_waiting := goodIn_r _ [60, 12, 76, 77, 78, 79, 80, 81, 82, 83, 84, 85, 86, 87, 88] (by decide +kernel) (by decide +kernel)
set_option maxRecDepth 20000 in
theorem gX8_run_X8_waiting : GoodIn wsX8_run (wsV RX8 95 RX8 yX8_waiting wsX8_waiting) := goodIn_app (goodIn_of _ (by decide +kernel)) ggX8_run_X8_waiting
set_option maxRecDepth 20000 in
theorem ggX8_run_X8_bits : GoodIn wsX8_run wsX8_bits := goodIn_r _ [75] (by decide +kernel) (by decide +kernel)
set_option maxRecDepth 20000 in
theorem gX8_run_X8_bits : GoodIn wsX8_run (va_wsS RX8 121 yX8_bits wsX8_bits) := goodIn_app (goodIn_of _ (by decide +kernel)) ggX8_run_X8_bits
theorem dX8_run_0 : decode cX8_run 0 = .ok (.aload_n 0, 1) := by decide +kernel
theorem dX8_run_1 : decode cX8_run 1 = .ok (.iload_n 1, 1) := by decide +kernel
theorem dX8_run_2 : decode cX8_run 2 = .ok (.iconst 1, 1) := by decide +kernel
theorem dX8_run_3 : decode cX8_run 3 = .ok (.bipush 99, 2) := by decide +kernel
theorem dX8_run_5 : decode cX8_run 5 = .ok (.invokestatic 32, 3) := by decide +kernel
theorem dX8_run_8 : decode cX8_run 8 = .ok (.ifCond .eq 7, 3) := by decide +kernel
theorem dX8_run_11 : decode cX8_run 11 = .ok (.iconst 0, 1) := by decide +kernel
theorem dX8_run_12 : decode cX8_run 12 = .ok (.goto 4, 3) := by decide +kernel
theorem dX8_run_15 : decode cX8_run 15 = .ok (.iconst 1, 1) := by decide +kernel
theorem dX8_run_16 : decode cX8_run 16 = .ok (.putfield 28, 3) := by decide +kernel
theorem dX8_run_19 : decode cX8_run 19 = .ok (.aload_n 0, 1) := by decide +kernel
theorem dX8_run_20 : decode cX8_run 20 = .ok (.getfield 28, 3) := by decide +kernel
theorem dX8_run_23 : decode cX8_run 23 = .ok (.ifCond .le 5, 3) := by decide +kernel
theorem dX8_run_26 : decode cX8_run 26 = .ok (.iconst 0, 1) := by decide +kernel
theorem dX8_run_27 : decode cX8_run 27 = .ok (.ireturn, 1) := by decide +kernel
theorem dX8_run_28 : decode cX8_run 28 = .ok (.aload_n 0, 1) := by decide +kernel
theorem dX8_run_29 : decode cX8_run 29 = .ok (.invokevirtual 51, 3) := by decide +kernel
theorem dX8_run_32 : decode cX8_run 32 = .ok (.iconst 0, 1) := by decide +kernel
theorem dX8_run_33 : decode cX8_run 33 = .ok (.istore_n 2, 1) := by decide +kernel
theorem dX8_run_34 : decode cX8_run 34 = .ok (.iload_n 2, 1) := by decide +kernel
theorem dX8_run_35 : decode cX8_run 35 = .ok (.iload_n 1, 1) := by decide +kernel
theorem dX8_run_36 : decode cX8_run 36 = .ok (.if_icmp .ge 13, 3) := by decide +kernel
theorem dX8_run_39 : decode cX8_run 39 = .ok (.aload_n 0, 1) := by decide +kernel
theorem dX8_run_40 : decode cX8_run 40 = .ok (.invokevirtual 118, 3) := by decide +kernel
theorem dX8_run_43 : decode cX8_run 43 = .ok (.iinc 2 1, 3) := by decide +kernel
theorem dX8_run_46 : decode cX8_run 46 = .ok (.goto (-12), 3) := by decide +kernel
theorem dX8_run_49 : decode cX8_run 49 = .ok (.aload_n 0, 1) := by decide +kernel
theorem dX8_run_50 : decode cX8_run 50 = .ok (.invokevirtual 95, 3) := by decide +kernel
theorem dX8_run_53 : decode cX8_run 53 = .ok (.invokestatic 121, 3) := by decide +kernel
theorem dX8_run_56 : decode cX8_run 56 = .ok (.ireturn, 1) := by decide +kernel
set_option maxRecDepth 20000 in
theorem ggX8_start_X8_isPhase : GoodIn wsX8_start wsX8_isPhase := goodIn_r _ [7, 2, 22, 23, 24, 25, 26, 27, 28, 29, 30, 31, 32, 33, 34] (by decide +kernel) (by decide +kernel)
set_option maxRecDepth 20000 in
theorem gX8_start_X8_isPhase : GoodIn wsX8_start (wsV RX8 68 RX8 yX8_isPhase wsX8_isPhase) := goodIn_app (goodIn_of _ (by decide +kernel)) ggX8_start_X8_isPhase
set_option maxRecDepth 20000 in
theorem ggX8_start_X8_save : GoodIn wsX8_start wsX8_save := goodIn_r _ [11, 12, 13, 2, 22, 23, 24, 25, 26, 27, 28, 29, 30, 31, 32, 33, 34] (by decide +kernel) (by decide +kernel)
set_option maxRecDepth 20000 in
theorem gX8_start_X8_save : GoodIn wsX8_start (wsV RX8 51 RX8 yX8_save wsX8_save) := goodIn_app (goodIn_of _ (by decide +kernel)) ggX8_start_X8_save
set_option maxRecDepth 20000 in
theorem ggX8_start_X8_greens : GoodIn wsX8_start wsX8_greens := goodIn_r _ [17, 18, 19, 20, 6, 21, 2, 22, 23, 24, 25, 26, 27, 28, 29, 30, 31, 32, 33, 34] (by decide +kernel) (by decide +kernel)
set_option maxRecDepth 20000 in
theorem gX8_start_X8_greens : GoodIn wsX8_start (wsV RX8 40 RX8 yX8_greens wsX8_greens) := goodIn_app (goodIn_of _ (by decide +kernel)) ggX8_start_X8_greens
theorem dX8_start_0 : decode cX8_start 0 = .ok (.aload_n 0, 1) := by decide +kernel
theorem dX8_start_1 : decode cX8_start 1 = .ok (.aload_n 0, 1) := by decide +kernel
theorem dX8_start_2 : decode cX8_start 2 = .ok (.iload_n 1, 1) := by decide +kernel
theorem dX8_start_3 : decode cX8_start 3 = .ok (.invokevirtual 68, 3) := by decide +kernel
theorem dX8_start_6 : decode cX8_start 6 = .ok (.ifCond .eq 7, 3) := by decide +kernel
theorem dX8_start_9 : decode cX8_start 9 = .ok (.iconst 0, 1) := by decide +kernel
theorem dX8_start_10 : decode cX8_start 10 = .ok (.goto 4, 3) := by decide +kernel
theorem dX8_start_13 : decode cX8_start 13 = .ok (.iconst 1, 1) := by decide +kernel
theorem dX8_start_14 : decode cX8_start 14 = .ok (.putfield 28, 3) := by decide +kernel
theorem dX8_start_17 : decode cX8_start 17 = .ok (.aload_n 0, 1) := by decide +kernel
theorem dX8_start_18 : decode cX8_start 18 = .ok (.getfield 28, 3) := by decide +kernel
theorem dX8_start_21 : decode cX8_start 21 = .ok (.ifCond .le 5, 3) := by decide +kernel
theorem dX8_start_24 : decode cX8_start 24 = .ok (.iconst 0, 1) := by decide +kernel
theorem dX8_start_25 : decode cX8_start 25 = .ok (.ireturn, 1) := by decide +kernel
theorem dX8_start_26 : decode cX8_start 26 = .ok (.aload_n 0, 1) := by decide +kernel
theorem dX8_start_27 : decode cX8_start 27 = .ok (.invokevirtual 51, 3) := by decide +kernel
theorem dX8_start_30 : decode cX8_start 30 = .ok (.aload_n 0, 1) := by decide +kernel
theorem dX8_start_31 : decode cX8_start 31 = .ok (.getfield 7, 3) := by decide +kernel
theorem dX8_start_34 : decode cX8_start 34 = .ok (.iconst 2, 1) := by decide +kernel
theorem dX8_start_35 : decode cX8_start 35 = .ok (.iload_n 1, 1) := by decide +kernel
theorem dX8_start_36 : decode cX8_start 36 = .ok (.iastore, 1) := by decide +kernel
theorem dX8_start_37 : decode cX8_start 37 = .ok (.aload_n 0, 1) := by decide +kernel
theorem dX8_start_38 : decode cX8_start 38 = .ok (.getfield 7, 3) := by decide +kernel
theorem dX8_start_41 : decode cX8_start 41 = .ok (.iconst 3, 1) := by decide +kernel
theorem dX8_start_42 : decode cX8_start 42 = .ok (.iconst 0, 1) := by decide +kernel
theorem dX8_start_43 : decode cX8_start 43 = .ok (.iastore, 1) := by decide +kernel
theorem dX8_start_44 : decode cX8_start 44 = .ok (.aload_n 0, 1) := by decide +kernel
theorem dX8_start_45 : decode cX8_start 45 = .ok (.getfield 7, 3) := by decide +kernel
theorem dX8_start_48 : decode cX8_start 48 = .ok (.iconst 4, 1) := by decide +kernel
theorem dX8_start_49 : decode cX8_start 49 = .ok (.iconst 0, 1) := by decide +kernel
theorem dX8_start_50 : decode cX8_start 50 = .ok (.iastore, 1) := by decide +kernel
theorem dX8_start_51 : decode cX8_start 51 = .ok (.aload_n 0, 1) := by decide +kernel
theorem dX8_start_52 : decode cX8_start 52 = .ok (.getfield 7, 3) := by decide +kernel
theorem dX8_start_55 : decode cX8_start 55 = .ok (.iconst 5, 1) := by decide +kernel
theorem dX8_start_56 : decode cX8_start 56 = .ok (.iconst (-1), 1) := by decide +kernel
theorem dX8_start_57 : decode cX8_start 57 = .ok (.iastore, 1) := by decide +kernel
theorem dX8_start_58 : decode cX8_start 58 = .ok (.iconst 0, 1) := by decide +kernel
theorem dX8_start_59 : decode cX8_start 59 = .ok (.istore_n 2, 1) := by decide +kernel
theorem dX8_start_60 : decode cX8_start 60 = .ok (.iload_n 2, 1) := by decide +kernel
theorem dX8_start_61 : decode cX8_start 61 = .ok (.bipush 6, 2) := by decide +kernel
theorem dX8_start_63 : decode cX8_start 63 = .ok (.if_icmp .ge 19, 3) := by decide +kernel
theorem dX8_start_66 : decode cX8_start 66 = .ok (.aload_n 0, 1) := by decide +kernel
theorem dX8_start_67 : decode cX8_start 67 = .ok (.getfield 7, 3) := by decide +kernel
theorem dX8_start_70 : decode cX8_start 70 = .ok (.bipush 13, 2) := by decide +kernel
theorem dX8_start_72 : decode cX8_start 72 = .ok (.iload_n 2, 1) := by decide +kernel
theorem dX8_start_73 : decode cX8_start 73 = .ok (.iadd, 1) := by decide +kernel
theorem dX8_start_74 : decode cX8_start 74 = .ok (.iconst (-1), 1) := by decide +kernel
theorem dX8_start_75 : decode cX8_start 75 = .ok (.iastore, 1) := by decide +kernel
theorem dX8_start_76 : decode cX8_start 76 = .ok (.iinc 2 1, 3) := by decide +kernel
theorem dX8_start_79 : decode cX8_start 79 = .ok (.goto (-19), 3) := by decide +kernel
theorem dX8_start_82 : decode cX8_start 82 = .ok (.aload_n 0, 1) := by decide +kernel
theorem dX8_start_83 : decode cX8_start 83 = .ok (.iload_n 1, 1) := by decide +kernel
theorem dX8_start_84 : decode cX8_start 84 = .ok (.invokevirtual 40, 3) := by decide +kernel
theorem dX8_start_87 : decode cX8_start 87 = .ok (.ireturn, 1) := by decide +kernel
set_option maxRecDepth 20000 in
theorem ggX8_append_X8_in : GoodIn wsX8_append wsX8_in := goodIn_r _ [7] (by decide +kernel) (by decide +kernel)
set_option maxRecDepth 20000 in
theorem gX8_append_X8_in : GoodIn wsX8_append (va_wsS RX8 32 yX8_in wsX8_in) := goodIn_app (goodIn_of _ (by decide +kernel)) ggX8_append_X8_in
theorem dX8_append_0 : decode cX8_append 0 = .ok (.aload_n 0, 1) := by decide +kernel
theorem dX8_append_1 : decode cX8_append 1 = .ok (.iload_n 1, 1) := by decide +kernel
theorem dX8_append_2 : decode cX8_append 2 = .ok (.bipush 33, 2) := by decide +kernel
theorem dX8_append_4 : decode cX8_append 4 = .ok (.bipush 126, 2) := by decide +kernel
theorem dX8_append_6 : decode cX8_append 6 = .ok (.invokestatic 32, 3) := by decide +kernel
theorem dX8_append_9 : decode cX8_append 9 = .ok (.ifCond .ne 7, 3) := by decide +kernel
theorem dX8_append_12 : decode cX8_append 12 = .ok (.iconst 1, 1) := by decide +kernel
theorem dX8_append_13 : decode cX8_append 13 = .ok (.goto 17, 3) := by decide +kernel
theorem dX8_append_16 : decode cX8_append 16 = .ok (.aload_n 0, 1) := by decide +kernel
theorem dX8_append_17 : decode cX8_append 17 = .ok (.getfield 124, 3) := by decide +kernel
theorem dX8_append_20 : decode cX8_append 20 = .ok (.bipush 60, 2) := by decide +kernel
theorem dX8_append_22 : decode cX8_append 22 = .ok (.if_icmp .ne 7, 3) := by decide +kernel
theorem dX8_append_25 : decode cX8_append 25 = .ok (.iconst 2, 1) := by decide +kernel
theorem dX8_append_26 : decode cX8_append 26 = .ok (.goto 4, 3) := by decide +kernel
theorem dX8_append_29 : decode cX8_append 29 = .ok (.iconst 0, 1) := by decide +kernel
theorem dX8_append_30 : decode cX8_append 30 = .ok (.putfield 28, 3) := by decide +kernel
theorem dX8_append_33 : decode cX8_append 33 = .ok (.aload_n 0, 1) := by decide +kernel
theorem dX8_append_34 : decode cX8_append 34 = .ok (.getfield 28, 3) := by decide +kernel
theorem dX8_append_37 : decode cX8_append 37 = .ok (.ifCond .le 5, 3) := by decide +kernel
theorem dX8_append_40 : decode cX8_append 40 = .ok (.iconst 0, 1) := by decide +kernel
theorem dX8_append_41 : decode cX8_append 41 = .ok (.ireturn, 1) := by decide +kernel
theorem dX8_append_42 : decode cX8_append 42 = .ok (.aload_n 0, 1) := by decide +kernel
theorem dX8_append_43 : decode cX8_append 43 = .ok (.getfield 16, 3) := by decide +kernel
theorem dX8_append_46 : decode cX8_append 46 = .ok (.aload_n 0, 1) := by decide +kernel
theorem dX8_append_47 : decode cX8_append 47 = .ok (.getfield 124, 3) := by decide +kernel
theorem dX8_append_50 : decode cX8_append 50 = .ok (.iload_n 1, 1) := by decide +kernel
theorem dX8_append_51 : decode cX8_append 51 = .ok (.iastore, 1) := by decide +kernel
theorem dX8_append_52 : decode cX8_append 52 = .ok (.aload_n 0, 1) := by decide +kernel
theorem dX8_append_53 : decode cX8_append 53 = .ok (.dup, 1) := by decide +kernel
theorem dX8_append_54 : decode cX8_append 54 = .ok (.getfield 124, 3) := by decide +kernel
theorem dX8_append_57 : decode cX8_append 57 = .ok (.iconst 1, 1) := by decide +kernel
theorem dX8_append_58 : decode cX8_append 58 = .ok (.iadd, 1) := by decide +kernel
theorem dX8_append_59 : decode cX8_append 59 = .ok (.putfield 124, 3) := by decide +kernel
theorem dX8_append_62 : decode cX8_append 62 = .ok (.aload_n 0, 1) := by decide +kernel
theorem dX8_append_63 : decode cX8_append 63 = .ok (.getfield 124, 3) := by decide +kernel
theorem dX8_append_66 : decode cX8_append 66 = .ok (.ireturn, 1) := by decide +kernel
theorem dX8_clearBuffer_0 : decode cX8_clearBuffer 0 = .ok (.aload_n 0, 1) := by decide +kernel
theorem dX8_clearBuffer_1 : decode cX8_clearBuffer 1 = .ok (.iconst 0, 1) := by decide +kernel
theorem dX8_clearBuffer_2 : decode cX8_clearBuffer 2 = .ok (.putfield 28, 3) := by decide +kernel
theorem dX8_clearBuffer_5 : decode cX8_clearBuffer 5 = .ok (.aload_n 0, 1) := by decide +kernel
theorem dX8_clearBuffer_6 : decode cX8_clearBuffer 6 = .ok (.getfield 124, 3) := by decide +kernel
theorem dX8_clearBuffer_9 : decode cX8_clearBuffer 9 = .ok (.istore_n 1, 1) := by decide +kernel
theorem dX8_clearBuffer_10 : decode cX8_clearBuffer 10 = .ok (.aload_n 0, 1) := by decide +kernel
theorem dX8_clearBuffer_11 : decode cX8_clearBuffer 11 = .ok (.iconst 0, 1) := by decide +kernel
theorem dX8_clearBuffer_12 : decode cX8_clearBuffer 12 = .ok (.putfield 124, 3) := by decide +kernel
theorem dX8_clearBuffer_15 : decode cX8_clearBuffer 15 = .ok (.iload_n 1, 1) := by decide +kernel
theorem dX8_clearBuffer_16 : decode cX8_clearBuffer 16 = .ok (.ireturn, 1) := by decide +kernel
theorem dX8_letter_0 : decode cX8_letter 0 = .ok (.aload_n 0, 1) := by decide +kernel
theorem dX8_letter_1 : decode cX8_letter 1 = .ok (.getfield 127, 3) := by decide +kernel
theorem dX8_letter_4 : decode cX8_letter 4 = .ok (.aload_n 0, 1) := by decide +kernel
theorem dX8_letter_5 : decode cX8_letter 5 = .ok (.getfield 124, 3) := by decide +kernel
theorem dX8_letter_8 : decode cX8_letter 8 = .ok (.if_icmp .ge 15, 3) := by decide +kernel
theorem dX8_letter_11 : decode cX8_letter 11 = .ok (.aload_n 0, 1) := by decide +kernel
theorem dX8_letter_12 : decode cX8_letter 12 = .ok (.getfield 16, 3) := by decide +kernel
theorem dX8_letter_15 : decode cX8_letter 15 = .ok (.aload_n 0, 1) := by decide +kernel
theorem dX8_letter_16 : decode cX8_letter 16 = .ok (.getfield 127, 3) := by decide +kernel
theorem dX8_letter_19 : decode cX8_letter 19 = .ok (.iaload, 1) := by decide +kernel
theorem dX8_letter_20 : decode cX8_letter 20 = .ok (.goto 4, 3) := by decide +kernel
theorem dX8_letter_23 : decode cX8_letter 23 = .ok (.iconst (-1), 1) := by decide +kernel
theorem dX8_letter_24 : decode cX8_letter 24 = .ok (.ireturn, 1) := by decide +kernel
theorem dX8_wants_0 : decode cX8_wants 0 = .ok (.aload_n 0, 1) := by decide +kernel
theorem dX8_wants_1 : decode cX8_wants 1 = .ok (.getfield 130, 3) := by decide +kernel
theorem dX8_wants_4 : decode cX8_wants 4 = .ok (.iconst (-1), 1) := by decide +kernel
theorem dX8_wants_5 : decode cX8_wants 5 = .ok (.if_icmp .ne 29, 3) := by decide +kernel
theorem dX8_wants_8 : decode cX8_wants 8 = .ok (.aload_n 0, 1) := by decide +kernel
theorem dX8_wants_9 : decode cX8_wants 9 = .ok (.iload_n 1, 1) := by decide +kernel
theorem dX8_wants_10 : decode cX8_wants 10 = .ok (.ifCond .eq 7, 3) := by decide +kernel
theorem dX8_wants_13 : decode cX8_wants 13 = .ok (.iconst (-1), 1) := by decide +kernel
theorem dX8_wants_14 : decode cX8_wants 14 = .ok (.goto 7, 3) := by decide +kernel
theorem dX8_wants_17 : decode cX8_wants 17 = .ok (.aload_n 0, 1) := by decide +kernel
theorem dX8_wants_18 : decode cX8_wants 18 = .ok (.getfield 127, 3) := by decide +kernel
theorem dX8_wants_21 : decode cX8_wants 21 = .ok (.putfield 130, 3) := by decide +kernel
theorem dX8_wants_24 : decode cX8_wants 24 = .ok (.aload_n 0, 1) := by decide +kernel
theorem dX8_wants_25 : decode cX8_wants 25 = .ok (.dup, 1) := by decide +kernel
theorem dX8_wants_26 : decode cX8_wants 26 = .ok (.getfield 127, 3) := by decide +kernel
theorem dX8_wants_29 : decode cX8_wants 29 = .ok (.iconst 1, 1) := by decide +kernel
theorem dX8_wants_30 : decode cX8_wants 30 = .ok (.iadd, 1) := by decide +kernel
theorem dX8_wants_31 : decode cX8_wants 31 = .ok (.putfield 127, 3) := by decide +kernel
theorem dX8_wants_34 : decode cX8_wants 34 = .ok (.return_, 1) := by decide +kernel
set_option maxRecDepth 20000 in
theorem ggX8_digit_X8_letter : GoodIn wsX8_digit wsX8_letter := goodIn_r _ [5, 6, 7, 8, 17, 18, 19, 20, 21, 22, 23, 24, 25, 26, 27, 28, 29] (by decide +kernel) (by decide +kernel)
set_option maxRecDepth 20000 in
theorem gX8_digit_X8_letter : GoodIn wsX8_digit (wsV RX8 133 RX8 yX8_letter wsX8_letter) := goodIn_app (goodIn_of _ (by decide +kernel)) ggX8_digit_X8_letter
set_option maxRecDepth 20000 in
theorem ggX8_digit_X8_in : GoodIn wsX8_digit wsX8_in := goodIn_r _ [11] (by decide +kernel) (by decide +kernel)
set_option maxRecDepth 20000 in
theorem gX8_digit_X8_in : GoodIn wsX8_digit (va_wsS RX8 32 yX8_in wsX8_in) := goodIn_app (goodIn_of _ (by decide +kernel)) ggX8_digit_X8_in
set_option maxRecDepth 20000 in
theorem ggX8_digit_X8_wants : GoodIn wsX8_digit wsX8_wants := goodIn_r _ [15, 16, 6, 17, 18, 19, 20, 21, 22, 23, 24, 25, 26, 27, 28, 29] (by decide +kernel) (by decide +kernel)
set_option maxRecDepth 20000 in
theorem gX8_digit_X8_wants : GoodIn wsX8_digit (wsV RX8 136 RX8 yX8_wants wsX8_wants) := goodIn_app (goodIn_of _ (by decide +kernel)) ggX8_digit_X8_wants
theorem dX8_digit_0 : decode cX8_digit 0 = .ok (.aload_n 0, 1) := by decide +kernel
theorem dX8_digit_1 : decode cX8_digit 1 = .ok (.invokevirtual 133, 3) := by decide +kernel
theorem dX8_digit_4 : decode cX8_digit 4 = .ok (.bipush 48, 2) := by decide +kernel
theorem dX8_digit_6 : decode cX8_digit 6 = .ok (.isub, 1) := by decide +kernel
theorem dX8_digit_7 : decode cX8_digit 7 = .ok (.istore_n 3, 1) := by decide +kernel
theorem dX8_digit_8 : decode cX8_digit 8 = .ok (.aload_n 0, 1) := by decide +kernel
theorem dX8_digit_9 : decode cX8_digit 9 = .ok (.iload_n 3, 1) := by decide +kernel
theorem dX8_digit_10 : decode cX8_digit 10 = .ok (.iload_n 1, 1) := by decide +kernel
theorem dX8_digit_11 : decode cX8_digit 11 = .ok (.iload_n 2, 1) := by decide +kernel
theorem dX8_digit_12 : decode cX8_digit 12 = .ok (.invokestatic 32, 3) := by decide +kernel
theorem dX8_digit_15 : decode cX8_digit 15 = .ok (.invokevirtual 136, 3) := by decide +kernel
theorem dX8_digit_18 : decode cX8_digit 18 = .ok (.iload_n 3, 1) := by decide +kernel
theorem dX8_digit_19 : decode cX8_digit 19 = .ok (.ireturn, 1) := by decide +kernel
set_option maxRecDepth 20000 in
theorem ggX8_directions_X8_letter : GoodIn wsX8_directions wsX8_letter := goodIn_r _ [7, 2, 8, 9, 13, 14, 15, 16, 17, 18, 19, 20, 21, 22, 23, 24, 25] (by decide +kernel) (by decide +kernel)
set_option maxRecDepth 20000 in
theorem gX8_directions_X8_letter : GoodIn wsX8_directions (wsV RX8 133 RX8 yX8_letter wsX8_letter) := goodIn_app (goodIn_of _ (by decide +kernel)) ggX8_directions_X8_letter
set_option maxRecDepth 20000 in
theorem ggX8_directions_X8_in : GoodIn wsX8_directions wsX8_in := goodIn_r _ [12] (by decide +kernel) (by decide +kernel)
set_option maxRecDepth 20000 in
theorem gX8_directions_X8_in : GoodIn wsX8_directions (va_wsS RX8 32 yX8_in wsX8_in) := goodIn_app (goodIn_of _ (by decide +kernel)) ggX8_directions_X8_in
theorem dX8_directions_0 : decode cX8_directions 0 = .ok (.iconst 0, 1) := by decide +kernel
theorem dX8_directions_1 : decode cX8_directions 1 = .ok (.istore_n 1, 1) := by decide +kernel
theorem dX8_directions_2 : decode cX8_directions 2 = .ok (.iconst (-1), 1) := by decide +kernel
theorem dX8_directions_3 : decode cX8_directions 3 = .ok (.istore_n 2, 1) := by decide +kernel
theorem dX8_directions_4 : decode cX8_directions 4 = .ok (.aload_n 0, 1) := by decide +kernel
theorem dX8_directions_5 : decode cX8_directions 5 = .ok (.getfield 130, 3) := by decide +kernel
theorem dX8_directions_8 : decode cX8_directions 8 = .ok (.iconst (-1), 1) := by decide +kernel
theorem dX8_directions_9 : decode cX8_directions 9 = .ok (.if_icmp .ne 47, 3) := by decide +kernel
theorem dX8_directions_12 : decode cX8_directions 12 = .ok (.aload_n 0, 1) := by decide +kernel
theorem dX8_directions_13 : decode cX8_directions 13 = .ok (.invokevirtual 133, 3) := by decide +kernel
theorem dX8_directions_16 : decode cX8_directions 16 = .ok (.bipush 48, 2) := by decide +kernel
theorem dX8_directions_18 : decode cX8_directions 18 = .ok (.isub, 1) := by decide +kernel
theorem dX8_directions_19 : decode cX8_directions 19 = .ok (.iload_n 2, 1) := by decide +kernel
theorem dX8_directions_20 : decode cX8_directions 20 = .ok (.iconst 1, 1) := by decide +kernel
theorem dX8_directions_21 : decode cX8_directions 21 = .ok (.iadd, 1) := by decide +kernel
theorem dX8_directions_22 : decode cX8_directions 22 = .ok (.iconst 5, 1) := by decide +kernel
theorem dX8_directions_23 : decode cX8_directions 23 = .ok (.invokestatic 32, 3) := by decide +kernel
theorem dX8_directions_26 : decode cX8_directions 26 = .ok (.ifCond .eq 30, 3) := by decide +kernel
theorem dX8_directions_29 : decode cX8_directions 29 = .ok (.aload_n 0, 1) := by decide +kernel
theorem dX8_directions_30 : decode cX8_directions 30 = .ok (.invokevirtual 133, 3) := by decide +kernel
theorem dX8_directions_33 : decode cX8_directions 33 = .ok (.bipush 48, 2) := by decide +kernel
theorem dX8_directions_35 : decode cX8_directions 35 = .ok (.isub, 1) := by decide +kernel
theorem dX8_directions_36 : decode cX8_directions 36 = .ok (.istore_n 2, 1) := by decide +kernel
theorem dX8_directions_37 : decode cX8_directions 37 = .ok (.iload_n 1, 1) := by decide +kernel
theorem dX8_directions_38 : decode cX8_directions 38 = .ok (.iconst 1, 1) := by decide +kernel
theorem dX8_directions_39 : decode cX8_directions 39 = .ok (.iload_n 2, 1) := by decide +kernel
theorem dX8_directions_40 : decode cX8_directions 40 = .ok (.ishl, 1) := by decide +kernel
theorem dX8_directions_41 : decode cX8_directions 41 = .ok (.ior, 1) := by decide +kernel
theorem dX8_directions_42 : decode cX8_directions 42 = .ok (.istore_n 1, 1) := by decide +kernel
theorem dX8_directions_43 : decode cX8_directions 43 = .ok (.aload_n 0, 1) := by decide +kernel
theorem dX8_directions_44 : decode cX8_directions 44 = .ok (.dup, 1) := by decide +kernel
theorem dX8_directions_45 : decode cX8_directions 45 = .ok (.getfield 127, 3) := by decide +kernel
theorem dX8_directions_48 : decode cX8_directions 48 = .ok (.iconst 1, 1) := by decide +kernel
theorem dX8_directions_49 : decode cX8_directions 49 = .ok (.iadd, 1) := by decide +kernel
theorem dX8_directions_50 : decode cX8_directions 50 = .ok (.putfield 127, 3) := by decide +kernel
theorem dX8_directions_53 : decode cX8_directions 53 = .ok (.goto (-49), 3) := by decide +kernel
theorem dX8_directions_56 : decode cX8_directions 56 = .ok (.iload_n 1, 1) := by decide +kernel
theorem dX8_directions_57 : decode cX8_directions 57 = .ok (.ireturn, 1) := by decide +kernel
set_option maxRecDepth 20000 in
theorem ggX8_readRule_X8_digit : GoodIn wsX8_readRule wsX8_digit := goodIn_r _ [8, 9, 10, 11, 7, 12, 3, 13, 14, 15, 16, 17, 18, 19, 20, 21, 2, 26, 27, 28, 29, 30, 31, 32, 33, 34, 35, 36, 37, 38] (by decide +kernel) (by decide +kernel)
set_option maxRecDepth 20000 in
theorem gX8_readRule_X8_digit : GoodIn wsX8_readRule (wsV RX8 140 RX8 yX8_digit wsX8_digit) := goodIn_app (goodIn_of _ (by decide +kernel)) ggX8_readRule_X8_digit
set_option maxRecDepth 20000 in
theorem ggX8_readRule_X8_letter : GoodIn wsX8_readRule wsX8_letter := goodIn_r _ [12, 3, 13, 14, 26, 27, 28, 29, 30, 31, 32, 33, 34, 35, 36, 37, 38] (by decide +kernel) (by decide +kernel)
set_option maxRecDepth 20000 in
theorem gX8_readRule_X8_letter : GoodIn wsX8_readRule (wsV RX8 133 RX8 yX8_letter wsX8_letter) := goodIn_app (goodIn_of _ (by decide +kernel)) ggX8_readRule_X8_letter
set_option maxRecDepth 20000 in
theorem ggX8_readRule_X8_wants : GoodIn wsX8_readRule wsX8_wants := goodIn_r _ [21, 2, 3, 26, 27, 28, 29, 30, 31, 32, 33, 34, 35, 36, 37, 38] (by decide +kernel) (by decide +kernel)
set_option maxRecDepth 20000 in
theorem gX8_readRule_X8_wants : GoodIn wsX8_readRule (wsV RX8 136 RX8 yX8_wants wsX8_wants) := goodIn_app (goodIn_of _ (by decide +kernel)) ggX8_readRule_X8_wants
set_option maxRecDepth 20000 in
theorem ggX8_readRule_X8_directions : GoodIn wsX8_readRule wsX8_directions := goodIn_r _ [25, 2, 3, 9, 10, 11, 7, 12, 13, 14, 15, 16, 17, 26, 27, 28, 29, 30, 31, 32, 33, 34, 35, 36, 37, 38] (by decide +kernel) (by decide +kernel)
set_option maxRecDepth 20000 in
theorem gX8_readRule_X8_directions : GoodIn wsX8_readRule (wsV RX8 143 RX8 yX8_directions wsX8_directions) := goodIn_app (goodIn_of _ (by decide +kernel)) ggX8_readRule_X8_directions
theorem dX8_readRule_0 : decode cX8_readRule 0 = .ok (.aload_n 0, 1) := by decide +kernel
theorem dX8_readRule_1 : decode cX8_readRule 1 = .ok (.getfield 19, 3) := by decide +kernel
theorem dX8_readRule_4 : decode cX8_readRule 4 = .ok (.iload_n 1, 1) := by decide +kernel
theorem dX8_readRule_5 : decode cX8_readRule 5 = .ok (.iconst 1, 1) := by decide +kernel
theorem dX8_readRule_6 : decode cX8_readRule 6 = .ok (.iadd, 1) := by decide +kernel
theorem dX8_readRule_7 : decode cX8_readRule 7 = .ok (.aload_n 0, 1) := by decide +kernel
theorem dX8_readRule_8 : decode cX8_readRule 8 = .ok (.iconst 0, 1) := by decide +kernel
theorem dX8_readRule_9 : decode cX8_readRule 9 = .ok (.bipush 7, 2) := by decide +kernel
theorem dX8_readRule_11 : decode cX8_readRule 11 = .ok (.invokevirtual 140, 3) := by decide +kernel
theorem dX8_readRule_14 : decode cX8_readRule 14 = .ok (.iastore, 1) := by decide +kernel
theorem dX8_readRule_15 : decode cX8_readRule 15 = .ok (.aload_n 0, 1) := by decide +kernel
theorem dX8_readRule_16 : decode cX8_readRule 16 = .ok (.aload_n 0, 1) := by decide +kernel
theorem dX8_readRule_17 : decode cX8_readRule 17 = .ok (.invokevirtual 133, 3) := by decide +kernel
theorem dX8_readRule_20 : decode cX8_readRule 20 = .ok (.bipush 62, 2) := by decide +kernel
theorem dX8_readRule_22 : decode cX8_readRule 22 = .ok (.if_icmp .ne 7, 3) := by decide +kernel
theorem dX8_readRule_25 : decode cX8_readRule 25 = .ok (.iconst 1, 1) := by decide +kernel
theorem dX8_readRule_26 : decode cX8_readRule 26 = .ok (.goto 4, 3) := by decide +kernel
theorem dX8_readRule_29 : decode cX8_readRule 29 = .ok (.iconst 0, 1) := by decide +kernel
theorem dX8_readRule_30 : decode cX8_readRule 30 = .ok (.invokevirtual 136, 3) := by decide +kernel
theorem dX8_readRule_33 : decode cX8_readRule 33 = .ok (.aload_n 0, 1) := by decide +kernel
theorem dX8_readRule_34 : decode cX8_readRule 34 = .ok (.getfield 19, 3) := by decide +kernel
theorem dX8_readRule_37 : decode cX8_readRule 37 = .ok (.iload_n 1, 1) := by decide +kernel
theorem dX8_readRule_38 : decode cX8_readRule 38 = .ok (.iconst 2, 1) := by decide +kernel
theorem dX8_readRule_39 : decode cX8_readRule 39 = .ok (.iadd, 1) := by decide +kernel
theorem dX8_readRule_40 : decode cX8_readRule 40 = .ok (.aload_n 0, 1) := by decide +kernel
theorem dX8_readRule_41 : decode cX8_readRule 41 = .ok (.iconst 0, 1) := by decide +kernel
theorem dX8_readRule_42 : decode cX8_readRule 42 = .ok (.bipush 7, 2) := by decide +kernel
theorem dX8_readRule_44 : decode cX8_readRule 44 = .ok (.invokevirtual 140, 3) := by decide +kernel
theorem dX8_readRule_47 : decode cX8_readRule 47 = .ok (.iastore, 1) := by decide +kernel
theorem dX8_readRule_48 : decode cX8_readRule 48 = .ok (.aload_n 0, 1) := by decide +kernel
theorem dX8_readRule_49 : decode cX8_readRule 49 = .ok (.getfield 19, 3) := by decide +kernel
theorem dX8_readRule_52 : decode cX8_readRule 52 = .ok (.iload_n 1, 1) := by decide +kernel
theorem dX8_readRule_53 : decode cX8_readRule 53 = .ok (.iconst 3, 1) := by decide +kernel
theorem dX8_readRule_54 : decode cX8_readRule 54 = .ok (.iadd, 1) := by decide +kernel
theorem dX8_readRule_55 : decode cX8_readRule 55 = .ok (.iconst 0, 1) := by decide +kernel
theorem dX8_readRule_56 : decode cX8_readRule 56 = .ok (.iastore, 1) := by decide +kernel
theorem dX8_readRule_57 : decode cX8_readRule 57 = .ok (.aload_n 0, 1) := by decide +kernel
theorem dX8_readRule_58 : decode cX8_readRule 58 = .ok (.getfield 130, 3) := by decide +kernel
theorem dX8_readRule_61 : decode cX8_readRule 61 = .ok (.iconst (-1), 1) := by decide +kernel
theorem dX8_readRule_62 : decode cX8_readRule 62 = .ok (.if_icmp .ne 50, 3) := by decide +kernel
theorem dX8_readRule_65 : decode cX8_readRule 65 = .ok (.aload_n 0, 1) := by decide +kernel
theorem dX8_readRule_66 : decode cX8_readRule 66 = .ok (.invokevirtual 133, 3) := by decide +kernel
theorem dX8_readRule_69 : decode cX8_readRule 69 = .ok (.bipush 63, 2) := by decide +kernel
theorem dX8_readRule_71 : decode cX8_readRule 71 = .ok (.if_icmp .ne 41, 3) := by decide +kernel
theorem dX8_readRule_74 : decode cX8_readRule 74 = .ok (.aload_n 0, 1) := by decide +kernel
theorem dX8_readRule_75 : decode cX8_readRule 75 = .ok (.dup, 1) := by decide +kernel
theorem dX8_readRule_76 : decode cX8_readRule 76 = .ok (.getfield 127, 3) := by decide +kernel
theorem dX8_readRule_79 : decode cX8_readRule 79 = .ok (.iconst 1, 1) := by decide +kernel
theorem dX8_readRule_80 : decode cX8_readRule 80 = .ok (.iadd, 1) := by decide +kernel
theorem dX8_readRule_81 : decode cX8_readRule 81 = .ok (.putfield 127, 3) := by decide +kernel
theorem dX8_readRule_84 : decode cX8_readRule 84 = .ok (.aload_n 0, 1) := by decide +kernel
theorem dX8_readRule_85 : decode cX8_readRule 85 = .ok (.getfield 19, 3) := by decide +kernel
theorem dX8_readRule_88 : decode cX8_readRule 88 = .ok (.iload_n 1, 1) := by decide +kernel
theorem dX8_readRule_89 : decode cX8_readRule 89 = .ok (.iconst 3, 1) := by decide +kernel
theorem dX8_readRule_90 : decode cX8_readRule 90 = .ok (.iadd, 1) := by decide +kernel
theorem dX8_readRule_91 : decode cX8_readRule 91 = .ok (.aload_n 0, 1) := by decide +kernel
theorem dX8_readRule_92 : decode cX8_readRule 92 = .ok (.invokevirtual 143, 3) := by decide +kernel
theorem dX8_readRule_95 : decode cX8_readRule 95 = .ok (.iastore, 1) := by decide +kernel
theorem dX8_readRule_96 : decode cX8_readRule 96 = .ok (.aload_n 0, 1) := by decide +kernel
theorem dX8_readRule_97 : decode cX8_readRule 97 = .ok (.getfield 19, 3) := by decide +kernel
theorem dX8_readRule_100 : decode cX8_readRule 100 = .ok (.iload_n 1, 1) := by decide +kernel
theorem dX8_readRule_101 : decode cX8_readRule 101 = .ok (.iconst 3, 1) := by decide +kernel
theorem dX8_readRule_102 : decode cX8_readRule 102 = .ok (.iadd, 1) := by decide +kernel
theorem dX8_readRule_103 : decode cX8_readRule 103 = .ok (.iaload, 1) := by decide +kernel
theorem dX8_readRule_104 : decode cX8_readRule 104 = .ok (.ifCond .ne 8, 3) := by decide +kernel
theorem dX8_readRule_107 : decode cX8_readRule 107 = .ok (.aload_n 0, 1) := by decide +kernel
theorem dX8_readRule_108 : decode cX8_readRule 108 = .ok (.iconst 0, 1) := by decide +kernel
theorem dX8_readRule_109 : decode cX8_readRule 109 = .ok (.invokevirtual 136, 3) := by decide +kernel
theorem dX8_readRule_112 : decode cX8_readRule 112 = .ok (.return_, 1) := by decide +kernel
set_option maxRecDepth 20000 in
theorem ggX8_readOrder_X8_letter : GoodIn wsX8_readOrder wsX8_letter := goodIn_r _ [7, 8, 9, 10, 31, 32, 33, 34, 35, 36, 37, 38, 39, 40, 41, 42, 43] (by decide +kernel) (by decide +kernel)
set_option maxRecDepth 20000 in
theorem gX8_readOrder_X8_letter : GoodIn wsX8_readOrder (wsV RX8 133 RX8 yX8_letter wsX8_letter) := goodIn_app (goodIn_of _ (by decide +kernel)) ggX8_readOrder_X8_letter
set_option maxRecDepth 20000 in
theorem ggX8_readOrder_X8_wants : GoodIn wsX8_readOrder wsX8_wants := goodIn_r _ [14, 15, 8, 31, 32, 33, 34, 35, 36, 37, 38, 39, 40, 41, 42, 43] (by decide +kernel) (by decide +kernel)
set_option maxRecDepth 20000 in
theorem gX8_readOrder_X8_wants : GoodIn wsX8_readOrder (wsV RX8 136 RX8 yX8_wants wsX8_wants) := goodIn_app (goodIn_of _ (by decide +kernel)) ggX8_readOrder_X8_wants
set_option maxRecDepth 20000 in
theorem ggX8_readOrder_X8_directions : GoodIn wsX8_readOrder wsX8_directions := goodIn_r _ [19, 15, 8, 3, 4, 5, 6, 7, 9, 10, 20, 21, 22, 31, 32, 33, 34, 35, 36, 37, 38, 39, 40, 41, 42, 43] (by decide +kernel) (by decide +kernel)
set_option maxRecDepth 20000 in
theorem gX8_readOrder_X8_directions : GoodIn wsX8_readOrder (wsV RX8 143 RX8 yX8_directions wsX8_directions) := goodIn_app (goodIn_of _ (by decide +kernel)) ggX8_readOrder_X8_directions
set_option maxRecDepth 20000 in
theorem ggX8_readOrder_X8_digit : GoodIn wsX8_readOrder wsX8_digit := goodIn_r _ [26, 3, 4, 5, 6, 7, 8, 9, 10, 20, 21, 22, 11, 12, 13, 14, 15, 31, 32, 33, 34, 35, 36, 37, 38, 39, 40, 41, 42, 43] (by decide +kernel) (by decide +kernel)
set_option maxRecDepth 20000 in
theorem gX8_readOrder_X8_digit : GoodIn wsX8_readOrder (wsV RX8 140 RX8 yX8_digit wsX8_digit) := goodIn_app (goodIn_of _ (by decide +kernel)) ggX8_readOrder_X8_digit
set_option maxRecDepth 20000 in
theorem ggX8_readOrder_X8_readRule : GoodIn wsX8_readOrder wsX8_readRule := goodIn_r _ [30, 2, 15, 8, 23, 24, 25, 6, 26, 3, 4, 5, 7, 9, 10, 20, 21, 22, 11, 12, 13, 14, 16, 17, 18, 19, 31, 32, 33, 34, 35, 36, 37, 38, 39, 40, 41, 42, 43] (by decide +kernel) (by decide +kernel)
set_option maxRecDepth 20000 in
theorem gX8_readOrder_X8_readRule : GoodIn wsX8_readOrder (wsV RX8 149 RX8 yX8_readRule wsX8_readRule) := goodIn_app (goodIn_of _ (by decide +kernel)) ggX8_readOrder_X8_readRule
theorem dX8_readOrder_0 : decode cX8_readOrder 0 = .ok (.iconst 4, 1) := by decide +kernel
theorem dX8_readOrder_1 : decode cX8_readOrder 1 = .ok (.aload_n 0, 1) := by decide +kernel
theorem dX8_readOrder_2 : decode cX8_readOrder 2 = .ok (.getfield 146, 3) := by decide +kernel
theorem dX8_readOrder_5 : decode cX8_readOrder 5 = .ok (.imul, 1) := by decide +kernel
theorem dX8_readOrder_6 : decode cX8_readOrder 6 = .ok (.istore_n 1, 1) := by decide +kernel
theorem dX8_readOrder_7 : decode cX8_readOrder 7 = .ok (.aload_n 0, 1) := by decide +kernel
theorem dX8_readOrder_8 : decode cX8_readOrder 8 = .ok (.invokevirtual 133, 3) := by decide +kernel
theorem dX8_readOrder_11 : decode cX8_readOrder 11 = .ok (.istore_n 2, 1) := by decide +kernel
theorem dX8_readOrder_12 : decode cX8_readOrder 12 = .ok (.aload_n 0, 1) := by decide +kernel
theorem dX8_readOrder_13 : decode cX8_readOrder 13 = .ok (.getfield 19, 3) := by decide +kernel
theorem dX8_readOrder_16 : decode cX8_readOrder 16 = .ok (.iload_n 1, 1) := by decide +kernel
theorem dX8_readOrder_17 : decode cX8_readOrder 17 = .ok (.iload_n 2, 1) := by decide +kernel
theorem dX8_readOrder_18 : decode cX8_readOrder 18 = .ok (.iastore, 1) := by decide +kernel
theorem dX8_readOrder_19 : decode cX8_readOrder 19 = .ok (.aload_n 0, 1) := by decide +kernel
theorem dX8_readOrder_20 : decode cX8_readOrder 20 = .ok (.iload_n 2, 1) := by decide +kernel
theorem dX8_readOrder_21 : decode cX8_readOrder 21 = .ok (.bipush 112, 2) := by decide +kernel
theorem dX8_readOrder_23 : decode cX8_readOrder 23 = .ok (.if_icmp .eq 15, 3) := by decide +kernel
theorem dX8_readOrder_26 : decode cX8_readOrder 26 = .ok (.iload_n 2, 1) := by decide +kernel
theorem dX8_readOrder_27 : decode cX8_readOrder 27 = .ok (.bipush 114, 2) := by decide +kernel
theorem dX8_readOrder_29 : decode cX8_readOrder 29 = .ok (.if_icmp .eq 9, 3) := by decide +kernel
theorem dX8_readOrder_32 : decode cX8_readOrder 32 = .ok (.iload_n 2, 1) := by decide +kernel
theorem dX8_readOrder_33 : decode cX8_readOrder 33 = .ok (.bipush 120, 2) := by decide +kernel
theorem dX8_readOrder_35 : decode cX8_readOrder 35 = .ok (.if_icmp .ne 7, 3) := by decide +kernel
theorem dX8_readOrder_38 : decode cX8_readOrder 38 = .ok (.iconst 1, 1) := by decide +kernel
theorem dX8_readOrder_39 : decode cX8_readOrder 39 = .ok (.goto 4, 3) := by decide +kernel
theorem dX8_readOrder_42 : decode cX8_readOrder 42 = .ok (.iconst 0, 1) := by decide +kernel
theorem dX8_readOrder_43 : decode cX8_readOrder 43 = .ok (.invokevirtual 136, 3) := by decide +kernel
theorem dX8_readOrder_46 : decode cX8_readOrder 46 = .ok (.iload_n 2, 1) := by decide +kernel
theorem dX8_readOrder_47 : decode cX8_readOrder 47 = .ok (.bipush 112, 2) := by decide +kernel
theorem dX8_readOrder_49 : decode cX8_readOrder 49 = .ok (.if_icmp .ne 51, 3) := by decide +kernel
theorem dX8_readOrder_52 : decode cX8_readOrder 52 = .ok (.aload_n 0, 1) := by decide +kernel
theorem dX8_readOrder_53 : decode cX8_readOrder 53 = .ok (.getfield 19, 3) := by decide +kernel
theorem dX8_readOrder_56 : decode cX8_readOrder 56 = .ok (.iload_n 1, 1) := by decide +kernel
theorem dX8_readOrder_57 : decode cX8_readOrder 57 = .ok (.iconst 1, 1) := by decide +kernel
theorem dX8_readOrder_58 : decode cX8_readOrder 58 = .ok (.iadd, 1) := by decide +kernel
theorem dX8_readOrder_59 : decode cX8_readOrder 59 = .ok (.aload_n 0, 1) := by decide +kernel
theorem dX8_readOrder_60 : decode cX8_readOrder 60 = .ok (.invokevirtual 143, 3) := by decide +kernel
theorem dX8_readOrder_63 : decode cX8_readOrder 63 = .ok (.iastore, 1) := by decide +kernel
theorem dX8_readOrder_64 : decode cX8_readOrder 64 = .ok (.aload_n 0, 1) := by decide +kernel
theorem dX8_readOrder_65 : decode cX8_readOrder 65 = .ok (.aload_n 0, 1) := by decide +kernel
theorem dX8_readOrder_66 : decode cX8_readOrder 66 = .ok (.invokevirtual 133, 3) := by decide +kernel
theorem dX8_readOrder_69 : decode cX8_readOrder 69 = .ok (.bipush 42, 2) := by decide +kernel
theorem dX8_readOrder_71 : decode cX8_readOrder 71 = .ok (.if_icmp .ne 7, 3) := by decide +kernel
theorem dX8_readOrder_74 : decode cX8_readOrder 74 = .ok (.iconst 1, 1) := by decide +kernel
theorem dX8_readOrder_75 : decode cX8_readOrder 75 = .ok (.goto 4, 3) := by decide +kernel
theorem dX8_readOrder_78 : decode cX8_readOrder 78 = .ok (.iconst 0, 1) := by decide +kernel
theorem dX8_readOrder_79 : decode cX8_readOrder 79 = .ok (.invokevirtual 136, 3) := by decide +kernel
theorem dX8_readOrder_82 : decode cX8_readOrder 82 = .ok (.aload_n 0, 1) := by decide +kernel
theorem dX8_readOrder_83 : decode cX8_readOrder 83 = .ok (.getfield 19, 3) := by decide +kernel
theorem dX8_readOrder_86 : decode cX8_readOrder 86 = .ok (.iload_n 1, 1) := by decide +kernel
theorem dX8_readOrder_87 : decode cX8_readOrder 87 = .ok (.iconst 2, 1) := by decide +kernel
theorem dX8_readOrder_88 : decode cX8_readOrder 88 = .ok (.iadd, 1) := by decide +kernel
theorem dX8_readOrder_89 : decode cX8_readOrder 89 = .ok (.aload_n 0, 1) := by decide +kernel
theorem dX8_readOrder_90 : decode cX8_readOrder 90 = .ok (.iconst 1, 1) := by decide +kernel
theorem dX8_readOrder_91 : decode cX8_readOrder 91 = .ok (.bipush 9, 2) := by decide +kernel
theorem dX8_readOrder_93 : decode cX8_readOrder 93 = .ok (.invokevirtual 140, 3) := by decide +kernel
theorem dX8_readOrder_96 : decode cX8_readOrder 96 = .ok (.iastore, 1) := by decide +kernel
theorem dX8_readOrder_97 : decode cX8_readOrder 97 = .ok (.goto 54, 3) := by decide +kernel
theorem dX8_readOrder_100 : decode cX8_readOrder 100 = .ok (.iload_n 2, 1) := by decide +kernel
theorem dX8_readOrder_101 : decode cX8_readOrder 101 = .ok (.bipush 114, 2) := by decide +kernel
theorem dX8_readOrder_103 : decode cX8_readOrder 103 = .ok (.if_icmp .ne 11, 3) := by decide +kernel
theorem dX8_readOrder_106 : decode cX8_readOrder 106 = .ok (.aload_n 0, 1) := by decide +kernel
theorem dX8_readOrder_107 : decode cX8_readOrder 107 = .ok (.iload_n 1, 1) := by decide +kernel
theorem dX8_readOrder_108 : decode cX8_readOrder 108 = .ok (.invokevirtual 149, 3) := by decide +kernel
theorem dX8_readOrder_111 : decode cX8_readOrder 111 = .ok (.goto 40, 3) := by decide +kernel
theorem dX8_readOrder_114 : decode cX8_readOrder 114 = .ok (.aload_n 0, 1) := by decide +kernel
theorem dX8_readOrder_115 : decode cX8_readOrder 115 = .ok (.getfield 19, 3) := by decide +kernel
theorem dX8_readOrder_118 : decode cX8_readOrder 118 = .ok (.iload_n 1, 1) := by decide +kernel
theorem dX8_readOrder_119 : decode cX8_readOrder 119 = .ok (.iconst 1, 1) := by decide +kernel
theorem dX8_readOrder_120 : decode cX8_readOrder 120 = .ok (.iadd, 1) := by decide +kernel
theorem dX8_readOrder_121 : decode cX8_readOrder 121 = .ok (.aload_n 0, 1) := by decide +kernel
theorem dX8_readOrder_122 : decode cX8_readOrder 122 = .ok (.iconst 0, 1) := by decide +kernel
theorem dX8_readOrder_123 : decode cX8_readOrder 123 = .ok (.iconst 4, 1) := by decide +kernel
theorem dX8_readOrder_124 : decode cX8_readOrder 124 = .ok (.invokevirtual 140, 3) := by decide +kernel
theorem dX8_readOrder_127 : decode cX8_readOrder 127 = .ok (.iastore, 1) := by decide +kernel
theorem dX8_readOrder_128 : decode cX8_readOrder 128 = .ok (.aload_n 0, 1) := by decide +kernel
theorem dX8_readOrder_129 : decode cX8_readOrder 129 = .ok (.getfield 19, 3) := by decide +kernel
theorem dX8_readOrder_132 : decode cX8_readOrder 132 = .ok (.iload_n 1, 1) := by decide +kernel
theorem dX8_readOrder_133 : decode cX8_readOrder 133 = .ok (.iconst 2, 1) := by decide +kernel
theorem dX8_readOrder_134 : decode cX8_readOrder 134 = .ok (.iadd, 1) := by decide +kernel
theorem dX8_readOrder_135 : decode cX8_readOrder 135 = .ok (.aload_n 0, 1) := by decide +kernel
theorem dX8_readOrder_136 : decode cX8_readOrder 136 = .ok (.aload_n 0, 1) := by decide +kernel
theorem dX8_readOrder_137 : decode cX8_readOrder 137 = .ok (.getfield 19, 3) := by decide +kernel
theorem dX8_readOrder_140 : decode cX8_readOrder 140 = .ok (.iload_n 1, 1) := by decide +kernel
theorem dX8_readOrder_141 : decode cX8_readOrder 141 = .ok (.iconst 1, 1) := by decide +kernel
theorem dX8_readOrder_142 : decode cX8_readOrder 142 = .ok (.iadd, 1) := by decide +kernel
theorem dX8_readOrder_143 : decode cX8_readOrder 143 = .ok (.iaload, 1) := by decide +kernel
theorem dX8_readOrder_144 : decode cX8_readOrder 144 = .ok (.iconst 1, 1) := by decide +kernel
theorem dX8_readOrder_145 : decode cX8_readOrder 145 = .ok (.iadd, 1) := by decide +kernel
theorem dX8_readOrder_146 : decode cX8_readOrder 146 = .ok (.iconst 5, 1) := by decide +kernel
theorem dX8_readOrder_147 : decode cX8_readOrder 147 = .ok (.invokevirtual 140, 3) := by decide +kernel
theorem dX8_readOrder_150 : decode cX8_readOrder 150 = .ok (.iastore, 1) := by decide +kernel
theorem dX8_readOrder_151 : decode cX8_readOrder 151 = .ok (.aload_n 0, 1) := by decide +kernel
theorem dX8_readOrder_152 : decode cX8_readOrder 152 = .ok (.dup, 1) := by decide +kernel
theorem dX8_readOrder_153 : decode cX8_readOrder 153 = .ok (.getfield 146, 3) := by decide +kernel
theorem dX8_readOrder_156 : decode cX8_readOrder 156 = .ok (.iconst 1, 1) := by decide +kernel
theorem dX8_readOrder_157 : decode cX8_readOrder 157 = .ok (.iadd, 1) := by decide +kernel
theorem dX8_readOrder_158 : decode cX8_readOrder 158 = .ok (.putfield 146, 3) := by decide +kernel
theorem dX8_readOrder_161 : decode cX8_readOrder 161 = .ok (.return_, 1) := by decide +kernel
set_option maxRecDepth 20000 in
theorem ggX8_readBuffer_X8_readOrder : GoodIn wsX8_readBuffer wsX8_readOrder := goodIn_r _ [9, 1, 10, 11, 12, 13, 8, 14, 2, 4, 15, 16, 17, 18, 19, 3, 20, 21, 22, 23, 24, 25, 26, 27, 28, 29, 30, 31, 32, 33, 34, 35, 36, 37, 38, 39, 40, 41, 42, 43, 44, 45, 46, 47] (by decide +kernel) (by decide +kernel)
set_option maxRecDepth 20000 in
theorem gX8_readBuffer_X8_readOrder : GoodIn wsX8_readBuffer (wsV RX8 152 RX8 yX8_readOrder wsX8_readOrder) := goodIn_app (goodIn_of _ (by decide +kernel)) ggX8_readBuffer_X8_readOrder
set_option maxRecDepth 20000 in
theorem ggX8_readBuffer_X8_letter : GoodIn wsX8_readBuffer wsX8_letter := goodIn_r _ [14, 2, 4, 15, 35, 36, 37, 38, 39, 40, 41, 42, 43, 44, 45, 46, 47] (by decide +kernel) (by decide +kernel)
set_option maxRecDepth 20000 in
theorem gX8_readBuffer_X8_letter : GoodIn wsX8_readBuffer (wsV RX8 133 RX8 yX8_letter wsX8_letter) := goodIn_app (goodIn_of _ (by decide +kernel)) ggX8_readBuffer_X8_letter
set_option maxRecDepth 20000 in
theorem ggX8_readBuffer_X8_wants : GoodIn wsX8_readBuffer wsX8_wants := goodIn_r _ [19, 3, 2, 35, 36, 37, 38, 39, 40, 41, 42, 43, 44, 45, 46, 47] (by decide +kernel) (by decide +kernel)
set_option maxRecDepth 20000 in
theorem gX8_readBuffer_X8_wants : GoodIn wsX8_readBuffer (wsV RX8 136 RX8 yX8_wants wsX8_wants) := goodIn_app (goodIn_of _ (by decide +kernel)) ggX8_readBuffer_X8_wants
theorem dX8_readBuffer_0 : decode cX8_readBuffer 0 = .ok (.aload_n 0, 1) := by decide +kernel
theorem dX8_readBuffer_1 : decode cX8_readBuffer 1 = .ok (.iconst 0, 1) := by decide +kernel
theorem dX8_readBuffer_2 : decode cX8_readBuffer 2 = .ok (.putfield 146, 3) := by decide +kernel
theorem dX8_readBuffer_5 : decode cX8_readBuffer 5 = .ok (.aload_n 0, 1) := by decide +kernel
theorem dX8_readBuffer_6 : decode cX8_readBuffer 6 = .ok (.iconst 0, 1) := by decide +kernel
theorem dX8_readBuffer_7 : decode cX8_readBuffer 7 = .ok (.putfield 127, 3) := by decide +kernel
theorem dX8_readBuffer_10 : decode cX8_readBuffer 10 = .ok (.aload_n 0, 1) := by decide +kernel
theorem dX8_readBuffer_11 : decode cX8_readBuffer 11 = .ok (.iconst (-1), 1) := by decide +kernel
theorem dX8_readBuffer_12 : decode cX8_readBuffer 12 = .ok (.putfield 130, 3) := by decide +kernel
theorem dX8_readBuffer_15 : decode cX8_readBuffer 15 = .ok (.iconst 1, 1) := by decide +kernel
theorem dX8_readBuffer_16 : decode cX8_readBuffer 16 = .ok (.istore_n 1, 1) := by decide +kernel
theorem dX8_readBuffer_17 : decode cX8_readBuffer 17 = .ok (.iload_n 1, 1) := by decide +kernel
theorem dX8_readBuffer_18 : decode cX8_readBuffer 18 = .ok (.ifCond .eq 71, 3) := by decide +kernel
theorem dX8_readBuffer_21 : decode cX8_readBuffer 21 = .ok (.aload_n 0, 1) := by decide +kernel
theorem dX8_readBuffer_22 : decode cX8_readBuffer 22 = .ok (.invokevirtual 152, 3) := by decide +kernel
theorem dX8_readBuffer_25 : decode cX8_readBuffer 25 = .ok (.aload_n 0, 1) := by decide +kernel
theorem dX8_readBuffer_26 : decode cX8_readBuffer 26 = .ok (.getfield 130, 3) := by decide +kernel
theorem dX8_readBuffer_29 : decode cX8_readBuffer 29 = .ok (.iconst (-1), 1) := by decide +kernel
theorem dX8_readBuffer_30 : decode cX8_readBuffer 30 = .ok (.if_icmp .ne 18, 3) := by decide +kernel
theorem dX8_readBuffer_33 : decode cX8_readBuffer 33 = .ok (.aload_n 0, 1) := by decide +kernel
theorem dX8_readBuffer_34 : decode cX8_readBuffer 34 = .ok (.getfield 127, 3) := by decide +kernel
theorem dX8_readBuffer_37 : decode cX8_readBuffer 37 = .ok (.aload_n 0, 1) := by decide +kernel
theorem dX8_readBuffer_38 : decode cX8_readBuffer 38 = .ok (.getfield 124, 3) := by decide +kernel
theorem dX8_readBuffer_41 : decode cX8_readBuffer 41 = .ok (.if_icmp .ge 7, 3) := by decide +kernel
theorem dX8_readBuffer_44 : decode cX8_readBuffer 44 = .ok (.iconst 1, 1) := by decide +kernel
theorem dX8_readBuffer_45 : decode cX8_readBuffer 45 = .ok (.goto 4, 3) := by decide +kernel
theorem dX8_readBuffer_48 : decode cX8_readBuffer 48 = .ok (.iconst 0, 1) := by decide +kernel
theorem dX8_readBuffer_49 : decode cX8_readBuffer 49 = .ok (.istore_n 1, 1) := by decide +kernel
theorem dX8_readBuffer_50 : decode cX8_readBuffer 50 = .ok (.iload_n 1, 1) := by decide +kernel
theorem dX8_readBuffer_51 : decode cX8_readBuffer 51 = .ok (.ifCond .eq (-34), 3) := by decide +kernel
theorem dX8_readBuffer_54 : decode cX8_readBuffer 54 = .ok (.aload_n 0, 1) := by decide +kernel
theorem dX8_readBuffer_55 : decode cX8_readBuffer 55 = .ok (.aload_n 0, 1) := by decide +kernel
theorem dX8_readBuffer_56 : decode cX8_readBuffer 56 = .ok (.invokevirtual 133, 3) := by decide +kernel
theorem dX8_readBuffer_59 : decode cX8_readBuffer 59 = .ok (.bipush 59, 2) := by decide +kernel
theorem dX8_readBuffer_61 : decode cX8_readBuffer 61 = .ok (.if_icmp .ne 7, 3) := by decide +kernel
theorem dX8_readBuffer_64 : decode cX8_readBuffer 64 = .ok (.iconst 1, 1) := by decide +kernel
theorem dX8_readBuffer_65 : decode cX8_readBuffer 65 = .ok (.goto 4, 3) := by decide +kernel
theorem dX8_readBuffer_68 : decode cX8_readBuffer 68 = .ok (.iconst 0, 1) := by decide +kernel
theorem dX8_readBuffer_69 : decode cX8_readBuffer 69 = .ok (.invokevirtual 136, 3) := by decide +kernel
theorem dX8_readBuffer_72 : decode cX8_readBuffer 72 = .ok (.aload_n 0, 1) := by decide +kernel
theorem dX8_readBuffer_73 : decode cX8_readBuffer 73 = .ok (.getfield 130, 3) := by decide +kernel
theorem dX8_readBuffer_76 : decode cX8_readBuffer 76 = .ok (.iconst (-1), 1) := by decide +kernel
theorem dX8_readBuffer_77 : decode cX8_readBuffer 77 = .ok (.if_icmp .ne 7, 3) := by decide +kernel
theorem dX8_readBuffer_80 : decode cX8_readBuffer 80 = .ok (.iconst 1, 1) := by decide +kernel
theorem dX8_readBuffer_81 : decode cX8_readBuffer 81 = .ok (.goto 4, 3) := by decide +kernel
theorem dX8_readBuffer_84 : decode cX8_readBuffer 84 = .ok (.iconst 0, 1) := by decide +kernel
theorem dX8_readBuffer_85 : decode cX8_readBuffer 85 = .ok (.istore_n 1, 1) := by decide +kernel
theorem dX8_readBuffer_86 : decode cX8_readBuffer 86 = .ok (.goto (-69), 3) := by decide +kernel
theorem dX8_readBuffer_89 : decode cX8_readBuffer 89 = .ok (.aload_n 0, 1) := by decide +kernel
theorem dX8_readBuffer_90 : decode cX8_readBuffer 90 = .ok (.getfield 130, 3) := by decide +kernel
theorem dX8_readBuffer_93 : decode cX8_readBuffer 93 = .ok (.ireturn, 1) := by decide +kernel
set_option maxRecDepth 20000 in
theorem ggX8_firstError_X8_readBuffer : GoodIn wsX8_firstError wsX8_readBuffer := goodIn_r _ [7, 8, 9, 10, 2, 11, 12, 13, 6, 14, 15, 16, 17, 18, 19, 20, 21, 22, 23, 24, 25, 26, 27, 28, 29, 30, 31, 32, 33, 34, 35, 36, 37, 38, 39, 40, 41, 42, 43, 44, 45, 46, 47, 48, 49, 50, 51, 52] (by decide +kernel) (by decide +kernel)
set_option maxRecDepth 20000 in
theorem gX8_firstError_X8_readBuffer : GoodIn wsX8_firstError (wsV RX8 155 RX8 yX8_readBuffer wsX8_readBuffer) := goodIn_app (goodIn_of _ (by decide +kernel)) ggX8_firstError_X8_readBuffer
theorem dX8_firstError_0 : decode cX8_firstError 0 = .ok (.aload_n 0, 1) := by decide +kernel
theorem dX8_firstError_1 : decode cX8_firstError 1 = .ok (.iconst 0, 1) := by decide +kernel
theorem dX8_firstError_2 : decode cX8_firstError 2 = .ok (.putfield 28, 3) := by decide +kernel
theorem dX8_firstError_5 : decode cX8_firstError 5 = .ok (.aload_n 0, 1) := by decide +kernel
theorem dX8_firstError_6 : decode cX8_firstError 6 = .ok (.invokevirtual 155, 3) := by decide +kernel
theorem dX8_firstError_9 : decode cX8_firstError 9 = .ok (.istore_n 1, 1) := by decide +kernel
theorem dX8_firstError_10 : decode cX8_firstError 10 = .ok (.iload_n 1, 1) := by decide +kernel
theorem dX8_firstError_11 : decode cX8_firstError 11 = .ok (.iconst (-1), 1) := by decide +kernel
theorem dX8_firstError_12 : decode cX8_firstError 12 = .ok (.if_icmp .ne 10, 3) := by decide +kernel
theorem dX8_firstError_15 : decode cX8_firstError 15 = .ok (.aload_n 0, 1) := by decide +kernel
theorem dX8_firstError_16 : decode cX8_firstError 16 = .ok (.getfield 124, 3) := by decide +kernel
theorem dX8_firstError_19 : decode cX8_firstError 19 = .ok (.goto 4, 3) := by decide +kernel
theorem dX8_firstError_22 : decode cX8_firstError 22 = .ok (.iload_n 1, 1) := by decide +kernel
theorem dX8_firstError_23 : decode cX8_firstError 23 = .ok (.ireturn, 1) := by decide +kernel
set_option maxRecDepth 20000 in
theorem ggX8_does_X8_setClash : GoodIn wsX8_does wsX8_setClash := goodIn_r _ [6, 7, 39, 40, 41, 42, 43, 44, 45, 46, 47, 48, 49, 50, 51] (by decide +kernel) (by decide +kernel)
set_option maxRecDepth 20000 in
theorem gX8_does_X8_setClash : GoodIn wsX8_does (wsV RX8 58 RX8 yX8_setClash wsX8_setClash) := goodIn_app (goodIn_of _ (by decide +kernel)) ggX8_does_X8_setClash
set_option maxRecDepth 20000 in
theorem ggX8_does_X8_whyNotPhase : GoodIn wsX8_does wsX8_whyNotPhase := goodIn_r _ [11, 7, 12, 13, 5, 14, 39, 40, 41, 42, 43, 44, 45, 46, 47, 48, 49, 50, 51] (by decide +kernel) (by decide +kernel)
set_option maxRecDepth 20000 in
theorem gX8_does_X8_whyNotPhase : GoodIn wsX8_does (wsV RX8 62 RX8 yX8_whyNotPhase wsX8_whyNotPhase) := goodIn_app (goodIn_of _ (by decide +kernel)) ggX8_does_X8_whyNotPhase
set_option maxRecDepth 20000 in
theorem ggX8_does_X8_phaseAdded : GoodIn wsX8_does wsX8_phaseAdded := goodIn_r _ [18, 7, 39, 40, 41, 42, 43, 44, 45, 46, 47, 48, 49, 50, 51] (by decide +kernel) (by decide +kernel)
set_option maxRecDepth 20000 in
theorem gX8_does_X8_phaseAdded : GoodIn wsX8_does (wsV RX8 65 RX8 yX8_phaseAdded wsX8_phaseAdded) := goodIn_app (goodIn_of _ (by decide +kernel)) ggX8_does_X8_phaseAdded
set_option maxRecDepth 20000 in
theorem ggX8_does_X8_whyNotRule : GoodIn wsX8_does wsX8_whyNotRule := goodIn_r _ [22, 23, 24, 25, 5, 26, 7, 12, 13, 14, 27, 28, 29, 30, 31, 32, 33, 34, 39, 40, 41, 42, 43, 44, 45, 46, 47, 48, 49, 50, 51] (by decide +kernel) (by decide +kernel)
set_option maxRecDepth 20000 in
theorem gX8_does_X8_whyNotRule : GoodIn wsX8_does (wsV RX8 74 RX8 yX8_whyNotRule wsX8_whyNotRule) := goodIn_app (goodIn_of _ (by decide +kernel)) ggX8_does_X8_whyNotRule
set_option maxRecDepth 20000 in
theorem ggX8_does_X8_ruleAdded : GoodIn wsX8_does wsX8_ruleAdded := goodIn_r _ [38, 7, 27, 28, 29, 5, 30, 31, 32, 33, 34, 39, 40, 41, 42, 43, 44, 45, 46, 47, 48, 49, 50, 51] (by decide +kernel) (by decide +kernel)
set_option maxRecDepth 20000 in
theorem gX8_does_X8_ruleAdded : GoodIn wsX8_does (wsV RX8 78 RX8 yX8_ruleAdded wsX8_ruleAdded) := goodIn_app (goodIn_of _ (by decide +kernel)) ggX8_does_X8_ruleAdded
theorem dX8_does_0 : decode cX8_does 0 = .ok (.aload_n 0, 1) := by decide +kernel
theorem dX8_does_1 : decode cX8_does 1 = .ok (.getfield 19, 3) := by decide +kernel
theorem dX8_does_4 : decode cX8_does 4 = .ok (.iconst 4, 1) := by decide +kernel
theorem dX8_does_5 : decode cX8_does 5 = .ok (.iload_n 1, 1) := by decide +kernel
theorem dX8_does_6 : decode cX8_does 6 = .ok (.imul, 1) := by decide +kernel
theorem dX8_does_7 : decode cX8_does 7 = .ok (.iconst 1, 1) := by decide +kernel
theorem dX8_does_8 : decode cX8_does 8 = .ok (.iadd, 1) := by decide +kernel
theorem dX8_does_9 : decode cX8_does 9 = .ok (.iaload, 1) := by decide +kernel
theorem dX8_does_10 : decode cX8_does 10 = .ok (.istore_n 2, 1) := by decide +kernel
theorem dX8_does_11 : decode cX8_does 11 = .ok (.aload_n 0, 1) := by decide +kernel
theorem dX8_does_12 : decode cX8_does 12 = .ok (.getfield 19, 3) := by decide +kernel
theorem dX8_does_15 : decode cX8_does 15 = .ok (.iconst 4, 1) := by decide +kernel
theorem dX8_does_16 : decode cX8_does 16 = .ok (.iload_n 1, 1) := by decide +kernel
theorem dX8_does_17 : decode cX8_does 17 = .ok (.imul, 1) := by decide +kernel
theorem dX8_does_18 : decode cX8_does 18 = .ok (.iconst 2, 1) := by decide +kernel
theorem dX8_does_19 : decode cX8_does 19 = .ok (.iadd, 1) := by decide +kernel
theorem dX8_does_20 : decode cX8_does 20 = .ok (.iaload, 1) := by decide +kernel
theorem dX8_does_21 : decode cX8_does 21 = .ok (.istore_n 3, 1) := by decide +kernel
theorem dX8_does_22 : decode cX8_does 22 = .ok (.aload_n 0, 1) := by decide +kernel
theorem dX8_does_23 : decode cX8_does 23 = .ok (.getfield 19, 3) := by decide +kernel
theorem dX8_does_26 : decode cX8_does 26 = .ok (.iconst 4, 1) := by decide +kernel
theorem dX8_does_27 : decode cX8_does 27 = .ok (.iload_n 1, 1) := by decide +kernel
theorem dX8_does_28 : decode cX8_does 28 = .ok (.imul, 1) := by decide +kernel
theorem dX8_does_29 : decode cX8_does 29 = .ok (.iconst 3, 1) := by decide +kernel
theorem dX8_does_30 : decode cX8_does 30 = .ok (.iadd, 1) := by decide +kernel
theorem dX8_does_31 : decode cX8_does 31 = .ok (.iaload, 1) := by decide +kernel
theorem dX8_does_32 : decode cX8_does 32 = .ok (.istore 4, 2) := by decide +kernel
theorem dX8_does_34 : decode cX8_does 34 = .ok (.iconst 1, 1) := by decide +kernel
theorem dX8_does_35 : decode cX8_does 35 = .ok (.istore 5, 2) := by decide +kernel
theorem dX8_does_37 : decode cX8_does 37 = .ok (.aload_n 0, 1) := by decide +kernel
theorem dX8_does_38 : decode cX8_does 38 = .ok (.getfield 19, 3) := by decide +kernel
theorem dX8_does_41 : decode cX8_does 41 = .ok (.iconst 4, 1) := by decide +kernel
theorem dX8_does_42 : decode cX8_does 42 = .ok (.iload_n 1, 1) := by decide +kernel
theorem dX8_does_43 : decode cX8_does 43 = .ok (.imul, 1) := by decide +kernel
theorem dX8_does_44 : decode cX8_does 44 = .ok (.iaload, 1) := by decide +kernel
theorem dX8_does_45 : decode cX8_does 45 = .ok (.bipush 120, 2) := by decide +kernel
theorem dX8_does_47 : decode cX8_does 47 = .ok (.if_icmp .ne 13, 3) := by decide +kernel
theorem dX8_does_50 : decode cX8_does 50 = .ok (.aload_n 0, 1) := by decide +kernel
theorem dX8_does_51 : decode cX8_does 51 = .ok (.iload_n 2, 1) := by decide +kernel
theorem dX8_does_52 : decode cX8_does 52 = .ok (.iload_n 3, 1) := by decide +kernel
theorem dX8_does_53 : decode cX8_does 53 = .ok (.iconst 1, 1) := by decide +kernel
theorem dX8_does_54 : decode cX8_does 54 = .ok (.invokevirtual 58, 3) := by decide +kernel
theorem dX8_does_57 : decode cX8_does 57 = .ok (.goto 79, 3) := by decide +kernel
theorem dX8_does_60 : decode cX8_does 60 = .ok (.aload_n 0, 1) := by decide +kernel
theorem dX8_does_61 : decode cX8_does 61 = .ok (.getfield 19, 3) := by decide +kernel
theorem dX8_does_64 : decode cX8_does 64 = .ok (.iconst 4, 1) := by decide +kernel
theorem dX8_does_65 : decode cX8_does 65 = .ok (.iload_n 1, 1) := by decide +kernel
theorem dX8_does_66 : decode cX8_does 66 = .ok (.imul, 1) := by decide +kernel
theorem dX8_does_67 : decode cX8_does 67 = .ok (.iaload, 1) := by decide +kernel
theorem dX8_does_68 : decode cX8_does 68 = .ok (.bipush 112, 2) := by decide +kernel
theorem dX8_does_70 : decode cX8_does 70 = .ok (.if_icmp .ne 34, 3) := by decide +kernel
theorem dX8_does_73 : decode cX8_does 73 = .ok (.aload_n 0, 1) := by decide +kernel
theorem dX8_does_74 : decode cX8_does 74 = .ok (.iload_n 2, 1) := by decide +kernel
theorem dX8_does_75 : decode cX8_does 75 = .ok (.iload_n 3, 1) := by decide +kernel
theorem dX8_does_76 : decode cX8_does 76 = .ok (.invokevirtual 62, 3) := by decide +kernel
theorem dX8_does_79 : decode cX8_does 79 = .ok (.ifCond .ne 7, 3) := by decide +kernel
theorem dX8_does_82 : decode cX8_does 82 = .ok (.iconst 1, 1) := by decide +kernel
theorem dX8_does_83 : decode cX8_does 83 = .ok (.goto 4, 3) := by decide +kernel
theorem dX8_does_86 : decode cX8_does 86 = .ok (.iconst 0, 1) := by decide +kernel
theorem dX8_does_87 : decode cX8_does 87 = .ok (.istore 5, 2) := by decide +kernel
theorem dX8_does_89 : decode cX8_does 89 = .ok (.iload 5, 2) := by decide +kernel
theorem dX8_does_91 : decode cX8_does 91 = .ok (.ifCond .eq 45, 3) := by decide +kernel
theorem dX8_does_94 : decode cX8_does 94 = .ok (.aload_n 0, 1) := by decide +kernel
theorem dX8_does_95 : decode cX8_does 95 = .ok (.iload_n 2, 1) := by decide +kernel
theorem dX8_does_96 : decode cX8_does 96 = .ok (.iload_n 3, 1) := by decide +kernel
theorem dX8_does_97 : decode cX8_does 97 = .ok (.invokevirtual 65, 3) := by decide +kernel
theorem dX8_does_100 : decode cX8_does 100 = .ok (.pop, 1) := by decide +kernel
theorem dX8_does_101 : decode cX8_does 101 = .ok (.goto 35, 3) := by decide +kernel
theorem dX8_does_104 : decode cX8_does 104 = .ok (.aload_n 0, 1) := by decide +kernel
theorem dX8_does_105 : decode cX8_does 105 = .ok (.iload_n 2, 1) := by decide +kernel
theorem dX8_does_106 : decode cX8_does 106 = .ok (.iload_n 3, 1) := by decide +kernel
theorem dX8_does_107 : decode cX8_does 107 = .ok (.iload 4, 2) := by decide +kernel
theorem dX8_does_109 : decode cX8_does 109 = .ok (.invokevirtual 74, 3) := by decide +kernel
theorem dX8_does_112 : decode cX8_does 112 = .ok (.ifCond .ne 7, 3) := by decide +kernel
theorem dX8_does_115 : decode cX8_does 115 = .ok (.iconst 1, 1) := by decide +kernel
theorem dX8_does_116 : decode cX8_does 116 = .ok (.goto 4, 3) := by decide +kernel
theorem dX8_does_119 : decode cX8_does 119 = .ok (.iconst 0, 1) := by decide +kernel
theorem dX8_does_120 : decode cX8_does 120 = .ok (.istore 5, 2) := by decide +kernel
theorem dX8_does_122 : decode cX8_does 122 = .ok (.iload 5, 2) := by decide +kernel
theorem dX8_does_124 : decode cX8_does 124 = .ok (.ifCond .eq 12, 3) := by decide +kernel
theorem dX8_does_127 : decode cX8_does 127 = .ok (.aload_n 0, 1) := by decide +kernel
theorem dX8_does_128 : decode cX8_does 128 = .ok (.iload_n 2, 1) := by decide +kernel
theorem dX8_does_129 : decode cX8_does 129 = .ok (.iload_n 3, 1) := by decide +kernel
theorem dX8_does_130 : decode cX8_does 130 = .ok (.iload 4, 2) := by decide +kernel
theorem dX8_does_132 : decode cX8_does 132 = .ok (.invokevirtual 78, 3) := by decide +kernel
theorem dX8_does_135 : decode cX8_does 135 = .ok (.pop, 1) := by decide +kernel
theorem dX8_does_136 : decode cX8_does 136 = .ok (.iload 5, 2) := by decide +kernel
theorem dX8_does_138 : decode cX8_does 138 = .ok (.ireturn, 1) := by decide +kernel
set_option maxRecDepth 20000 in
theorem ggX8_build_X8_readBuffer : GoodIn wsX8_build wsX8_readBuffer := goodIn_r _ [8, 2, 9, 10, 3, 11, 12, 13, 7, 14, 15, 16, 17, 18, 19, 20, 21, 22, 23, 24, 25, 26, 27, 28, 29, 30, 31, 32, 33, 34, 35, 36, 37, 38, 39, 83, 84, 85, 86, 87, 88, 89, 90, 91, 92, 93, 94, 95] (by decide +kernel) (by decide +kernel)
set_option maxRecDepth 20000 in
theorem gX8_build_X8_readBuffer : GoodIn wsX8_build (wsV RX8 155 RX8 yX8_readBuffer wsX8_readBuffer) := goodIn_app (goodIn_of _ (by decide +kernel)) ggX8_build_X8_readBuffer
set_option maxRecDepth 20000 in
theorem ggX8_build_X8_save : GoodIn wsX8_build wsX8_save := goodIn_r _ [43, 44, 45, 46, 83, 84, 85, 86, 87, 88, 89, 90, 91, 92, 93, 94, 95] (by decide +kernel) (by decide +kernel)
set_option maxRecDepth 20000 in
theorem gX8_build_X8_save : GoodIn wsX8_build (wsV RX8 51 RX8 yX8_save wsX8_save) := goodIn_app (goodIn_of _ (by decide +kernel)) ggX8_build_X8_save
set_option maxRecDepth 20000 in
theorem ggX8_build_X8_does : GoodIn wsX8_build wsX8_does := goodIn_r _ [50, 15, 51, 52, 53, 7, 54, 46, 55, 56, 57, 58, 29, 30, 31, 59, 60, 61, 62, 63, 64, 65, 66, 67, 68, 69, 70, 71, 72, 73, 74, 75, 76, 77, 78, 79, 80, 81, 82, 83, 84, 85, 86, 87, 88, 89, 90, 91, 92, 93, 94, 95] (by decide +kernel) (by decide +kernel)
set_option maxRecDepth 20000 in
theorem gX8_build_X8_does : GoodIn wsX8_build (wsV RX8 158 RX8 yX8_does wsX8_does) := goodIn_app (goodIn_of _ (by decide +kernel)) ggX8_build_X8_does
theorem dX8_build_0 : decode cX8_build 0 = .ok (.aload_n 0, 1) := by decide +kernel
theorem dX8_build_1 : decode cX8_build 1 = .ok (.aload_n 0, 1) := by decide +kernel
theorem dX8_build_2 : decode cX8_build 2 = .ok (.invokevirtual 155, 3) := by decide +kernel
theorem dX8_build_5 : decode cX8_build 5 = .ok (.iconst (-1), 1) := by decide +kernel
theorem dX8_build_6 : decode cX8_build 6 = .ok (.if_icmp .ne 7, 3) := by decide +kernel
theorem dX8_build_9 : decode cX8_build 9 = .ok (.iconst 0, 1) := by decide +kernel
theorem dX8_build_10 : decode cX8_build 10 = .ok (.goto 4, 3) := by decide +kernel
theorem dX8_build_13 : decode cX8_build 13 = .ok (.iconst 1, 1) := by decide +kernel
theorem dX8_build_14 : decode cX8_build 14 = .ok (.putfield 28, 3) := by decide +kernel
theorem dX8_build_17 : decode cX8_build 17 = .ok (.aload_n 0, 1) := by decide +kernel
theorem dX8_build_18 : decode cX8_build 18 = .ok (.getfield 28, 3) := by decide +kernel
theorem dX8_build_21 : decode cX8_build 21 = .ok (.ifCond .le 5, 3) := by decide +kernel
theorem dX8_build_24 : decode cX8_build 24 = .ok (.iconst 0, 1) := by decide +kernel
theorem dX8_build_25 : decode cX8_build 25 = .ok (.ireturn, 1) := by decide +kernel
theorem dX8_build_26 : decode cX8_build 26 = .ok (.aload_n 0, 1) := by decide +kernel
theorem dX8_build_27 : decode cX8_build 27 = .ok (.invokevirtual 51, 3) := by decide +kernel
theorem dX8_build_30 : decode cX8_build 30 = .ok (.iconst 0, 1) := by decide +kernel
theorem dX8_build_31 : decode cX8_build 31 = .ok (.istore_n 1, 1) := by decide +kernel
theorem dX8_build_32 : decode cX8_build 32 = .ok (.iload_n 1, 1) := by decide +kernel
theorem dX8_build_33 : decode cX8_build 33 = .ok (.aload_n 0, 1) := by decide +kernel
theorem dX8_build_34 : decode cX8_build 34 = .ok (.getfield 146, 3) := by decide +kernel
theorem dX8_build_37 : decode cX8_build 37 = .ok (.if_icmp .ge 17, 3) := by decide +kernel
theorem dX8_build_40 : decode cX8_build 40 = .ok (.aload_n 0, 1) := by decide +kernel
theorem dX8_build_41 : decode cX8_build 41 = .ok (.iload_n 1, 1) := by decide +kernel
theorem dX8_build_42 : decode cX8_build 42 = .ok (.invokevirtual 158, 3) := by decide +kernel
theorem dX8_build_45 : decode cX8_build 45 = .ok (.ifCond .eq 9, 3) := by decide +kernel
theorem dX8_build_48 : decode cX8_build 48 = .ok (.iinc 1 1, 3) := by decide +kernel
theorem dX8_build_51 : decode cX8_build 51 = .ok (.goto (-19), 3) := by decide +kernel
theorem dX8_build_54 : decode cX8_build 54 = .ok (.aload_n 0, 1) := by decide +kernel
theorem dX8_build_55 : decode cX8_build 55 = .ok (.iconst 0, 1) := by decide +kernel
theorem dX8_build_56 : decode cX8_build 56 = .ok (.putfield 124, 3) := by decide +kernel
theorem dX8_build_59 : decode cX8_build 59 = .ok (.iload_n 1, 1) := by decide +kernel
theorem dX8_build_60 : decode cX8_build 60 = .ok (.ireturn, 1) := by decide +kernel
set_option maxRecDepth 20000 in
theorem ggX8_comers_X8_rules : GoodIn wsX8_comers wsX8_rules := goodIn_r _ [6, 7, 8, 9, 5, 10, 1, 15, 16, 17, 18, 19, 20, 21, 22, 23, 24, 25, 26, 27] (by decide +kernel) (by decide +kernel)
set_option maxRecDepth 20000 in
theorem gX8_comers_X8_rules : GoodIn wsX8_comers (wsV RX8 71 RX8 yX8_rules wsX8_rules) := goodIn_app (goodIn_of _ (by decide +kernel)) ggX8_comers_X8_rules
set_option maxRecDepth 20000 in
theorem ggX8_comers_X8_goal : GoodIn wsX8_comers wsX8_goal := goodIn_r _ [14, 7, 8, 9, 5, 10, 1, 15, 16, 17, 18, 19, 20, 21, 22, 23, 24, 25, 26, 27] (by decide +kernel) (by decide +kernel)
set_option maxRecDepth 20000 in
theorem gX8_comers_X8_goal : GoodIn wsX8_comers (wsV RX8 111 RX8 yX8_goal wsX8_goal) := goodIn_app (goodIn_of _ (by decide +kernel)) ggX8_comers_X8_goal
theorem dX8_comers_0 : decode cX8_comers 0 = .ok (.aload_n 0, 1) := by decide +kernel
theorem dX8_comers_1 : decode cX8_comers 1 = .ok (.getfield 7, 3) := by decide +kernel
theorem dX8_comers_4 : decode cX8_comers 4 = .ok (.iconst 2, 1) := by decide +kernel
theorem dX8_comers_5 : decode cX8_comers 5 = .ok (.iaload, 1) := by decide +kernel
theorem dX8_comers_6 : decode cX8_comers 6 = .ok (.iconst (-1), 1) := by decide +kernel
theorem dX8_comers_7 : decode cX8_comers 7 = .ok (.if_icmp .ne 7, 3) := by decide +kernel
theorem dX8_comers_10 : decode cX8_comers 10 = .ok (.iconst 0, 1) := by decide +kernel
theorem dX8_comers_11 : decode cX8_comers 11 = .ok (.goto 11, 3) := by decide +kernel
theorem dX8_comers_14 : decode cX8_comers 14 = .ok (.iconst 1, 1) := by decide +kernel
theorem dX8_comers_15 : decode cX8_comers 15 = .ok (.aload_n 0, 1) := by decide +kernel
theorem dX8_comers_16 : decode cX8_comers 16 = .ok (.getfield 7, 3) := by decide +kernel
theorem dX8_comers_19 : decode cX8_comers 19 = .ok (.iconst 2, 1) := by decide +kernel
theorem dX8_comers_20 : decode cX8_comers 20 = .ok (.iaload, 1) := by decide +kernel
theorem dX8_comers_21 : decode cX8_comers 21 = .ok (.ishl, 1) := by decide +kernel
theorem dX8_comers_22 : decode cX8_comers 22 = .ok (.istore_n 1, 1) := by decide +kernel
theorem dX8_comers_23 : decode cX8_comers 23 = .ok (.iconst 0, 1) := by decide +kernel
theorem dX8_comers_24 : decode cX8_comers 24 = .ok (.istore_n 2, 1) := by decide +kernel
theorem dX8_comers_25 : decode cX8_comers 25 = .ok (.iload_n 2, 1) := by decide +kernel
theorem dX8_comers_26 : decode cX8_comers 26 = .ok (.bipush 8, 2) := by decide +kernel
theorem dX8_comers_28 : decode cX8_comers 28 = .ok (.if_icmp .ge 67, 3) := by decide +kernel
theorem dX8_comers_31 : decode cX8_comers 31 = .ok (.iconst 0, 1) := by decide +kernel
theorem dX8_comers_32 : decode cX8_comers 32 = .ok (.istore_n 3, 1) := by decide +kernel
theorem dX8_comers_33 : decode cX8_comers 33 = .ok (.iload_n 3, 1) := by decide +kernel
theorem dX8_comers_34 : decode cX8_comers 34 = .ok (.aload_n 0, 1) := by decide +kernel
theorem dX8_comers_35 : decode cX8_comers 35 = .ok (.getfield 7, 3) := by decide +kernel
theorem dX8_comers_38 : decode cX8_comers 38 = .ok (.iconst 0, 1) := by decide +kernel
theorem dX8_comers_39 : decode cX8_comers 39 = .ok (.iaload, 1) := by decide +kernel
theorem dX8_comers_40 : decode cX8_comers 40 = .ok (.if_icmp .ge 49, 3) := by decide +kernel
theorem dX8_comers_43 : decode cX8_comers 43 = .ok (.iconst 0, 1) := by decide +kernel
theorem dX8_comers_44 : decode cX8_comers 44 = .ok (.istore 4, 2) := by decide +kernel
theorem dX8_comers_46 : decode cX8_comers 46 = .ok (.iload 4, 2) := by decide +kernel
theorem dX8_comers_48 : decode cX8_comers 48 = .ok (.aload_n 0, 1) := by decide +kernel
theorem dX8_comers_49 : decode cX8_comers 49 = .ok (.iload_n 3, 1) := by decide +kernel
theorem dX8_comers_50 : decode cX8_comers 50 = .ok (.invokevirtual 71, 3) := by decide +kernel
theorem dX8_comers_53 : decode cX8_comers 53 = .ok (.if_icmp .ge 30, 3) := by decide +kernel
theorem dX8_comers_56 : decode cX8_comers 56 = .ok (.iload_n 1, 1) := by decide +kernel
theorem dX8_comers_57 : decode cX8_comers 57 = .ok (.iload_n 3, 1) := by decide +kernel
theorem dX8_comers_58 : decode cX8_comers 58 = .ok (.ishr, 1) := by decide +kernel
theorem dX8_comers_59 : decode cX8_comers 59 = .ok (.iconst 1, 1) := by decide +kernel
theorem dX8_comers_60 : decode cX8_comers 60 = .ok (.iand, 1) := by decide +kernel
theorem dX8_comers_61 : decode cX8_comers 61 = .ok (.iconst 1, 1) := by decide +kernel
theorem dX8_comers_62 : decode cX8_comers 62 = .ok (.if_icmp .ne 21, 3) := by decide +kernel
theorem dX8_comers_65 : decode cX8_comers 65 = .ok (.iload_n 1, 1) := by decide +kernel
theorem dX8_comers_66 : decode cX8_comers 66 = .ok (.iconst 1, 1) := by decide +kernel
theorem dX8_comers_67 : decode cX8_comers 67 = .ok (.aload_n 0, 1) := by decide +kernel
theorem dX8_comers_68 : decode cX8_comers 68 = .ok (.iload_n 3, 1) := by decide +kernel
theorem dX8_comers_69 : decode cX8_comers 69 = .ok (.iload 4, 2) := by decide +kernel
theorem dX8_comers_71 : decode cX8_comers 71 = .ok (.invokevirtual 111, 3) := by decide +kernel
theorem dX8_comers_74 : decode cX8_comers 74 = .ok (.ishl, 1) := by decide +kernel
theorem dX8_comers_75 : decode cX8_comers 75 = .ok (.ior, 1) := by decide +kernel
theorem dX8_comers_76 : decode cX8_comers 76 = .ok (.istore_n 1, 1) := by decide +kernel
theorem dX8_comers_77 : decode cX8_comers 77 = .ok (.iinc 4 1, 3) := by decide +kernel
theorem dX8_comers_80 : decode cX8_comers 80 = .ok (.goto (-34), 3) := by decide +kernel
theorem dX8_comers_83 : decode cX8_comers 83 = .ok (.iinc 3 1, 3) := by decide +kernel
theorem dX8_comers_86 : decode cX8_comers 86 = .ok (.goto (-53), 3) := by decide +kernel
theorem dX8_comers_89 : decode cX8_comers 89 = .ok (.iinc 2 1, 3) := by decide +kernel
theorem dX8_comers_92 : decode cX8_comers 92 = .ok (.goto (-67), 3) := by decide +kernel
theorem dX8_comers_95 : decode cX8_comers 95 = .ok (.iload_n 1, 1) := by decide +kernel
theorem dX8_comers_96 : decode cX8_comers 96 = .ok (.ireturn, 1) := by decide +kernel
set_option maxRecDepth 20000 in
theorem ggX8_isSure_X8_askers : GoodIn wsX8_isSure wsX8_askers := goodIn_r _ [5, 6, 7, 8, 4, 9, 10, 11, 12, 13, 14, 15, 16, 17, 18, 19, 20, 21, 22, 23] (by decide +kernel) (by decide +kernel)
set_option maxRecDepth 20000 in
theorem gX8_isSure_X8_askers : GoodIn wsX8_isSure (wsV RX8 92 RX8 yX8_askers wsX8_askers) := goodIn_app (goodIn_of _ (by decide +kernel)) ggX8_isSure_X8_askers
theorem dX8_isSure_0 : decode cX8_isSure 0 = .ok (.aload_n 0, 1) := by decide +kernel
theorem dX8_isSure_1 : decode cX8_isSure 1 = .ok (.iload_n 1, 1) := by decide +kernel
theorem dX8_isSure_2 : decode cX8_isSure 2 = .ok (.iload_n 2, 1) := by decide +kernel
theorem dX8_isSure_3 : decode cX8_isSure 3 = .ok (.invokevirtual 92, 3) := by decide +kernel
theorem dX8_isSure_6 : decode cX8_isSure 6 = .ok (.ifCond .eq 17, 3) := by decide +kernel
theorem dX8_isSure_9 : decode cX8_isSure 9 = .ok (.aload_n 0, 1) := by decide +kernel
theorem dX8_isSure_10 : decode cX8_isSure 10 = .ok (.iload_n 1, 1) := by decide +kernel
theorem dX8_isSure_11 : decode cX8_isSure 11 = .ok (.iload_n 2, 1) := by decide +kernel
theorem dX8_isSure_12 : decode cX8_isSure 12 = .ok (.invokevirtual 92, 3) := by decide +kernel
theorem dX8_isSure_15 : decode cX8_isSure 15 = .ok (.iload_n 3, 1) := by decide +kernel
theorem dX8_isSure_16 : decode cX8_isSure 16 = .ok (.ishr, 1) := by decide +kernel
theorem dX8_isSure_17 : decode cX8_isSure 17 = .ok (.iconst 1, 1) := by decide +kernel
theorem dX8_isSure_18 : decode cX8_isSure 18 = .ok (.iand, 1) := by decide +kernel
theorem dX8_isSure_19 : decode cX8_isSure 19 = .ok (.iconst 1, 1) := by decide +kernel
theorem dX8_isSure_20 : decode cX8_isSure 20 = .ok (.if_icmp .ne 7, 3) := by decide +kernel
theorem dX8_isSure_23 : decode cX8_isSure 23 = .ok (.iconst 1, 1) := by decide +kernel
theorem dX8_isSure_24 : decode cX8_isSure 24 = .ok (.goto 4, 3) := by decide +kernel
theorem dX8_isSure_27 : decode cX8_isSure 27 = .ok (.iconst 0, 1) := by decide +kernel
theorem dX8_isSure_28 : decode cX8_isSure 28 = .ok (.ireturn, 1) := by decide +kernel
set_option maxRecDepth 20000 in
theorem ggX8_canFollow_X8_isSure : GoodIn wsX8_canFollow wsX8_isSure := goodIn_r _ [5, 6, 7, 8, 4, 9, 10, 11, 12, 13, 14, 15, 16, 17, 18, 19, 20, 21, 22, 23, 24, 25, 26, 27] (by decide +kernel) (by decide +kernel)
set_option maxRecDepth 20000 in
theorem gX8_canFollow_X8_isSure : GoodIn wsX8_canFollow (wsV RX8 161 RX8 yX8_isSure wsX8_isSure) := goodIn_app (goodIn_of _ (by decide +kernel)) ggX8_canFollow_X8_isSure
set_option maxRecDepth 20000 in
theorem ggX8_canFollow_X8_askers : GoodIn wsX8_canFollow wsX8_askers := goodIn_r _ [9, 10, 11, 12, 4, 13, 14, 15, 16, 17, 18, 19, 20, 21, 22, 23, 24, 25, 26, 27] (by decide +kernel) (by decide +kernel)
set_option maxRecDepth 20000 in
theorem gX8_canFollow_X8_askers : GoodIn wsX8_canFollow (wsV RX8 92 RX8 yX8_askers wsX8_askers) := goodIn_app (goodIn_of _ (by decide +kernel)) ggX8_canFollow_X8_askers
theorem dX8_canFollow_0 : decode cX8_canFollow 0 = .ok (.iconst 0, 1) := by decide +kernel
theorem dX8_canFollow_1 : decode cX8_canFollow 1 = .ok (.istore 4, 2) := by decide +kernel
theorem dX8_canFollow_3 : decode cX8_canFollow 3 = .ok (.iconst 1, 1) := by decide +kernel
theorem dX8_canFollow_4 : decode cX8_canFollow 4 = .ok (.istore 5, 2) := by decide +kernel
theorem dX8_canFollow_6 : decode cX8_canFollow 6 = .ok (.iconst 0, 1) := by decide +kernel
theorem dX8_canFollow_7 : decode cX8_canFollow 7 = .ok (.istore 6, 2) := by decide +kernel
theorem dX8_canFollow_9 : decode cX8_canFollow 9 = .ok (.iload 6, 2) := by decide +kernel
theorem dX8_canFollow_11 : decode cX8_canFollow 11 = .ok (.iload_n 2, 1) := by decide +kernel
theorem dX8_canFollow_12 : decode cX8_canFollow 12 = .ok (.if_icmp .ge 44, 3) := by decide +kernel
theorem dX8_canFollow_15 : decode cX8_canFollow 15 = .ok (.iload 5, 2) := by decide +kernel
theorem dX8_canFollow_17 : decode cX8_canFollow 17 = .ok (.ifCond .eq 18, 3) := by decide +kernel
theorem dX8_canFollow_20 : decode cX8_canFollow 20 = .ok (.aload_n 0, 1) := by decide +kernel
theorem dX8_canFollow_21 : decode cX8_canFollow 21 = .ok (.iload_n 1, 1) := by decide +kernel
theorem dX8_canFollow_22 : decode cX8_canFollow 22 = .ok (.iload 6, 2) := by decide +kernel
theorem dX8_canFollow_24 : decode cX8_canFollow 24 = .ok (.iload_n 3, 1) := by decide +kernel
theorem dX8_canFollow_25 : decode cX8_canFollow 25 = .ok (.invokevirtual 161, 3) := by decide +kernel
theorem dX8_canFollow_28 : decode cX8_canFollow 28 = .ok (.ifCond .ne 7, 3) := by decide +kernel
theorem dX8_canFollow_31 : decode cX8_canFollow 31 = .ok (.iconst 1, 1) := by decide +kernel
theorem dX8_canFollow_32 : decode cX8_canFollow 32 = .ok (.goto 4, 3) := by decide +kernel
theorem dX8_canFollow_35 : decode cX8_canFollow 35 = .ok (.iconst 0, 1) := by decide +kernel
theorem dX8_canFollow_36 : decode cX8_canFollow 36 = .ok (.istore 5, 2) := by decide +kernel
theorem dX8_canFollow_38 : decode cX8_canFollow 38 = .ok (.iload 4, 2) := by decide +kernel
theorem dX8_canFollow_40 : decode cX8_canFollow 40 = .ok (.aload_n 0, 1) := by decide +kernel
theorem dX8_canFollow_41 : decode cX8_canFollow 41 = .ok (.iload_n 1, 1) := by decide +kernel
theorem dX8_canFollow_42 : decode cX8_canFollow 42 = .ok (.iload 6, 2) := by decide +kernel
theorem dX8_canFollow_44 : decode cX8_canFollow 44 = .ok (.invokevirtual 92, 3) := by decide +kernel
theorem dX8_canFollow_47 : decode cX8_canFollow 47 = .ok (.ior, 1) := by decide +kernel
theorem dX8_canFollow_48 : decode cX8_canFollow 48 = .ok (.istore 4, 2) := by decide +kernel
theorem dX8_canFollow_50 : decode cX8_canFollow 50 = .ok (.iinc 6 1, 3) := by decide +kernel
theorem dX8_canFollow_53 : decode cX8_canFollow 53 = .ok (.goto (-44), 3) := by decide +kernel
theorem dX8_canFollow_56 : decode cX8_canFollow 56 = .ok (.iload 5, 2) := by decide +kernel
theorem dX8_canFollow_58 : decode cX8_canFollow 58 = .ok (.ifCond .eq 31, 3) := by decide +kernel
theorem dX8_canFollow_61 : decode cX8_canFollow 61 = .ok (.aload_n 0, 1) := by decide +kernel
theorem dX8_canFollow_62 : decode cX8_canFollow 62 = .ok (.iload_n 1, 1) := by decide +kernel
theorem dX8_canFollow_63 : decode cX8_canFollow 63 = .ok (.iload_n 2, 1) := by decide +kernel
theorem dX8_canFollow_64 : decode cX8_canFollow 64 = .ok (.iload_n 3, 1) := by decide +kernel
theorem dX8_canFollow_65 : decode cX8_canFollow 65 = .ok (.invokevirtual 161, 3) := by decide +kernel
theorem dX8_canFollow_68 : decode cX8_canFollow 68 = .ok (.ifCond .ne 17, 3) := by decide +kernel
theorem dX8_canFollow_71 : decode cX8_canFollow 71 = .ok (.aload_n 0, 1) := by decide +kernel
theorem dX8_canFollow_72 : decode cX8_canFollow 72 = .ok (.iload_n 1, 1) := by decide +kernel
theorem dX8_canFollow_73 : decode cX8_canFollow 73 = .ok (.iload_n 2, 1) := by decide +kernel
theorem dX8_canFollow_74 : decode cX8_canFollow 74 = .ok (.invokevirtual 92, 3) := by decide +kernel
theorem dX8_canFollow_77 : decode cX8_canFollow 77 = .ok (.iload 4, 2) := by decide +kernel
theorem dX8_canFollow_79 : decode cX8_canFollow 79 = .ok (.iconst (-1), 1) := by decide +kernel
theorem dX8_canFollow_80 : decode cX8_canFollow 80 = .ok (.ixor, 1) := by decide +kernel
theorem dX8_canFollow_81 : decode cX8_canFollow 81 = .ok (.iand, 1) := by decide +kernel
theorem dX8_canFollow_82 : decode cX8_canFollow 82 = .ok (.ifCond .eq 7, 3) := by decide +kernel
theorem dX8_canFollow_85 : decode cX8_canFollow 85 = .ok (.iconst 1, 1) := by decide +kernel
theorem dX8_canFollow_86 : decode cX8_canFollow 86 = .ok (.goto 4, 3) := by decide +kernel
theorem dX8_canFollow_89 : decode cX8_canFollow 89 = .ok (.iconst 0, 1) := by decide +kernel
theorem dX8_canFollow_90 : decode cX8_canFollow 90 = .ok (.ireturn, 1) := by decide +kernel
set_option maxRecDepth 20000 in
theorem ggX8_canStay_X8_rules : GoodIn wsX8_canStay wsX8_rules := goodIn_r _ [5, 6, 7, 8, 4, 9, 10, 19, 20, 21, 22, 23, 24, 25, 26, 27, 28, 29, 30, 31] (by decide +kernel) (by decide +kernel)
set_option maxRecDepth 20000 in
theorem gX8_canStay_X8_rules : GoodIn wsX8_canStay (wsV RX8 71 RX8 yX8_rules wsX8_rules) := goodIn_app (goodIn_of _ (by decide +kernel)) ggX8_canStay_X8_rules
set_option maxRecDepth 20000 in
theorem ggX8_canStay_X8_isSure : GoodIn wsX8_canStay wsX8_isSure := goodIn_r _ [14, 15, 16, 17, 4, 18, 6, 7, 8, 9, 10, 19, 20, 21, 22, 23, 24, 25, 26, 27, 28, 29, 30, 31] (by decide +kernel) (by decide +kernel)
set_option maxRecDepth 20000 in
theorem gX8_canStay_X8_isSure : GoodIn wsX8_canStay (wsV RX8 161 RX8 yX8_isSure wsX8_isSure) := goodIn_app (goodIn_of _ (by decide +kernel)) ggX8_canStay_X8_isSure
theorem dX8_canStay_0 : decode cX8_canStay 0 = .ok (.iconst 1, 1) := by decide +kernel
theorem dX8_canStay_1 : decode cX8_canStay 1 = .ok (.istore_n 3, 1) := by decide +kernel
theorem dX8_canStay_2 : decode cX8_canStay 2 = .ok (.iconst 0, 1) := by decide +kernel
theorem dX8_canStay_3 : decode cX8_canStay 3 = .ok (.istore 4, 2) := by decide +kernel
theorem dX8_canStay_5 : decode cX8_canStay 5 = .ok (.iload 4, 2) := by decide +kernel
theorem dX8_canStay_7 : decode cX8_canStay 7 = .ok (.aload_n 0, 1) := by decide +kernel
theorem dX8_canStay_8 : decode cX8_canStay 8 = .ok (.iload_n 1, 1) := by decide +kernel
theorem dX8_canStay_9 : decode cX8_canStay 9 = .ok (.invokevirtual 71, 3) := by decide +kernel
theorem dX8_canStay_12 : decode cX8_canStay 12 = .ok (.if_icmp .ge 30, 3) := by decide +kernel
theorem dX8_canStay_15 : decode cX8_canStay 15 = .ok (.iload_n 3, 1) := by decide +kernel
theorem dX8_canStay_16 : decode cX8_canStay 16 = .ok (.ifCond .eq 18, 3) := by decide +kernel
theorem dX8_canStay_19 : decode cX8_canStay 19 = .ok (.aload_n 0, 1) := by decide +kernel
theorem dX8_canStay_20 : decode cX8_canStay 20 = .ok (.iload_n 1, 1) := by decide +kernel
theorem dX8_canStay_21 : decode cX8_canStay 21 = .ok (.iload 4, 2) := by decide +kernel
theorem dX8_canStay_23 : decode cX8_canStay 23 = .ok (.iload_n 2, 1) := by decide +kernel
theorem dX8_canStay_24 : decode cX8_canStay 24 = .ok (.invokevirtual 161, 3) := by decide +kernel
theorem dX8_canStay_27 : decode cX8_canStay 27 = .ok (.ifCond .ne 7, 3) := by decide +kernel
theorem dX8_canStay_30 : decode cX8_canStay 30 = .ok (.iconst 1, 1) := by decide +kernel
theorem dX8_canStay_31 : decode cX8_canStay 31 = .ok (.goto 4, 3) := by decide +kernel
theorem dX8_canStay_34 : decode cX8_canStay 34 = .ok (.iconst 0, 1) := by decide +kernel
theorem dX8_canStay_35 : decode cX8_canStay 35 = .ok (.istore_n 3, 1) := by decide +kernel
theorem dX8_canStay_36 : decode cX8_canStay 36 = .ok (.iinc 4 1, 3) := by decide +kernel
theorem dX8_canStay_39 : decode cX8_canStay 39 = .ok (.goto (-34), 3) := by decide +kernel
theorem dX8_canStay_42 : decode cX8_canStay 42 = .ok (.iload_n 3, 1) := by decide +kernel
theorem dX8_canStay_43 : decode cX8_canStay 43 = .ok (.ireturn, 1) := by decide +kernel
set_option maxRecDepth 20000 in
theorem ggX8_reached_X8_rules : GoodIn wsX8_reached wsX8_rules := goodIn_r _ [6, 7, 8, 9, 5, 10, 1, 35, 36, 37, 38, 39, 40, 41, 42, 43, 44, 45, 46, 47] (by decide +kernel) (by decide +kernel)
set_option maxRecDepth 20000 in
theorem gX8_reached_X8_rules : GoodIn wsX8_reached (wsV RX8 71 RX8 yX8_rules wsX8_rules) := goodIn_app (goodIn_of _ (by decide +kernel)) ggX8_reached_X8_rules
set_option maxRecDepth 20000 in
theorem ggX8_reached_X8_canFollow : GoodIn wsX8_reached wsX8_canFollow := goodIn_r _ [14, 15, 16, 17, 5, 18, 19, 20, 21, 22, 7, 8, 9, 10, 1, 35, 36, 37, 38, 39, 40, 41, 42, 43, 44, 45, 46, 47] (by decide +kernel) (by decide +kernel)
set_option maxRecDepth 20000 in
theorem gX8_reached_X8_canFollow : GoodIn wsX8_reached (wsV RX8 164 RX8 yX8_canFollow wsX8_canFollow) := goodIn_app (goodIn_of _ (by decide +kernel)) ggX8_reached_X8_canFollow
set_option maxRecDepth 20000 in
theorem ggX8_reached_X8_goal : GoodIn wsX8_reached wsX8_goal := goodIn_r _ [26, 7, 8, 9, 5, 10, 1, 35, 36, 37, 38, 39, 40, 41, 42, 43, 44, 45, 46, 47] (by decide +kernel) (by decide +kernel)
set_option maxRecDepth 20000 in
theorem gX8_reached_X8_goal : GoodIn wsX8_reached (wsV RX8 111 RX8 yX8_goal wsX8_goal) := goodIn_app (goodIn_of _ (by decide +kernel)) ggX8_reached_X8_goal
set_option maxRecDepth 20000 in
theorem ggX8_reached_X8_hasGreen : GoodIn wsX8_reached wsX8_hasGreen := goodIn_r _ [30, 31, 32, 33, 5, 34, 7, 8, 9, 10, 1, 35, 36, 37, 38, 39, 40, 41, 42, 43, 44, 45, 46, 47] (by decide +kernel) (by decide +kernel)
set_option maxRecDepth 20000 in
theorem gX8_reached_X8_hasGreen : GoodIn wsX8_reached (wsV RX8 167 RX8 yX8_hasGreen wsX8_hasGreen) := goodIn_app (goodIn_of _ (by decide +kernel)) ggX8_reached_X8_hasGreen
theorem dX8_reached_0 : decode cX8_reached 0 = .ok (.iconst 0, 1) := by decide +kernel
theorem dX8_reached_1 : decode cX8_reached 1 = .ok (.istore_n 3, 1) := by decide +kernel
theorem dX8_reached_2 : decode cX8_reached 2 = .ok (.iconst 1, 1) := by decide +kernel
theorem dX8_reached_3 : decode cX8_reached 3 = .ok (.iload_n 1, 1) := by decide +kernel
theorem dX8_reached_4 : decode cX8_reached 4 = .ok (.ishl, 1) := by decide +kernel
theorem dX8_reached_5 : decode cX8_reached 5 = .ok (.istore 4, 2) := by decide +kernel
theorem dX8_reached_7 : decode cX8_reached 7 = .ok (.iload 4, 2) := by decide +kernel
theorem dX8_reached_9 : decode cX8_reached 9 = .ok (.ifCond .eq 120, 3) := by decide +kernel
theorem dX8_reached_12 : decode cX8_reached 12 = .ok (.iconst 0, 1) := by decide +kernel
theorem dX8_reached_13 : decode cX8_reached 13 = .ok (.istore 5, 2) := by decide +kernel
theorem dX8_reached_15 : decode cX8_reached 15 = .ok (.iconst 0, 1) := by decide +kernel
theorem dX8_reached_16 : decode cX8_reached 16 = .ok (.istore 6, 2) := by decide +kernel
theorem dX8_reached_18 : decode cX8_reached 18 = .ok (.iload 6, 2) := by decide +kernel
theorem dX8_reached_20 : decode cX8_reached 20 = .ok (.aload_n 0, 1) := by decide +kernel
theorem dX8_reached_21 : decode cX8_reached 21 = .ok (.getfield 7, 3) := by decide +kernel
theorem dX8_reached_24 : decode cX8_reached 24 = .ok (.iconst 0, 1) := by decide +kernel
theorem dX8_reached_25 : decode cX8_reached 25 = .ok (.iaload, 1) := by decide +kernel
theorem dX8_reached_26 : decode cX8_reached 26 = .ok (.if_icmp .ge 87, 3) := by decide +kernel
theorem dX8_reached_29 : decode cX8_reached 29 = .ok (.iconst 0, 1) := by decide +kernel
theorem dX8_reached_30 : decode cX8_reached 30 = .ok (.istore 7, 2) := by decide +kernel
theorem dX8_reached_32 : decode cX8_reached 32 = .ok (.iload 7, 2) := by decide +kernel
theorem dX8_reached_34 : decode cX8_reached 34 = .ok (.aload_n 0, 1) := by decide +kernel
theorem dX8_reached_35 : decode cX8_reached 35 = .ok (.iload 6, 2) := by decide +kernel
theorem dX8_reached_37 : decode cX8_reached 37 = .ok (.invokevirtual 71, 3) := by decide +kernel
theorem dX8_reached_40 : decode cX8_reached 40 = .ok (.if_icmp .ge 67, 3) := by decide +kernel
theorem dX8_reached_43 : decode cX8_reached 43 = .ok (.iload 4, 2) := by decide +kernel
theorem dX8_reached_45 : decode cX8_reached 45 = .ok (.iload 6, 2) := by decide +kernel
theorem dX8_reached_47 : decode cX8_reached 47 = .ok (.ishr, 1) := by decide +kernel
theorem dX8_reached_48 : decode cX8_reached 48 = .ok (.iconst 1, 1) := by decide +kernel
theorem dX8_reached_49 : decode cX8_reached 49 = .ok (.iand, 1) := by decide +kernel
theorem dX8_reached_50 : decode cX8_reached 50 = .ok (.iconst 1, 1) := by decide +kernel
theorem dX8_reached_51 : decode cX8_reached 51 = .ok (.if_icmp .ne 56, 3) := by decide +kernel
theorem dX8_reached_54 : decode cX8_reached 54 = .ok (.iload 5, 2) := by decide +kernel
theorem dX8_reached_56 : decode cX8_reached 56 = .ok (.aload_n 0, 1) := by decide +kernel
theorem dX8_reached_57 : decode cX8_reached 57 = .ok (.iload 6, 2) := by decide +kernel
theorem dX8_reached_59 : decode cX8_reached 59 = .ok (.iload 7, 2) := by decide +kernel
theorem dX8_reached_61 : decode cX8_reached 61 = .ok (.iload_n 2, 1) := by decide +kernel
theorem dX8_reached_62 : decode cX8_reached 62 = .ok (.invokevirtual 164, 3) := by decide +kernel
theorem dX8_reached_65 : decode cX8_reached 65 = .ok (.ifCond .eq 32, 3) := by decide +kernel
theorem dX8_reached_68 : decode cX8_reached 68 = .ok (.aload_n 0, 1) := by decide +kernel
theorem dX8_reached_69 : decode cX8_reached 69 = .ok (.aload_n 0, 1) := by decide +kernel
theorem dX8_reached_70 : decode cX8_reached 70 = .ok (.iload 6, 2) := by decide +kernel
theorem dX8_reached_72 : decode cX8_reached 72 = .ok (.iload 7, 2) := by decide +kernel
theorem dX8_reached_74 : decode cX8_reached 74 = .ok (.invokevirtual 111, 3) := by decide +kernel
theorem dX8_reached_77 : decode cX8_reached 77 = .ok (.iload_n 2, 1) := by decide +kernel
theorem dX8_reached_78 : decode cX8_reached 78 = .ok (.invokevirtual 167, 3) := by decide +kernel
theorem dX8_reached_81 : decode cX8_reached 81 = .ok (.ifCond .ne 16, 3) := by decide +kernel
theorem dX8_reached_84 : decode cX8_reached 84 = .ok (.iconst 1, 1) := by decide +kernel
theorem dX8_reached_85 : decode cX8_reached 85 = .ok (.aload_n 0, 1) := by decide +kernel
theorem dX8_reached_86 : decode cX8_reached 86 = .ok (.iload 6, 2) := by decide +kernel
theorem dX8_reached_88 : decode cX8_reached 88 = .ok (.iload 7, 2) := by decide +kernel
theorem dX8_reached_90 : decode cX8_reached 90 = .ok (.invokevirtual 111, 3) := by decide +kernel
theorem dX8_reached_93 : decode cX8_reached 93 = .ok (.ishl, 1) := by decide +kernel
theorem dX8_reached_94 : decode cX8_reached 94 = .ok (.goto 4, 3) := by decide +kernel
theorem dX8_reached_97 : decode cX8_reached 97 = .ok (.iconst 0, 1) := by decide +kernel
theorem dX8_reached_98 : decode cX8_reached 98 = .ok (.ior, 1) := by decide +kernel
theorem dX8_reached_99 : decode cX8_reached 99 = .ok (.istore 5, 2) := by decide +kernel
theorem dX8_reached_101 : decode cX8_reached 101 = .ok (.iinc 7 1, 3) := by decide +kernel
theorem dX8_reached_104 : decode cX8_reached 104 = .ok (.goto (-72), 3) := by decide +kernel
theorem dX8_reached_107 : decode cX8_reached 107 = .ok (.iinc 6 1, 3) := by decide +kernel
theorem dX8_reached_110 : decode cX8_reached 110 = .ok (.goto (-92), 3) := by decide +kernel
theorem dX8_reached_113 : decode cX8_reached 113 = .ok (.iload 5, 2) := by decide +kernel
theorem dX8_reached_115 : decode cX8_reached 115 = .ok (.iload_n 3, 1) := by decide +kernel
theorem dX8_reached_116 : decode cX8_reached 116 = .ok (.iconst (-1), 1) := by decide +kernel
theorem dX8_reached_117 : decode cX8_reached 117 = .ok (.ixor, 1) := by decide +kernel
theorem dX8_reached_118 : decode cX8_reached 118 = .ok (.iand, 1) := by decide +kernel
theorem dX8_reached_119 : decode cX8_reached 119 = .ok (.istore 4, 2) := by decide +kernel
theorem dX8_reached_121 : decode cX8_reached 121 = .ok (.iload_n 3, 1) := by decide +kernel
theorem dX8_reached_122 : decode cX8_reached 122 = .ok (.iload 5, 2) := by decide +kernel
theorem dX8_reached_124 : decode cX8_reached 124 = .ok (.ior, 1) := by decide +kernel
theorem dX8_reached_125 : decode cX8_reached 125 = .ok (.istore_n 3, 1) := by decide +kernel
theorem dX8_reached_126 : decode cX8_reached 126 = .ok (.goto (-119), 3) := by decide +kernel
theorem dX8_reached_129 : decode cX8_reached 129 = .ok (.iload_n 3, 1) := by decide +kernel
theorem dX8_reached_130 : decode cX8_reached 130 = .ok (.ireturn, 1) := by decide +kernel
set_option maxRecDepth 20000 in
theorem ggX8_isRound_X8_hasGreen : GoodIn wsX8_isRound wsX8_hasGreen := goodIn_r _ [5, 6, 7, 8, 4, 9, 10, 11, 12, 13, 14, 43, 44, 45, 46, 47, 48, 49, 50, 51, 52, 53, 54, 55] (by decide +kernel) (by decide +kernel)
set_option maxRecDepth 20000 in
theorem gX8_isRound_X8_hasGreen : GoodIn wsX8_isRound (wsV RX8 167 RX8 yX8_hasGreen wsX8_hasGreen) := goodIn_app (goodIn_of _ (by decide +kernel)) ggX8_isRound_X8_hasGreen
set_option maxRecDepth 20000 in
theorem ggX8_isRound_X8_canStay : GoodIn wsX8_isRound wsX8_canStay := goodIn_r _ [18, 19, 20, 21, 4, 22, 10, 11, 12, 13, 14, 23, 24, 25, 26, 27, 28, 29, 30, 43, 44, 45, 46, 47, 48, 49, 50, 51, 52, 53, 54, 55] (by decide +kernel) (by decide +kernel)
set_option maxRecDepth 20000 in
theorem gX8_isRound_X8_canStay : GoodIn wsX8_isRound (wsV RX8 170 RX8 yX8_canStay wsX8_canStay) := goodIn_app (goodIn_of _ (by decide +kernel)) ggX8_isRound_X8_canStay
set_option maxRecDepth 20000 in
theorem ggX8_isRound_X8_reached : GoodIn wsX8_isRound wsX8_reached := goodIn_r _ [34, 14, 19, 20, 21, 4, 22, 10, 11, 12, 13, 35, 36, 37, 38, 23, 24, 25, 26, 27, 28, 29, 30, 39, 40, 41, 42, 1, 2, 3, 5, 6, 7, 8, 9, 43, 44, 45, 46, 47, 48, 49, 50, 51, 52, 53, 54, 55] (by decide +kernel) (by decide +kernel)
set_option maxRecDepth 20000 in
theorem gX8_isRound_X8_reached : GoodIn wsX8_isRound (wsV RX8 173 RX8 yX8_reached wsX8_reached) := goodIn_app (goodIn_of _ (by decide +kernel)) ggX8_isRound_X8_reached
theorem dX8_isRound_0 : decode cX8_isRound 0 = .ok (.aload_n 0, 1) := by decide +kernel
theorem dX8_isRound_1 : decode cX8_isRound 1 = .ok (.iload_n 1, 1) := by decide +kernel
theorem dX8_isRound_2 : decode cX8_isRound 2 = .ok (.iload_n 2, 1) := by decide +kernel
theorem dX8_isRound_3 : decode cX8_isRound 3 = .ok (.invokevirtual 167, 3) := by decide +kernel
theorem dX8_isRound_6 : decode cX8_isRound 6 = .ok (.ifCond .ne 30, 3) := by decide +kernel
theorem dX8_isRound_9 : decode cX8_isRound 9 = .ok (.aload_n 0, 1) := by decide +kernel
theorem dX8_isRound_10 : decode cX8_isRound 10 = .ok (.iload_n 1, 1) := by decide +kernel
theorem dX8_isRound_11 : decode cX8_isRound 11 = .ok (.iload_n 2, 1) := by decide +kernel
theorem dX8_isRound_12 : decode cX8_isRound 12 = .ok (.invokevirtual 170, 3) := by decide +kernel
theorem dX8_isRound_15 : decode cX8_isRound 15 = .ok (.ifCond .ne 17, 3) := by decide +kernel
theorem dX8_isRound_18 : decode cX8_isRound 18 = .ok (.aload_n 0, 1) := by decide +kernel
theorem dX8_isRound_19 : decode cX8_isRound 19 = .ok (.iload_n 1, 1) := by decide +kernel
theorem dX8_isRound_20 : decode cX8_isRound 20 = .ok (.iload_n 2, 1) := by decide +kernel
theorem dX8_isRound_21 : decode cX8_isRound 21 = .ok (.invokevirtual 173, 3) := by decide +kernel
theorem dX8_isRound_24 : decode cX8_isRound 24 = .ok (.iload_n 1, 1) := by decide +kernel
theorem dX8_isRound_25 : decode cX8_isRound 25 = .ok (.ishr, 1) := by decide +kernel
theorem dX8_isRound_26 : decode cX8_isRound 26 = .ok (.iconst 1, 1) := by decide +kernel
theorem dX8_isRound_27 : decode cX8_isRound 27 = .ok (.iand, 1) := by decide +kernel
theorem dX8_isRound_28 : decode cX8_isRound 28 = .ok (.iconst 1, 1) := by decide +kernel
theorem dX8_isRound_29 : decode cX8_isRound 29 = .ok (.if_icmp .ne 7, 3) := by decide +kernel
theorem dX8_isRound_32 : decode cX8_isRound 32 = .ok (.iconst 1, 1) := by decide +kernel
theorem dX8_isRound_33 : decode cX8_isRound 33 = .ok (.goto 4, 3) := by decide +kernel
theorem dX8_isRound_36 : decode cX8_isRound 36 = .ok (.iconst 0, 1) := by decide +kernel
theorem dX8_isRound_37 : decode cX8_isRound 37 = .ok (.ireturn, 1) := by decide +kernel
set_option maxRecDepth 20000 in
theorem ggX8_canStarve_X8_hasGreen : GoodIn wsX8_canStarve wsX8_hasGreen := goodIn_r _ [6, 7, 8, 9, 5, 10, 11, 12, 13, 14, 1, 47, 48, 49, 50, 51, 52, 53, 54, 55, 56, 57, 58, 59] (by decide +kernel) (by decide +kernel)
set_option maxRecDepth 20000 in
theorem gX8_canStarve_X8_hasGreen : GoodIn wsX8_canStarve (wsV RX8 167 RX8 yX8_hasGreen wsX8_hasGreen) := goodIn_app (goodIn_of _ (by decide +kernel)) ggX8_canStarve_X8_hasGreen
set_option maxRecDepth 20000 in
theorem ggX8_canStarve_X8_reached : GoodIn wsX8_canStarve wsX8_reached := goodIn_r _ [18, 1, 19, 20, 21, 5, 22, 11, 12, 13, 14, 23, 24, 25, 26, 27, 28, 29, 30, 31, 32, 33, 34, 35, 36, 37, 38, 2, 3, 4, 6, 7, 8, 9, 10, 47, 48, 49, 50, 51, 52, 53, 54, 55, 56, 57, 58, 59] (by decide +kernel) (by decide +kernel)
set_option maxRecDepth 20000 in
theorem gX8_canStarve_X8_reached : GoodIn wsX8_canStarve (wsV RX8 173 RX8 yX8_reached wsX8_reached) := goodIn_app (goodIn_of _ (by decide +kernel)) ggX8_canStarve_X8_reached
set_option maxRecDepth 20000 in
theorem ggX8_canStarve_X8_isRound : GoodIn wsX8_canStarve wsX8_isRound := goodIn_r _ [42, 2, 3, 4, 5, 6, 7, 8, 9, 10, 11, 12, 13, 14, 1, 43, 44, 45, 46, 19, 20, 21, 22, 27, 28, 29, 30, 31, 32, 33, 34, 15, 16, 17, 18, 23, 24, 25, 26, 35, 36, 37, 38, 47, 48, 49, 50, 51, 52, 53, 54, 55, 56, 57, 58, 59] (by decide +kernel) (by decide +kernel)
set_option maxRecDepth 20000 in
theorem gX8_canStarve_X8_isRound : GoodIn wsX8_canStarve (wsV RX8 176 RX8 yX8_isRound wsX8_isRound) := goodIn_app (goodIn_of _ (by decide +kernel)) ggX8_canStarve_X8_isRound
theorem dX8_canStarve_0 : decode cX8_canStarve 0 = .ok (.aload_n 0, 1) := by decide +kernel
theorem dX8_canStarve_1 : decode cX8_canStarve 1 = .ok (.iload_n 1, 1) := by decide +kernel
theorem dX8_canStarve_2 : decode cX8_canStarve 2 = .ok (.iload_n 2, 1) := by decide +kernel
theorem dX8_canStarve_3 : decode cX8_canStarve 3 = .ok (.invokevirtual 167, 3) := by decide +kernel
theorem dX8_canStarve_6 : decode cX8_canStarve 6 = .ok (.ifCond .eq 5, 3) := by decide +kernel
theorem dX8_canStarve_9 : decode cX8_canStarve 9 = .ok (.iconst 0, 1) := by decide +kernel
theorem dX8_canStarve_10 : decode cX8_canStarve 10 = .ok (.ireturn, 1) := by decide +kernel
theorem dX8_canStarve_11 : decode cX8_canStarve 11 = .ok (.aload_n 0, 1) := by decide +kernel
theorem dX8_canStarve_12 : decode cX8_canStarve 12 = .ok (.iload_n 1, 1) := by decide +kernel
theorem dX8_canStarve_13 : decode cX8_canStarve 13 = .ok (.iload_n 2, 1) := by decide +kernel
theorem dX8_canStarve_14 : decode cX8_canStarve 14 = .ok (.invokevirtual 173, 3) := by decide +kernel
theorem dX8_canStarve_17 : decode cX8_canStarve 17 = .ok (.iconst 1, 1) := by decide +kernel
theorem dX8_canStarve_18 : decode cX8_canStarve 18 = .ok (.iload_n 1, 1) := by decide +kernel
theorem dX8_canStarve_19 : decode cX8_canStarve 19 = .ok (.ishl, 1) := by decide +kernel
theorem dX8_canStarve_20 : decode cX8_canStarve 20 = .ok (.ior, 1) := by decide +kernel
theorem dX8_canStarve_21 : decode cX8_canStarve 21 = .ok (.istore_n 3, 1) := by decide +kernel
theorem dX8_canStarve_22 : decode cX8_canStarve 22 = .ok (.iconst 0, 1) := by decide +kernel
theorem dX8_canStarve_23 : decode cX8_canStarve 23 = .ok (.istore 4, 2) := by decide +kernel
theorem dX8_canStarve_25 : decode cX8_canStarve 25 = .ok (.iconst 0, 1) := by decide +kernel
theorem dX8_canStarve_26 : decode cX8_canStarve 26 = .ok (.istore 5, 2) := by decide +kernel
theorem dX8_canStarve_28 : decode cX8_canStarve 28 = .ok (.iload 5, 2) := by decide +kernel
theorem dX8_canStarve_30 : decode cX8_canStarve 30 = .ok (.aload_n 0, 1) := by decide +kernel
theorem dX8_canStarve_31 : decode cX8_canStarve 31 = .ok (.getfield 7, 3) := by decide +kernel
theorem dX8_canStarve_34 : decode cX8_canStarve 34 = .ok (.iconst 0, 1) := by decide +kernel
theorem dX8_canStarve_35 : decode cX8_canStarve 35 = .ok (.iaload, 1) := by decide +kernel
theorem dX8_canStarve_36 : decode cX8_canStarve 36 = .ok (.if_icmp .ge 41, 3) := by decide +kernel
theorem dX8_canStarve_39 : decode cX8_canStarve 39 = .ok (.iload 4, 2) := by decide +kernel
theorem dX8_canStarve_41 : decode cX8_canStarve 41 = .ok (.ifCond .ne 23, 3) := by decide +kernel
theorem dX8_canStarve_44 : decode cX8_canStarve 44 = .ok (.iload_n 3, 1) := by decide +kernel
theorem dX8_canStarve_45 : decode cX8_canStarve 45 = .ok (.iload 5, 2) := by decide +kernel
theorem dX8_canStarve_47 : decode cX8_canStarve 47 = .ok (.ishr, 1) := by decide +kernel
theorem dX8_canStarve_48 : decode cX8_canStarve 48 = .ok (.iconst 1, 1) := by decide +kernel
theorem dX8_canStarve_49 : decode cX8_canStarve 49 = .ok (.iand, 1) := by decide +kernel
theorem dX8_canStarve_50 : decode cX8_canStarve 50 = .ok (.iconst 1, 1) := by decide +kernel
theorem dX8_canStarve_51 : decode cX8_canStarve 51 = .ok (.if_icmp .ne 17, 3) := by decide +kernel
theorem dX8_canStarve_54 : decode cX8_canStarve 54 = .ok (.aload_n 0, 1) := by decide +kernel
theorem dX8_canStarve_55 : decode cX8_canStarve 55 = .ok (.iload 5, 2) := by decide +kernel
theorem dX8_canStarve_57 : decode cX8_canStarve 57 = .ok (.iload_n 2, 1) := by decide +kernel
theorem dX8_canStarve_58 : decode cX8_canStarve 58 = .ok (.invokevirtual 176, 3) := by decide +kernel
theorem dX8_canStarve_61 : decode cX8_canStarve 61 = .ok (.ifCond .eq 7, 3) := by decide +kernel
theorem dX8_canStarve_64 : decode cX8_canStarve 64 = .ok (.iconst 1, 1) := by decide +kernel
theorem dX8_canStarve_65 : decode cX8_canStarve 65 = .ok (.goto 4, 3) := by decide +kernel
theorem dX8_canStarve_68 : decode cX8_canStarve 68 = .ok (.iconst 0, 1) := by decide +kernel
theorem dX8_canStarve_69 : decode cX8_canStarve 69 = .ok (.istore 4, 2) := by decide +kernel
theorem dX8_canStarve_71 : decode cX8_canStarve 71 = .ok (.iinc 5 1, 3) := by decide +kernel
theorem dX8_canStarve_74 : decode cX8_canStarve 74 = .ok (.goto (-46), 3) := by decide +kernel
theorem dX8_canStarve_77 : decode cX8_canStarve 77 = .ok (.iload 4, 2) := by decide +kernel
theorem dX8_canStarve_79 : decode cX8_canStarve 79 = .ok (.ireturn, 1) := by decide +kernel
set_option maxRecDepth 20000 in
theorem ggX8_canStarveAnywhere_X8_comers : GoodIn wsX8_canStarveAnywhere wsX8_comers := goodIn_r _ [6, 1, 7, 8, 9, 5, 10, 11, 12, 13, 14, 15, 16, 17, 18, 55, 56, 57, 58, 59, 60, 61, 62, 63, 64, 65, 66, 67] (by decide +kernel) (by decide +kernel)
set_option maxRecDepth 20000 in
theorem gX8_canStarveAnywhere_X8_comers : GoodIn wsX8_canStarveAnywhere (wsV RX8 179 RX8 yX8_comers wsX8_comers) := goodIn_app (goodIn_of _ (by decide +kernel)) ggX8_canStarveAnywhere_X8_comers
set_option maxRecDepth 20000 in
theorem ggX8_canStarveAnywhere_X8_canStarve : GoodIn wsX8_canStarveAnywhere wsX8_canStarve := goodIn_r _ [22, 1, 23, 24, 25, 5, 26, 27, 28, 29, 30, 11, 12, 13, 14, 31, 32, 33, 34, 7, 8, 9, 10, 35, 36, 37, 38, 39, 40, 41, 42, 43, 44, 45, 46, 15, 16, 17, 18, 47, 48, 49, 50, 51, 52, 53, 54, 55, 56, 57, 58, 59, 60, 61, 62, 63, 64, 65, 66, 67] (by decide +kernel) (by decide +kernel)
set_option maxRecDepth 20000 in
theorem gX8_canStarveAnywhere_X8_canStarve : GoodIn wsX8_canStarveAnywhere (wsV RX8 182 RX8 yX8_canStarve wsX8_canStarve) := goodIn_app (goodIn_of _ (by decide +kernel)) ggX8_canStarveAnywhere_X8_canStarve
theorem dX8_canStarveAnywhere_0 : decode cX8_canStarveAnywhere 0 = .ok (.aload_n 0, 1) := by decide +kernel
theorem dX8_canStarveAnywhere_1 : decode cX8_canStarveAnywhere 1 = .ok (.invokevirtual 179, 3) := by decide +kernel
theorem dX8_canStarveAnywhere_4 : decode cX8_canStarveAnywhere 4 = .ok (.istore_n 2, 1) := by decide +kernel
theorem dX8_canStarveAnywhere_5 : decode cX8_canStarveAnywhere 5 = .ok (.iconst 0, 1) := by decide +kernel
theorem dX8_canStarveAnywhere_6 : decode cX8_canStarveAnywhere 6 = .ok (.istore_n 3, 1) := by decide +kernel
theorem dX8_canStarveAnywhere_7 : decode cX8_canStarveAnywhere 7 = .ok (.iconst 0, 1) := by decide +kernel
theorem dX8_canStarveAnywhere_8 : decode cX8_canStarveAnywhere 8 = .ok (.istore 4, 2) := by decide +kernel
theorem dX8_canStarveAnywhere_10 : decode cX8_canStarveAnywhere 10 = .ok (.iload 4, 2) := by decide +kernel
theorem dX8_canStarveAnywhere_12 : decode cX8_canStarveAnywhere 12 = .ok (.aload_n 0, 1) := by decide +kernel
theorem dX8_canStarveAnywhere_13 : decode cX8_canStarveAnywhere 13 = .ok (.getfield 7, 3) := by decide +kernel
theorem dX8_canStarveAnywhere_16 : decode cX8_canStarveAnywhere 16 = .ok (.iconst 0, 1) := by decide +kernel
theorem dX8_canStarveAnywhere_17 : decode cX8_canStarveAnywhere 17 = .ok (.iaload, 1) := by decide +kernel
theorem dX8_canStarveAnywhere_18 : decode cX8_canStarveAnywhere 18 = .ok (.if_icmp .ge 39, 3) := by decide +kernel
theorem dX8_canStarveAnywhere_21 : decode cX8_canStarveAnywhere 21 = .ok (.iload_n 3, 1) := by decide +kernel
theorem dX8_canStarveAnywhere_22 : decode cX8_canStarveAnywhere 22 = .ok (.ifCond .ne 23, 3) := by decide +kernel
theorem dX8_canStarveAnywhere_25 : decode cX8_canStarveAnywhere 25 = .ok (.iload_n 2, 1) := by decide +kernel
theorem dX8_canStarveAnywhere_26 : decode cX8_canStarveAnywhere 26 = .ok (.iload 4, 2) := by decide +kernel
theorem dX8_canStarveAnywhere_28 : decode cX8_canStarveAnywhere 28 = .ok (.ishr, 1) := by decide +kernel
theorem dX8_canStarveAnywhere_29 : decode cX8_canStarveAnywhere 29 = .ok (.iconst 1, 1) := by decide +kernel
theorem dX8_canStarveAnywhere_30 : decode cX8_canStarveAnywhere 30 = .ok (.iand, 1) := by decide +kernel
theorem dX8_canStarveAnywhere_31 : decode cX8_canStarveAnywhere 31 = .ok (.iconst 1, 1) := by decide +kernel
theorem dX8_canStarveAnywhere_32 : decode cX8_canStarveAnywhere 32 = .ok (.if_icmp .ne 17, 3) := by decide +kernel
theorem dX8_canStarveAnywhere_35 : decode cX8_canStarveAnywhere 35 = .ok (.aload_n 0, 1) := by decide +kernel
theorem dX8_canStarveAnywhere_36 : decode cX8_canStarveAnywhere 36 = .ok (.iload 4, 2) := by decide +kernel
theorem dX8_canStarveAnywhere_38 : decode cX8_canStarveAnywhere 38 = .ok (.iload_n 1, 1) := by decide +kernel
theorem dX8_canStarveAnywhere_39 : decode cX8_canStarveAnywhere 39 = .ok (.invokevirtual 182, 3) := by decide +kernel
theorem dX8_canStarveAnywhere_42 : decode cX8_canStarveAnywhere 42 = .ok (.ifCond .eq 7, 3) := by decide +kernel
theorem dX8_canStarveAnywhere_45 : decode cX8_canStarveAnywhere 45 = .ok (.iconst 1, 1) := by decide +kernel
theorem dX8_canStarveAnywhere_46 : decode cX8_canStarveAnywhere 46 = .ok (.goto 4, 3) := by decide +kernel
theorem dX8_canStarveAnywhere_49 : decode cX8_canStarveAnywhere 49 = .ok (.iconst 0, 1) := by decide +kernel
theorem dX8_canStarveAnywhere_50 : decode cX8_canStarveAnywhere 50 = .ok (.istore_n 3, 1) := by decide +kernel
theorem dX8_canStarveAnywhere_51 : decode cX8_canStarveAnywhere 51 = .ok (.iinc 4 1, 3) := by decide +kernel
theorem dX8_canStarveAnywhere_54 : decode cX8_canStarveAnywhere 54 = .ok (.goto (-44), 3) := by decide +kernel
theorem dX8_canStarveAnywhere_57 : decode cX8_canStarveAnywhere 57 = .ok (.iload_n 3, 1) := by decide +kernel
theorem dX8_canStarveAnywhere_58 : decode cX8_canStarveAnywhere 58 = .ok (.ireturn, 1) := by decide +kernel
set_option maxRecDepth 20000 in
theorem ggX8_starving_X8_canStarveAnywhere : GoodIn wsX8_starving wsX8_canStarveAnywhere := goodIn_r _ [5, 6, 7, 8, 9, 4, 10, 11, 12, 13, 14, 15, 16, 17, 18, 19, 20, 21, 22, 23, 24, 25, 26, 27, 28, 29, 30, 31, 32, 33, 34, 35, 36, 37, 38, 39, 40, 41, 42, 43, 44, 45, 46, 47, 48, 49, 50, 51, 52, 53, 54, 55, 56, 57, 58, 59, 60, 61, 62, 63, 64, 65, 66, 67, 68, 69, 70, 71] (by decide +kernel) (by decide +kernel)
set_option maxRecDepth 20000 in
theorem gX8_starving_X8_canStarveAnywhere : GoodIn wsX8_starving (wsV RX8 185 RX8 yX8_canStarveAnywhere wsX8_canStarveAnywhere) := goodIn_app (goodIn_of _ (by decide +kernel)) ggX8_starving_X8_canStarveAnywhere
theorem dX8_starving_0 : decode cX8_starving 0 = .ok (.iconst 0, 1) := by decide +kernel
theorem dX8_starving_1 : decode cX8_starving 1 = .ok (.istore_n 1, 1) := by decide +kernel
theorem dX8_starving_2 : decode cX8_starving 2 = .ok (.iconst 0, 1) := by decide +kernel
theorem dX8_starving_3 : decode cX8_starving 3 = .ok (.istore_n 2, 1) := by decide +kernel
theorem dX8_starving_4 : decode cX8_starving 4 = .ok (.iload_n 2, 1) := by decide +kernel
theorem dX8_starving_5 : decode cX8_starving 5 = .ok (.bipush 6, 2) := by decide +kernel
theorem dX8_starving_7 : decode cX8_starving 7 = .ok (.if_icmp .ge 27, 3) := by decide +kernel
theorem dX8_starving_10 : decode cX8_starving 10 = .ok (.iload_n 1, 1) := by decide +kernel
theorem dX8_starving_11 : decode cX8_starving 11 = .ok (.aload_n 0, 1) := by decide +kernel
theorem dX8_starving_12 : decode cX8_starving 12 = .ok (.iload_n 2, 1) := by decide +kernel
theorem dX8_starving_13 : decode cX8_starving 13 = .ok (.invokevirtual 185, 3) := by decide +kernel
theorem dX8_starving_16 : decode cX8_starving 16 = .ok (.ifCond .eq 9, 3) := by decide +kernel
theorem dX8_starving_19 : decode cX8_starving 19 = .ok (.iconst 1, 1) := by decide +kernel
theorem dX8_starving_20 : decode cX8_starving 20 = .ok (.iload_n 2, 1) := by decide +kernel
theorem dX8_starving_21 : decode cX8_starving 21 = .ok (.ishl, 1) := by decide +kernel
theorem dX8_starving_22 : decode cX8_starving 22 = .ok (.goto 4, 3) := by decide +kernel
theorem dX8_starving_25 : decode cX8_starving 25 = .ok (.iconst 0, 1) := by decide +kernel
theorem dX8_starving_26 : decode cX8_starving 26 = .ok (.ior, 1) := by decide +kernel
theorem dX8_starving_27 : decode cX8_starving 27 = .ok (.istore_n 1, 1) := by decide +kernel
theorem dX8_starving_28 : decode cX8_starving 28 = .ok (.iinc 2 1, 3) := by decide +kernel
theorem dX8_starving_31 : decode cX8_starving 31 = .ok (.goto (-27), 3) := by decide +kernel
theorem dX8_starving_34 : decode cX8_starving 34 = .ok (.iload_n 1, 1) := by decide +kernel
theorem dX8_starving_35 : decode cX8_starving 35 = .ok (.ireturn, 1) := by decide +kernel
set_option maxRecDepth 20000 in
theorem ggX8_roundsOf_X8_comers : GoodIn wsX8_roundsOf wsX8_comers := goodIn_r _ [6, 1, 7, 8, 9, 5, 10, 11, 12, 13, 14, 15, 16, 17, 18, 51, 52, 53, 54, 55, 56, 57, 58, 59, 60, 61, 62, 63] (by decide +kernel) (by decide +kernel)
set_option maxRecDepth 20000 in
theorem gX8_roundsOf_X8_comers : GoodIn wsX8_roundsOf (wsV RX8 179 RX8 yX8_comers wsX8_comers) := goodIn_app (goodIn_of _ (by decide +kernel)) ggX8_roundsOf_X8_comers
set_option maxRecDepth 20000 in
theorem ggX8_roundsOf_X8_isRound : GoodIn wsX8_roundsOf wsX8_isRound := goodIn_r _ [22, 23, 24, 25, 5, 26, 27, 28, 29, 30, 11, 12, 13, 14, 1, 31, 32, 33, 34, 7, 8, 9, 10, 35, 36, 37, 38, 39, 40, 41, 42, 43, 44, 45, 46, 47, 48, 49, 50, 15, 16, 17, 18, 51, 52, 53, 54, 55, 56, 57, 58, 59, 60, 61, 62, 63] (by decide +kernel) (by decide +kernel)
set_option maxRecDepth 20000 in
theorem gX8_roundsOf_X8_isRound : GoodIn wsX8_roundsOf (wsV RX8 176 RX8 yX8_isRound wsX8_isRound) := goodIn_app (goodIn_of _ (by decide +kernel)) ggX8_roundsOf_X8_isRound
theorem dX8_roundsOf_0 : decode cX8_roundsOf 0 = .ok (.aload_n 0, 1) := by decide +kernel
theorem dX8_roundsOf_1 : decode cX8_roundsOf 1 = .ok (.invokevirtual 179, 3) := by decide +kernel
theorem dX8_roundsOf_4 : decode cX8_roundsOf 4 = .ok (.istore_n 2, 1) := by decide +kernel
theorem dX8_roundsOf_5 : decode cX8_roundsOf 5 = .ok (.iconst 0, 1) := by decide +kernel
theorem dX8_roundsOf_6 : decode cX8_roundsOf 6 = .ok (.istore_n 3, 1) := by decide +kernel
theorem dX8_roundsOf_7 : decode cX8_roundsOf 7 = .ok (.iconst 0, 1) := by decide +kernel
theorem dX8_roundsOf_8 : decode cX8_roundsOf 8 = .ok (.istore 4, 2) := by decide +kernel
theorem dX8_roundsOf_10 : decode cX8_roundsOf 10 = .ok (.iload 4, 2) := by decide +kernel
theorem dX8_roundsOf_12 : decode cX8_roundsOf 12 = .ok (.aload_n 0, 1) := by decide +kernel
theorem dX8_roundsOf_13 : decode cX8_roundsOf 13 = .ok (.getfield 7, 3) := by decide +kernel
theorem dX8_roundsOf_16 : decode cX8_roundsOf 16 = .ok (.iconst 0, 1) := by decide +kernel
theorem dX8_roundsOf_17 : decode cX8_roundsOf 17 = .ok (.iaload, 1) := by decide +kernel
theorem dX8_roundsOf_18 : decode cX8_roundsOf 18 = .ok (.if_icmp .ge 40, 3) := by decide +kernel
theorem dX8_roundsOf_21 : decode cX8_roundsOf 21 = .ok (.iload_n 3, 1) := by decide +kernel
theorem dX8_roundsOf_22 : decode cX8_roundsOf 22 = .ok (.iload_n 2, 1) := by decide +kernel
theorem dX8_roundsOf_23 : decode cX8_roundsOf 23 = .ok (.iload 4, 2) := by decide +kernel
theorem dX8_roundsOf_25 : decode cX8_roundsOf 25 = .ok (.ishr, 1) := by decide +kernel
theorem dX8_roundsOf_26 : decode cX8_roundsOf 26 = .ok (.iconst 1, 1) := by decide +kernel
theorem dX8_roundsOf_27 : decode cX8_roundsOf 27 = .ok (.iand, 1) := by decide +kernel
theorem dX8_roundsOf_28 : decode cX8_roundsOf 28 = .ok (.iconst 1, 1) := by decide +kernel
theorem dX8_roundsOf_29 : decode cX8_roundsOf 29 = .ok (.if_icmp .ne 20, 3) := by decide +kernel
theorem dX8_roundsOf_32 : decode cX8_roundsOf 32 = .ok (.aload_n 0, 1) := by decide +kernel
theorem dX8_roundsOf_33 : decode cX8_roundsOf 33 = .ok (.iload 4, 2) := by decide +kernel
theorem dX8_roundsOf_35 : decode cX8_roundsOf 35 = .ok (.iload_n 1, 1) := by decide +kernel
theorem dX8_roundsOf_36 : decode cX8_roundsOf 36 = .ok (.invokevirtual 176, 3) := by decide +kernel
theorem dX8_roundsOf_39 : decode cX8_roundsOf 39 = .ok (.ifCond .eq 10, 3) := by decide +kernel
theorem dX8_roundsOf_42 : decode cX8_roundsOf 42 = .ok (.iconst 1, 1) := by decide +kernel
theorem dX8_roundsOf_43 : decode cX8_roundsOf 43 = .ok (.iload 4, 2) := by decide +kernel
theorem dX8_roundsOf_45 : decode cX8_roundsOf 45 = .ok (.ishl, 1) := by decide +kernel
theorem dX8_roundsOf_46 : decode cX8_roundsOf 46 = .ok (.goto 4, 3) := by decide +kernel
theorem dX8_roundsOf_49 : decode cX8_roundsOf 49 = .ok (.iconst 0, 1) := by decide +kernel
theorem dX8_roundsOf_50 : decode cX8_roundsOf 50 = .ok (.ior, 1) := by decide +kernel
theorem dX8_roundsOf_51 : decode cX8_roundsOf 51 = .ok (.istore_n 3, 1) := by decide +kernel
theorem dX8_roundsOf_52 : decode cX8_roundsOf 52 = .ok (.iinc 4 1, 3) := by decide +kernel
theorem dX8_roundsOf_55 : decode cX8_roundsOf 55 = .ok (.goto (-45), 3) := by decide +kernel
theorem dX8_roundsOf_58 : decode cX8_roundsOf 58 = .ok (.iload_n 3, 1) := by decide +kernel
theorem dX8_roundsOf_59 : decode cX8_roundsOf 59 = .ok (.ireturn, 1) := by decide +kernel
set_option maxRecDepth 20000 in
theorem ggX8_wayBy_X8_of : GoodIn wsX8_wayBy wsX8_of := goodIn_r _ [6, 7, 20, 21, 22, 23, 24, 25, 26, 27, 28, 29, 30, 31, 32] (by decide +kernel) (by decide +kernel)
set_option maxRecDepth 20000 in
theorem gX8_wayBy_X8_of : GoodIn wsX8_wayBy (wsV RX8 36 RX8 yX8_of wsX8_of) := goodIn_app (goodIn_of _ (by decide +kernel)) ggX8_wayBy_X8_of
set_option maxRecDepth 20000 in
theorem ggX8_wayBy_X8_goal : GoodIn wsX8_wayBy wsX8_goal := goodIn_r _ [11, 2, 3, 4, 5, 6, 7, 20, 21, 22, 23, 24, 25, 26, 27, 28, 29, 30, 31, 32] (by decide +kernel) (by decide +kernel)
set_option maxRecDepth 20000 in
theorem gX8_wayBy_X8_goal : GoodIn wsX8_wayBy (wsV RX8 111 RX8 yX8_goal wsX8_goal) := goodIn_app (goodIn_of _ (by decide +kernel)) ggX8_wayBy_X8_goal
set_option maxRecDepth 20000 in
theorem ggX8_wayBy_X8_clearingTo : GoodIn wsX8_wayBy wsX8_clearingTo := goodIn_r _ [15, 7, 16, 17, 18, 5, 19, 2, 3, 4, 6, 20, 21, 22, 23, 24, 25, 26, 27, 28, 29, 30, 31, 32] (by decide +kernel) (by decide +kernel)
set_option maxRecDepth 20000 in
theorem gX8_wayBy_X8_clearingTo : GoodIn wsX8_wayBy (wsV RX8 98 RX8 yX8_clearingTo wsX8_clearingTo) := goodIn_app (goodIn_of _ (by decide +kernel)) ggX8_wayBy_X8_clearingTo
theorem dX8_wayBy_0 : decode cX8_wayBy 0 = .ok (.aload_n 0, 1) := by decide +kernel
theorem dX8_wayBy_1 : decode cX8_wayBy 1 = .ok (.iload_n 1, 1) := by decide +kernel
theorem dX8_wayBy_2 : decode cX8_wayBy 2 = .ok (.iconst 1, 1) := by decide +kernel
theorem dX8_wayBy_3 : decode cX8_wayBy 3 = .ok (.invokevirtual 36, 3) := by decide +kernel
theorem dX8_wayBy_6 : decode cX8_wayBy 6 = .ok (.aload_n 0, 1) := by decide +kernel
theorem dX8_wayBy_7 : decode cX8_wayBy 7 = .ok (.iload_n 1, 1) := by decide +kernel
theorem dX8_wayBy_8 : decode cX8_wayBy 8 = .ok (.aload_n 0, 1) := by decide +kernel
theorem dX8_wayBy_9 : decode cX8_wayBy 9 = .ok (.iload_n 1, 1) := by decide +kernel
theorem dX8_wayBy_10 : decode cX8_wayBy 10 = .ok (.iload_n 2, 1) := by decide +kernel
theorem dX8_wayBy_11 : decode cX8_wayBy 11 = .ok (.invokevirtual 111, 3) := by decide +kernel
theorem dX8_wayBy_14 : decode cX8_wayBy 14 = .ok (.invokevirtual 98, 3) := by decide +kernel
theorem dX8_wayBy_17 : decode cX8_wayBy 17 = .ok (.iadd, 1) := by decide +kernel
theorem dX8_wayBy_18 : decode cX8_wayBy 18 = .ok (.aload_n 0, 1) := by decide +kernel
theorem dX8_wayBy_19 : decode cX8_wayBy 19 = .ok (.getfield 22, 3) := by decide +kernel
theorem dX8_wayBy_22 : decode cX8_wayBy 22 = .ok (.aload_n 0, 1) := by decide +kernel
theorem dX8_wayBy_23 : decode cX8_wayBy 23 = .ok (.iload_n 1, 1) := by decide +kernel
theorem dX8_wayBy_24 : decode cX8_wayBy 24 = .ok (.iload_n 2, 1) := by decide +kernel
theorem dX8_wayBy_25 : decode cX8_wayBy 25 = .ok (.invokevirtual 111, 3) := by decide +kernel
theorem dX8_wayBy_28 : decode cX8_wayBy 28 = .ok (.iaload, 1) := by decide +kernel
theorem dX8_wayBy_29 : decode cX8_wayBy 29 = .ok (.iadd, 1) := by decide +kernel
theorem dX8_wayBy_30 : decode cX8_wayBy 30 = .ok (.ireturn, 1) := by decide +kernel
set_option maxRecDepth 20000 in
theorem ggX8_layShortest_X8_hasGreen : GoodIn wsX8_layShortest wsX8_hasGreen := goodIn_r _ [7, 8, 9, 10, 6, 11, 12, 13, 14, 15, 1, 44, 45, 46, 47, 48, 49, 50, 51, 52, 53, 54, 55, 56] (by decide +kernel) (by decide +kernel)
set_option maxRecDepth 20000 in
theorem gX8_layShortest_X8_hasGreen : GoodIn wsX8_layShortest (wsV RX8 167 RX8 yX8_hasGreen wsX8_hasGreen) := goodIn_app (goodIn_of _ (by decide +kernel)) ggX8_layShortest_X8_hasGreen
set_option maxRecDepth 20000 in
theorem ggX8_layShortest_X8_rules : GoodIn wsX8_layShortest wsX8_rules := goodIn_r _ [19, 12, 13, 14, 6, 15, 1, 44, 45, 46, 47, 48, 49, 50, 51, 52, 53, 54, 55, 56] (by decide +kernel) (by decide +kernel)
set_option maxRecDepth 20000 in
theorem gX8_layShortest_X8_rules : GoodIn wsX8_layShortest (wsV RX8 71 RX8 yX8_rules wsX8_rules) := goodIn_app (goodIn_of _ (by decide +kernel)) ggX8_layShortest_X8_rules
set_option maxRecDepth 20000 in
theorem ggX8_layShortest_X8_canFollow : GoodIn wsX8_layShortest wsX8_canFollow := goodIn_r _ [23, 24, 25, 26, 6, 27, 28, 29, 30, 31, 12, 13, 14, 15, 1, 44, 45, 46, 47, 48, 49, 50, 51, 52, 53, 54, 55, 56] (by decide +kernel) (by decide +kernel)
set_option maxRecDepth 20000 in
theorem gX8_layShortest_X8_canFollow : GoodIn wsX8_layShortest (wsV RX8 164 RX8 yX8_canFollow wsX8_canFollow) := goodIn_app (goodIn_of _ (by decide +kernel)) ggX8_layShortest_X8_canFollow
set_option maxRecDepth 20000 in
theorem ggX8_layShortest_X8_wayBy : GoodIn wsX8_layShortest wsX8_wayBy := goodIn_r _ [35, 2, 12, 13, 14, 6, 15, 1, 36, 37, 38, 39, 40, 41, 42, 43, 8, 9, 10, 11, 44, 45, 46, 47, 48, 49, 50, 51, 52, 53, 54, 55, 56] (by decide +kernel) (by decide +kernel)
set_option maxRecDepth 20000 in
theorem gX8_layShortest_X8_wayBy : GoodIn wsX8_layShortest (wsV RX8 188 RX8 yX8_wayBy wsX8_wayBy) := goodIn_app (goodIn_of _ (by decide +kernel)) ggX8_layShortest_X8_wayBy
theorem dX8_layShortest_0 : decode cX8_layShortest 0 = .ok (.iconst 0, 1) := by decide +kernel
theorem dX8_layShortest_1 : decode cX8_layShortest 1 = .ok (.istore_n 2, 1) := by decide +kernel
theorem dX8_layShortest_2 : decode cX8_layShortest 2 = .ok (.iload_n 2, 1) := by decide +kernel
theorem dX8_layShortest_3 : decode cX8_layShortest 3 = .ok (.aload_n 0, 1) := by decide +kernel
theorem dX8_layShortest_4 : decode cX8_layShortest 4 = .ok (.getfield 7, 3) := by decide +kernel
theorem dX8_layShortest_7 : decode cX8_layShortest 7 = .ok (.iconst 0, 1) := by decide +kernel
theorem dX8_layShortest_8 : decode cX8_layShortest 8 = .ok (.iaload, 1) := by decide +kernel
theorem dX8_layShortest_9 : decode cX8_layShortest 9 = .ok (.if_icmp .ge 31, 3) := by decide +kernel
theorem dX8_layShortest_12 : decode cX8_layShortest 12 = .ok (.aload_n 0, 1) := by decide +kernel
theorem dX8_layShortest_13 : decode cX8_layShortest 13 = .ok (.getfield 22, 3) := by decide +kernel
theorem dX8_layShortest_16 : decode cX8_layShortest 16 = .ok (.iload_n 2, 1) := by decide +kernel
theorem dX8_layShortest_17 : decode cX8_layShortest 17 = .ok (.aload_n 0, 1) := by decide +kernel
theorem dX8_layShortest_18 : decode cX8_layShortest 18 = .ok (.iload_n 2, 1) := by decide +kernel
theorem dX8_layShortest_19 : decode cX8_layShortest 19 = .ok (.iload_n 1, 1) := by decide +kernel
theorem dX8_layShortest_20 : decode cX8_layShortest 20 = .ok (.invokevirtual 167, 3) := by decide +kernel
theorem dX8_layShortest_23 : decode cX8_layShortest 23 = .ok (.ifCond .eq 7, 3) := by decide +kernel
theorem dX8_layShortest_26 : decode cX8_layShortest 26 = .ok (.iconst 0, 1) := by decide +kernel
theorem dX8_layShortest_27 : decode cX8_layShortest 27 = .ok (.goto 6, 3) := by decide +kernel
theorem dX8_layShortest_30 : decode cX8_layShortest 30 = .ok (.sipush 9999, 3) := by decide +kernel
theorem dX8_layShortest_33 : decode cX8_layShortest 33 = .ok (.iastore, 1) := by decide +kernel
theorem dX8_layShortest_34 : decode cX8_layShortest 34 = .ok (.iinc 2 1, 3) := by decide +kernel
theorem dX8_layShortest_37 : decode cX8_layShortest 37 = .ok (.goto (-35), 3) := by decide +kernel
theorem dX8_layShortest_40 : decode cX8_layShortest 40 = .ok (.iconst 0, 1) := by decide +kernel
theorem dX8_layShortest_41 : decode cX8_layShortest 41 = .ok (.istore_n 2, 1) := by decide +kernel
theorem dX8_layShortest_42 : decode cX8_layShortest 42 = .ok (.iload_n 2, 1) := by decide +kernel
theorem dX8_layShortest_43 : decode cX8_layShortest 43 = .ok (.bipush 8, 2) := by decide +kernel
theorem dX8_layShortest_45 : decode cX8_layShortest 45 = .ok (.if_icmp .ge 109, 3) := by decide +kernel
theorem dX8_layShortest_48 : decode cX8_layShortest 48 = .ok (.iconst 0, 1) := by decide +kernel
theorem dX8_layShortest_49 : decode cX8_layShortest 49 = .ok (.istore_n 3, 1) := by decide +kernel
theorem dX8_layShortest_50 : decode cX8_layShortest 50 = .ok (.iload_n 3, 1) := by decide +kernel
theorem dX8_layShortest_51 : decode cX8_layShortest 51 = .ok (.aload_n 0, 1) := by decide +kernel
theorem dX8_layShortest_52 : decode cX8_layShortest 52 = .ok (.getfield 7, 3) := by decide +kernel
theorem dX8_layShortest_55 : decode cX8_layShortest 55 = .ok (.iconst 0, 1) := by decide +kernel
theorem dX8_layShortest_56 : decode cX8_layShortest 56 = .ok (.iaload, 1) := by decide +kernel
theorem dX8_layShortest_57 : decode cX8_layShortest 57 = .ok (.if_icmp .ge 91, 3) := by decide +kernel
theorem dX8_layShortest_60 : decode cX8_layShortest 60 = .ok (.iconst 0, 1) := by decide +kernel
theorem dX8_layShortest_61 : decode cX8_layShortest 61 = .ok (.istore 4, 2) := by decide +kernel
theorem dX8_layShortest_63 : decode cX8_layShortest 63 = .ok (.iload 4, 2) := by decide +kernel
theorem dX8_layShortest_65 : decode cX8_layShortest 65 = .ok (.aload_n 0, 1) := by decide +kernel
theorem dX8_layShortest_66 : decode cX8_layShortest 66 = .ok (.iload_n 3, 1) := by decide +kernel
theorem dX8_layShortest_67 : decode cX8_layShortest 67 = .ok (.invokevirtual 71, 3) := by decide +kernel
theorem dX8_layShortest_70 : decode cX8_layShortest 70 = .ok (.if_icmp .ge 72, 3) := by decide +kernel
theorem dX8_layShortest_73 : decode cX8_layShortest 73 = .ok (.aload_n 0, 1) := by decide +kernel
theorem dX8_layShortest_74 : decode cX8_layShortest 74 = .ok (.iload_n 3, 1) := by decide +kernel
theorem dX8_layShortest_75 : decode cX8_layShortest 75 = .ok (.iload_n 1, 1) := by decide +kernel
theorem dX8_layShortest_76 : decode cX8_layShortest 76 = .ok (.invokevirtual 167, 3) := by decide +kernel
theorem dX8_layShortest_79 : decode cX8_layShortest 79 = .ok (.ifCond .ne 63, 3) := by decide +kernel
theorem dX8_layShortest_82 : decode cX8_layShortest 82 = .ok (.aload_n 0, 1) := by decide +kernel
theorem dX8_layShortest_83 : decode cX8_layShortest 83 = .ok (.iload_n 3, 1) := by decide +kernel
theorem dX8_layShortest_84 : decode cX8_layShortest 84 = .ok (.iload 4, 2) := by decide +kernel
theorem dX8_layShortest_86 : decode cX8_layShortest 86 = .ok (.iload_n 1, 1) := by decide +kernel
theorem dX8_layShortest_87 : decode cX8_layShortest 87 = .ok (.invokevirtual 164, 3) := by decide +kernel
theorem dX8_layShortest_90 : decode cX8_layShortest 90 = .ok (.ifCond .eq 13, 3) := by decide +kernel
theorem dX8_layShortest_93 : decode cX8_layShortest 93 = .ok (.aload_n 0, 1) := by decide +kernel
theorem dX8_layShortest_94 : decode cX8_layShortest 94 = .ok (.iload_n 3, 1) := by decide +kernel
theorem dX8_layShortest_95 : decode cX8_layShortest 95 = .ok (.iload 4, 2) := by decide +kernel
theorem dX8_layShortest_97 : decode cX8_layShortest 97 = .ok (.invokevirtual 188, 3) := by decide +kernel
theorem dX8_layShortest_100 : decode cX8_layShortest 100 = .ok (.goto 6, 3) := by decide +kernel
theorem dX8_layShortest_103 : decode cX8_layShortest 103 = .ok (.sipush 9999, 3) := by decide +kernel
theorem dX8_layShortest_106 : decode cX8_layShortest 106 = .ok (.istore 5, 2) := by decide +kernel
theorem dX8_layShortest_108 : decode cX8_layShortest 108 = .ok (.aload_n 0, 1) := by decide +kernel
theorem dX8_layShortest_109 : decode cX8_layShortest 109 = .ok (.getfield 22, 3) := by decide +kernel
theorem dX8_layShortest_112 : decode cX8_layShortest 112 = .ok (.iload_n 3, 1) := by decide +kernel
theorem dX8_layShortest_113 : decode cX8_layShortest 113 = .ok (.iload 5, 2) := by decide +kernel
theorem dX8_layShortest_115 : decode cX8_layShortest 115 = .ok (.aload_n 0, 1) := by decide +kernel
theorem dX8_layShortest_116 : decode cX8_layShortest 116 = .ok (.getfield 22, 3) := by decide +kernel
theorem dX8_layShortest_119 : decode cX8_layShortest 119 = .ok (.iload_n 3, 1) := by decide +kernel
theorem dX8_layShortest_120 : decode cX8_layShortest 120 = .ok (.iaload, 1) := by decide +kernel
theorem dX8_layShortest_121 : decode cX8_layShortest 121 = .ok (.if_icmp .ge 8, 3) := by decide +kernel
theorem dX8_layShortest_124 : decode cX8_layShortest 124 = .ok (.iload 5, 2) := by decide +kernel
theorem dX8_layShortest_126 : decode cX8_layShortest 126 = .ok (.goto 9, 3) := by decide +kernel
theorem dX8_layShortest_129 : decode cX8_layShortest 129 = .ok (.aload_n 0, 1) := by decide +kernel
theorem dX8_layShortest_130 : decode cX8_layShortest 130 = .ok (.getfield 22, 3) := by decide +kernel
theorem dX8_layShortest_133 : decode cX8_layShortest 133 = .ok (.iload_n 3, 1) := by decide +kernel
theorem dX8_layShortest_134 : decode cX8_layShortest 134 = .ok (.iaload, 1) := by decide +kernel
theorem dX8_layShortest_135 : decode cX8_layShortest 135 = .ok (.iastore, 1) := by decide +kernel
theorem dX8_layShortest_136 : decode cX8_layShortest 136 = .ok (.iinc 4 1, 3) := by decide +kernel
theorem dX8_layShortest_139 : decode cX8_layShortest 139 = .ok (.goto (-76), 3) := by decide +kernel
theorem dX8_layShortest_142 : decode cX8_layShortest 142 = .ok (.iinc 3 1, 3) := by decide +kernel
theorem dX8_layShortest_145 : decode cX8_layShortest 145 = .ok (.goto (-95), 3) := by decide +kernel
theorem dX8_layShortest_148 : decode cX8_layShortest 148 = .ok (.iinc 2 1, 3) := by decide +kernel
theorem dX8_layShortest_151 : decode cX8_layShortest 151 = .ok (.goto (-109), 3) := by decide +kernel
theorem dX8_layShortest_154 : decode cX8_layShortest 154 = .ok (.return_, 1) := by decide +kernel
set_option maxRecDepth 20000 in
theorem ggX8_layLongest_X8_hasGreen : GoodIn wsX8_layLongest wsX8_hasGreen := goodIn_r _ [7, 8, 9, 10, 6, 11, 12, 13, 14, 15, 1, 60, 61, 62, 63, 64, 65, 66, 67, 68, 69, 70, 71, 72] (by decide +kernel) (by decide +kernel)
set_option maxRecDepth 20000 in
theorem gX8_layLongest_X8_hasGreen : GoodIn wsX8_layLongest (wsV RX8 167 RX8 yX8_hasGreen wsX8_hasGreen) := goodIn_app (goodIn_of _ (by decide +kernel)) ggX8_layLongest_X8_hasGreen
set_option maxRecDepth 20000 in
theorem ggX8_layLongest_X8_canStarve : GoodIn wsX8_layLongest wsX8_canStarve := goodIn_r _ [19, 1, 3, 4, 5, 6, 7, 8, 9, 10, 11, 12, 13, 14, 15, 20, 21, 22, 23, 24, 25, 26, 27, 28, 29, 30, 31, 32, 33, 34, 35, 36, 37, 38, 39, 40, 41, 42, 43, 44, 45, 46, 47, 48, 49, 50, 51, 60, 61, 62, 63, 64, 65, 66, 67, 68, 69, 70, 71, 72] (by decide +kernel) (by decide +kernel)
set_option maxRecDepth 20000 in
theorem gX8_layLongest_X8_canStarve : GoodIn wsX8_layLongest (wsV RX8 182 RX8 yX8_canStarve wsX8_canStarve) := goodIn_app (goodIn_of _ (by decide +kernel)) ggX8_layLongest_X8_canStarve
set_option maxRecDepth 20000 in
theorem ggX8_layLongest_X8_rules : GoodIn wsX8_layLongest wsX8_rules := goodIn_r _ [27, 12, 13, 14, 6, 15, 1, 60, 61, 62, 63, 64, 65, 66, 67, 68, 69, 70, 71, 72] (by decide +kernel) (by decide +kernel)
set_option maxRecDepth 20000 in
theorem gX8_layLongest_X8_rules : GoodIn wsX8_layLongest (wsV RX8 71 RX8 yX8_rules wsX8_rules) := goodIn_app (goodIn_of _ (by decide +kernel)) ggX8_layLongest_X8_rules
set_option maxRecDepth 20000 in
theorem ggX8_layLongest_X8_canFollow : GoodIn wsX8_layLongest wsX8_canFollow := goodIn_r _ [31, 32, 33, 34, 6, 35, 36, 37, 38, 39, 12, 13, 14, 15, 1, 60, 61, 62, 63, 64, 65, 66, 67, 68, 69, 70, 71, 72] (by decide +kernel) (by decide +kernel)
set_option maxRecDepth 20000 in
theorem gX8_layLongest_X8_canFollow : GoodIn wsX8_layLongest (wsV RX8 164 RX8 yX8_canFollow wsX8_canFollow) := goodIn_app (goodIn_of _ (by decide +kernel)) ggX8_layLongest_X8_canFollow
set_option maxRecDepth 20000 in
theorem ggX8_layLongest_X8_wayBy : GoodIn wsX8_layLongest wsX8_wayBy := goodIn_r _ [55, 2, 12, 13, 14, 6, 15, 1, 40, 41, 42, 43, 56, 57, 58, 59, 8, 9, 10, 11, 60, 61, 62, 63, 64, 65, 66, 67, 68, 69, 70, 71, 72] (by decide +kernel) (by decide +kernel)
set_option maxRecDepth 20000 in
theorem gX8_layLongest_X8_wayBy : GoodIn wsX8_layLongest (wsV RX8 188 RX8 yX8_wayBy wsX8_wayBy) := goodIn_app (goodIn_of _ (by decide +kernel)) ggX8_layLongest_X8_wayBy
theorem dX8_layLongest_0 : decode cX8_layLongest 0 = .ok (.iconst 0, 1) := by decide +kernel
theorem dX8_layLongest_1 : decode cX8_layLongest 1 = .ok (.istore_n 2, 1) := by decide +kernel
theorem dX8_layLongest_2 : decode cX8_layLongest 2 = .ok (.iload_n 2, 1) := by decide +kernel
theorem dX8_layLongest_3 : decode cX8_layLongest 3 = .ok (.aload_n 0, 1) := by decide +kernel
theorem dX8_layLongest_4 : decode cX8_layLongest 4 = .ok (.getfield 7, 3) := by decide +kernel
theorem dX8_layLongest_7 : decode cX8_layLongest 7 = .ok (.iconst 0, 1) := by decide +kernel
theorem dX8_layLongest_8 : decode cX8_layLongest 8 = .ok (.iaload, 1) := by decide +kernel
theorem dX8_layLongest_9 : decode cX8_layLongest 9 = .ok (.if_icmp .ge 16, 3) := by decide +kernel
theorem dX8_layLongest_12 : decode cX8_layLongest 12 = .ok (.aload_n 0, 1) := by decide +kernel
theorem dX8_layLongest_13 : decode cX8_layLongest 13 = .ok (.getfield 22, 3) := by decide +kernel
theorem dX8_layLongest_16 : decode cX8_layLongest 16 = .ok (.iload_n 2, 1) := by decide +kernel
theorem dX8_layLongest_17 : decode cX8_layLongest 17 = .ok (.iconst 0, 1) := by decide +kernel
theorem dX8_layLongest_18 : decode cX8_layLongest 18 = .ok (.iastore, 1) := by decide +kernel
theorem dX8_layLongest_19 : decode cX8_layLongest 19 = .ok (.iinc 2 1, 3) := by decide +kernel
theorem dX8_layLongest_22 : decode cX8_layLongest 22 = .ok (.goto (-20), 3) := by decide +kernel
theorem dX8_layLongest_25 : decode cX8_layLongest 25 = .ok (.iconst 0, 1) := by decide +kernel
theorem dX8_layLongest_26 : decode cX8_layLongest 26 = .ok (.istore_n 2, 1) := by decide +kernel
theorem dX8_layLongest_27 : decode cX8_layLongest 27 = .ok (.iload_n 2, 1) := by decide +kernel
theorem dX8_layLongest_28 : decode cX8_layLongest 28 = .ok (.bipush 8, 2) := by decide +kernel
theorem dX8_layLongest_30 : decode cX8_layLongest 30 = .ok (.if_icmp .ge 128, 3) := by decide +kernel
theorem dX8_layLongest_33 : decode cX8_layLongest 33 = .ok (.iconst 0, 1) := by decide +kernel
theorem dX8_layLongest_34 : decode cX8_layLongest 34 = .ok (.istore_n 3, 1) := by decide +kernel
theorem dX8_layLongest_35 : decode cX8_layLongest 35 = .ok (.iload_n 3, 1) := by decide +kernel
theorem dX8_layLongest_36 : decode cX8_layLongest 36 = .ok (.aload_n 0, 1) := by decide +kernel
theorem dX8_layLongest_37 : decode cX8_layLongest 37 = .ok (.getfield 7, 3) := by decide +kernel
theorem dX8_layLongest_40 : decode cX8_layLongest 40 = .ok (.iconst 0, 1) := by decide +kernel
theorem dX8_layLongest_41 : decode cX8_layLongest 41 = .ok (.iaload, 1) := by decide +kernel
theorem dX8_layLongest_42 : decode cX8_layLongest 42 = .ok (.if_icmp .ge 110, 3) := by decide +kernel
theorem dX8_layLongest_45 : decode cX8_layLongest 45 = .ok (.aload_n 0, 1) := by decide +kernel
theorem dX8_layLongest_46 : decode cX8_layLongest 46 = .ok (.iload_n 3, 1) := by decide +kernel
theorem dX8_layLongest_47 : decode cX8_layLongest 47 = .ok (.iload_n 1, 1) := by decide +kernel
theorem dX8_layLongest_48 : decode cX8_layLongest 48 = .ok (.invokevirtual 167, 3) := by decide +kernel
theorem dX8_layLongest_51 : decode cX8_layLongest 51 = .ok (.ifCond .ne 16, 3) := by decide +kernel
theorem dX8_layLongest_54 : decode cX8_layLongest 54 = .ok (.aload_n 0, 1) := by decide +kernel
theorem dX8_layLongest_55 : decode cX8_layLongest 55 = .ok (.iload_n 3, 1) := by decide +kernel
theorem dX8_layLongest_56 : decode cX8_layLongest 56 = .ok (.iload_n 1, 1) := by decide +kernel
theorem dX8_layLongest_57 : decode cX8_layLongest 57 = .ok (.invokevirtual 182, 3) := by decide +kernel
theorem dX8_layLongest_60 : decode cX8_layLongest 60 = .ok (.ifCond .ne 7, 3) := by decide +kernel
theorem dX8_layLongest_63 : decode cX8_layLongest 63 = .ok (.iconst 1, 1) := by decide +kernel
theorem dX8_layLongest_64 : decode cX8_layLongest 64 = .ok (.goto 4, 3) := by decide +kernel
theorem dX8_layLongest_67 : decode cX8_layLongest 67 = .ok (.iconst 0, 1) := by decide +kernel
theorem dX8_layLongest_68 : decode cX8_layLongest 68 = .ok (.istore 4, 2) := by decide +kernel
theorem dX8_layLongest_70 : decode cX8_layLongest 70 = .ok (.iconst 0, 1) := by decide +kernel
theorem dX8_layLongest_71 : decode cX8_layLongest 71 = .ok (.istore 5, 2) := by decide +kernel
theorem dX8_layLongest_73 : decode cX8_layLongest 73 = .ok (.iload 5, 2) := by decide +kernel
theorem dX8_layLongest_75 : decode cX8_layLongest 75 = .ok (.aload_n 0, 1) := by decide +kernel
theorem dX8_layLongest_76 : decode cX8_layLongest 76 = .ok (.iload_n 3, 1) := by decide +kernel
theorem dX8_layLongest_77 : decode cX8_layLongest 77 = .ok (.invokevirtual 71, 3) := by decide +kernel
theorem dX8_layLongest_80 : decode cX8_layLongest 80 = .ok (.if_icmp .ge 66, 3) := by decide +kernel
theorem dX8_layLongest_83 : decode cX8_layLongest 83 = .ok (.iload 4, 2) := by decide +kernel
theorem dX8_layLongest_85 : decode cX8_layLongest 85 = .ok (.ifCond .eq 61, 3) := by decide +kernel
theorem dX8_layLongest_88 : decode cX8_layLongest 88 = .ok (.aload_n 0, 1) := by decide +kernel
theorem dX8_layLongest_89 : decode cX8_layLongest 89 = .ok (.iload_n 3, 1) := by decide +kernel
theorem dX8_layLongest_90 : decode cX8_layLongest 90 = .ok (.iload 5, 2) := by decide +kernel
theorem dX8_layLongest_92 : decode cX8_layLongest 92 = .ok (.iload_n 1, 1) := by decide +kernel
theorem dX8_layLongest_93 : decode cX8_layLongest 93 = .ok (.invokevirtual 164, 3) := by decide +kernel
theorem dX8_layLongest_96 : decode cX8_layLongest 96 = .ok (.ifCond .eq 13, 3) := by decide +kernel
theorem dX8_layLongest_99 : decode cX8_layLongest 99 = .ok (.aload_n 0, 1) := by decide +kernel
theorem dX8_layLongest_100 : decode cX8_layLongest 100 = .ok (.iload_n 3, 1) := by decide +kernel
theorem dX8_layLongest_101 : decode cX8_layLongest 101 = .ok (.iload 5, 2) := by decide +kernel
theorem dX8_layLongest_103 : decode cX8_layLongest 103 = .ok (.invokevirtual 188, 3) := by decide +kernel
theorem dX8_layLongest_106 : decode cX8_layLongest 106 = .ok (.goto 4, 3) := by decide +kernel
theorem dX8_layLongest_109 : decode cX8_layLongest 109 = .ok (.iconst 0, 1) := by decide +kernel
theorem dX8_layLongest_110 : decode cX8_layLongest 110 = .ok (.istore 6, 2) := by decide +kernel
theorem dX8_layLongest_112 : decode cX8_layLongest 112 = .ok (.aload_n 0, 1) := by decide +kernel
theorem dX8_layLongest_113 : decode cX8_layLongest 113 = .ok (.getfield 22, 3) := by decide +kernel
theorem dX8_layLongest_116 : decode cX8_layLongest 116 = .ok (.iload_n 3, 1) := by decide +kernel
theorem dX8_layLongest_117 : decode cX8_layLongest 117 = .ok (.iload 6, 2) := by decide +kernel
theorem dX8_layLongest_119 : decode cX8_layLongest 119 = .ok (.aload_n 0, 1) := by decide +kernel
theorem dX8_layLongest_120 : decode cX8_layLongest 120 = .ok (.getfield 22, 3) := by decide +kernel
theorem dX8_layLongest_123 : decode cX8_layLongest 123 = .ok (.iload_n 3, 1) := by decide +kernel
theorem dX8_layLongest_124 : decode cX8_layLongest 124 = .ok (.iaload, 1) := by decide +kernel
theorem dX8_layLongest_125 : decode cX8_layLongest 125 = .ok (.if_icmp .le 8, 3) := by decide +kernel
theorem dX8_layLongest_128 : decode cX8_layLongest 128 = .ok (.iload 6, 2) := by decide +kernel
theorem dX8_layLongest_130 : decode cX8_layLongest 130 = .ok (.goto 9, 3) := by decide +kernel
theorem dX8_layLongest_133 : decode cX8_layLongest 133 = .ok (.aload_n 0, 1) := by decide +kernel
theorem dX8_layLongest_134 : decode cX8_layLongest 134 = .ok (.getfield 22, 3) := by decide +kernel
theorem dX8_layLongest_137 : decode cX8_layLongest 137 = .ok (.iload_n 3, 1) := by decide +kernel
theorem dX8_layLongest_138 : decode cX8_layLongest 138 = .ok (.iaload, 1) := by decide +kernel
theorem dX8_layLongest_139 : decode cX8_layLongest 139 = .ok (.iastore, 1) := by decide +kernel
theorem dX8_layLongest_140 : decode cX8_layLongest 140 = .ok (.iinc 5 1, 3) := by decide +kernel
theorem dX8_layLongest_143 : decode cX8_layLongest 143 = .ok (.goto (-70), 3) := by decide +kernel
theorem dX8_layLongest_146 : decode cX8_layLongest 146 = .ok (.iinc 3 1, 3) := by decide +kernel
theorem dX8_layLongest_149 : decode cX8_layLongest 149 = .ok (.goto (-114), 3) := by decide +kernel
theorem dX8_layLongest_152 : decode cX8_layLongest 152 = .ok (.iinc 2 1, 3) := by decide +kernel
theorem dX8_layLongest_155 : decode cX8_layLongest 155 = .ok (.goto (-128), 3) := by decide +kernel
theorem dX8_layLongest_158 : decode cX8_layLongest 158 = .ok (.return_, 1) := by decide +kernel
set_option maxRecDepth 20000 in
theorem ggX8_longest_X8_canStarve : GoodIn wsX8_longest wsX8_canStarve := goodIn_r _ [6, 7, 8, 9, 10, 5, 11, 12, 13, 14, 15, 16, 17, 18, 19, 20, 21, 22, 23, 24, 25, 26, 27, 28, 29, 30, 31, 32, 33, 34, 35, 36, 37, 38, 39, 40, 41, 42, 43, 44, 45, 46, 47, 48, 49, 50, 51, 64, 65, 66, 67, 68, 69, 70, 71, 72, 73, 74, 75, 76] (by decide +kernel) (by decide +kernel)
set_option maxRecDepth 20000 in
theorem gX8_longest_X8_canStarve : GoodIn wsX8_longest (wsV RX8 182 RX8 yX8_canStarve wsX8_canStarve) := goodIn_app (goodIn_of _ (by decide +kernel)) ggX8_longest_X8_canStarve
set_option maxRecDepth 20000 in
theorem ggX8_longest_X8_layLongest : GoodIn wsX8_longest wsX8_layLongest := goodIn_r _ [55, 7, 1, 8, 9, 10, 5, 11, 12, 13, 14, 15, 16, 17, 18, 19, 2, 3, 4, 6, 20, 21, 22, 23, 24, 25, 26, 27, 28, 29, 30, 31, 32, 33, 34, 35, 36, 37, 38, 39, 40, 41, 42, 43, 44, 45, 46, 47, 48, 49, 50, 51, 56, 57, 58, 59, 60, 61, 62, 63, 64, 65, 66, 67, 68, 69, 70, 71, 72, 73, 74, 75, 76] (by decide +kernel) (by decide +kernel)
set_option maxRecDepth 20000 in
theorem gX8_longest_X8_layLongest : GoodIn wsX8_longest (wsV RX8 191 RX8 yX8_layLongest wsX8_layLongest) := goodIn_app (goodIn_of _ (by decide +kernel)) ggX8_longest_X8_layLongest
theorem dX8_longest_0 : decode cX8_longest 0 = .ok (.aload_n 0, 1) := by decide +kernel
theorem dX8_longest_1 : decode cX8_longest 1 = .ok (.iload_n 2, 1) := by decide +kernel
theorem dX8_longest_2 : decode cX8_longest 2 = .ok (.iload_n 1, 1) := by decide +kernel
theorem dX8_longest_3 : decode cX8_longest 3 = .ok (.invokevirtual 182, 3) := by decide +kernel
theorem dX8_longest_6 : decode cX8_longest 6 = .ok (.ifCond .eq 5, 3) := by decide +kernel
theorem dX8_longest_9 : decode cX8_longest 9 = .ok (.iconst (-1), 1) := by decide +kernel
theorem dX8_longest_10 : decode cX8_longest 10 = .ok (.ireturn, 1) := by decide +kernel
theorem dX8_longest_11 : decode cX8_longest 11 = .ok (.aload_n 0, 1) := by decide +kernel
theorem dX8_longest_12 : decode cX8_longest 12 = .ok (.iload_n 1, 1) := by decide +kernel
theorem dX8_longest_13 : decode cX8_longest 13 = .ok (.invokevirtual 191, 3) := by decide +kernel
theorem dX8_longest_16 : decode cX8_longest 16 = .ok (.aload_n 0, 1) := by decide +kernel
theorem dX8_longest_17 : decode cX8_longest 17 = .ok (.getfield 22, 3) := by decide +kernel
theorem dX8_longest_20 : decode cX8_longest 20 = .ok (.iload_n 2, 1) := by decide +kernel
theorem dX8_longest_21 : decode cX8_longest 21 = .ok (.iaload, 1) := by decide +kernel
theorem dX8_longest_22 : decode cX8_longest 22 = .ok (.ireturn, 1) := by decide +kernel
set_option maxRecDepth 20000 in
theorem ggX8_shortest_X8_layShortest : GoodIn wsX8_shortest wsX8_layShortest := goodIn_r _ [6, 7, 1, 8, 9, 10, 5, 11, 12, 13, 14, 15, 16, 17, 18, 19, 20, 21, 22, 23, 24, 25, 26, 27, 28, 29, 30, 31, 32, 33, 34, 35, 36, 37, 38, 39, 40, 41, 42, 43, 44, 45, 46, 47, 48, 49, 50, 51, 52, 53, 54, 55, 56, 57, 58, 59, 60] (by decide +kernel) (by decide +kernel)
set_option maxRecDepth 20000 in
theorem gX8_shortest_X8_layShortest : GoodIn wsX8_shortest (wsV RX8 194 RX8 yX8_layShortest wsX8_layShortest) := goodIn_app (goodIn_of _ (by decide +kernel)) ggX8_shortest_X8_layShortest
theorem dX8_shortest_0 : decode cX8_shortest 0 = .ok (.aload_n 0, 1) := by decide +kernel
theorem dX8_shortest_1 : decode cX8_shortest 1 = .ok (.iload_n 1, 1) := by decide +kernel
theorem dX8_shortest_2 : decode cX8_shortest 2 = .ok (.invokevirtual 194, 3) := by decide +kernel
theorem dX8_shortest_5 : decode cX8_shortest 5 = .ok (.aload_n 0, 1) := by decide +kernel
theorem dX8_shortest_6 : decode cX8_shortest 6 = .ok (.getfield 22, 3) := by decide +kernel
theorem dX8_shortest_9 : decode cX8_shortest 9 = .ok (.iload_n 2, 1) := by decide +kernel
theorem dX8_shortest_10 : decode cX8_shortest 10 = .ok (.iaload, 1) := by decide +kernel
theorem dX8_shortest_11 : decode cX8_shortest 11 = .ok (.sipush 9999, 3) := by decide +kernel
theorem dX8_shortest_14 : decode cX8_shortest 14 = .ok (.if_icmp .lt 7, 3) := by decide +kernel
theorem dX8_shortest_17 : decode cX8_shortest 17 = .ok (.iconst (-1), 1) := by decide +kernel
theorem dX8_shortest_18 : decode cX8_shortest 18 = .ok (.goto 9, 3) := by decide +kernel
theorem dX8_shortest_21 : decode cX8_shortest 21 = .ok (.aload_n 0, 1) := by decide +kernel
theorem dX8_shortest_22 : decode cX8_shortest 22 = .ok (.getfield 22, 3) := by decide +kernel
theorem dX8_shortest_25 : decode cX8_shortest 25 = .ok (.iload_n 2, 1) := by decide +kernel
theorem dX8_shortest_26 : decode cX8_shortest 26 = .ok (.iaload, 1) := by decide +kernel
theorem dX8_shortest_27 : decode cX8_shortest 27 = .ok (.ireturn, 1) := by decide +kernel
set_option maxRecDepth 20000 in
theorem ggX8_starves_X8_isPhase : GoodIn wsX8_starves wsX8_isPhase := goodIn_r _ [6, 7, 62, 63, 64, 65, 66, 67, 68, 69, 70, 71, 72, 73, 74] (by decide +kernel) (by decide +kernel)
set_option maxRecDepth 20000 in
theorem gX8_starves_X8_isPhase : GoodIn wsX8_starves (wsV RX8 68 RX8 yX8_isPhase wsX8_isPhase) := goodIn_app (goodIn_of _ (by decide +kernel)) ggX8_starves_X8_isPhase
set_option maxRecDepth 20000 in
theorem ggX8_starves_X8_isDirection : GoodIn wsX8_starves wsX8_isDirection := goodIn_r _ [10, 11, 12, 5, 13] (by decide +kernel) (by decide +kernel)
set_option maxRecDepth 20000 in
theorem gX8_starves_X8_isDirection : GoodIn wsX8_starves (va_wsS RX8 47 yX8_isDirection wsX8_isDirection) := goodIn_app (goodIn_of _ (by decide +kernel)) ggX8_starves_X8_isDirection
set_option maxRecDepth 20000 in
theorem ggX8_starves_X8_canStarve : GoodIn wsX8_starves wsX8_canStarve := goodIn_r _ [17, 7, 18, 19, 20, 5, 21, 22, 23, 24, 25, 26, 27, 28, 29, 30, 31, 32, 33, 34, 35, 36, 37, 38, 39, 40, 41, 42, 43, 44, 45, 46, 47, 48, 49, 50, 51, 52, 53, 54, 55, 56, 57, 58, 59, 60, 61, 62, 63, 64, 65, 66, 67, 68, 69, 70, 71, 72, 73, 74] (by decide +kernel) (by decide +kernel)
set_option maxRecDepth 20000 in
theorem gX8_starves_X8_canStarve : GoodIn wsX8_starves (wsV RX8 182 RX8 yX8_canStarve wsX8_canStarve) := goodIn_app (goodIn_of _ (by decide +kernel)) ggX8_starves_X8_canStarve
theorem dX8_starves_0 : decode cX8_starves 0 = .ok (.aload_n 0, 1) := by decide +kernel
theorem dX8_starves_1 : decode cX8_starves 1 = .ok (.aload_n 0, 1) := by decide +kernel
theorem dX8_starves_2 : decode cX8_starves 2 = .ok (.iload_n 2, 1) := by decide +kernel
theorem dX8_starves_3 : decode cX8_starves 3 = .ok (.invokevirtual 68, 3) := by decide +kernel
theorem dX8_starves_6 : decode cX8_starves 6 = .ok (.ifCond .ne 7, 3) := by decide +kernel
theorem dX8_starves_9 : decode cX8_starves 9 = .ok (.iconst 1, 1) := by decide +kernel
theorem dX8_starves_10 : decode cX8_starves 10 = .ok (.goto 15, 3) := by decide +kernel
theorem dX8_starves_13 : decode cX8_starves 13 = .ok (.iload_n 1, 1) := by decide +kernel
theorem dX8_starves_14 : decode cX8_starves 14 = .ok (.invokestatic 47, 3) := by decide +kernel
theorem dX8_starves_17 : decode cX8_starves 17 = .ok (.ifCond .eq 7, 3) := by decide +kernel
theorem dX8_starves_20 : decode cX8_starves 20 = .ok (.iconst 0, 1) := by decide +kernel
theorem dX8_starves_21 : decode cX8_starves 21 = .ok (.goto 4, 3) := by decide +kernel
theorem dX8_starves_24 : decode cX8_starves 24 = .ok (.iconst 2, 1) := by decide +kernel
theorem dX8_starves_25 : decode cX8_starves 25 = .ok (.putfield 28, 3) := by decide +kernel
theorem dX8_starves_28 : decode cX8_starves 28 = .ok (.aload_n 0, 1) := by decide +kernel
theorem dX8_starves_29 : decode cX8_starves 29 = .ok (.getfield 28, 3) := by decide +kernel
theorem dX8_starves_32 : decode cX8_starves 32 = .ok (.ifCond .le 7, 3) := by decide +kernel
theorem dX8_starves_35 : decode cX8_starves 35 = .ok (.iconst 0, 1) := by decide +kernel
theorem dX8_starves_36 : decode cX8_starves 36 = .ok (.goto 17, 3) := by decide +kernel
theorem dX8_starves_39 : decode cX8_starves 39 = .ok (.aload_n 0, 1) := by decide +kernel
theorem dX8_starves_40 : decode cX8_starves 40 = .ok (.iload_n 2, 1) := by decide +kernel
theorem dX8_starves_41 : decode cX8_starves 41 = .ok (.iload_n 1, 1) := by decide +kernel
theorem dX8_starves_42 : decode cX8_starves 42 = .ok (.invokevirtual 182, 3) := by decide +kernel
theorem dX8_starves_45 : decode cX8_starves 45 = .ok (.ifCond .eq 7, 3) := by decide +kernel
theorem dX8_starves_48 : decode cX8_starves 48 = .ok (.iconst 1, 1) := by decide +kernel
theorem dX8_starves_49 : decode cX8_starves 49 = .ok (.goto 4, 3) := by decide +kernel
theorem dX8_starves_52 : decode cX8_starves 52 = .ok (.iconst 0, 1) := by decide +kernel
theorem dX8_starves_53 : decode cX8_starves 53 = .ok (.ireturn, 1) := by decide +kernel
set_option maxRecDepth 20000 in
theorem ggX8_rounds_X8_isDirection : GoodIn wsX8_rounds wsX8_isDirection := goodIn_r _ [5, 6, 7, 4, 8] (by decide +kernel) (by decide +kernel)
set_option maxRecDepth 20000 in
theorem gX8_rounds_X8_isDirection : GoodIn wsX8_rounds (va_wsS RX8 47 yX8_isDirection wsX8_isDirection) := goodIn_app (goodIn_of _ (by decide +kernel)) ggX8_rounds_X8_isDirection
set_option maxRecDepth 20000 in
theorem ggX8_rounds_X8_roundsOf : GoodIn wsX8_rounds wsX8_roundsOf := goodIn_r _ [12, 13, 14, 15, 16, 4, 17, 18, 19, 20, 21, 22, 23, 24, 25, 26, 27, 28, 29, 30, 31, 32, 33, 34, 35, 36, 37, 38, 39, 40, 41, 42, 43, 44, 45, 46, 47, 48, 49, 50, 51, 52, 53, 54, 55, 56, 57, 58, 59, 60, 61, 62, 63, 64, 65, 66, 67, 68, 69, 70, 71, 72, 73, 74] (by decide +kernel) (by decide +kernel)
set_option maxRecDepth 20000 in
theorem gX8_rounds_X8_roundsOf : GoodIn wsX8_rounds (wsV RX8 197 RX8 yX8_roundsOf wsX8_roundsOf) := goodIn_app (goodIn_of _ (by decide +kernel)) ggX8_rounds_X8_roundsOf
theorem dX8_rounds_0 : decode cX8_rounds 0 = .ok (.aload_n 0, 1) := by decide +kernel
theorem dX8_rounds_1 : decode cX8_rounds 1 = .ok (.iload_n 1, 1) := by decide +kernel
theorem dX8_rounds_2 : decode cX8_rounds 2 = .ok (.invokestatic 47, 3) := by decide +kernel
theorem dX8_rounds_5 : decode cX8_rounds 5 = .ok (.ifCond .eq 7, 3) := by decide +kernel
theorem dX8_rounds_8 : decode cX8_rounds 8 = .ok (.iconst 0, 1) := by decide +kernel
theorem dX8_rounds_9 : decode cX8_rounds 9 = .ok (.goto 4, 3) := by decide +kernel
theorem dX8_rounds_12 : decode cX8_rounds 12 = .ok (.iconst 1, 1) := by decide +kernel
theorem dX8_rounds_13 : decode cX8_rounds 13 = .ok (.putfield 28, 3) := by decide +kernel
theorem dX8_rounds_16 : decode cX8_rounds 16 = .ok (.aload_n 0, 1) := by decide +kernel
theorem dX8_rounds_17 : decode cX8_rounds 17 = .ok (.getfield 28, 3) := by decide +kernel
theorem dX8_rounds_20 : decode cX8_rounds 20 = .ok (.ifCond .le 7, 3) := by decide +kernel
theorem dX8_rounds_23 : decode cX8_rounds 23 = .ok (.iconst 0, 1) := by decide +kernel
theorem dX8_rounds_24 : decode cX8_rounds 24 = .ok (.goto 8, 3) := by decide +kernel
theorem dX8_rounds_27 : decode cX8_rounds 27 = .ok (.aload_n 0, 1) := by decide +kernel
theorem dX8_rounds_28 : decode cX8_rounds 28 = .ok (.iload_n 1, 1) := by decide +kernel
theorem dX8_rounds_29 : decode cX8_rounds 29 = .ok (.invokevirtual 197, 3) := by decide +kernel
theorem dX8_rounds_32 : decode cX8_rounds 32 = .ok (.ireturn, 1) := by decide +kernel
set_option maxRecDepth 20000 in
theorem ggX8_waitFor_X8_isPhase : GoodIn wsX8_waitFor wsX8_isPhase := goodIn_r _ [6, 7, 87, 88, 89, 90, 91, 92, 93, 94, 95, 96, 97, 98, 99] (by decide +kernel) (by decide +kernel)
set_option maxRecDepth 20000 in
theorem gX8_waitFor_X8_isPhase : GoodIn wsX8_waitFor (wsV RX8 68 RX8 yX8_isPhase wsX8_isPhase) := goodIn_app (goodIn_of _ (by decide +kernel)) ggX8_waitFor_X8_isPhase
set_option maxRecDepth 20000 in
theorem ggX8_waitFor_X8_isDirection : GoodIn wsX8_waitFor wsX8_isDirection := goodIn_r _ [10, 11, 12, 5, 13] (by decide +kernel) (by decide +kernel)
set_option maxRecDepth 20000 in
theorem gX8_waitFor_X8_isDirection : GoodIn wsX8_waitFor (va_wsS RX8 47 yX8_isDirection wsX8_isDirection) := goodIn_app (goodIn_of _ (by decide +kernel)) ggX8_waitFor_X8_isDirection
set_option maxRecDepth 20000 in
theorem ggX8_waitFor_X8_longest : GoodIn wsX8_waitFor wsX8_longest := goodIn_r _ [17, 18, 19, 20, 21, 5, 22, 7, 23, 24, 25, 26, 27, 28, 29, 30, 31, 32, 33, 34, 35, 36, 37, 38, 39, 40, 41, 42, 43, 44, 45, 46, 47, 48, 49, 50, 51, 52, 53, 54, 55, 56, 57, 58, 59, 60, 61, 62, 63, 64, 65, 66, 67, 68, 69, 70, 71, 72, 73, 74, 75, 76, 77, 78, 87, 88, 89, 90, 91, 92, 93, 94, 95, 96, 97, 98, 99] (by decide +kernel) (by decide +kernel)
set_option maxRecDepth 20000 in
theorem gX8_waitFor_X8_longest : GoodIn wsX8_waitFor (wsV RX8 200 RX8 yX8_longest wsX8_longest) := goodIn_app (goodIn_of _ (by decide +kernel)) ggX8_waitFor_X8_longest
set_option maxRecDepth 20000 in
theorem ggX8_waitFor_X8_shortest : GoodIn wsX8_waitFor wsX8_shortest := goodIn_r _ [82, 18, 83, 84, 85, 5, 86, 7, 23, 24, 25, 26, 27, 28, 29, 30, 31, 32, 33, 34, 39, 40, 41, 42, 43, 44, 45, 46, 47, 48, 49, 50, 51, 52, 53, 54, 71, 72, 73, 74, 55, 56, 57, 58, 75, 76, 77, 78, 87, 88, 89, 90, 91, 92, 93, 94, 95, 96, 97, 98, 99] (by decide +kernel) (by decide +kernel)
set_option maxRecDepth 20000 in
theorem gX8_waitFor_X8_shortest : GoodIn wsX8_waitFor (wsV RX8 203 RX8 yX8_shortest wsX8_shortest) := goodIn_app (goodIn_of _ (by decide +kernel)) ggX8_waitFor_X8_shortest
theorem dX8_waitFor_0 : decode cX8_waitFor 0 = .ok (.aload_n 0, 1) := by decide +kernel
theorem dX8_waitFor_1 : decode cX8_waitFor 1 = .ok (.aload_n 0, 1) := by decide +kernel
theorem dX8_waitFor_2 : decode cX8_waitFor 2 = .ok (.iload_n 2, 1) := by decide +kernel
theorem dX8_waitFor_3 : decode cX8_waitFor 3 = .ok (.invokevirtual 68, 3) := by decide +kernel
theorem dX8_waitFor_6 : decode cX8_waitFor 6 = .ok (.ifCond .ne 7, 3) := by decide +kernel
theorem dX8_waitFor_9 : decode cX8_waitFor 9 = .ok (.iconst 1, 1) := by decide +kernel
theorem dX8_waitFor_10 : decode cX8_waitFor 10 = .ok (.goto 15, 3) := by decide +kernel
theorem dX8_waitFor_13 : decode cX8_waitFor 13 = .ok (.iload_n 1, 1) := by decide +kernel
theorem dX8_waitFor_14 : decode cX8_waitFor 14 = .ok (.invokestatic 47, 3) := by decide +kernel
theorem dX8_waitFor_17 : decode cX8_waitFor 17 = .ok (.ifCond .eq 7, 3) := by decide +kernel
theorem dX8_waitFor_20 : decode cX8_waitFor 20 = .ok (.iconst 0, 1) := by decide +kernel
theorem dX8_waitFor_21 : decode cX8_waitFor 21 = .ok (.goto 4, 3) := by decide +kernel
theorem dX8_waitFor_24 : decode cX8_waitFor 24 = .ok (.iconst 2, 1) := by decide +kernel
theorem dX8_waitFor_25 : decode cX8_waitFor 25 = .ok (.putfield 28, 3) := by decide +kernel
theorem dX8_waitFor_28 : decode cX8_waitFor 28 = .ok (.aload_n 0, 1) := by decide +kernel
theorem dX8_waitFor_29 : decode cX8_waitFor 29 = .ok (.getfield 28, 3) := by decide +kernel
theorem dX8_waitFor_32 : decode cX8_waitFor 32 = .ok (.ifCond .le 7, 3) := by decide +kernel
theorem dX8_waitFor_35 : decode cX8_waitFor 35 = .ok (.iconst 0, 1) := by decide +kernel
theorem dX8_waitFor_36 : decode cX8_waitFor 36 = .ok (.goto 22, 3) := by decide +kernel
theorem dX8_waitFor_39 : decode cX8_waitFor 39 = .ok (.iload_n 3, 1) := by decide +kernel
theorem dX8_waitFor_40 : decode cX8_waitFor 40 = .ok (.ifCond .eq 12, 3) := by decide +kernel
theorem dX8_waitFor_43 : decode cX8_waitFor 43 = .ok (.aload_n 0, 1) := by decide +kernel
theorem dX8_waitFor_44 : decode cX8_waitFor 44 = .ok (.iload_n 1, 1) := by decide +kernel
theorem dX8_waitFor_45 : decode cX8_waitFor 45 = .ok (.iload_n 2, 1) := by decide +kernel
theorem dX8_waitFor_46 : decode cX8_waitFor 46 = .ok (.invokevirtual 200, 3) := by decide +kernel
theorem dX8_waitFor_49 : decode cX8_waitFor 49 = .ok (.goto 9, 3) := by decide +kernel
theorem dX8_waitFor_52 : decode cX8_waitFor 52 = .ok (.aload_n 0, 1) := by decide +kernel
theorem dX8_waitFor_53 : decode cX8_waitFor 53 = .ok (.iload_n 1, 1) := by decide +kernel
theorem dX8_waitFor_54 : decode cX8_waitFor 54 = .ok (.iload_n 2, 1) := by decide +kernel
theorem dX8_waitFor_55 : decode cX8_waitFor 55 = .ok (.invokevirtual 203, 3) := by decide +kernel
theorem dX8_waitFor_58 : decode cX8_waitFor 58 = .ok (.ireturn, 1) := by decide +kernel
set_option maxRecDepth 20000 in
theorem ggX8_slowestOne_X8_comers : GoodIn wsX8_slowestOne wsX8_comers := goodIn_r _ [6, 1, 7, 8, 9, 5, 10, 11, 12, 13, 14, 15, 16, 17, 18, 80, 81, 82, 83, 84, 85, 86, 87, 88, 89, 90, 91, 92] (by decide +kernel) (by decide +kernel)
set_option maxRecDepth 20000 in
theorem gX8_slowestOne_X8_comers : GoodIn wsX8_slowestOne (wsV RX8 179 RX8 yX8_comers wsX8_comers) := goodIn_app (goodIn_of _ (by decide +kernel)) ggX8_slowestOne_X8_comers
set_option maxRecDepth 20000 in
theorem ggX8_slowestOne_X8_greensOf : GoodIn wsX8_slowestOne wsX8_greensOf := goodIn_r _ [22, 1, 23, 24, 25, 5, 26, 11, 12, 13, 14, 80, 81, 82, 83, 84, 85, 86, 87, 88, 89, 90, 91, 92] (by decide +kernel) (by decide +kernel)
set_option maxRecDepth 20000 in
theorem gX8_slowestOne_X8_greensOf : GoodIn wsX8_slowestOne (wsV RX8 206 RX8 yX8_greensOf wsX8_greensOf) := goodIn_app (goodIn_of _ (by decide +kernel)) ggX8_slowestOne_X8_greensOf
set_option maxRecDepth 20000 in
theorem ggX8_slowestOne_X8_canStarveAnywhere : GoodIn wsX8_slowestOne wsX8_canStarveAnywhere := goodIn_r _ [30, 1, 2, 3, 4, 5, 6, 7, 8, 9, 10, 11, 12, 13, 14, 15, 16, 17, 18, 31, 32, 33, 34, 35, 36, 37, 38, 23, 24, 25, 26, 39, 40, 41, 42, 43, 44, 45, 46, 47, 48, 49, 50, 51, 52, 53, 54, 55, 56, 57, 58, 59, 60, 61, 62, 80, 81, 82, 83, 84, 85, 86, 87, 88, 89, 90, 91, 92] (by decide +kernel) (by decide +kernel)
set_option maxRecDepth 20000 in
theorem gX8_slowestOne_X8_canStarveAnywhere : GoodIn wsX8_slowestOne (wsV RX8 185 RX8 yX8_canStarveAnywhere wsX8_canStarveAnywhere) := goodIn_app (goodIn_of _ (by decide +kernel)) ggX8_slowestOne_X8_canStarveAnywhere
set_option maxRecDepth 20000 in
theorem ggX8_slowestOne_X8_longest : GoodIn wsX8_slowestOne wsX8_longest := goodIn_r _ [66, 67, 31, 32, 33, 5, 34, 1, 35, 36, 37, 38, 23, 24, 25, 26, 11, 12, 13, 14, 39, 40, 41, 42, 7, 8, 9, 10, 43, 44, 45, 46, 47, 48, 49, 50, 51, 52, 53, 54, 15, 16, 17, 18, 55, 56, 57, 58, 59, 60, 61, 62, 68, 69, 70, 71, 72, 73, 74, 75, 76, 77, 78, 79, 80, 81, 82, 83, 84, 85, 86, 87, 88, 89, 90, 91, 92] (by decide +kernel) (by decide +kernel)
set_option maxRecDepth 20000 in
theorem gX8_slowestOne_X8_longest : GoodIn wsX8_slowestOne (wsV RX8 200 RX8 yX8_longest wsX8_longest) := goodIn_app (goodIn_of _ (by decide +kernel)) ggX8_slowestOne_X8_longest
theorem dX8_slowestOne_0 : decode cX8_slowestOne 0 = .ok (.aload_n 0, 1) := by decide +kernel
theorem dX8_slowestOne_1 : decode cX8_slowestOne 1 = .ok (.invokevirtual 179, 3) := by decide +kernel
theorem dX8_slowestOne_4 : decode cX8_slowestOne 4 = .ok (.istore_n 1, 1) := by decide +kernel
theorem dX8_slowestOne_5 : decode cX8_slowestOne 5 = .ok (.iconst (-1), 1) := by decide +kernel
theorem dX8_slowestOne_6 : decode cX8_slowestOne 6 = .ok (.istore_n 2, 1) := by decide +kernel
theorem dX8_slowestOne_7 : decode cX8_slowestOne 7 = .ok (.iconst (-1), 1) := by decide +kernel
theorem dX8_slowestOne_8 : decode cX8_slowestOne 8 = .ok (.istore_n 3, 1) := by decide +kernel
theorem dX8_slowestOne_9 : decode cX8_slowestOne 9 = .ok (.iconst 0, 1) := by decide +kernel
theorem dX8_slowestOne_10 : decode cX8_slowestOne 10 = .ok (.istore 4, 2) := by decide +kernel
theorem dX8_slowestOne_12 : decode cX8_slowestOne 12 = .ok (.iload 4, 2) := by decide +kernel
theorem dX8_slowestOne_14 : decode cX8_slowestOne 14 = .ok (.bipush 6, 2) := by decide +kernel
theorem dX8_slowestOne_16 : decode cX8_slowestOne 16 = .ok (.if_icmp .ge 114, 3) := by decide +kernel
theorem dX8_slowestOne_19 : decode cX8_slowestOne 19 = .ok (.aload_n 0, 1) := by decide +kernel
theorem dX8_slowestOne_20 : decode cX8_slowestOne 20 = .ok (.iload_n 1, 1) := by decide +kernel
theorem dX8_slowestOne_21 : decode cX8_slowestOne 21 = .ok (.invokevirtual 206, 3) := by decide +kernel
theorem dX8_slowestOne_24 : decode cX8_slowestOne 24 = .ok (.iload 4, 2) := by decide +kernel
theorem dX8_slowestOne_26 : decode cX8_slowestOne 26 = .ok (.ishr, 1) := by decide +kernel
theorem dX8_slowestOne_27 : decode cX8_slowestOne 27 = .ok (.iconst 1, 1) := by decide +kernel
theorem dX8_slowestOne_28 : decode cX8_slowestOne 28 = .ok (.iand, 1) := by decide +kernel
theorem dX8_slowestOne_29 : decode cX8_slowestOne 29 = .ok (.iconst 1, 1) := by decide +kernel
theorem dX8_slowestOne_30 : decode cX8_slowestOne 30 = .ok (.if_icmp .ne 16, 3) := by decide +kernel
theorem dX8_slowestOne_33 : decode cX8_slowestOne 33 = .ok (.aload_n 0, 1) := by decide +kernel
theorem dX8_slowestOne_34 : decode cX8_slowestOne 34 = .ok (.iload 4, 2) := by decide +kernel
theorem dX8_slowestOne_36 : decode cX8_slowestOne 36 = .ok (.invokevirtual 185, 3) := by decide +kernel
theorem dX8_slowestOne_39 : decode cX8_slowestOne 39 = .ok (.ifCond .ne 7, 3) := by decide +kernel
theorem dX8_slowestOne_42 : decode cX8_slowestOne 42 = .ok (.iconst 1, 1) := by decide +kernel
theorem dX8_slowestOne_43 : decode cX8_slowestOne 43 = .ok (.goto 4, 3) := by decide +kernel
theorem dX8_slowestOne_46 : decode cX8_slowestOne 46 = .ok (.iconst 0, 1) := by decide +kernel
theorem dX8_slowestOne_47 : decode cX8_slowestOne 47 = .ok (.istore 5, 2) := by decide +kernel
theorem dX8_slowestOne_49 : decode cX8_slowestOne 49 = .ok (.iconst 0, 1) := by decide +kernel
theorem dX8_slowestOne_50 : decode cX8_slowestOne 50 = .ok (.istore 6, 2) := by decide +kernel
theorem dX8_slowestOne_52 : decode cX8_slowestOne 52 = .ok (.iload 6, 2) := by decide +kernel
theorem dX8_slowestOne_54 : decode cX8_slowestOne 54 = .ok (.aload_n 0, 1) := by decide +kernel
theorem dX8_slowestOne_55 : decode cX8_slowestOne 55 = .ok (.getfield 7, 3) := by decide +kernel
theorem dX8_slowestOne_58 : decode cX8_slowestOne 58 = .ok (.iconst 0, 1) := by decide +kernel
theorem dX8_slowestOne_59 : decode cX8_slowestOne 59 = .ok (.iaload, 1) := by decide +kernel
theorem dX8_slowestOne_60 : decode cX8_slowestOne 60 = .ok (.if_icmp .ge 64, 3) := by decide +kernel
theorem dX8_slowestOne_63 : decode cX8_slowestOne 63 = .ok (.iload 5, 2) := by decide +kernel
theorem dX8_slowestOne_65 : decode cX8_slowestOne 65 = .ok (.ifCond .eq 59, 3) := by decide +kernel
theorem dX8_slowestOne_68 : decode cX8_slowestOne 68 = .ok (.iload_n 1, 1) := by decide +kernel
theorem dX8_slowestOne_69 : decode cX8_slowestOne 69 = .ok (.iload 6, 2) := by decide +kernel
theorem dX8_slowestOne_71 : decode cX8_slowestOne 71 = .ok (.ishr, 1) := by decide +kernel
theorem dX8_slowestOne_72 : decode cX8_slowestOne 72 = .ok (.iconst 1, 1) := by decide +kernel
theorem dX8_slowestOne_73 : decode cX8_slowestOne 73 = .ok (.iand, 1) := by decide +kernel
theorem dX8_slowestOne_74 : decode cX8_slowestOne 74 = .ok (.iconst 1, 1) := by decide +kernel
theorem dX8_slowestOne_75 : decode cX8_slowestOne 75 = .ok (.if_icmp .ne 14, 3) := by decide +kernel
theorem dX8_slowestOne_78 : decode cX8_slowestOne 78 = .ok (.aload_n 0, 1) := by decide +kernel
theorem dX8_slowestOne_79 : decode cX8_slowestOne 79 = .ok (.iload 4, 2) := by decide +kernel
theorem dX8_slowestOne_81 : decode cX8_slowestOne 81 = .ok (.iload 6, 2) := by decide +kernel
theorem dX8_slowestOne_83 : decode cX8_slowestOne 83 = .ok (.invokevirtual 200, 3) := by decide +kernel
theorem dX8_slowestOne_86 : decode cX8_slowestOne 86 = .ok (.goto 4, 3) := by decide +kernel
theorem dX8_slowestOne_89 : decode cX8_slowestOne 89 = .ok (.iconst (-1), 1) := by decide +kernel
theorem dX8_slowestOne_90 : decode cX8_slowestOne 90 = .ok (.istore 7, 2) := by decide +kernel
theorem dX8_slowestOne_92 : decode cX8_slowestOne 92 = .ok (.iload 7, 2) := by decide +kernel
theorem dX8_slowestOne_94 : decode cX8_slowestOne 94 = .ok (.iload_n 3, 1) := by decide +kernel
theorem dX8_slowestOne_95 : decode cX8_slowestOne 95 = .ok (.if_icmp .le 8, 3) := by decide +kernel
theorem dX8_slowestOne_98 : decode cX8_slowestOne 98 = .ok (.iload 4, 2) := by decide +kernel
theorem dX8_slowestOne_100 : decode cX8_slowestOne 100 = .ok (.goto 4, 3) := by decide +kernel
theorem dX8_slowestOne_103 : decode cX8_slowestOne 103 = .ok (.iload_n 2, 1) := by decide +kernel
theorem dX8_slowestOne_104 : decode cX8_slowestOne 104 = .ok (.istore_n 2, 1) := by decide +kernel
theorem dX8_slowestOne_105 : decode cX8_slowestOne 105 = .ok (.iload 7, 2) := by decide +kernel
theorem dX8_slowestOne_107 : decode cX8_slowestOne 107 = .ok (.iload_n 3, 1) := by decide +kernel
theorem dX8_slowestOne_108 : decode cX8_slowestOne 108 = .ok (.if_icmp .le 8, 3) := by decide +kernel
theorem dX8_slowestOne_111 : decode cX8_slowestOne 111 = .ok (.iload 7, 2) := by decide +kernel
theorem dX8_slowestOne_113 : decode cX8_slowestOne 113 = .ok (.goto 4, 3) := by decide +kernel
theorem dX8_slowestOne_116 : decode cX8_slowestOne 116 = .ok (.iload_n 3, 1) := by decide +kernel
theorem dX8_slowestOne_117 : decode cX8_slowestOne 117 = .ok (.istore_n 3, 1) := by decide +kernel
theorem dX8_slowestOne_118 : decode cX8_slowestOne 118 = .ok (.iinc 6 1, 3) := by decide +kernel
theorem dX8_slowestOne_121 : decode cX8_slowestOne 121 = .ok (.goto (-69), 3) := by decide +kernel
theorem dX8_slowestOne_124 : decode cX8_slowestOne 124 = .ok (.iinc 4 1, 3) := by decide +kernel
theorem dX8_slowestOne_127 : decode cX8_slowestOne 127 = .ok (.goto (-115), 3) := by decide +kernel
theorem dX8_slowestOne_130 : decode cX8_slowestOne 130 = .ok (.iload_n 2, 1) := by decide +kernel
theorem dX8_slowestOne_131 : decode cX8_slowestOne 131 = .ok (.ireturn, 1) := by decide +kernel
set_option maxRecDepth 20000 in
theorem ggX8_greensOf_X8_greens : GoodIn wsX8_greensOf wsX8_greens := goodIn_r _ [6, 7, 8, 9, 5, 10, 1, 11, 12, 13, 14, 15, 16, 17, 18, 19, 20, 21, 22, 23] (by decide +kernel) (by decide +kernel)
set_option maxRecDepth 20000 in
theorem gX8_greensOf_X8_greens : GoodIn wsX8_greensOf (wsV RX8 40 RX8 yX8_greens wsX8_greens) := goodIn_app (goodIn_of _ (by decide +kernel)) ggX8_greensOf_X8_greens
theorem dX8_greensOf_0 : decode cX8_greensOf 0 = .ok (.iconst 0, 1) := by decide +kernel
theorem dX8_greensOf_1 : decode cX8_greensOf 1 = .ok (.istore_n 2, 1) := by decide +kernel
theorem dX8_greensOf_2 : decode cX8_greensOf 2 = .ok (.iconst 0, 1) := by decide +kernel
theorem dX8_greensOf_3 : decode cX8_greensOf 3 = .ok (.istore_n 3, 1) := by decide +kernel
theorem dX8_greensOf_4 : decode cX8_greensOf 4 = .ok (.iload_n 3, 1) := by decide +kernel
theorem dX8_greensOf_5 : decode cX8_greensOf 5 = .ok (.aload_n 0, 1) := by decide +kernel
theorem dX8_greensOf_6 : decode cX8_greensOf 6 = .ok (.getfield 7, 3) := by decide +kernel
theorem dX8_greensOf_9 : decode cX8_greensOf 9 = .ok (.iconst 0, 1) := by decide +kernel
theorem dX8_greensOf_10 : decode cX8_greensOf 10 = .ok (.iaload, 1) := by decide +kernel
theorem dX8_greensOf_11 : decode cX8_greensOf 11 = .ok (.if_icmp .ge 30, 3) := by decide +kernel
theorem dX8_greensOf_14 : decode cX8_greensOf 14 = .ok (.iload_n 2, 1) := by decide +kernel
theorem dX8_greensOf_15 : decode cX8_greensOf 15 = .ok (.iload_n 1, 1) := by decide +kernel
theorem dX8_greensOf_16 : decode cX8_greensOf 16 = .ok (.iload_n 3, 1) := by decide +kernel
theorem dX8_greensOf_17 : decode cX8_greensOf 17 = .ok (.ishr, 1) := by decide +kernel
theorem dX8_greensOf_18 : decode cX8_greensOf 18 = .ok (.iconst 1, 1) := by decide +kernel
theorem dX8_greensOf_19 : decode cX8_greensOf 19 = .ok (.iand, 1) := by decide +kernel
theorem dX8_greensOf_20 : decode cX8_greensOf 20 = .ok (.iconst 1, 1) := by decide +kernel
theorem dX8_greensOf_21 : decode cX8_greensOf 21 = .ok (.if_icmp .ne 11, 3) := by decide +kernel
theorem dX8_greensOf_24 : decode cX8_greensOf 24 = .ok (.aload_n 0, 1) := by decide +kernel
theorem dX8_greensOf_25 : decode cX8_greensOf 25 = .ok (.iload_n 3, 1) := by decide +kernel
theorem dX8_greensOf_26 : decode cX8_greensOf 26 = .ok (.invokevirtual 40, 3) := by decide +kernel
theorem dX8_greensOf_29 : decode cX8_greensOf 29 = .ok (.goto 4, 3) := by decide +kernel
theorem dX8_greensOf_32 : decode cX8_greensOf 32 = .ok (.iconst 0, 1) := by decide +kernel
theorem dX8_greensOf_33 : decode cX8_greensOf 33 = .ok (.ior, 1) := by decide +kernel
theorem dX8_greensOf_34 : decode cX8_greensOf 34 = .ok (.istore_n 2, 1) := by decide +kernel
theorem dX8_greensOf_35 : decode cX8_greensOf 35 = .ok (.iinc 3 1, 3) := by decide +kernel
theorem dX8_greensOf_38 : decode cX8_greensOf 38 = .ok (.goto (-34), 3) := by decide +kernel
theorem dX8_greensOf_41 : decode cX8_greensOf 41 = .ok (.iload_n 2, 1) := by decide +kernel
theorem dX8_greensOf_42 : decode cX8_greensOf 42 = .ok (.ireturn, 1) := by decide +kernel
set_option maxRecDepth 20000 in
theorem ggX8_slowest_X8_slowestOne : GoodIn wsX8_slowest wsX8_slowestOne := goodIn_r _ [6, 7, 8, 9, 10, 5, 11, 12, 13, 14, 15, 16, 17, 18, 19, 20, 21, 22, 23, 24, 25, 26, 27, 28, 29, 30, 31, 32, 33, 34, 35, 36, 37, 38, 39, 40, 41, 42, 43, 44, 45, 46, 47, 48, 49, 50, 51, 52, 53, 54, 55, 56, 57, 58, 59, 60, 61, 62, 63, 64, 65, 66, 67, 68, 69, 70, 71, 72, 73, 74, 75, 76, 77, 78, 79, 80, 81, 82, 83, 84, 85, 86, 87, 88, 89, 90, 91, 92, 93, 94, 95, 96, 97] (by decide +kernel) (by decide +kernel)
set_option maxRecDepth 20000 in
theorem gX8_slowest_X8_slowestOne : GoodIn wsX8_slowest (wsV RX8 209 RX8 yX8_slowestOne wsX8_slowestOne) := goodIn_app (goodIn_of _ (by decide +kernel)) ggX8_slowest_X8_slowestOne
theorem dX8_slowest_0 : decode cX8_slowest 0 = .ok (.aload_n 0, 1) := by decide +kernel
theorem dX8_slowest_1 : decode cX8_slowest 1 = .ok (.iconst 0, 1) := by decide +kernel
theorem dX8_slowest_2 : decode cX8_slowest 2 = .ok (.putfield 28, 3) := by decide +kernel
theorem dX8_slowest_5 : decode cX8_slowest 5 = .ok (.aload_n 0, 1) := by decide +kernel
theorem dX8_slowest_6 : decode cX8_slowest 6 = .ok (.invokevirtual 209, 3) := by decide +kernel
theorem dX8_slowest_9 : decode cX8_slowest 9 = .ok (.ireturn, 1) := by decide +kernel
set_option maxRecDepth 20000 in
theorem ggX8_helps_X8_canStarveAnywhere : GoodIn wsX8_helps wsX8_canStarveAnywhere := goodIn_r _ [7, 2, 8, 9, 10, 6, 11, 12, 13, 14, 15, 16, 17, 18, 19, 20, 21, 22, 23, 24, 25, 26, 27, 28, 29, 30, 31, 32, 33, 34, 35, 36, 37, 38, 39, 40, 41, 42, 43, 44, 45, 46, 47, 48, 49, 50, 51, 52, 53, 54, 55, 56, 57, 58, 59, 60, 61, 62, 63, 64, 65, 66, 67, 68, 69, 70, 71, 72] (by decide +kernel) (by decide +kernel)
set_option maxRecDepth 20000 in
theorem gX8_helps_X8_canStarveAnywhere : GoodIn wsX8_helps (wsV RX8 185 RX8 yX8_canStarveAnywhere wsX8_canStarveAnywhere) := goodIn_app (goodIn_of _ (by decide +kernel)) ggX8_helps_X8_canStarveAnywhere
theorem dX8_helps_0 : decode cX8_helps 0 = .ok (.bipush 31, 2) := by decide +kernel
theorem dX8_helps_2 : decode cX8_helps 2 = .ok (.bipush 14, 2) := by decide +kernel
theorem dX8_helps_4 : decode cX8_helps 4 = .ok (.iload_n 2, 1) := by decide +kernel
theorem dX8_helps_5 : decode cX8_helps 5 = .ok (.imul, 1) := by decide +kernel
theorem dX8_helps_6 : decode cX8_helps 6 = .ok (.iadd, 1) := by decide +kernel
theorem dX8_helps_7 : decode cX8_helps 7 = .ok (.iconst 4, 1) := by decide +kernel
theorem dX8_helps_8 : decode cX8_helps 8 = .ok (.iadd, 1) := by decide +kernel
theorem dX8_helps_9 : decode cX8_helps 9 = .ok (.istore 4, 2) := by decide +kernel
theorem dX8_helps_11 : decode cX8_helps 11 = .ok (.iconst 0, 1) := by decide +kernel
theorem dX8_helps_12 : decode cX8_helps 12 = .ok (.istore 5, 2) := by decide +kernel
theorem dX8_helps_14 : decode cX8_helps 14 = .ok (.iload 5, 2) := by decide +kernel
theorem dX8_helps_16 : decode cX8_helps 16 = .ok (.bipush 10, 2) := by decide +kernel
theorem dX8_helps_18 : decode cX8_helps 18 = .ok (.if_icmp .ge 26, 3) := by decide +kernel
theorem dX8_helps_21 : decode cX8_helps 21 = .ok (.aload_n 0, 1) := by decide +kernel
theorem dX8_helps_22 : decode cX8_helps 22 = .ok (.getfield 25, 3) := by decide +kernel
theorem dX8_helps_25 : decode cX8_helps 25 = .ok (.iload 5, 2) := by decide +kernel
theorem dX8_helps_27 : decode cX8_helps 27 = .ok (.aload_n 0, 1) := by decide +kernel
theorem dX8_helps_28 : decode cX8_helps 28 = .ok (.getfield 7, 3) := by decide +kernel
theorem dX8_helps_31 : decode cX8_helps 31 = .ok (.iload 4, 2) := by decide +kernel
theorem dX8_helps_33 : decode cX8_helps 33 = .ok (.iload 5, 2) := by decide +kernel
theorem dX8_helps_35 : decode cX8_helps 35 = .ok (.iadd, 1) := by decide +kernel
theorem dX8_helps_36 : decode cX8_helps 36 = .ok (.iaload, 1) := by decide +kernel
theorem dX8_helps_37 : decode cX8_helps 37 = .ok (.iastore, 1) := by decide +kernel
theorem dX8_helps_38 : decode cX8_helps 38 = .ok (.iinc 5 1, 3) := by decide +kernel
theorem dX8_helps_41 : decode cX8_helps 41 = .ok (.goto (-27), 3) := by decide +kernel
theorem dX8_helps_44 : decode cX8_helps 44 = .ok (.bipush 9, 2) := by decide +kernel
theorem dX8_helps_46 : decode cX8_helps 46 = .ok (.istore 5, 2) := by decide +kernel
theorem dX8_helps_48 : decode cX8_helps 48 = .ok (.iload 5, 2) := by decide +kernel
theorem dX8_helps_50 : decode cX8_helps 50 = .ok (.iconst 2, 1) := by decide +kernel
theorem dX8_helps_51 : decode cX8_helps 51 = .ok (.if_icmp .lt 28, 3) := by decide +kernel
theorem dX8_helps_54 : decode cX8_helps 54 = .ok (.aload_n 0, 1) := by decide +kernel
theorem dX8_helps_55 : decode cX8_helps 55 = .ok (.getfield 7, 3) := by decide +kernel
theorem dX8_helps_58 : decode cX8_helps 58 = .ok (.iload 4, 2) := by decide +kernel
theorem dX8_helps_60 : decode cX8_helps 60 = .ok (.iload 5, 2) := by decide +kernel
theorem dX8_helps_62 : decode cX8_helps 62 = .ok (.iadd, 1) := by decide +kernel
theorem dX8_helps_63 : decode cX8_helps 63 = .ok (.aload_n 0, 1) := by decide +kernel
theorem dX8_helps_64 : decode cX8_helps 64 = .ok (.getfield 25, 3) := by decide +kernel
theorem dX8_helps_67 : decode cX8_helps 67 = .ok (.iload 5, 2) := by decide +kernel
theorem dX8_helps_69 : decode cX8_helps 69 = .ok (.iconst 2, 1) := by decide +kernel
theorem dX8_helps_70 : decode cX8_helps 70 = .ok (.isub, 1) := by decide +kernel
theorem dX8_helps_71 : decode cX8_helps 71 = .ok (.iaload, 1) := by decide +kernel
theorem dX8_helps_72 : decode cX8_helps 72 = .ok (.iastore, 1) := by decide +kernel
theorem dX8_helps_73 : decode cX8_helps 73 = .ok (.iinc 5 (-1), 3) := by decide +kernel
theorem dX8_helps_76 : decode cX8_helps 76 = .ok (.goto (-28), 3) := by decide +kernel
theorem dX8_helps_79 : decode cX8_helps 79 = .ok (.aload_n 0, 1) := by decide +kernel
theorem dX8_helps_80 : decode cX8_helps 80 = .ok (.getfield 7, 3) := by decide +kernel
theorem dX8_helps_83 : decode cX8_helps 83 = .ok (.iload 4, 2) := by decide +kernel
theorem dX8_helps_85 : decode cX8_helps 85 = .ok (.iload_n 3, 1) := by decide +kernel
theorem dX8_helps_86 : decode cX8_helps 86 = .ok (.iastore, 1) := by decide +kernel
theorem dX8_helps_87 : decode cX8_helps 87 = .ok (.aload_n 0, 1) := by decide +kernel
theorem dX8_helps_88 : decode cX8_helps 88 = .ok (.getfield 7, 3) := by decide +kernel
theorem dX8_helps_91 : decode cX8_helps 91 = .ok (.iload 4, 2) := by decide +kernel
theorem dX8_helps_93 : decode cX8_helps 93 = .ok (.iconst 1, 1) := by decide +kernel
theorem dX8_helps_94 : decode cX8_helps 94 = .ok (.iadd, 1) := by decide +kernel
theorem dX8_helps_95 : decode cX8_helps 95 = .ok (.iconst 1, 1) := by decide +kernel
theorem dX8_helps_96 : decode cX8_helps 96 = .ok (.iload_n 1, 1) := by decide +kernel
theorem dX8_helps_97 : decode cX8_helps 97 = .ok (.ishl, 1) := by decide +kernel
theorem dX8_helps_98 : decode cX8_helps 98 = .ok (.iastore, 1) := by decide +kernel
theorem dX8_helps_99 : decode cX8_helps 99 = .ok (.aload_n 0, 1) := by decide +kernel
theorem dX8_helps_100 : decode cX8_helps 100 = .ok (.getfield 7, 3) := by decide +kernel
theorem dX8_helps_103 : decode cX8_helps 103 = .ok (.bipush 31, 2) := by decide +kernel
theorem dX8_helps_105 : decode cX8_helps 105 = .ok (.bipush 14, 2) := by decide +kernel
theorem dX8_helps_107 : decode cX8_helps 107 = .ok (.iload_n 2, 1) := by decide +kernel
theorem dX8_helps_108 : decode cX8_helps 108 = .ok (.imul, 1) := by decide +kernel
theorem dX8_helps_109 : decode cX8_helps 109 = .ok (.iadd, 1) := by decide +kernel
theorem dX8_helps_110 : decode cX8_helps 110 = .ok (.iconst 3, 1) := by decide +kernel
theorem dX8_helps_111 : decode cX8_helps 111 = .ok (.iadd, 1) := by decide +kernel
theorem dX8_helps_112 : decode cX8_helps 112 = .ok (.dup2, 1) := by decide +kernel
theorem dX8_helps_113 : decode cX8_helps 113 = .ok (.iaload, 1) := by decide +kernel
theorem dX8_helps_114 : decode cX8_helps 114 = .ok (.iconst 1, 1) := by decide +kernel
theorem dX8_helps_115 : decode cX8_helps 115 = .ok (.iadd, 1) := by decide +kernel
theorem dX8_helps_116 : decode cX8_helps 116 = .ok (.iastore, 1) := by decide +kernel
theorem dX8_helps_117 : decode cX8_helps 117 = .ok (.aload_n 0, 1) := by decide +kernel
theorem dX8_helps_118 : decode cX8_helps 118 = .ok (.iload_n 1, 1) := by decide +kernel
theorem dX8_helps_119 : decode cX8_helps 119 = .ok (.invokevirtual 185, 3) := by decide +kernel
theorem dX8_helps_122 : decode cX8_helps 122 = .ok (.ifCond .ne 7, 3) := by decide +kernel
theorem dX8_helps_125 : decode cX8_helps 125 = .ok (.iconst 1, 1) := by decide +kernel
theorem dX8_helps_126 : decode cX8_helps 126 = .ok (.goto 4, 3) := by decide +kernel
theorem dX8_helps_129 : decode cX8_helps 129 = .ok (.iconst 0, 1) := by decide +kernel
theorem dX8_helps_130 : decode cX8_helps 130 = .ok (.istore 5, 2) := by decide +kernel
theorem dX8_helps_132 : decode cX8_helps 132 = .ok (.aload_n 0, 1) := by decide +kernel
theorem dX8_helps_133 : decode cX8_helps 133 = .ok (.getfield 7, 3) := by decide +kernel
theorem dX8_helps_136 : decode cX8_helps 136 = .ok (.bipush 31, 2) := by decide +kernel
theorem dX8_helps_138 : decode cX8_helps 138 = .ok (.bipush 14, 2) := by decide +kernel
theorem dX8_helps_140 : decode cX8_helps 140 = .ok (.iload_n 2, 1) := by decide +kernel
theorem dX8_helps_141 : decode cX8_helps 141 = .ok (.imul, 1) := by decide +kernel
theorem dX8_helps_142 : decode cX8_helps 142 = .ok (.iadd, 1) := by decide +kernel
theorem dX8_helps_143 : decode cX8_helps 143 = .ok (.iconst 3, 1) := by decide +kernel
theorem dX8_helps_144 : decode cX8_helps 144 = .ok (.iadd, 1) := by decide +kernel
theorem dX8_helps_145 : decode cX8_helps 145 = .ok (.dup2, 1) := by decide +kernel
theorem dX8_helps_146 : decode cX8_helps 146 = .ok (.iaload, 1) := by decide +kernel
theorem dX8_helps_147 : decode cX8_helps 147 = .ok (.iconst 1, 1) := by decide +kernel
theorem dX8_helps_148 : decode cX8_helps 148 = .ok (.isub, 1) := by decide +kernel
theorem dX8_helps_149 : decode cX8_helps 149 = .ok (.iastore, 1) := by decide +kernel
theorem dX8_helps_150 : decode cX8_helps 150 = .ok (.iconst 0, 1) := by decide +kernel
theorem dX8_helps_151 : decode cX8_helps 151 = .ok (.istore 6, 2) := by decide +kernel
theorem dX8_helps_153 : decode cX8_helps 153 = .ok (.iload 6, 2) := by decide +kernel
theorem dX8_helps_155 : decode cX8_helps 155 = .ok (.bipush 10, 2) := by decide +kernel
theorem dX8_helps_157 : decode cX8_helps 157 = .ok (.if_icmp .ge 26, 3) := by decide +kernel
theorem dX8_helps_160 : decode cX8_helps 160 = .ok (.aload_n 0, 1) := by decide +kernel
theorem dX8_helps_161 : decode cX8_helps 161 = .ok (.getfield 7, 3) := by decide +kernel
theorem dX8_helps_164 : decode cX8_helps 164 = .ok (.iload 4, 2) := by decide +kernel
theorem dX8_helps_166 : decode cX8_helps 166 = .ok (.iload 6, 2) := by decide +kernel
theorem dX8_helps_168 : decode cX8_helps 168 = .ok (.iadd, 1) := by decide +kernel
theorem dX8_helps_169 : decode cX8_helps 169 = .ok (.aload_n 0, 1) := by decide +kernel
theorem dX8_helps_170 : decode cX8_helps 170 = .ok (.getfield 25, 3) := by decide +kernel
theorem dX8_helps_173 : decode cX8_helps 173 = .ok (.iload 6, 2) := by decide +kernel
theorem dX8_helps_175 : decode cX8_helps 175 = .ok (.iaload, 1) := by decide +kernel
theorem dX8_helps_176 : decode cX8_helps 176 = .ok (.iastore, 1) := by decide +kernel
theorem dX8_helps_177 : decode cX8_helps 177 = .ok (.iinc 6 1, 3) := by decide +kernel
theorem dX8_helps_180 : decode cX8_helps 180 = .ok (.goto (-27), 3) := by decide +kernel
theorem dX8_helps_183 : decode cX8_helps 183 = .ok (.iload 5, 2) := by decide +kernel
theorem dX8_helps_185 : decode cX8_helps 185 = .ok (.ireturn, 1) := by decide +kernel
set_option maxRecDepth 20000 in
theorem ggX8_remedyFor_X8_canStarveAnywhere : GoodIn wsX8_remedyFor wsX8_canStarveAnywhere := goodIn_r _ [6, 1, 7, 8, 9, 5, 10, 11, 12, 13, 14, 15, 16, 17, 18, 19, 20, 21, 22, 23, 24, 25, 26, 27, 28, 29, 30, 31, 32, 33, 34, 35, 36, 37, 38, 39, 40, 41, 42, 43, 44, 45, 46, 47, 48, 49, 50, 51, 52, 53, 54, 55, 56, 57, 58, 64, 65, 66, 67, 68, 69, 70, 71, 72, 73, 74, 75, 76] (by decide +kernel) (by decide +kernel)
set_option maxRecDepth 20000 in
theorem gX8_remedyFor_X8_canStarveAnywhere : GoodIn wsX8_remedyFor (wsV RX8 185 RX8 yX8_canStarveAnywhere wsX8_canStarveAnywhere) := goodIn_app (goodIn_of _ (by decide +kernel)) ggX8_remedyFor_X8_canStarveAnywhere
set_option maxRecDepth 20000 in
theorem ggX8_remedyFor_X8_helps : GoodIn wsX8_remedyFor wsX8_helps := goodIn_r _ [62, 63, 1, 2, 3, 4, 5, 6, 7, 8, 9, 10, 11, 12, 13, 14, 15, 16, 17, 18, 19, 20, 21, 22, 23, 24, 25, 26, 27, 28, 29, 30, 31, 32, 33, 34, 35, 36, 37, 38, 39, 40, 41, 42, 43, 44, 45, 46, 47, 48, 49, 50, 51, 52, 53, 54, 55, 56, 57, 58, 64, 65, 66, 67, 68, 69, 70, 71, 72, 73, 74, 75, 76] (by decide +kernel) (by decide +kernel)
set_option maxRecDepth 20000 in
theorem gX8_remedyFor_X8_helps : GoodIn wsX8_remedyFor (wsV RX8 212 RX8 yX8_helps wsX8_helps) := goodIn_app (goodIn_of _ (by decide +kernel)) ggX8_remedyFor_X8_helps
theorem dX8_remedyFor_0 : decode cX8_remedyFor 0 = .ok (.aload_n 0, 1) := by decide +kernel
theorem dX8_remedyFor_1 : decode cX8_remedyFor 1 = .ok (.iload_n 1, 1) := by decide +kernel
theorem dX8_remedyFor_2 : decode cX8_remedyFor 2 = .ok (.invokevirtual 185, 3) := by decide +kernel
theorem dX8_remedyFor_5 : decode cX8_remedyFor 5 = .ok (.ifCond .ne 5, 3) := by decide +kernel
theorem dX8_remedyFor_8 : decode cX8_remedyFor 8 = .ok (.iconst (-1), 1) := by decide +kernel
theorem dX8_remedyFor_9 : decode cX8_remedyFor 9 = .ok (.ireturn, 1) := by decide +kernel
theorem dX8_remedyFor_10 : decode cX8_remedyFor 10 = .ok (.iconst 0, 1) := by decide +kernel
theorem dX8_remedyFor_11 : decode cX8_remedyFor 11 = .ok (.istore_n 3, 1) := by decide +kernel
theorem dX8_remedyFor_12 : decode cX8_remedyFor 12 = .ok (.iload_n 3, 1) := by decide +kernel
theorem dX8_remedyFor_13 : decode cX8_remedyFor 13 = .ok (.aload_n 0, 1) := by decide +kernel
theorem dX8_remedyFor_14 : decode cX8_remedyFor 14 = .ok (.getfield 7, 3) := by decide +kernel
theorem dX8_remedyFor_17 : decode cX8_remedyFor 17 = .ok (.iconst 0, 1) := by decide +kernel
theorem dX8_remedyFor_18 : decode cX8_remedyFor 18 = .ok (.iaload, 1) := by decide +kernel
theorem dX8_remedyFor_19 : decode cX8_remedyFor 19 = .ok (.if_icmp .ge 26, 3) := by decide +kernel
theorem dX8_remedyFor_22 : decode cX8_remedyFor 22 = .ok (.iload_n 3, 1) := by decide +kernel
theorem dX8_remedyFor_23 : decode cX8_remedyFor 23 = .ok (.iload_n 2, 1) := by decide +kernel
theorem dX8_remedyFor_24 : decode cX8_remedyFor 24 = .ok (.if_icmp .eq 15, 3) := by decide +kernel
theorem dX8_remedyFor_27 : decode cX8_remedyFor 27 = .ok (.aload_n 0, 1) := by decide +kernel
theorem dX8_remedyFor_28 : decode cX8_remedyFor 28 = .ok (.iload_n 1, 1) := by decide +kernel
theorem dX8_remedyFor_29 : decode cX8_remedyFor 29 = .ok (.iload_n 2, 1) := by decide +kernel
theorem dX8_remedyFor_30 : decode cX8_remedyFor 30 = .ok (.iload_n 3, 1) := by decide +kernel
theorem dX8_remedyFor_31 : decode cX8_remedyFor 31 = .ok (.invokevirtual 212, 3) := by decide +kernel
theorem dX8_remedyFor_34 : decode cX8_remedyFor 34 = .ok (.ifCond .eq 5, 3) := by decide +kernel
theorem dX8_remedyFor_37 : decode cX8_remedyFor 37 = .ok (.iload_n 3, 1) := by decide +kernel
theorem dX8_remedyFor_38 : decode cX8_remedyFor 38 = .ok (.ireturn, 1) := by decide +kernel
theorem dX8_remedyFor_39 : decode cX8_remedyFor 39 = .ok (.iinc 3 1, 3) := by decide +kernel
theorem dX8_remedyFor_42 : decode cX8_remedyFor 42 = .ok (.goto (-30), 3) := by decide +kernel
theorem dX8_remedyFor_45 : decode cX8_remedyFor 45 = .ok (.iconst (-1), 1) := by decide +kernel
theorem dX8_remedyFor_46 : decode cX8_remedyFor 46 = .ok (.ireturn, 1) := by decide +kernel
set_option maxRecDepth 20000 in
theorem ggX8_remedy_X8_isPhase : GoodIn wsX8_remedy wsX8_isPhase := goodIn_r _ [6, 7, 79, 80, 81, 82, 83, 84, 85, 86, 87, 88, 89, 90, 91] (by decide +kernel) (by decide +kernel)
set_option maxRecDepth 20000 in
theorem gX8_remedy_X8_isPhase : GoodIn wsX8_remedy (wsV RX8 68 RX8 yX8_isPhase wsX8_isPhase) := goodIn_app (goodIn_of _ (by decide +kernel)) ggX8_remedy_X8_isPhase
set_option maxRecDepth 20000 in
theorem ggX8_remedy_X8_isDirection : GoodIn wsX8_remedy wsX8_isDirection := goodIn_r _ [10, 11, 12, 5, 13] (by decide +kernel) (by decide +kernel)
set_option maxRecDepth 20000 in
theorem gX8_remedy_X8_isDirection : GoodIn wsX8_remedy (va_wsS RX8 47 yX8_isDirection wsX8_isDirection) := goodIn_app (goodIn_of _ (by decide +kernel)) ggX8_remedy_X8_isDirection
set_option maxRecDepth 20000 in
theorem ggX8_remedy_X8_remedyFor : GoodIn wsX8_remedy wsX8_remedyFor := goodIn_r _ [17, 7, 18, 19, 20, 5, 21, 22, 23, 24, 25, 26, 27, 28, 29, 30, 31, 32, 33, 34, 35, 36, 37, 38, 39, 40, 41, 42, 43, 44, 45, 46, 47, 48, 49, 50, 51, 52, 53, 54, 55, 56, 57, 58, 59, 60, 61, 62, 63, 64, 65, 66, 67, 68, 69, 70, 71, 72, 73, 74, 75, 76, 77, 78, 79, 80, 81, 82, 83, 84, 85, 86, 87, 88, 89, 90, 91] (by decide +kernel) (by decide +kernel)
set_option maxRecDepth 20000 in
theorem gX8_remedy_X8_remedyFor : GoodIn wsX8_remedy (wsV RX8 215 RX8 yX8_remedyFor wsX8_remedyFor) := goodIn_app (goodIn_of _ (by decide +kernel)) ggX8_remedy_X8_remedyFor
theorem dX8_remedy_0 : decode cX8_remedy 0 = .ok (.aload_n 0, 1) := by decide +kernel
theorem dX8_remedy_1 : decode cX8_remedy 1 = .ok (.aload_n 0, 1) := by decide +kernel
theorem dX8_remedy_2 : decode cX8_remedy 2 = .ok (.iload_n 2, 1) := by decide +kernel
theorem dX8_remedy_3 : decode cX8_remedy 3 = .ok (.invokevirtual 68, 3) := by decide +kernel
theorem dX8_remedy_6 : decode cX8_remedy 6 = .ok (.ifCond .ne 7, 3) := by decide +kernel
theorem dX8_remedy_9 : decode cX8_remedy 9 = .ok (.iconst 1, 1) := by decide +kernel
theorem dX8_remedy_10 : decode cX8_remedy 10 = .ok (.goto 15, 3) := by decide +kernel
theorem dX8_remedy_13 : decode cX8_remedy 13 = .ok (.iload_n 1, 1) := by decide +kernel
theorem dX8_remedy_14 : decode cX8_remedy 14 = .ok (.invokestatic 47, 3) := by decide +kernel
theorem dX8_remedy_17 : decode cX8_remedy 17 = .ok (.ifCond .eq 7, 3) := by decide +kernel
theorem dX8_remedy_20 : decode cX8_remedy 20 = .ok (.iconst 0, 1) := by decide +kernel
theorem dX8_remedy_21 : decode cX8_remedy 21 = .ok (.goto 4, 3) := by decide +kernel
theorem dX8_remedy_24 : decode cX8_remedy 24 = .ok (.iconst 2, 1) := by decide +kernel
theorem dX8_remedy_25 : decode cX8_remedy 25 = .ok (.putfield 28, 3) := by decide +kernel
theorem dX8_remedy_28 : decode cX8_remedy 28 = .ok (.aload_n 0, 1) := by decide +kernel
theorem dX8_remedy_29 : decode cX8_remedy 29 = .ok (.getfield 28, 3) := by decide +kernel
theorem dX8_remedy_32 : decode cX8_remedy 32 = .ok (.ifCond .le 7, 3) := by decide +kernel
theorem dX8_remedy_35 : decode cX8_remedy 35 = .ok (.iconst 0, 1) := by decide +kernel
theorem dX8_remedy_36 : decode cX8_remedy 36 = .ok (.goto 9, 3) := by decide +kernel
theorem dX8_remedy_39 : decode cX8_remedy 39 = .ok (.aload_n 0, 1) := by decide +kernel
theorem dX8_remedy_40 : decode cX8_remedy 40 = .ok (.iload_n 1, 1) := by decide +kernel
theorem dX8_remedy_41 : decode cX8_remedy 41 = .ok (.iload_n 2, 1) := by decide +kernel
theorem dX8_remedy_42 : decode cX8_remedy 42 = .ok (.invokevirtual 215, 3) := by decide +kernel
theorem dX8_remedy_45 : decode cX8_remedy 45 = .ok (.ireturn, 1) := by decide +kernel
set_option maxRecDepth 20000 in
theorem ggX8_doesClash_X8_hasGreen : GoodIn wsX8_doesClash wsX8_hasGreen := goodIn_r _ [6, 7, 8, 9, 5, 10, 11, 12, 13, 14, 1, 15, 16, 17, 18, 19, 20, 21, 22, 23, 24, 25, 26, 27] (by decide +kernel) (by decide +kernel)
set_option maxRecDepth 20000 in
theorem gX8_doesClash_X8_hasGreen : GoodIn wsX8_doesClash (wsV RX8 167 RX8 yX8_hasGreen wsX8_hasGreen) := goodIn_app (goodIn_of _ (by decide +kernel)) ggX8_doesClash_X8_hasGreen
set_option maxRecDepth 20000 in
theorem ggX8_doesClash_X8_greens : GoodIn wsX8_doesClash wsX8_greens := goodIn_r _ [10, 11, 12, 13, 5, 14, 1, 15, 16, 17, 18, 19, 20, 21, 22, 23, 24, 25, 26, 27] (by decide +kernel) (by decide +kernel)
set_option maxRecDepth 20000 in
theorem gX8_doesClash_X8_greens : GoodIn wsX8_doesClash (wsV RX8 40 RX8 yX8_greens wsX8_greens) := goodIn_app (goodIn_of _ (by decide +kernel)) ggX8_doesClash_X8_greens
theorem dX8_doesClash_0 : decode cX8_doesClash 0 = .ok (.iconst 0, 1) := by decide +kernel
theorem dX8_doesClash_1 : decode cX8_doesClash 1 = .ok (.istore_n 2, 1) := by decide +kernel
theorem dX8_doesClash_2 : decode cX8_doesClash 2 = .ok (.iconst 0, 1) := by decide +kernel
theorem dX8_doesClash_3 : decode cX8_doesClash 3 = .ok (.istore_n 3, 1) := by decide +kernel
theorem dX8_doesClash_4 : decode cX8_doesClash 4 = .ok (.iload_n 3, 1) := by decide +kernel
theorem dX8_doesClash_5 : decode cX8_doesClash 5 = .ok (.bipush 6, 2) := by decide +kernel
theorem dX8_doesClash_7 : decode cX8_doesClash 7 = .ok (.if_icmp .ge 46, 3) := by decide +kernel
theorem dX8_doesClash_10 : decode cX8_doesClash 10 = .ok (.iload_n 2, 1) := by decide +kernel
theorem dX8_doesClash_11 : decode cX8_doesClash 11 = .ok (.ifCond .ne 30, 3) := by decide +kernel
theorem dX8_doesClash_14 : decode cX8_doesClash 14 = .ok (.aload_n 0, 1) := by decide +kernel
theorem dX8_doesClash_15 : decode cX8_doesClash 15 = .ok (.iload_n 1, 1) := by decide +kernel
theorem dX8_doesClash_16 : decode cX8_doesClash 16 = .ok (.iload_n 3, 1) := by decide +kernel
theorem dX8_doesClash_17 : decode cX8_doesClash 17 = .ok (.invokevirtual 167, 3) := by decide +kernel
theorem dX8_doesClash_20 : decode cX8_doesClash 20 = .ok (.ifCond .eq 25, 3) := by decide +kernel
theorem dX8_doesClash_23 : decode cX8_doesClash 23 = .ok (.aload_n 0, 1) := by decide +kernel
theorem dX8_doesClash_24 : decode cX8_doesClash 24 = .ok (.getfield 7, 3) := by decide +kernel
theorem dX8_doesClash_27 : decode cX8_doesClash 27 = .ok (.bipush 7, 2) := by decide +kernel
theorem dX8_doesClash_29 : decode cX8_doesClash 29 = .ok (.iload_n 3, 1) := by decide +kernel
theorem dX8_doesClash_30 : decode cX8_doesClash 30 = .ok (.iadd, 1) := by decide +kernel
theorem dX8_doesClash_31 : decode cX8_doesClash 31 = .ok (.iaload, 1) := by decide +kernel
theorem dX8_doesClash_32 : decode cX8_doesClash 32 = .ok (.aload_n 0, 1) := by decide +kernel
theorem dX8_doesClash_33 : decode cX8_doesClash 33 = .ok (.iload_n 1, 1) := by decide +kernel
theorem dX8_doesClash_34 : decode cX8_doesClash 34 = .ok (.invokevirtual 40, 3) := by decide +kernel
theorem dX8_doesClash_37 : decode cX8_doesClash 37 = .ok (.iand, 1) := by decide +kernel
theorem dX8_doesClash_38 : decode cX8_doesClash 38 = .ok (.ifCond .eq 7, 3) := by decide +kernel
theorem dX8_doesClash_41 : decode cX8_doesClash 41 = .ok (.iconst 1, 1) := by decide +kernel
theorem dX8_doesClash_42 : decode cX8_doesClash 42 = .ok (.goto 4, 3) := by decide +kernel
theorem dX8_doesClash_45 : decode cX8_doesClash 45 = .ok (.iconst 0, 1) := by decide +kernel
theorem dX8_doesClash_46 : decode cX8_doesClash 46 = .ok (.istore_n 2, 1) := by decide +kernel
theorem dX8_doesClash_47 : decode cX8_doesClash 47 = .ok (.iinc 3 1, 3) := by decide +kernel
theorem dX8_doesClash_50 : decode cX8_doesClash 50 = .ok (.goto (-46), 3) := by decide +kernel
theorem dX8_doesClash_53 : decode cX8_doesClash 53 = .ok (.iload_n 2, 1) := by decide +kernel
theorem dX8_doesClash_54 : decode cX8_doesClash 54 = .ok (.ireturn, 1) := by decide +kernel
set_option maxRecDepth 20000 in
theorem ggX8_toldPhase_X8_greens : GoodIn wsX8_toldPhase wsX8_greens := goodIn_r _ [5, 6, 7, 8, 4, 9, 10, 31, 32, 33, 34, 35, 36, 37, 38, 39, 40, 41, 42, 43] (by decide +kernel) (by decide +kernel)
set_option maxRecDepth 20000 in
theorem gX8_toldPhase_X8_greens : GoodIn wsX8_toldPhase (wsV RX8 40 RX8 yX8_greens wsX8_greens) := goodIn_app (goodIn_of _ (by decide +kernel)) ggX8_toldPhase_X8_greens
set_option maxRecDepth 20000 in
theorem ggX8_toldPhase_X8_of : GoodIn wsX8_toldPhase wsX8_of := goodIn_r _ [9, 10, 31, 32, 33, 34, 35, 36, 37, 38, 39, 40, 41, 42, 43] (by decide +kernel) (by decide +kernel)
set_option maxRecDepth 20000 in
theorem gX8_toldPhase_X8_of : GoodIn wsX8_toldPhase (wsV RX8 36 RX8 yX8_of wsX8_of) := goodIn_app (goodIn_of _ (by decide +kernel)) ggX8_toldPhase_X8_of
set_option maxRecDepth 20000 in
theorem ggX8_toldPhase_X8_rules : GoodIn wsX8_toldPhase wsX8_rules := goodIn_r _ [14, 6, 7, 8, 4, 9, 10, 31, 32, 33, 34, 35, 36, 37, 38, 39, 40, 41, 42, 43] (by decide +kernel) (by decide +kernel)
set_option maxRecDepth 20000 in
theorem gX8_toldPhase_X8_rules : GoodIn wsX8_toldPhase (wsV RX8 71 RX8 yX8_rules wsX8_rules) := goodIn_app (goodIn_of _ (by decide +kernel)) ggX8_toldPhase_X8_rules
set_option maxRecDepth 20000 in
theorem ggX8_toldPhase_X8_doesClash : GoodIn wsX8_toldPhase wsX8_doesClash := goodIn_r _ [18, 10, 19, 20, 21, 4, 22, 1, 2, 3, 5, 6, 7, 8, 9, 31, 32, 33, 34, 35, 36, 37, 38, 39, 40, 41, 42, 43] (by decide +kernel) (by decide +kernel)
set_option maxRecDepth 20000 in
theorem gX8_toldPhase_X8_doesClash : GoodIn wsX8_toldPhase (wsV RX8 218 RX8 yX8_doesClash wsX8_doesClash) := goodIn_app (goodIn_of _ (by decide +kernel)) ggX8_toldPhase_X8_doesClash
set_option maxRecDepth 20000 in
theorem ggX8_toldPhase_X8_comers : GoodIn wsX8_toldPhase wsX8_comers := goodIn_r _ [26, 10, 11, 12, 13, 4, 14, 6, 7, 8, 9, 27, 28, 29, 30, 31, 32, 33, 34, 35, 36, 37, 38, 39, 40, 41, 42, 43] (by decide +kernel) (by decide +kernel)
set_option maxRecDepth 20000 in
theorem gX8_toldPhase_X8_comers : GoodIn wsX8_toldPhase (wsV RX8 179 RX8 yX8_comers wsX8_comers) := goodIn_app (goodIn_of _ (by decide +kernel)) ggX8_toldPhase_X8_comers
theorem dX8_toldPhase_0 : decode cX8_toldPhase 0 = .ok (.iload_n 2, 1) := by decide +kernel
theorem dX8_toldPhase_1 : decode cX8_toldPhase 1 = .ok (.tableswitch 77 0 4 #[35, 41, 48, 54, 68], 35) := by decide +kernel
theorem dX8_toldPhase_36 : decode cX8_toldPhase 36 = .ok (.aload_n 0, 1) := by decide +kernel
theorem dX8_toldPhase_37 : decode cX8_toldPhase 37 = .ok (.iload_n 1, 1) := by decide +kernel
theorem dX8_toldPhase_38 : decode cX8_toldPhase 38 = .ok (.invokevirtual 40, 3) := by decide +kernel
theorem dX8_toldPhase_41 : decode cX8_toldPhase 41 = .ok (.ireturn, 1) := by decide +kernel
theorem dX8_toldPhase_42 : decode cX8_toldPhase 42 = .ok (.aload_n 0, 1) := by decide +kernel
theorem dX8_toldPhase_43 : decode cX8_toldPhase 43 = .ok (.iload_n 1, 1) := by decide +kernel
theorem dX8_toldPhase_44 : decode cX8_toldPhase 44 = .ok (.iconst 1, 1) := by decide +kernel
theorem dX8_toldPhase_45 : decode cX8_toldPhase 45 = .ok (.invokevirtual 36, 3) := by decide +kernel
theorem dX8_toldPhase_48 : decode cX8_toldPhase 48 = .ok (.ireturn, 1) := by decide +kernel
theorem dX8_toldPhase_49 : decode cX8_toldPhase 49 = .ok (.aload_n 0, 1) := by decide +kernel
theorem dX8_toldPhase_50 : decode cX8_toldPhase 50 = .ok (.iload_n 1, 1) := by decide +kernel
theorem dX8_toldPhase_51 : decode cX8_toldPhase 51 = .ok (.invokevirtual 71, 3) := by decide +kernel
theorem dX8_toldPhase_54 : decode cX8_toldPhase 54 = .ok (.ireturn, 1) := by decide +kernel
theorem dX8_toldPhase_55 : decode cX8_toldPhase 55 = .ok (.aload_n 0, 1) := by decide +kernel
theorem dX8_toldPhase_56 : decode cX8_toldPhase 56 = .ok (.iload_n 1, 1) := by decide +kernel
theorem dX8_toldPhase_57 : decode cX8_toldPhase 57 = .ok (.invokevirtual 218, 3) := by decide +kernel
theorem dX8_toldPhase_60 : decode cX8_toldPhase 60 = .ok (.ifCond .eq 7, 3) := by decide +kernel
theorem dX8_toldPhase_63 : decode cX8_toldPhase 63 = .ok (.iconst 1, 1) := by decide +kernel
theorem dX8_toldPhase_64 : decode cX8_toldPhase 64 = .ok (.goto 4, 3) := by decide +kernel
theorem dX8_toldPhase_67 : decode cX8_toldPhase 67 = .ok (.iconst 0, 1) := by decide +kernel
theorem dX8_toldPhase_68 : decode cX8_toldPhase 68 = .ok (.ireturn, 1) := by decide +kernel
theorem dX8_toldPhase_69 : decode cX8_toldPhase 69 = .ok (.aload_n 0, 1) := by decide +kernel
theorem dX8_toldPhase_70 : decode cX8_toldPhase 70 = .ok (.invokevirtual 179, 3) := by decide +kernel
theorem dX8_toldPhase_73 : decode cX8_toldPhase 73 = .ok (.iload_n 1, 1) := by decide +kernel
theorem dX8_toldPhase_74 : decode cX8_toldPhase 74 = .ok (.ishr, 1) := by decide +kernel
theorem dX8_toldPhase_75 : decode cX8_toldPhase 75 = .ok (.iconst 1, 1) := by decide +kernel
theorem dX8_toldPhase_76 : decode cX8_toldPhase 76 = .ok (.iand, 1) := by decide +kernel
theorem dX8_toldPhase_77 : decode cX8_toldPhase 77 = .ok (.ireturn, 1) := by decide +kernel
theorem dX8_toldPhase_78 : decode cX8_toldPhase 78 = .ok (.aload_n 0, 1) := by decide +kernel
theorem dX8_toldPhase_79 : decode cX8_toldPhase 79 = .ok (.iload_n 1, 1) := by decide +kernel
theorem dX8_toldPhase_80 : decode cX8_toldPhase 80 = .ok (.iconst 2, 1) := by decide +kernel
theorem dX8_toldPhase_81 : decode cX8_toldPhase 81 = .ok (.invokevirtual 36, 3) := by decide +kernel
theorem dX8_toldPhase_84 : decode cX8_toldPhase 84 = .ok (.ireturn, 1) := by decide +kernel
set_option maxRecDepth 20000 in
theorem ggX8_phase_X8_isPhase : GoodIn wsX8_phase wsX8_isPhase := goodIn_r _ [6, 7, 43, 44, 45, 46, 47, 48, 49, 50, 51, 52, 53, 54, 55] (by decide +kernel) (by decide +kernel)
set_option maxRecDepth 20000 in
theorem gX8_phase_X8_isPhase : GoodIn wsX8_phase (wsV RX8 68 RX8 yX8_isPhase wsX8_isPhase) := goodIn_app (goodIn_of _ (by decide +kernel)) ggX8_phase_X8_isPhase
set_option maxRecDepth 20000 in
theorem ggX8_phase_X8_in : GoodIn wsX8_phase wsX8_in := goodIn_r _ [10] (by decide +kernel) (by decide +kernel)
set_option maxRecDepth 20000 in
theorem gX8_phase_X8_in : GoodIn wsX8_phase (va_wsS RX8 32 yX8_in wsX8_in) := goodIn_app (goodIn_of _ (by decide +kernel)) ggX8_phase_X8_in
set_option maxRecDepth 20000 in
theorem ggX8_phase_X8_toldPhase : GoodIn wsX8_phase wsX8_toldPhase := goodIn_r _ [14, 15, 16, 17, 5, 18, 19, 20, 21, 22, 7, 23, 24, 25, 26, 27, 28, 29, 30, 31, 32, 33, 34, 35, 36, 37, 38, 39, 40, 41, 42, 43, 44, 45, 46, 47, 48, 49, 50, 51, 52, 53, 54, 55] (by decide +kernel) (by decide +kernel)
set_option maxRecDepth 20000 in
theorem gX8_phase_X8_toldPhase : GoodIn wsX8_phase (wsV RX8 221 RX8 yX8_toldPhase wsX8_toldPhase) := goodIn_app (goodIn_of _ (by decide +kernel)) ggX8_phase_X8_toldPhase
theorem dX8_phase_0 : decode cX8_phase 0 = .ok (.aload_n 0, 1) := by decide +kernel
theorem dX8_phase_1 : decode cX8_phase 1 = .ok (.aload_n 0, 1) := by decide +kernel
theorem dX8_phase_2 : decode cX8_phase 2 = .ok (.iload_n 1, 1) := by decide +kernel
theorem dX8_phase_3 : decode cX8_phase 3 = .ok (.invokevirtual 68, 3) := by decide +kernel
theorem dX8_phase_6 : decode cX8_phase 6 = .ok (.ifCond .ne 7, 3) := by decide +kernel
theorem dX8_phase_9 : decode cX8_phase 9 = .ok (.iconst 1, 1) := by decide +kernel
theorem dX8_phase_10 : decode cX8_phase 10 = .ok (.goto 17, 3) := by decide +kernel
theorem dX8_phase_13 : decode cX8_phase 13 = .ok (.iload_n 2, 1) := by decide +kernel
theorem dX8_phase_14 : decode cX8_phase 14 = .ok (.iconst 0, 1) := by decide +kernel
theorem dX8_phase_15 : decode cX8_phase 15 = .ok (.iconst 5, 1) := by decide +kernel
theorem dX8_phase_16 : decode cX8_phase 16 = .ok (.invokestatic 32, 3) := by decide +kernel
theorem dX8_phase_19 : decode cX8_phase 19 = .ok (.ifCond .eq 7, 3) := by decide +kernel
theorem dX8_phase_22 : decode cX8_phase 22 = .ok (.iconst 0, 1) := by decide +kernel
theorem dX8_phase_23 : decode cX8_phase 23 = .ok (.goto 4, 3) := by decide +kernel
theorem dX8_phase_26 : decode cX8_phase 26 = .ok (.iconst 2, 1) := by decide +kernel
theorem dX8_phase_27 : decode cX8_phase 27 = .ok (.putfield 28, 3) := by decide +kernel
theorem dX8_phase_30 : decode cX8_phase 30 = .ok (.aload_n 0, 1) := by decide +kernel
theorem dX8_phase_31 : decode cX8_phase 31 = .ok (.getfield 28, 3) := by decide +kernel
theorem dX8_phase_34 : decode cX8_phase 34 = .ok (.ifCond .le 7, 3) := by decide +kernel
theorem dX8_phase_37 : decode cX8_phase 37 = .ok (.iconst 0, 1) := by decide +kernel
theorem dX8_phase_38 : decode cX8_phase 38 = .ok (.goto 9, 3) := by decide +kernel
theorem dX8_phase_41 : decode cX8_phase 41 = .ok (.aload_n 0, 1) := by decide +kernel
theorem dX8_phase_42 : decode cX8_phase 42 = .ok (.iload_n 1, 1) := by decide +kernel
theorem dX8_phase_43 : decode cX8_phase 43 = .ok (.iload_n 2, 1) := by decide +kernel
theorem dX8_phase_44 : decode cX8_phase 44 = .ok (.invokevirtual 221, 3) := by decide +kernel
theorem dX8_phase_47 : decode cX8_phase 47 = .ok (.ireturn, 1) := by decide +kernel
set_option maxRecDepth 20000 in
theorem ggX8_toldRule_X8_goal : GoodIn wsX8_toldRule wsX8_goal := goodIn_r _ [5, 6, 7, 8, 4, 9, 10, 23, 24, 25, 26, 27, 28, 29, 30, 31, 32, 33, 34, 35] (by decide +kernel) (by decide +kernel)
set_option maxRecDepth 20000 in
theorem gX8_toldRule_X8_goal : GoodIn wsX8_toldRule (wsV RX8 111 RX8 yX8_goal wsX8_goal) := goodIn_app (goodIn_of _ (by decide +kernel)) ggX8_toldRule_X8_goal
set_option maxRecDepth 20000 in
theorem ggX8_toldRule_X8_askers : GoodIn wsX8_toldRule wsX8_askers := goodIn_r _ [14, 6, 7, 8, 4, 9, 10, 23, 24, 25, 26, 27, 28, 29, 30, 31, 32, 33, 34, 35] (by decide +kernel) (by decide +kernel)
set_option maxRecDepth 20000 in
theorem gX8_toldRule_X8_askers : GoodIn wsX8_toldRule (wsV RX8 92 RX8 yX8_askers wsX8_askers) := goodIn_app (goodIn_of _ (by decide +kernel)) ggX8_toldRule_X8_askers
set_option maxRecDepth 20000 in
theorem ggX8_toldRule_X8_holds : GoodIn wsX8_toldRule wsX8_holds := goodIn_r _ [18, 11, 12, 13, 4, 14, 6, 7, 8, 9, 10, 19, 20, 21, 22, 23, 24, 25, 26, 27, 28, 29, 30, 31, 32, 33, 34, 35] (by decide +kernel) (by decide +kernel)
set_option maxRecDepth 20000 in
theorem gX8_toldRule_X8_holds : GoodIn wsX8_toldRule (wsV RX8 89 RX8 yX8_holds wsX8_holds) := goodIn_app (goodIn_of _ (by decide +kernel)) ggX8_toldRule_X8_holds
theorem dX8_toldRule_0 : decode cX8_toldRule 0 = .ok (.iload_n 3, 1) := by decide +kernel
theorem dX8_toldRule_1 : decode cX8_toldRule 1 = .ok (.ifCond .ne 12, 3) := by decide +kernel
theorem dX8_toldRule_4 : decode cX8_toldRule 4 = .ok (.aload_n 0, 1) := by decide +kernel
theorem dX8_toldRule_5 : decode cX8_toldRule 5 = .ok (.iload_n 1, 1) := by decide +kernel
theorem dX8_toldRule_6 : decode cX8_toldRule 6 = .ok (.iload_n 2, 1) := by decide +kernel
theorem dX8_toldRule_7 : decode cX8_toldRule 7 = .ok (.invokevirtual 111, 3) := by decide +kernel
theorem dX8_toldRule_10 : decode cX8_toldRule 10 = .ok (.goto 31, 3) := by decide +kernel
theorem dX8_toldRule_13 : decode cX8_toldRule 13 = .ok (.iload_n 3, 1) := by decide +kernel
theorem dX8_toldRule_14 : decode cX8_toldRule 14 = .ok (.iconst 1, 1) := by decide +kernel
theorem dX8_toldRule_15 : decode cX8_toldRule 15 = .ok (.if_icmp .ne 12, 3) := by decide +kernel
theorem dX8_toldRule_18 : decode cX8_toldRule 18 = .ok (.aload_n 0, 1) := by decide +kernel
theorem dX8_toldRule_19 : decode cX8_toldRule 19 = .ok (.iload_n 1, 1) := by decide +kernel
theorem dX8_toldRule_20 : decode cX8_toldRule 20 = .ok (.iload_n 2, 1) := by decide +kernel
theorem dX8_toldRule_21 : decode cX8_toldRule 21 = .ok (.invokevirtual 92, 3) := by decide +kernel
theorem dX8_toldRule_24 : decode cX8_toldRule 24 = .ok (.goto 17, 3) := by decide +kernel
theorem dX8_toldRule_27 : decode cX8_toldRule 27 = .ok (.aload_n 0, 1) := by decide +kernel
theorem dX8_toldRule_28 : decode cX8_toldRule 28 = .ok (.iload_n 1, 1) := by decide +kernel
theorem dX8_toldRule_29 : decode cX8_toldRule 29 = .ok (.iload_n 2, 1) := by decide +kernel
theorem dX8_toldRule_30 : decode cX8_toldRule 30 = .ok (.invokevirtual 89, 3) := by decide +kernel
theorem dX8_toldRule_33 : decode cX8_toldRule 33 = .ok (.ifCond .eq 7, 3) := by decide +kernel
theorem dX8_toldRule_36 : decode cX8_toldRule 36 = .ok (.iconst 1, 1) := by decide +kernel
theorem dX8_toldRule_37 : decode cX8_toldRule 37 = .ok (.goto 4, 3) := by decide +kernel
theorem dX8_toldRule_40 : decode cX8_toldRule 40 = .ok (.iconst 0, 1) := by decide +kernel
theorem dX8_toldRule_41 : decode cX8_toldRule 41 = .ok (.ireturn, 1) := by decide +kernel
set_option maxRecDepth 20000 in
theorem ggX8_rule_X8_isPhase : GoodIn wsX8_rule wsX8_isPhase := goodIn_r _ [6, 7, 39, 40, 41, 42, 43, 44, 45, 46, 47, 48, 49, 50, 51] (by decide +kernel) (by decide +kernel)
set_option maxRecDepth 20000 in
theorem gX8_rule_X8_isPhase : GoodIn wsX8_rule (wsV RX8 68 RX8 yX8_isPhase wsX8_isPhase) := goodIn_app (goodIn_of _ (by decide +kernel)) ggX8_rule_X8_isPhase
set_option maxRecDepth 20000 in
theorem ggX8_rule_X8_rules : GoodIn wsX8_rule wsX8_rules := goodIn_r _ [11, 12, 13, 14, 5, 15, 7, 39, 40, 41, 42, 43, 44, 45, 46, 47, 48, 49, 50, 51] (by decide +kernel) (by decide +kernel)
set_option maxRecDepth 20000 in
theorem gX8_rule_X8_rules : GoodIn wsX8_rule (wsV RX8 71 RX8 yX8_rules wsX8_rules) := goodIn_app (goodIn_of _ (by decide +kernel)) ggX8_rule_X8_rules
set_option maxRecDepth 20000 in
theorem ggX8_rule_X8_in : GoodIn wsX8_rule wsX8_in := goodIn_r _ [18] (by decide +kernel) (by decide +kernel)
set_option maxRecDepth 20000 in
theorem gX8_rule_X8_in : GoodIn wsX8_rule (va_wsS RX8 32 yX8_in wsX8_in) := goodIn_app (goodIn_of _ (by decide +kernel)) ggX8_rule_X8_in
set_option maxRecDepth 20000 in
theorem ggX8_rule_X8_toldRule : GoodIn wsX8_rule wsX8_toldRule := goodIn_r _ [22, 23, 24, 25, 5, 26, 12, 13, 14, 15, 7, 27, 28, 29, 30, 31, 32, 33, 34, 35, 36, 37, 38, 39, 40, 41, 42, 43, 44, 45, 46, 47, 48, 49, 50, 51] (by decide +kernel) (by decide +kernel)
set_option maxRecDepth 20000 in
theorem gX8_rule_X8_toldRule : GoodIn wsX8_rule (wsV RX8 224 RX8 yX8_toldRule wsX8_toldRule) := goodIn_app (goodIn_of _ (by decide +kernel)) ggX8_rule_X8_toldRule
theorem dX8_rule_0 : decode cX8_rule 0 = .ok (.aload_n 0, 1) := by decide +kernel
theorem dX8_rule_1 : decode cX8_rule 1 = .ok (.aload_n 0, 1) := by decide +kernel
theorem dX8_rule_2 : decode cX8_rule 2 = .ok (.iload_n 1, 1) := by decide +kernel
theorem dX8_rule_3 : decode cX8_rule 3 = .ok (.invokevirtual 68, 3) := by decide +kernel
theorem dX8_rule_6 : decode cX8_rule 6 = .ok (.ifCond .eq 18, 3) := by decide +kernel
theorem dX8_rule_9 : decode cX8_rule 9 = .ok (.iload_n 2, 1) := by decide +kernel
theorem dX8_rule_10 : decode cX8_rule 10 = .ok (.iconst 0, 1) := by decide +kernel
theorem dX8_rule_11 : decode cX8_rule 11 = .ok (.aload_n 0, 1) := by decide +kernel
theorem dX8_rule_12 : decode cX8_rule 12 = .ok (.iload_n 1, 1) := by decide +kernel
theorem dX8_rule_13 : decode cX8_rule 13 = .ok (.invokevirtual 71, 3) := by decide +kernel
theorem dX8_rule_16 : decode cX8_rule 16 = .ok (.iconst 1, 1) := by decide +kernel
theorem dX8_rule_17 : decode cX8_rule 17 = .ok (.isub, 1) := by decide +kernel
theorem dX8_rule_18 : decode cX8_rule 18 = .ok (.invokestatic 32, 3) := by decide +kernel
theorem dX8_rule_21 : decode cX8_rule 21 = .ok (.ifCond .ne 7, 3) := by decide +kernel
theorem dX8_rule_24 : decode cX8_rule 24 = .ok (.iconst 1, 1) := by decide +kernel
theorem dX8_rule_25 : decode cX8_rule 25 = .ok (.goto 17, 3) := by decide +kernel
theorem dX8_rule_28 : decode cX8_rule 28 = .ok (.iload_n 3, 1) := by decide +kernel
theorem dX8_rule_29 : decode cX8_rule 29 = .ok (.iconst 0, 1) := by decide +kernel
theorem dX8_rule_30 : decode cX8_rule 30 = .ok (.iconst 2, 1) := by decide +kernel
theorem dX8_rule_31 : decode cX8_rule 31 = .ok (.invokestatic 32, 3) := by decide +kernel
theorem dX8_rule_34 : decode cX8_rule 34 = .ok (.ifCond .eq 7, 3) := by decide +kernel
theorem dX8_rule_37 : decode cX8_rule 37 = .ok (.iconst 0, 1) := by decide +kernel
theorem dX8_rule_38 : decode cX8_rule 38 = .ok (.goto 4, 3) := by decide +kernel
theorem dX8_rule_41 : decode cX8_rule 41 = .ok (.iconst 2, 1) := by decide +kernel
theorem dX8_rule_42 : decode cX8_rule 42 = .ok (.putfield 28, 3) := by decide +kernel
theorem dX8_rule_45 : decode cX8_rule 45 = .ok (.aload_n 0, 1) := by decide +kernel
theorem dX8_rule_46 : decode cX8_rule 46 = .ok (.getfield 28, 3) := by decide +kernel
theorem dX8_rule_49 : decode cX8_rule 49 = .ok (.ifCond .le 7, 3) := by decide +kernel
theorem dX8_rule_52 : decode cX8_rule 52 = .ok (.iconst 0, 1) := by decide +kernel
theorem dX8_rule_53 : decode cX8_rule 53 = .ok (.goto 10, 3) := by decide +kernel
theorem dX8_rule_56 : decode cX8_rule 56 = .ok (.aload_n 0, 1) := by decide +kernel
theorem dX8_rule_57 : decode cX8_rule 57 = .ok (.iload_n 1, 1) := by decide +kernel
theorem dX8_rule_58 : decode cX8_rule 58 = .ok (.iload_n 2, 1) := by decide +kernel
theorem dX8_rule_59 : decode cX8_rule 59 = .ok (.iload_n 3, 1) := by decide +kernel
theorem dX8_rule_60 : decode cX8_rule 60 = .ok (.invokevirtual 224, 3) := by decide +kernel
theorem dX8_rule_63 : decode cX8_rule 63 = .ok (.ireturn, 1) := by decide +kernel
set_option maxRecDepth 20000 in
theorem ggX8_phasesWith_X8_hasGreen : GoodIn wsX8_phasesWith wsX8_hasGreen := goodIn_r _ [6, 7, 8, 9, 5, 10, 11, 12, 13, 14, 1, 15, 16, 17, 18, 19, 20, 21, 22, 23, 24, 25, 26, 27] (by decide +kernel) (by decide +kernel)
set_option maxRecDepth 20000 in
theorem gX8_phasesWith_X8_hasGreen : GoodIn wsX8_phasesWith (wsV RX8 167 RX8 yX8_hasGreen wsX8_hasGreen) := goodIn_app (goodIn_of _ (by decide +kernel)) ggX8_phasesWith_X8_hasGreen
theorem dX8_phasesWith_0 : decode cX8_phasesWith 0 = .ok (.iconst 0, 1) := by decide +kernel
theorem dX8_phasesWith_1 : decode cX8_phasesWith 1 = .ok (.istore_n 2, 1) := by decide +kernel
theorem dX8_phasesWith_2 : decode cX8_phasesWith 2 = .ok (.iconst 0, 1) := by decide +kernel
theorem dX8_phasesWith_3 : decode cX8_phasesWith 3 = .ok (.istore_n 3, 1) := by decide +kernel
theorem dX8_phasesWith_4 : decode cX8_phasesWith 4 = .ok (.iload_n 3, 1) := by decide +kernel
theorem dX8_phasesWith_5 : decode cX8_phasesWith 5 = .ok (.aload_n 0, 1) := by decide +kernel
theorem dX8_phasesWith_6 : decode cX8_phasesWith 6 = .ok (.getfield 7, 3) := by decide +kernel
theorem dX8_phasesWith_9 : decode cX8_phasesWith 9 = .ok (.iconst 0, 1) := by decide +kernel
theorem dX8_phasesWith_10 : decode cX8_phasesWith 10 = .ok (.iaload, 1) := by decide +kernel
theorem dX8_phasesWith_11 : decode cX8_phasesWith 11 = .ok (.if_icmp .ge 28, 3) := by decide +kernel
theorem dX8_phasesWith_14 : decode cX8_phasesWith 14 = .ok (.iload_n 2, 1) := by decide +kernel
theorem dX8_phasesWith_15 : decode cX8_phasesWith 15 = .ok (.aload_n 0, 1) := by decide +kernel
theorem dX8_phasesWith_16 : decode cX8_phasesWith 16 = .ok (.iload_n 3, 1) := by decide +kernel
theorem dX8_phasesWith_17 : decode cX8_phasesWith 17 = .ok (.iload_n 1, 1) := by decide +kernel
theorem dX8_phasesWith_18 : decode cX8_phasesWith 18 = .ok (.invokevirtual 167, 3) := by decide +kernel
theorem dX8_phasesWith_21 : decode cX8_phasesWith 21 = .ok (.ifCond .eq 9, 3) := by decide +kernel
theorem dX8_phasesWith_24 : decode cX8_phasesWith 24 = .ok (.iconst 1, 1) := by decide +kernel
theorem dX8_phasesWith_25 : decode cX8_phasesWith 25 = .ok (.iload_n 3, 1) := by decide +kernel
theorem dX8_phasesWith_26 : decode cX8_phasesWith 26 = .ok (.ishl, 1) := by decide +kernel
theorem dX8_phasesWith_27 : decode cX8_phasesWith 27 = .ok (.goto 4, 3) := by decide +kernel
theorem dX8_phasesWith_30 : decode cX8_phasesWith 30 = .ok (.iconst 0, 1) := by decide +kernel
theorem dX8_phasesWith_31 : decode cX8_phasesWith 31 = .ok (.ior, 1) := by decide +kernel
theorem dX8_phasesWith_32 : decode cX8_phasesWith 32 = .ok (.istore_n 2, 1) := by decide +kernel
theorem dX8_phasesWith_33 : decode cX8_phasesWith 33 = .ok (.iinc 3 1, 3) := by decide +kernel
theorem dX8_phasesWith_36 : decode cX8_phasesWith 36 = .ok (.goto (-32), 3) := by decide +kernel
theorem dX8_phasesWith_39 : decode cX8_phasesWith 39 = .ok (.iload_n 2, 1) := by decide +kernel
theorem dX8_phasesWith_40 : decode cX8_phasesWith 40 = .ok (.ireturn, 1) := by decide +kernel
set_option maxRecDepth 20000 in
theorem ggX8_toldDirection_X8_greensNow : GoodIn wsX8_toldDirection wsX8_greensNow := goodIn_r _ [6, 1, 7, 8, 9, 5, 10, 11, 12, 13, 14, 15, 16, 17, 18, 27, 28, 29, 30, 31, 32, 33, 34, 35, 36, 37, 38, 39] (by decide +kernel) (by decide +kernel)
set_option maxRecDepth 20000 in
theorem gX8_toldDirection_X8_greensNow : GoodIn wsX8_toldDirection (wsV RX8 85 RX8 yX8_greensNow wsX8_greensNow) := goodIn_app (goodIn_of _ (by decide +kernel)) ggX8_toldDirection_X8_greensNow
set_option maxRecDepth 20000 in
theorem ggX8_toldDirection_X8_phasesWith : GoodIn wsX8_toldDirection wsX8_phasesWith := goodIn_r _ [22, 1, 23, 24, 25, 5, 26, 11, 12, 13, 14, 15, 16, 17, 18, 27, 28, 29, 30, 31, 32, 33, 34, 35, 36, 37, 38, 39] (by decide +kernel) (by decide +kernel)
set_option maxRecDepth 20000 in
theorem gX8_toldDirection_X8_phasesWith : GoodIn wsX8_toldDirection (wsV RX8 227 RX8 yX8_phasesWith wsX8_phasesWith) := goodIn_app (goodIn_of _ (by decide +kernel)) ggX8_toldDirection_X8_phasesWith
theorem dX8_toldDirection_0 : decode cX8_toldDirection 0 = .ok (.iload_n 2, 1) := by decide +kernel
theorem dX8_toldDirection_1 : decode cX8_toldDirection 1 = .ok (.tableswitch 84 0 4 #[35, 44, 54, 64, 74], 35) := by decide +kernel
theorem dX8_toldDirection_36 : decode cX8_toldDirection 36 = .ok (.aload_n 0, 1) := by decide +kernel
theorem dX8_toldDirection_37 : decode cX8_toldDirection 37 = .ok (.invokevirtual 85, 3) := by decide +kernel
theorem dX8_toldDirection_40 : decode cX8_toldDirection 40 = .ok (.iload_n 1, 1) := by decide +kernel
theorem dX8_toldDirection_41 : decode cX8_toldDirection 41 = .ok (.ishr, 1) := by decide +kernel
theorem dX8_toldDirection_42 : decode cX8_toldDirection 42 = .ok (.iconst 1, 1) := by decide +kernel
theorem dX8_toldDirection_43 : decode cX8_toldDirection 43 = .ok (.iand, 1) := by decide +kernel
theorem dX8_toldDirection_44 : decode cX8_toldDirection 44 = .ok (.ireturn, 1) := by decide +kernel
theorem dX8_toldDirection_45 : decode cX8_toldDirection 45 = .ok (.aload_n 0, 1) := by decide +kernel
theorem dX8_toldDirection_46 : decode cX8_toldDirection 46 = .ok (.getfield 7, 3) := by decide +kernel
theorem dX8_toldDirection_49 : decode cX8_toldDirection 49 = .ok (.bipush 13, 2) := by decide +kernel
theorem dX8_toldDirection_51 : decode cX8_toldDirection 51 = .ok (.iload_n 1, 1) := by decide +kernel
theorem dX8_toldDirection_52 : decode cX8_toldDirection 52 = .ok (.iadd, 1) := by decide +kernel
theorem dX8_toldDirection_53 : decode cX8_toldDirection 53 = .ok (.iaload, 1) := by decide +kernel
theorem dX8_toldDirection_54 : decode cX8_toldDirection 54 = .ok (.ireturn, 1) := by decide +kernel
theorem dX8_toldDirection_55 : decode cX8_toldDirection 55 = .ok (.aload_n 0, 1) := by decide +kernel
theorem dX8_toldDirection_56 : decode cX8_toldDirection 56 = .ok (.getfield 7, 3) := by decide +kernel
theorem dX8_toldDirection_59 : decode cX8_toldDirection 59 = .ok (.bipush 7, 2) := by decide +kernel
theorem dX8_toldDirection_61 : decode cX8_toldDirection 61 = .ok (.iload_n 1, 1) := by decide +kernel
theorem dX8_toldDirection_62 : decode cX8_toldDirection 62 = .ok (.iadd, 1) := by decide +kernel
theorem dX8_toldDirection_63 : decode cX8_toldDirection 63 = .ok (.iaload, 1) := by decide +kernel
theorem dX8_toldDirection_64 : decode cX8_toldDirection 64 = .ok (.ireturn, 1) := by decide +kernel
theorem dX8_toldDirection_65 : decode cX8_toldDirection 65 = .ok (.aload_n 0, 1) := by decide +kernel
theorem dX8_toldDirection_66 : decode cX8_toldDirection 66 = .ok (.getfield 7, 3) := by decide +kernel
theorem dX8_toldDirection_69 : decode cX8_toldDirection 69 = .ok (.bipush 19, 2) := by decide +kernel
theorem dX8_toldDirection_71 : decode cX8_toldDirection 71 = .ok (.iload_n 1, 1) := by decide +kernel
theorem dX8_toldDirection_72 : decode cX8_toldDirection 72 = .ok (.iadd, 1) := by decide +kernel
theorem dX8_toldDirection_73 : decode cX8_toldDirection 73 = .ok (.iaload, 1) := by decide +kernel
theorem dX8_toldDirection_74 : decode cX8_toldDirection 74 = .ok (.ireturn, 1) := by decide +kernel
theorem dX8_toldDirection_75 : decode cX8_toldDirection 75 = .ok (.aload_n 0, 1) := by decide +kernel
theorem dX8_toldDirection_76 : decode cX8_toldDirection 76 = .ok (.getfield 7, 3) := by decide +kernel
theorem dX8_toldDirection_79 : decode cX8_toldDirection 79 = .ok (.bipush 25, 2) := by decide +kernel
theorem dX8_toldDirection_81 : decode cX8_toldDirection 81 = .ok (.iload_n 1, 1) := by decide +kernel
theorem dX8_toldDirection_82 : decode cX8_toldDirection 82 = .ok (.iadd, 1) := by decide +kernel
theorem dX8_toldDirection_83 : decode cX8_toldDirection 83 = .ok (.iaload, 1) := by decide +kernel
theorem dX8_toldDirection_84 : decode cX8_toldDirection 84 = .ok (.ireturn, 1) := by decide +kernel
theorem dX8_toldDirection_85 : decode cX8_toldDirection 85 = .ok (.aload_n 0, 1) := by decide +kernel
theorem dX8_toldDirection_86 : decode cX8_toldDirection 86 = .ok (.iload_n 1, 1) := by decide +kernel
theorem dX8_toldDirection_87 : decode cX8_toldDirection 87 = .ok (.invokevirtual 227, 3) := by decide +kernel
theorem dX8_toldDirection_90 : decode cX8_toldDirection 90 = .ok (.ireturn, 1) := by decide +kernel
set_option maxRecDepth 20000 in
theorem ggX8_direction_X8_isDirection : GoodIn wsX8_direction wsX8_isDirection := goodIn_r _ [5, 6, 7, 4, 8] (by decide +kernel) (by decide +kernel)
set_option maxRecDepth 20000 in
theorem gX8_direction_X8_isDirection : GoodIn wsX8_direction (va_wsS RX8 47 yX8_isDirection wsX8_isDirection) := goodIn_app (goodIn_of _ (by decide +kernel)) ggX8_direction_X8_isDirection
set_option maxRecDepth 20000 in
theorem ggX8_direction_X8_in : GoodIn wsX8_direction wsX8_in := goodIn_r _ [8] (by decide +kernel) (by decide +kernel)
set_option maxRecDepth 20000 in
theorem gX8_direction_X8_in : GoodIn wsX8_direction (va_wsS RX8 32 yX8_in wsX8_in) := goodIn_app (goodIn_of _ (by decide +kernel)) ggX8_direction_X8_in
set_option maxRecDepth 20000 in
theorem ggX8_direction_X8_toldDirection : GoodIn wsX8_direction wsX8_toldDirection := goodIn_r _ [12, 13, 14, 15, 16, 4, 17, 18, 19, 20, 21, 22, 23, 24, 25, 26, 27, 28, 29, 30, 31, 32, 33, 34, 35, 36, 37, 38, 39, 40, 41, 42, 43, 44, 45, 46, 47, 48, 49, 50] (by decide +kernel) (by decide +kernel)
set_option maxRecDepth 20000 in
theorem gX8_direction_X8_toldDirection : GoodIn wsX8_direction (wsV RX8 230 RX8 yX8_toldDirection wsX8_toldDirection) := goodIn_app (goodIn_of _ (by decide +kernel)) ggX8_direction_X8_toldDirection
theorem dX8_direction_0 : decode cX8_direction 0 = .ok (.aload_n 0, 1) := by decide +kernel
theorem dX8_direction_1 : decode cX8_direction 1 = .ok (.iload_n 1, 1) := by decide +kernel
theorem dX8_direction_2 : decode cX8_direction 2 = .ok (.invokestatic 47, 3) := by decide +kernel
theorem dX8_direction_5 : decode cX8_direction 5 = .ok (.ifCond .eq 16, 3) := by decide +kernel
theorem dX8_direction_8 : decode cX8_direction 8 = .ok (.iload_n 2, 1) := by decide +kernel
theorem dX8_direction_9 : decode cX8_direction 9 = .ok (.iconst 0, 1) := by decide +kernel
theorem dX8_direction_10 : decode cX8_direction 10 = .ok (.iconst 5, 1) := by decide +kernel
theorem dX8_direction_11 : decode cX8_direction 11 = .ok (.invokestatic 32, 3) := by decide +kernel
theorem dX8_direction_14 : decode cX8_direction 14 = .ok (.ifCond .eq 7, 3) := by decide +kernel
theorem dX8_direction_17 : decode cX8_direction 17 = .ok (.iconst 0, 1) := by decide +kernel
theorem dX8_direction_18 : decode cX8_direction 18 = .ok (.goto 4, 3) := by decide +kernel
theorem dX8_direction_21 : decode cX8_direction 21 = .ok (.iconst 1, 1) := by decide +kernel
theorem dX8_direction_22 : decode cX8_direction 22 = .ok (.putfield 28, 3) := by decide +kernel
theorem dX8_direction_25 : decode cX8_direction 25 = .ok (.aload_n 0, 1) := by decide +kernel
theorem dX8_direction_26 : decode cX8_direction 26 = .ok (.getfield 28, 3) := by decide +kernel
theorem dX8_direction_29 : decode cX8_direction 29 = .ok (.ifCond .le 7, 3) := by decide +kernel
theorem dX8_direction_32 : decode cX8_direction 32 = .ok (.iconst 0, 1) := by decide +kernel
theorem dX8_direction_33 : decode cX8_direction 33 = .ok (.goto 9, 3) := by decide +kernel
theorem dX8_direction_36 : decode cX8_direction 36 = .ok (.aload_n 0, 1) := by decide +kernel
theorem dX8_direction_37 : decode cX8_direction 37 = .ok (.iload_n 1, 1) := by decide +kernel
theorem dX8_direction_38 : decode cX8_direction 38 = .ok (.iload_n 2, 1) := by decide +kernel
theorem dX8_direction_39 : decode cX8_direction 39 = .ok (.invokevirtual 230, 3) := by decide +kernel
theorem dX8_direction_42 : decode cX8_direction 42 = .ok (.ireturn, 1) := by decide +kernel
set_option maxRecDepth 20000 in
theorem ggX8_clashing_X8_doesClash : GoodIn wsX8_clashing wsX8_doesClash := goodIn_r _ [6, 1, 7, 8, 9, 5, 10, 11, 12, 13, 14, 15, 16, 17, 18, 19, 20, 21, 22, 23, 24, 25, 26, 27, 28, 29, 30, 31] (by decide +kernel) (by decide +kernel)
set_option maxRecDepth 20000 in
theorem gX8_clashing_X8_doesClash : GoodIn wsX8_clashing (wsV RX8 218 RX8 yX8_doesClash wsX8_doesClash) := goodIn_app (goodIn_of _ (by decide +kernel)) ggX8_clashing_X8_doesClash
theorem dX8_clashing_0 : decode cX8_clashing 0 = .ok (.iconst 0, 1) := by decide +kernel
theorem dX8_clashing_1 : decode cX8_clashing 1 = .ok (.istore_n 2, 1) := by decide +kernel
theorem dX8_clashing_2 : decode cX8_clashing 2 = .ok (.iconst 0, 1) := by decide +kernel
theorem dX8_clashing_3 : decode cX8_clashing 3 = .ok (.istore_n 3, 1) := by decide +kernel
theorem dX8_clashing_4 : decode cX8_clashing 4 = .ok (.iload_n 3, 1) := by decide +kernel
theorem dX8_clashing_5 : decode cX8_clashing 5 = .ok (.aload_n 0, 1) := by decide +kernel
theorem dX8_clashing_6 : decode cX8_clashing 6 = .ok (.getfield 7, 3) := by decide +kernel
theorem dX8_clashing_9 : decode cX8_clashing 9 = .ok (.iconst 0, 1) := by decide +kernel
theorem dX8_clashing_10 : decode cX8_clashing 10 = .ok (.iaload, 1) := by decide +kernel
theorem dX8_clashing_11 : decode cX8_clashing 11 = .ok (.if_icmp .ge 34, 3) := by decide +kernel
theorem dX8_clashing_14 : decode cX8_clashing 14 = .ok (.iload_n 2, 1) := by decide +kernel
theorem dX8_clashing_15 : decode cX8_clashing 15 = .ok (.iload_n 1, 1) := by decide +kernel
theorem dX8_clashing_16 : decode cX8_clashing 16 = .ok (.iload_n 3, 1) := by decide +kernel
theorem dX8_clashing_17 : decode cX8_clashing 17 = .ok (.ishr, 1) := by decide +kernel
theorem dX8_clashing_18 : decode cX8_clashing 18 = .ok (.iconst 1, 1) := by decide +kernel
theorem dX8_clashing_19 : decode cX8_clashing 19 = .ok (.iand, 1) := by decide +kernel
theorem dX8_clashing_20 : decode cX8_clashing 20 = .ok (.iconst 1, 1) := by decide +kernel
theorem dX8_clashing_21 : decode cX8_clashing 21 = .ok (.if_icmp .ne 15, 3) := by decide +kernel
theorem dX8_clashing_24 : decode cX8_clashing 24 = .ok (.aload_n 0, 1) := by decide +kernel
theorem dX8_clashing_25 : decode cX8_clashing 25 = .ok (.iload_n 3, 1) := by decide +kernel
theorem dX8_clashing_26 : decode cX8_clashing 26 = .ok (.invokevirtual 218, 3) := by decide +kernel
theorem dX8_clashing_29 : decode cX8_clashing 29 = .ok (.ifCond .eq 7, 3) := by decide +kernel
theorem dX8_clashing_32 : decode cX8_clashing 32 = .ok (.iconst 1, 1) := by decide +kernel
theorem dX8_clashing_33 : decode cX8_clashing 33 = .ok (.goto 4, 3) := by decide +kernel
theorem dX8_clashing_36 : decode cX8_clashing 36 = .ok (.iconst 0, 1) := by decide +kernel
theorem dX8_clashing_37 : decode cX8_clashing 37 = .ok (.iadd, 1) := by decide +kernel
theorem dX8_clashing_38 : decode cX8_clashing 38 = .ok (.istore_n 2, 1) := by decide +kernel
theorem dX8_clashing_39 : decode cX8_clashing 39 = .ok (.iinc 3 1, 3) := by decide +kernel
theorem dX8_clashing_42 : decode cX8_clashing 42 = .ok (.goto (-38), 3) := by decide +kernel
theorem dX8_clashing_45 : decode cX8_clashing 45 = .ok (.iload_n 2, 1) := by decide +kernel
theorem dX8_clashing_46 : decode cX8_clashing 46 = .ok (.ireturn, 1) := by decide +kernel
set_option maxRecDepth 20000 in
theorem ggX8_counted_X8_isClearing : GoodIn wsX8_counted wsX8_isClearing := goodIn_r _ [7, 1, 87, 88, 89, 90, 91, 92, 93, 94, 95, 96, 97, 98, 99] (by decide +kernel) (by decide +kernel)
set_option maxRecDepth 20000 in
theorem gX8_counted_X8_isClearing : GoodIn wsX8_counted (wsV RX8 81 RX8 yX8_isClearing wsX8_isClearing) := goodIn_app (goodIn_of _ (by decide +kernel)) ggX8_counted_X8_isClearing
set_option maxRecDepth 20000 in
theorem ggX8_counted_X8_greensNow : GoodIn wsX8_counted wsX8_greensNow := goodIn_r _ [11, 1, 3, 4, 5, 6, 7, 12, 13, 14, 15, 16, 17, 18, 19, 87, 88, 89, 90, 91, 92, 93, 94, 95, 96, 97, 98, 99] (by decide +kernel) (by decide +kernel)
set_option maxRecDepth 20000 in
theorem gX8_counted_X8_greensNow : GoodIn wsX8_counted (wsV RX8 85 RX8 yX8_greensNow wsX8_greensNow) := goodIn_app (goodIn_of _ (by decide +kernel)) ggX8_counted_X8_greensNow
set_option maxRecDepth 20000 in
theorem ggX8_counted_X8_waiting : GoodIn wsX8_counted wsX8_waiting := goodIn_r _ [23, 1, 87, 88, 89, 90, 91, 92, 93, 94, 95, 96, 97, 98, 99] (by decide +kernel) (by decide +kernel)
set_option maxRecDepth 20000 in
theorem gX8_counted_X8_waiting : GoodIn wsX8_counted (wsV RX8 95 RX8 yX8_waiting wsX8_waiting) := goodIn_app (goodIn_of _ (by decide +kernel)) ggX8_counted_X8_waiting
set_option maxRecDepth 20000 in
theorem ggX8_counted_X8_clashing : GoodIn wsX8_counted wsX8_clashing := goodIn_r _ [27, 1, 28, 29, 30, 6, 31, 32, 33, 34, 35, 12, 13, 14, 15, 16, 17, 18, 19, 87, 88, 89, 90, 91, 92, 93, 94, 95, 96, 97, 98, 99] (by decide +kernel) (by decide +kernel)
set_option maxRecDepth 20000 in
theorem gX8_counted_X8_clashing : GoodIn wsX8_counted (wsV RX8 233 RX8 yX8_clashing wsX8_clashing) := goodIn_app (goodIn_of _ (by decide +kernel)) ggX8_counted_X8_clashing
set_option maxRecDepth 20000 in
theorem ggX8_counted_X8_comers : GoodIn wsX8_counted wsX8_comers := goodIn_r _ [39, 1, 40, 41, 42, 6, 43, 16, 17, 18, 19, 44, 45, 46, 47, 87, 88, 89, 90, 91, 92, 93, 94, 95, 96, 97, 98, 99] (by decide +kernel) (by decide +kernel)
set_option maxRecDepth 20000 in
theorem gX8_counted_X8_comers : GoodIn wsX8_counted (wsV RX8 179 RX8 yX8_comers wsX8_comers) := goodIn_app (goodIn_of _ (by decide +kernel)) ggX8_counted_X8_comers
set_option maxRecDepth 20000 in
theorem ggX8_counted_X8_bits : GoodIn wsX8_counted wsX8_bits := goodIn_r _ [50] (by decide +kernel) (by decide +kernel)
set_option maxRecDepth 20000 in
theorem gX8_counted_X8_bits : GoodIn wsX8_counted (va_wsS RX8 121 yX8_bits wsX8_bits) := goodIn_app (goodIn_of _ (by decide +kernel)) ggX8_counted_X8_bits
set_option maxRecDepth 20000 in
theorem ggX8_counted_X8_starving : GoodIn wsX8_counted wsX8_starving := goodIn_r _ [54, 55, 56, 57, 6, 58, 1, 36, 37, 38, 39, 40, 41, 42, 43, 16, 17, 18, 19, 44, 45, 46, 47, 59, 60, 61, 62, 32, 33, 34, 35, 12, 13, 14, 15, 63, 64, 65, 66, 67, 68, 69, 70, 71, 72, 73, 74, 75, 76, 77, 78, 79, 80, 81, 82, 83, 84, 85, 86, 87, 88, 89, 90, 91, 92, 93, 94, 95, 96, 97, 98, 99] (by decide +kernel) (by decide +kernel)
set_option maxRecDepth 20000 in
theorem gX8_counted_X8_starving : GoodIn wsX8_counted (wsV RX8 236 RX8 yX8_starving wsX8_starving) := goodIn_app (goodIn_of _ (by decide +kernel)) ggX8_counted_X8_starving
theorem dX8_counted_0 : decode cX8_counted 0 = .ok (.iload_n 1, 1) := by decide +kernel
theorem dX8_counted_1 : decode cX8_counted 1 = .ok (.tableswitch 156 0 10 #[59, 66, 73, 101, 108, 113, 118, 126, 134, 143, 151], 59) := by decide +kernel
theorem dX8_counted_60 : decode cX8_counted 60 = .ok (.aload_n 0, 1) := by decide +kernel
theorem dX8_counted_61 : decode cX8_counted 61 = .ok (.getfield 7, 3) := by decide +kernel
theorem dX8_counted_64 : decode cX8_counted 64 = .ok (.iconst 0, 1) := by decide +kernel
theorem dX8_counted_65 : decode cX8_counted 65 = .ok (.iaload, 1) := by decide +kernel
theorem dX8_counted_66 : decode cX8_counted 66 = .ok (.ireturn, 1) := by decide +kernel
theorem dX8_counted_67 : decode cX8_counted 67 = .ok (.aload_n 0, 1) := by decide +kernel
theorem dX8_counted_68 : decode cX8_counted 68 = .ok (.getfield 7, 3) := by decide +kernel
theorem dX8_counted_71 : decode cX8_counted 71 = .ok (.iconst 2, 1) := by decide +kernel
theorem dX8_counted_72 : decode cX8_counted 72 = .ok (.iaload, 1) := by decide +kernel
theorem dX8_counted_73 : decode cX8_counted 73 = .ok (.ireturn, 1) := by decide +kernel
theorem dX8_counted_74 : decode cX8_counted 74 = .ok (.aload_n 0, 1) := by decide +kernel
theorem dX8_counted_75 : decode cX8_counted 75 = .ok (.getfield 7, 3) := by decide +kernel
theorem dX8_counted_78 : decode cX8_counted 78 = .ok (.iconst 2, 1) := by decide +kernel
theorem dX8_counted_79 : decode cX8_counted 79 = .ok (.iaload, 1) := by decide +kernel
theorem dX8_counted_80 : decode cX8_counted 80 = .ok (.iconst (-1), 1) := by decide +kernel
theorem dX8_counted_81 : decode cX8_counted 81 = .ok (.if_icmp .eq 10, 3) := by decide +kernel
theorem dX8_counted_84 : decode cX8_counted 84 = .ok (.aload_n 0, 1) := by decide +kernel
theorem dX8_counted_85 : decode cX8_counted 85 = .ok (.invokevirtual 81, 3) := by decide +kernel
theorem dX8_counted_88 : decode cX8_counted 88 = .ok (.ifCond .eq 7, 3) := by decide +kernel
theorem dX8_counted_91 : decode cX8_counted 91 = .ok (.iconst (-1), 1) := by decide +kernel
theorem dX8_counted_92 : decode cX8_counted 92 = .ok (.goto 9, 3) := by decide +kernel
theorem dX8_counted_95 : decode cX8_counted 95 = .ok (.aload_n 0, 1) := by decide +kernel
theorem dX8_counted_96 : decode cX8_counted 96 = .ok (.getfield 7, 3) := by decide +kernel
theorem dX8_counted_99 : decode cX8_counted 99 = .ok (.iconst 3, 1) := by decide +kernel
theorem dX8_counted_100 : decode cX8_counted 100 = .ok (.iaload, 1) := by decide +kernel
theorem dX8_counted_101 : decode cX8_counted 101 = .ok (.ireturn, 1) := by decide +kernel
theorem dX8_counted_102 : decode cX8_counted 102 = .ok (.aload_n 0, 1) := by decide +kernel
theorem dX8_counted_103 : decode cX8_counted 103 = .ok (.getfield 7, 3) := by decide +kernel
theorem dX8_counted_106 : decode cX8_counted 106 = .ok (.iconst 4, 1) := by decide +kernel
theorem dX8_counted_107 : decode cX8_counted 107 = .ok (.iaload, 1) := by decide +kernel
theorem dX8_counted_108 : decode cX8_counted 108 = .ok (.ireturn, 1) := by decide +kernel
theorem dX8_counted_109 : decode cX8_counted 109 = .ok (.aload_n 0, 1) := by decide +kernel
theorem dX8_counted_110 : decode cX8_counted 110 = .ok (.invokevirtual 85, 3) := by decide +kernel
theorem dX8_counted_113 : decode cX8_counted 113 = .ok (.ireturn, 1) := by decide +kernel
theorem dX8_counted_114 : decode cX8_counted 114 = .ok (.aload_n 0, 1) := by decide +kernel
theorem dX8_counted_115 : decode cX8_counted 115 = .ok (.invokevirtual 95, 3) := by decide +kernel
theorem dX8_counted_118 : decode cX8_counted 118 = .ok (.ireturn, 1) := by decide +kernel
theorem dX8_counted_119 : decode cX8_counted 119 = .ok (.aload_n 0, 1) := by decide +kernel
theorem dX8_counted_120 : decode cX8_counted 120 = .ok (.sipush 255, 3) := by decide +kernel
theorem dX8_counted_123 : decode cX8_counted 123 = .ok (.invokevirtual 233, 3) := by decide +kernel
theorem dX8_counted_126 : decode cX8_counted 126 = .ok (.ireturn, 1) := by decide +kernel
theorem dX8_counted_127 : decode cX8_counted 127 = .ok (.aload_n 0, 1) := by decide +kernel
theorem dX8_counted_128 : decode cX8_counted 128 = .ok (.invokevirtual 179, 3) := by decide +kernel
theorem dX8_counted_131 : decode cX8_counted 131 = .ok (.invokestatic 121, 3) := by decide +kernel
theorem dX8_counted_134 : decode cX8_counted 134 = .ok (.ireturn, 1) := by decide +kernel
theorem dX8_counted_135 : decode cX8_counted 135 = .ok (.aload_n 0, 1) := by decide +kernel
theorem dX8_counted_136 : decode cX8_counted 136 = .ok (.aload_n 0, 1) := by decide +kernel
theorem dX8_counted_137 : decode cX8_counted 137 = .ok (.invokevirtual 179, 3) := by decide +kernel
theorem dX8_counted_140 : decode cX8_counted 140 = .ok (.invokevirtual 233, 3) := by decide +kernel
theorem dX8_counted_143 : decode cX8_counted 143 = .ok (.ireturn, 1) := by decide +kernel
theorem dX8_counted_144 : decode cX8_counted 144 = .ok (.aload_n 0, 1) := by decide +kernel
theorem dX8_counted_145 : decode cX8_counted 145 = .ok (.getfield 7, 3) := by decide +kernel
theorem dX8_counted_148 : decode cX8_counted 148 = .ok (.bipush 6, 2) := by decide +kernel
theorem dX8_counted_150 : decode cX8_counted 150 = .ok (.iaload, 1) := by decide +kernel
theorem dX8_counted_151 : decode cX8_counted 151 = .ok (.ireturn, 1) := by decide +kernel
theorem dX8_counted_152 : decode cX8_counted 152 = .ok (.aload_n 0, 1) := by decide +kernel
theorem dX8_counted_153 : decode cX8_counted 153 = .ok (.invokevirtual 236, 3) := by decide +kernel
theorem dX8_counted_156 : decode cX8_counted 156 = .ok (.ireturn, 1) := by decide +kernel
theorem dX8_counted_157 : decode cX8_counted 157 = .ok (.aload_n 0, 1) := by decide +kernel
theorem dX8_counted_158 : decode cX8_counted 158 = .ok (.getfield 44, 3) := by decide +kernel
theorem dX8_counted_161 : decode cX8_counted 161 = .ok (.ireturn, 1) := by decide +kernel
set_option maxRecDepth 20000 in
theorem ggX8_count_X8_in : GoodIn wsX8_count wsX8_in := goodIn_r _ [5] (by decide +kernel) (by decide +kernel)
set_option maxRecDepth 20000 in
theorem gX8_count_X8_in : GoodIn wsX8_count (va_wsS RX8 32 yX8_in wsX8_in) := goodIn_app (goodIn_of _ (by decide +kernel)) ggX8_count_X8_in
set_option maxRecDepth 20000 in
theorem ggX8_count_X8_counted : GoodIn wsX8_count wsX8_counted := goodIn_r _ [9, 10, 11, 12, 13, 14, 4, 15, 16, 17, 18, 19, 20, 21, 22, 23, 24, 25, 26, 27, 28, 29, 30, 31, 32, 33, 34, 35, 36, 37, 38, 39, 40, 41, 42, 43, 44, 45, 46, 47, 48, 49, 50, 51, 52, 53, 54, 55, 56, 57, 58, 59, 60, 61, 62, 63, 64, 65, 66, 67, 68, 69, 70, 71, 72, 73, 74, 75, 76, 77, 78, 79, 80, 81, 82, 83, 84, 85, 86, 87, 88, 89, 90, 91, 92, 93, 94, 95, 96, 97, 98, 99, 100, 101, 102, 103, 104, 105, 106, 107] (by decide +kernel) (by decide +kernel)
set_option maxRecDepth 20000 in
theorem gX8_count_X8_counted : GoodIn wsX8_count (wsV RX8 239 RX8 yX8_counted wsX8_counted) := goodIn_app (goodIn_of _ (by decide +kernel)) ggX8_count_X8_counted
theorem dX8_count_0 : decode cX8_count 0 = .ok (.aload_n 0, 1) := by decide +kernel
theorem dX8_count_1 : decode cX8_count 1 = .ok (.iload_n 1, 1) := by decide +kernel
theorem dX8_count_2 : decode cX8_count 2 = .ok (.iconst 0, 1) := by decide +kernel
theorem dX8_count_3 : decode cX8_count 3 = .ok (.bipush 11, 2) := by decide +kernel
theorem dX8_count_5 : decode cX8_count 5 = .ok (.invokestatic 32, 3) := by decide +kernel
theorem dX8_count_8 : decode cX8_count 8 = .ok (.ifCond .eq 7, 3) := by decide +kernel
theorem dX8_count_11 : decode cX8_count 11 = .ok (.iconst 0, 1) := by decide +kernel
theorem dX8_count_12 : decode cX8_count 12 = .ok (.goto 4, 3) := by decide +kernel
theorem dX8_count_15 : decode cX8_count 15 = .ok (.iconst 1, 1) := by decide +kernel
theorem dX8_count_16 : decode cX8_count 16 = .ok (.putfield 28, 3) := by decide +kernel
theorem dX8_count_19 : decode cX8_count 19 = .ok (.aload_n 0, 1) := by decide +kernel
theorem dX8_count_20 : decode cX8_count 20 = .ok (.getfield 28, 3) := by decide +kernel
theorem dX8_count_23 : decode cX8_count 23 = .ok (.ifCond .le 7, 3) := by decide +kernel
theorem dX8_count_26 : decode cX8_count 26 = .ok (.iconst 0, 1) := by decide +kernel
theorem dX8_count_27 : decode cX8_count 27 = .ok (.goto 8, 3) := by decide +kernel
theorem dX8_count_30 : decode cX8_count 30 = .ok (.aload_n 0, 1) := by decide +kernel
theorem dX8_count_31 : decode cX8_count 31 = .ok (.iload_n 1, 1) := by decide +kernel
theorem dX8_count_32 : decode cX8_count 32 = .ok (.invokevirtual 239, 3) := by decide +kernel
theorem dX8_count_35 : decode cX8_count 35 = .ok (.ireturn, 1) := by decide +kernel
set_option maxRecDepth 20000 in
theorem ggX8_share_X8_clashing : GoodIn wsX8_share wsX8_clashing := goodIn_r _ [6, 1, 7, 8, 9, 5, 10, 11, 12, 13, 14, 15, 16, 17, 18, 19, 20, 21, 22, 23, 24, 25, 26, 27, 28, 29, 30, 31, 32, 33, 34, 35] (by decide +kernel) (by decide +kernel)
set_option maxRecDepth 20000 in
theorem gX8_share_X8_clashing : GoodIn wsX8_share (wsV RX8 233 RX8 yX8_clashing wsX8_clashing) := goodIn_app (goodIn_of _ (by decide +kernel)) ggX8_share_X8_clashing
theorem dX8_share_0 : decode cX8_share 0 = .ok (.aload_n 0, 1) := by decide +kernel
theorem dX8_share_1 : decode cX8_share 1 = .ok (.getfield 7, 3) := by decide +kernel
theorem dX8_share_4 : decode cX8_share 4 = .ok (.iconst 0, 1) := by decide +kernel
theorem dX8_share_5 : decode cX8_share 5 = .ok (.iaload, 1) := by decide +kernel
theorem dX8_share_6 : decode cX8_share 6 = .ok (.ifCond .ne 7, 3) := by decide +kernel
theorem dX8_share_9 : decode cX8_share 9 = .ok (.dconst 1, 1) := by decide +kernel
theorem dX8_share_10 : decode cX8_share 10 = .ok (.goto 26, 3) := by decide +kernel
theorem dX8_share_13 : decode cX8_share 13 = .ok (.aload_n 0, 1) := by decide +kernel
theorem dX8_share_14 : decode cX8_share 14 = .ok (.getfield 7, 3) := by decide +kernel
theorem dX8_share_17 : decode cX8_share 17 = .ok (.iconst 0, 1) := by decide +kernel
theorem dX8_share_18 : decode cX8_share 18 = .ok (.iaload, 1) := by decide +kernel
theorem dX8_share_19 : decode cX8_share 19 = .ok (.aload_n 0, 1) := by decide +kernel
theorem dX8_share_20 : decode cX8_share 20 = .ok (.sipush 255, 3) := by decide +kernel
theorem dX8_share_23 : decode cX8_share 23 = .ok (.invokevirtual 233, 3) := by decide +kernel
theorem dX8_share_26 : decode cX8_share 26 = .ok (.isub, 1) := by decide +kernel
theorem dX8_share_27 : decode cX8_share 27 = .ok (.i2d, 1) := by decide +kernel
theorem dX8_share_28 : decode cX8_share 28 = .ok (.aload_n 0, 1) := by decide +kernel
theorem dX8_share_29 : decode cX8_share 29 = .ok (.getfield 7, 3) := by decide +kernel
theorem dX8_share_32 : decode cX8_share 32 = .ok (.iconst 0, 1) := by decide +kernel
theorem dX8_share_33 : decode cX8_share 33 = .ok (.iaload, 1) := by decide +kernel
theorem dX8_share_34 : decode cX8_share 34 = .ok (.i2d, 1) := by decide +kernel
theorem dX8_share_35 : decode cX8_share 35 = .ok (.ddiv, 1) := by decide +kernel
theorem dX8_share_36 : decode cX8_share 36 = .ok (.dreturn, 1) := by decide +kernel
set_option maxRecDepth 20000 in
theorem ggX8_safeShare_X8_share : GoodIn wsX8_safeShare wsX8_share := goodIn_r _ [6, 7, 8, 9, 10, 5, 11, 12, 13, 14, 15, 16, 17, 18, 19, 20, 21, 22, 23, 24, 25, 26, 27, 28, 29, 30, 31, 32, 33, 34, 35, 36, 37, 38, 39, 40] (by decide +kernel) (by decide +kernel)
set_option maxRecDepth 20000 in
theorem gX8_safeShare_X8_share : GoodIn wsX8_safeShare (wsV RX8 242 RX8 yX8_share wsX8_share) := goodIn_app (goodIn_of _ (by decide +kernel)) ggX8_safeShare_X8_share
theorem dX8_safeShare_0 : decode cX8_safeShare 0 = .ok (.aload_n 0, 1) := by decide +kernel
theorem dX8_safeShare_1 : decode cX8_safeShare 1 = .ok (.iconst 0, 1) := by decide +kernel
theorem dX8_safeShare_2 : decode cX8_safeShare 2 = .ok (.putfield 28, 3) := by decide +kernel
theorem dX8_safeShare_5 : decode cX8_safeShare 5 = .ok (.aload_n 0, 1) := by decide +kernel
theorem dX8_safeShare_6 : decode cX8_safeShare 6 = .ok (.invokevirtual 242, 3) := by decide +kernel
theorem dX8_safeShare_9 : decode cX8_safeShare 9 = .ok (.dreturn, 1) := by decide +kernel
theorem dX8_bitsOf_0 : decode cX8_bitsOf 0 = .ok (.dload_n 0, 1) := by decide +kernel
theorem dX8_bitsOf_1 : decode cX8_bitsOf 1 = .ok (.dconst 0, 1) := by decide +kernel
theorem dX8_bitsOf_2 : decode cX8_bitsOf 2 = .ok (.dcmp .l, 1) := by decide +kernel
theorem dX8_bitsOf_3 : decode cX8_bitsOf 3 = .ok (.ifCond .ne 5, 3) := by decide +kernel
theorem dX8_bitsOf_6 : decode cX8_bitsOf 6 = .ok (.lconst 0, 1) := by decide +kernel
theorem dX8_bitsOf_7 : decode cX8_bitsOf 7 = .ok (.lreturn, 1) := by decide +kernel
theorem dX8_bitsOf_8 : decode cX8_bitsOf 8 = .ok (.dload_n 0, 1) := by decide +kernel
theorem dX8_bitsOf_9 : decode cX8_bitsOf 9 = .ok (.dstore_n 2, 1) := by decide +kernel
theorem dX8_bitsOf_10 : decode cX8_bitsOf 10 = .ok (.ldc2_w 246, 3) := by decide +kernel
theorem dX8_bitsOf_13 : decode cX8_bitsOf 13 = .ok (.lstore 4, 2) := by decide +kernel
theorem dX8_bitsOf_15 : decode cX8_bitsOf 15 = .ok (.dload_n 2, 1) := by decide +kernel
theorem dX8_bitsOf_16 : decode cX8_bitsOf 16 = .ok (.ldc2_w 248, 3) := by decide +kernel
theorem dX8_bitsOf_19 : decode cX8_bitsOf 19 = .ok (.dcmp .l, 1) := by decide +kernel
theorem dX8_bitsOf_20 : decode cX8_bitsOf 20 = .ok (.ifCond .lt 18, 3) := by decide +kernel
theorem dX8_bitsOf_23 : decode cX8_bitsOf 23 = .ok (.dload_n 2, 1) := by decide +kernel
theorem dX8_bitsOf_24 : decode cX8_bitsOf 24 = .ok (.ldc2_w 248, 3) := by decide +kernel
theorem dX8_bitsOf_27 : decode cX8_bitsOf 27 = .ok (.ddiv, 1) := by decide +kernel
theorem dX8_bitsOf_28 : decode cX8_bitsOf 28 = .ok (.dstore_n 2, 1) := by decide +kernel
theorem dX8_bitsOf_29 : decode cX8_bitsOf 29 = .ok (.lload 4, 2) := by decide +kernel
theorem dX8_bitsOf_31 : decode cX8_bitsOf 31 = .ok (.lconst 1, 1) := by decide +kernel
theorem dX8_bitsOf_32 : decode cX8_bitsOf 32 = .ok (.ladd, 1) := by decide +kernel
theorem dX8_bitsOf_33 : decode cX8_bitsOf 33 = .ok (.lstore 4, 2) := by decide +kernel
theorem dX8_bitsOf_35 : decode cX8_bitsOf 35 = .ok (.goto (-20), 3) := by decide +kernel
theorem dX8_bitsOf_38 : decode cX8_bitsOf 38 = .ok (.dload_n 2, 1) := by decide +kernel
theorem dX8_bitsOf_39 : decode cX8_bitsOf 39 = .ok (.dconst 1, 1) := by decide +kernel
theorem dX8_bitsOf_40 : decode cX8_bitsOf 40 = .ok (.dcmp .g, 1) := by decide +kernel
theorem dX8_bitsOf_41 : decode cX8_bitsOf 41 = .ok (.ifCond .ge 18, 3) := by decide +kernel
theorem dX8_bitsOf_44 : decode cX8_bitsOf 44 = .ok (.dload_n 2, 1) := by decide +kernel
theorem dX8_bitsOf_45 : decode cX8_bitsOf 45 = .ok (.ldc2_w 248, 3) := by decide +kernel
theorem dX8_bitsOf_48 : decode cX8_bitsOf 48 = .ok (.dmul, 1) := by decide +kernel
theorem dX8_bitsOf_49 : decode cX8_bitsOf 49 = .ok (.dstore_n 2, 1) := by decide +kernel
theorem dX8_bitsOf_50 : decode cX8_bitsOf 50 = .ok (.lload 4, 2) := by decide +kernel
theorem dX8_bitsOf_52 : decode cX8_bitsOf 52 = .ok (.lconst 1, 1) := by decide +kernel
theorem dX8_bitsOf_53 : decode cX8_bitsOf 53 = .ok (.lsub, 1) := by decide +kernel
theorem dX8_bitsOf_54 : decode cX8_bitsOf 54 = .ok (.lstore 4, 2) := by decide +kernel
theorem dX8_bitsOf_56 : decode cX8_bitsOf 56 = .ok (.goto (-18), 3) := by decide +kernel
theorem dX8_bitsOf_59 : decode cX8_bitsOf 59 = .ok (.lload 4, 2) := by decide +kernel
theorem dX8_bitsOf_61 : decode cX8_bitsOf 61 = .ok (.bipush 52, 2) := by decide +kernel
theorem dX8_bitsOf_63 : decode cX8_bitsOf 63 = .ok (.lshl, 1) := by decide +kernel
theorem dX8_bitsOf_64 : decode cX8_bitsOf 64 = .ok (.dload_n 2, 1) := by decide +kernel
theorem dX8_bitsOf_65 : decode cX8_bitsOf 65 = .ok (.ldc2_w 250, 3) := by decide +kernel
theorem dX8_bitsOf_68 : decode cX8_bitsOf 68 = .ok (.dmul, 1) := by decide +kernel
theorem dX8_bitsOf_69 : decode cX8_bitsOf 69 = .ok (.d2l, 1) := by decide +kernel
theorem dX8_bitsOf_70 : decode cX8_bitsOf 70 = .ok (.ladd, 1) := by decide +kernel
theorem dX8_bitsOf_71 : decode cX8_bitsOf 71 = .ok (.ldc2_w 252, 3) := by decide +kernel
theorem dX8_bitsOf_74 : decode cX8_bitsOf 74 = .ok (.lsub, 1) := by decide +kernel
theorem dX8_bitsOf_75 : decode cX8_bitsOf 75 = .ok (.lreturn, 1) := by decide +kernel
theorem dX8_mix_0 : decode cX8_mix 0 = .ok (.aload_n 0, 1) := by decide +kernel
theorem dX8_mix_1 : decode cX8_mix 1 = .ok (.ldc2_w 254, 3) := by decide +kernel
theorem dX8_mix_4 : decode cX8_mix 4 = .ok (.aload_n 0, 1) := by decide +kernel
theorem dX8_mix_5 : decode cX8_mix 5 = .ok (.getfield 256, 3) := by decide +kernel
theorem dX8_mix_8 : decode cX8_mix 8 = .ok (.lmul, 1) := by decide +kernel
theorem dX8_mix_9 : decode cX8_mix 9 = .ok (.lload_n 1, 1) := by decide +kernel
theorem dX8_mix_10 : decode cX8_mix 10 = .ok (.ladd, 1) := by decide +kernel
theorem dX8_mix_11 : decode cX8_mix 11 = .ok (.putfield 256, 3) := by decide +kernel
theorem dX8_mix_14 : decode cX8_mix 14 = .ok (.return_, 1) := by decide +kernel
set_option maxRecDepth 20000 in
theorem ggX8_mixPhase_X8_toldPhase : GoodIn wsX8_mixPhase wsX8_toldPhase := goodIn_r _ [5, 6, 7, 8, 4, 9, 10, 11, 12, 13, 14, 15, 16, 17, 18, 19, 20, 21, 22, 23, 24, 25, 26, 27, 28, 29, 30, 31, 32, 33, 34, 119, 120, 121, 122, 123, 124, 125, 126, 127, 128, 129, 130, 131] (by decide +kernel) (by decide +kernel)
set_option maxRecDepth 20000 in
theorem gX8_mixPhase_X8_toldPhase : GoodIn wsX8_mixPhase (wsV RX8 221 RX8 yX8_toldPhase wsX8_toldPhase) := goodIn_app (goodIn_of _ (by decide +kernel)) ggX8_mixPhase_X8_toldPhase
set_option maxRecDepth 20000 in
theorem ggX8_mixPhase_X8_mix : GoodIn wsX8_mixPhase wsX8_mix := goodIn_r _ [38, 39, 40, 119, 120, 121, 122, 123, 124, 125, 126, 127, 128, 129, 130, 131] (by decide +kernel) (by decide +kernel)
set_option maxRecDepth 20000 in
theorem gX8_mixPhase_X8_mix : GoodIn wsX8_mixPhase (wsV RX8 260 RX8 yX8_mix wsX8_mix) := goodIn_app (goodIn_of _ (by decide +kernel)) ggX8_mixPhase_X8_mix
set_option maxRecDepth 20000 in
theorem ggX8_mixPhase_X8_rules : GoodIn wsX8_mixPhase wsX8_rules := goodIn_r _ [18, 10, 11, 12, 4, 13, 14, 119, 120, 121, 122, 123, 124, 125, 126, 127, 128, 129, 130, 131] (by decide +kernel) (by decide +kernel)
set_option maxRecDepth 20000 in
theorem gX8_mixPhase_X8_rules : GoodIn wsX8_mixPhase (wsV RX8 71 RX8 yX8_rules wsX8_rules) := goodIn_app (goodIn_of _ (by decide +kernel)) ggX8_mixPhase_X8_rules
set_option maxRecDepth 20000 in
theorem ggX8_mixPhase_X8_toldRule : GoodIn wsX8_mixPhase wsX8_toldRule := goodIn_r _ [44, 31, 32, 33, 4, 34, 10, 11, 12, 13, 14, 45, 46, 47, 48, 49, 50, 51, 52, 53, 54, 55, 56, 119, 120, 121, 122, 123, 124, 125, 126, 127, 128, 129, 130, 131] (by decide +kernel) (by decide +kernel)
set_option maxRecDepth 20000 in
theorem gX8_mixPhase_X8_toldRule : GoodIn wsX8_mixPhase (wsV RX8 224 RX8 yX8_toldRule wsX8_toldRule) := goodIn_app (goodIn_of _ (by decide +kernel)) ggX8_mixPhase_X8_toldRule
set_option maxRecDepth 20000 in
theorem ggX8_mixPhase_X8_canStarve : GoodIn wsX8_mixPhase wsX8_canStarve := goodIn_r _ [60, 14, 23, 24, 25, 4, 26, 6, 7, 8, 9, 10, 11, 12, 13, 61, 62, 63, 64, 15, 16, 17, 18, 65, 66, 67, 68, 69, 70, 71, 72, 45, 46, 47, 48, 31, 32, 33, 34, 73, 74, 75, 76, 77, 78, 79, 80, 119, 120, 121, 122, 123, 124, 125, 126, 127, 128, 129, 130, 131] (by decide +kernel) (by decide +kernel)
set_option maxRecDepth 20000 in
theorem gX8_mixPhase_X8_canStarve : GoodIn wsX8_mixPhase (wsV RX8 182 RX8 yX8_canStarve wsX8_canStarve) := goodIn_app (goodIn_of _ (by decide +kernel)) ggX8_mixPhase_X8_canStarve
set_option maxRecDepth 20000 in
theorem ggX8_mixPhase_X8_longest : GoodIn wsX8_mixPhase wsX8_longest := goodIn_r _ [84, 85, 57, 58, 59, 4, 60, 14, 23, 24, 25, 26, 6, 7, 8, 9, 10, 11, 12, 13, 61, 62, 63, 64, 15, 16, 17, 18, 65, 66, 67, 68, 69, 70, 71, 72, 45, 46, 47, 48, 31, 32, 33, 34, 73, 74, 75, 76, 77, 78, 79, 80, 86, 87, 88, 89, 90, 91, 92, 93, 94, 95, 96, 97, 119, 120, 121, 122, 123, 124, 125, 126, 127, 128, 129, 130, 131] (by decide +kernel) (by decide +kernel)
set_option maxRecDepth 20000 in
theorem gX8_mixPhase_X8_longest : GoodIn wsX8_mixPhase (wsV RX8 200 RX8 yX8_longest wsX8_longest) := goodIn_app (goodIn_of _ (by decide +kernel)) ggX8_mixPhase_X8_longest
set_option maxRecDepth 20000 in
theorem ggX8_mixPhase_X8_shortest : GoodIn wsX8_mixPhase wsX8_shortest := goodIn_r _ [101, 85, 102, 103, 104, 4, 105, 14, 23, 24, 25, 26, 6, 7, 8, 9, 10, 11, 12, 13, 15, 16, 17, 18, 65, 66, 67, 68, 69, 70, 71, 72, 45, 46, 47, 48, 90, 91, 92, 93, 31, 32, 33, 34, 94, 95, 96, 97, 119, 120, 121, 122, 123, 124, 125, 126, 127, 128, 129, 130, 131] (by decide +kernel) (by decide +kernel)
set_option maxRecDepth 20000 in
theorem gX8_mixPhase_X8_shortest : GoodIn wsX8_mixPhase (wsV RX8 203 RX8 yX8_shortest wsX8_shortest) := goodIn_app (goodIn_of _ (by decide +kernel)) ggX8_mixPhase_X8_shortest
set_option maxRecDepth 20000 in
theorem ggX8_mixPhase_X8_remedyFor : GoodIn wsX8_mixPhase wsX8_remedyFor := goodIn_r _ [109, 14, 110, 111, 112, 4, 113, 27, 28, 29, 30, 15, 16, 17, 18, 10, 11, 12, 13, 31, 32, 33, 34, 57, 58, 59, 60, 23, 24, 25, 26, 6, 7, 8, 9, 61, 62, 63, 64, 65, 66, 67, 68, 69, 70, 71, 72, 45, 46, 47, 48, 73, 74, 75, 76, 77, 78, 79, 80, 114, 115, 116, 117, 118, 119, 120, 121, 122, 123, 124, 125, 126, 127, 128, 129, 130, 131] (by decide +kernel) (by decide +kernel)
set_option maxRecDepth 20000 in
theorem gX8_mixPhase_X8_remedyFor : GoodIn wsX8_mixPhase (wsV RX8 215 RX8 yX8_remedyFor wsX8_remedyFor) := goodIn_app (goodIn_of _ (by decide +kernel)) ggX8_mixPhase_X8_remedyFor
theorem dX8_mixPhase_0 : decode cX8_mixPhase 0 = .ok (.iconst 0, 1) := by decide +kernel
theorem dX8_mixPhase_1 : decode cX8_mixPhase 1 = .ok (.istore_n 2, 1) := by decide +kernel
theorem dX8_mixPhase_2 : decode cX8_mixPhase 2 = .ok (.iload_n 2, 1) := by decide +kernel
theorem dX8_mixPhase_3 : decode cX8_mixPhase 3 = .ok (.iconst 5, 1) := by decide +kernel
theorem dX8_mixPhase_4 : decode cX8_mixPhase 4 = .ok (.if_icmp .gt 20, 3) := by decide +kernel
theorem dX8_mixPhase_7 : decode cX8_mixPhase 7 = .ok (.aload_n 0, 1) := by decide +kernel
theorem dX8_mixPhase_8 : decode cX8_mixPhase 8 = .ok (.aload_n 0, 1) := by decide +kernel
theorem dX8_mixPhase_9 : decode cX8_mixPhase 9 = .ok (.iload_n 1, 1) := by decide +kernel
theorem dX8_mixPhase_10 : decode cX8_mixPhase 10 = .ok (.iload_n 2, 1) := by decide +kernel
theorem dX8_mixPhase_11 : decode cX8_mixPhase 11 = .ok (.invokevirtual 221, 3) := by decide +kernel
theorem dX8_mixPhase_14 : decode cX8_mixPhase 14 = .ok (.i2l, 1) := by decide +kernel
theorem dX8_mixPhase_15 : decode cX8_mixPhase 15 = .ok (.invokevirtual 260, 3) := by decide +kernel
theorem dX8_mixPhase_18 : decode cX8_mixPhase 18 = .ok (.iinc 2 1, 3) := by decide +kernel
theorem dX8_mixPhase_21 : decode cX8_mixPhase 21 = .ok (.goto (-19), 3) := by decide +kernel
theorem dX8_mixPhase_24 : decode cX8_mixPhase 24 = .ok (.iconst 0, 1) := by decide +kernel
theorem dX8_mixPhase_25 : decode cX8_mixPhase 25 = .ok (.istore_n 2, 1) := by decide +kernel
theorem dX8_mixPhase_26 : decode cX8_mixPhase 26 = .ok (.iload_n 2, 1) := by decide +kernel
theorem dX8_mixPhase_27 : decode cX8_mixPhase 27 = .ok (.aload_n 0, 1) := by decide +kernel
theorem dX8_mixPhase_28 : decode cX8_mixPhase 28 = .ok (.iload_n 1, 1) := by decide +kernel
theorem dX8_mixPhase_29 : decode cX8_mixPhase 29 = .ok (.invokevirtual 71, 3) := by decide +kernel
theorem dX8_mixPhase_32 : decode cX8_mixPhase 32 = .ok (.if_icmp .ge 34, 3) := by decide +kernel
theorem dX8_mixPhase_35 : decode cX8_mixPhase 35 = .ok (.iconst 0, 1) := by decide +kernel
theorem dX8_mixPhase_36 : decode cX8_mixPhase 36 = .ok (.istore_n 3, 1) := by decide +kernel
theorem dX8_mixPhase_37 : decode cX8_mixPhase 37 = .ok (.iload_n 3, 1) := by decide +kernel
theorem dX8_mixPhase_38 : decode cX8_mixPhase 38 = .ok (.iconst 2, 1) := by decide +kernel
theorem dX8_mixPhase_39 : decode cX8_mixPhase 39 = .ok (.if_icmp .gt 21, 3) := by decide +kernel
theorem dX8_mixPhase_42 : decode cX8_mixPhase 42 = .ok (.aload_n 0, 1) := by decide +kernel
theorem dX8_mixPhase_43 : decode cX8_mixPhase 43 = .ok (.aload_n 0, 1) := by decide +kernel
theorem dX8_mixPhase_44 : decode cX8_mixPhase 44 = .ok (.iload_n 1, 1) := by decide +kernel
theorem dX8_mixPhase_45 : decode cX8_mixPhase 45 = .ok (.iload_n 2, 1) := by decide +kernel
theorem dX8_mixPhase_46 : decode cX8_mixPhase 46 = .ok (.iload_n 3, 1) := by decide +kernel
theorem dX8_mixPhase_47 : decode cX8_mixPhase 47 = .ok (.invokevirtual 224, 3) := by decide +kernel
theorem dX8_mixPhase_50 : decode cX8_mixPhase 50 = .ok (.i2l, 1) := by decide +kernel
theorem dX8_mixPhase_51 : decode cX8_mixPhase 51 = .ok (.invokevirtual 260, 3) := by decide +kernel
theorem dX8_mixPhase_54 : decode cX8_mixPhase 54 = .ok (.iinc 3 1, 3) := by decide +kernel
theorem dX8_mixPhase_57 : decode cX8_mixPhase 57 = .ok (.goto (-20), 3) := by decide +kernel
theorem dX8_mixPhase_60 : decode cX8_mixPhase 60 = .ok (.iinc 2 1, 3) := by decide +kernel
theorem dX8_mixPhase_63 : decode cX8_mixPhase 63 = .ok (.goto (-37), 3) := by decide +kernel
theorem dX8_mixPhase_66 : decode cX8_mixPhase 66 = .ok (.iconst 0, 1) := by decide +kernel
theorem dX8_mixPhase_67 : decode cX8_mixPhase 67 = .ok (.istore_n 2, 1) := by decide +kernel
theorem dX8_mixPhase_68 : decode cX8_mixPhase 68 = .ok (.iload_n 2, 1) := by decide +kernel
theorem dX8_mixPhase_69 : decode cX8_mixPhase 69 = .ok (.bipush 6, 2) := by decide +kernel
theorem dX8_mixPhase_71 : decode cX8_mixPhase 71 = .ok (.if_icmp .ge 60, 3) := by decide +kernel
theorem dX8_mixPhase_74 : decode cX8_mixPhase 74 = .ok (.aload_n 0, 1) := by decide +kernel
theorem dX8_mixPhase_75 : decode cX8_mixPhase 75 = .ok (.aload_n 0, 1) := by decide +kernel
theorem dX8_mixPhase_76 : decode cX8_mixPhase 76 = .ok (.iload_n 1, 1) := by decide +kernel
theorem dX8_mixPhase_77 : decode cX8_mixPhase 77 = .ok (.iload_n 2, 1) := by decide +kernel
theorem dX8_mixPhase_78 : decode cX8_mixPhase 78 = .ok (.invokevirtual 182, 3) := by decide +kernel
theorem dX8_mixPhase_81 : decode cX8_mixPhase 81 = .ok (.ifCond .eq 7, 3) := by decide +kernel
theorem dX8_mixPhase_84 : decode cX8_mixPhase 84 = .ok (.lconst 1, 1) := by decide +kernel
theorem dX8_mixPhase_85 : decode cX8_mixPhase 85 = .ok (.goto 4, 3) := by decide +kernel
theorem dX8_mixPhase_88 : decode cX8_mixPhase 88 = .ok (.lconst 0, 1) := by decide +kernel
theorem dX8_mixPhase_89 : decode cX8_mixPhase 89 = .ok (.invokevirtual 260, 3) := by decide +kernel
theorem dX8_mixPhase_92 : decode cX8_mixPhase 92 = .ok (.aload_n 0, 1) := by decide +kernel
theorem dX8_mixPhase_93 : decode cX8_mixPhase 93 = .ok (.aload_n 0, 1) := by decide +kernel
theorem dX8_mixPhase_94 : decode cX8_mixPhase 94 = .ok (.iload_n 2, 1) := by decide +kernel
theorem dX8_mixPhase_95 : decode cX8_mixPhase 95 = .ok (.iload_n 1, 1) := by decide +kernel
theorem dX8_mixPhase_96 : decode cX8_mixPhase 96 = .ok (.invokevirtual 200, 3) := by decide +kernel
theorem dX8_mixPhase_99 : decode cX8_mixPhase 99 = .ok (.i2l, 1) := by decide +kernel
theorem dX8_mixPhase_100 : decode cX8_mixPhase 100 = .ok (.invokevirtual 260, 3) := by decide +kernel
theorem dX8_mixPhase_103 : decode cX8_mixPhase 103 = .ok (.aload_n 0, 1) := by decide +kernel
theorem dX8_mixPhase_104 : decode cX8_mixPhase 104 = .ok (.aload_n 0, 1) := by decide +kernel
theorem dX8_mixPhase_105 : decode cX8_mixPhase 105 = .ok (.iload_n 2, 1) := by decide +kernel
theorem dX8_mixPhase_106 : decode cX8_mixPhase 106 = .ok (.iload_n 1, 1) := by decide +kernel
theorem dX8_mixPhase_107 : decode cX8_mixPhase 107 = .ok (.invokevirtual 203, 3) := by decide +kernel
theorem dX8_mixPhase_110 : decode cX8_mixPhase 110 = .ok (.i2l, 1) := by decide +kernel
theorem dX8_mixPhase_111 : decode cX8_mixPhase 111 = .ok (.invokevirtual 260, 3) := by decide +kernel
theorem dX8_mixPhase_114 : decode cX8_mixPhase 114 = .ok (.aload_n 0, 1) := by decide +kernel
theorem dX8_mixPhase_115 : decode cX8_mixPhase 115 = .ok (.aload_n 0, 1) := by decide +kernel
theorem dX8_mixPhase_116 : decode cX8_mixPhase 116 = .ok (.iload_n 2, 1) := by decide +kernel
theorem dX8_mixPhase_117 : decode cX8_mixPhase 117 = .ok (.iload_n 1, 1) := by decide +kernel
theorem dX8_mixPhase_118 : decode cX8_mixPhase 118 = .ok (.invokevirtual 215, 3) := by decide +kernel
theorem dX8_mixPhase_121 : decode cX8_mixPhase 121 = .ok (.i2l, 1) := by decide +kernel
theorem dX8_mixPhase_122 : decode cX8_mixPhase 122 = .ok (.invokevirtual 260, 3) := by decide +kernel
theorem dX8_mixPhase_125 : decode cX8_mixPhase 125 = .ok (.iinc 2 1, 3) := by decide +kernel
theorem dX8_mixPhase_128 : decode cX8_mixPhase 128 = .ok (.goto (-60), 3) := by decide +kernel
theorem dX8_mixPhase_131 : decode cX8_mixPhase 131 = .ok (.return_, 1) := by decide +kernel
set_option maxRecDepth 20000 in
theorem ggX8_digest_X8_counted : GoodIn wsX8_digest wsX8_counted := goodIn_r _ [11, 4, 12, 13, 14, 15, 10, 16, 17, 18, 19, 20, 21, 22, 23, 24, 25, 26, 27, 28, 29, 30, 31, 32, 33, 34, 35, 36, 37, 38, 39, 40, 41, 42, 43, 44, 45, 46, 47, 48, 49, 50, 51, 52, 53, 54, 55, 56, 57, 58, 59, 60, 61, 62, 63, 64, 65, 66, 67, 68, 69, 70, 71, 72, 73, 74, 75, 76, 77, 78, 79, 80, 81, 82, 83, 84, 85, 86, 87, 88, 89, 90, 91, 92, 93, 94, 95, 182, 183, 184, 185, 186, 187, 188, 189, 190, 191, 192, 193, 194] (by decide +kernel) (by decide +kernel)
set_option maxRecDepth 20000 in
theorem gX8_digest_X8_counted : GoodIn wsX8_digest (wsV RX8 239 RX8 yX8_counted wsX8_counted) := goodIn_app (goodIn_of _ (by decide +kernel)) ggX8_digest_X8_counted
set_option maxRecDepth 20000 in
theorem ggX8_digest_X8_mix : GoodIn wsX8_digest wsX8_mix := goodIn_r _ [99, 100, 3, 182, 183, 184, 185, 186, 187, 188, 189, 190, 191, 192, 193, 194] (by decide +kernel) (by decide +kernel)
set_option maxRecDepth 20000 in
theorem gX8_digest_X8_mix : GoodIn wsX8_digest (wsV RX8 260 RX8 yX8_mix wsX8_mix) := goodIn_app (goodIn_of _ (by decide +kernel)) ggX8_digest_X8_mix
set_option maxRecDepth 20000 in
theorem ggX8_digest_X8_toldDirection : GoodIn wsX8_digest wsX8_toldDirection := goodIn_r _ [104, 4, 17, 18, 19, 10, 20, 13, 14, 15, 16, 21, 22, 23, 24, 25, 26, 27, 28, 105, 106, 107, 108, 41, 42, 43, 44, 182, 183, 184, 185, 186, 187, 188, 189, 190, 191, 192, 193, 194] (by decide +kernel) (by decide +kernel)
set_option maxRecDepth 20000 in
theorem gX8_digest_X8_toldDirection : GoodIn wsX8_digest (wsV RX8 230 RX8 yX8_toldDirection wsX8_toldDirection) := goodIn_app (goodIn_of _ (by decide +kernel)) ggX8_digest_X8_toldDirection
set_option maxRecDepth 20000 in
theorem ggX8_digest_X8_roundsOf : GoodIn wsX8_digest wsX8_roundsOf := goodIn_r _ [112, 4, 45, 46, 47, 10, 48, 49, 50, 51, 52, 25, 26, 27, 28, 53, 54, 55, 56, 88, 89, 90, 91, 41, 42, 43, 44, 21, 22, 23, 24, 92, 93, 94, 95, 80, 81, 82, 83, 84, 85, 86, 87, 72, 73, 74, 75, 76, 77, 78, 79, 182, 183, 184, 185, 186, 187, 188, 189, 190, 191, 192, 193, 194] (by decide +kernel) (by decide +kernel)
set_option maxRecDepth 20000 in
theorem gX8_digest_X8_roundsOf : GoodIn wsX8_digest (wsV RX8 197 RX8 yX8_roundsOf wsX8_roundsOf) := goodIn_app (goodIn_of _ (by decide +kernel)) ggX8_digest_X8_roundsOf
set_option maxRecDepth 20000 in
theorem ggX8_digest_X8_mixPhase : GoodIn wsX8_digest wsX8_mixPhase := goodIn_r _ [116, 117, 118, 119, 10, 120, 21, 22, 23, 24, 25, 26, 27, 28, 4, 49, 50, 51, 52, 37, 38, 39, 40, 41, 42, 43, 44, 45, 46, 47, 48, 53, 54, 55, 56, 96, 97, 98, 99, 100, 3, 121, 122, 123, 124, 84, 85, 86, 87, 125, 126, 127, 128, 29, 30, 31, 32, 68, 69, 70, 71, 72, 73, 74, 75, 76, 77, 78, 79, 80, 81, 82, 83, 88, 89, 90, 91, 92, 93, 94, 95, 129, 130, 131, 132, 133, 134, 135, 136, 137, 138, 139, 140, 141, 142, 143, 144, 145, 146, 147, 148, 149, 150, 151, 152, 153, 154, 155, 156, 157, 64, 65, 66, 67, 158, 159, 160, 161, 162, 182, 183, 184, 185, 186, 187, 188, 189, 190, 191, 192, 193, 194] (by decide +kernel) (by decide +kernel)
set_option maxRecDepth 20000 in
theorem gX8_digest_X8_mixPhase : GoodIn wsX8_digest (wsV RX8 266 RX8 yX8_mixPhase wsX8_mixPhase) := goodIn_app (goodIn_of _ (by decide +kernel)) ggX8_digest_X8_mixPhase
set_option maxRecDepth 20000 in
theorem ggX8_digest_X8_slowestOne : GoodIn wsX8_digest wsX8_slowestOne := goodIn_r _ [166, 4, 45, 46, 47, 10, 48, 49, 50, 51, 52, 25, 26, 27, 28, 53, 54, 55, 56, 167, 168, 169, 170, 21, 22, 23, 24, 64, 65, 66, 67, 68, 69, 70, 71, 41, 42, 43, 44, 72, 73, 74, 75, 76, 77, 78, 79, 80, 81, 82, 83, 84, 85, 86, 87, 88, 89, 90, 91, 92, 93, 94, 95, 129, 130, 131, 132, 133, 134, 135, 136, 137, 138, 139, 140, 141, 142, 143, 144, 145, 182, 183, 184, 185, 186, 187, 188, 189, 190, 191, 192, 193, 194] (by decide +kernel) (by decide +kernel)
set_option maxRecDepth 20000 in
theorem gX8_digest_X8_slowestOne : GoodIn wsX8_digest (wsV RX8 209 RX8 yX8_slowestOne wsX8_slowestOne) := goodIn_app (goodIn_of _ (by decide +kernel)) ggX8_digest_X8_slowestOne
set_option maxRecDepth 20000 in
theorem ggX8_digest_X8_share : GoodIn wsX8_digest wsX8_share := goodIn_r _ [174, 4, 33, 34, 35, 10, 36, 37, 38, 39, 40, 41, 42, 43, 44, 21, 22, 23, 24, 25, 26, 27, 28, 182, 183, 184, 185, 186, 187, 188, 189, 190, 191, 192, 193, 194] (by decide +kernel) (by decide +kernel)
set_option maxRecDepth 20000 in
theorem gX8_digest_X8_share : GoodIn wsX8_digest (wsV RX8 242 RX8 yX8_share wsX8_share) := goodIn_app (goodIn_of _ (by decide +kernel)) ggX8_digest_X8_share
set_option maxRecDepth 20000 in
theorem ggX8_digest_X8_bitsOf : GoodIn wsX8_digest wsX8_bitsOf := goodIn_r _ [177, 178, 179, 180, 181] (by decide +kernel) (by decide +kernel)
set_option maxRecDepth 20000 in
theorem gX8_digest_X8_bitsOf : GoodIn wsX8_digest (va_wsS RX8 269 yX8_bitsOf wsX8_bitsOf) := goodIn_app (goodIn_of _ (by decide +kernel)) ggX8_digest_X8_bitsOf
theorem dX8_digest_0 : decode cX8_digest 0 = .ok (.aload_n 0, 1) := by decide +kernel
theorem dX8_digest_1 : decode cX8_digest 1 = .ok (.iconst 0, 1) := by decide +kernel
theorem dX8_digest_2 : decode cX8_digest 2 = .ok (.putfield 28, 3) := by decide +kernel
theorem dX8_digest_5 : decode cX8_digest 5 = .ok (.aload_n 0, 1) := by decide +kernel
theorem dX8_digest_6 : decode cX8_digest 6 = .ok (.ldc2_w 264, 3) := by decide +kernel
theorem dX8_digest_9 : decode cX8_digest 9 = .ok (.putfield 256, 3) := by decide +kernel
theorem dX8_digest_12 : decode cX8_digest 12 = .ok (.iconst 0, 1) := by decide +kernel
theorem dX8_digest_13 : decode cX8_digest 13 = .ok (.istore_n 1, 1) := by decide +kernel
theorem dX8_digest_14 : decode cX8_digest 14 = .ok (.iload_n 1, 1) := by decide +kernel
theorem dX8_digest_15 : decode cX8_digest 15 = .ok (.bipush 11, 2) := by decide +kernel
theorem dX8_digest_17 : decode cX8_digest 17 = .ok (.if_icmp .gt 19, 3) := by decide +kernel
theorem dX8_digest_20 : decode cX8_digest 20 = .ok (.aload_n 0, 1) := by decide +kernel
theorem dX8_digest_21 : decode cX8_digest 21 = .ok (.aload_n 0, 1) := by decide +kernel
theorem dX8_digest_22 : decode cX8_digest 22 = .ok (.iload_n 1, 1) := by decide +kernel
theorem dX8_digest_23 : decode cX8_digest 23 = .ok (.invokevirtual 239, 3) := by decide +kernel
theorem dX8_digest_26 : decode cX8_digest 26 = .ok (.i2l, 1) := by decide +kernel
theorem dX8_digest_27 : decode cX8_digest 27 = .ok (.invokevirtual 260, 3) := by decide +kernel
theorem dX8_digest_30 : decode cX8_digest 30 = .ok (.iinc 1 1, 3) := by decide +kernel
theorem dX8_digest_33 : decode cX8_digest 33 = .ok (.goto (-19), 3) := by decide +kernel
theorem dX8_digest_36 : decode cX8_digest 36 = .ok (.aload_n 0, 1) := by decide +kernel
theorem dX8_digest_37 : decode cX8_digest 37 = .ok (.aload_n 0, 1) := by decide +kernel
theorem dX8_digest_38 : decode cX8_digest 38 = .ok (.getfield 7, 3) := by decide +kernel
theorem dX8_digest_41 : decode cX8_digest 41 = .ok (.iconst 1, 1) := by decide +kernel
theorem dX8_digest_42 : decode cX8_digest 42 = .ok (.iaload, 1) := by decide +kernel
theorem dX8_digest_43 : decode cX8_digest 43 = .ok (.i2l, 1) := by decide +kernel
theorem dX8_digest_44 : decode cX8_digest 44 = .ok (.invokevirtual 260, 3) := by decide +kernel
theorem dX8_digest_47 : decode cX8_digest 47 = .ok (.iconst 0, 1) := by decide +kernel
theorem dX8_digest_48 : decode cX8_digest 48 = .ok (.istore_n 1, 1) := by decide +kernel
theorem dX8_digest_49 : decode cX8_digest 49 = .ok (.iload_n 1, 1) := by decide +kernel
theorem dX8_digest_50 : decode cX8_digest 50 = .ok (.bipush 6, 2) := by decide +kernel
theorem dX8_digest_52 : decode cX8_digest 52 = .ok (.if_icmp .ge 43, 3) := by decide +kernel
theorem dX8_digest_55 : decode cX8_digest 55 = .ok (.iconst 0, 1) := by decide +kernel
theorem dX8_digest_56 : decode cX8_digest 56 = .ok (.istore_n 2, 1) := by decide +kernel
theorem dX8_digest_57 : decode cX8_digest 57 = .ok (.iload_n 2, 1) := by decide +kernel
theorem dX8_digest_58 : decode cX8_digest 58 = .ok (.iconst 5, 1) := by decide +kernel
theorem dX8_digest_59 : decode cX8_digest 59 = .ok (.if_icmp .gt 20, 3) := by decide +kernel
theorem dX8_digest_62 : decode cX8_digest 62 = .ok (.aload_n 0, 1) := by decide +kernel
theorem dX8_digest_63 : decode cX8_digest 63 = .ok (.aload_n 0, 1) := by decide +kernel
theorem dX8_digest_64 : decode cX8_digest 64 = .ok (.iload_n 1, 1) := by decide +kernel
theorem dX8_digest_65 : decode cX8_digest 65 = .ok (.iload_n 2, 1) := by decide +kernel
theorem dX8_digest_66 : decode cX8_digest 66 = .ok (.invokevirtual 230, 3) := by decide +kernel
theorem dX8_digest_69 : decode cX8_digest 69 = .ok (.i2l, 1) := by decide +kernel
theorem dX8_digest_70 : decode cX8_digest 70 = .ok (.invokevirtual 260, 3) := by decide +kernel
theorem dX8_digest_73 : decode cX8_digest 73 = .ok (.iinc 2 1, 3) := by decide +kernel
theorem dX8_digest_76 : decode cX8_digest 76 = .ok (.goto (-19), 3) := by decide +kernel
theorem dX8_digest_79 : decode cX8_digest 79 = .ok (.aload_n 0, 1) := by decide +kernel
theorem dX8_digest_80 : decode cX8_digest 80 = .ok (.aload_n 0, 1) := by decide +kernel
theorem dX8_digest_81 : decode cX8_digest 81 = .ok (.iload_n 1, 1) := by decide +kernel
theorem dX8_digest_82 : decode cX8_digest 82 = .ok (.invokevirtual 197, 3) := by decide +kernel
theorem dX8_digest_85 : decode cX8_digest 85 = .ok (.i2l, 1) := by decide +kernel
theorem dX8_digest_86 : decode cX8_digest 86 = .ok (.invokevirtual 260, 3) := by decide +kernel
theorem dX8_digest_89 : decode cX8_digest 89 = .ok (.iinc 1 1, 3) := by decide +kernel
theorem dX8_digest_92 : decode cX8_digest 92 = .ok (.goto (-43), 3) := by decide +kernel
theorem dX8_digest_95 : decode cX8_digest 95 = .ok (.iconst 0, 1) := by decide +kernel
theorem dX8_digest_96 : decode cX8_digest 96 = .ok (.istore_n 1, 1) := by decide +kernel
theorem dX8_digest_97 : decode cX8_digest 97 = .ok (.iload_n 1, 1) := by decide +kernel
theorem dX8_digest_98 : decode cX8_digest 98 = .ok (.aload_n 0, 1) := by decide +kernel
theorem dX8_digest_99 : decode cX8_digest 99 = .ok (.getfield 7, 3) := by decide +kernel
theorem dX8_digest_102 : decode cX8_digest 102 = .ok (.iconst 0, 1) := by decide +kernel
theorem dX8_digest_103 : decode cX8_digest 103 = .ok (.iaload, 1) := by decide +kernel
theorem dX8_digest_104 : decode cX8_digest 104 = .ok (.if_icmp .ge 14, 3) := by decide +kernel
theorem dX8_digest_107 : decode cX8_digest 107 = .ok (.aload_n 0, 1) := by decide +kernel
theorem dX8_digest_108 : decode cX8_digest 108 = .ok (.iload_n 1, 1) := by decide +kernel
theorem dX8_digest_109 : decode cX8_digest 109 = .ok (.invokevirtual 266, 3) := by decide +kernel
theorem dX8_digest_112 : decode cX8_digest 112 = .ok (.iinc 1 1, 3) := by decide +kernel
theorem dX8_digest_115 : decode cX8_digest 115 = .ok (.goto (-18), 3) := by decide +kernel
theorem dX8_digest_118 : decode cX8_digest 118 = .ok (.aload_n 0, 1) := by decide +kernel
theorem dX8_digest_119 : decode cX8_digest 119 = .ok (.aload_n 0, 1) := by decide +kernel
theorem dX8_digest_120 : decode cX8_digest 120 = .ok (.invokevirtual 209, 3) := by decide +kernel
theorem dX8_digest_123 : decode cX8_digest 123 = .ok (.i2l, 1) := by decide +kernel
theorem dX8_digest_124 : decode cX8_digest 124 = .ok (.invokevirtual 260, 3) := by decide +kernel
theorem dX8_digest_127 : decode cX8_digest 127 = .ok (.aload_n 0, 1) := by decide +kernel
theorem dX8_digest_128 : decode cX8_digest 128 = .ok (.aload_n 0, 1) := by decide +kernel
theorem dX8_digest_129 : decode cX8_digest 129 = .ok (.invokevirtual 242, 3) := by decide +kernel
theorem dX8_digest_132 : decode cX8_digest 132 = .ok (.invokestatic 269, 3) := by decide +kernel
theorem dX8_digest_135 : decode cX8_digest 135 = .ok (.invokevirtual 260, 3) := by decide +kernel
theorem dX8_digest_138 : decode cX8_digest 138 = .ok (.aload_n 0, 1) := by decide +kernel
theorem dX8_digest_139 : decode cX8_digest 139 = .ok (.aload_n 0, 1) := by decide +kernel
theorem dX8_digest_140 : decode cX8_digest 140 = .ok (.getfield 124, 3) := by decide +kernel
theorem dX8_digest_143 : decode cX8_digest 143 = .ok (.i2l, 1) := by decide +kernel
theorem dX8_digest_144 : decode cX8_digest 144 = .ok (.invokevirtual 260, 3) := by decide +kernel
theorem dX8_digest_147 : decode cX8_digest 147 = .ok (.iconst 0, 1) := by decide +kernel
theorem dX8_digest_148 : decode cX8_digest 148 = .ok (.istore_n 1, 1) := by decide +kernel
theorem dX8_digest_149 : decode cX8_digest 149 = .ok (.iload_n 1, 1) := by decide +kernel
theorem dX8_digest_150 : decode cX8_digest 150 = .ok (.aload_n 0, 1) := by decide +kernel
theorem dX8_digest_151 : decode cX8_digest 151 = .ok (.getfield 124, 3) := by decide +kernel
theorem dX8_digest_154 : decode cX8_digest 154 = .ok (.if_icmp .ge 20, 3) := by decide +kernel
theorem dX8_digest_157 : decode cX8_digest 157 = .ok (.aload_n 0, 1) := by decide +kernel
theorem dX8_digest_158 : decode cX8_digest 158 = .ok (.aload_n 0, 1) := by decide +kernel
theorem dX8_digest_159 : decode cX8_digest 159 = .ok (.getfield 16, 3) := by decide +kernel
theorem dX8_digest_162 : decode cX8_digest 162 = .ok (.iload_n 1, 1) := by decide +kernel
theorem dX8_digest_163 : decode cX8_digest 163 = .ok (.iaload, 1) := by decide +kernel
theorem dX8_digest_164 : decode cX8_digest 164 = .ok (.i2l, 1) := by decide +kernel
theorem dX8_digest_165 : decode cX8_digest 165 = .ok (.invokevirtual 260, 3) := by decide +kernel
theorem dX8_digest_168 : decode cX8_digest 168 = .ok (.iinc 1 1, 3) := by decide +kernel
theorem dX8_digest_171 : decode cX8_digest 171 = .ok (.goto (-22), 3) := by decide +kernel
theorem dX8_digest_174 : decode cX8_digest 174 = .ok (.aload_n 0, 1) := by decide +kernel
theorem dX8_digest_175 : decode cX8_digest 175 = .ok (.getfield 256, 3) := by decide +kernel
theorem dX8_digest_178 : decode cX8_digest 178 = .ok (.lreturn, 1) := by decide +kernel
theorem dJ6_bitCount_0f7a4_0 : decode cJ6_bitCount_0f7a4 0 = .ok (.iload_n 0, 1) := by decide +kernel
theorem dJ6_bitCount_0f7a4_1 : decode cJ6_bitCount_0f7a4 1 = .ok (.iload_n 0, 1) := by decide +kernel
theorem dJ6_bitCount_0f7a4_2 : decode cJ6_bitCount_0f7a4 2 = .ok (.iconst 1, 1) := by decide +kernel
theorem dJ6_bitCount_0f7a4_3 : decode cJ6_bitCount_0f7a4 3 = .ok (.iushr, 1) := by decide +kernel
theorem dJ6_bitCount_0f7a4_4 : decode cJ6_bitCount_0f7a4 4 = .ok (.ldc_w 265, 3) := by decide +kernel
theorem dJ6_bitCount_0f7a4_7 : decode cJ6_bitCount_0f7a4 7 = .ok (.iand, 1) := by decide +kernel
theorem dJ6_bitCount_0f7a4_8 : decode cJ6_bitCount_0f7a4 8 = .ok (.isub, 1) := by decide +kernel
theorem dJ6_bitCount_0f7a4_9 : decode cJ6_bitCount_0f7a4 9 = .ok (.istore_n 0, 1) := by decide +kernel
theorem dJ6_bitCount_0f7a4_10 : decode cJ6_bitCount_0f7a4 10 = .ok (.iload_n 0, 1) := by decide +kernel
theorem dJ6_bitCount_0f7a4_11 : decode cJ6_bitCount_0f7a4 11 = .ok (.ldc_w 266, 3) := by decide +kernel
theorem dJ6_bitCount_0f7a4_14 : decode cJ6_bitCount_0f7a4 14 = .ok (.iand, 1) := by decide +kernel
theorem dJ6_bitCount_0f7a4_15 : decode cJ6_bitCount_0f7a4 15 = .ok (.iload_n 0, 1) := by decide +kernel
theorem dJ6_bitCount_0f7a4_16 : decode cJ6_bitCount_0f7a4 16 = .ok (.iconst 2, 1) := by decide +kernel
theorem dJ6_bitCount_0f7a4_17 : decode cJ6_bitCount_0f7a4 17 = .ok (.iushr, 1) := by decide +kernel
theorem dJ6_bitCount_0f7a4_18 : decode cJ6_bitCount_0f7a4 18 = .ok (.ldc_w 266, 3) := by decide +kernel
theorem dJ6_bitCount_0f7a4_21 : decode cJ6_bitCount_0f7a4 21 = .ok (.iand, 1) := by decide +kernel
theorem dJ6_bitCount_0f7a4_22 : decode cJ6_bitCount_0f7a4 22 = .ok (.iadd, 1) := by decide +kernel
theorem dJ6_bitCount_0f7a4_23 : decode cJ6_bitCount_0f7a4 23 = .ok (.istore_n 0, 1) := by decide +kernel
theorem dJ6_bitCount_0f7a4_24 : decode cJ6_bitCount_0f7a4 24 = .ok (.iload_n 0, 1) := by decide +kernel
theorem dJ6_bitCount_0f7a4_25 : decode cJ6_bitCount_0f7a4 25 = .ok (.iload_n 0, 1) := by decide +kernel
theorem dJ6_bitCount_0f7a4_26 : decode cJ6_bitCount_0f7a4 26 = .ok (.iconst 4, 1) := by decide +kernel
theorem dJ6_bitCount_0f7a4_27 : decode cJ6_bitCount_0f7a4 27 = .ok (.iushr, 1) := by decide +kernel
theorem dJ6_bitCount_0f7a4_28 : decode cJ6_bitCount_0f7a4 28 = .ok (.iadd, 1) := by decide +kernel
theorem dJ6_bitCount_0f7a4_29 : decode cJ6_bitCount_0f7a4 29 = .ok (.ldc_w 267, 3) := by decide +kernel
theorem dJ6_bitCount_0f7a4_32 : decode cJ6_bitCount_0f7a4 32 = .ok (.iand, 1) := by decide +kernel
theorem dJ6_bitCount_0f7a4_33 : decode cJ6_bitCount_0f7a4 33 = .ok (.istore_n 0, 1) := by decide +kernel
theorem dJ6_bitCount_0f7a4_34 : decode cJ6_bitCount_0f7a4 34 = .ok (.iload_n 0, 1) := by decide +kernel
theorem dJ6_bitCount_0f7a4_35 : decode cJ6_bitCount_0f7a4 35 = .ok (.iload_n 0, 1) := by decide +kernel
theorem dJ6_bitCount_0f7a4_36 : decode cJ6_bitCount_0f7a4 36 = .ok (.bipush 8, 2) := by decide +kernel
theorem dJ6_bitCount_0f7a4_38 : decode cJ6_bitCount_0f7a4 38 = .ok (.iushr, 1) := by decide +kernel
theorem dJ6_bitCount_0f7a4_39 : decode cJ6_bitCount_0f7a4 39 = .ok (.iadd, 1) := by decide +kernel
theorem dJ6_bitCount_0f7a4_40 : decode cJ6_bitCount_0f7a4 40 = .ok (.istore_n 0, 1) := by decide +kernel
theorem dJ6_bitCount_0f7a4_41 : decode cJ6_bitCount_0f7a4 41 = .ok (.iload_n 0, 1) := by decide +kernel
theorem dJ6_bitCount_0f7a4_42 : decode cJ6_bitCount_0f7a4 42 = .ok (.iload_n 0, 1) := by decide +kernel
theorem dJ6_bitCount_0f7a4_43 : decode cJ6_bitCount_0f7a4 43 = .ok (.bipush 16, 2) := by decide +kernel
theorem dJ6_bitCount_0f7a4_45 : decode cJ6_bitCount_0f7a4 45 = .ok (.iushr, 1) := by decide +kernel
theorem dJ6_bitCount_0f7a4_46 : decode cJ6_bitCount_0f7a4 46 = .ok (.iadd, 1) := by decide +kernel
theorem dJ6_bitCount_0f7a4_47 : decode cJ6_bitCount_0f7a4 47 = .ok (.istore_n 0, 1) := by decide +kernel
theorem dJ6_bitCount_0f7a4_48 : decode cJ6_bitCount_0f7a4 48 = .ok (.iload_n 0, 1) := by decide +kernel
theorem dJ6_bitCount_0f7a4_49 : decode cJ6_bitCount_0f7a4 49 = .ok (.bipush 63, 2) := by decide +kernel
theorem dJ6_bitCount_0f7a4_51 : decode cJ6_bitCount_0f7a4 51 = .ok (.iand, 1) := by decide +kernel
theorem dJ6_bitCount_0f7a4_52 : decode cJ6_bitCount_0f7a4 52 = .ok (.ireturn, 1) := by decide +kernel
theorem dJ9_max_7cf53_0 : decode cJ9_max_7cf53 0 = .ok (.iload_n 0, 1) := by decide +kernel
theorem dJ9_max_7cf53_1 : decode cJ9_max_7cf53 1 = .ok (.iload_n 1, 1) := by decide +kernel
theorem dJ9_max_7cf53_2 : decode cJ9_max_7cf53 2 = .ok (.if_icmp .lt 7, 3) := by decide +kernel
theorem dJ9_max_7cf53_5 : decode cJ9_max_7cf53 5 = .ok (.iload_n 0, 1) := by decide +kernel
theorem dJ9_max_7cf53_6 : decode cJ9_max_7cf53 6 = .ok (.goto 4, 3) := by decide +kernel
theorem dJ9_max_7cf53_9 : decode cJ9_max_7cf53 9 = .ok (.iload_n 1, 1) := by decide +kernel
theorem dJ9_max_7cf53_10 : decode cJ9_max_7cf53 10 = .ok (.ireturn, 1) := by decide +kernel
theorem dJ9_min_7cf53_0 : decode cJ9_min_7cf53 0 = .ok (.iload_n 0, 1) := by decide +kernel
theorem dJ9_min_7cf53_1 : decode cJ9_min_7cf53 1 = .ok (.iload_n 1, 1) := by decide +kernel
theorem dJ9_min_7cf53_2 : decode cJ9_min_7cf53 2 = .ok (.if_icmp .gt 7, 3) := by decide +kernel
theorem dJ9_min_7cf53_5 : decode cJ9_min_7cf53 5 = .ok (.iload_n 0, 1) := by decide +kernel
theorem dJ9_min_7cf53_6 : decode cJ9_min_7cf53 6 = .ok (.goto 4, 3) := by decide +kernel
theorem dJ9_min_7cf53_9 : decode cJ9_min_7cf53 9 = .ok (.iload_n 1, 1) := by decide +kernel
theorem dJ9_min_7cf53_10 : decode cJ9_min_7cf53 10 = .ok (.ireturn, 1) := by decide +kernel
