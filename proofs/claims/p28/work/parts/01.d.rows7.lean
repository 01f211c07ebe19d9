set_option maxRecDepth 20000 in
theorem ggX7_init_X1_init : GoodIn wsX7_init wsX1_init := goodIn_r _ [22, 23, 2, 3, 24, 25, 26, 27, 28, 29, 30, 31, 32, 33, 34, 35, 36, 37, 38, 39, 40, 41, 42, 43, 44, 45, 46, 47, 48, 49, 50, 51, 52, 53, 54, 55, 56, 57, 58, 59, 60, 61, 62, 129, 130, 131, 132, 133, 134, 135, 136, 103, 104, 105, 106, 107, 108, 109, 110, 111, 112, 137] (by decide +kernel) (by decide +kernel)
set_option maxRecDepth 20000 in
theorem gX7_init_X1_init : GoodIn wsX7_init (wsX1_init) := ggX7_init_X1_init
set_option maxRecDepth 20000 in
theorem ggX7_init_X0_init : GoodIn wsX7_init wsX0_init := goodIn_r _ [65, 66, 2, 3, 67, 68, 69, 70, 5, 6, 71, 21, 22, 23, 24, 25, 26, 27, 28, 29, 30, 31, 32, 33, 34, 35, 36, 37, 38, 39, 40, 41, 42, 43, 44, 45, 46, 47, 48, 49, 50, 51, 52, 53, 54, 55, 56, 57, 58, 59, 60, 61, 62, 117, 118, 119, 103, 104, 105, 106, 107, 108, 109, 110, 111, 112, 129, 130, 131, 132, 133, 134, 135, 136, 137] (by decide +kernel) (by decide +kernel)
set_option maxRecDepth 20000 in
theorem gX7_init_X0_init : GoodIn wsX7_init (wsX0_init) := ggX7_init_X0_init
set_option maxRecDepth 20000 in
theorem ggX7_init_X6_init : GoodIn wsX7_init wsX6_init := goodIn_r _ [73, 74, 2, 3, 75, 29, 30, 76, 77, 78, 79, 80, 81, 82, 53, 54, 55, 56, 57, 83, 84, 85, 86, 87, 88, 89, 90, 91, 137, 120, 121, 122, 138, 139, 140, 141, 142, 143] (by decide +kernel) (by decide +kernel)
set_option maxRecDepth 20000 in
theorem gX7_init_X6_init_n25 : GoodIn wsX7_init (wsX6_init) := ggX7_init_X6_init
set_option maxRecDepth 20000 in
theorem ggX7_init_X3_init : GoodIn wsX7_init wsX3_init := goodIn_r _ [93, 94, 2, 3, 95, 29, 30, 96, 97, 98, 99, 100, 101, 102, 53, 54, 55, 56, 57, 137, 123, 124, 125, 126, 127, 128] (by decide +kernel) (by decide +kernel)
set_option maxRecDepth 20000 in
theorem gX7_init_X3_init_n32 : GoodIn wsX7_init (wsX3_init) := ggX7_init_X3_init
theorem dX7_init_0 : decode cX7_init 0 = .ok (.aload_n 0, 1) := by decide +kernel
theorem dX7_init_1 : decode cX7_init 1 = .ok (.invokespecial 1, 3) := by decide +kernel
theorem dX7_init_4 : decode cX7_init 4 = .ok (.aload_n 0, 1) := by decide +kernel
theorem dX7_init_5 : decode cX7_init 5 = .ok (.new 7, 3) := by decide +kernel
theorem dX7_init_8 : decode cX7_init 8 = .ok (.dup, 1) := by decide +kernel
theorem dX7_init_9 : decode cX7_init 9 = .ok (.invokespecial 9, 3) := by decide +kernel
theorem dX7_init_12 : decode cX7_init 12 = .ok (.putfield 10, 3) := by decide +kernel
theorem dX7_init_15 : decode cX7_init 15 = .ok (.aload_n 0, 1) := by decide +kernel
theorem dX7_init_16 : decode cX7_init 16 = .ok (.new 16, 3) := by decide +kernel
theorem dX7_init_19 : decode cX7_init 19 = .ok (.dup, 1) := by decide +kernel
theorem dX7_init_20 : decode cX7_init 20 = .ok (.invokespecial 18, 3) := by decide +kernel
theorem dX7_init_23 : decode cX7_init 23 = .ok (.putfield 19, 3) := by decide +kernel
theorem dX7_init_26 : decode cX7_init 26 = .ok (.aload_n 0, 1) := by decide +kernel
theorem dX7_init_27 : decode cX7_init 27 = .ok (.new 23, 3) := by decide +kernel
theorem dX7_init_30 : decode cX7_init 30 = .ok (.dup, 1) := by decide +kernel
theorem dX7_init_31 : decode cX7_init 31 = .ok (.invokespecial 25, 3) := by decide +kernel
theorem dX7_init_34 : decode cX7_init 34 = .ok (.putfield 26, 3) := by decide +kernel
theorem dX7_init_37 : decode cX7_init 37 = .ok (.aload_n 0, 1) := by decide +kernel
theorem dX7_init_38 : decode cX7_init 38 = .ok (.new 30, 3) := by decide +kernel
theorem dX7_init_41 : decode cX7_init 41 = .ok (.dup, 1) := by decide +kernel
theorem dX7_init_42 : decode cX7_init 42 = .ok (.invokespecial 32, 3) := by decide +kernel
theorem dX7_init_45 : decode cX7_init 45 = .ok (.putfield 33, 3) := by decide +kernel
theorem dX7_init_48 : decode cX7_init 48 = .ok (.return_, 1) := by decide +kernel
set_option maxRecDepth 20000 in
theorem ggX7_clash_X7_checkDirection : GoodIn wsX7_clash wsX7_checkDirection := goodIn_ca (goodIn_r _ [10, 1, 2] (by decide +kernel) (by decide +kernel)) (goodIn_sub (fun _ h => List.mem_cons_of_mem _ (List.mem_append_right _ h)) (by decide +kernel))
set_option maxRecDepth 20000 in
theorem gX7_clash_X7_checkDirection : GoodIn wsX7_clash (va_wsS RX7 37 yX7_checkDirection wsX7_checkDirection) := goodIn_app (goodIn_of _ (by decide +kernel)) ggX7_clash_X7_checkDirection
set_option maxRecDepth 20000 in
theorem ggX7_clash_X0_keep : GoodIn wsX7_clash wsX0_keep := goodIn_r _ [15, 16, 17, 18, 19, 20, 14, 21, 22, 23, 24, 25, 26, 27, 28, 29, 30, 31, 32, 33, 34, 35, 36, 37, 38, 39, 40, 41, 42, 43, 44, 45, 46, 47, 48, 49, 50, 51, 52, 53, 54, 55, 56, 57, 58, 59, 60, 61, 97, 98, 99, 79, 80, 81, 82, 83, 84, 85, 86, 87, 88, 89, 90, 91, 92, 93, 94, 95, 96, 100] (by decide +kernel) (by decide +kernel)
set_option maxRecDepth 20000 in
theorem gX7_clash_X0_keep : GoodIn wsX7_clash (wsV RX7 48 RX0 yX0_keep wsX0_keep) := goodIn_app (goodIn_of _ (by decide +kernel)) ggX7_clash_X0_keep
set_option maxRecDepth 20000 in
theorem ggX7_clash_X5_at : GoodIn wsX7_clash wsX5_at := goodIn_r _ [60, 56, 100] (by decide +kernel) (by decide +kernel)
set_option maxRecDepth 20000 in
theorem gX7_clash_X5_at : GoodIn wsX7_clash (wsV RX7 62 RX5 yX5_at wsX5_at) := goodIn_app (goodIn_of _ (by decide +kernel)) ggX7_clash_X5_at
set_option maxRecDepth 20000 in
theorem ggX7_clash_X7_has : GoodIn wsX7_clash wsX7_has := goodIn_r _ [65] (by decide +kernel) (by decide +kernel)
set_option maxRecDepth 20000 in
theorem gX7_clash_X7_has : GoodIn wsX7_clash (va_wsS RX7 68 yX7_has wsX7_has) := goodIn_app (goodIn_of _ (by decide +kernel)) ggX7_clash_X7_has
set_option maxRecDepth 20000 in
theorem ggX7_clash_X2_putClash : GoodIn wsX7_clash wsX2_putClash := goodIn_r _ [69, 43, 70, 58, 59, 54, 60, 56, 71, 72, 73, 74, 89, 90, 91, 92, 93, 94, 95, 96, 100] (by decide +kernel) (by decide +kernel)
set_option maxRecDepth 20000 in
theorem gX7_clash_X2_putClash : GoodIn wsX7_clash (wsV RX7 72 RX2 yX2_putClash wsX2_putClash) := goodIn_app (goodIn_of _ (by decide +kernel)) ggX7_clash_X2_putClash
theorem dX7_clash_0 : decode cX7_clash 0 = .ok (.iload_n 1, 1) := by decide +kernel
theorem dX7_clash_1 : decode cX7_clash 1 = .ok (.invokestatic 37, 3) := by decide +kernel
theorem dX7_clash_4 : decode cX7_clash 4 = .ok (.iload_n 2, 1) := by decide +kernel
theorem dX7_clash_5 : decode cX7_clash 5 = .ok (.invokestatic 37, 3) := by decide +kernel
theorem dX7_clash_8 : decode cX7_clash 8 = .ok (.iload_n 1, 1) := by decide +kernel
theorem dX7_clash_9 : decode cX7_clash 9 = .ok (.iload_n 2, 1) := by decide +kernel
theorem dX7_clash_10 : decode cX7_clash 10 = .ok (.if_icmp .ne 13, 3) := by decide +kernel
theorem dX7_clash_13 : decode cX7_clash 13 = .ok (.new 41, 3) := by decide +kernel
theorem dX7_clash_16 : decode cX7_clash 16 = .ok (.dup, 1) := by decide +kernel
theorem dX7_clash_17 : decode cX7_clash 17 = .ok (.ldc 43, 2) := by decide +kernel
theorem dX7_clash_19 : decode cX7_clash 19 = .ok (.invokespecial 45, 3) := by decide +kernel
theorem dX7_clash_22 : decode cX7_clash 22 = .ok (.athrow, 1) := by decide +kernel
theorem dX7_clash_23 : decode cX7_clash 23 = .ok (.aload_n 0, 1) := by decide +kernel
theorem dX7_clash_24 : decode cX7_clash 24 = .ok (.getfield 19, 3) := by decide +kernel
theorem dX7_clash_27 : decode cX7_clash 27 = .ok (.aload_n 0, 1) := by decide +kernel
theorem dX7_clash_28 : decode cX7_clash 28 = .ok (.getfield 10, 3) := by decide +kernel
theorem dX7_clash_31 : decode cX7_clash 31 = .ok (.invokevirtual 48, 3) := by decide +kernel
theorem dX7_clash_34 : decode cX7_clash 34 = .ok (.aload_n 0, 1) := by decide +kernel
theorem dX7_clash_35 : decode cX7_clash 35 = .ok (.getfield 10, 3) := by decide +kernel
theorem dX7_clash_38 : decode cX7_clash 38 = .ok (.getfield 52, 3) := by decide +kernel
theorem dX7_clash_41 : decode cX7_clash 41 = .ok (.getfield 56, 3) := by decide +kernel
theorem dX7_clash_44 : decode cX7_clash 44 = .ok (.iload_n 1, 1) := by decide +kernel
theorem dX7_clash_45 : decode cX7_clash 45 = .ok (.invokevirtual 62, 3) := by decide +kernel
theorem dX7_clash_48 : decode cX7_clash 48 = .ok (.iload_n 2, 1) := by decide +kernel
theorem dX7_clash_49 : decode cX7_clash 49 = .ok (.invokestatic 68, 3) := by decide +kernel
theorem dX7_clash_52 : decode cX7_clash 52 = .ok (.ifCond .ne 7, 3) := by decide +kernel
theorem dX7_clash_55 : decode cX7_clash 55 = .ok (.iconst 1, 1) := by decide +kernel
theorem dX7_clash_56 : decode cX7_clash 56 = .ok (.goto 4, 3) := by decide +kernel
theorem dX7_clash_59 : decode cX7_clash 59 = .ok (.iconst 0, 1) := by decide +kernel
theorem dX7_clash_60 : decode cX7_clash 60 = .ok (.istore_n 3, 1) := by decide +kernel
theorem dX7_clash_61 : decode cX7_clash 61 = .ok (.aload_n 0, 1) := by decide +kernel
theorem dX7_clash_62 : decode cX7_clash 62 = .ok (.getfield 10, 3) := by decide +kernel
theorem dX7_clash_65 : decode cX7_clash 65 = .ok (.getfield 52, 3) := by decide +kernel
theorem dX7_clash_68 : decode cX7_clash 68 = .ok (.iload_n 1, 1) := by decide +kernel
theorem dX7_clash_69 : decode cX7_clash 69 = .ok (.iload_n 2, 1) := by decide +kernel
theorem dX7_clash_70 : decode cX7_clash 70 = .ok (.iload_n 3, 1) := by decide +kernel
theorem dX7_clash_71 : decode cX7_clash 71 = .ok (.invokevirtual 72, 3) := by decide +kernel
theorem dX7_clash_74 : decode cX7_clash 74 = .ok (.iload_n 3, 1) := by decide +kernel
theorem dX7_clash_75 : decode cX7_clash 75 = .ok (.ifCond .eq 7, 3) := by decide +kernel
theorem dX7_clash_78 : decode cX7_clash 78 = .ok (.iconst 1, 1) := by decide +kernel
theorem dX7_clash_79 : decode cX7_clash 79 = .ok (.goto 4, 3) := by decide +kernel
theorem dX7_clash_82 : decode cX7_clash 82 = .ok (.iconst 0, 1) := by decide +kernel
theorem dX7_clash_83 : decode cX7_clash 83 = .ok (.ireturn, 1) := by decide +kernel
set_option maxRecDepth 20000 in
theorem ggX7_addPhase_X7_checkMask : GoodIn wsX7_addPhase wsX7_checkMask := goodIn_ca (goodIn_r _ [9, 10, 11] (by decide +kernel) (by decide +kernel)) (goodIn_sub (fun _ h => List.mem_cons_of_mem _ (List.mem_append_right _ h)) (by decide +kernel))
set_option maxRecDepth 20000 in
theorem gX7_addPhase_X7_checkMask : GoodIn wsX7_addPhase (va_wsS RX7 76 yX7_checkMask wsX7_checkMask) := goodIn_app (goodIn_of _ (by decide +kernel)) ggX7_addPhase_X7_checkMask
set_option maxRecDepth 20000 in
theorem ggX7_addPhase_X7_checkHold : GoodIn wsX7_addPhase wsX7_checkHold := goodIn_ca (goodIn_r _ [14, 10, 11] (by decide +kernel) (by decide +kernel)) (goodIn_sub (fun _ h => List.mem_cons_of_mem _ (List.mem_append_right _ h)) (by decide +kernel))
set_option maxRecDepth 20000 in
theorem gX7_addPhase_X7_checkHold : GoodIn wsX7_addPhase (va_wsS RX7 79 yX7_checkHold wsX7_checkHold) := goodIn_app (goodIn_of _ (by decide +kernel)) ggX7_addPhase_X7_checkHold
set_option maxRecDepth 20000 in
theorem ggX7_addPhase_X2_isFull : GoodIn wsX7_addPhase wsX2_isFull := goodIn_r _ [19, 20, 92, 93, 94, 95, 96, 97, 98, 99] (by decide +kernel) (by decide +kernel)
set_option maxRecDepth 20000 in
theorem gX7_addPhase_X2_isFull : GoodIn wsX7_addPhase (wsV RX7 82 RX2 yX2_isFull wsX2_isFull) := goodIn_app (goodIn_of _ (by decide +kernel)) ggX7_addPhase_X2_isFull
set_option maxRecDepth 20000 in
theorem ggX7_addPhase_X0_keep : GoodIn wsX7_addPhase wsX0_keep := goodIn_r _ [25, 26, 27, 28, 29, 30, 24, 31, 32, 33, 34, 35, 36, 37, 38, 39, 40, 41, 42, 43, 44, 45, 46, 47, 48, 49, 50, 18, 51, 52, 53, 54, 55, 56, 57, 20, 58, 59, 60, 61, 62, 63, 64, 65, 66, 67, 68, 69, 100, 101, 102, 82, 83, 84, 85, 86, 87, 88, 89, 90, 91, 92, 93, 94, 95, 96, 97, 98, 99, 103] (by decide +kernel) (by decide +kernel)
set_option maxRecDepth 20000 in
theorem gX7_addPhase_X0_keep : GoodIn wsX7_addPhase (wsV RX7 48 RX0 yX0_keep wsX0_keep) := goodIn_app (goodIn_of _ (by decide +kernel)) ggX7_addPhase_X0_keep
set_option maxRecDepth 20000 in
theorem ggX7_addPhase_X2_appendPhase : GoodIn wsX7_addPhase wsX2_appendPhase := goodIn_r _ [73, 20, 53, 54, 55, 74, 75, 76, 62, 77, 64, 92, 93, 94, 95, 96, 97, 98, 99, 103] (by decide +kernel) (by decide +kernel)
set_option maxRecDepth 20000 in
theorem gX7_addPhase_X2_appendPhase : GoodIn wsX7_addPhase (wsV RX7 91 RX2 yX2_appendPhase wsX2_appendPhase) := goodIn_app (goodIn_of _ (by decide +kernel)) ggX7_addPhase_X2_appendPhase
theorem dX7_addPhase_0 : decode cX7_addPhase 0 = .ok (.iload_n 1, 1) := by decide +kernel
theorem dX7_addPhase_1 : decode cX7_addPhase 1 = .ok (.invokestatic 76, 3) := by decide +kernel
theorem dX7_addPhase_4 : decode cX7_addPhase 4 = .ok (.iload_n 2, 1) := by decide +kernel
theorem dX7_addPhase_5 : decode cX7_addPhase 5 = .ok (.invokestatic 79, 3) := by decide +kernel
theorem dX7_addPhase_8 : decode cX7_addPhase 8 = .ok (.aload_n 0, 1) := by decide +kernel
theorem dX7_addPhase_9 : decode cX7_addPhase 9 = .ok (.getfield 10, 3) := by decide +kernel
theorem dX7_addPhase_12 : decode cX7_addPhase 12 = .ok (.getfield 52, 3) := by decide +kernel
theorem dX7_addPhase_15 : decode cX7_addPhase 15 = .ok (.invokevirtual 82, 3) := by decide +kernel
theorem dX7_addPhase_18 : decode cX7_addPhase 18 = .ok (.ifCond .eq 13, 3) := by decide +kernel
theorem dX7_addPhase_21 : decode cX7_addPhase 21 = .ok (.new 86, 3) := by decide +kernel
theorem dX7_addPhase_24 : decode cX7_addPhase 24 = .ok (.dup, 1) := by decide +kernel
theorem dX7_addPhase_25 : decode cX7_addPhase 25 = .ok (.ldc 88, 2) := by decide +kernel
theorem dX7_addPhase_27 : decode cX7_addPhase 27 = .ok (.invokespecial 90, 3) := by decide +kernel
theorem dX7_addPhase_30 : decode cX7_addPhase 30 = .ok (.athrow, 1) := by decide +kernel
theorem dX7_addPhase_31 : decode cX7_addPhase 31 = .ok (.aload_n 0, 1) := by decide +kernel
theorem dX7_addPhase_32 : decode cX7_addPhase 32 = .ok (.getfield 19, 3) := by decide +kernel
theorem dX7_addPhase_35 : decode cX7_addPhase 35 = .ok (.aload_n 0, 1) := by decide +kernel
theorem dX7_addPhase_36 : decode cX7_addPhase 36 = .ok (.getfield 10, 3) := by decide +kernel
theorem dX7_addPhase_39 : decode cX7_addPhase 39 = .ok (.invokevirtual 48, 3) := by decide +kernel
theorem dX7_addPhase_42 : decode cX7_addPhase 42 = .ok (.aload_n 0, 1) := by decide +kernel
theorem dX7_addPhase_43 : decode cX7_addPhase 43 = .ok (.getfield 10, 3) := by decide +kernel
theorem dX7_addPhase_46 : decode cX7_addPhase 46 = .ok (.getfield 52, 3) := by decide +kernel
theorem dX7_addPhase_49 : decode cX7_addPhase 49 = .ok (.iload_n 1, 1) := by decide +kernel
theorem dX7_addPhase_50 : decode cX7_addPhase 50 = .ok (.iload_n 2, 1) := by decide +kernel
theorem dX7_addPhase_51 : decode cX7_addPhase 51 = .ok (.invokevirtual 91, 3) := by decide +kernel
theorem dX7_addPhase_54 : decode cX7_addPhase 54 = .ok (.ireturn, 1) := by decide +kernel
set_option maxRecDepth 20000 in
theorem ggX7_addRule_X7_checkPhase : GoodIn wsX7_addRule wsX7_checkPhase := goodIn_ca (goodIn_r _ [12, 13, 14, 5, 6, 15, 16, 17, 18, 19, 20, 86, 87, 88, 89, 90, 91, 92, 93, 94, 95, 96, 97, 98, 99, 100, 101, 102, 103, 104, 105, 106, 107] (by decide +kernel) (by decide +kernel)) (goodIn_sub (fun _ h => List.mem_cons_of_mem _ (List.mem_append_right _ h)) (by decide +kernel))
set_option maxRecDepth 20000 in
theorem gX7_addRule_X7_checkPhase : GoodIn wsX7_addRule (wsV RX7 95 RX7 yX7_checkPhase wsX7_checkPhase) := goodIn_app (goodIn_of _ (by decide +kernel)) ggX7_addRule_X7_checkPhase
set_option maxRecDepth 20000 in
theorem ggX7_addRule_X7_checkMask : GoodIn wsX7_addRule wsX7_checkMask := goodIn_ca (goodIn_r _ [23, 1, 2] (by decide +kernel) (by decide +kernel)) (goodIn_sub (fun _ h => List.mem_cons_of_mem _ (List.mem_append_left _ (List.mem_append_left _ (List.mem_append_right _ h)))) (by decide +kernel))
set_option maxRecDepth 20000 in
theorem gX7_addRule_X7_checkMask : GoodIn wsX7_addRule (va_wsS RX7 76 yX7_checkMask wsX7_checkMask) := goodIn_app (goodIn_of _ (by decide +kernel)) ggX7_addRule_X7_checkMask
set_option maxRecDepth 20000 in
theorem ggX7_addRule_X2_isFullOfRules : GoodIn wsX7_addRule wsX2_isFullOfRules := goodIn_r _ [27, 28, 29, 30, 31, 32, 33, 34, 100, 101, 102, 103, 104, 105, 106, 107, 108] (by decide +kernel) (by decide +kernel)
set_option maxRecDepth 20000 in
theorem gX7_addRule_X2_isFullOfRules : GoodIn wsX7_addRule (wsV RX7 100 RX2 yX2_isFullOfRules wsX2_isFullOfRules) := goodIn_app (goodIn_of _ (by decide +kernel)) ggX7_addRule_X2_isFullOfRules
set_option maxRecDepth 20000 in
theorem ggX7_addRule_X0_keep : GoodIn wsX7_addRule wsX0_keep := goodIn_r _ [39, 40, 41, 42, 43, 44, 38, 45, 46, 47, 48, 49, 50, 51, 52, 53, 54, 55, 56, 57, 58, 59, 60, 61, 62, 63, 64, 18, 65, 66, 67, 68, 28, 69, 70, 20, 71, 72, 73, 74, 32, 75, 34, 76, 30, 31, 33, 77, 109, 110, 111, 90, 91, 92, 93, 94, 95, 96, 97, 98, 99, 100, 101, 102, 103, 104, 105, 106, 107, 108] (by decide +kernel) (by decide +kernel)
set_option maxRecDepth 20000 in
theorem gX7_addRule_X0_keep : GoodIn wsX7_addRule (wsV RX7 48 RX0 yX0_keep wsX0_keep) := goodIn_app (goodIn_of _ (by decide +kernel)) ggX7_addRule_X0_keep
set_option maxRecDepth 20000 in
theorem ggX7_addRule_X2_appendRule : GoodIn wsX7_addRule wsX2_appendRule := goodIn_r _ [81, 28, 69, 70, 29, 30, 31, 32, 33, 34, 82, 83, 84, 85, 100, 101, 102, 103, 104, 105, 106, 107, 108] (by decide +kernel) (by decide +kernel)
set_option maxRecDepth 20000 in
theorem gX7_addRule_X2_appendRule : GoodIn wsX7_addRule (wsV RX7 106 RX2 yX2_appendRule wsX2_appendRule) := goodIn_app (goodIn_of _ (by decide +kernel)) ggX7_addRule_X2_appendRule
theorem dX7_addRule_0 : decode cX7_addRule 0 = .ok (.aload_n 0, 1) := by decide +kernel
theorem dX7_addRule_1 : decode cX7_addRule 1 = .ok (.iload_n 1, 1) := by decide +kernel
theorem dX7_addRule_2 : decode cX7_addRule 2 = .ok (.invokevirtual 95, 3) := by decide +kernel
theorem dX7_addRule_5 : decode cX7_addRule 5 = .ok (.aload_n 0, 1) := by decide +kernel
theorem dX7_addRule_6 : decode cX7_addRule 6 = .ok (.iload_n 2, 1) := by decide +kernel
theorem dX7_addRule_7 : decode cX7_addRule 7 = .ok (.invokevirtual 95, 3) := by decide +kernel
theorem dX7_addRule_10 : decode cX7_addRule 10 = .ok (.iload_n 1, 1) := by decide +kernel
theorem dX7_addRule_11 : decode cX7_addRule 11 = .ok (.iload_n 2, 1) := by decide +kernel
theorem dX7_addRule_12 : decode cX7_addRule 12 = .ok (.if_icmp .ne 13, 3) := by decide +kernel
theorem dX7_addRule_15 : decode cX7_addRule 15 = .ok (.new 41, 3) := by decide +kernel
theorem dX7_addRule_18 : decode cX7_addRule 18 = .ok (.dup, 1) := by decide +kernel
theorem dX7_addRule_19 : decode cX7_addRule 19 = .ok (.ldc 98, 2) := by decide +kernel
theorem dX7_addRule_21 : decode cX7_addRule 21 = .ok (.invokespecial 45, 3) := by decide +kernel
theorem dX7_addRule_24 : decode cX7_addRule 24 = .ok (.athrow, 1) := by decide +kernel
theorem dX7_addRule_25 : decode cX7_addRule 25 = .ok (.iload_n 3, 1) := by decide +kernel
theorem dX7_addRule_26 : decode cX7_addRule 26 = .ok (.invokestatic 76, 3) := by decide +kernel
theorem dX7_addRule_29 : decode cX7_addRule 29 = .ok (.aload_n 0, 1) := by decide +kernel
theorem dX7_addRule_30 : decode cX7_addRule 30 = .ok (.getfield 10, 3) := by decide +kernel
theorem dX7_addRule_33 : decode cX7_addRule 33 = .ok (.getfield 52, 3) := by decide +kernel
theorem dX7_addRule_36 : decode cX7_addRule 36 = .ok (.iload_n 1, 1) := by decide +kernel
theorem dX7_addRule_37 : decode cX7_addRule 37 = .ok (.invokevirtual 100, 3) := by decide +kernel
theorem dX7_addRule_40 : decode cX7_addRule 40 = .ok (.ifCond .eq 13, 3) := by decide +kernel
theorem dX7_addRule_43 : decode cX7_addRule 43 = .ok (.new 86, 3) := by decide +kernel
theorem dX7_addRule_46 : decode cX7_addRule 46 = .ok (.dup, 1) := by decide +kernel
theorem dX7_addRule_47 : decode cX7_addRule 47 = .ok (.ldc 104, 2) := by decide +kernel
theorem dX7_addRule_49 : decode cX7_addRule 49 = .ok (.invokespecial 90, 3) := by decide +kernel
theorem dX7_addRule_52 : decode cX7_addRule 52 = .ok (.athrow, 1) := by decide +kernel
theorem dX7_addRule_53 : decode cX7_addRule 53 = .ok (.aload_n 0, 1) := by decide +kernel
theorem dX7_addRule_54 : decode cX7_addRule 54 = .ok (.getfield 19, 3) := by decide +kernel
theorem dX7_addRule_57 : decode cX7_addRule 57 = .ok (.aload_n 0, 1) := by decide +kernel
theorem dX7_addRule_58 : decode cX7_addRule 58 = .ok (.getfield 10, 3) := by decide +kernel
theorem dX7_addRule_61 : decode cX7_addRule 61 = .ok (.invokevirtual 48, 3) := by decide +kernel
theorem dX7_addRule_64 : decode cX7_addRule 64 = .ok (.aload_n 0, 1) := by decide +kernel
theorem dX7_addRule_65 : decode cX7_addRule 65 = .ok (.getfield 10, 3) := by decide +kernel
theorem dX7_addRule_68 : decode cX7_addRule 68 = .ok (.getfield 52, 3) := by decide +kernel
theorem dX7_addRule_71 : decode cX7_addRule 71 = .ok (.iload_n 1, 1) := by decide +kernel
theorem dX7_addRule_72 : decode cX7_addRule 72 = .ok (.iload_n 2, 1) := by decide +kernel
theorem dX7_addRule_73 : decode cX7_addRule 73 = .ok (.iload_n 3, 1) := by decide +kernel
theorem dX7_addRule_74 : decode cX7_addRule 74 = .ok (.invokevirtual 106, 3) := by decide +kernel
theorem dX7_addRule_77 : decode cX7_addRule 77 = .ok (.ireturn, 1) := by decide +kernel
set_option maxRecDepth 20000 in
theorem ggX7_change_X7_checkPhase : GoodIn wsX7_change wsX7_checkPhase := goodIn_ca (goodIn_r _ [10, 11, 12, 2, 3, 13, 14, 15, 16, 17, 18, 81, 82, 83, 84, 85, 86, 87, 88, 89, 90, 91, 92, 93, 94, 95, 96, 97, 98, 99, 100, 101, 102] (by decide +kernel) (by decide +kernel)) (goodIn_sub (fun _ h => List.mem_cons_of_mem _ (List.mem_append_left _ (List.mem_append_right _ h))) (by decide +kernel))
set_option maxRecDepth 20000 in
theorem gX7_change_X7_checkPhase : GoodIn wsX7_change (wsV RX7 95 RX7 yX7_checkPhase wsX7_checkPhase) := goodIn_app (goodIn_of _ (by decide +kernel)) ggX7_change_X7_checkPhase
set_option maxRecDepth 20000 in
theorem ggX7_change_X7_checkMask : GoodIn wsX7_change wsX7_checkMask := goodIn_ca (goodIn_r _ [21, 22, 23] (by decide +kernel) (by decide +kernel)) (goodIn_sub (fun _ h => List.mem_cons_of_mem _ (List.mem_append_right _ h)) (by decide +kernel))
set_option maxRecDepth 20000 in
theorem gX7_change_X7_checkMask : GoodIn wsX7_change (va_wsS RX7 76 yX7_checkMask wsX7_checkMask) := goodIn_app (goodIn_of _ (by decide +kernel)) ggX7_change_X7_checkMask
set_option maxRecDepth 20000 in
theorem ggX7_change_X7_checkHold : GoodIn wsX7_change wsX7_checkHold := goodIn_ca (goodIn_r _ [26, 22, 23] (by decide +kernel) (by decide +kernel)) (goodIn_sub (fun _ h => List.mem_cons_of_mem _ (List.mem_append_right _ h)) (by decide +kernel))
set_option maxRecDepth 20000 in
theorem gX7_change_X7_checkHold : GoodIn wsX7_change (va_wsS RX7 79 yX7_checkHold wsX7_checkHold) := goodIn_app (goodIn_of _ (by decide +kernel)) ggX7_change_X7_checkHold
set_option maxRecDepth 20000 in
theorem ggX7_change_X0_keep : GoodIn wsX7_change wsX0_keep := goodIn_r _ [31, 32, 33, 34, 35, 36, 30, 37, 38, 39, 40, 41, 42, 43, 44, 45, 46, 47, 48, 49, 50, 51, 52, 53, 54, 55, 56, 16, 57, 58, 59, 60, 61, 62, 63, 18, 64, 65, 66, 67, 68, 69, 70, 71, 72, 73, 74, 75, 103, 104, 105, 85, 86, 87, 88, 89, 90, 91, 92, 93, 94, 95, 96, 97, 98, 99, 100, 101, 102, 106] (by decide +kernel) (by decide +kernel)
set_option maxRecDepth 20000 in
theorem gX7_change_X0_keep : GoodIn wsX7_change (wsV RX7 48 RX0 yX0_keep wsX0_keep) := goodIn_app (goodIn_of _ (by decide +kernel)) ggX7_change_X0_keep
set_option maxRecDepth 20000 in
theorem ggX7_change_X5_at : GoodIn wsX7_change wsX5_at := goodIn_r _ [74, 70, 106] (by decide +kernel) (by decide +kernel)
set_option maxRecDepth 20000 in
theorem gX7_change_X5_at : GoodIn wsX7_change (wsV RX7 62 RX5 yX5_at wsX5_at) := goodIn_app (goodIn_of _ (by decide +kernel)) ggX7_change_X5_at
set_option maxRecDepth 20000 in
theorem ggX7_change_X5_put : GoodIn wsX7_change wsX5_put := goodIn_r _ [80, 70, 106] (by decide +kernel) (by decide +kernel)
set_option maxRecDepth 20000 in
theorem gX7_change_X5_put : GoodIn wsX7_change (wsV RX7 121 RX5 yX5_put wsX5_put) := goodIn_app (goodIn_of _ (by decide +kernel)) ggX7_change_X5_put
theorem dX7_change_0 : decode cX7_change 0 = .ok (.aload_n 0, 1) := by decide +kernel
theorem dX7_change_1 : decode cX7_change 1 = .ok (.iload_n 1, 1) := by decide +kernel
theorem dX7_change_2 : decode cX7_change 2 = .ok (.invokevirtual 95, 3) := by decide +kernel
theorem dX7_change_5 : decode cX7_change 5 = .ok (.iload_n 2, 1) := by decide +kernel
theorem dX7_change_6 : decode cX7_change 6 = .ok (.invokestatic 76, 3) := by decide +kernel
theorem dX7_change_9 : decode cX7_change 9 = .ok (.iload_n 3, 1) := by decide +kernel
theorem dX7_change_10 : decode cX7_change 10 = .ok (.invokestatic 79, 3) := by decide +kernel
theorem dX7_change_13 : decode cX7_change 13 = .ok (.aload_n 0, 1) := by decide +kernel
theorem dX7_change_14 : decode cX7_change 14 = .ok (.getfield 19, 3) := by decide +kernel
theorem dX7_change_17 : decode cX7_change 17 = .ok (.aload_n 0, 1) := by decide +kernel
theorem dX7_change_18 : decode cX7_change 18 = .ok (.getfield 10, 3) := by decide +kernel
theorem dX7_change_21 : decode cX7_change 21 = .ok (.invokevirtual 48, 3) := by decide +kernel
theorem dX7_change_24 : decode cX7_change 24 = .ok (.aload_n 0, 1) := by decide +kernel
theorem dX7_change_25 : decode cX7_change 25 = .ok (.getfield 10, 3) := by decide +kernel
theorem dX7_change_28 : decode cX7_change 28 = .ok (.getfield 52, 3) := by decide +kernel
theorem dX7_change_31 : decode cX7_change 31 = .ok (.getfield 118, 3) := by decide +kernel
theorem dX7_change_34 : decode cX7_change 34 = .ok (.iload_n 1, 1) := by decide +kernel
theorem dX7_change_35 : decode cX7_change 35 = .ok (.invokevirtual 62, 3) := by decide +kernel
theorem dX7_change_38 : decode cX7_change 38 = .ok (.istore 4, 2) := by decide +kernel
theorem dX7_change_40 : decode cX7_change 40 = .ok (.aload_n 0, 1) := by decide +kernel
theorem dX7_change_41 : decode cX7_change 41 = .ok (.getfield 10, 3) := by decide +kernel
theorem dX7_change_44 : decode cX7_change 44 = .ok (.getfield 52, 3) := by decide +kernel
theorem dX7_change_47 : decode cX7_change 47 = .ok (.getfield 118, 3) := by decide +kernel
theorem dX7_change_50 : decode cX7_change 50 = .ok (.iload_n 1, 1) := by decide +kernel
theorem dX7_change_51 : decode cX7_change 51 = .ok (.iload_n 2, 1) := by decide +kernel
theorem dX7_change_52 : decode cX7_change 52 = .ok (.invokevirtual 121, 3) := by decide +kernel
theorem dX7_change_55 : decode cX7_change 55 = .ok (.aload_n 0, 1) := by decide +kernel
theorem dX7_change_56 : decode cX7_change 56 = .ok (.getfield 10, 3) := by decide +kernel
theorem dX7_change_59 : decode cX7_change 59 = .ok (.getfield 52, 3) := by decide +kernel
theorem dX7_change_62 : decode cX7_change 62 = .ok (.getfield 125, 3) := by decide +kernel
theorem dX7_change_65 : decode cX7_change 65 = .ok (.iload_n 1, 1) := by decide +kernel
theorem dX7_change_66 : decode cX7_change 66 = .ok (.iload_n 3, 1) := by decide +kernel
theorem dX7_change_67 : decode cX7_change 67 = .ok (.invokevirtual 121, 3) := by decide +kernel
theorem dX7_change_70 : decode cX7_change 70 = .ok (.iload 4, 2) := by decide +kernel
theorem dX7_change_72 : decode cX7_change 72 = .ok (.ireturn, 1) := by decide +kernel
set_option maxRecDepth 20000 in
theorem ggX7_set_X0_keep : GoodIn wsX7_set wsX0_keep := goodIn_r _ [11, 12, 13, 14, 15, 16, 10, 17, 18, 19, 20, 21, 22, 23, 24, 25, 26, 27, 28, 29, 30, 31, 32, 33, 34, 35, 36, 37, 38, 39, 40, 41, 42, 43, 44, 45, 46, 47, 48, 49, 50, 51, 52, 53, 54, 55, 56, 57, 80, 81, 82, 62, 63, 64, 65, 66, 67, 68, 69, 70, 71, 72, 73, 74, 75, 76, 77, 78, 79, 83] (by decide +kernel) (by decide +kernel)
set_option maxRecDepth 20000 in
theorem gX7_set_X0_keep : GoodIn wsX7_set (wsV RX7 48 RX0 yX0_keep wsX0_keep) := goodIn_app (goodIn_of _ (by decide +kernel)) ggX7_set_X0_keep
theorem dX7_set_0 : decode cX7_set 0 = .ok (.iload_n 1, 1) := by decide +kernel
theorem dX7_set_1 : decode cX7_set 1 = .ok (.ifCond .lt 8, 3) := by decide +kernel
theorem dX7_set_4 : decode cX7_set 4 = .ok (.iload_n 1, 1) := by decide +kernel
theorem dX7_set_5 : decode cX7_set 5 = .ok (.iconst 5, 1) := by decide +kernel
theorem dX7_set_6 : decode cX7_set 6 = .ok (.if_icmp .le 13, 3) := by decide +kernel
theorem dX7_set_9 : decode cX7_set 9 = .ok (.new 41, 3) := by decide +kernel
theorem dX7_set_12 : decode cX7_set 12 = .ok (.dup, 1) := by decide +kernel
theorem dX7_set_13 : decode cX7_set 13 = .ok (.ldc 128, 2) := by decide +kernel
theorem dX7_set_15 : decode cX7_set 15 = .ok (.invokespecial 45, 3) := by decide +kernel
theorem dX7_set_18 : decode cX7_set 18 = .ok (.athrow, 1) := by decide +kernel
theorem dX7_set_19 : decode cX7_set 19 = .ok (.aload_n 0, 1) := by decide +kernel
theorem dX7_set_20 : decode cX7_set 20 = .ok (.getfield 19, 3) := by decide +kernel
theorem dX7_set_23 : decode cX7_set 23 = .ok (.aload_n 0, 1) := by decide +kernel
theorem dX7_set_24 : decode cX7_set 24 = .ok (.getfield 10, 3) := by decide +kernel
theorem dX7_set_27 : decode cX7_set 27 = .ok (.invokevirtual 48, 3) := by decide +kernel
theorem dX7_set_30 : decode cX7_set 30 = .ok (.aload_n 0, 1) := by decide +kernel
theorem dX7_set_31 : decode cX7_set 31 = .ok (.getfield 10, 3) := by decide +kernel
theorem dX7_set_34 : decode cX7_set 34 = .ok (.getfield 52, 3) := by decide +kernel
theorem dX7_set_37 : decode cX7_set 37 = .ok (.getfield 130, 3) := by decide +kernel
theorem dX7_set_40 : decode cX7_set 40 = .ok (.istore_n 2, 1) := by decide +kernel
theorem dX7_set_41 : decode cX7_set 41 = .ok (.aload_n 0, 1) := by decide +kernel
theorem dX7_set_42 : decode cX7_set 42 = .ok (.getfield 10, 3) := by decide +kernel
theorem dX7_set_45 : decode cX7_set 45 = .ok (.getfield 52, 3) := by decide +kernel
theorem dX7_set_48 : decode cX7_set 48 = .ok (.iload_n 1, 1) := by decide +kernel
theorem dX7_set_49 : decode cX7_set 49 = .ok (.putfield 130, 3) := by decide +kernel
theorem dX7_set_52 : decode cX7_set 52 = .ok (.iload_n 2, 1) := by decide +kernel
theorem dX7_set_53 : decode cX7_set 53 = .ok (.ireturn, 1) := by decide +kernel
set_option maxRecDepth 20000 in
theorem ggX7_come_X7_checkDirection : GoodIn wsX7_come wsX7_checkDirection := goodIn_ca (goodIn_r _ [7, 8, 9] (by decide +kernel) (by decide +kernel)) (goodIn_sub (fun _ h => List.mem_cons_of_mem _ (List.mem_append_right _ h)) (by decide +kernel))
set_option maxRecDepth 20000 in
theorem gX7_come_X7_checkDirection : GoodIn wsX7_come (va_wsS RX7 37 yX7_checkDirection wsX7_checkDirection) := goodIn_app (goodIn_of _ (by decide +kernel)) ggX7_come_X7_checkDirection
set_option maxRecDepth 20000 in
theorem ggX7_come_X0_keep : GoodIn wsX7_come wsX0_keep := goodIn_r _ [14, 15, 16, 17, 18, 19, 13, 20, 21, 22, 23, 24, 25, 26, 27, 28, 29, 30, 31, 32, 33, 34, 35, 36, 37, 38, 39, 40, 41, 42, 43, 44, 45, 46, 47, 48, 49, 50, 51, 52, 53, 54, 55, 56, 57, 58, 59, 60, 80, 81, 82, 70, 71, 72, 73, 74, 75, 76, 77, 78, 79, 83, 84, 85, 86, 87, 88, 89, 90, 91] (by decide +kernel) (by decide +kernel)
set_option maxRecDepth 20000 in
theorem gX7_come_X0_keep : GoodIn wsX7_come (wsV RX7 48 RX0 yX0_keep wsX0_keep) := goodIn_app (goodIn_of _ (by decide +kernel)) ggX7_come_X0_keep
set_option maxRecDepth 20000 in
theorem ggX7_come_X5_at : GoodIn wsX7_come wsX5_at := goodIn_r _ [59, 55, 91] (by decide +kernel) (by decide +kernel)
set_option maxRecDepth 20000 in
theorem gX7_come_X5_at : GoodIn wsX7_come (wsV RX7 62 RX5 yX5_at wsX5_at) := goodIn_app (goodIn_of _ (by decide +kernel)) ggX7_come_X5_at
set_option maxRecDepth 20000 in
theorem ggX7_come_X5_put : GoodIn wsX7_come wsX5_put := goodIn_r _ [65, 55, 91] (by decide +kernel) (by decide +kernel)
set_option maxRecDepth 20000 in
theorem gX7_come_X5_put : GoodIn wsX7_come (wsV RX7 121 RX5 yX5_put wsX5_put) := goodIn_app (goodIn_of _ (by decide +kernel)) ggX7_come_X5_put
theorem dX7_come_0 : decode cX7_come 0 = .ok (.iload_n 1, 1) := by decide +kernel
theorem dX7_come_1 : decode cX7_come 1 = .ok (.invokestatic 37, 3) := by decide +kernel
theorem dX7_come_4 : decode cX7_come 4 = .ok (.aload_n 0, 1) := by decide +kernel
theorem dX7_come_5 : decode cX7_come 5 = .ok (.getfield 19, 3) := by decide +kernel
theorem dX7_come_8 : decode cX7_come 8 = .ok (.aload_n 0, 1) := by decide +kernel
theorem dX7_come_9 : decode cX7_come 9 = .ok (.getfield 10, 3) := by decide +kernel
theorem dX7_come_12 : decode cX7_come 12 = .ok (.invokevirtual 48, 3) := by decide +kernel
theorem dX7_come_15 : decode cX7_come 15 = .ok (.aload_n 0, 1) := by decide +kernel
theorem dX7_come_16 : decode cX7_come 16 = .ok (.getfield 10, 3) := by decide +kernel
theorem dX7_come_19 : decode cX7_come 19 = .ok (.getfield 134, 3) := by decide +kernel
theorem dX7_come_22 : decode cX7_come 22 = .ok (.iload_n 1, 1) := by decide +kernel
theorem dX7_come_23 : decode cX7_come 23 = .ok (.invokevirtual 62, 3) := by decide +kernel
theorem dX7_come_26 : decode cX7_come 26 = .ok (.iconst (-1), 1) := by decide +kernel
theorem dX7_come_27 : decode cX7_come 27 = .ok (.if_icmp .ne 15, 3) := by decide +kernel
theorem dX7_come_30 : decode cX7_come 30 = .ok (.aload_n 0, 1) := by decide +kernel
theorem dX7_come_31 : decode cX7_come 31 = .ok (.getfield 10, 3) := by decide +kernel
theorem dX7_come_34 : decode cX7_come 34 = .ok (.getfield 134, 3) := by decide +kernel
theorem dX7_come_37 : decode cX7_come 37 = .ok (.iload_n 1, 1) := by decide +kernel
theorem dX7_come_38 : decode cX7_come 38 = .ok (.iconst 0, 1) := by decide +kernel
theorem dX7_come_39 : decode cX7_come 39 = .ok (.invokevirtual 121, 3) := by decide +kernel
theorem dX7_come_42 : decode cX7_come 42 = .ok (.aload_n 0, 1) := by decide +kernel
theorem dX7_come_43 : decode cX7_come 43 = .ok (.getfield 10, 3) := by decide +kernel
theorem dX7_come_46 : decode cX7_come 46 = .ok (.getfield 134, 3) := by decide +kernel
theorem dX7_come_49 : decode cX7_come 49 = .ok (.iload_n 1, 1) := by decide +kernel
theorem dX7_come_50 : decode cX7_come 50 = .ok (.invokevirtual 62, 3) := by decide +kernel
theorem dX7_come_53 : decode cX7_come 53 = .ok (.ireturn, 1) := by decide +kernel
set_option maxRecDepth 20000 in
theorem ggX7_run_X0_keep : GoodIn wsX7_run wsX0_keep := goodIn_r _ [9, 10, 11, 12, 13, 14, 8, 15, 16, 17, 18, 19, 20, 21, 22, 23, 24, 25, 26, 27, 28, 29, 30, 31, 32, 33, 34, 35, 36, 37, 38, 39, 40, 41, 42, 43, 44, 45, 46, 47, 48, 49, 50, 51, 52, 53, 54, 55, 133, 134, 135, 136, 137, 138, 139, 140, 141, 142, 143, 144, 145, 146, 147, 148, 149, 150, 151, 152, 153, 154] (by decide +kernel) (by decide +kernel)
set_option maxRecDepth 20000 in
theorem gX7_run_X0_keep : GoodIn wsX7_run (wsV RX7 48 RX0 yX0_keep wsX0_keep) := goodIn_app (goodIn_of _ (by decide +kernel)) ggX7_run_X0_keep
set_option maxRecDepth 20000 in
theorem ggX7_run_X1_passTick : GoodIn wsX7_run wsX1_passTick := goodIn_r _ [59, 31, 22, 60, 30, 29, 61, 27, 62, 63, 64, 20, 65, 23, 24, 25, 66, 67, 68, 69, 70, 71, 72, 73, 74, 28, 75, 52, 53, 48, 54, 50, 76, 77, 78, 79, 80, 81, 82, 83, 84, 85, 86, 87, 88, 89, 90, 26, 91, 92, 93, 94, 95, 96, 97, 98, 99, 100, 101, 102, 103, 104, 105, 106, 35, 107, 42, 108, 109, 110, 111, 112, 41, 113, 114, 115, 116, 117, 118, 119, 120, 38, 44, 136, 137, 138, 139, 140, 141, 142, 143, 144, 145, 146, 147, 148, 149, 150, 151, 152, 153, 154] (by decide +kernel) (by decide +kernel)
set_option maxRecDepth 20000 in
theorem gX7_run_X1_passTick : GoodIn wsX7_run (wsV RX7 139 RX1 yX1_passTick wsX1_passTick) := goodIn_app (goodIn_of _ (by decide +kernel)) ggX7_run_X1_passTick
set_option maxRecDepth 20000 in
theorem ggX7_run_X1_waiting : GoodIn wsX7_run wsX1_waiting := goodIn_r _ [99, 23, 75, 52, 53, 48, 54, 50, 136, 137, 138, 139, 140, 141, 142, 143, 144, 145, 154] (by decide +kernel) (by decide +kernel)
set_option maxRecDepth 20000 in
theorem gX7_run_X1_waiting : GoodIn wsX7_run (wsV RX7 142 RX1 yX1_waiting wsX1_waiting) := goodIn_app (goodIn_of _ (by decide +kernel)) ggX7_run_X1_waiting
set_option maxRecDepth 20000 in
theorem ggX7_run_J6_bitCount_0f7a4 : GoodIn wsX7_run wsJ6_bitCount_0f7a4 := goodIn_r _ [125, 126, 127, 128] (by decide +kernel) (by decide +kernel)
set_option maxRecDepth 20000 in
theorem gX7_run_J6_bitCount_0f7a4 : GoodIn wsX7_run (va_wsS RX7 146 yJ6_bitCount_0f7a4 wsJ6_bitCount_0f7a4) := goodIn_app (goodIn_of _ (by decide +kernel)) ggX7_run_J6_bitCount_0f7a4
theorem dX7_run_0 : decode cX7_run 0 = .ok (.iload_n 1, 1) := by decide +kernel
theorem dX7_run_1 : decode cX7_run 1 = .ok (.iconst 1, 1) := by decide +kernel
theorem dX7_run_2 : decode cX7_run 2 = .ok (.if_icmp .lt 9, 3) := by decide +kernel
theorem dX7_run_5 : decode cX7_run 5 = .ok (.iload_n 1, 1) := by decide +kernel
theorem dX7_run_6 : decode cX7_run 6 = .ok (.bipush 99, 2) := by decide +kernel
theorem dX7_run_8 : decode cX7_run 8 = .ok (.if_icmp .le 13, 3) := by decide +kernel
theorem dX7_run_11 : decode cX7_run 11 = .ok (.new 41, 3) := by decide +kernel
theorem dX7_run_14 : decode cX7_run 14 = .ok (.dup, 1) := by decide +kernel
theorem dX7_run_15 : decode cX7_run 15 = .ok (.ldc 137, 2) := by decide +kernel
theorem dX7_run_17 : decode cX7_run 17 = .ok (.invokespecial 45, 3) := by decide +kernel
theorem dX7_run_20 : decode cX7_run 20 = .ok (.athrow, 1) := by decide +kernel
theorem dX7_run_21 : decode cX7_run 21 = .ok (.aload_n 0, 1) := by decide +kernel
theorem dX7_run_22 : decode cX7_run 22 = .ok (.getfield 19, 3) := by decide +kernel
theorem dX7_run_25 : decode cX7_run 25 = .ok (.aload_n 0, 1) := by decide +kernel
theorem dX7_run_26 : decode cX7_run 26 = .ok (.getfield 10, 3) := by decide +kernel
theorem dX7_run_29 : decode cX7_run 29 = .ok (.invokevirtual 48, 3) := by decide +kernel
theorem dX7_run_32 : decode cX7_run 32 = .ok (.iconst 0, 1) := by decide +kernel
theorem dX7_run_33 : decode cX7_run 33 = .ok (.istore_n 2, 1) := by decide +kernel
theorem dX7_run_34 : decode cX7_run 34 = .ok (.iload_n 2, 1) := by decide +kernel
theorem dX7_run_35 : decode cX7_run 35 = .ok (.iload_n 1, 1) := by decide +kernel
theorem dX7_run_36 : decode cX7_run 36 = .ok (.if_icmp .ge 16, 3) := by decide +kernel
theorem dX7_run_39 : decode cX7_run 39 = .ok (.aload_n 0, 1) := by decide +kernel
theorem dX7_run_40 : decode cX7_run 40 = .ok (.getfield 10, 3) := by decide +kernel
theorem dX7_run_43 : decode cX7_run 43 = .ok (.invokevirtual 139, 3) := by decide +kernel
theorem dX7_run_46 : decode cX7_run 46 = .ok (.iinc 2 1, 3) := by decide +kernel
theorem dX7_run_49 : decode cX7_run 49 = .ok (.goto (-15), 3) := by decide +kernel
theorem dX7_run_52 : decode cX7_run 52 = .ok (.aload_n 0, 1) := by decide +kernel
theorem dX7_run_53 : decode cX7_run 53 = .ok (.getfield 10, 3) := by decide +kernel
theorem dX7_run_56 : decode cX7_run 56 = .ok (.invokevirtual 142, 3) := by decide +kernel
theorem dX7_run_59 : decode cX7_run 59 = .ok (.invokestatic 146, 3) := by decide +kernel
theorem dX7_run_62 : decode cX7_run 62 = .ok (.ireturn, 1) := by decide +kernel
set_option maxRecDepth 20000 in
theorem ggX7_start_X7_checkPhase : GoodIn wsX7_start wsX7_checkPhase := goodIn_ca (goodIn_r _ [9, 10, 11, 2, 3, 12, 13, 14, 15, 16, 17, 76, 77, 78, 79, 80, 81, 82, 83, 84, 85, 86, 87, 88, 89, 90, 91, 92, 93, 94, 95, 96, 97] (by decide +kernel) (by decide +kernel)) (goodIn_sub (fun _ h => List.mem_cons_of_mem _ (List.mem_append_right _ h)) (by decide +kernel))
set_option maxRecDepth 20000 in
theorem gX7_start_X7_checkPhase : GoodIn wsX7_start (wsV RX7 95 RX7 yX7_checkPhase wsX7_checkPhase) := goodIn_app (goodIn_of _ (by decide +kernel)) ggX7_start_X7_checkPhase
set_option maxRecDepth 20000 in
theorem ggX7_start_X0_keep : GoodIn wsX7_start wsX0_keep := goodIn_r _ [22, 23, 24, 25, 26, 27, 21, 28, 29, 30, 31, 32, 33, 34, 35, 36, 37, 38, 39, 40, 41, 42, 43, 44, 45, 46, 47, 15, 48, 49, 50, 51, 52, 53, 54, 17, 55, 56, 57, 58, 59, 60, 61, 62, 63, 64, 65, 66, 98, 99, 100, 80, 81, 82, 83, 84, 85, 86, 87, 88, 89, 90, 91, 92, 93, 94, 95, 96, 97, 101] (by decide +kernel) (by decide +kernel)
set_option maxRecDepth 20000 in
theorem gX7_start_X0_keep : GoodIn wsX7_start (wsV RX7 48 RX0 yX0_keep wsX0_keep) := goodIn_app (goodIn_of _ (by decide +kernel)) ggX7_start_X0_keep
set_option maxRecDepth 20000 in
theorem ggX7_start_X1_putInto : GoodIn wsX7_start wsX1_putInto := goodIn_r _ [70, 40, 42, 43, 36, 71, 72, 73, 59, 74, 61, 80, 81, 82, 83, 84, 85, 86, 87, 88, 89, 101] (by decide +kernel) (by decide +kernel)
set_option maxRecDepth 20000 in
theorem gX7_start_X1_putInto : GoodIn wsX7_start (wsV RX7 151 RX1 yX1_putInto wsX1_putInto) := goodIn_app (goodIn_of _ (by decide +kernel)) ggX7_start_X1_putInto
set_option maxRecDepth 20000 in
theorem ggX7_start_X5_at : GoodIn wsX7_start wsX5_at := goodIn_r _ [65, 61, 101] (by decide +kernel) (by decide +kernel)
set_option maxRecDepth 20000 in
theorem gX7_start_X5_at : GoodIn wsX7_start (wsV RX7 62 RX5 yX5_at wsX5_at) := goodIn_app (goodIn_of _ (by decide +kernel)) ggX7_start_X5_at
theorem dX7_start_0 : decode cX7_start 0 = .ok (.aload_n 0, 1) := by decide +kernel
theorem dX7_start_1 : decode cX7_start 1 = .ok (.iload_n 1, 1) := by decide +kernel
theorem dX7_start_2 : decode cX7_start 2 = .ok (.invokevirtual 95, 3) := by decide +kernel
theorem dX7_start_5 : decode cX7_start 5 = .ok (.aload_n 0, 1) := by decide +kernel
theorem dX7_start_6 : decode cX7_start 6 = .ok (.getfield 19, 3) := by decide +kernel
theorem dX7_start_9 : decode cX7_start 9 = .ok (.aload_n 0, 1) := by decide +kernel
theorem dX7_start_10 : decode cX7_start 10 = .ok (.getfield 10, 3) := by decide +kernel
theorem dX7_start_13 : decode cX7_start 13 = .ok (.invokevirtual 48, 3) := by decide +kernel
theorem dX7_start_16 : decode cX7_start 16 = .ok (.aload_n 0, 1) := by decide +kernel
theorem dX7_start_17 : decode cX7_start 17 = .ok (.getfield 10, 3) := by decide +kernel
theorem dX7_start_20 : decode cX7_start 20 = .ok (.iload_n 1, 1) := by decide +kernel
theorem dX7_start_21 : decode cX7_start 21 = .ok (.invokevirtual 151, 3) := by decide +kernel
theorem dX7_start_24 : decode cX7_start 24 = .ok (.aload_n 0, 1) := by decide +kernel
theorem dX7_start_25 : decode cX7_start 25 = .ok (.getfield 10, 3) := by decide +kernel
theorem dX7_start_28 : decode cX7_start 28 = .ok (.getfield 52, 3) := by decide +kernel
theorem dX7_start_31 : decode cX7_start 31 = .ok (.getfield 118, 3) := by decide +kernel
theorem dX7_start_34 : decode cX7_start 34 = .ok (.iload_n 1, 1) := by decide +kernel
theorem dX7_start_35 : decode cX7_start 35 = .ok (.invokevirtual 62, 3) := by decide +kernel
theorem dX7_start_38 : decode cX7_start 38 = .ok (.ireturn, 1) := by decide +kernel
set_option maxRecDepth 20000 in
theorem ggX7_undo_X0_restore : GoodIn wsX7_undo wsX0_restore := goodIn_r _ [10, 11, 12, 13, 14, 15, 9, 16, 17, 18, 19, 20, 21, 22, 23, 24, 25, 26, 27, 28, 29, 30, 31, 32, 33, 34, 35, 36, 37, 38, 39, 40, 41, 42, 43, 44, 45, 46, 47, 48, 49, 50, 51, 52, 53, 54, 55, 56, 61, 62, 63, 64, 65, 66, 67, 68, 69, 70, 71, 72, 73, 74, 75, 76, 77, 78, 79, 80, 81, 82] (by decide +kernel) (by decide +kernel)
set_option maxRecDepth 20000 in
theorem gX7_undo_X0_restore : GoodIn wsX7_undo (wsV RX7 184 RX0 yX0_restore wsX0_restore) := goodIn_app (goodIn_of _ (by decide +kernel)) ggX7_undo_X0_restore
theorem dX7_undo_0 : decode cX7_undo 0 = .ok (.aload_n 0, 1) := by decide +kernel
theorem dX7_undo_1 : decode cX7_undo 1 = .ok (.getfield 19, 3) := by decide +kernel
theorem dX7_undo_4 : decode cX7_undo 4 = .ok (.getfield 179, 3) := by decide +kernel
theorem dX7_undo_7 : decode cX7_undo 7 = .ok (.ifCond .ne 13, 3) := by decide +kernel
theorem dX7_undo_10 : decode cX7_undo 10 = .ok (.new 86, 3) := by decide +kernel
theorem dX7_undo_13 : decode cX7_undo 13 = .ok (.dup, 1) := by decide +kernel
theorem dX7_undo_14 : decode cX7_undo 14 = .ok (.ldc 182, 2) := by decide +kernel
theorem dX7_undo_16 : decode cX7_undo 16 = .ok (.invokespecial 90, 3) := by decide +kernel
theorem dX7_undo_19 : decode cX7_undo 19 = .ok (.athrow, 1) := by decide +kernel
theorem dX7_undo_20 : decode cX7_undo 20 = .ok (.aload_n 0, 1) := by decide +kernel
theorem dX7_undo_21 : decode cX7_undo 21 = .ok (.getfield 19, 3) := by decide +kernel
theorem dX7_undo_24 : decode cX7_undo 24 = .ok (.aload_n 0, 1) := by decide +kernel
theorem dX7_undo_25 : decode cX7_undo 25 = .ok (.getfield 10, 3) := by decide +kernel
theorem dX7_undo_28 : decode cX7_undo 28 = .ok (.invokevirtual 184, 3) := by decide +kernel
theorem dX7_undo_31 : decode cX7_undo 31 = .ok (.aload_n 0, 1) := by decide +kernel
theorem dX7_undo_32 : decode cX7_undo 32 = .ok (.getfield 19, 3) := by decide +kernel
theorem dX7_undo_35 : decode cX7_undo 35 = .ok (.getfield 179, 3) := by decide +kernel
theorem dX7_undo_38 : decode cX7_undo 38 = .ok (.ireturn, 1) := by decide +kernel
set_option maxRecDepth 20000 in
theorem ggX7_phase_X7_checkPhase : GoodIn wsX7_phase wsX7_checkPhase := goodIn_ca (goodIn_r _ [13, 14, 15, 3, 4, 16, 17, 18, 19, 20, 21, 69, 70, 71, 72, 73, 74, 75, 76, 77, 78, 79, 80, 81, 82, 83, 84, 85, 86, 87, 88, 89, 90] (by decide +kernel) (by decide +kernel)) (goodIn_sub (fun _ h => List.mem_cons_of_mem _ (List.mem_append_right _ h)) (by decide +kernel))
set_option maxRecDepth 20000 in
theorem gX7_phase_X7_checkPhase : GoodIn wsX7_phase (wsV RX7 95 RX7 yX7_checkPhase wsX7_checkPhase) := goodIn_app (goodIn_of _ (by decide +kernel)) ggX7_phase_X7_checkPhase
set_option maxRecDepth 20000 in
theorem ggX7_phase_X5_at : GoodIn wsX7_phase wsX5_at := goodIn_r _ [26, 27, 91] (by decide +kernel) (by decide +kernel)
set_option maxRecDepth 20000 in
theorem gX7_phase_X5_at : GoodIn wsX7_phase (wsV RX7 62 RX5 yX5_at wsX5_at) := goodIn_app (goodIn_of _ (by decide +kernel)) ggX7_phase_X5_at
set_option maxRecDepth 20000 in
theorem ggX7_phase_X2_isUnsafe : GoodIn wsX7_phase wsX2_isUnsafe := goodIn_r _ [31, 32, 33, 34, 23, 24, 25, 26, 27, 35, 12, 36, 83, 84, 85, 86, 87, 88, 89, 90, 91] (by decide +kernel) (by decide +kernel)
set_option maxRecDepth 20000 in
theorem gX7_phase_X2_isUnsafe : GoodIn wsX7_phase (wsV RX7 187 RX2 yX2_isUnsafe wsX2_isUnsafe) := goodIn_app (goodIn_of _ (by decide +kernel)) ggX7_phase_X2_isUnsafe
set_option maxRecDepth 20000 in
theorem ggX7_phase_X7_comingPhases : GoodIn wsX7_phase wsX7_comingPhases := goodIn_r _ [40, 41, 3, 4, 42, 43, 44, 45, 46, 47, 48, 49, 50, 51, 52, 53, 23, 24, 25, 26, 27, 54, 55, 56, 19, 57, 58, 34, 59, 60, 61, 62, 63, 64, 65, 66, 67, 17, 18, 20, 21, 35, 12, 36, 69, 70, 71, 72, 73, 74, 75, 76, 77, 78, 79, 80, 81, 82, 92, 93, 94, 95, 96, 97, 83, 84, 85, 86, 87, 88, 89, 90, 91] (by decide +kernel) (by decide +kernel)
set_option maxRecDepth 20000 in
theorem gX7_phase_X7_comingPhases : GoodIn wsX7_phase (wsV RX7 190 RX7 yX7_comingPhases wsX7_comingPhases) := goodIn_app (goodIn_of _ (by decide +kernel)) ggX7_phase_X7_comingPhases
set_option maxRecDepth 20000 in
theorem ggX7_phase_X7_has : GoodIn wsX7_phase wsX7_has := goodIn_r _ [36] (by decide +kernel) (by decide +kernel)
set_option maxRecDepth 20000 in
theorem gX7_phase_X7_has : GoodIn wsX7_phase (va_wsS RX7 68 yX7_has wsX7_has) := goodIn_app (goodIn_of _ (by decide +kernel)) ggX7_phase_X7_has
theorem dX7_phase_0 : decode cX7_phase 0 = .ok (.aload_n 0, 1) := by decide +kernel
theorem dX7_phase_1 : decode cX7_phase 1 = .ok (.iload_n 1, 1) := by decide +kernel
theorem dX7_phase_2 : decode cX7_phase 2 = .ok (.invokevirtual 95, 3) := by decide +kernel
theorem dX7_phase_5 : decode cX7_phase 5 = .ok (.iload_n 2, 1) := by decide +kernel
theorem dX7_phase_6 : decode cX7_phase 6 = .ok (.tableswitch 132 0 5 #[38, 53, 68, 83, 103, 120], 38) := by decide +kernel
theorem dX7_phase_44 : decode cX7_phase 44 = .ok (.aload_n 0, 1) := by decide +kernel
theorem dX7_phase_45 : decode cX7_phase 45 = .ok (.getfield 10, 3) := by decide +kernel
theorem dX7_phase_48 : decode cX7_phase 48 = .ok (.getfield 52, 3) := by decide +kernel
theorem dX7_phase_51 : decode cX7_phase 51 = .ok (.getfield 118, 3) := by decide +kernel
theorem dX7_phase_54 : decode cX7_phase 54 = .ok (.iload_n 1, 1) := by decide +kernel
theorem dX7_phase_55 : decode cX7_phase 55 = .ok (.invokevirtual 62, 3) := by decide +kernel
theorem dX7_phase_58 : decode cX7_phase 58 = .ok (.ireturn, 1) := by decide +kernel
theorem dX7_phase_59 : decode cX7_phase 59 = .ok (.aload_n 0, 1) := by decide +kernel
theorem dX7_phase_60 : decode cX7_phase 60 = .ok (.getfield 10, 3) := by decide +kernel
theorem dX7_phase_63 : decode cX7_phase 63 = .ok (.getfield 52, 3) := by decide +kernel
theorem dX7_phase_66 : decode cX7_phase 66 = .ok (.getfield 125, 3) := by decide +kernel
theorem dX7_phase_69 : decode cX7_phase 69 = .ok (.iload_n 1, 1) := by decide +kernel
theorem dX7_phase_70 : decode cX7_phase 70 = .ok (.invokevirtual 62, 3) := by decide +kernel
theorem dX7_phase_73 : decode cX7_phase 73 = .ok (.ireturn, 1) := by decide +kernel
theorem dX7_phase_74 : decode cX7_phase 74 = .ok (.aload_n 0, 1) := by decide +kernel
theorem dX7_phase_75 : decode cX7_phase 75 = .ok (.getfield 10, 3) := by decide +kernel
theorem dX7_phase_78 : decode cX7_phase 78 = .ok (.getfield 52, 3) := by decide +kernel
theorem dX7_phase_81 : decode cX7_phase 81 = .ok (.getfield 110, 3) := by decide +kernel
theorem dX7_phase_84 : decode cX7_phase 84 = .ok (.iload_n 1, 1) := by decide +kernel
theorem dX7_phase_85 : decode cX7_phase 85 = .ok (.invokevirtual 62, 3) := by decide +kernel
theorem dX7_phase_88 : decode cX7_phase 88 = .ok (.ireturn, 1) := by decide +kernel
theorem dX7_phase_89 : decode cX7_phase 89 = .ok (.aload_n 0, 1) := by decide +kernel
theorem dX7_phase_90 : decode cX7_phase 90 = .ok (.getfield 10, 3) := by decide +kernel
theorem dX7_phase_93 : decode cX7_phase 93 = .ok (.getfield 52, 3) := by decide +kernel
theorem dX7_phase_96 : decode cX7_phase 96 = .ok (.iload_n 1, 1) := by decide +kernel
theorem dX7_phase_97 : decode cX7_phase 97 = .ok (.invokevirtual 187, 3) := by decide +kernel
theorem dX7_phase_100 : decode cX7_phase 100 = .ok (.ifCond .eq 7, 3) := by decide +kernel
theorem dX7_phase_103 : decode cX7_phase 103 = .ok (.iconst 1, 1) := by decide +kernel
theorem dX7_phase_104 : decode cX7_phase 104 = .ok (.goto 4, 3) := by decide +kernel
theorem dX7_phase_107 : decode cX7_phase 107 = .ok (.iconst 0, 1) := by decide +kernel
theorem dX7_phase_108 : decode cX7_phase 108 = .ok (.ireturn, 1) := by decide +kernel
theorem dX7_phase_109 : decode cX7_phase 109 = .ok (.aload_n 0, 1) := by decide +kernel
theorem dX7_phase_110 : decode cX7_phase 110 = .ok (.invokevirtual 190, 3) := by decide +kernel
theorem dX7_phase_113 : decode cX7_phase 113 = .ok (.iload_n 1, 1) := by decide +kernel
theorem dX7_phase_114 : decode cX7_phase 114 = .ok (.invokestatic 68, 3) := by decide +kernel
theorem dX7_phase_117 : decode cX7_phase 117 = .ok (.ifCond .eq 7, 3) := by decide +kernel
theorem dX7_phase_120 : decode cX7_phase 120 = .ok (.iconst 1, 1) := by decide +kernel
theorem dX7_phase_121 : decode cX7_phase 121 = .ok (.goto 4, 3) := by decide +kernel
theorem dX7_phase_124 : decode cX7_phase 124 = .ok (.iconst 0, 1) := by decide +kernel
theorem dX7_phase_125 : decode cX7_phase 125 = .ok (.ireturn, 1) := by decide +kernel
theorem dX7_phase_126 : decode cX7_phase 126 = .ok (.aload_n 0, 1) := by decide +kernel
theorem dX7_phase_127 : decode cX7_phase 127 = .ok (.getfield 10, 3) := by decide +kernel
theorem dX7_phase_130 : decode cX7_phase 130 = .ok (.getfield 193, 3) := by decide +kernel
theorem dX7_phase_133 : decode cX7_phase 133 = .ok (.iload_n 1, 1) := by decide +kernel
theorem dX7_phase_134 : decode cX7_phase 134 = .ok (.invokevirtual 62, 3) := by decide +kernel
theorem dX7_phase_137 : decode cX7_phase 137 = .ok (.ireturn, 1) := by decide +kernel
theorem dX7_phase_138 : decode cX7_phase 138 = .ok (.new 41, 3) := by decide +kernel
theorem dX7_phase_141 : decode cX7_phase 141 = .ok (.dup, 1) := by decide +kernel
theorem dX7_phase_142 : decode cX7_phase 142 = .ok (.ldc 196, 2) := by decide +kernel
theorem dX7_phase_144 : decode cX7_phase 144 = .ok (.invokespecial 45, 3) := by decide +kernel
theorem dX7_phase_147 : decode cX7_phase 147 = .ok (.athrow, 1) := by decide +kernel
set_option maxRecDepth 20000 in
theorem ggX7_rule_X7_checkPhase : GoodIn wsX7_rule wsX7_checkPhase := goodIn_ca (goodIn_r _ [12, 1, 2, 5, 6, 13, 14, 15, 16, 17, 18, 49, 50, 51, 52, 53, 54, 55, 56, 57, 58, 59, 60, 61, 62, 63, 64, 65, 66, 67, 68, 69, 70] (by decide +kernel) (by decide +kernel)) (goodIn_sub (fun _ h => List.mem_cons_of_mem _ (List.mem_append_left _ (List.mem_append_right _ h))) (by decide +kernel))
set_option maxRecDepth 20000 in
theorem gX7_rule_X7_checkPhase : GoodIn wsX7_rule (wsV RX7 95 RX7 yX7_checkPhase wsX7_checkPhase) := goodIn_app (goodIn_of _ (by decide +kernel)) ggX7_rule_X7_checkPhase
set_option maxRecDepth 20000 in
theorem ggX7_rule_X5_at : GoodIn wsX7_rule wsX5_at := goodIn_r _ [23, 24, 71] (by decide +kernel) (by decide +kernel)
set_option maxRecDepth 20000 in
theorem gX7_rule_X5_at : GoodIn wsX7_rule (wsV RX7 62 RX5 yX5_at wsX5_at) := goodIn_app (goodIn_of _ (by decide +kernel)) ggX7_rule_X5_at
set_option maxRecDepth 20000 in
theorem ggX7_rule_X2_goalOf : GoodIn wsX7_rule wsX2_goalOf := goodIn_r _ [28, 29, 30, 20, 21, 22, 23, 24, 63, 64, 65, 66, 67, 68, 69, 70, 71] (by decide +kernel) (by decide +kernel)
set_option maxRecDepth 20000 in
theorem gX7_rule_X2_goalOf : GoodIn wsX7_rule (wsV RX7 203 RX2 yX2_goalOf wsX2_goalOf) := goodIn_app (goodIn_of _ (by decide +kernel)) ggX7_rule_X2_goalOf
set_option maxRecDepth 20000 in
theorem ggX7_rule_X2_askersOf : GoodIn wsX7_rule wsX2_askersOf := goodIn_r _ [34, 35, 30, 20, 21, 22, 23, 24, 63, 64, 65, 66, 67, 68, 69, 70, 71] (by decide +kernel) (by decide +kernel)
set_option maxRecDepth 20000 in
theorem gX7_rule_X2_askersOf : GoodIn wsX7_rule (wsV RX7 206 RX2 yX2_askersOf wsX2_askersOf) := goodIn_app (goodIn_of _ (by decide +kernel)) ggX7_rule_X2_askersOf
set_option maxRecDepth 20000 in
theorem ggX7_rule_X1_waiting : GoodIn wsX7_rule wsX1_waiting := goodIn_r _ [40, 41, 42, 20, 21, 22, 23, 24, 53, 54, 55, 56, 57, 58, 59, 60, 61, 62, 71] (by decide +kernel) (by decide +kernel)
set_option maxRecDepth 20000 in
theorem gX7_rule_X1_waiting : GoodIn wsX7_rule (wsV RX7 142 RX1 yX1_waiting wsX1_waiting) := goodIn_app (goodIn_of _ (by decide +kernel)) ggX7_rule_X1_waiting
set_option maxRecDepth 20000 in
theorem ggX7_rule_X1_ruleHolds : GoodIn wsX7_rule wsX1_ruleHolds := goodIn_r _ [46, 47, 48, 32, 33, 16, 34, 35, 30, 20, 21, 22, 23, 24, 53, 54, 55, 56, 57, 58, 59, 60, 61, 62, 63, 64, 65, 66, 67, 68, 69, 70, 71] (by decide +kernel) (by decide +kernel)
set_option maxRecDepth 20000 in
theorem gX7_rule_X1_ruleHolds : GoodIn wsX7_rule (wsV RX7 209 RX1 yX1_ruleHolds wsX1_ruleHolds) := goodIn_app (goodIn_of _ (by decide +kernel)) ggX7_rule_X1_ruleHolds
theorem dX7_rule_0 : decode cX7_rule 0 = .ok (.aload_n 0, 1) := by decide +kernel
theorem dX7_rule_1 : decode cX7_rule 1 = .ok (.iload_n 1, 1) := by decide +kernel
theorem dX7_rule_2 : decode cX7_rule 2 = .ok (.invokevirtual 95, 3) := by decide +kernel
theorem dX7_rule_5 : decode cX7_rule 5 = .ok (.iload_n 2, 1) := by decide +kernel
theorem dX7_rule_6 : decode cX7_rule 6 = .ok (.ifCond .lt 21, 3) := by decide +kernel
theorem dX7_rule_9 : decode cX7_rule 9 = .ok (.iload_n 2, 1) := by decide +kernel
theorem dX7_rule_10 : decode cX7_rule 10 = .ok (.aload_n 0, 1) := by decide +kernel
theorem dX7_rule_11 : decode cX7_rule 11 = .ok (.getfield 10, 3) := by decide +kernel
theorem dX7_rule_14 : decode cX7_rule 14 = .ok (.getfield 52, 3) := by decide +kernel
theorem dX7_rule_17 : decode cX7_rule 17 = .ok (.getfield 110, 3) := by decide +kernel
theorem dX7_rule_20 : decode cX7_rule 20 = .ok (.iload_n 1, 1) := by decide +kernel
theorem dX7_rule_21 : decode cX7_rule 21 = .ok (.invokevirtual 62, 3) := by decide +kernel
theorem dX7_rule_24 : decode cX7_rule 24 = .ok (.if_icmp .lt 13, 3) := by decide +kernel
theorem dX7_rule_27 : decode cX7_rule 27 = .ok (.new 198, 3) := by decide +kernel
theorem dX7_rule_30 : decode cX7_rule 30 = .ok (.dup, 1) := by decide +kernel
theorem dX7_rule_31 : decode cX7_rule 31 = .ok (.ldc 200, 2) := by decide +kernel
theorem dX7_rule_33 : decode cX7_rule 33 = .ok (.invokespecial 202, 3) := by decide +kernel
theorem dX7_rule_36 : decode cX7_rule 36 = .ok (.athrow, 1) := by decide +kernel
theorem dX7_rule_37 : decode cX7_rule 37 = .ok (.iload_n 3, 1) := by decide +kernel
theorem dX7_rule_38 : decode cX7_rule 38 = .ok (.tableswitch 77 0 2 #[26, 39, 52], 26) := by decide +kernel
theorem dX7_rule_64 : decode cX7_rule 64 = .ok (.aload_n 0, 1) := by decide +kernel
theorem dX7_rule_65 : decode cX7_rule 65 = .ok (.getfield 10, 3) := by decide +kernel
theorem dX7_rule_68 : decode cX7_rule 68 = .ok (.getfield 52, 3) := by decide +kernel
theorem dX7_rule_71 : decode cX7_rule 71 = .ok (.iload_n 1, 1) := by decide +kernel
theorem dX7_rule_72 : decode cX7_rule 72 = .ok (.iload_n 2, 1) := by decide +kernel
theorem dX7_rule_73 : decode cX7_rule 73 = .ok (.invokevirtual 203, 3) := by decide +kernel
theorem dX7_rule_76 : decode cX7_rule 76 = .ok (.ireturn, 1) := by decide +kernel
theorem dX7_rule_77 : decode cX7_rule 77 = .ok (.aload_n 0, 1) := by decide +kernel
theorem dX7_rule_78 : decode cX7_rule 78 = .ok (.getfield 10, 3) := by decide +kernel
theorem dX7_rule_81 : decode cX7_rule 81 = .ok (.getfield 52, 3) := by decide +kernel
theorem dX7_rule_84 : decode cX7_rule 84 = .ok (.iload_n 1, 1) := by decide +kernel
theorem dX7_rule_85 : decode cX7_rule 85 = .ok (.iload_n 2, 1) := by decide +kernel
theorem dX7_rule_86 : decode cX7_rule 86 = .ok (.invokevirtual 206, 3) := by decide +kernel
theorem dX7_rule_89 : decode cX7_rule 89 = .ok (.ireturn, 1) := by decide +kernel
theorem dX7_rule_90 : decode cX7_rule 90 = .ok (.aload_n 0, 1) := by decide +kernel
theorem dX7_rule_91 : decode cX7_rule 91 = .ok (.getfield 10, 3) := by decide +kernel
theorem dX7_rule_94 : decode cX7_rule 94 = .ok (.iload_n 1, 1) := by decide +kernel
theorem dX7_rule_95 : decode cX7_rule 95 = .ok (.iload_n 2, 1) := by decide +kernel
theorem dX7_rule_96 : decode cX7_rule 96 = .ok (.aload_n 0, 1) := by decide +kernel
theorem dX7_rule_97 : decode cX7_rule 97 = .ok (.getfield 10, 3) := by decide +kernel
theorem dX7_rule_100 : decode cX7_rule 100 = .ok (.invokevirtual 142, 3) := by decide +kernel
theorem dX7_rule_103 : decode cX7_rule 103 = .ok (.invokevirtual 209, 3) := by decide +kernel
theorem dX7_rule_106 : decode cX7_rule 106 = .ok (.ifCond .eq 7, 3) := by decide +kernel
theorem dX7_rule_109 : decode cX7_rule 109 = .ok (.iconst 1, 1) := by decide +kernel
theorem dX7_rule_110 : decode cX7_rule 110 = .ok (.goto 4, 3) := by decide +kernel
theorem dX7_rule_113 : decode cX7_rule 113 = .ok (.iconst 0, 1) := by decide +kernel
theorem dX7_rule_114 : decode cX7_rule 114 = .ok (.ireturn, 1) := by decide +kernel
theorem dX7_rule_115 : decode cX7_rule 115 = .ok (.new 41, 3) := by decide +kernel
theorem dX7_rule_118 : decode cX7_rule 118 = .ok (.dup, 1) := by decide +kernel
theorem dX7_rule_119 : decode cX7_rule 119 = .ok (.ldc 213, 2) := by decide +kernel
theorem dX7_rule_121 : decode cX7_rule 121 = .ok (.invokespecial 45, 3) := by decide +kernel
theorem dX7_rule_124 : decode cX7_rule 124 = .ok (.athrow, 1) := by decide +kernel
set_option maxRecDepth 20000 in
theorem ggX7_direction_X7_checkDirection : GoodIn wsX7_direction wsX7_checkDirection := goodIn_ca (goodIn_r _ [12, 1, 2] (by decide +kernel) (by decide +kernel)) (goodIn_sub (fun _ h => List.mem_cons_of_mem _ (List.mem_append_right _ h)) (by decide +kernel))
set_option maxRecDepth 20000 in
theorem gX7_direction_X7_checkDirection : GoodIn wsX7_direction (va_wsS RX7 37 yX7_checkDirection wsX7_checkDirection) := goodIn_app (goodIn_of _ (by decide +kernel)) ggX7_direction_X7_checkDirection
set_option maxRecDepth 20000 in
theorem ggX7_direction_X1_greensNow : GoodIn wsX7_direction wsX1_greensNow := goodIn_r _ [17, 18, 19, 20, 21, 22, 23, 24, 25, 26, 27, 28, 29, 30, 16, 31, 32, 49, 50, 51, 52, 53, 54, 55, 56, 57, 58, 59, 60, 61, 62, 63, 64, 65, 66, 67] (by decide +kernel) (by decide +kernel)
set_option maxRecDepth 20000 in
theorem gX7_direction_X1_greensNow : GoodIn wsX7_direction (wsV RX7 215 RX1 yX1_greensNow wsX1_greensNow) := goodIn_app (goodIn_of _ (by decide +kernel)) ggX7_direction_X1_greensNow
set_option maxRecDepth 20000 in
theorem ggX7_direction_X7_has : GoodIn wsX7_direction wsX7_has := goodIn_r _ [35] (by decide +kernel) (by decide +kernel)
set_option maxRecDepth 20000 in
theorem gX7_direction_X7_has : GoodIn wsX7_direction (va_wsS RX7 68 yX7_has wsX7_has) := goodIn_app (goodIn_of _ (by decide +kernel)) ggX7_direction_X7_has
set_option maxRecDepth 20000 in
theorem ggX7_direction_X5_at : GoodIn wsX7_direction wsX5_at := goodIn_r _ [26, 27, 67] (by decide +kernel) (by decide +kernel)
set_option maxRecDepth 20000 in
theorem gX7_direction_X5_at : GoodIn wsX7_direction (wsV RX7 62 RX5 yX5_at wsX5_at) := goodIn_app (goodIn_of _ (by decide +kernel)) ggX7_direction_X5_at
set_option maxRecDepth 20000 in
theorem ggX7_direction_X2_phasesWith : GoodIn wsX7_direction wsX2_phasesWith := goodIn_r _ [41, 42, 43, 44, 23, 24, 25, 26, 27, 34, 11, 35, 59, 60, 61, 62, 63, 64, 65, 66, 67] (by decide +kernel) (by decide +kernel)
set_option maxRecDepth 20000 in
theorem gX7_direction_X2_phasesWith : GoodIn wsX7_direction (wsV RX7 224 RX2 yX2_phasesWith wsX2_phasesWith) := goodIn_app (goodIn_of _ (by decide +kernel)) ggX7_direction_X2_phasesWith
theorem dX7_direction_0 : decode cX7_direction 0 = .ok (.iload_n 1, 1) := by decide +kernel
theorem dX7_direction_1 : decode cX7_direction 1 = .ok (.invokestatic 37, 3) := by decide +kernel
theorem dX7_direction_4 : decode cX7_direction 4 = .ok (.iload_n 2, 1) := by decide +kernel
theorem dX7_direction_5 : decode cX7_direction 5 = .ok (.tableswitch 122 0 5 #[39, 59, 71, 86, 98, 110], 39) := by decide +kernel
theorem dX7_direction_44 : decode cX7_direction 44 = .ok (.aload_n 0, 1) := by decide +kernel
theorem dX7_direction_45 : decode cX7_direction 45 = .ok (.getfield 10, 3) := by decide +kernel
theorem dX7_direction_48 : decode cX7_direction 48 = .ok (.invokevirtual 215, 3) := by decide +kernel
theorem dX7_direction_51 : decode cX7_direction 51 = .ok (.iload_n 1, 1) := by decide +kernel
theorem dX7_direction_52 : decode cX7_direction 52 = .ok (.invokestatic 68, 3) := by decide +kernel
theorem dX7_direction_55 : decode cX7_direction 55 = .ok (.ifCond .eq 7, 3) := by decide +kernel
theorem dX7_direction_58 : decode cX7_direction 58 = .ok (.iconst 1, 1) := by decide +kernel
theorem dX7_direction_59 : decode cX7_direction 59 = .ok (.goto 4, 3) := by decide +kernel
theorem dX7_direction_62 : decode cX7_direction 62 = .ok (.iconst 0, 1) := by decide +kernel
theorem dX7_direction_63 : decode cX7_direction 63 = .ok (.ireturn, 1) := by decide +kernel
theorem dX7_direction_64 : decode cX7_direction 64 = .ok (.aload_n 0, 1) := by decide +kernel
theorem dX7_direction_65 : decode cX7_direction 65 = .ok (.getfield 10, 3) := by decide +kernel
theorem dX7_direction_68 : decode cX7_direction 68 = .ok (.getfield 134, 3) := by decide +kernel
theorem dX7_direction_71 : decode cX7_direction 71 = .ok (.iload_n 1, 1) := by decide +kernel
theorem dX7_direction_72 : decode cX7_direction 72 = .ok (.invokevirtual 62, 3) := by decide +kernel
theorem dX7_direction_75 : decode cX7_direction 75 = .ok (.ireturn, 1) := by decide +kernel
theorem dX7_direction_76 : decode cX7_direction 76 = .ok (.aload_n 0, 1) := by decide +kernel
theorem dX7_direction_77 : decode cX7_direction 77 = .ok (.getfield 10, 3) := by decide +kernel
theorem dX7_direction_80 : decode cX7_direction 80 = .ok (.getfield 52, 3) := by decide +kernel
theorem dX7_direction_83 : decode cX7_direction 83 = .ok (.getfield 56, 3) := by decide +kernel
theorem dX7_direction_86 : decode cX7_direction 86 = .ok (.iload_n 1, 1) := by decide +kernel
theorem dX7_direction_87 : decode cX7_direction 87 = .ok (.invokevirtual 62, 3) := by decide +kernel
theorem dX7_direction_90 : decode cX7_direction 90 = .ok (.ireturn, 1) := by decide +kernel
theorem dX7_direction_91 : decode cX7_direction 91 = .ok (.aload_n 0, 1) := by decide +kernel
theorem dX7_direction_92 : decode cX7_direction 92 = .ok (.getfield 10, 3) := by decide +kernel
theorem dX7_direction_95 : decode cX7_direction 95 = .ok (.getfield 218, 3) := by decide +kernel
theorem dX7_direction_98 : decode cX7_direction 98 = .ok (.iload_n 1, 1) := by decide +kernel
theorem dX7_direction_99 : decode cX7_direction 99 = .ok (.invokevirtual 62, 3) := by decide +kernel
theorem dX7_direction_102 : decode cX7_direction 102 = .ok (.ireturn, 1) := by decide +kernel
theorem dX7_direction_103 : decode cX7_direction 103 = .ok (.aload_n 0, 1) := by decide +kernel
theorem dX7_direction_104 : decode cX7_direction 104 = .ok (.getfield 10, 3) := by decide +kernel
theorem dX7_direction_107 : decode cX7_direction 107 = .ok (.getfield 221, 3) := by decide +kernel
theorem dX7_direction_110 : decode cX7_direction 110 = .ok (.iload_n 1, 1) := by decide +kernel
theorem dX7_direction_111 : decode cX7_direction 111 = .ok (.invokevirtual 62, 3) := by decide +kernel
theorem dX7_direction_114 : decode cX7_direction 114 = .ok (.ireturn, 1) := by decide +kernel
theorem dX7_direction_115 : decode cX7_direction 115 = .ok (.aload_n 0, 1) := by decide +kernel
theorem dX7_direction_116 : decode cX7_direction 116 = .ok (.getfield 10, 3) := by decide +kernel
theorem dX7_direction_119 : decode cX7_direction 119 = .ok (.getfield 52, 3) := by decide +kernel
theorem dX7_direction_122 : decode cX7_direction 122 = .ok (.iload_n 1, 1) := by decide +kernel
theorem dX7_direction_123 : decode cX7_direction 123 = .ok (.invokevirtual 224, 3) := by decide +kernel
theorem dX7_direction_126 : decode cX7_direction 126 = .ok (.ireturn, 1) := by decide +kernel
theorem dX7_direction_127 : decode cX7_direction 127 = .ok (.new 41, 3) := by decide +kernel
theorem dX7_direction_130 : decode cX7_direction 130 = .ok (.dup, 1) := by decide +kernel
theorem dX7_direction_131 : decode cX7_direction 131 = .ok (.ldc 227, 2) := by decide +kernel
theorem dX7_direction_133 : decode cX7_direction 133 = .ok (.invokespecial 45, 3) := by decide +kernel
theorem dX7_direction_136 : decode cX7_direction 136 = .ok (.athrow, 1) := by decide +kernel
set_option maxRecDepth 20000 in
theorem ggX7_count_X1_isClearing : GoodIn wsX7_count wsX1_isClearing := goodIn_r _ [17, 18, 159, 160, 161, 162, 163, 164, 165, 166, 167, 168] (by decide +kernel) (by decide +kernel)
set_option maxRecDepth 20000 in
theorem gX7_count_X1_isClearing : GoodIn wsX7_count (wsV RX7 235 RX1 yX1_isClearing wsX1_isClearing) := goodIn_app (goodIn_of _ (by decide +kernel)) ggX7_count_X1_isClearing
set_option maxRecDepth 20000 in
theorem ggX7_count_X1_greensNow : GoodIn wsX7_count wsX1_greensNow := goodIn_r _ [22, 23, 24, 25, 26, 27, 28, 29, 30, 31, 32, 33, 14, 15, 16, 17, 18, 159, 160, 161, 162, 163, 164, 165, 166, 167, 168, 169, 170, 171, 172, 173, 174, 175, 176, 180] (by decide +kernel) (by decide +kernel)
set_option maxRecDepth 20000 in
theorem gX7_count_X1_greensNow : GoodIn wsX7_count (wsV RX7 215 RX1 yX1_greensNow wsX1_greensNow) := goodIn_app (goodIn_of _ (by decide +kernel)) ggX7_count_X1_greensNow
set_option maxRecDepth 20000 in
theorem ggX7_count_X1_waiting : GoodIn wsX7_count wsX1_waiting := goodIn_r _ [37, 38, 27, 28, 29, 30, 31, 32, 159, 160, 161, 162, 163, 164, 165, 166, 167, 168, 180] (by decide +kernel) (by decide +kernel)
set_option maxRecDepth 20000 in
theorem gX7_count_X1_waiting : GoodIn wsX7_count (wsV RX7 142 RX1 yX1_waiting wsX1_waiting) := goodIn_app (goodIn_of _ (by decide +kernel)) ggX7_count_X1_waiting
set_option maxRecDepth 20000 in
theorem ggX7_count_X2_unsafePhases : GoodIn wsX7_count wsX2_unsafePhases := goodIn_r _ [43, 44, 45, 46, 47, 42, 48, 49, 50, 51, 28, 29, 30, 31, 32, 52, 53, 54, 169, 170, 171, 172, 173, 174, 175, 176, 180] (by decide +kernel) (by decide +kernel)
set_option maxRecDepth 20000 in
theorem gX7_count_X2_unsafePhases : GoodIn wsX7_count (wsV RX7 244 RX2 yX2_unsafePhases wsX2_unsafePhases) := goodIn_app (goodIn_of _ (by decide +kernel)) ggX7_count_X2_unsafePhases
set_option maxRecDepth 20000 in
theorem ggX7_count_J6_bitCount_0f7a4 : GoodIn wsX7_count wsJ6_bitCount_0f7a4 := goodIn_r _ [58, 59, 60, 61] (by decide +kernel) (by decide +kernel)
set_option maxRecDepth 20000 in
theorem gX7_count_J6_bitCount_0f7a4 : GoodIn wsX7_count (va_wsS RX7 146 yJ6_bitCount_0f7a4 wsJ6_bitCount_0f7a4) := goodIn_app (goodIn_of _ (by decide +kernel)) ggX7_count_J6_bitCount_0f7a4
set_option maxRecDepth 20000 in
theorem ggX7_count_X7_comingPhases : GoodIn wsX7_count wsX7_comingPhases := goodIn_r _ [65, 10, 3, 4, 6, 66, 67, 68, 69, 70, 71, 72, 73, 74, 75, 76, 28, 29, 30, 31, 32, 77, 78, 79, 42, 80, 81, 51, 82, 83, 84, 85, 86, 87, 88, 89, 90, 91, 92, 93, 44, 52, 53, 54, 155, 156, 157, 158, 159, 160, 161, 162, 163, 164, 165, 166, 167, 168, 181, 182, 183, 184, 185, 186, 169, 170, 171, 172, 173, 174, 175, 176, 180] (by decide +kernel) (by decide +kernel)
set_option maxRecDepth 20000 in
theorem gX7_count_X7_comingPhases : GoodIn wsX7_count (wsV RX7 190 RX7 yX7_comingPhases wsX7_comingPhases) := goodIn_app (goodIn_of _ (by decide +kernel)) ggX7_count_X7_comingPhases
set_option maxRecDepth 20000 in
theorem ggX7_count_X7_studyAll : GoodIn wsX7_count wsX7_studyAll := goodIn_r _ [97, 10, 3, 4, 6, 67, 68, 69, 70, 71, 72, 73, 74, 75, 76, 28, 29, 30, 31, 32, 77, 78, 79, 42, 80, 81, 51, 82, 83, 84, 85, 86, 87, 88, 89, 90, 91, 92, 93, 44, 52, 53, 54, 98, 99, 100, 101, 102, 103, 104, 105, 106, 107, 108, 109, 110, 111, 112, 113, 114, 115, 116, 117, 118, 119, 120, 121, 122, 123, 49, 124, 125, 126, 127, 128, 129, 130, 131, 132, 133, 134, 135, 136, 137, 138, 139, 140, 141, 142, 143, 144, 145, 146, 155, 156, 157, 158, 159, 160, 161, 162, 163, 164, 165, 166, 167, 168, 169, 170, 171, 172, 173, 174, 175, 176, 181, 182, 183, 184, 185, 186, 180] (by decide +kernel) (by decide +kernel)
set_option maxRecDepth 20000 in
theorem gX7_count_X7_studyAll : GoodIn wsX7_count (wsV RX7 250 RX7 yX7_studyAll wsX7_studyAll) := goodIn_app (goodIn_of _ (by decide +kernel)) ggX7_count_X7_studyAll
set_option maxRecDepth 20000 in
theorem ggX7_count_X3_starvingDirections : GoodIn wsX7_count wsX3_starvingDirections := goodIn_r _ [150, 151, 152, 153, 70, 154, 103, 75, 76, 28, 29, 30, 31, 32, 181, 182, 183, 184, 185, 186, 180] (by decide +kernel) (by decide +kernel)
set_option maxRecDepth 20000 in
theorem gX7_count_X3_starvingDirections : GoodIn wsX7_count (wsV RX7 253 RX3 yX3_starvingDirections wsX3_starvingDirections) := goodIn_app (goodIn_of _ (by decide +kernel)) ggX7_count_X3_starvingDirections
theorem dX7_count_0 : decode cX7_count 0 = .ok (.iload_n 1, 1) := by decide +kernel
theorem dX7_count_1 : decode cX7_count 1 = .ok (.tableswitch 227 0 11 #[63, 74, 99, 134, 142, 150, 158, 172, 180, 199, 207, 219], 63) := by decide +kernel
theorem dX7_count_64 : decode cX7_count 64 = .ok (.aload_n 0, 1) := by decide +kernel
theorem dX7_count_65 : decode cX7_count 65 = .ok (.getfield 10, 3) := by decide +kernel
theorem dX7_count_68 : decode cX7_count 68 = .ok (.getfield 52, 3) := by decide +kernel
theorem dX7_count_71 : decode cX7_count 71 = .ok (.getfield 229, 3) := by decide +kernel
theorem dX7_count_74 : decode cX7_count 74 = .ok (.ireturn, 1) := by decide +kernel
theorem dX7_count_75 : decode cX7_count 75 = .ok (.aload_n 0, 1) := by decide +kernel
theorem dX7_count_76 : decode cX7_count 76 = .ok (.getfield 10, 3) := by decide +kernel
theorem dX7_count_79 : decode cX7_count 79 = .ok (.getfield 52, 3) := by decide +kernel
theorem dX7_count_82 : decode cX7_count 82 = .ok (.getfield 229, 3) := by decide +kernel
theorem dX7_count_85 : decode cX7_count 85 = .ok (.ifCond .ne 7, 3) := by decide +kernel
theorem dX7_count_88 : decode cX7_count 88 = .ok (.iconst (-1), 1) := by decide +kernel
theorem dX7_count_89 : decode cX7_count 89 = .ok (.goto 10, 3) := by decide +kernel
theorem dX7_count_92 : decode cX7_count 92 = .ok (.aload_n 0, 1) := by decide +kernel
theorem dX7_count_93 : decode cX7_count 93 = .ok (.getfield 10, 3) := by decide +kernel
theorem dX7_count_96 : decode cX7_count 96 = .ok (.getfield 232, 3) := by decide +kernel
theorem dX7_count_99 : decode cX7_count 99 = .ok (.ireturn, 1) := by decide +kernel
theorem dX7_count_100 : decode cX7_count 100 = .ok (.aload_n 0, 1) := by decide +kernel
theorem dX7_count_101 : decode cX7_count 101 = .ok (.getfield 10, 3) := by decide +kernel
theorem dX7_count_104 : decode cX7_count 104 = .ok (.getfield 52, 3) := by decide +kernel
theorem dX7_count_107 : decode cX7_count 107 = .ok (.getfield 229, 3) := by decide +kernel
theorem dX7_count_110 : decode cX7_count 110 = .ok (.ifCond .eq 13, 3) := by decide +kernel
theorem dX7_count_113 : decode cX7_count 113 = .ok (.aload_n 0, 1) := by decide +kernel
theorem dX7_count_114 : decode cX7_count 114 = .ok (.getfield 10, 3) := by decide +kernel
theorem dX7_count_117 : decode cX7_count 117 = .ok (.invokevirtual 235, 3) := by decide +kernel
theorem dX7_count_120 : decode cX7_count 120 = .ok (.ifCond .eq 7, 3) := by decide +kernel
theorem dX7_count_123 : decode cX7_count 123 = .ok (.iconst (-1), 1) := by decide +kernel
theorem dX7_count_124 : decode cX7_count 124 = .ok (.goto 10, 3) := by decide +kernel
theorem dX7_count_127 : decode cX7_count 127 = .ok (.aload_n 0, 1) := by decide +kernel
theorem dX7_count_128 : decode cX7_count 128 = .ok (.getfield 10, 3) := by decide +kernel
theorem dX7_count_131 : decode cX7_count 131 = .ok (.getfield 238, 3) := by decide +kernel
theorem dX7_count_134 : decode cX7_count 134 = .ok (.ireturn, 1) := by decide +kernel
theorem dX7_count_135 : decode cX7_count 135 = .ok (.aload_n 0, 1) := by decide +kernel
theorem dX7_count_136 : decode cX7_count 136 = .ok (.getfield 10, 3) := by decide +kernel
theorem dX7_count_139 : decode cX7_count 139 = .ok (.getfield 241, 3) := by decide +kernel
theorem dX7_count_142 : decode cX7_count 142 = .ok (.ireturn, 1) := by decide +kernel
theorem dX7_count_143 : decode cX7_count 143 = .ok (.aload_n 0, 1) := by decide +kernel
theorem dX7_count_144 : decode cX7_count 144 = .ok (.getfield 10, 3) := by decide +kernel
theorem dX7_count_147 : decode cX7_count 147 = .ok (.invokevirtual 215, 3) := by decide +kernel
theorem dX7_count_150 : decode cX7_count 150 = .ok (.ireturn, 1) := by decide +kernel
theorem dX7_count_151 : decode cX7_count 151 = .ok (.aload_n 0, 1) := by decide +kernel
theorem dX7_count_152 : decode cX7_count 152 = .ok (.getfield 10, 3) := by decide +kernel
theorem dX7_count_155 : decode cX7_count 155 = .ok (.invokevirtual 142, 3) := by decide +kernel
theorem dX7_count_158 : decode cX7_count 158 = .ok (.ireturn, 1) := by decide +kernel
theorem dX7_count_159 : decode cX7_count 159 = .ok (.aload_n 0, 1) := by decide +kernel
theorem dX7_count_160 : decode cX7_count 160 = .ok (.getfield 10, 3) := by decide +kernel
theorem dX7_count_163 : decode cX7_count 163 = .ok (.getfield 52, 3) := by decide +kernel
theorem dX7_count_166 : decode cX7_count 166 = .ok (.invokevirtual 244, 3) := by decide +kernel
theorem dX7_count_169 : decode cX7_count 169 = .ok (.invokestatic 146, 3) := by decide +kernel
theorem dX7_count_172 : decode cX7_count 172 = .ok (.ireturn, 1) := by decide +kernel
theorem dX7_count_173 : decode cX7_count 173 = .ok (.aload_n 0, 1) := by decide +kernel
theorem dX7_count_174 : decode cX7_count 174 = .ok (.invokevirtual 190, 3) := by decide +kernel
theorem dX7_count_177 : decode cX7_count 177 = .ok (.invokestatic 146, 3) := by decide +kernel
theorem dX7_count_180 : decode cX7_count 180 = .ok (.ireturn, 1) := by decide +kernel
theorem dX7_count_181 : decode cX7_count 181 = .ok (.aload_n 0, 1) := by decide +kernel
theorem dX7_count_182 : decode cX7_count 182 = .ok (.invokevirtual 190, 3) := by decide +kernel
theorem dX7_count_185 : decode cX7_count 185 = .ok (.aload_n 0, 1) := by decide +kernel
theorem dX7_count_186 : decode cX7_count 186 = .ok (.getfield 10, 3) := by decide +kernel
theorem dX7_count_189 : decode cX7_count 189 = .ok (.getfield 52, 3) := by decide +kernel
theorem dX7_count_192 : decode cX7_count 192 = .ok (.invokevirtual 244, 3) := by decide +kernel
theorem dX7_count_195 : decode cX7_count 195 = .ok (.iand, 1) := by decide +kernel
theorem dX7_count_196 : decode cX7_count 196 = .ok (.invokestatic 146, 3) := by decide +kernel
theorem dX7_count_199 : decode cX7_count 199 = .ok (.ireturn, 1) := by decide +kernel
theorem dX7_count_200 : decode cX7_count 200 = .ok (.aload_n 0, 1) := by decide +kernel
theorem dX7_count_201 : decode cX7_count 201 = .ok (.getfield 10, 3) := by decide +kernel
theorem dX7_count_204 : decode cX7_count 204 = .ok (.getfield 247, 3) := by decide +kernel
theorem dX7_count_207 : decode cX7_count 207 = .ok (.ireturn, 1) := by decide +kernel
theorem dX7_count_208 : decode cX7_count 208 = .ok (.aload_n 0, 1) := by decide +kernel
theorem dX7_count_209 : decode cX7_count 209 = .ok (.invokevirtual 250, 3) := by decide +kernel
theorem dX7_count_212 : decode cX7_count 212 = .ok (.aload_n 0, 1) := by decide +kernel
theorem dX7_count_213 : decode cX7_count 213 = .ok (.getfield 33, 3) := by decide +kernel
theorem dX7_count_216 : decode cX7_count 216 = .ok (.invokevirtual 253, 3) := by decide +kernel
theorem dX7_count_219 : decode cX7_count 219 = .ok (.ireturn, 1) := by decide +kernel
theorem dX7_count_220 : decode cX7_count 220 = .ok (.aload_n 0, 1) := by decide +kernel
theorem dX7_count_221 : decode cX7_count 221 = .ok (.getfield 19, 3) := by decide +kernel
theorem dX7_count_224 : decode cX7_count 224 = .ok (.getfield 179, 3) := by decide +kernel
theorem dX7_count_227 : decode cX7_count 227 = .ok (.ireturn, 1) := by decide +kernel
theorem dX7_count_228 : decode cX7_count 228 = .ok (.new 41, 3) := by decide +kernel
theorem dX7_count_231 : decode cX7_count 231 = .ok (.dup, 1) := by decide +kernel
theorem dX7_count_232 : decode cX7_count 232 = .ok (.ldc_w 256, 3) := by decide +kernel
theorem dX7_count_235 : decode cX7_count 235 = .ok (.invokespecial 45, 3) := by decide +kernel
theorem dX7_count_238 : decode cX7_count 238 = .ok (.athrow, 1) := by decide +kernel
set_option maxRecDepth 20000 in
theorem ggX7_starves_X7_checkPhase : GoodIn wsX7_starves wsX7_checkPhase := goodIn_ca (goodIn_r _ [6, 7, 8, 9, 10, 11, 12, 13, 14, 15, 16, 113, 114, 115, 116, 117, 118, 119, 120, 121, 122, 123, 124, 125, 126, 127, 128, 129, 130, 131, 132, 133, 134] (by decide +kernel) (by decide +kernel)) (goodIn_sub (fun _ h => List.mem_cons_of_mem _ (List.mem_append_left _ (List.mem_append_right _ h))) (by decide +kernel))
set_option maxRecDepth 20000 in
theorem gX7_starves_X7_checkPhase : GoodIn wsX7_starves (wsV RX7 95 RX7 yX7_checkPhase wsX7_checkPhase) := goodIn_app (goodIn_of _ (by decide +kernel)) ggX7_starves_X7_checkPhase
set_option maxRecDepth 20000 in
theorem ggX7_starves_X7_checkDirection : GoodIn wsX7_starves wsX7_checkDirection := goodIn_ca (goodIn_r _ [19, 20, 21] (by decide +kernel) (by decide +kernel)) (goodIn_sub (fun _ h => List.mem_cons_of_mem _ (List.mem_append_right _ h)) (by decide +kernel))
set_option maxRecDepth 20000 in
theorem gX7_starves_X7_checkDirection : GoodIn wsX7_starves (va_wsS RX7 37 yX7_checkDirection wsX7_checkDirection) := goodIn_app (goodIn_of _ (by decide +kernel)) ggX7_starves_X7_checkDirection
set_option maxRecDepth 20000 in
theorem ggX7_starves_X7_study : GoodIn wsX7_starves wsX7_study := goodIn_r _ [25, 1, 9, 10, 26, 27, 28, 29, 30, 31, 32, 33, 34, 35, 36, 37, 38, 39, 40, 41, 42, 43, 44, 14, 45, 46, 47, 48, 49, 50, 51, 52, 53, 54, 55, 56, 12, 13, 15, 16, 57, 5, 58, 59, 60, 61, 62, 63, 64, 65, 66, 67, 68, 69, 70, 71, 72, 73, 74, 75, 76, 77, 78, 79, 80, 81, 82, 83, 84, 85, 86, 87, 88, 89, 90, 91, 92, 93, 94, 95, 96, 97, 98, 99, 100, 101, 102, 103, 104, 105, 106, 107, 108, 113, 114, 115, 116, 117, 118, 119, 120, 121, 122, 123, 124, 125, 126, 127, 128, 129, 130, 131, 132, 133, 134, 135, 136, 137, 138, 139, 140, 141] (by decide +kernel) (by decide +kernel)
set_option maxRecDepth 20000 in
theorem gX7_starves_X7_study : GoodIn wsX7_starves (wsV RX7 258 RX7 yX7_study wsX7_study) := goodIn_app (goodIn_of _ (by decide +kernel)) ggX7_starves_X7_study
set_option maxRecDepth 20000 in
theorem ggX7_starves_X3_starvesFrom : GoodIn wsX7_starves wsX3_starvesFrom := goodIn_r _ [112, 64, 36, 37, 38, 39, 40, 41, 57, 5, 58, 135, 136, 137, 138, 139, 140, 141] (by decide +kernel) (by decide +kernel)
set_option maxRecDepth 20000 in
theorem gX7_starves_X3_starvesFrom : GoodIn wsX7_starves (wsV RX7 261 RX3 yX3_starvesFrom wsX3_starvesFrom) := goodIn_app (goodIn_of _ (by decide +kernel)) ggX7_starves_X3_starvesFrom
theorem dX7_starves_0 : decode cX7_starves 0 = .ok (.aload_n 0, 1) := by decide +kernel
theorem dX7_starves_1 : decode cX7_starves 1 = .ok (.iload_n 2, 1) := by decide +kernel
theorem dX7_starves_2 : decode cX7_starves 2 = .ok (.invokevirtual 95, 3) := by decide +kernel
theorem dX7_starves_5 : decode cX7_starves 5 = .ok (.iload_n 1, 1) := by decide +kernel
theorem dX7_starves_6 : decode cX7_starves 6 = .ok (.invokestatic 37, 3) := by decide +kernel
theorem dX7_starves_9 : decode cX7_starves 9 = .ok (.aload_n 0, 1) := by decide +kernel
theorem dX7_starves_10 : decode cX7_starves 10 = .ok (.iload_n 1, 1) := by decide +kernel
theorem dX7_starves_11 : decode cX7_starves 11 = .ok (.invokevirtual 258, 3) := by decide +kernel
theorem dX7_starves_14 : decode cX7_starves 14 = .ok (.aload_n 0, 1) := by decide +kernel
theorem dX7_starves_15 : decode cX7_starves 15 = .ok (.getfield 33, 3) := by decide +kernel
theorem dX7_starves_18 : decode cX7_starves 18 = .ok (.iload_n 1, 1) := by decide +kernel
theorem dX7_starves_19 : decode cX7_starves 19 = .ok (.iload_n 2, 1) := by decide +kernel
theorem dX7_starves_20 : decode cX7_starves 20 = .ok (.invokevirtual 261, 3) := by decide +kernel
theorem dX7_starves_23 : decode cX7_starves 23 = .ok (.ifCond .eq 7, 3) := by decide +kernel
theorem dX7_starves_26 : decode cX7_starves 26 = .ok (.iconst 1, 1) := by decide +kernel
theorem dX7_starves_27 : decode cX7_starves 27 = .ok (.goto 4, 3) := by decide +kernel
theorem dX7_starves_30 : decode cX7_starves 30 = .ok (.iconst 0, 1) := by decide +kernel
theorem dX7_starves_31 : decode cX7_starves 31 = .ok (.ireturn, 1) := by decide +kernel
set_option maxRecDepth 20000 in
theorem ggX7_waitFor_X7_checkPhase : GoodIn wsX7_waitFor wsX7_checkPhase := goodIn_ca (goodIn_r _ [6, 7, 8, 9, 10, 11, 12, 13, 14, 15, 16, 121, 122, 123, 124, 125, 126, 127, 128, 129, 130, 131, 132, 133, 134, 135, 136, 137, 138, 139, 140, 141, 142] (by decide +kernel) (by decide +kernel)) (goodIn_sub (fun _ h => List.mem_cons_of_mem _ (List.mem_append_left _ (List.mem_append_right _ h))) (by decide +kernel))
set_option maxRecDepth 20000 in
theorem gX7_waitFor_X7_checkPhase : GoodIn wsX7_waitFor (wsV RX7 95 RX7 yX7_checkPhase wsX7_checkPhase) := goodIn_app (goodIn_of _ (by decide +kernel)) ggX7_waitFor_X7_checkPhase
set_option maxRecDepth 20000 in
theorem ggX7_waitFor_X7_checkDirection : GoodIn wsX7_waitFor wsX7_checkDirection := goodIn_ca (goodIn_r _ [19, 20, 21] (by decide +kernel) (by decide +kernel)) (goodIn_sub (fun _ h => List.mem_cons_of_mem _ (List.mem_append_right _ h)) (by decide +kernel))
set_option maxRecDepth 20000 in
theorem gX7_waitFor_X7_checkDirection : GoodIn wsX7_waitFor (va_wsS RX7 37 yX7_checkDirection wsX7_checkDirection) := goodIn_app (goodIn_of _ (by decide +kernel)) ggX7_waitFor_X7_checkDirection
set_option maxRecDepth 20000 in
theorem ggX7_waitFor_X7_study : GoodIn wsX7_waitFor wsX7_study := goodIn_r _ [25, 1, 9, 10, 26, 27, 28, 29, 30, 31, 32, 33, 34, 35, 36, 37, 38, 39, 40, 41, 42, 43, 44, 14, 45, 46, 47, 48, 49, 50, 51, 52, 53, 54, 55, 56, 12, 13, 15, 16, 57, 5, 58, 59, 60, 61, 62, 63, 64, 65, 66, 67, 68, 69, 70, 71, 72, 73, 74, 75, 76, 77, 78, 79, 80, 81, 82, 83, 84, 85, 86, 87, 88, 89, 90, 91, 92, 93, 94, 95, 96, 97, 98, 99, 100, 101, 102, 103, 104, 105, 106, 107, 108, 121, 122, 123, 124, 125, 126, 127, 128, 129, 130, 131, 132, 133, 134, 135, 136, 137, 138, 139, 140, 141, 142, 143, 144, 145, 146, 147, 148, 149] (by decide +kernel) (by decide +kernel)
set_option maxRecDepth 20000 in
theorem gX7_waitFor_X7_study : GoodIn wsX7_waitFor (wsV RX7 258 RX7 yX7_study wsX7_study) := goodIn_app (goodIn_of _ (by decide +kernel)) ggX7_waitFor_X7_study
set_option maxRecDepth 20000 in
theorem ggX7_waitFor_X3_longestFrom : GoodIn wsX7_waitFor wsX3_longestFrom := goodIn_r _ [112, 90, 113, 114, 115, 30, 116, 64, 36, 37, 38, 39, 40, 41, 57, 5, 58, 65, 66, 67, 143, 144, 145, 146, 147, 148, 149] (by decide +kernel) (by decide +kernel)
set_option maxRecDepth 20000 in
theorem gX7_waitFor_X3_longestFrom : GoodIn wsX7_waitFor (wsV RX7 268 RX3 yX3_longestFrom wsX3_longestFrom) := goodIn_app (goodIn_of _ (by decide +kernel)) ggX7_waitFor_X3_longestFrom
set_option maxRecDepth 20000 in
theorem ggX7_waitFor_X3_shortestFrom : GoodIn wsX7_waitFor wsX3_shortestFrom := goodIn_r _ [120, 91, 65, 66, 30, 67, 36, 37, 38, 39, 40, 41, 143, 144, 145, 146, 147, 148, 149] (by decide +kernel) (by decide +kernel)
set_option maxRecDepth 20000 in
theorem gX7_waitFor_X3_shortestFrom : GoodIn wsX7_waitFor (wsV RX7 271 RX3 yX3_shortestFrom wsX3_shortestFrom) := goodIn_app (goodIn_of _ (by decide +kernel)) ggX7_waitFor_X3_shortestFrom
theorem dX7_waitFor_0 : decode cX7_waitFor 0 = .ok (.aload_n 0, 1) := by decide +kernel
theorem dX7_waitFor_1 : decode cX7_waitFor 1 = .ok (.iload_n 2, 1) := by decide +kernel
theorem dX7_waitFor_2 : decode cX7_waitFor 2 = .ok (.invokevirtual 95, 3) := by decide +kernel
theorem dX7_waitFor_5 : decode cX7_waitFor 5 = .ok (.iload_n 1, 1) := by decide +kernel
theorem dX7_waitFor_6 : decode cX7_waitFor 6 = .ok (.invokestatic 37, 3) := by decide +kernel
theorem dX7_waitFor_9 : decode cX7_waitFor 9 = .ok (.aload_n 0, 1) := by decide +kernel
theorem dX7_waitFor_10 : decode cX7_waitFor 10 = .ok (.iload_n 1, 1) := by decide +kernel
theorem dX7_waitFor_11 : decode cX7_waitFor 11 = .ok (.invokevirtual 258, 3) := by decide +kernel
theorem dX7_waitFor_14 : decode cX7_waitFor 14 = .ok (.iload_n 3, 1) := by decide +kernel
theorem dX7_waitFor_15 : decode cX7_waitFor 15 = .ok (.ifCond .eq 15, 3) := by decide +kernel
theorem dX7_waitFor_18 : decode cX7_waitFor 18 = .ok (.aload_n 0, 1) := by decide +kernel
theorem dX7_waitFor_19 : decode cX7_waitFor 19 = .ok (.getfield 33, 3) := by decide +kernel
theorem dX7_waitFor_22 : decode cX7_waitFor 22 = .ok (.iload_n 1, 1) := by decide +kernel
theorem dX7_waitFor_23 : decode cX7_waitFor 23 = .ok (.iload_n 2, 1) := by decide +kernel
theorem dX7_waitFor_24 : decode cX7_waitFor 24 = .ok (.invokevirtual 268, 3) := by decide +kernel
theorem dX7_waitFor_27 : decode cX7_waitFor 27 = .ok (.goto 12, 3) := by decide +kernel
theorem dX7_waitFor_30 : decode cX7_waitFor 30 = .ok (.aload_n 0, 1) := by decide +kernel
theorem dX7_waitFor_31 : decode cX7_waitFor 31 = .ok (.getfield 33, 3) := by decide +kernel
theorem dX7_waitFor_34 : decode cX7_waitFor 34 = .ok (.iload_n 1, 1) := by decide +kernel
theorem dX7_waitFor_35 : decode cX7_waitFor 35 = .ok (.iload_n 2, 1) := by decide +kernel
theorem dX7_waitFor_36 : decode cX7_waitFor 36 = .ok (.invokevirtual 271, 3) := by decide +kernel
theorem dX7_waitFor_39 : decode cX7_waitFor 39 = .ok (.ireturn, 1) := by decide +kernel
set_option maxRecDepth 20000 in
theorem ggX7_safeShare_X2_unsafePhases : GoodIn wsX7_safeShare wsX2_unsafePhases := goodIn_r _ [8, 9, 10, 11, 12, 7, 13, 14, 15, 16, 17, 18, 19, 20, 21, 22, 23, 24, 46, 47, 48, 49, 50, 51, 52, 53, 54] (by decide +kernel) (by decide +kernel)
set_option maxRecDepth 20000 in
theorem gX7_safeShare_X2_unsafePhases : GoodIn wsX7_safeShare (wsV RX7 244 RX2 yX2_unsafePhases wsX2_unsafePhases) := goodIn_app (goodIn_of _ (by decide +kernel)) ggX7_safeShare_X2_unsafePhases
set_option maxRecDepth 20000 in
theorem ggX7_safeShare_J6_bitCount_0f7a4 : GoodIn wsX7_safeShare wsJ6_bitCount_0f7a4 := goodIn_r _ [28, 29, 30, 31] (by decide +kernel) (by decide +kernel)
set_option maxRecDepth 20000 in
theorem gX7_safeShare_J6_bitCount_0f7a4 : GoodIn wsX7_safeShare (va_wsS RX7 146 yJ6_bitCount_0f7a4 wsJ6_bitCount_0f7a4) := goodIn_app (goodIn_of _ (by decide +kernel)) ggX7_safeShare_J6_bitCount_0f7a4
theorem dX7_safeShare_0 : decode cX7_safeShare 0 = .ok (.aload_n 0, 1) := by decide +kernel
theorem dX7_safeShare_1 : decode cX7_safeShare 1 = .ok (.getfield 10, 3) := by decide +kernel
theorem dX7_safeShare_4 : decode cX7_safeShare 4 = .ok (.getfield 52, 3) := by decide +kernel
theorem dX7_safeShare_7 : decode cX7_safeShare 7 = .ok (.getfield 229, 3) := by decide +kernel
theorem dX7_safeShare_10 : decode cX7_safeShare 10 = .ok (.istore_n 1, 1) := by decide +kernel
theorem dX7_safeShare_11 : decode cX7_safeShare 11 = .ok (.iload_n 1, 1) := by decide +kernel
theorem dX7_safeShare_12 : decode cX7_safeShare 12 = .ok (.ifCond .ne 5, 3) := by decide +kernel
theorem dX7_safeShare_15 : decode cX7_safeShare 15 = .ok (.dconst 1, 1) := by decide +kernel
theorem dX7_safeShare_16 : decode cX7_safeShare 16 = .ok (.dreturn, 1) := by decide +kernel
theorem dX7_safeShare_17 : decode cX7_safeShare 17 = .ok (.iload_n 1, 1) := by decide +kernel
theorem dX7_safeShare_18 : decode cX7_safeShare 18 = .ok (.aload_n 0, 1) := by decide +kernel
theorem dX7_safeShare_19 : decode cX7_safeShare 19 = .ok (.getfield 10, 3) := by decide +kernel
theorem dX7_safeShare_22 : decode cX7_safeShare 22 = .ok (.getfield 52, 3) := by decide +kernel
theorem dX7_safeShare_25 : decode cX7_safeShare 25 = .ok (.invokevirtual 244, 3) := by decide +kernel
theorem dX7_safeShare_28 : decode cX7_safeShare 28 = .ok (.invokestatic 146, 3) := by decide +kernel
theorem dX7_safeShare_31 : decode cX7_safeShare 31 = .ok (.isub, 1) := by decide +kernel
theorem dX7_safeShare_32 : decode cX7_safeShare 32 = .ok (.istore_n 2, 1) := by decide +kernel
theorem dX7_safeShare_33 : decode cX7_safeShare 33 = .ok (.iload_n 2, 1) := by decide +kernel
theorem dX7_safeShare_34 : decode cX7_safeShare 34 = .ok (.i2d, 1) := by decide +kernel
theorem dX7_safeShare_35 : decode cX7_safeShare 35 = .ok (.iload_n 1, 1) := by decide +kernel
theorem dX7_safeShare_36 : decode cX7_safeShare 36 = .ok (.i2d, 1) := by decide +kernel
theorem dX7_safeShare_37 : decode cX7_safeShare 37 = .ok (.ddiv, 1) := by decide +kernel
theorem dX7_safeShare_38 : decode cX7_safeShare 38 = .ok (.dreturn, 1) := by decide +kernel
set_option maxRecDepth 20000 in
theorem ggX7_comingPhases_X3_noteComing : GoodIn wsX7_comingPhases wsX3_noteComing := goodIn_r _ [10, 11, 12, 13, 14, 15, 16, 17, 18, 19, 20, 21, 22, 23, 24, 25, 26, 27, 28, 29, 30, 31, 32, 33, 34, 9, 35, 36, 37, 38, 39, 40, 41, 42, 43, 64, 65, 66, 67, 68, 69, 70, 71, 58, 59, 60, 61, 62, 63, 72] (by decide +kernel) (by decide +kernel)
set_option maxRecDepth 20000 in
theorem gX7_comingPhases_X3_noteComing : GoodIn wsX7_comingPhases (wsV RX7 324 RX3 yX3_noteComing wsX3_noteComing) := goodIn_app (goodIn_of _ (by decide +kernel)) ggX7_comingPhases_X3_noteComing
theorem dX7_comingPhases_0 : decode cX7_comingPhases 0 = .ok (.aload_n 0, 1) := by decide +kernel
theorem dX7_comingPhases_1 : decode cX7_comingPhases 1 = .ok (.getfield 33, 3) := by decide +kernel
theorem dX7_comingPhases_4 : decode cX7_comingPhases 4 = .ok (.aload_n 0, 1) := by decide +kernel
theorem dX7_comingPhases_5 : decode cX7_comingPhases 5 = .ok (.getfield 10, 3) := by decide +kernel
theorem dX7_comingPhases_8 : decode cX7_comingPhases 8 = .ok (.getfield 52, 3) := by decide +kernel
theorem dX7_comingPhases_11 : decode cX7_comingPhases 11 = .ok (.aload_n 0, 1) := by decide +kernel
theorem dX7_comingPhases_12 : decode cX7_comingPhases 12 = .ok (.getfield 10, 3) := by decide +kernel
theorem dX7_comingPhases_15 : decode cX7_comingPhases 15 = .ok (.getfield 232, 3) := by decide +kernel
theorem dX7_comingPhases_18 : decode cX7_comingPhases 18 = .ok (.invokevirtual 324, 3) := by decide +kernel
theorem dX7_comingPhases_21 : decode cX7_comingPhases 21 = .ok (.aload_n 0, 1) := by decide +kernel
theorem dX7_comingPhases_22 : decode cX7_comingPhases 22 = .ok (.getfield 33, 3) := by decide +kernel
theorem dX7_comingPhases_25 : decode cX7_comingPhases 25 = .ok (.getfield 328, 3) := by decide +kernel
theorem dX7_comingPhases_28 : decode cX7_comingPhases 28 = .ok (.ireturn, 1) := by decide +kernel
set_option maxRecDepth 20000 in
theorem ggX7_study_X3_noteComing : GoodIn wsX7_study wsX3_noteComing := goodIn_r _ [9, 10, 11, 12, 13, 14, 15, 16, 17, 18, 19, 20, 21, 22, 23, 24, 25, 26, 27, 28, 29, 30, 31, 32, 33, 8, 34, 35, 36, 37, 38, 39, 40, 41, 42, 107, 108, 109, 110, 111, 112, 113, 114, 115, 116, 117, 118, 119, 120, 121] (by decide +kernel) (by decide +kernel)
set_option maxRecDepth 20000 in
theorem gX7_study_X3_noteComing : GoodIn wsX7_study (wsV RX7 324 RX3 yX3_noteComing wsX3_noteComing) := goodIn_app (goodIn_of _ (by decide +kernel)) ggX7_study_X3_noteComing
set_option maxRecDepth 20000 in
theorem ggX7_study_X3_noteStarving : GoodIn wsX7_study wsX3_noteStarving := goodIn_r _ [46, 10, 47, 48, 49, 50, 8, 51, 52, 53, 54, 55, 11, 14, 15, 16, 17, 18, 19, 56, 57, 58, 23, 59, 60, 26, 40, 41, 42, 20, 21, 22, 24, 25, 27, 28, 29, 30, 61, 62, 63, 64, 65, 66, 67, 68, 39, 69, 107, 108, 109, 110, 111, 112, 113, 114, 115, 116, 117, 118, 119, 120, 121] (by decide +kernel) (by decide +kernel)
set_option maxRecDepth 20000 in
theorem gX7_study_X3_noteStarving : GoodIn wsX7_study (wsV RX7 331 RX3 yX3_noteStarving wsX3_noteStarving) := goodIn_app (goodIn_of _ (by decide +kernel)) ggX7_study_X3_noteStarving
set_option maxRecDepth 20000 in
theorem ggX7_study_X3_noteWaits : GoodIn wsX7_study wsX3_noteWaits := goodIn_r _ [73, 10, 74, 75, 65, 66, 67, 23, 68, 39, 69, 26, 15, 16, 17, 18, 19, 40, 41, 42, 49, 50, 8, 51, 27, 28, 29, 30, 76, 77, 78, 79, 47, 80, 81, 82, 83, 84, 85, 86, 87, 14, 88, 89, 90, 91, 92, 107, 108, 109, 110, 111, 112, 113, 114, 115, 116, 117, 118, 119, 120, 121] (by decide +kernel) (by decide +kernel)
set_option maxRecDepth 20000 in
theorem gX7_study_X3_noteWaits : GoodIn wsX7_study (wsV RX7 334 RX3 yX3_noteWaits wsX3_noteWaits) := goodIn_app (goodIn_of _ (by decide +kernel)) ggX7_study_X3_noteWaits
theorem dX7_study_0 : decode cX7_study 0 = .ok (.aload_n 0, 1) := by decide +kernel
theorem dX7_study_1 : decode cX7_study 1 = .ok (.getfield 33, 3) := by decide +kernel
theorem dX7_study_4 : decode cX7_study 4 = .ok (.aload_n 0, 1) := by decide +kernel
theorem dX7_study_5 : decode cX7_study 5 = .ok (.getfield 10, 3) := by decide +kernel
theorem dX7_study_8 : decode cX7_study 8 = .ok (.getfield 52, 3) := by decide +kernel
theorem dX7_study_11 : decode cX7_study 11 = .ok (.aload_n 0, 1) := by decide +kernel
theorem dX7_study_12 : decode cX7_study 12 = .ok (.getfield 10, 3) := by decide +kernel
theorem dX7_study_15 : decode cX7_study 15 = .ok (.getfield 232, 3) := by decide +kernel
theorem dX7_study_18 : decode cX7_study 18 = .ok (.invokevirtual 324, 3) := by decide +kernel
theorem dX7_study_21 : decode cX7_study 21 = .ok (.aload_n 0, 1) := by decide +kernel
theorem dX7_study_22 : decode cX7_study 22 = .ok (.getfield 33, 3) := by decide +kernel
theorem dX7_study_25 : decode cX7_study 25 = .ok (.aload_n 0, 1) := by decide +kernel
theorem dX7_study_26 : decode cX7_study 26 = .ok (.getfield 10, 3) := by decide +kernel
theorem dX7_study_29 : decode cX7_study 29 = .ok (.getfield 52, 3) := by decide +kernel
theorem dX7_study_32 : decode cX7_study 32 = .ok (.iload_n 1, 1) := by decide +kernel
theorem dX7_study_33 : decode cX7_study 33 = .ok (.invokevirtual 331, 3) := by decide +kernel
theorem dX7_study_36 : decode cX7_study 36 = .ok (.aload_n 0, 1) := by decide +kernel
theorem dX7_study_37 : decode cX7_study 37 = .ok (.getfield 33, 3) := by decide +kernel
theorem dX7_study_40 : decode cX7_study 40 = .ok (.aload_n 0, 1) := by decide +kernel
theorem dX7_study_41 : decode cX7_study 41 = .ok (.getfield 10, 3) := by decide +kernel
theorem dX7_study_44 : decode cX7_study 44 = .ok (.getfield 52, 3) := by decide +kernel
theorem dX7_study_47 : decode cX7_study 47 = .ok (.iload_n 1, 1) := by decide +kernel
theorem dX7_study_48 : decode cX7_study 48 = .ok (.invokevirtual 334, 3) := by decide +kernel
theorem dX7_study_51 : decode cX7_study 51 = .ok (.return_, 1) := by decide +kernel
set_option maxRecDepth 20000 in
theorem ggX7_studyAll_X3_noteComing : GoodIn wsX7_studyAll wsX3_noteComing := goodIn_r _ [9, 10, 11, 12, 13, 14, 15, 16, 17, 18, 19, 20, 21, 22, 23, 24, 25, 26, 27, 28, 29, 30, 31, 32, 33, 8, 34, 35, 36, 37, 38, 39, 40, 41, 42, 107, 108, 109, 110, 111, 112, 113, 114, 115, 116, 117, 118, 119, 120, 121] (by decide +kernel) (by decide +kernel)
set_option maxRecDepth 20000 in
theorem gX7_studyAll_X3_noteComing : GoodIn wsX7_studyAll (wsV RX7 324 RX3 yX3_noteComing wsX3_noteComing) := goodIn_app (goodIn_of _ (by decide +kernel)) ggX7_studyAll_X3_noteComing
set_option maxRecDepth 20000 in
theorem ggX7_studyAll_X3_noteStarving : GoodIn wsX7_studyAll wsX3_noteStarving := goodIn_r _ [46, 10, 47, 48, 49, 50, 8, 51, 52, 53, 54, 55, 11, 14, 15, 16, 17, 18, 19, 56, 57, 58, 23, 59, 60, 26, 40, 41, 42, 20, 21, 22, 24, 25, 27, 28, 29, 30, 61, 62, 63, 64, 65, 66, 67, 68, 39, 69, 107, 108, 109, 110, 111, 112, 113, 114, 115, 116, 117, 118, 119, 120, 121] (by decide +kernel) (by decide +kernel)
set_option maxRecDepth 20000 in
theorem gX7_studyAll_X3_noteStarving : GoodIn wsX7_studyAll (wsV RX7 331 RX3 yX3_noteStarving wsX3_noteStarving) := goodIn_app (goodIn_of _ (by decide +kernel)) ggX7_studyAll_X3_noteStarving
set_option maxRecDepth 20000 in
theorem ggX7_studyAll_X3_noteWaits : GoodIn wsX7_studyAll wsX3_noteWaits := goodIn_r _ [73, 10, 74, 75, 65, 66, 67, 23, 68, 39, 69, 26, 15, 16, 17, 18, 19, 40, 41, 42, 49, 50, 8, 51, 27, 28, 29, 30, 76, 77, 78, 79, 47, 80, 81, 82, 83, 84, 85, 86, 87, 14, 88, 89, 90, 91, 92, 107, 108, 109, 110, 111, 112, 113, 114, 115, 116, 117, 118, 119, 120, 121] (by decide +kernel) (by decide +kernel)
set_option maxRecDepth 20000 in
theorem gX7_studyAll_X3_noteWaits : GoodIn wsX7_studyAll (wsV RX7 334 RX3 yX3_noteWaits wsX3_noteWaits) := goodIn_app (goodIn_of _ (by decide +kernel)) ggX7_studyAll_X3_noteWaits
theorem dX7_studyAll_0 : decode cX7_studyAll 0 = .ok (.aload_n 0, 1) := by decide +kernel
theorem dX7_studyAll_1 : decode cX7_studyAll 1 = .ok (.getfield 33, 3) := by decide +kernel
theorem dX7_studyAll_4 : decode cX7_studyAll 4 = .ok (.aload_n 0, 1) := by decide +kernel
theorem dX7_studyAll_5 : decode cX7_studyAll 5 = .ok (.getfield 10, 3) := by decide +kernel
theorem dX7_studyAll_8 : decode cX7_studyAll 8 = .ok (.getfield 52, 3) := by decide +kernel
theorem dX7_studyAll_11 : decode cX7_studyAll 11 = .ok (.aload_n 0, 1) := by decide +kernel
theorem dX7_studyAll_12 : decode cX7_studyAll 12 = .ok (.getfield 10, 3) := by decide +kernel
theorem dX7_studyAll_15 : decode cX7_studyAll 15 = .ok (.getfield 232, 3) := by decide +kernel
theorem dX7_studyAll_18 : decode cX7_studyAll 18 = .ok (.invokevirtual 324, 3) := by decide +kernel
theorem dX7_studyAll_21 : decode cX7_studyAll 21 = .ok (.iconst 0, 1) := by decide +kernel
theorem dX7_studyAll_22 : decode cX7_studyAll 22 = .ok (.istore_n 1, 1) := by decide +kernel
theorem dX7_studyAll_23 : decode cX7_studyAll 23 = .ok (.iload_n 1, 1) := by decide +kernel
theorem dX7_studyAll_24 : decode cX7_studyAll 24 = .ok (.bipush 6, 2) := by decide +kernel
theorem dX7_studyAll_26 : decode cX7_studyAll 26 = .ok (.if_icmp .ge 39, 3) := by decide +kernel
theorem dX7_studyAll_29 : decode cX7_studyAll 29 = .ok (.aload_n 0, 1) := by decide +kernel
theorem dX7_studyAll_30 : decode cX7_studyAll 30 = .ok (.getfield 33, 3) := by decide +kernel
theorem dX7_studyAll_33 : decode cX7_studyAll 33 = .ok (.aload_n 0, 1) := by decide +kernel
theorem dX7_studyAll_34 : decode cX7_studyAll 34 = .ok (.getfield 10, 3) := by decide +kernel
theorem dX7_studyAll_37 : decode cX7_studyAll 37 = .ok (.getfield 52, 3) := by decide +kernel
theorem dX7_studyAll_40 : decode cX7_studyAll 40 = .ok (.iload_n 1, 1) := by decide +kernel
theorem dX7_studyAll_41 : decode cX7_studyAll 41 = .ok (.invokevirtual 331, 3) := by decide +kernel
theorem dX7_studyAll_44 : decode cX7_studyAll 44 = .ok (.aload_n 0, 1) := by decide +kernel
theorem dX7_studyAll_45 : decode cX7_studyAll 45 = .ok (.getfield 33, 3) := by decide +kernel
theorem dX7_studyAll_48 : decode cX7_studyAll 48 = .ok (.aload_n 0, 1) := by decide +kernel
theorem dX7_studyAll_49 : decode cX7_studyAll 49 = .ok (.getfield 10, 3) := by decide +kernel
theorem dX7_studyAll_52 : decode cX7_studyAll 52 = .ok (.getfield 52, 3) := by decide +kernel
theorem dX7_studyAll_55 : decode cX7_studyAll 55 = .ok (.iload_n 1, 1) := by decide +kernel
theorem dX7_studyAll_56 : decode cX7_studyAll 56 = .ok (.invokevirtual 334, 3) := by decide +kernel
theorem dX7_studyAll_59 : decode cX7_studyAll 59 = .ok (.iinc 1 1, 3) := by decide +kernel
theorem dX7_studyAll_62 : decode cX7_studyAll 62 = .ok (.goto (-39), 3) := by decide +kernel
theorem dX7_studyAll_65 : decode cX7_studyAll 65 = .ok (.return_, 1) := by decide +kernel
set_option maxRecDepth 20000 in
theorem ggX7_checkPhase_X2_hasPhase : GoodIn wsX7_checkPhase wsX2_hasPhase := goodIn_r _ [9, 10, 25, 26, 27, 28, 29, 30, 31, 32] (by decide +kernel) (by decide +kernel)
set_option maxRecDepth 20000 in
theorem gX7_checkPhase_X2_hasPhase : GoodIn wsX7_checkPhase (wsV RX7 337 RX2 yX2_hasPhase wsX2_hasPhase) := goodIn_app (goodIn_of _ (by decide +kernel)) ggX7_checkPhase_X2_hasPhase
theorem dX7_checkPhase_0 : decode cX7_checkPhase 0 = .ok (.aload_n 0, 1) := by decide +kernel
theorem dX7_checkPhase_1 : decode cX7_checkPhase 1 = .ok (.getfield 10, 3) := by decide +kernel
theorem dX7_checkPhase_4 : decode cX7_checkPhase 4 = .ok (.getfield 52, 3) := by decide +kernel
theorem dX7_checkPhase_7 : decode cX7_checkPhase 7 = .ok (.iload_n 1, 1) := by decide +kernel
theorem dX7_checkPhase_8 : decode cX7_checkPhase 8 = .ok (.invokevirtual 337, 3) := by decide +kernel
theorem dX7_checkPhase_11 : decode cX7_checkPhase 11 = .ok (.ifCond .ne 14, 3) := by decide +kernel
theorem dX7_checkPhase_14 : decode cX7_checkPhase 14 = .ok (.new 198, 3) := by decide +kernel
theorem dX7_checkPhase_17 : decode cX7_checkPhase 17 = .ok (.dup, 1) := by decide +kernel
theorem dX7_checkPhase_18 : decode cX7_checkPhase 18 = .ok (.ldc_w 340, 3) := by decide +kernel
theorem dX7_checkPhase_21 : decode cX7_checkPhase 21 = .ok (.invokespecial 202, 3) := by decide +kernel
theorem dX7_checkPhase_24 : decode cX7_checkPhase 24 = .ok (.athrow, 1) := by decide +kernel
theorem dX7_checkPhase_25 : decode cX7_checkPhase 25 = .ok (.return_, 1) := by decide +kernel
theorem dX7_checkDirection_0 : decode cX7_checkDirection 0 = .ok (.iload_n 0, 1) := by decide +kernel
theorem dX7_checkDirection_1 : decode cX7_checkDirection 1 = .ok (.ifCond .lt 9, 3) := by decide +kernel
theorem dX7_checkDirection_4 : decode cX7_checkDirection 4 = .ok (.iload_n 0, 1) := by decide +kernel
theorem dX7_checkDirection_5 : decode cX7_checkDirection 5 = .ok (.bipush 6, 2) := by decide +kernel
theorem dX7_checkDirection_7 : decode cX7_checkDirection 7 = .ok (.if_icmp .lt 14, 3) := by decide +kernel
theorem dX7_checkDirection_10 : decode cX7_checkDirection 10 = .ok (.new 41, 3) := by decide +kernel
theorem dX7_checkDirection_13 : decode cX7_checkDirection 13 = .ok (.dup, 1) := by decide +kernel
theorem dX7_checkDirection_14 : decode cX7_checkDirection 14 = .ok (.ldc_w 342, 3) := by decide +kernel
theorem dX7_checkDirection_17 : decode cX7_checkDirection 17 = .ok (.invokespecial 45, 3) := by decide +kernel
theorem dX7_checkDirection_20 : decode cX7_checkDirection 20 = .ok (.athrow, 1) := by decide +kernel
theorem dX7_checkDirection_21 : decode cX7_checkDirection 21 = .ok (.return_, 1) := by decide +kernel
theorem dX7_checkMask_0 : decode cX7_checkMask 0 = .ok (.iload_n 0, 1) := by decide +kernel
theorem dX7_checkMask_1 : decode cX7_checkMask 1 = .ok (.ifCond .lt 9, 3) := by decide +kernel
theorem dX7_checkMask_4 : decode cX7_checkMask 4 = .ok (.iload_n 0, 1) := by decide +kernel
theorem dX7_checkMask_5 : decode cX7_checkMask 5 = .ok (.bipush 63, 2) := by decide +kernel
theorem dX7_checkMask_7 : decode cX7_checkMask 7 = .ok (.if_icmp .le 14, 3) := by decide +kernel
theorem dX7_checkMask_10 : decode cX7_checkMask 10 = .ok (.new 41, 3) := by decide +kernel
theorem dX7_checkMask_13 : decode cX7_checkMask 13 = .ok (.dup, 1) := by decide +kernel
theorem dX7_checkMask_14 : decode cX7_checkMask 14 = .ok (.ldc_w 344, 3) := by decide +kernel
theorem dX7_checkMask_17 : decode cX7_checkMask 17 = .ok (.invokespecial 45, 3) := by decide +kernel
theorem dX7_checkMask_20 : decode cX7_checkMask 20 = .ok (.athrow, 1) := by decide +kernel
theorem dX7_checkMask_21 : decode cX7_checkMask 21 = .ok (.return_, 1) := by decide +kernel
theorem dX7_checkHold_0 : decode cX7_checkHold 0 = .ok (.iload_n 0, 1) := by decide +kernel
theorem dX7_checkHold_1 : decode cX7_checkHold 1 = .ok (.iconst 1, 1) := by decide +kernel
theorem dX7_checkHold_2 : decode cX7_checkHold 2 = .ok (.if_icmp .lt 9, 3) := by decide +kernel
theorem dX7_checkHold_5 : decode cX7_checkHold 5 = .ok (.iload_n 0, 1) := by decide +kernel
theorem dX7_checkHold_6 : decode cX7_checkHold 6 = .ok (.bipush 9, 2) := by decide +kernel
theorem dX7_checkHold_8 : decode cX7_checkHold 8 = .ok (.if_icmp .le 14, 3) := by decide +kernel
theorem dX7_checkHold_11 : decode cX7_checkHold 11 = .ok (.new 41, 3) := by decide +kernel
theorem dX7_checkHold_14 : decode cX7_checkHold 14 = .ok (.dup, 1) := by decide +kernel
theorem dX7_checkHold_15 : decode cX7_checkHold 15 = .ok (.ldc_w 346, 3) := by decide +kernel
theorem dX7_checkHold_18 : decode cX7_checkHold 18 = .ok (.invokespecial 45, 3) := by decide +kernel
theorem dX7_checkHold_21 : decode cX7_checkHold 21 = .ok (.athrow, 1) := by decide +kernel
theorem dX7_checkHold_22 : decode cX7_checkHold 22 = .ok (.return_, 1) := by decide +kernel
theorem dX7_has_0 : decode cX7_has 0 = .ok (.iload_n 0, 1) := by decide +kernel
theorem dX7_has_1 : decode cX7_has 1 = .ok (.iload_n 1, 1) := by decide +kernel
theorem dX7_has_2 : decode cX7_has 2 = .ok (.ishr, 1) := by decide +kernel
theorem dX7_has_3 : decode cX7_has 3 = .ok (.iconst 1, 1) := by decide +kernel
theorem dX7_has_4 : decode cX7_has 4 = .ok (.iand, 1) := by decide +kernel
theorem dX7_has_5 : decode cX7_has 5 = .ok (.iconst 1, 1) := by decide +kernel
theorem dX7_has_6 : decode cX7_has 6 = .ok (.if_icmp .ne 7, 3) := by decide +kernel
theorem dX7_has_9 : decode cX7_has 9 = .ok (.iconst 1, 1) := by decide +kernel
theorem dX7_has_10 : decode cX7_has 10 = .ok (.goto 4, 3) := by decide +kernel
theorem dX7_has_13 : decode cX7_has 13 = .ok (.iconst 0, 1) := by decide +kernel
theorem dX7_has_14 : decode cX7_has 14 = .ok (.ireturn, 1) := by decide +kernel
theorem dJ6_bitCount_0f7a4_0 : decode cJ6_bitCount_0f7a4 0 = .ok (.iload_n 0, 1) := by decide +kernel
theorem dJ6_bitCount_0f7a4_1 : decode cJ6_bitCount_0f7a4 1 = .ok (.iload_n 0, 1) := by decide +kernel
theorem dJ6_bitCount_0f7a4_2 : decode cJ6_bitCount_0f7a4 2 = .ok (.iconst 1, 1) := by decide +kernel
theorem dJ6_bitCount_0f7a4_3 : decode cJ6_bitCount_0f7a4 3 = .ok (.iushr, 1) := by decide +kernel
theorem dJ6_bitCount_0f7a4_4 : decode cJ6_bitCount_0f7a4 4 = .ok (.ldc_w 265, 3) := by decide +kernel
theorem dJ6_bitCount_0f7a4_7 : decode cJ6_bitCount_0f7a4 7 = .ok (.iand, 1) := by decide +kernel
theorem dJ6_bitCount_0f7a4_8 : decode cJ6_bitCount_0f7a4 8 = .ok (.isub, 1) := by decide +kernel
theorem dJ6_bitCount_0f7a4_9 : decode cJ6_bitCount_0f7a4 9 = .ok (.istore_n 0, 1) := by decide +kernel
theorem dJ6_bitCount_0f7a4_10 : decode cJ6_bitCount_0f7a4 10 = .ok (.iload_n 0, 1) := by decide +kernel
theorem dJ6_bitCount_0f7a4_11 : decode cJ6_bitCount_0f7a4 11 = .ok (.ldc_w 266, 3) := by decide +kernel
theorem dJ6_bitCount_0f7a4_14 : decode cJ6_bitCount_0f7a4 14 = .ok (.iand, 1) := by decide +kernel
theorem dJ6_bitCount_0f7a4_15 : decode cJ6_bitCount_0f7a4 15 = .ok (.iload_n 0, 1) := by decide +kernel
theorem dJ6_bitCount_0f7a4_16 : decode cJ6_bitCount_0f7a4 16 = .ok (.iconst 2, 1) := by decide +kernel
theorem dJ6_bitCount_0f7a4_17 : decode cJ6_bitCount_0f7a4 17 = .ok (.iushr, 1) := by decide +kernel
theorem dJ6_bitCount_0f7a4_18 : decode cJ6_bitCount_0f7a4 18 = .ok (.ldc_w 266, 3) := by decide +kernel
theorem dJ6_bitCount_0f7a4_21 : decode cJ6_bitCount_0f7a4 21 = .ok (.iand, 1) := by decide +kernel
theorem dJ6_bitCount_0f7a4_22 : decode cJ6_bitCount_0f7a4 22 = .ok (.iadd, 1) := by decide +kernel
theorem dJ6_bitCount_0f7a4_23 : decode cJ6_bitCount_0f7a4 23 = .ok (.istore_n 0, 1) := by decide +kernel
theorem dJ6_bitCount_0f7a4_24 : decode cJ6_bitCount_0f7a4 24 = .ok (.iload_n 0, 1) := by decide +kernel
theorem dJ6_bitCount_0f7a4_25 : decode cJ6_bitCount_0f7a4 25 = .ok (.iload_n 0, 1) := by decide +kernel
theorem dJ6_bitCount_0f7a4_26 : decode cJ6_bitCount_0f7a4 26 = .ok (.iconst 4, 1) := by decide +kernel
theorem dJ6_bitCount_0f7a4_27 : decode cJ6_bitCount_0f7a4 27 = .ok (.iushr, 1) := by decide +kernel
theorem dJ6_bitCount_0f7a4_28 : decode cJ6_bitCount_0f7a4 28 = .ok (.iadd, 1) := by decide +kernel
theorem dJ6_bitCount_0f7a4_29 : decode cJ6_bitCount_0f7a4 29 = .ok (.ldc_w 267, 3) := by decide +kernel
theorem dJ6_bitCount_0f7a4_32 : decode cJ6_bitCount_0f7a4 32 = .ok (.iand, 1) := by decide +kernel
theorem dJ6_bitCount_0f7a4_33 : decode cJ6_bitCount_0f7a4 33 = .ok (.istore_n 0, 1) := by decide +kernel
theorem dJ6_bitCount_0f7a4_34 : decode cJ6_bitCount_0f7a4 34 = .ok (.iload_n 0, 1) := by decide +kernel
theorem dJ6_bitCount_0f7a4_35 : decode cJ6_bitCount_0f7a4 35 = .ok (.iload_n 0, 1) := by decide +kernel
theorem dJ6_bitCount_0f7a4_36 : decode cJ6_bitCount_0f7a4 36 = .ok (.bipush 8, 2) := by decide +kernel
theorem dJ6_bitCount_0f7a4_38 : decode cJ6_bitCount_0f7a4 38 = .ok (.iushr, 1) := by decide +kernel
theorem dJ6_bitCount_0f7a4_39 : decode cJ6_bitCount_0f7a4 39 = .ok (.iadd, 1) := by decide +kernel
theorem dJ6_bitCount_0f7a4_40 : decode cJ6_bitCount_0f7a4 40 = .ok (.istore_n 0, 1) := by decide +kernel
theorem dJ6_bitCount_0f7a4_41 : decode cJ6_bitCount_0f7a4 41 = .ok (.iload_n 0, 1) := by decide +kernel
theorem dJ6_bitCount_0f7a4_42 : decode cJ6_bitCount_0f7a4 42 = .ok (.iload_n 0, 1) := by decide +kernel
theorem dJ6_bitCount_0f7a4_43 : decode cJ6_bitCount_0f7a4 43 = .ok (.bipush 16, 2) := by decide +kernel
theorem dJ6_bitCount_0f7a4_45 : decode cJ6_bitCount_0f7a4 45 = .ok (.iushr, 1) := by decide +kernel
theorem dJ6_bitCount_0f7a4_46 : decode cJ6_bitCount_0f7a4 46 = .ok (.iadd, 1) := by decide +kernel
theorem dJ6_bitCount_0f7a4_47 : decode cJ6_bitCount_0f7a4 47 = .ok (.istore_n 0, 1) := by decide +kernel
theorem dJ6_bitCount_0f7a4_48 : decode cJ6_bitCount_0f7a4 48 = .ok (.iload_n 0, 1) := by decide +kernel
theorem dJ6_bitCount_0f7a4_49 : decode cJ6_bitCount_0f7a4 49 = .ok (.bipush 63, 2) := by decide +kernel
theorem dJ6_bitCount_0f7a4_51 : decode cJ6_bitCount_0f7a4 51 = .ok (.iand, 1) := by decide +kernel
theorem dJ6_bitCount_0f7a4_52 : decode cJ6_bitCount_0f7a4 52 = .ok (.ireturn, 1) := by decide +kernel
theorem dJ9_max_7cf53_0 : decode cJ9_max_7cf53 0 = .ok (.iload_n 0, 1) := by decide +kernel
theorem dJ9_max_7cf53_1 : decode cJ9_max_7cf53 1 = .ok (.iload_n 1, 1) := by decide +kernel
theorem dJ9_max_7cf53_2 : decode cJ9_max_7cf53 2 = .ok (.if_icmp .lt 7, 3) := by decide +kernel
theorem dJ9_max_7cf53_5 : decode cJ9_max_7cf53 5 = .ok (.iload_n 0, 1) := by decide +kernel
theorem dJ9_max_7cf53_6 : decode cJ9_max_7cf53 6 = .ok (.goto 4, 3) := by decide +kernel
theorem dJ9_max_7cf53_9 : decode cJ9_max_7cf53 9 = .ok (.iload_n 1, 1) := by decide +kernel
theorem dJ9_max_7cf53_10 : decode cJ9_max_7cf53 10 = .ok (.ireturn, 1) := by decide +kernel
theorem dJ9_min_7cf53_0 : decode cJ9_min_7cf53 0 = .ok (.iload_n 0, 1) := by decide +kernel
theorem dJ9_min_7cf53_1 : decode cJ9_min_7cf53 1 = .ok (.iload_n 1, 1) := by decide +kernel
theorem dJ9_min_7cf53_2 : decode cJ9_min_7cf53 2 = .ok (.if_icmp .gt 7, 3) := by decide +kernel
theorem dJ9_min_7cf53_5 : decode cJ9_min_7cf53 5 = .ok (.iload_n 0, 1) := by decide +kernel
theorem dJ9_min_7cf53_6 : decode cJ9_min_7cf53 6 = .ok (.goto 4, 3) := by decide +kernel
theorem dJ9_min_7cf53_9 : decode cJ9_min_7cf53 9 = .ok (.iload_n 1, 1) := by decide +kernel
theorem dJ9_min_7cf53_10 : decode cJ9_min_7cf53 10 = .ok (.ireturn, 1) := by decide +kernel
