theorem dL_cell_0 : decode cL_cell 0 = .ok (.iload_n 1, 1) := by decide +kernel
theorem dL_cell_1 : decode cL_cell 1 = .ok (.aload_n 0, 1) := by decide +kernel
theorem dL_cell_2 : decode cL_cell 2 = .ok (.arraylength, 1) := by decide +kernel
theorem dL_cell_3 : decode cL_cell 3 = .ok (.if_icmp .ge 9, 3) := by decide +kernel
theorem dL_cell_6 : decode cL_cell 6 = .ok (.aload_n 0, 1) := by decide +kernel
theorem dL_cell_7 : decode cL_cell 7 = .ok (.iload_n 1, 1) := by decide +kernel
theorem dL_cell_8 : decode cL_cell 8 = .ok (.iaload, 1) := by decide +kernel
theorem dL_cell_9 : decode cL_cell 9 = .ok (.goto 10, 3) := by decide +kernel
theorem dL_cell_12 : decode cL_cell 12 = .ok (.ldc 7, 2) := by decide +kernel
theorem dL_cell_14 : decode cL_cell 14 = .ok (.iload_n 1, 1) := by decide +kernel
theorem dL_cell_15 : decode cL_cell 15 = .ok (.imul, 1) := by decide +kernel
theorem dL_cell_16 : decode cL_cell 16 = .ok (.ldc 8, 2) := by decide +kernel
theorem dL_cell_18 : decode cL_cell 18 = .ok (.iadd, 1) := by decide +kernel
theorem dL_cell_19 : decode cL_cell 19 = .ok (.ireturn, 1) := by decide +kernel
theorem dL_low_0 : decode cL_low 0 = .ok (.iload_n 0, 1) := by decide +kernel
theorem dL_low_1 : decode cL_low 1 = .ok (.ldc 9, 2) := by decide +kernel
theorem dL_low_3 : decode cL_low 3 = .ok (.iand, 1) := by decide +kernel
theorem dL_low_4 : decode cL_low 4 = .ok (.iload_n 1, 1) := by decide +kernel
theorem dL_low_5 : decode cL_low 5 = .ok (.irem, 1) := by decide +kernel
theorem dL_low_6 : decode cL_low 6 = .ok (.ireturn, 1) := by decide +kernel
theorem dL_greens_0 : decode cL_greens 0 = .ok (.aload_n 1, 1) := by decide +kernel
theorem dL_greens_1 : decode cL_greens 1 = .ok (.iconst 2, 1) := by decide +kernel
theorem dL_greens_2 : decode cL_greens 2 = .ok (.iaload, 1) := by decide +kernel
theorem dL_greens_3 : decode cL_greens 3 = .ok (.ifCond .le 23, 3) := by decide +kernel
theorem dL_greens_6 : decode cL_greens 6 = .ok (.aload_n 0, 1) := by decide +kernel
theorem dL_greens_7 : decode cL_greens 7 = .ok (.aload_n 1, 1) := by decide +kernel
theorem dL_greens_8 : decode cL_greens 8 = .ok (.iconst 0, 1) := by decide +kernel
theorem dL_greens_9 : decode cL_greens 9 = .ok (.iaload, 1) := by decide +kernel
theorem dL_greens_10 : decode cL_greens 10 = .ok (.iconst 0, 1) := by decide +kernel
theorem dL_greens_11 : decode cL_greens 11 = .ok (.invokevirtual 35, 3) := by decide +kernel
theorem dL_greens_14 : decode cL_greens 14 = .ok (.aload_n 0, 1) := by decide +kernel
theorem dL_greens_15 : decode cL_greens 15 = .ok (.aload_n 1, 1) := by decide +kernel
theorem dL_greens_16 : decode cL_greens 16 = .ok (.iconst 3, 1) := by decide +kernel
theorem dL_greens_17 : decode cL_greens 17 = .ok (.iaload, 1) := by decide +kernel
theorem dL_greens_18 : decode cL_greens 18 = .ok (.iconst 0, 1) := by decide +kernel
theorem dL_greens_19 : decode cL_greens 19 = .ok (.invokevirtual 35, 3) := by decide +kernel
theorem dL_greens_22 : decode cL_greens 22 = .ok (.iand, 1) := by decide +kernel
theorem dL_greens_23 : decode cL_greens 23 = .ok (.goto 11, 3) := by decide +kernel
theorem dL_greens_26 : decode cL_greens 26 = .ok (.aload_n 0, 1) := by decide +kernel
theorem dL_greens_27 : decode cL_greens 27 = .ok (.aload_n 1, 1) := by decide +kernel
theorem dL_greens_28 : decode cL_greens 28 = .ok (.iconst 0, 1) := by decide +kernel
theorem dL_greens_29 : decode cL_greens 29 = .ok (.iaload, 1) := by decide +kernel
theorem dL_greens_30 : decode cL_greens 30 = .ok (.iconst 0, 1) := by decide +kernel
theorem dL_greens_31 : decode cL_greens 31 = .ok (.invokevirtual 35, 3) := by decide +kernel
theorem dL_greens_34 : decode cL_greens 34 = .ok (.ireturn, 1) := by decide +kernel
set_option maxRecDepth 20000 in
theorem ggL_greens_X7_phase : GoodIn wsL_greens wsX7_phase := goodIn_ca (goodIn_ca (goodIn_r _ [5, 6, 7, 8, 9, 10, 11, 12, 13, 14, 15, 16, 4, 17, 18, 19, 20, 21, 22, 23, 24, 25, 26, 27, 28, 29, 30, 31, 32, 33, 34, 35, 36, 37, 38, 39, 40, 41, 42, 43, 44, 45, 46, 47, 48, 49, 50, 51, 52, 53, 54, 55, 56, 57, 58, 59, 60, 61, 62, 63, 64, 65, 66, 67, 68, 69, 70, 71, 72, 73, 74, 75, 76, 77, 78, 79, 80, 81, 82, 83, 84, 85, 86, 87, 88, 89, 90, 91, 92, 93, 94, 95, 96, 97, 98, 99, 100, 101] (by decide +kernel) (by decide +kernel)) (goodIn_sub (fun _ h => List.mem_cons_of_mem _ (List.mem_append_left _ (List.mem_append_right _ h))) (by decide +kernel))) (goodIn_sub (fun _ h => List.mem_cons_of_mem _ (List.mem_append_right _ h)) (by decide +kernel))
set_option maxRecDepth 20000 in
theorem gL_greens_X7_phase : GoodIn wsL_greens (wsV RL 35 RX7 yX7_phase wsX7_phase) := goodIn_app (goodIn_of _ (by decide +kernel)) ggL_greens_X7_phase
