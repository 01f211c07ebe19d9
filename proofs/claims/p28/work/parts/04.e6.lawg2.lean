set_option maxRecDepth 20000 in
theorem ggL_law_L_cell : GoodIn wsL_law wsL_cell := goodIn_r _ [335, 336, 337] (by decide +kernel) (by decide +kernel)
set_option maxRecDepth 20000 in
theorem gL_law_L_cell : GoodIn wsL_law (va_wsS RL 10 yL_cell wsL_cell) := goodIn_app (goodIn_of _ (by decide +kernel)) ggL_law_L_cell
set_option maxRecDepth 20000 in
theorem ggL_law_L_low : GoodIn wsL_law wsL_low := goodIn_r _ [340, 341] (by decide +kernel) (by decide +kernel)
set_option maxRecDepth 20000 in
theorem gL_law_L_low : GoodIn wsL_law (va_wsS RL 16 yL_low wsL_low) := goodIn_app (goodIn_of _ (by decide +kernel)) ggL_law_L_low
set_option maxRecDepth 20000 in
theorem ggL_law_X7_phase : GoodIn wsL_law wsX7_phase := goodIn_ca (goodIn_ca (goodIn_r _ [377, 112, 113, 13, 114, 378, 379, 380, 381, 382, 383, 384, 2, 385, 386, 387, 388, 182, 183, 32, 184, 56, 308, 131, 132, 36, 133, 62, 389, 144, 145, 146, 51, 50, 147, 148, 149, 157, 158, 159, 160, 25, 116, 161, 162, 163, 164, 24, 165, 166, 167, 101, 106, 168, 169, 170, 171, 172, 54, 173, 174, 175, 176, 177, 178, 179, 180, 181, 317, 465, 466, 467, 468, 469, 470, 471, 472, 473, 474, 475, 476, 477, 478, 491, 492, 493, 494, 495, 496, 497, 498, 499, 485, 486, 487, 488, 489, 490] (by decide +kernel) (by decide +kernel)) (goodIn_sub (fun _ h => List.mem_append_left _ (List.mem_append_left _ (List.mem_append_right _ h))) (by decide +kernel))) (goodIn_sub (fun _ h => List.mem_append_right _ h) (by decide +kernel))
set_option maxRecDepth 20000 in
theorem gL_law_X7_phase : GoodIn wsL_law (wsV RL 35 RX7 yX7_phase wsX7_phase) := goodIn_app (goodIn_of _ (by decide +kernel)) ggL_law_X7_phase
set_option maxRecDepth 20000 in
theorem ggL_law_X7_change : GoodIn wsL_law wsX7_change := goodIn_ca (goodIn_ca (goodIn_r _ [428, 17, 13, 114, 378, 379, 382, 383, 384, 2, 385, 386, 387, 388, 182, 183, 32, 184, 56, 360, 361, 362, 112, 113, 363, 364, 365, 244, 245, 246, 16, 247, 74, 75, 248, 249, 250, 251, 73, 252, 253, 254, 12, 255, 33, 37, 38, 39, 40, 41, 42, 43, 44, 45, 256, 257, 258, 259, 50, 51, 52, 53, 54, 55, 57, 260, 261, 262, 36, 263, 62, 264, 131, 132, 133, 265, 308, 309, 174, 175, 176, 465, 466, 467, 468, 469, 470, 471, 472, 473, 474, 475, 476, 477, 478, 491, 492, 493, 494, 495, 496, 497, 498, 479, 480, 481, 499] (by decide +kernel) (by decide +kernel)) (goodIn_sub (fun _ h => List.mem_append_right _ h) (by decide +kernel))) (goodIn_sub (fun _ h => List.mem_append_left _ (List.mem_append_left _ (List.mem_append_right _ h))) (by decide +kernel))
set_option maxRecDepth 20000 in
theorem gL_law_X7_change : GoodIn wsL_law (wsV RL 93 RX7 yX7_change wsX7_change) := goodIn_app (goodIn_of _ (by decide +kernel)) ggL_law_X7_change
set_option maxRecDepth 20000 in
theorem ggL_law_X7_set : GoodIn wsL_law wsX7_set := goodIn_ca (goodIn_r _ [345, 112, 113, 17, 13, 114, 346, 244, 245, 246, 16, 247, 74, 75, 248, 249, 250, 251, 73, 252, 253, 254, 12, 255, 33, 37, 38, 39, 40, 41, 42, 43, 44, 45, 256, 257, 258, 32, 259, 50, 51, 52, 53, 54, 55, 56, 57, 260, 261, 262, 36, 263, 62, 264, 131, 132, 133, 265, 465, 466, 467, 468, 469, 470, 471, 472, 473, 474, 475, 476, 477, 478, 491, 492, 493, 494, 495, 496, 497, 498, 479, 480, 481, 499] (by decide +kernel) (by decide +kernel)) (goodIn_sub (fun _ h => List.mem_append_left _ (List.mem_append_left _ (List.mem_append_right _ h))) (by decide +kernel))
set_option maxRecDepth 20000 in
theorem gL_law_X7_set : GoodIn wsL_law (wsV RL 20 RX7 yX7_set wsX7_set) := goodIn_app (goodIn_of _ (by decide +kernel)) ggL_law_X7_set
