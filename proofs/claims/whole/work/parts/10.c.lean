set_option maxRecDepth 20000 in
theorem ggL_setBells_X3_setBells : GoodIn wsL_setBells wsX3_setBells := goodIn_ca (goodIn_r _ [6, 7, 8, 9, 10, 11, 12, 13, 14, 15, 16, 17, 18, 19, 20, 21, 22, 23, 24, 25, 26, 27] (by decide +kernel) (by decide +kernel)) (goodIn_sub (fun _ h => List.mem_cons_of_mem _ (List.mem_append_right _ h)) (by decide +kernel))
set_option maxRecDepth 20000 in
theorem gL_setBells_X3_setBells : GoodIn wsL_setBells (wsV RL 7 RX3 yX3_setBells wsX3_setBells) := goodIn_app (goodIn_of _ (by decide +kernel)) ggL_setBells_X3_setBells
set_option maxRecDepth 20000 in
theorem ggL_write_X3_write : GoodIn wsL_write wsX3_write := goodIn_ca (goodIn_ca (goodIn_r _ [7, 8, 9, 10, 11, 12, 13, 6, 14, 15, 16, 17, 18, 19, 20, 21, 22, 23, 24, 25, 26, 27, 28, 29, 30, 31, 32, 33, 34, 35, 36, 37, 38, 39, 40, 41, 42, 43, 44, 45, 46, 47, 48, 49, 50] (by decide +kernel) (by decide +kernel)) (goodIn_sub (fun _ h => List.mem_cons_of_mem _ (List.mem_append_left _ (List.mem_append_right _ h))) (by decide +kernel))) (goodIn_sub (fun _ h => List.mem_cons_of_mem _ (List.mem_append_right _ h)) (by decide +kernel))
set_option maxRecDepth 20000 in
theorem gL_write_X3_write : GoodIn wsL_write (wsV RL 15 RX3 yX3_write wsX3_write) := goodIn_app (goodIn_of _ (by decide +kernel)) ggL_write_X3_write
set_option maxRecDepth 20000 in
theorem ggL_swap_X3_swap : GoodIn wsL_swap wsX3_swap := goodIn_ca (goodIn_r _ [6, 7, 8, 9, 10, 11, 12, 5, 13, 14, 15, 16, 17, 18, 19, 20, 21, 22, 23, 24, 25, 26, 27, 28, 29, 30, 31, 32, 33, 34, 35, 36, 37, 38, 39, 40, 41, 42, 43, 44, 45, 46, 47, 48] (by decide +kernel) (by decide +kernel)) (goodIn_sub (fun _ h => List.mem_cons_of_mem _ (List.mem_append_right _ h)) (by decide +kernel))
set_option maxRecDepth 20000 in
theorem gL_swap_X3_swap : GoodIn wsL_swap (wsV RL 22 RX3 yX3_swap wsX3_swap) := goodIn_app (goodIn_of _ (by decide +kernel)) ggL_swap_X3_swap
set_option maxRecDepth 20000 in
theorem ggL_next_X3_next : GoodIn wsL_next wsX3_next := goodIn_ca (goodIn_r _ [6, 7, 8, 9, 10, 5, 11, 12, 13, 14, 15, 16, 17, 18, 19, 20, 21, 22, 23, 24, 25, 26, 27, 28, 29, 30, 31, 32, 33, 34, 35, 36, 37, 38, 39, 40, 41, 42, 43, 44, 45, 46, 47, 48, 49, 50, 51, 52, 53, 54, 55] (by decide +kernel) (by decide +kernel)) (goodIn_sub (fun _ h => List.mem_cons_of_mem _ (List.mem_append_right _ h)) (by decide +kernel))
set_option maxRecDepth 20000 in
theorem gL_next_X3_next : GoodIn wsL_next (wsV RL 26 RX3 yX3_next wsX3_next) := goodIn_app (goodIn_of _ (by decide +kernel)) ggL_next_X3_next
set_option maxRecDepth 20000 in
theorem ggL_behind_X3_behind : GoodIn wsL_behind wsX3_behind := goodIn_ca (goodIn_ca (goodIn_r _ [7, 8, 9, 10, 11, 6, 12, 13, 14, 15, 16, 17, 18, 19, 20, 21, 22, 23, 24, 25, 26, 27, 28, 29, 30, 31, 32, 33, 34, 35, 36, 37, 38, 39, 40, 41, 42, 43, 44, 45, 46] (by decide +kernel) (by decide +kernel)) (goodIn_sub (fun _ h => List.mem_cons_of_mem _ (List.mem_append_left _ (List.mem_append_right _ h))) (by decide +kernel))) (goodIn_sub (fun _ h => List.mem_cons_of_mem _ (List.mem_append_right _ h)) (by decide +kernel))
set_option maxRecDepth 20000 in
theorem gL_behind_X3_behind : GoodIn wsL_behind (wsV RL 29 RX3 yX3_behind wsX3_behind) := goodIn_app (goodIn_of _ (by decide +kernel)) ggL_behind_X3_behind
set_option maxRecDepth 20000 in
theorem ggL_back_X3_back : GoodIn wsL_back wsX3_back := goodIn_ca (goodIn_r _ [6, 7, 8, 9, 10, 5, 11, 12, 13, 14, 15, 16, 17, 18, 19, 20, 21, 22, 23, 24, 25, 26, 27, 28, 29, 30, 31, 32, 33, 34, 35, 36, 37, 38, 39, 40, 41, 42, 43, 44, 45, 46, 47, 48, 49, 50, 51, 52] (by decide +kernel) (by decide +kernel)) (goodIn_sub (fun _ h => List.mem_cons_of_mem _ (List.mem_append_right _ h)) (by decide +kernel))
set_option maxRecDepth 20000 in
theorem gL_back_X3_back : GoodIn wsL_back (wsV RL 32 RX3 yX3_back wsX3_back) := goodIn_app (goodIn_of _ (by decide +kernel)) ggL_back_X3_back
set_option maxRecDepth 20000 in
theorem ggL_repeat_X3_repeat : GoodIn wsL_repeat wsX3_repeat := goodIn_ca (goodIn_ca (goodIn_r _ [7, 8, 9, 10, 11, 12, 13, 6, 14, 15, 16, 17, 18, 19, 20, 21, 22, 23, 24, 25, 26, 27, 28, 29, 30, 31, 32, 33, 34, 35, 36, 37, 38, 39, 40, 41, 42, 43, 44, 45, 46, 47, 48, 49, 50, 51, 52, 53, 54, 55, 56, 57, 58, 59, 60, 61, 62, 63] (by decide +kernel) (by decide +kernel)) (goodIn_sub (fun _ h => List.mem_cons_of_mem _ (List.mem_append_left _ (List.mem_append_right _ h))) (by decide +kernel))) (goodIn_sub (fun _ h => List.mem_cons_of_mem _ (List.mem_append_right _ h)) (by decide +kernel))
set_option maxRecDepth 20000 in
theorem gL_repeat_X3_repeat : GoodIn wsL_repeat (wsV RL 35 RX3 yX3_repeat wsX3_repeat) := goodIn_app (goodIn_of _ (by decide +kernel)) ggL_repeat_X3_repeat
set_option maxRecDepth 20000 in
theorem ggL_step_X3_step : GoodIn wsL_step wsX3_step := goodIn_ca (goodIn_ca (goodIn_r _ [7, 8, 9, 10, 11, 12, 13, 14, 15, 16, 17, 18, 19, 20, 21, 22, 23, 24, 25, 26, 27, 28, 29, 30, 31, 32, 33, 34, 35, 36, 37, 38, 39, 40] (by decide +kernel) (by decide +kernel)) (goodIn_sub (fun _ h => List.mem_cons_of_mem _ (List.mem_append_left _ (List.mem_append_right _ h))) (by decide +kernel))) (goodIn_sub (fun _ h => List.mem_cons_of_mem _ (List.mem_append_right _ h)) (by decide +kernel))
set_option maxRecDepth 20000 in
theorem gL_step_X3_step : GoodIn wsL_step (wsV RL 38 RX3 yX3_step wsX3_step) := goodIn_app (goodIn_of _ (by decide +kernel)) ggL_step_X3_step
set_option maxRecDepth 20000 in
theorem ggL_ring_X3_ring : GoodIn wsL_ring wsX3_ring := goodIn_ca (goodIn_ca (goodIn_r _ [7, 8, 9, 10, 11, 12, 6, 13, 14, 15, 16, 17, 18, 19, 20, 21, 22, 23, 24, 25, 26, 27, 28, 29, 30, 31, 32, 33, 34, 35, 36, 37, 38, 39, 40, 41, 42, 43, 44, 45, 46, 47, 48, 49, 50, 51, 52, 53, 54, 55, 56, 57, 58, 59, 60, 61, 62, 63, 64, 65, 66, 67, 68, 69, 70, 71, 72, 73, 74, 75, 76, 77, 78, 79] (by decide +kernel) (by decide +kernel)) (goodIn_sub (fun _ h => List.mem_cons_of_mem _ (List.mem_append_left _ (List.mem_append_right _ h))) (by decide +kernel))) (goodIn_sub (fun _ h => List.mem_cons_of_mem _ (List.mem_append_right _ h)) (by decide +kernel))
set_option maxRecDepth 20000 in
theorem gL_ring_X3_ring : GoodIn wsL_ring (wsV RL 41 RX3 yX3_ring wsX3_ring) := goodIn_app (goodIn_of _ (by decide +kernel)) ggL_ring_X3_ring
set_option maxRecDepth 20000 in
theorem ggL_bell_X3_bell : GoodIn wsL_bell wsX3_bell := goodIn_ca (goodIn_r _ [6, 7, 8, 9, 5, 10, 11, 12, 13, 14, 15, 16, 17, 18, 19, 20, 21, 22, 23, 24, 25, 26, 27, 28, 29, 30, 31, 32, 33, 34, 35] (by decide +kernel) (by decide +kernel)) (goodIn_sub (fun _ h => List.mem_cons_of_mem _ (List.mem_append_right _ h)) (by decide +kernel))
set_option maxRecDepth 20000 in
theorem gL_bell_X3_bell : GoodIn wsL_bell (wsV RL 44 RX3 yX3_bell wsX3_bell) := goodIn_app (goodIn_of _ (by decide +kernel)) ggL_bell_X3_bell
set_option maxRecDepth 20000 in
theorem ggL_told_X3_told : GoodIn wsL_told wsX3_told := goodIn_ca (goodIn_r _ [6, 7, 8, 9, 10, 11, 5, 12, 13, 14, 15, 16, 17, 18, 19, 20, 21, 22, 23, 24, 25, 26, 27, 28, 29, 30, 31, 32, 33, 34, 35, 36, 37, 38, 39, 40, 41, 42, 43, 44, 45, 46, 47, 48, 49, 50, 51, 52, 53, 54, 55, 56, 57, 58, 59, 60, 61, 62, 63, 64, 65, 66, 67, 68, 69, 70, 71, 72, 73, 74, 75, 76, 77, 78] (by decide +kernel) (by decide +kernel)) (goodIn_sub (fun _ h => List.mem_cons_of_mem _ (List.mem_append_right _ h)) (by decide +kernel))
set_option maxRecDepth 20000 in
theorem gL_told_X3_told : GoodIn wsL_told (wsV RL 47 RX3 yX3_told wsX3_told) := goodIn_app (goodIn_of _ (by decide +kernel)) ggL_told_X3_told
set_option maxRecDepth 20000 in
theorem ggL_round_X3_round : GoodIn wsL_round wsX3_round := goodIn_ca (goodIn_r _ [6, 7, 8, 9, 5, 10, 11, 12, 13, 14, 15, 16, 17, 18, 19, 20, 21, 22, 23, 24, 25, 26, 27, 28, 29, 30, 31, 32, 33, 34, 35, 36, 37, 38, 39, 40] (by decide +kernel) (by decide +kernel)) (goodIn_sub (fun _ h => List.mem_cons_of_mem _ (List.mem_append_right _ h)) (by decide +kernel))
set_option maxRecDepth 20000 in
theorem gL_round_X3_round : GoodIn wsL_round (wsV RL 50 RX3 yX3_round wsX3_round) := goodIn_app (goodIn_of _ (by decide +kernel)) ggL_round_X3_round
set_option maxRecDepth 20000 in
theorem ggL_apart_X3_apart : GoodIn wsL_apart wsX3_apart := goodIn_ca (goodIn_r _ [6, 7, 8, 9, 10, 5, 11, 12, 13, 14, 15, 16, 17, 18, 19, 20, 21, 22, 23, 24, 25, 26, 27, 28, 29, 30, 31, 32, 33, 34, 35, 36, 37] (by decide +kernel) (by decide +kernel)) (goodIn_sub (fun _ h => List.mem_cons_of_mem _ (List.mem_append_right _ h)) (by decide +kernel))
set_option maxRecDepth 20000 in
theorem gL_apart_X3_apart : GoodIn wsL_apart (wsV RL 53 RX3 yX3_apart wsX3_apart) := goodIn_app (goodIn_of _ (by decide +kernel)) ggL_apart_X3_apart
set_option maxRecDepth 20000 in
theorem ggL_count_X3_count : GoodIn wsL_count wsX3_count := goodIn_ca (goodIn_r _ [6, 7, 8, 9, 10, 11, 12, 13, 14, 5, 15, 16, 17, 18, 19, 20, 21, 22, 23, 24, 25, 26, 27, 28, 29, 30, 31, 32, 33, 34, 35, 36, 37, 38, 39, 40, 41, 42, 43, 44, 45, 46, 47, 48, 49, 50, 51, 52, 53, 54, 55, 56, 57, 58, 59, 60, 61, 62, 63, 64, 65, 66, 67, 68, 69, 70, 71] (by decide +kernel) (by decide +kernel)) (goodIn_sub (fun _ h => List.mem_cons_of_mem _ (List.mem_append_right _ h)) (by decide +kernel))
set_option maxRecDepth 20000 in
theorem gL_count_X3_count : GoodIn wsL_count (wsV RL 56 RX3 yX3_count wsX3_count) := goodIn_app (goodIn_of _ (by decide +kernel)) ggL_count_X3_count
set_option maxRecDepth 20000 in
theorem ggL_kept_X3_kept : GoodIn wsL_kept wsX3_kept := goodIn_ca (goodIn_r _ [6, 7, 8, 9, 10, 11, 12, 13, 14, 15, 16, 17, 18, 19, 20, 21, 22, 23, 24, 25, 26, 27, 28, 29, 30] (by decide +kernel) (by decide +kernel)) (goodIn_sub (fun _ h => List.mem_cons_of_mem _ (List.mem_append_right _ h)) (by decide +kernel))
set_option maxRecDepth 20000 in
theorem gL_kept_X3_kept : GoodIn wsL_kept (wsV RL 59 RX3 yX3_kept wsX3_kept) := goodIn_app (goodIn_of _ (by decide +kernel)) ggL_kept_X3_kept
set_option maxRecDepth 20000 in
theorem ggL_comes_X3_comes : GoodIn wsL_comes wsX3_comes := goodIn_ca (goodIn_r _ [6, 7, 8, 9, 10, 11, 5, 12, 13, 14, 15, 16, 17, 18, 19, 20, 21, 22, 23, 24, 25, 26, 27, 28, 29, 30, 31, 32, 33, 34, 35, 36, 37, 38, 39, 40, 41, 42, 43, 44, 45, 46, 47, 48, 49, 50, 51, 52, 53, 54, 55, 56, 57, 58, 59, 60, 61, 62, 63, 64, 65, 66, 67, 68, 69, 70, 71, 72, 73] (by decide +kernel) (by decide +kernel)) (goodIn_sub (fun _ h => List.mem_cons_of_mem _ (List.mem_append_right _ h)) (by decide +kernel))
set_option maxRecDepth 20000 in
theorem gL_comes_X3_comes : GoodIn wsL_comes (wsV RL 62 RX3 yX3_comes wsX3_comes) := goodIn_app (goodIn_of _ (by decide +kernel)) ggL_comes_X3_comes
set_option maxRecDepth 20000 in
theorem ggL_differ_X3_differ : GoodIn wsL_differ wsX3_differ := goodIn_ca (goodIn_r _ [6, 7, 8, 9, 10, 11, 12, 5, 13, 14, 15, 16, 17, 18, 19, 20, 21, 22, 23, 24, 25, 26, 27, 28, 29, 30, 31, 32, 33, 34, 35, 36, 37, 38, 39, 40, 41, 42, 43, 44, 45, 46, 47, 48, 49, 50, 51, 52, 53, 54, 55, 56, 57, 58, 59, 60, 61, 62, 63, 64, 65, 66, 67, 68, 69, 70, 71, 72, 73, 74, 75, 76, 77, 78, 79, 80, 81, 82, 83, 84, 85, 86, 87, 88, 89, 90, 91, 92, 93, 94, 95, 96, 97] (by decide +kernel) (by decide +kernel)) (goodIn_sub (fun _ h => List.mem_cons_of_mem _ (List.mem_append_right _ h)) (by decide +kernel))
set_option maxRecDepth 20000 in
theorem gL_differ_X3_differ : GoodIn wsL_differ (wsV RL 65 RX3 yX3_differ wsX3_differ) := goodIn_app (goodIn_of _ (by decide +kernel)) ggL_differ_X3_differ
set_option maxRecDepth 20000 in
theorem ggL_advise_X3_advise : GoodIn wsL_advise wsX3_advise := goodIn_ca (goodIn_r _ [6, 7, 8, 9, 10, 11, 12, 5, 13, 14, 15, 16, 17, 18, 19, 20, 21, 22, 23, 24, 25, 26, 27, 28, 29, 30, 31, 32, 33, 34, 35, 36, 37, 38, 39, 40, 41, 42, 43, 44, 45, 46, 47, 48] (by decide +kernel) (by decide +kernel)) (goodIn_sub (fun _ h => List.mem_cons_of_mem _ (List.mem_append_right _ h)) (by decide +kernel))
set_option maxRecDepth 20000 in
theorem gL_advise_X3_advise : GoodIn wsL_advise (wsV RL 68 RX3 yX3_advise wsX3_advise) := goodIn_app (goodIn_of _ (by decide +kernel)) ggL_advise_X3_advise
set_option maxRecDepth 20000 in
theorem ggL_law_X3_init : GoodIn wsL_law wsX3_init := goodIn_r _ [9, 10, 11, 12, 13, 14, 15, 16, 17, 18, 19, 20, 21, 22, 23, 24, 25, 26, 27, 28, 29, 30, 31, 32, 33, 34, 35, 36, 37, 38, 39, 40, 41, 42, 43, 44, 45, 46, 47, 48, 553, 554, 555, 556, 557, 558, 559, 560, 568, 569, 570, 571, 572, 573] (by decide +kernel) (by decide +kernel)
set_option maxRecDepth 20000 in
theorem gL_law_X3_init : GoodIn wsL_law (wsX3_init) := ggL_law_X3_init
set_option maxRecDepth 20000 in
theorem ggL_law_X4_init : GoodIn wsL_law wsX4_init := goodIn_r _ [51, 52, 11, 12, 53, 34, 54, 55, 561, 562, 563, 564, 565, 566, 567] (by decide +kernel) (by decide +kernel)
set_option maxRecDepth 20000 in
theorem gL_law_X4_init : GoodIn wsL_law (wsX4_init) := ggL_law_X4_init
set_option maxRecDepth 20000 in
theorem ggL_law_L_setBells : GoodIn wsL_law wsL_setBells := goodIn_ca (goodIn_r _ [59, 60, 61, 62, 63, 2, 64, 65, 66, 27, 28, 20, 67, 68, 69, 19, 70, 42, 553, 554, 555, 556, 557, 558, 559, 560, 570, 571] (by decide +kernel) (by decide +kernel)) (goodIn_sub (fun _ h => List.mem_append_left _ (List.mem_append_left _ (List.mem_append_right _ h))) (by decide +kernel))
set_option maxRecDepth 20000 in
theorem gL_law_L_setBells : GoodIn wsL_law (va_wsS RL 75 yL_setBells wsL_setBells) := goodIn_app (goodIn_of _ (by decide +kernel)) ggL_law_L_setBells
set_option maxRecDepth 20000 in
theorem ggL_law_X4_setBells : GoodIn wsL_law wsX4_setBells := goodIn_r _ [74, 75, 53, 76, 77, 78, 79, 5, 80, 81, 82, 83, 84, 561, 562, 563, 564, 565, 566, 567] (by decide +kernel) (by decide +kernel)
set_option maxRecDepth 20000 in
theorem gL_law_X4_setBells : GoodIn wsL_law (wsV RL 80 RX4 yX4_setBells wsX4_setBells) := goodIn_app (goodIn_of _ (by decide +kernel)) ggL_law_X4_setBells
set_option maxRecDepth 20000 in
theorem ggL_law_X4_thrown : GoodIn wsL_law wsX4_thrown := goodIn_r _ [88, 75, 561, 562, 563, 564, 565, 566, 567] (by decide +kernel) (by decide +kernel)
set_option maxRecDepth 20000 in
theorem gL_law_X4_thrown : GoodIn wsL_law (wsV RL 81 RX4 yX4_thrown wsX4_thrown) := goodIn_app (goodIn_of _ (by decide +kernel)) ggL_law_X4_thrown
set_option maxRecDepth 20000 in
theorem ggL_law_L_write : GoodIn wsL_law wsL_write := goodIn_ca (goodIn_ca (goodIn_r _ [91, 92, 93, 94, 95, 96, 2, 97, 98, 99, 27, 28, 100, 101, 102, 103, 104, 105, 106, 107, 108, 14, 109, 110, 111, 16, 112, 36, 113, 114, 115, 116, 117, 118, 119, 120, 35, 121, 122, 123, 124, 553, 554, 555, 556, 557, 558, 559, 560, 568, 569] (by decide +kernel) (by decide +kernel)) (goodIn_sub (fun _ h => List.mem_append_left _ (List.mem_append_right _ h)) (by decide +kernel))) (goodIn_sub (fun _ h => List.mem_append_right _ h) (by decide +kernel))
set_option maxRecDepth 20000 in
theorem gL_law_L_write : GoodIn wsL_law (va_wsS RL 85 yL_write wsL_write) := goodIn_app (goodIn_of _ (by decide +kernel)) ggL_law_L_write
set_option maxRecDepth 20000 in
theorem ggL_law_X4_write : GoodIn wsL_law wsX4_write := goodIn_r _ [128, 75, 53, 76, 129, 130, 5, 131, 78, 79, 80, 81, 82, 83, 84, 132, 133, 134, 135, 54, 561, 562, 563, 564, 565, 566, 567] (by decide +kernel) (by decide +kernel)
set_option maxRecDepth 20000 in
theorem gL_law_X4_write : GoodIn wsL_law (wsV RL 87 RX4 yX4_write wsX4_write) := goodIn_app (goodIn_of _ (by decide +kernel)) ggL_law_X4_write
set_option maxRecDepth 20000 in
theorem ggL_law_L_swap : GoodIn wsL_law wsL_swap := goodIn_ca (goodIn_r _ [138, 92, 139, 140, 141, 2, 142, 98, 99, 27, 143, 144, 145, 146, 28, 14, 147, 148, 149, 16, 150, 121, 122, 123, 124, 35, 117, 118, 119, 120, 151, 152, 153, 154, 36, 155, 156, 157, 158, 553, 554, 555, 556, 557, 558, 559, 560, 568, 569] (by decide +kernel) (by decide +kernel)) (goodIn_sub (fun _ h => List.mem_append_left _ (List.mem_append_right _ h)) (by decide +kernel))
set_option maxRecDepth 20000 in
theorem gL_law_L_swap : GoodIn wsL_law (va_wsS RL 88 yL_swap wsL_swap) := goodIn_app (goodIn_of _ (by decide +kernel)) ggL_law_L_swap
set_option maxRecDepth 20000 in
theorem ggL_law_X4_swap : GoodIn wsL_law wsX4_swap := goodIn_r _ [162, 75, 53, 54, 163, 164, 165, 5, 166, 76, 78, 79, 80, 81, 82, 83, 84, 167, 168, 169, 170, 34, 129, 130, 131, 171, 172, 173, 174, 175, 176, 177, 178, 179, 180, 181, 182, 183, 184, 185, 561, 562, 563, 564, 565, 566, 567] (by decide +kernel) (by decide +kernel)
set_option maxRecDepth 20000 in
theorem gL_law_X4_swap : GoodIn wsL_law (wsV RL 91 RX4 yX4_swap wsX4_swap) := goodIn_app (goodIn_of _ (by decide +kernel)) ggL_law_X4_swap
set_option maxRecDepth 20000 in
theorem ggL_law_L_next : GoodIn wsL_law wsL_next := goodIn_ca (goodIn_r _ [188, 92, 189, 190, 191, 2, 192, 27, 143, 144, 145, 146, 98, 99, 28, 14, 151, 152, 153, 16, 154, 36, 155, 156, 157, 158, 121, 122, 123, 124, 35, 100, 101, 102, 109, 110, 111, 112, 113, 114, 115, 116, 117, 118, 119, 120, 553, 554, 555, 556, 557, 558, 559, 560, 568, 569] (by decide +kernel) (by decide +kernel)) (goodIn_sub (fun _ h => List.mem_append_left _ (List.mem_append_right _ h)) (by decide +kernel))
set_option maxRecDepth 20000 in
theorem gL_law_L_next : GoodIn wsL_law (va_wsS RL 92 yL_next wsL_next) := goodIn_app (goodIn_of _ (by decide +kernel)) ggL_law_L_next
set_option maxRecDepth 20000 in
theorem ggL_law_X4_next : GoodIn wsL_law wsX4_next := goodIn_r _ [196, 75, 54, 53, 163, 164, 165, 5, 166, 76, 78, 79, 80, 81, 82, 83, 84, 129, 130, 131, 561, 562, 563, 564, 565, 566, 567] (by decide +kernel) (by decide +kernel)
set_option maxRecDepth 20000 in
theorem gL_law_X4_next : GoodIn wsL_law (wsV RL 94 RX4 yX4_next wsX4_next) := goodIn_app (goodIn_of _ (by decide +kernel)) ggL_law_X4_next
set_option maxRecDepth 20000 in
theorem ggL_law_L_behind : GoodIn wsL_law wsL_behind := goodIn_ca (goodIn_ca (goodIn_r _ [199, 92, 93, 200, 201, 202, 2, 203, 28, 143, 144, 145, 146, 98, 99, 14, 103, 104, 105, 106, 107, 108, 204, 205, 206, 16, 207, 36, 121, 122, 123, 124, 35, 117, 118, 119, 120, 553, 554, 555, 556, 557, 558, 559, 560, 568, 569] (by decide +kernel) (by decide +kernel)) (goodIn_sub (fun _ h => List.mem_append_left _ (List.mem_append_right _ h)) (by decide +kernel))) (goodIn_sub (fun _ h => List.mem_append_right _ h) (by decide +kernel))
set_option maxRecDepth 20000 in
theorem gL_law_L_behind : GoodIn wsL_law (va_wsS RL 95 yL_behind wsL_behind) := goodIn_app (goodIn_of _ (by decide +kernel)) ggL_law_L_behind
set_option maxRecDepth 20000 in
theorem ggL_law_X4_behind : GoodIn wsL_law wsX4_behind := goodIn_r _ [211, 75, 76, 54, 163, 164, 165, 5, 166, 78, 79, 80, 81, 82, 83, 84, 167, 168, 169, 170, 53, 34, 129, 130, 131, 171, 172, 173, 212, 213, 214, 215, 178, 179, 180, 181, 182, 183, 184, 185, 132, 133, 134, 135, 561, 562, 563, 564, 565, 566, 567] (by decide +kernel) (by decide +kernel)
set_option maxRecDepth 20000 in
theorem gL_law_X4_behind : GoodIn wsL_law (wsV RL 97 RX4 yX4_behind wsX4_behind) := goodIn_app (goodIn_of _ (by decide +kernel)) ggL_law_X4_behind
set_option maxRecDepth 20000 in
theorem ggL_law_L_back : GoodIn wsL_law wsL_back := goodIn_ca (goodIn_r _ [218, 92, 219, 220, 221, 2, 222, 22, 143, 144, 145, 146, 98, 99, 28, 14, 223, 224, 225, 16, 226, 36, 121, 122, 123, 124, 35, 117, 118, 119, 120, 227, 228, 229, 230, 151, 152, 153, 154, 155, 156, 157, 158, 553, 554, 555, 556, 557, 558, 559, 560, 568, 569] (by decide +kernel) (by decide +kernel)) (goodIn_sub (fun _ h => List.mem_append_left _ (List.mem_append_right _ h)) (by decide +kernel))
set_option maxRecDepth 20000 in
theorem gL_law_L_back : GoodIn wsL_law (va_wsS RL 98 yL_back wsL_back) := goodIn_app (goodIn_of _ (by decide +kernel)) ggL_law_L_back
set_option maxRecDepth 20000 in
theorem ggL_law_X4_back : GoodIn wsL_law wsX4_back := goodIn_r _ [234, 75, 54, 163, 164, 165, 5, 166, 76, 78, 79, 80, 167, 168, 169, 170, 53, 34, 129, 130, 131, 171, 172, 173, 235, 236, 237, 238, 174, 175, 176, 177, 178, 179, 180, 181, 182, 183, 184, 185, 81, 82, 83, 84, 561, 562, 563, 564, 565, 566, 567] (by decide +kernel) (by decide +kernel)
set_option maxRecDepth 20000 in
theorem gL_law_X4_back : GoodIn wsL_law (wsV RL 100 RX4 yX4_back wsX4_back) := goodIn_app (goodIn_of _ (by decide +kernel)) ggL_law_X4_back
set_option maxRecDepth 20000 in
theorem ggL_law_L_repeat : GoodIn wsL_law wsL_repeat := goodIn_ca (goodIn_ca (goodIn_r _ [241, 92, 60, 242, 243, 244, 2, 245, 65, 66, 22, 143, 144, 145, 146, 98, 99, 28, 14, 246, 247, 248, 16, 249, 36, 250, 251, 252, 253, 121, 122, 123, 124, 35, 254, 255, 256, 257, 117, 118, 119, 120, 227, 228, 229, 230, 151, 152, 153, 154, 155, 156, 157, 158, 553, 554, 555, 556, 557, 558, 559, 560, 568, 569] (by decide +kernel) (by decide +kernel)) (goodIn_sub (fun _ h => List.mem_append_left _ (List.mem_append_left _ (List.mem_append_right _ h))) (by decide +kernel))) (goodIn_sub (fun _ h => List.mem_append_left _ (List.mem_append_right _ h)) (by decide +kernel))
set_option maxRecDepth 20000 in
theorem gL_law_L_repeat : GoodIn wsL_law (va_wsS RL 101 yL_repeat wsL_repeat) := goodIn_app (goodIn_of _ (by decide +kernel)) ggL_law_L_repeat
set_option maxRecDepth 20000 in
theorem ggL_law_X4_repeat : GoodIn wsL_law wsX4_repeat := goodIn_r _ [261, 75, 54, 163, 164, 165, 5, 166, 76, 78, 79, 80, 81, 82, 83, 84, 167, 168, 169, 170, 53, 34, 129, 130, 131, 171, 172, 173, 262, 263, 264, 265, 266, 267, 268, 269, 270, 271, 272, 212, 213, 214, 215, 174, 175, 176, 177, 178, 179, 180, 181, 182, 183, 184, 185, 561, 562, 563, 564, 565, 566, 567] (by decide +kernel) (by decide +kernel)
set_option maxRecDepth 20000 in
theorem gL_law_X4_repeat : GoodIn wsL_law (wsV RL 103 RX4 yX4_repeat wsX4_repeat) := goodIn_app (goodIn_of _ (by decide +kernel)) ggL_law_X4_repeat
set_option maxRecDepth 20000 in
theorem ggL_law_L_step : GoodIn wsL_law wsL_step := goodIn_ca (goodIn_ca (goodIn_r _ [275, 60, 93, 276, 277, 278, 2, 279, 65, 66, 107, 108, 27, 20, 280, 281, 19, 282, 283, 284, 285, 286, 287, 288, 289, 42, 290, 291, 292, 293, 41, 553, 554, 555, 556, 557, 558, 559, 560, 570, 571] (by decide +kernel) (by decide +kernel)) (goodIn_sub (fun _ h => List.mem_append_left _ (List.mem_append_left _ (List.mem_append_right _ h))) (by decide +kernel))) (goodIn_sub (fun _ h => List.mem_append_right _ h) (by decide +kernel))
set_option maxRecDepth 20000 in
theorem gL_law_L_step : GoodIn wsL_law (va_wsS RL 104 yL_step wsL_step) := goodIn_app (goodIn_of _ (by decide +kernel)) ggL_law_L_step
set_option maxRecDepth 20000 in
theorem ggL_law_X4_step : GoodIn wsL_law wsX4_step := goodIn_r _ [297, 75, 77, 55, 298, 299, 300, 5, 301, 53, 78, 79, 80, 81, 82, 83, 84, 561, 562, 563, 564, 565, 566, 567] (by decide +kernel) (by decide +kernel)
set_option maxRecDepth 20000 in
theorem gL_law_X4_step : GoodIn wsL_law (wsV RL 106 RX4 yX4_step wsX4_step) := goodIn_app (goodIn_of _ (by decide +kernel)) ggL_law_X4_step
set_option maxRecDepth 20000 in
theorem ggL_law_X3_clear : GoodIn wsL_law wsX3_clear := goodIn_r _ [305, 20, 286, 287, 288, 19, 289, 42, 67, 68, 69, 70, 553, 554, 555, 556, 557, 558, 559, 560, 570, 571] (by decide +kernel) (by decide +kernel)
set_option maxRecDepth 20000 in
theorem gL_law_X3_clear : GoodIn wsL_law (wsV RL 107 RX3 yX3_clear wsX3_clear) := goodIn_app (goodIn_of _ (by decide +kernel)) ggL_law_X3_clear
set_option maxRecDepth 20000 in
theorem ggL_law_X4_clear : GoodIn wsL_law wsX4_clear := goodIn_r _ [309, 75, 77, 561, 562, 563, 564, 565, 566, 567] (by decide +kernel) (by decide +kernel)
set_option maxRecDepth 20000 in
theorem gL_law_X4_clear : GoodIn wsL_law (wsV RL 110 RX4 yX4_clear wsX4_clear) := goodIn_app (goodIn_of _ (by decide +kernel)) ggL_law_X4_clear
set_option maxRecDepth 20000 in
theorem ggL_law_L_ring : GoodIn wsL_law wsL_ring := goodIn_ca (goodIn_ca (goodIn_r _ [312, 92, 60, 313, 314, 315, 2, 316, 20, 29, 143, 144, 145, 146, 98, 99, 28, 14, 317, 318, 319, 65, 66, 286, 287, 288, 19, 289, 42, 320, 321, 322, 323, 324, 325, 326, 327, 41, 328, 329, 330, 16, 331, 36, 332, 284, 285, 333, 148, 149, 150, 121, 122, 123, 124, 35, 117, 118, 119, 120, 151, 152, 153, 154, 155, 156, 157, 158, 553, 554, 555, 556, 557, 558, 559, 560, 570, 571, 568, 569] (by decide +kernel) (by decide +kernel)) (goodIn_sub (fun _ h => List.mem_append_left _ (List.mem_append_right _ h)) (by decide +kernel))) (goodIn_sub (fun _ h => List.mem_append_left _ (List.mem_append_left _ (List.mem_append_right _ h))) (by decide +kernel))
set_option maxRecDepth 20000 in
theorem gL_law_L_ring : GoodIn wsL_law (va_wsS RL 111 yL_ring wsL_ring) := goodIn_app (goodIn_of _ (by decide +kernel)) ggL_law_L_ring
set_option maxRecDepth 20000 in
theorem ggL_law_X4_ring : GoodIn wsL_law wsX4_ring := goodIn_r _ [337, 75, 77, 54, 338, 163, 164, 165, 5, 166, 76, 78, 79, 80, 81, 82, 83, 84, 167, 168, 169, 170, 53, 34, 129, 130, 131, 171, 172, 173, 339, 340, 341, 342, 55, 174, 175, 176, 177, 178, 179, 180, 181, 182, 183, 184, 185, 561, 562, 563, 564, 565, 566, 567] (by decide +kernel) (by decide +kernel)
set_option maxRecDepth 20000 in
theorem gL_law_X4_ring : GoodIn wsL_law (wsV RL 113 RX4 yX4_ring wsX4_ring) := goodIn_app (goodIn_of _ (by decide +kernel)) ggL_law_X4_ring
set_option maxRecDepth 20000 in
theorem ggL_law_L_bell : GoodIn wsL_law wsL_bell := goodIn_ca (goodIn_r _ [345, 92, 346, 347, 348, 2, 349, 143, 144, 145, 146, 98, 99, 28, 14, 350, 351, 352, 353, 27, 354, 122, 123, 16, 124, 35, 553, 554, 555, 556, 557, 558, 559, 560, 568, 569] (by decide +kernel) (by decide +kernel)) (goodIn_sub (fun _ h => List.mem_append_left _ (List.mem_append_right _ h)) (by decide +kernel))
set_option maxRecDepth 20000 in
theorem gL_law_L_bell : GoodIn wsL_law (va_wsS RL 114 yL_bell wsL_bell) := goodIn_app (goodIn_of _ (by decide +kernel)) ggL_law_L_bell
set_option maxRecDepth 20000 in
theorem ggL_law_X4_bell : GoodIn wsL_law wsX4_bell := goodIn_r _ [358, 75, 54, 163, 164, 165, 5, 166, 76, 78, 79, 80, 359, 360, 361, 362, 53, 167, 168, 169, 170, 34, 129, 130, 131, 171, 172, 173, 81, 82, 83, 84, 561, 562, 563, 564, 565, 566, 567] (by decide +kernel) (by decide +kernel)
set_option maxRecDepth 20000 in
theorem gL_law_X4_bell : GoodIn wsL_law (wsV RL 116 RX4 yX4_bell wsX4_bell) := goodIn_app (goodIn_of _ (by decide +kernel)) ggL_law_X4_bell
set_option maxRecDepth 20000 in
theorem ggL_law_L_told : GoodIn wsL_law wsL_told := goodIn_ca (goodIn_r _ [365, 92, 366, 367, 368, 2, 369, 98, 99, 143, 144, 145, 146, 28, 14, 151, 152, 153, 16, 154, 36, 155, 156, 157, 158, 121, 122, 123, 124, 35, 370, 371, 372, 373, 374, 375, 376, 377, 378, 379, 380, 381, 382, 383, 384, 385, 386, 387, 388, 389, 250, 251, 252, 253, 390, 391, 392, 393, 394, 395, 396, 397, 398, 399, 400, 401, 402, 403, 404, 553, 554, 555, 556, 557, 558, 559, 560, 568, 569] (by decide +kernel) (by decide +kernel)) (goodIn_sub (fun _ h => List.mem_append_left _ (List.mem_append_right _ h)) (by decide +kernel))
set_option maxRecDepth 20000 in
theorem gL_law_L_told : GoodIn wsL_law (va_wsS RL 117 yL_told wsL_told) := goodIn_app (goodIn_of _ (by decide +kernel)) ggL_law_L_told
set_option maxRecDepth 20000 in
theorem ggL_law_X4_told : GoodIn wsL_law wsX4_told := goodIn_r _ [408, 75, 54, 163, 164, 165, 5, 166, 76, 78, 79, 80, 167, 168, 169, 170, 53, 34, 129, 130, 131, 171, 172, 173, 409, 410, 411, 412, 413, 387, 388, 389, 178, 179, 180, 181, 182, 183, 184, 185, 414, 415, 416, 417, 418, 419, 420, 421, 266, 267, 268, 269, 262, 263, 264, 265, 270, 271, 272, 235, 236, 237, 238, 81, 82, 83, 84, 561, 562, 563, 564, 565, 566, 567] (by decide +kernel) (by decide +kernel)
set_option maxRecDepth 20000 in
theorem gL_law_X4_told : GoodIn wsL_law (wsV RL 119 RX4 yX4_told wsX4_told) := goodIn_app (goodIn_of _ (by decide +kernel)) ggL_law_X4_told
set_option maxRecDepth 20000 in
theorem ggL_law_L_round : GoodIn wsL_law wsL_round := goodIn_ca (goodIn_r _ [424, 92, 425, 426, 427, 2, 428, 143, 144, 145, 146, 98, 99, 28, 14, 350, 351, 352, 353, 27, 429, 251, 252, 16, 253, 36, 121, 122, 123, 124, 35, 553, 554, 555, 556, 557, 558, 559, 560, 568, 569] (by decide +kernel) (by decide +kernel)) (goodIn_sub (fun _ h => List.mem_append_left _ (List.mem_append_right _ h)) (by decide +kernel))
set_option maxRecDepth 20000 in
theorem gL_law_L_round : GoodIn wsL_law (va_wsS RL 120 yL_round wsL_round) := goodIn_app (goodIn_of _ (by decide +kernel)) ggL_law_L_round
set_option maxRecDepth 20000 in
theorem ggL_law_X4_round : GoodIn wsL_law wsX4_round := goodIn_r _ [433, 75, 54, 163, 164, 165, 5, 166, 76, 78, 79, 80, 359, 360, 361, 362, 53, 167, 168, 169, 170, 34, 129, 130, 131, 171, 172, 173, 266, 267, 268, 269, 81, 82, 83, 84, 561, 562, 563, 564, 565, 566, 567] (by decide +kernel) (by decide +kernel)
set_option maxRecDepth 20000 in
theorem gL_law_X4_round : GoodIn wsL_law (wsV RL 122 RX4 yX4_round wsX4_round) := goodIn_app (goodIn_of _ (by decide +kernel)) ggL_law_X4_round
set_option maxRecDepth 20000 in
theorem ggL_law_L_apart : GoodIn wsL_law wsL_apart := goodIn_ca (goodIn_r _ [436, 92, 437, 438, 439, 2, 440, 27, 143, 144, 145, 146, 98, 99, 28, 14, 354, 122, 123, 16, 124, 35, 401, 402, 403, 404, 36, 121, 553, 554, 555, 556, 557, 558, 559, 560, 568, 569] (by decide +kernel) (by decide +kernel)) (goodIn_sub (fun _ h => List.mem_append_left _ (List.mem_append_right _ h)) (by decide +kernel))
set_option maxRecDepth 20000 in
theorem gL_law_L_apart : GoodIn wsL_law (va_wsS RL 123 yL_apart wsL_apart) := goodIn_app (goodIn_of _ (by decide +kernel)) ggL_law_L_apart
set_option maxRecDepth 20000 in
theorem ggL_law_X4_apart : GoodIn wsL_law wsX4_apart := goodIn_r _ [444, 75, 54, 163, 164, 165, 5, 166, 76, 78, 79, 80, 81, 82, 83, 84, 167, 168, 169, 170, 53, 34, 129, 130, 131, 171, 172, 173, 235, 236, 237, 238, 212, 213, 214, 215, 414, 415, 416, 417, 182, 183, 184, 185, 561, 562, 563, 564, 565, 566, 567] (by decide +kernel) (by decide +kernel)
set_option maxRecDepth 20000 in
theorem gL_law_X4_apart : GoodIn wsL_law (wsV RL 125 RX4 yX4_apart wsX4_apart) := goodIn_app (goodIn_of _ (by decide +kernel)) ggL_law_X4_apart
set_option maxRecDepth 20000 in
theorem ggL_law_L_count : GoodIn wsL_law wsL_count := goodIn_ca (goodIn_r _ [447, 92, 448, 449, 450, 2, 451, 98, 99, 27, 28, 20, 29, 100, 101, 102, 452, 453, 454, 455, 26, 14, 456, 457, 458, 25, 459, 48, 151, 152, 153, 16, 154, 36, 155, 156, 157, 158, 121, 122, 123, 124, 35, 460, 461, 462, 463, 47, 464, 465, 466, 467, 286, 287, 288, 19, 289, 42, 553, 554, 555, 556, 557, 558, 559, 560, 572, 573, 568, 569, 570, 571] (by decide +kernel) (by decide +kernel)) (goodIn_sub (fun _ h => List.mem_append_left _ (List.mem_append_right _ h)) (by decide +kernel))
set_option maxRecDepth 20000 in
theorem gL_law_L_count : GoodIn wsL_law (va_wsS RL 126 yL_count wsL_count) := goodIn_app (goodIn_of _ (by decide +kernel)) ggL_law_L_count
set_option maxRecDepth 20000 in
theorem ggL_law_X4_count : GoodIn wsL_law wsX4_count := goodIn_r _ [471, 75, 78, 79, 5, 80, 472, 473, 474, 475, 53, 76, 77, 338, 129, 130, 131, 476, 477, 478, 479, 54, 81, 82, 83, 84, 561, 562, 563, 564, 565, 566, 567] (by decide +kernel) (by decide +kernel)
set_option maxRecDepth 20000 in
theorem gL_law_X4_count : GoodIn wsL_law (wsV RL 128 RX4 yX4_count wsX4_count) := goodIn_app (goodIn_of _ (by decide +kernel)) ggL_law_X4_count
set_option maxRecDepth 20000 in
theorem ggL_law_L_kept : GoodIn wsL_law wsL_kept := goodIn_ca (goodIn_r _ [482, 92, 483, 484, 485, 2, 486, 98, 99, 20, 286, 287, 288, 19, 289, 42, 487, 325, 326, 327, 41, 553, 554, 555, 556, 557, 558, 559, 560, 570, 571] (by decide +kernel) (by decide +kernel)) (goodIn_sub (fun _ h => List.mem_append_left _ (List.mem_append_right _ h)) (by decide +kernel))
set_option maxRecDepth 20000 in
theorem gL_law_L_kept : GoodIn wsL_law (va_wsS RL 129 yL_kept wsL_kept) := goodIn_app (goodIn_of _ (by decide +kernel)) ggL_law_L_kept
set_option maxRecDepth 20000 in
theorem ggL_law_X4_kept : GoodIn wsL_law wsX4_kept := goodIn_r _ [491, 75, 77, 55, 78, 79, 5, 80, 81, 82, 83, 84, 561, 562, 563, 564, 565, 566, 567] (by decide +kernel) (by decide +kernel)
set_option maxRecDepth 20000 in
theorem gL_law_X4_kept : GoodIn wsL_law (wsV RL 131 RX4 yX4_kept wsX4_kept) := goodIn_app (goodIn_of _ (by decide +kernel)) ggL_law_X4_kept
set_option maxRecDepth 20000 in
theorem ggL_law_L_comes : GoodIn wsL_law wsL_comes := goodIn_ca (goodIn_r _ [494, 92, 495, 496, 497, 2, 498, 20, 21, 143, 144, 145, 146, 98, 99, 28, 14, 286, 287, 288, 19, 289, 42, 227, 228, 229, 16, 230, 36, 121, 122, 123, 124, 35, 117, 118, 119, 120, 320, 321, 322, 323, 324, 325, 326, 327, 41, 328, 329, 330, 331, 332, 284, 285, 333, 148, 149, 150, 499, 500, 501, 502, 553, 554, 555, 556, 557, 558, 559, 560, 570, 571, 568, 569] (by decide +kernel) (by decide +kernel)) (goodIn_sub (fun _ h => List.mem_append_left _ (List.mem_append_right _ h)) (by decide +kernel))
set_option maxRecDepth 20000 in
theorem gL_law_L_comes : GoodIn wsL_law (va_wsS RL 132 yL_comes wsL_comes) := goodIn_app (goodIn_of _ (by decide +kernel)) ggL_law_L_comes
set_option maxRecDepth 20000 in
theorem ggL_law_X4_comes : GoodIn wsL_law wsX4_comes := goodIn_r _ [506, 75, 77, 54, 163, 164, 165, 5, 166, 76, 78, 79, 80, 81, 82, 83, 84, 167, 168, 169, 170, 53, 34, 129, 130, 131, 171, 172, 173, 339, 340, 341, 342, 55, 178, 179, 180, 181, 182, 183, 184, 185, 561, 562, 563, 564, 565, 566, 567] (by decide +kernel) (by decide +kernel)
set_option maxRecDepth 20000 in
theorem gL_law_X4_comes : GoodIn wsL_law (wsV RL 134 RX4 yX4_comes wsX4_comes) := goodIn_app (goodIn_of _ (by decide +kernel)) ggL_law_X4_comes
set_option maxRecDepth 20000 in
theorem ggL_law_L_differ : GoodIn wsL_law wsL_differ := goodIn_ca (goodIn_r _ [509, 60, 510, 511, 512, 2, 513, 21, 27, 26, 20, 317, 318, 319, 65, 66, 109, 110, 111, 16, 112, 36, 113, 114, 115, 116, 117, 118, 119, 120, 35, 121, 122, 123, 124, 456, 457, 458, 25, 459, 48, 151, 152, 153, 154, 155, 156, 157, 158, 460, 461, 462, 463, 47, 286, 287, 288, 19, 289, 42, 320, 321, 322, 323, 324, 325, 326, 327, 41, 328, 329, 330, 331, 332, 284, 285, 333, 148, 149, 150, 464, 465, 466, 467, 553, 554, 555, 556, 557, 558, 559, 560, 568, 569, 572, 573, 570, 571] (by decide +kernel) (by decide +kernel)) (goodIn_sub (fun _ h => List.mem_append_left _ (List.mem_append_left _ (List.mem_append_right _ h))) (by decide +kernel))
set_option maxRecDepth 20000 in
theorem gL_law_L_differ : GoodIn wsL_law (va_wsS RL 135 yL_differ wsL_differ) := goodIn_app (goodIn_of _ (by decide +kernel)) ggL_law_L_differ
set_option maxRecDepth 20000 in
theorem ggL_law_X4_differ : GoodIn wsL_law wsX4_differ := goodIn_r _ [517, 75, 77, 34, 78, 79, 5, 80, 81, 82, 83, 84, 167, 168, 169, 170, 53, 129, 130, 131, 171, 172, 173, 339, 340, 341, 342, 55, 178, 179, 180, 181, 182, 183, 184, 185, 561, 562, 563, 564, 565, 566, 567] (by decide +kernel) (by decide +kernel)
set_option maxRecDepth 20000 in
theorem gL_law_X4_differ : GoodIn wsL_law (wsV RL 137 RX4 yX4_differ wsX4_differ) := goodIn_app (goodIn_of _ (by decide +kernel)) ggL_law_X4_differ
set_option maxRecDepth 20000 in
theorem ggL_law_L_advise : GoodIn wsL_law wsL_advise := goodIn_ca (goodIn_r _ [520, 92, 521, 522, 523, 2, 524, 28, 22, 14, 143, 144, 145, 146, 98, 99, 204, 205, 206, 16, 207, 36, 121, 122, 123, 124, 35, 117, 118, 119, 120, 370, 371, 372, 373, 155, 156, 157, 158, 553, 554, 555, 556, 557, 558, 559, 560, 568, 569] (by decide +kernel) (by decide +kernel)) (goodIn_sub (fun _ h => List.mem_append_left _ (List.mem_append_right _ h)) (by decide +kernel))
set_option maxRecDepth 20000 in
theorem gL_law_L_advise : GoodIn wsL_law (va_wsS RL 138 yL_advise wsL_advise) := goodIn_app (goodIn_of _ (by decide +kernel)) ggL_law_L_advise
set_option maxRecDepth 20000 in
theorem ggL_law_X4_advise : GoodIn wsL_law wsX4_advise := goodIn_r _ [528, 75, 54, 76, 163, 164, 165, 5, 166, 78, 79, 80, 81, 82, 83, 84, 167, 168, 169, 170, 53, 34, 129, 130, 131, 171, 172, 173, 212, 213, 214, 215, 414, 415, 416, 417, 182, 183, 184, 185, 561, 562, 563, 564, 565, 566, 567] (by decide +kernel) (by decide +kernel)
set_option maxRecDepth 20000 in
theorem gL_law_X4_advise : GoodIn wsL_law (wsV RL 140 RX4 yX4_advise wsX4_advise) := goodIn_app (goodIn_of _ (by decide +kernel)) ggL_law_X4_advise
set_option maxRecDepth 20000 in
theorem ggL_law_X3_mean : GoodIn wsL_law wsX3_mean := goodIn_r _ [532, 28, 14, 151, 152, 153, 16, 154, 36, 155, 156, 157, 158, 121, 122, 123, 124, 35, 553, 554, 555, 556, 557, 558, 559, 560, 568, 569] (by decide +kernel) (by decide +kernel)
set_option maxRecDepth 20000 in
theorem gL_law_X3_mean : GoodIn wsL_law (wsV RL 141 RX3 yX3_mean wsX3_mean) := goodIn_app (goodIn_of _ (by decide +kernel)) ggL_law_X3_mean
set_option maxRecDepth 20000 in
theorem ggL_law_X4_mean : GoodIn wsL_law wsX4_mean := goodIn_r _ [536, 75, 76, 54, 561, 562, 563, 564, 565, 566, 567] (by decide +kernel) (by decide +kernel)
set_option maxRecDepth 20000 in
theorem gL_law_X4_mean : GoodIn wsL_law (wsV RL 145 RX4 yX4_mean wsX4_mean) := goodIn_app (goodIn_of _ (by decide +kernel)) ggL_law_X4_mean
set_option maxRecDepth 20000 in
theorem ggL_law_X3_digest : GoodIn wsL_law wsX3_digest := goodIn_ca (goodIn_r _ [540, 541, 542, 28, 27, 20, 543, 449, 450, 2, 451, 98, 99, 29, 100, 101, 102, 452, 453, 454, 455, 26, 14, 456, 457, 458, 25, 459, 48, 151, 152, 153, 16, 154, 36, 155, 156, 157, 158, 121, 122, 123, 124, 35, 460, 461, 462, 463, 47, 464, 465, 466, 467, 286, 287, 288, 19, 289, 42, 544, 367, 368, 369, 143, 144, 145, 146, 370, 371, 372, 373, 374, 375, 376, 377, 378, 379, 380, 381, 382, 383, 384, 385, 386, 387, 388, 389, 250, 251, 252, 253, 390, 391, 392, 393, 394, 395, 396, 397, 398, 399, 400, 401, 402, 403, 404, 545, 347, 348, 349, 350, 351, 352, 353, 354, 546, 484, 485, 486, 487, 325, 326, 327, 41, 553, 554, 555, 556, 557, 558, 559, 560, 572, 573, 568, 569, 570, 571] (by decide +kernel) (by decide +kernel)) (goodIn_sub (fun _ h => List.mem_append_left _ (List.mem_append_right _ h)) (by decide +kernel))
set_option maxRecDepth 20000 in
theorem gL_law_X3_digest : GoodIn wsL_law (wsV RL 146 RX3 yX3_digest wsX3_digest) := goodIn_app (goodIn_of _ (by decide +kernel)) ggL_law_X3_digest
set_option maxRecDepth 20000 in
theorem ggL_law_X4_digest : GoodIn wsL_law wsX4_digest := goodIn_r _ [550, 75, 551, 552, 76, 54, 77, 55, 472, 473, 474, 5, 475, 53, 338, 129, 130, 131, 476, 477, 478, 479, 167, 168, 169, 170, 34, 171, 172, 173, 409, 410, 411, 412, 413, 387, 388, 389, 178, 179, 180, 181, 182, 183, 184, 185, 414, 415, 416, 417, 418, 419, 420, 421, 266, 267, 268, 269, 262, 263, 264, 265, 270, 271, 272, 235, 236, 237, 238, 561, 562, 563, 564, 565, 566, 567] (by decide +kernel) (by decide +kernel)
set_option maxRecDepth 20000 in
theorem gL_law_X4_digest : GoodIn wsL_law (wsV RL 150 RX4 yX4_digest wsX4_digest) := goodIn_app (goodIn_of _ (by decide +kernel)) ggL_law_X4_digest
