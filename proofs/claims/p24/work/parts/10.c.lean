set_option maxRecDepth 20000 in
theorem ggL_product_L_product : GoodIn wsL_product wsL_product := goodIn_r _ [0, 1, 2, 3] (by decide +kernel) (by decide +kernel)
set_option maxRecDepth 20000 in
theorem gL_product_L_product : GoodIn wsL_product (va_wsS RL 9 yL_product wsL_product) := goodIn_app (goodIn_of _ (by decide +kernel)) ggL_product_L_product
set_option maxRecDepth 20000 in
theorem ggL_bellsOf_L_cell : GoodIn wsL_bellsOf wsL_cell := goodIn_r _ [4, 5] (by decide +kernel) (by decide +kernel)
set_option maxRecDepth 20000 in
theorem gL_bellsOf_L_cell : GoodIn wsL_bellsOf (va_wsS RL 15 yL_cell wsL_cell) := goodIn_app (goodIn_of _ (by decide +kernel)) ggL_bellsOf_L_cell
set_option maxRecDepth 20000 in
theorem ggL_bellsOf_L_below : GoodIn wsL_bellsOf wsL_below := goodIn_r _ [8, 9] (by decide +kernel) (by decide +kernel)
set_option maxRecDepth 20000 in
theorem gL_bellsOf_L_below : GoodIn wsL_bellsOf (va_wsS RL 19 yL_below wsL_below) := goodIn_app (goodIn_of _ (by decide +kernel)) ggL_bellsOf_L_below
set_option maxRecDepth 20000 in
theorem ggL_tower_X3_init : GoodIn wsL_tower wsX3_init := goodIn_r _ [6, 7, 8, 9, 10, 11, 12, 13, 14, 15, 16, 17, 18, 19, 20, 21, 22, 23, 24, 25, 26, 27, 28, 29, 30, 31, 32, 33, 34, 35, 36, 37, 38, 39, 40, 41, 42, 43, 44, 45, 102, 103, 104, 105, 106, 107, 108, 109, 110, 111, 112, 113, 114, 115] (by decide +kernel) (by decide +kernel)
set_option maxRecDepth 20000 in
theorem gL_tower_X3_init : GoodIn wsL_tower (wsX3_init) := ggL_tower_X3_init
set_option maxRecDepth 20000 in
theorem ggL_tower_L_bellsOf : GoodIn wsL_tower wsL_bellsOf := goodIn_r _ [49, 50, 51, 48, 52, 53, 54, 55, 56, 57] (by decide +kernel) (by decide +kernel)
set_option maxRecDepth 20000 in
theorem gL_tower_L_bellsOf : GoodIn wsL_tower (va_wsS RL 26 yL_bellsOf wsL_bellsOf) := goodIn_app (goodIn_of _ (by decide +kernel)) ggL_tower_L_bellsOf
set_option maxRecDepth 20000 in
theorem ggL_tower_X3_setBells : GoodIn wsL_tower wsX3_setBells := goodIn_ca (goodIn_r _ [61, 62, 63, 24, 25, 17, 64, 65, 66, 16, 67, 39, 102, 103, 104, 105, 106, 107, 108, 109, 112, 113] (by decide +kernel) (by decide +kernel)) (goodIn_sub (fun _ h => List.mem_cons_of_mem _ (List.mem_append_left _ (List.mem_append_left _ (List.mem_append_right _ h)))) (by decide +kernel))
set_option maxRecDepth 20000 in
theorem gL_tower_X3_setBells : GoodIn wsL_tower (wsV RL 30 RX3 yX3_setBells wsX3_setBells) := goodIn_app (goodIn_of _ (by decide +kernel)) ggL_tower_X3_setBells
set_option maxRecDepth 20000 in
theorem ggL_tower_L_cell : GoodIn wsL_tower wsL_cell := goodIn_r _ [52, 53] (by decide +kernel) (by decide +kernel)
set_option maxRecDepth 20000 in
theorem gL_tower_L_cell : GoodIn wsL_tower (va_wsS RL 15 yL_cell wsL_cell) := goodIn_app (goodIn_of _ (by decide +kernel)) ggL_tower_L_cell
set_option maxRecDepth 20000 in
theorem ggL_tower_L_product : GoodIn wsL_tower wsL_product := goodIn_r _ [70, 68, 69, 48] (by decide +kernel) (by decide +kernel)
set_option maxRecDepth 20000 in
theorem gL_tower_L_product : GoodIn wsL_tower (va_wsS RL 9 yL_product wsL_product) := goodIn_app (goodIn_of _ (by decide +kernel)) ggL_tower_L_product
set_option maxRecDepth 20000 in
theorem ggL_tower_L_below : GoodIn wsL_tower wsL_below := goodIn_r _ [56, 57] (by decide +kernel) (by decide +kernel)
set_option maxRecDepth 20000 in
theorem gL_tower_L_below : GoodIn wsL_tower (va_wsS RL 19 yL_below wsL_below) := goodIn_app (goodIn_of _ (by decide +kernel)) ggL_tower_L_below
set_option maxRecDepth 20000 in
theorem ggL_tower_X3_write : GoodIn wsL_tower wsX3_write := goodIn_ca (goodIn_ca (goodIn_r _ [74, 75, 76, 24, 25, 77, 78, 3, 79, 80, 81, 82, 83, 84, 85, 11, 86, 87, 88, 13, 89, 33, 90, 91, 92, 93, 94, 95, 96, 97, 32, 98, 99, 100, 101, 102, 103, 104, 105, 106, 107, 108, 109, 110, 111] (by decide +kernel) (by decide +kernel)) (goodIn_sub (fun _ h => List.mem_cons_of_mem _ (List.mem_append_left _ (List.mem_append_right _ h))) (by decide +kernel))) (goodIn_sub (fun _ h => List.mem_cons_of_mem _ (List.mem_append_right _ h)) (by decide +kernel))
set_option maxRecDepth 20000 in
theorem gL_tower_X3_write : GoodIn wsL_tower (wsV RL 33 RX3 yX3_write wsX3_write) := goodIn_app (goodIn_of _ (by decide +kernel)) ggL_tower_X3_write
set_option maxRecDepth 20000 in
theorem ggL_steps_L_cell : GoodIn wsL_steps wsL_cell := goodIn_r _ [4, 5] (by decide +kernel) (by decide +kernel)
set_option maxRecDepth 20000 in
theorem gL_steps_L_cell : GoodIn wsL_steps (va_wsS RL 15 yL_cell wsL_cell) := goodIn_app (goodIn_of _ (by decide +kernel)) ggL_steps_L_cell
set_option maxRecDepth 20000 in
theorem ggL_steps_L_below : GoodIn wsL_steps wsL_below := goodIn_r _ [8, 9] (by decide +kernel) (by decide +kernel)
set_option maxRecDepth 20000 in
theorem gL_steps_L_below : GoodIn wsL_steps (va_wsS RL 19 yL_below wsL_below) := goodIn_app (goodIn_of _ (by decide +kernel)) ggL_steps_L_below
set_option maxRecDepth 20000 in
theorem ggL_steps_L_keptOf : GoodIn wsL_steps wsL_keptOf := goodIn_r _ [12, 1, 2, 3, 4, 5] (by decide +kernel) (by decide +kernel)
set_option maxRecDepth 20000 in
theorem gL_steps_L_keptOf : GoodIn wsL_steps (va_wsS RL 36 yL_keptOf wsL_keptOf) := goodIn_app (goodIn_of _ (by decide +kernel)) ggL_steps_L_keptOf
set_option maxRecDepth 20000 in
theorem ggL_steps_X3_step : GoodIn wsL_steps wsX3_step := goodIn_ca (goodIn_ca (goodIn_r _ [17, 18, 19, 20, 21, 22, 23, 24, 25, 26, 27, 28, 29, 30, 31, 32, 33, 34, 35, 36, 37, 38, 39, 40, 41, 42, 43, 44, 45, 46, 47, 48, 49, 50] (by decide +kernel) (by decide +kernel)) (goodIn_sub (fun _ h => List.mem_cons_of_mem _ (List.mem_append_left _ (List.mem_append_right _ h))) (by decide +kernel))) (goodIn_sub (fun _ h => List.mem_cons_of_mem _ (List.mem_append_right _ h)) (by decide +kernel))
set_option maxRecDepth 20000 in
theorem gL_steps_X3_step : GoodIn wsL_steps (wsV RL 40 RX3 yX3_step wsX3_step) := goodIn_app (goodIn_of _ (by decide +kernel)) ggL_steps_X3_step
set_option maxRecDepth 20000 in
theorem ggL_keptOf_L_cell : GoodIn wsL_keptOf wsL_cell := goodIn_r _ [4, 5] (by decide +kernel) (by decide +kernel)
set_option maxRecDepth 20000 in
theorem gL_keptOf_L_cell : GoodIn wsL_keptOf (va_wsS RL 15 yL_cell wsL_cell) := goodIn_app (goodIn_of _ (by decide +kernel)) ggL_keptOf_L_cell
set_option maxRecDepth 20000 in
theorem ggL_law_L_tower : GoodIn wsL_law wsL_tower := goodIn_ca (goodIn_ca (goodIn_ca (goodIn_r _ [3, 4, 5, 6, 7, 8, 9, 10, 11, 12, 13, 14, 15, 16, 17, 18, 19, 20, 21, 22, 23, 24, 25, 26, 27, 28, 29, 30, 31, 32, 33, 34, 35, 36, 37, 38, 39, 40, 41, 42, 43, 44, 45, 46, 47, 48, 49, 50, 2, 51, 52, 53, 54, 55, 56, 57, 58, 59, 60, 61, 62, 63, 64, 65, 66, 67, 68, 69, 70, 71, 72, 73, 74, 75, 76, 77, 78, 79, 80, 81, 82, 83, 84, 85, 86, 87, 88, 89, 90, 91, 92, 93, 94, 95, 96, 97, 98, 99, 100, 101, 102, 103, 304, 305, 306, 307, 308, 309, 310, 311, 312, 313, 314, 315, 316, 317] (by decide +kernel) (by decide +kernel)) (goodIn_sub (fun _ h => List.mem_append_left _ (List.mem_append_left _ (List.mem_append_right _ h))) (by decide +kernel))) (goodIn_sub (fun _ h => List.mem_append_left _ (List.mem_append_right _ h)) (by decide +kernel))) (goodIn_sub (fun _ h => List.mem_append_right _ h) (by decide +kernel))
set_option maxRecDepth 20000 in
theorem gL_law_L_tower : GoodIn wsL_law (va_wsS RL 43 yL_tower wsL_tower) := goodIn_app (goodIn_of _ (by decide +kernel)) ggL_law_L_tower
set_option maxRecDepth 20000 in
theorem ggL_law_L_bellsOf : GoodIn wsL_law wsL_bellsOf := goodIn_r _ [51, 52, 53, 2, 54, 55, 56, 57, 58, 59] (by decide +kernel) (by decide +kernel)
set_option maxRecDepth 20000 in
theorem gL_law_L_bellsOf : GoodIn wsL_law (va_wsS RL 26 yL_bellsOf wsL_bellsOf) := goodIn_app (goodIn_of _ (by decide +kernel)) ggL_law_L_bellsOf
set_option maxRecDepth 20000 in
theorem ggL_law_L_steps : GoodIn wsL_law wsL_steps := goodIn_ca (goodIn_ca (goodIn_r _ [106, 52, 53, 2, 54, 55, 56, 57, 58, 59, 107, 108, 109, 110, 111, 112, 6, 113, 64, 65, 86, 87, 27, 20, 114, 115, 19, 116, 117, 118, 119, 120, 121, 122, 123, 42, 124, 125, 126, 127, 41, 304, 305, 306, 307, 308, 309, 310, 311, 314, 315] (by decide +kernel) (by decide +kernel)) (goodIn_sub (fun _ h => List.mem_append_left _ (List.mem_append_left _ (List.mem_append_right _ h))) (by decide +kernel))) (goodIn_sub (fun _ h => List.mem_append_right _ h) (by decide +kernel))
set_option maxRecDepth 20000 in
theorem gL_law_L_steps : GoodIn wsL_law (va_wsS RL 47 yL_steps wsL_steps) := goodIn_app (goodIn_of _ (by decide +kernel)) ggL_law_L_steps
set_option maxRecDepth 20000 in
theorem ggL_law_L_cell : GoodIn wsL_law wsL_cell := goodIn_r _ [54, 55] (by decide +kernel) (by decide +kernel)
set_option maxRecDepth 20000 in
theorem gL_law_L_cell : GoodIn wsL_law (va_wsS RL 15 yL_cell wsL_cell) := goodIn_app (goodIn_of _ (by decide +kernel)) ggL_law_L_cell
set_option maxRecDepth 20000 in
theorem ggL_law_L_below : GoodIn wsL_law wsL_below := goodIn_r _ [58, 59] (by decide +kernel) (by decide +kernel)
set_option maxRecDepth 20000 in
theorem gL_law_L_below : GoodIn wsL_law (va_wsS RL 19 yL_below wsL_below) := goodIn_app (goodIn_of _ (by decide +kernel)) ggL_law_L_below
set_option maxRecDepth 20000 in
theorem ggL_law_X3_told : GoodIn wsL_law wsX3_told := goodIn_ca (goodIn_r _ [131, 77, 78, 132, 133, 134, 6, 135, 28, 14, 136, 137, 138, 16, 139, 36, 140, 141, 142, 143, 100, 101, 102, 103, 35, 144, 145, 146, 147, 148, 149, 150, 151, 152, 153, 154, 155, 156, 157, 158, 159, 160, 161, 162, 163, 164, 165, 166, 167, 168, 169, 170, 171, 172, 173, 174, 175, 176, 177, 178, 179, 180, 181, 182, 304, 305, 306, 307, 308, 309, 310, 311, 312, 313] (by decide +kernel) (by decide +kernel)) (goodIn_sub (fun _ h => List.mem_append_left _ (List.mem_append_right _ h)) (by decide +kernel))
set_option maxRecDepth 20000 in
theorem gL_law_X3_told : GoodIn wsL_law (wsV RL 51 RX3 yX3_told wsX3_told) := goodIn_app (goodIn_of _ (by decide +kernel)) ggL_law_X3_told
set_option maxRecDepth 20000 in
theorem ggL_law_X3_swap : GoodIn wsL_law wsX3_swap := goodIn_ca (goodIn_r _ [186, 77, 78, 27, 132, 133, 134, 6, 135, 28, 14, 187, 188, 189, 16, 190, 100, 101, 102, 103, 35, 96, 97, 98, 99, 136, 137, 138, 139, 36, 140, 141, 142, 143, 304, 305, 306, 307, 308, 309, 310, 311, 312, 313] (by decide +kernel) (by decide +kernel)) (goodIn_sub (fun _ h => List.mem_append_left _ (List.mem_append_right _ h)) (by decide +kernel))
set_option maxRecDepth 20000 in
theorem gL_law_X3_swap : GoodIn wsL_law (wsV RL 54 RX3 yX3_swap wsX3_swap) := goodIn_app (goodIn_of _ (by decide +kernel)) ggL_law_X3_swap
set_option maxRecDepth 20000 in
theorem ggL_law_X3_next : GoodIn wsL_law wsX3_next := goodIn_ca (goodIn_r _ [194, 27, 132, 133, 134, 6, 135, 77, 78, 28, 14, 136, 137, 138, 16, 139, 36, 140, 141, 142, 143, 100, 101, 102, 103, 35, 79, 80, 81, 88, 89, 90, 91, 92, 93, 94, 95, 96, 97, 98, 99, 304, 305, 306, 307, 308, 309, 310, 311, 312, 313] (by decide +kernel) (by decide +kernel)) (goodIn_sub (fun _ h => List.mem_append_left _ (List.mem_append_right _ h)) (by decide +kernel))
set_option maxRecDepth 20000 in
theorem gL_law_X3_next : GoodIn wsL_law (wsV RL 57 RX3 yX3_next wsX3_next) := goodIn_app (goodIn_of _ (by decide +kernel)) ggL_law_X3_next
set_option maxRecDepth 20000 in
theorem ggL_law_L_product : GoodIn wsL_law wsL_product := goodIn_r _ [72, 70, 71, 2] (by decide +kernel) (by decide +kernel)
set_option maxRecDepth 20000 in
theorem gL_law_L_product : GoodIn wsL_law (va_wsS RL 9 yL_product wsL_product) := goodIn_app (goodIn_of _ (by decide +kernel)) ggL_law_L_product
set_option maxRecDepth 20000 in
theorem ggL_law_X3_behind : GoodIn wsL_law wsX3_behind := goodIn_ca (goodIn_ca (goodIn_r _ [198, 28, 132, 133, 134, 6, 135, 77, 78, 14, 82, 83, 84, 85, 86, 87, 199, 200, 201, 16, 202, 36, 100, 101, 102, 103, 35, 96, 97, 98, 99, 304, 305, 306, 307, 308, 309, 310, 311, 312, 313] (by decide +kernel) (by decide +kernel)) (goodIn_sub (fun _ h => List.mem_append_left _ (List.mem_append_right _ h)) (by decide +kernel))) (goodIn_sub (fun _ h => List.mem_append_right _ h) (by decide +kernel))
set_option maxRecDepth 20000 in
theorem gL_law_X3_behind : GoodIn wsL_law (wsV RL 60 RX3 yX3_behind wsX3_behind) := goodIn_app (goodIn_of _ (by decide +kernel)) ggL_law_X3_behind
set_option maxRecDepth 20000 in
theorem ggL_law_X3_back : GoodIn wsL_law wsX3_back := goodIn_ca (goodIn_r _ [206, 22, 132, 133, 134, 6, 135, 77, 78, 28, 14, 207, 208, 209, 16, 210, 36, 100, 101, 102, 103, 35, 96, 97, 98, 99, 211, 212, 213, 214, 136, 137, 138, 139, 140, 141, 142, 143, 304, 305, 306, 307, 308, 309, 310, 311, 312, 313] (by decide +kernel) (by decide +kernel)) (goodIn_sub (fun _ h => List.mem_append_left _ (List.mem_append_right _ h)) (by decide +kernel))
set_option maxRecDepth 20000 in
theorem gL_law_X3_back : GoodIn wsL_law (wsV RL 63 RX3 yX3_back wsX3_back) := goodIn_app (goodIn_of _ (by decide +kernel)) ggL_law_X3_back
set_option maxRecDepth 20000 in
theorem ggL_law_X3_ring : GoodIn wsL_law wsX3_ring := goodIn_ca (goodIn_ca (goodIn_r _ [218, 20, 29, 132, 133, 134, 6, 135, 77, 78, 28, 14, 219, 220, 221, 64, 65, 120, 121, 122, 19, 123, 42, 222, 223, 224, 225, 226, 227, 228, 229, 41, 230, 231, 232, 16, 233, 36, 234, 118, 119, 235, 188, 189, 190, 100, 101, 102, 103, 35, 96, 97, 98, 99, 136, 137, 138, 139, 140, 141, 142, 143, 304, 305, 306, 307, 308, 309, 310, 311, 314, 315, 312, 313] (by decide +kernel) (by decide +kernel)) (goodIn_sub (fun _ h => List.mem_append_left _ (List.mem_append_right _ h)) (by decide +kernel))) (goodIn_sub (fun _ h => List.mem_append_left _ (List.mem_append_left _ (List.mem_append_right _ h))) (by decide +kernel))
set_option maxRecDepth 20000 in
theorem gL_law_X3_ring : GoodIn wsL_law (wsV RL 66 RX3 yX3_ring wsX3_ring) := goodIn_app (goodIn_of _ (by decide +kernel)) ggL_law_X3_ring
set_option maxRecDepth 20000 in
theorem ggL_law_X3_digest : GoodIn wsL_law wsX3_digest := goodIn_ca (goodIn_r _ [239, 240, 241, 28, 27, 20, 242, 243, 244, 6, 245, 77, 78, 29, 79, 80, 81, 246, 247, 248, 249, 26, 14, 250, 251, 252, 25, 253, 48, 136, 137, 138, 16, 139, 36, 140, 141, 142, 143, 100, 101, 102, 103, 35, 254, 255, 256, 257, 47, 258, 259, 260, 261, 120, 121, 122, 19, 123, 42, 262, 129, 130, 131, 132, 133, 134, 135, 144, 145, 146, 147, 148, 149, 150, 151, 152, 153, 154, 155, 156, 157, 158, 159, 160, 161, 162, 163, 164, 165, 166, 167, 168, 169, 170, 171, 172, 173, 174, 175, 176, 177, 178, 179, 180, 181, 182, 263, 264, 265, 266, 267, 268, 269, 270, 271, 272, 273, 274, 275, 276, 227, 228, 229, 41, 304, 305, 306, 307, 308, 309, 310, 311, 316, 317, 312, 313, 314, 315] (by decide +kernel) (by decide +kernel)) (goodIn_sub (fun _ h => List.mem_append_left _ (List.mem_append_right _ h)) (by decide +kernel))
set_option maxRecDepth 20000 in
theorem gL_law_X3_digest : GoodIn wsL_law (wsV RL 69 RX3 yX3_digest wsX3_digest) := goodIn_app (goodIn_of _ (by decide +kernel)) ggL_law_X3_digest
set_option maxRecDepth 20000 in
theorem ggL_law_X3_comes : GoodIn wsL_law wsX3_comes := goodIn_ca (goodIn_r _ [280, 20, 21, 132, 133, 134, 6, 135, 77, 78, 28, 14, 120, 121, 122, 19, 123, 42, 211, 212, 213, 16, 214, 36, 100, 101, 102, 103, 35, 96, 97, 98, 99, 222, 223, 224, 225, 226, 227, 228, 229, 41, 230, 231, 232, 233, 234, 118, 119, 235, 188, 189, 190, 281, 282, 283, 284, 304, 305, 306, 307, 308, 309, 310, 311, 314, 315, 312, 313] (by decide +kernel) (by decide +kernel)) (goodIn_sub (fun _ h => List.mem_append_left _ (List.mem_append_right _ h)) (by decide +kernel))
set_option maxRecDepth 20000 in
theorem gL_law_X3_comes : GoodIn wsL_law (wsV RL 73 RX3 yX3_comes wsX3_comes) := goodIn_app (goodIn_of _ (by decide +kernel)) ggL_law_X3_comes
set_option maxRecDepth 20000 in
theorem ggL_law_X3_differ : GoodIn wsL_law wsX3_differ := goodIn_ca (goodIn_r _ [288, 21, 27, 26, 20, 219, 220, 6, 221, 64, 65, 88, 89, 90, 16, 91, 36, 92, 93, 94, 95, 96, 97, 98, 99, 35, 100, 101, 102, 103, 250, 251, 252, 25, 253, 48, 136, 137, 138, 139, 140, 141, 142, 143, 254, 255, 256, 257, 47, 120, 121, 122, 19, 123, 42, 222, 223, 224, 225, 226, 227, 228, 229, 41, 230, 231, 232, 233, 234, 118, 119, 235, 188, 189, 190, 258, 259, 260, 261, 304, 305, 306, 307, 308, 309, 310, 311, 312, 313, 316, 317, 314, 315] (by decide +kernel) (by decide +kernel)) (goodIn_sub (fun _ h => List.mem_append_left _ (List.mem_append_left _ (List.mem_append_right _ h))) (by decide +kernel))
set_option maxRecDepth 20000 in
theorem gL_law_X3_differ : GoodIn wsL_law (wsV RL 76 RX3 yX3_differ wsX3_differ) := goodIn_app (goodIn_of _ (by decide +kernel)) ggL_law_X3_differ
set_option maxRecDepth 20000 in
theorem ggL_law_X3_advise : GoodIn wsL_law wsX3_advise := goodIn_ca (goodIn_r _ [292, 28, 22, 14, 132, 133, 134, 6, 135, 77, 78, 199, 200, 201, 16, 202, 36, 100, 101, 102, 103, 35, 96, 97, 98, 99, 144, 145, 146, 147, 140, 141, 142, 143, 304, 305, 306, 307, 308, 309, 310, 311, 312, 313] (by decide +kernel) (by decide +kernel)) (goodIn_sub (fun _ h => List.mem_append_left _ (List.mem_append_right _ h)) (by decide +kernel))
set_option maxRecDepth 20000 in
theorem gL_law_X3_advise : GoodIn wsL_law (wsV RL 79 RX3 yX3_advise wsX3_advise) := goodIn_app (goodIn_of _ (by decide +kernel)) ggL_law_X3_advise
set_option maxRecDepth 20000 in
theorem ggL_law_X3_count : GoodIn wsL_law wsX3_count := goodIn_ca (goodIn_r _ [245, 77, 78, 27, 28, 20, 29, 79, 80, 6, 81, 246, 247, 248, 249, 26, 14, 250, 251, 252, 25, 253, 48, 136, 137, 138, 16, 139, 36, 140, 141, 142, 143, 100, 101, 102, 103, 35, 254, 255, 256, 257, 47, 258, 259, 260, 261, 120, 121, 122, 19, 123, 42, 304, 305, 306, 307, 308, 309, 310, 311, 316, 317, 312, 313, 314, 315] (by decide +kernel) (by decide +kernel)) (goodIn_sub (fun _ h => List.mem_append_left _ (List.mem_append_right _ h)) (by decide +kernel))
set_option maxRecDepth 20000 in
theorem gL_law_X3_count : GoodIn wsL_law (wsV RL 82 RX3 yX3_count wsX3_count) := goodIn_app (goodIn_of _ (by decide +kernel)) ggL_law_X3_count
set_option maxRecDepth 20000 in
theorem ggL_law_X3_bell : GoodIn wsL_law wsX3_bell := goodIn_ca (goodIn_r _ [266, 132, 133, 134, 6, 135, 77, 78, 28, 14, 267, 268, 269, 270, 27, 271, 101, 102, 16, 103, 35, 304, 305, 306, 307, 308, 309, 310, 311, 312, 313] (by decide +kernel) (by decide +kernel)) (goodIn_sub (fun _ h => List.mem_append_left _ (List.mem_append_right _ h)) (by decide +kernel))
set_option maxRecDepth 20000 in
theorem gL_law_X3_bell : GoodIn wsL_law (wsV RL 85 RX3 yX3_bell wsX3_bell) := goodIn_app (goodIn_of _ (by decide +kernel)) ggL_law_X3_bell
set_option maxRecDepth 20000 in
theorem ggL_law_X3_round : GoodIn wsL_law wsX3_round := goodIn_ca (goodIn_r _ [298, 132, 133, 134, 6, 135, 77, 78, 28, 14, 267, 268, 269, 270, 27, 299, 165, 166, 16, 167, 36, 100, 101, 102, 103, 35, 304, 305, 306, 307, 308, 309, 310, 311, 312, 313] (by decide +kernel) (by decide +kernel)) (goodIn_sub (fun _ h => List.mem_append_left _ (List.mem_append_right _ h)) (by decide +kernel))
set_option maxRecDepth 20000 in
theorem gL_law_X3_round : GoodIn wsL_law (wsV RL 88 RX3 yX3_round wsX3_round) := goodIn_app (goodIn_of _ (by decide +kernel)) ggL_law_X3_round
set_option maxRecDepth 20000 in
theorem ggL_law_X3_apart : GoodIn wsL_law wsX3_apart := goodIn_ca (goodIn_r _ [303, 27, 132, 133, 134, 6, 135, 77, 78, 28, 14, 271, 101, 102, 16, 103, 35, 179, 180, 181, 182, 36, 100, 304, 305, 306, 307, 308, 309, 310, 311, 312, 313] (by decide +kernel) (by decide +kernel)) (goodIn_sub (fun _ h => List.mem_append_left _ (List.mem_append_right _ h)) (by decide +kernel))
set_option maxRecDepth 20000 in
theorem gL_law_X3_apart : GoodIn wsL_law (wsV RL 91 RX3 yX3_apart wsX3_apart) := goodIn_app (goodIn_of _ (by decide +kernel)) ggL_law_X3_apart
