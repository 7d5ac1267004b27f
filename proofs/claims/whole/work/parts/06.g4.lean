set_option maxRecDepth 20000 in
theorem ggX4_isChange_X4_isIn : GoodIn wsX4_isChange wsX4_isIn := goodIn_r _ [5] (by decide +kernel) (by decide +kernel)
set_option maxRecDepth 20000 in
theorem gX4_isChange_X4_isIn : GoodIn wsX4_isChange (va_wsS RX4 26 yX4_isIn wsX4_isIn) := goodIn_app (goodIn_of _ (by decide +kernel)) ggX4_isChange_X4_isIn
set_option maxRecDepth 20000 in
theorem ggX4_isPlace_X4_isIn : GoodIn wsX4_isPlace wsX4_isIn := goodIn_r _ [5] (by decide +kernel) (by decide +kernel)
set_option maxRecDepth 20000 in
theorem gX4_isPlace_X4_isIn : GoodIn wsX4_isPlace (va_wsS RX4 26 yX4_isIn wsX4_isIn) := goodIn_app (goodIn_of _ (by decide +kernel)) ggX4_isPlace_X4_isIn
set_option maxRecDepth 20000 in
theorem ggX4_product_X4_product : GoodIn wsX4_product wsX4_product := goodIn_r _ [0, 1, 2, 3] (by decide +kernel) (by decide +kernel)
set_option maxRecDepth 20000 in
theorem gX4_product_X4_product : GoodIn wsX4_product (va_wsS RX4 30 yX4_product wsX4_product) := goodIn_app (goodIn_of _ (by decide +kernel)) ggX4_product_X4_product
set_option maxRecDepth 20000 in
theorem ggX4_row_X4_product : GoodIn wsX4_row wsX4_product := goodIn_r _ [6, 3, 4, 5] (by decide +kernel) (by decide +kernel)
set_option maxRecDepth 20000 in
theorem gX4_row_X4_product : GoodIn wsX4_row (va_wsS RX4 30 yX4_product wsX4_product) := goodIn_app (goodIn_of _ (by decide +kernel)) ggX4_row_X4_product
set_option maxRecDepth 20000 in
theorem ggX4_row_X4_bellAt : GoodIn wsX4_row wsX4_bellAt := goodIn_r _ [9] (by decide +kernel) (by decide +kernel)
set_option maxRecDepth 20000 in
theorem gX4_row_X4_bellAt : GoodIn wsX4_row (va_wsS RX4 34 yX4_bellAt wsX4_bellAt) := goodIn_app (goodIn_of _ (by decide +kernel)) ggX4_row_X4_bellAt
set_option maxRecDepth 20000 in
theorem ggX4_rank_X4_less : GoodIn wsX4_rank wsX4_less := goodIn_r _ [6, 1, 10, 11, 12, 13, 14, 15, 16] (by decide +kernel) (by decide +kernel)
set_option maxRecDepth 20000 in
theorem gX4_rank_X4_less : GoodIn wsX4_rank (wsV RX4 38 RX4 yX4_less wsX4_less) := goodIn_app (goodIn_of _ (by decide +kernel)) ggX4_rank_X4_less
set_option maxRecDepth 20000 in
theorem ggX4_rank_X4_product : GoodIn wsX4_rank wsX4_product := goodIn_r _ [9, 7, 8, 5] (by decide +kernel) (by decide +kernel)
set_option maxRecDepth 20000 in
theorem gX4_rank_X4_product : GoodIn wsX4_rank (va_wsS RX4 30 yX4_product wsX4_product) := goodIn_app (goodIn_of _ (by decide +kernel)) ggX4_rank_X4_product
set_option maxRecDepth 20000 in
theorem ggX4_inversions_X4_less : GoodIn wsX4_inversions wsX4_less := goodIn_r _ [6, 1, 7, 8, 9, 10, 11, 12, 13] (by decide +kernel) (by decide +kernel)
set_option maxRecDepth 20000 in
theorem gX4_inversions_X4_less : GoodIn wsX4_inversions (wsV RX4 38 RX4 yX4_less wsX4_less) := goodIn_app (goodIn_of _ (by decide +kernel)) ggX4_inversions_X4_less
set_option maxRecDepth 20000 in
theorem ggX4_divisor_X4_divisor : GoodIn wsX4_divisor wsX4_divisor := goodIn_r _ [0, 1, 2, 3] (by decide +kernel) (by decide +kernel)
set_option maxRecDepth 20000 in
theorem gX4_divisor_X4_divisor : GoodIn wsX4_divisor (va_wsS RX4 42 yX4_divisor wsX4_divisor) := goodIn_app (goodIn_of _ (by decide +kernel)) ggX4_divisor_X4_divisor
set_option maxRecDepth 20000 in
theorem ggX4_order_X4_ringOf : GoodIn wsX4_order wsX4_ringOf := goodIn_r _ [6] (by decide +kernel) (by decide +kernel)
set_option maxRecDepth 20000 in
theorem gX4_order_X4_ringOf : GoodIn wsX4_order (wsV RX4 45 RX4 yX4_ringOf wsX4_ringOf) := goodIn_app (goodIn_of _ (by decide +kernel)) ggX4_order_X4_ringOf
set_option maxRecDepth 20000 in
theorem ggX4_order_X4_divisor : GoodIn wsX4_order wsX4_divisor := goodIn_r _ [9, 7, 8, 5] (by decide +kernel) (by decide +kernel)
set_option maxRecDepth 20000 in
theorem gX4_order_X4_divisor : GoodIn wsX4_order (va_wsS RX4 42 yX4_divisor wsX4_divisor) := goodIn_app (goodIn_of _ (by decide +kernel)) ggX4_order_X4_divisor
set_option maxRecDepth 20000 in
theorem ggX4_isStep_X4_isIn : GoodIn wsX4_isStep wsX4_isIn := goodIn_r _ [5] (by decide +kernel) (by decide +kernel)
set_option maxRecDepth 20000 in
theorem gX4_isStep_X4_isIn : GoodIn wsX4_isStep (va_wsS RX4 26 yX4_isIn wsX4_isIn) := goodIn_app (goodIn_of _ (by decide +kernel)) ggX4_isStep_X4_isIn
set_option maxRecDepth 20000 in
theorem ggX4_setBells_X4_isIn : GoodIn wsX4_setBells wsX4_isIn := goodIn_r _ [8] (by decide +kernel) (by decide +kernel)
set_option maxRecDepth 20000 in
theorem gX4_setBells_X4_isIn : GoodIn wsX4_setBells (va_wsS RX4 26 yX4_isIn wsX4_isIn) := goodIn_app (goodIn_of _ (by decide +kernel)) ggX4_setBells_X4_isIn
set_option maxRecDepth 20000 in
theorem ggX4_setBells_X4_no : GoodIn wsX4_setBells wsX4_no := goodIn_r _ [12, 1, 13, 14, 15, 16, 17, 18, 19] (by decide +kernel) (by decide +kernel)
set_option maxRecDepth 20000 in
theorem gX4_setBells_X4_no : GoodIn wsX4_setBells (wsV RX4 51 RX4 yX4_no wsX4_no) := goodIn_app (goodIn_of _ (by decide +kernel)) ggX4_setBells_X4_no
set_option maxRecDepth 20000 in
theorem ggX4_become_X4_rank : GoodIn wsX4_become wsX4_rank := goodIn_r _ [6, 7, 8, 9, 10, 5, 11, 12, 13, 14, 15, 16, 17, 18, 19, 20, 21] (by decide +kernel) (by decide +kernel)
set_option maxRecDepth 20000 in
theorem gX4_become_X4_rank : GoodIn wsX4_become (wsV RX4 54 RX4 yX4_rank wsX4_rank) := goodIn_app (goodIn_of _ (by decide +kernel)) ggX4_become_X4_rank
set_option maxRecDepth 20000 in
theorem ggX4_write_X4_product : GoodIn wsX4_write wsX4_product := goodIn_r _ [7, 4, 5, 6] (by decide +kernel) (by decide +kernel)
set_option maxRecDepth 20000 in
theorem gX4_write_X4_product : GoodIn wsX4_write (va_wsS RX4 30 yX4_product wsX4_product) := goodIn_app (goodIn_of _ (by decide +kernel)) ggX4_write_X4_product
set_option maxRecDepth 20000 in
theorem ggX4_write_X4_isIn : GoodIn wsX4_write wsX4_isIn := goodIn_r _ [10] (by decide +kernel) (by decide +kernel)
set_option maxRecDepth 20000 in
theorem gX4_write_X4_isIn : GoodIn wsX4_write (va_wsS RX4 26 yX4_isIn wsX4_isIn) := goodIn_app (goodIn_of _ (by decide +kernel)) ggX4_write_X4_isIn
set_option maxRecDepth 20000 in
theorem ggX4_write_X4_no : GoodIn wsX4_write wsX4_no := goodIn_r _ [14, 1, 20, 21, 22, 23, 24, 25, 26] (by decide +kernel) (by decide +kernel)
set_option maxRecDepth 20000 in
theorem gX4_write_X4_no : GoodIn wsX4_write (wsV RX4 51 RX4 yX4_no wsX4_no) := goodIn_app (goodIn_of _ (by decide +kernel)) ggX4_write_X4_no
set_option maxRecDepth 20000 in
theorem ggX4_write_X4_add : GoodIn wsX4_write wsX4_add := goodIn_r _ [18, 19, 3, 20, 21, 22, 23, 24, 25, 26] (by decide +kernel) (by decide +kernel)
set_option maxRecDepth 20000 in
theorem gX4_write_X4_add : GoodIn wsX4_write (wsV RX4 58 RX4 yX4_add wsX4_add) := goodIn_app (goodIn_of _ (by decide +kernel)) ggX4_write_X4_add
set_option maxRecDepth 20000 in
theorem ggX4_swap_X4_isChange : GoodIn wsX4_swap wsX4_isChange := goodIn_r _ [8, 9, 10, 11, 7, 12, 40, 41, 42, 43, 44, 45, 46] (by decide +kernel) (by decide +kernel)
set_option maxRecDepth 20000 in
theorem gX4_swap_X4_isChange : GoodIn wsX4_swap (wsV RX4 61 RX4 yX4_isChange wsX4_isChange) := goodIn_app (goodIn_of _ (by decide +kernel)) ggX4_swap_X4_isChange
set_option maxRecDepth 20000 in
theorem ggX4_swap_X4_isIn : GoodIn wsX4_swap wsX4_isIn := goodIn_r _ [12] (by decide +kernel) (by decide +kernel)
set_option maxRecDepth 20000 in
theorem gX4_swap_X4_isIn : GoodIn wsX4_swap (va_wsS RX4 26 yX4_isIn wsX4_isIn) := goodIn_app (goodIn_of _ (by decide +kernel)) ggX4_swap_X4_isIn
set_option maxRecDepth 20000 in
theorem ggX4_swap_X4_no : GoodIn wsX4_swap wsX4_no := goodIn_r _ [16, 1, 40, 41, 42, 43, 44, 45, 46] (by decide +kernel) (by decide +kernel)
set_option maxRecDepth 20000 in
theorem gX4_swap_X4_no : GoodIn wsX4_swap (wsV RX4 51 RX4 yX4_no wsX4_no) := goodIn_app (goodIn_of _ (by decide +kernel)) ggX4_swap_X4_no
set_option maxRecDepth 20000 in
theorem ggX4_swap_X4_row : GoodIn wsX4_swap wsX4_row := goodIn_r _ [20, 2, 21, 22, 23, 7, 24, 25, 26, 27, 40, 41, 42, 43, 44, 45, 46] (by decide +kernel) (by decide +kernel)
set_option maxRecDepth 20000 in
theorem gX4_swap_X4_row : GoodIn wsX4_swap (wsV RX4 65 RX4 yX4_row wsX4_row) := goodIn_app (goodIn_of _ (by decide +kernel)) ggX4_swap_X4_row
set_option maxRecDepth 20000 in
theorem ggX4_swap_X4_become : GoodIn wsX4_swap wsX4_become := goodIn_r _ [31, 3, 32, 33, 34, 7, 35, 2, 36, 37, 38, 39, 22, 23, 24, 40, 41, 42, 43, 44, 45, 46] (by decide +kernel) (by decide +kernel)
set_option maxRecDepth 20000 in
theorem gX4_swap_X4_become : GoodIn wsX4_swap (wsV RX4 69 RX4 yX4_become wsX4_become) := goodIn_app (goodIn_of _ (by decide +kernel)) ggX4_swap_X4_become
set_option maxRecDepth 20000 in
theorem ggX4_next_X4_isChange : GoodIn wsX4_next wsX4_isChange := goodIn_r _ [8, 9, 10, 11, 7, 12, 20, 21, 22, 23, 24, 25, 26] (by decide +kernel) (by decide +kernel)
set_option maxRecDepth 20000 in
theorem gX4_next_X4_isChange : GoodIn wsX4_next (wsV RX4 61 RX4 yX4_isChange wsX4_isChange) := goodIn_app (goodIn_of _ (by decide +kernel)) ggX4_next_X4_isChange
set_option maxRecDepth 20000 in
theorem ggX4_next_X4_no : GoodIn wsX4_next wsX4_no := goodIn_r _ [16, 1, 20, 21, 22, 23, 24, 25, 26] (by decide +kernel) (by decide +kernel)
set_option maxRecDepth 20000 in
theorem gX4_next_X4_no : GoodIn wsX4_next (wsV RX4 51 RX4 yX4_no wsX4_no) := goodIn_app (goodIn_of _ (by decide +kernel)) ggX4_next_X4_no
set_option maxRecDepth 20000 in
theorem ggX4_next_X4_product : GoodIn wsX4_next wsX4_product := goodIn_r _ [19, 17, 18, 7] (by decide +kernel) (by decide +kernel)
set_option maxRecDepth 20000 in
theorem gX4_next_X4_product : GoodIn wsX4_next (va_wsS RX4 30 yX4_product wsX4_product) := goodIn_app (goodIn_of _ (by decide +kernel)) ggX4_next_X4_product
set_option maxRecDepth 20000 in
theorem ggX4_behind_X4_isChange : GoodIn wsX4_behind wsX4_isChange := goodIn_r _ [8, 2, 9, 10, 7, 11, 44, 45, 46, 47, 48, 49, 50] (by decide +kernel) (by decide +kernel)
set_option maxRecDepth 20000 in
theorem gX4_behind_X4_isChange : GoodIn wsX4_behind (wsV RX4 61 RX4 yX4_isChange wsX4_isChange) := goodIn_app (goodIn_of _ (by decide +kernel)) ggX4_behind_X4_isChange
set_option maxRecDepth 20000 in
theorem ggX4_behind_X4_no : GoodIn wsX4_behind wsX4_no := goodIn_r _ [15, 1, 44, 45, 46, 47, 48, 49, 50] (by decide +kernel) (by decide +kernel)
set_option maxRecDepth 20000 in
theorem gX4_behind_X4_no : GoodIn wsX4_behind (wsV RX4 51 RX4 yX4_no wsX4_no) := goodIn_app (goodIn_of _ (by decide +kernel)) ggX4_behind_X4_no
set_option maxRecDepth 20000 in
theorem ggX4_behind_X4_row : GoodIn wsX4_behind wsX4_row := goodIn_r _ [19, 20, 21, 22, 23, 7, 24, 25, 26, 27, 44, 45, 46, 47, 48, 49, 50] (by decide +kernel) (by decide +kernel)
set_option maxRecDepth 20000 in
theorem gX4_behind_X4_row : GoodIn wsX4_behind (wsV RX4 65 RX4 yX4_row wsX4_row) := goodIn_app (goodIn_of _ (by decide +kernel)) ggX4_behind_X4_row
set_option maxRecDepth 20000 in
theorem ggX4_behind_X4_behindRow : GoodIn wsX4_behind wsX4_behindRow := goodIn_r _ [31, 20, 21, 44, 45, 46, 47, 48, 49, 50] (by decide +kernel) (by decide +kernel)
set_option maxRecDepth 20000 in
theorem gX4_behind_X4_behindRow : GoodIn wsX4_behind (wsV RX4 73 RX4 yX4_behindRow wsX4_behindRow) := goodIn_app (goodIn_of _ (by decide +kernel)) ggX4_behind_X4_behindRow
set_option maxRecDepth 20000 in
theorem ggX4_behind_X4_rank : GoodIn wsX4_behind wsX4_rank := goodIn_r _ [35, 20, 36, 37, 38, 7, 39, 22, 23, 24, 44, 45, 46, 47, 48, 49, 50] (by decide +kernel) (by decide +kernel)
set_option maxRecDepth 20000 in
theorem gX4_behind_X4_rank : GoodIn wsX4_behind (wsV RX4 54 RX4 yX4_rank wsX4_rank) := goodIn_app (goodIn_of _ (by decide +kernel)) ggX4_behind_X4_rank
set_option maxRecDepth 20000 in
theorem ggX4_behind_X4_add : GoodIn wsX4_behind wsX4_add := goodIn_r _ [43, 3, 2, 44, 45, 46, 47, 48, 49, 50] (by decide +kernel) (by decide +kernel)
set_option maxRecDepth 20000 in
theorem gX4_behind_X4_add : GoodIn wsX4_behind (wsV RX4 58 RX4 yX4_add wsX4_add) := goodIn_app (goodIn_of _ (by decide +kernel)) ggX4_behind_X4_add
set_option maxRecDepth 20000 in
theorem ggX4_back_X4_isChange : GoodIn wsX4_back wsX4_isChange := goodIn_r _ [7, 8, 9, 10, 6, 11, 44, 45, 46, 47, 48, 49, 50] (by decide +kernel) (by decide +kernel)
set_option maxRecDepth 20000 in
theorem gX4_back_X4_isChange : GoodIn wsX4_back (wsV RX4 61 RX4 yX4_isChange wsX4_isChange) := goodIn_app (goodIn_of _ (by decide +kernel)) ggX4_back_X4_isChange
set_option maxRecDepth 20000 in
theorem ggX4_back_X4_row : GoodIn wsX4_back wsX4_row := goodIn_r _ [15, 16, 17, 18, 19, 6, 20, 21, 22, 23, 44, 45, 46, 47, 48, 49, 50] (by decide +kernel) (by decide +kernel)
set_option maxRecDepth 20000 in
theorem gX4_back_X4_row : GoodIn wsX4_back (wsV RX4 65 RX4 yX4_row wsX4_row) := goodIn_app (goodIn_of _ (by decide +kernel)) ggX4_back_X4_row
set_option maxRecDepth 20000 in
theorem ggX4_back_X4_backRow : GoodIn wsX4_back wsX4_backRow := goodIn_r _ [27, 16, 17, 44, 45, 46, 47, 48, 49, 50] (by decide +kernel) (by decide +kernel)
set_option maxRecDepth 20000 in
theorem gX4_back_X4_backRow : GoodIn wsX4_back (wsV RX4 77 RX4 yX4_backRow wsX4_backRow) := goodIn_app (goodIn_of _ (by decide +kernel)) ggX4_back_X4_backRow
set_option maxRecDepth 20000 in
theorem ggX4_back_X4_become : GoodIn wsX4_back wsX4_become := goodIn_r _ [31, 2, 32, 33, 34, 6, 35, 16, 36, 37, 38, 39, 18, 19, 20, 44, 45, 46, 47, 48, 49, 50] (by decide +kernel) (by decide +kernel)
set_option maxRecDepth 20000 in
theorem gX4_back_X4_become : GoodIn wsX4_back (wsV RX4 69 RX4 yX4_become wsX4_become) := goodIn_app (goodIn_of _ (by decide +kernel)) ggX4_back_X4_become
set_option maxRecDepth 20000 in
theorem ggX4_back_X4_no : GoodIn wsX4_back wsX4_no := goodIn_r _ [43, 1, 44, 45, 46, 47, 48, 49, 50] (by decide +kernel) (by decide +kernel)
set_option maxRecDepth 20000 in
theorem gX4_back_X4_no : GoodIn wsX4_back (wsV RX4 51 RX4 yX4_no wsX4_no) := goodIn_app (goodIn_of _ (by decide +kernel)) ggX4_back_X4_no
set_option maxRecDepth 20000 in
theorem ggX4_repeat_X4_isChange : GoodIn wsX4_repeat wsX4_isChange := goodIn_r _ [7, 8, 9, 10, 6, 11, 55, 56, 57, 58, 59, 60, 61] (by decide +kernel) (by decide +kernel)
set_option maxRecDepth 20000 in
theorem gX4_repeat_X4_isChange : GoodIn wsX4_repeat (wsV RX4 61 RX4 yX4_isChange wsX4_isChange) := goodIn_app (goodIn_of _ (by decide +kernel)) ggX4_repeat_X4_isChange
set_option maxRecDepth 20000 in
theorem ggX4_repeat_X4_no : GoodIn wsX4_repeat wsX4_no := goodIn_r _ [15, 1, 55, 56, 57, 58, 59, 60, 61] (by decide +kernel) (by decide +kernel)
set_option maxRecDepth 20000 in
theorem gX4_repeat_X4_no : GoodIn wsX4_repeat (wsV RX4 51 RX4 yX4_no wsX4_no) := goodIn_app (goodIn_of _ (by decide +kernel)) ggX4_repeat_X4_no
set_option maxRecDepth 20000 in
theorem ggX4_repeat_X4_isIn : GoodIn wsX4_repeat wsX4_isIn := goodIn_r _ [11] (by decide +kernel) (by decide +kernel)
set_option maxRecDepth 20000 in
theorem gX4_repeat_X4_isIn : GoodIn wsX4_repeat (va_wsS RX4 26 yX4_isIn wsX4_isIn) := goodIn_app (goodIn_of _ (by decide +kernel)) ggX4_repeat_X4_isIn
set_option maxRecDepth 20000 in
theorem ggX4_repeat_X4_row : GoodIn wsX4_repeat wsX4_row := goodIn_r _ [19, 20, 21, 22, 23, 6, 24, 25, 26, 27, 55, 56, 57, 58, 59, 60, 61] (by decide +kernel) (by decide +kernel)
set_option maxRecDepth 20000 in
theorem gX4_repeat_X4_row : GoodIn wsX4_repeat (wsV RX4 65 RX4 yX4_row wsX4_row) := goodIn_app (goodIn_of _ (by decide +kernel)) ggX4_repeat_X4_row
set_option maxRecDepth 20000 in
theorem ggX4_repeat_X4_order : GoodIn wsX4_repeat wsX4_order := goodIn_r _ [31, 20, 32, 33, 34, 6, 35, 36, 37, 38, 55, 56, 57, 58, 59, 60, 61] (by decide +kernel) (by decide +kernel)
set_option maxRecDepth 20000 in
theorem gX4_repeat_X4_order : GoodIn wsX4_repeat (wsV RX4 81 RX4 yX4_order wsX4_order) := goodIn_app (goodIn_of _ (by decide +kernel)) ggX4_repeat_X4_order
set_option maxRecDepth 20000 in
theorem ggX4_repeat_X4_behindRow : GoodIn wsX4_repeat wsX4_behindRow := goodIn_r _ [42, 20, 21, 55, 56, 57, 58, 59, 60, 61] (by decide +kernel) (by decide +kernel)
set_option maxRecDepth 20000 in
theorem gX4_repeat_X4_behindRow : GoodIn wsX4_repeat (wsV RX4 73 RX4 yX4_behindRow wsX4_behindRow) := goodIn_app (goodIn_of _ (by decide +kernel)) ggX4_repeat_X4_behindRow
set_option maxRecDepth 20000 in
theorem ggX4_repeat_X4_become : GoodIn wsX4_repeat wsX4_become := goodIn_r _ [46, 2, 47, 48, 49, 6, 50, 20, 51, 52, 53, 54, 22, 23, 24, 55, 56, 57, 58, 59, 60, 61] (by decide +kernel) (by decide +kernel)
set_option maxRecDepth 20000 in
theorem gX4_repeat_X4_become : GoodIn wsX4_repeat (wsV RX4 69 RX4 yX4_become wsX4_become) := goodIn_app (goodIn_of _ (by decide +kernel)) ggX4_repeat_X4_become
set_option maxRecDepth 20000 in
theorem ggX4_step_X4_isStep : GoodIn wsX4_step wsX4_isStep := goodIn_r _ [8, 9, 10, 11, 7, 12, 17, 18, 19, 20, 21, 22, 23] (by decide +kernel) (by decide +kernel)
set_option maxRecDepth 20000 in
theorem gX4_step_X4_isStep : GoodIn wsX4_step (wsV RX4 84 RX4 yX4_isStep wsX4_isStep) := goodIn_app (goodIn_of _ (by decide +kernel)) ggX4_step_X4_isStep
set_option maxRecDepth 20000 in
theorem ggX4_step_X4_no : GoodIn wsX4_step wsX4_no := goodIn_r _ [16, 1, 17, 18, 19, 20, 21, 22, 23] (by decide +kernel) (by decide +kernel)
set_option maxRecDepth 20000 in
theorem gX4_step_X4_no : GoodIn wsX4_step (wsV RX4 51 RX4 yX4_no wsX4_no) := goodIn_app (goodIn_of _ (by decide +kernel)) ggX4_step_X4_no
set_option maxRecDepth 20000 in
theorem ggX4_ring_X4_isChange : GoodIn wsX4_ring wsX4_isChange := goodIn_r _ [9, 10, 11, 12, 8, 13, 47, 48, 49, 50, 51, 52, 53] (by decide +kernel) (by decide +kernel)
set_option maxRecDepth 20000 in
theorem gX4_ring_X4_isChange : GoodIn wsX4_ring (wsV RX4 61 RX4 yX4_isChange wsX4_isChange) := goodIn_app (goodIn_of _ (by decide +kernel)) ggX4_ring_X4_isChange
set_option maxRecDepth 20000 in
theorem ggX4_ring_X4_no : GoodIn wsX4_ring wsX4_no := goodIn_r _ [17, 1, 47, 48, 49, 50, 51, 52, 53] (by decide +kernel) (by decide +kernel)
set_option maxRecDepth 20000 in
theorem gX4_ring_X4_no : GoodIn wsX4_ring (wsV RX4 51 RX4 yX4_no wsX4_no) := goodIn_app (goodIn_of _ (by decide +kernel)) ggX4_ring_X4_no
set_option maxRecDepth 20000 in
theorem ggX4_ring_X4_isIn : GoodIn wsX4_ring wsX4_isIn := goodIn_r _ [13] (by decide +kernel) (by decide +kernel)
set_option maxRecDepth 20000 in
theorem gX4_ring_X4_isIn : GoodIn wsX4_ring (va_wsS RX4 26 yX4_isIn wsX4_isIn) := goodIn_app (goodIn_of _ (by decide +kernel)) ggX4_ring_X4_isIn
set_option maxRecDepth 20000 in
theorem ggX4_ring_X4_row : GoodIn wsX4_ring wsX4_row := goodIn_r _ [21, 22, 23, 24, 25, 8, 26, 27, 28, 29, 47, 48, 49, 50, 51, 52, 53] (by decide +kernel) (by decide +kernel)
set_option maxRecDepth 20000 in
theorem gX4_ring_X4_row : GoodIn wsX4_ring (wsV RX4 65 RX4 yX4_row wsX4_row) := goodIn_app (goodIn_of _ (by decide +kernel)) ggX4_ring_X4_row
set_option maxRecDepth 20000 in
theorem ggX4_ring_X4_ringStep : GoodIn wsX4_ring wsX4_ringStep := goodIn_r _ [33, 34, 2, 22, 47, 48, 49, 50, 51, 52, 53] (by decide +kernel) (by decide +kernel)
set_option maxRecDepth 20000 in
theorem gX4_ring_X4_ringStep : GoodIn wsX4_ring (wsV RX4 87 RX4 yX4_ringStep wsX4_ringStep) := goodIn_app (goodIn_of _ (by decide +kernel)) ggX4_ring_X4_ringStep
set_option maxRecDepth 20000 in
theorem ggX4_ring_X4_become : GoodIn wsX4_ring wsX4_become := goodIn_r _ [38, 3, 39, 40, 41, 8, 42, 22, 43, 44, 45, 46, 24, 25, 26, 47, 48, 49, 50, 51, 52, 53] (by decide +kernel) (by decide +kernel)
set_option maxRecDepth 20000 in
theorem gX4_ring_X4_become : GoodIn wsX4_ring (wsV RX4 69 RX4 yX4_become wsX4_become) := goodIn_app (goodIn_of _ (by decide +kernel)) ggX4_ring_X4_become
set_option maxRecDepth 20000 in
theorem ggX4_bell_X4_isChange : GoodIn wsX4_bell wsX4_isChange := goodIn_r _ [7, 8, 9, 10, 6, 11, 32, 33, 34, 35, 36, 37, 38] (by decide +kernel) (by decide +kernel)
set_option maxRecDepth 20000 in
theorem gX4_bell_X4_isChange : GoodIn wsX4_bell (wsV RX4 61 RX4 yX4_isChange wsX4_isChange) := goodIn_app (goodIn_of _ (by decide +kernel)) ggX4_bell_X4_isChange
set_option maxRecDepth 20000 in
theorem ggX4_bell_X4_isPlace : GoodIn wsX4_bell wsX4_isPlace := goodIn_r _ [15, 16, 9, 10, 6, 11, 32, 33, 34, 35, 36, 37, 38] (by decide +kernel) (by decide +kernel)
set_option maxRecDepth 20000 in
theorem gX4_bell_X4_isPlace : GoodIn wsX4_bell (wsV RX4 94 RX4 yX4_isPlace wsX4_isPlace) := goodIn_app (goodIn_of _ (by decide +kernel)) ggX4_bell_X4_isPlace
set_option maxRecDepth 20000 in
theorem ggX4_bell_X4_row : GoodIn wsX4_bell wsX4_row := goodIn_r _ [20, 16, 21, 22, 23, 6, 24, 25, 26, 27, 32, 33, 34, 35, 36, 37, 38] (by decide +kernel) (by decide +kernel)
set_option maxRecDepth 20000 in
theorem gX4_bell_X4_row : GoodIn wsX4_bell (wsV RX4 65 RX4 yX4_row wsX4_row) := goodIn_app (goodIn_of _ (by decide +kernel)) ggX4_bell_X4_row
set_option maxRecDepth 20000 in
theorem ggX4_bell_X4_no : GoodIn wsX4_bell wsX4_no := goodIn_r _ [31, 1, 32, 33, 34, 35, 36, 37, 38] (by decide +kernel) (by decide +kernel)
set_option maxRecDepth 20000 in
theorem gX4_bell_X4_no : GoodIn wsX4_bell (wsV RX4 51 RX4 yX4_no wsX4_no) := goodIn_app (goodIn_of _ (by decide +kernel)) ggX4_bell_X4_no
set_option maxRecDepth 20000 in
theorem ggX4_toldOf_X4_rank : GoodIn wsX4_toldOf wsX4_rank := goodIn_r _ [10, 1, 11, 12, 13, 9, 14, 15, 16, 17, 42, 43, 44, 45, 46, 47, 48] (by decide +kernel) (by decide +kernel)
set_option maxRecDepth 20000 in
theorem gX4_toldOf_X4_rank : GoodIn wsX4_toldOf (wsV RX4 54 RX4 yX4_rank wsX4_rank) := goodIn_app (goodIn_of _ (by decide +kernel)) ggX4_toldOf_X4_rank
set_option maxRecDepth 20000 in
theorem ggX4_toldOf_X4_inversions : GoodIn wsX4_toldOf wsX4_inversions := goodIn_r _ [21, 1, 11, 12, 13, 9, 14, 42, 43, 44, 45, 46, 47, 48] (by decide +kernel) (by decide +kernel)
set_option maxRecDepth 20000 in
theorem gX4_toldOf_X4_inversions : GoodIn wsX4_toldOf (wsV RX4 97 RX4 yX4_inversions wsX4_inversions) := goodIn_app (goodIn_of _ (by decide +kernel)) ggX4_toldOf_X4_inversions
set_option maxRecDepth 20000 in
theorem ggX4_toldOf_X4_isFirst : GoodIn wsX4_toldOf wsX4_isFirst := goodIn_r _ [25] (by decide +kernel) (by decide +kernel)
set_option maxRecDepth 20000 in
theorem gX4_toldOf_X4_isFirst : GoodIn wsX4_toldOf (wsV RX4 100 RX4 yX4_isFirst wsX4_isFirst) := goodIn_app (goodIn_of _ (by decide +kernel)) ggX4_toldOf_X4_isFirst
set_option maxRecDepth 20000 in
theorem ggX4_toldOf_X4_ringOf : GoodIn wsX4_toldOf wsX4_ringOf := goodIn_r _ [29] (by decide +kernel) (by decide +kernel)
set_option maxRecDepth 20000 in
theorem gX4_toldOf_X4_ringOf : GoodIn wsX4_toldOf (wsV RX4 45 RX4 yX4_ringOf wsX4_ringOf) := goodIn_app (goodIn_of _ (by decide +kernel)) ggX4_toldOf_X4_ringOf
set_option maxRecDepth 20000 in
theorem ggX4_toldOf_X4_order : GoodIn wsX4_toldOf wsX4_order := goodIn_r _ [33, 1, 26, 27, 28, 9, 29, 34, 35, 36, 42, 43, 44, 45, 46, 47, 48] (by decide +kernel) (by decide +kernel)
set_option maxRecDepth 20000 in
theorem gX4_toldOf_X4_order : GoodIn wsX4_toldOf (wsV RX4 81 RX4 yX4_order wsX4_order) := goodIn_app (goodIn_of _ (by decide +kernel)) ggX4_toldOf_X4_order
set_option maxRecDepth 20000 in
theorem ggX4_toldOf_X4_backRow : GoodIn wsX4_toldOf wsX4_backRow := goodIn_r _ [40, 1, 41, 42, 43, 44, 45, 46, 47, 48] (by decide +kernel) (by decide +kernel)
set_option maxRecDepth 20000 in
theorem gX4_toldOf_X4_backRow : GoodIn wsX4_toldOf (wsV RX4 77 RX4 yX4_backRow wsX4_backRow) := goodIn_app (goodIn_of _ (by decide +kernel)) ggX4_toldOf_X4_backRow
set_option maxRecDepth 20000 in
theorem ggX4_told_X4_isChange : GoodIn wsX4_told wsX4_isChange := goodIn_r _ [7, 8, 9, 10, 6, 11, 67, 68, 69, 70, 71, 72, 73] (by decide +kernel) (by decide +kernel)
set_option maxRecDepth 20000 in
theorem gX4_told_X4_isChange : GoodIn wsX4_told (wsV RX4 61 RX4 yX4_isChange wsX4_isChange) := goodIn_app (goodIn_of _ (by decide +kernel)) ggX4_told_X4_isChange
set_option maxRecDepth 20000 in
theorem ggX4_told_X4_isIn : GoodIn wsX4_told wsX4_isIn := goodIn_r _ [11] (by decide +kernel) (by decide +kernel)
set_option maxRecDepth 20000 in
theorem gX4_told_X4_isIn : GoodIn wsX4_told (va_wsS RX4 26 yX4_isIn wsX4_isIn) := goodIn_app (goodIn_of _ (by decide +kernel)) ggX4_told_X4_isIn
set_option maxRecDepth 20000 in
theorem ggX4_told_X4_row : GoodIn wsX4_told wsX4_row := goodIn_r _ [15, 16, 17, 18, 19, 6, 20, 21, 22, 23, 67, 68, 69, 70, 71, 72, 73] (by decide +kernel) (by decide +kernel)
set_option maxRecDepth 20000 in
theorem gX4_told_X4_row : GoodIn wsX4_told (wsV RX4 65 RX4 yX4_row wsX4_row) := goodIn_app (goodIn_of _ (by decide +kernel)) ggX4_told_X4_row
set_option maxRecDepth 20000 in
theorem ggX4_told_X4_toldOf : GoodIn wsX4_told wsX4_toldOf := goodIn_r _ [27, 16, 28, 29, 30, 31, 32, 33, 34, 6, 35, 36, 37, 38, 39, 18, 19, 20, 40, 41, 42, 43, 44, 45, 46, 47, 48, 49, 50, 51, 52, 53, 54, 55, 56, 57, 58, 59, 60, 61, 62, 17, 67, 68, 69, 70, 71, 72, 73] (by decide +kernel) (by decide +kernel)
set_option maxRecDepth 20000 in
theorem gX4_told_X4_toldOf : GoodIn wsX4_told (wsV RX4 109 RX4 yX4_toldOf wsX4_toldOf) := goodIn_app (goodIn_of _ (by decide +kernel)) ggX4_told_X4_toldOf
set_option maxRecDepth 20000 in
theorem ggX4_told_X4_no : GoodIn wsX4_told wsX4_no := goodIn_r _ [66, 1, 67, 68, 69, 70, 71, 72, 73] (by decide +kernel) (by decide +kernel)
set_option maxRecDepth 20000 in
theorem gX4_told_X4_no : GoodIn wsX4_told (wsV RX4 51 RX4 yX4_no wsX4_no) := goodIn_app (goodIn_of _ (by decide +kernel)) ggX4_told_X4_no
set_option maxRecDepth 20000 in
theorem ggX4_round_X4_isChange : GoodIn wsX4_round wsX4_isChange := goodIn_r _ [7, 8, 9, 10, 6, 11, 36, 37, 38, 39, 40, 41, 42] (by decide +kernel) (by decide +kernel)
set_option maxRecDepth 20000 in
theorem gX4_round_X4_isChange : GoodIn wsX4_round (wsV RX4 61 RX4 yX4_isChange wsX4_isChange) := goodIn_app (goodIn_of _ (by decide +kernel)) ggX4_round_X4_isChange
set_option maxRecDepth 20000 in
theorem ggX4_round_X4_isPlace : GoodIn wsX4_round wsX4_isPlace := goodIn_r _ [15, 16, 9, 10, 6, 11, 36, 37, 38, 39, 40, 41, 42] (by decide +kernel) (by decide +kernel)
set_option maxRecDepth 20000 in
theorem gX4_round_X4_isPlace : GoodIn wsX4_round (wsV RX4 94 RX4 yX4_isPlace wsX4_isPlace) := goodIn_app (goodIn_of _ (by decide +kernel)) ggX4_round_X4_isPlace
set_option maxRecDepth 20000 in
theorem ggX4_round_X4_row : GoodIn wsX4_round wsX4_row := goodIn_r _ [20, 16, 21, 22, 23, 6, 24, 25, 26, 27, 36, 37, 38, 39, 40, 41, 42] (by decide +kernel) (by decide +kernel)
set_option maxRecDepth 20000 in
theorem gX4_round_X4_row : GoodIn wsX4_round (wsV RX4 65 RX4 yX4_row wsX4_row) := goodIn_app (goodIn_of _ (by decide +kernel)) ggX4_round_X4_row
set_option maxRecDepth 20000 in
theorem ggX4_round_X4_ringOf : GoodIn wsX4_round wsX4_ringOf := goodIn_r _ [31] (by decide +kernel) (by decide +kernel)
set_option maxRecDepth 20000 in
theorem gX4_round_X4_ringOf : GoodIn wsX4_round (wsV RX4 45 RX4 yX4_ringOf wsX4_ringOf) := goodIn_app (goodIn_of _ (by decide +kernel)) ggX4_round_X4_ringOf
set_option maxRecDepth 20000 in
theorem ggX4_round_X4_no : GoodIn wsX4_round wsX4_no := goodIn_r _ [35, 1, 36, 37, 38, 39, 40, 41, 42] (by decide +kernel) (by decide +kernel)
set_option maxRecDepth 20000 in
theorem gX4_round_X4_no : GoodIn wsX4_round (wsV RX4 51 RX4 yX4_no wsX4_no) := goodIn_app (goodIn_of _ (by decide +kernel)) ggX4_round_X4_no
set_option maxRecDepth 20000 in
theorem ggX4_apart_X4_isChange : GoodIn wsX4_apart wsX4_isChange := goodIn_r _ [7, 8, 9, 10, 6, 11, 44, 45, 46, 47, 48, 49, 50] (by decide +kernel) (by decide +kernel)
set_option maxRecDepth 20000 in
theorem gX4_apart_X4_isChange : GoodIn wsX4_apart (wsV RX4 61 RX4 yX4_isChange wsX4_isChange) := goodIn_app (goodIn_of _ (by decide +kernel)) ggX4_apart_X4_isChange
set_option maxRecDepth 20000 in
theorem ggX4_apart_X4_no : GoodIn wsX4_apart wsX4_no := goodIn_r _ [15, 1, 44, 45, 46, 47, 48, 49, 50] (by decide +kernel) (by decide +kernel)
set_option maxRecDepth 20000 in
theorem gX4_apart_X4_no : GoodIn wsX4_apart (wsV RX4 51 RX4 yX4_no wsX4_no) := goodIn_app (goodIn_of _ (by decide +kernel)) ggX4_apart_X4_no
set_option maxRecDepth 20000 in
theorem ggX4_apart_X4_row : GoodIn wsX4_apart wsX4_row := goodIn_r _ [19, 20, 21, 22, 23, 6, 24, 25, 26, 27, 44, 45, 46, 47, 48, 49, 50] (by decide +kernel) (by decide +kernel)
set_option maxRecDepth 20000 in
theorem gX4_apart_X4_row : GoodIn wsX4_apart (wsV RX4 65 RX4 yX4_row wsX4_row) := goodIn_app (goodIn_of _ (by decide +kernel)) ggX4_apart_X4_row
set_option maxRecDepth 20000 in
theorem ggX4_apart_X4_backRow : GoodIn wsX4_apart wsX4_backRow := goodIn_r _ [31, 20, 21, 44, 45, 46, 47, 48, 49, 50] (by decide +kernel) (by decide +kernel)
set_option maxRecDepth 20000 in
theorem gX4_apart_X4_backRow : GoodIn wsX4_apart (wsV RX4 77 RX4 yX4_backRow wsX4_backRow) := goodIn_app (goodIn_of _ (by decide +kernel)) ggX4_apart_X4_backRow
set_option maxRecDepth 20000 in
theorem ggX4_apart_X4_behindRow : GoodIn wsX4_apart wsX4_behindRow := goodIn_r _ [35, 20, 21, 44, 45, 46, 47, 48, 49, 50] (by decide +kernel) (by decide +kernel)
set_option maxRecDepth 20000 in
theorem gX4_apart_X4_behindRow : GoodIn wsX4_apart (wsV RX4 73 RX4 yX4_behindRow wsX4_behindRow) := goodIn_app (goodIn_of _ (by decide +kernel)) ggX4_apart_X4_behindRow
set_option maxRecDepth 20000 in
theorem ggX4_apart_X4_inversions : GoodIn wsX4_apart wsX4_inversions := goodIn_r _ [39, 20, 40, 41, 42, 6, 43, 44, 45, 46, 47, 48, 49, 50] (by decide +kernel) (by decide +kernel)
set_option maxRecDepth 20000 in
theorem gX4_apart_X4_inversions : GoodIn wsX4_apart (wsV RX4 97 RX4 yX4_inversions wsX4_inversions) := goodIn_app (goodIn_of _ (by decide +kernel)) ggX4_apart_X4_inversions
set_option maxRecDepth 20000 in
theorem ggX4_counted_X4_product : GoodIn wsX4_counted wsX4_product := goodIn_r _ [8, 5, 6, 7] (by decide +kernel) (by decide +kernel)
set_option maxRecDepth 20000 in
theorem gX4_counted_X4_product : GoodIn wsX4_counted (va_wsS RX4 30 yX4_product wsX4_product) := goodIn_app (goodIn_of _ (by decide +kernel)) ggX4_counted_X4_product
set_option maxRecDepth 20000 in
theorem ggX4_counted_X4_different : GoodIn wsX4_counted wsX4_different := goodIn_r _ [12, 2, 13, 14, 15, 16, 17, 18, 19, 20] (by decide +kernel) (by decide +kernel)
set_option maxRecDepth 20000 in
theorem gX4_counted_X4_different : GoodIn wsX4_counted (wsV RX4 112 RX4 yX4_different wsX4_different) := goodIn_app (goodIn_of _ (by decide +kernel)) ggX4_counted_X4_different
set_option maxRecDepth 20000 in
theorem ggX4_count_X4_isIn : GoodIn wsX4_count wsX4_isIn := goodIn_r _ [5] (by decide +kernel) (by decide +kernel)
set_option maxRecDepth 20000 in
theorem gX4_count_X4_isIn : GoodIn wsX4_count (va_wsS RX4 26 yX4_isIn wsX4_isIn) := goodIn_app (goodIn_of _ (by decide +kernel)) ggX4_count_X4_isIn
set_option maxRecDepth 20000 in
theorem ggX4_count_X4_counted : GoodIn wsX4_count wsX4_counted := goodIn_r _ [9, 10, 11, 12, 13, 14, 15, 4, 16, 17, 18, 19, 20, 21, 26, 27, 28, 29, 30, 31, 32] (by decide +kernel) (by decide +kernel)
set_option maxRecDepth 20000 in
theorem gX4_count_X4_counted : GoodIn wsX4_count (wsV RX4 116 RX4 yX4_counted wsX4_counted) := goodIn_app (goodIn_of _ (by decide +kernel)) ggX4_count_X4_counted
set_option maxRecDepth 20000 in
theorem ggX4_count_X4_no : GoodIn wsX4_count wsX4_no := goodIn_r _ [25, 1, 26, 27, 28, 29, 30, 31, 32] (by decide +kernel) (by decide +kernel)
set_option maxRecDepth 20000 in
theorem gX4_count_X4_no : GoodIn wsX4_count (wsV RX4 51 RX4 yX4_no wsX4_no) := goodIn_app (goodIn_of _ (by decide +kernel)) ggX4_count_X4_no
set_option maxRecDepth 20000 in
theorem ggX4_kept_X4_isIn : GoodIn wsX4_kept wsX4_isIn := goodIn_r _ [7] (by decide +kernel) (by decide +kernel)
set_option maxRecDepth 20000 in
theorem gX4_kept_X4_isIn : GoodIn wsX4_kept (va_wsS RX4 26 yX4_isIn wsX4_isIn) := goodIn_app (goodIn_of _ (by decide +kernel)) ggX4_kept_X4_isIn
set_option maxRecDepth 20000 in
theorem ggX4_kept_X4_no : GoodIn wsX4_kept wsX4_no := goodIn_r _ [11, 1, 12, 13, 14, 15, 16, 17, 18] (by decide +kernel) (by decide +kernel)
set_option maxRecDepth 20000 in
theorem gX4_kept_X4_no : GoodIn wsX4_kept (wsV RX4 51 RX4 yX4_no wsX4_no) := goodIn_app (goodIn_of _ (by decide +kernel)) ggX4_kept_X4_no
set_option maxRecDepth 20000 in
theorem ggX4_comes_X4_isChange : GoodIn wsX4_comes wsX4_isChange := goodIn_r _ [8, 9, 10, 11, 7, 12, 42, 43, 44, 45, 46, 47, 48] (by decide +kernel) (by decide +kernel)
set_option maxRecDepth 20000 in
theorem gX4_comes_X4_isChange : GoodIn wsX4_comes (wsV RX4 61 RX4 yX4_isChange wsX4_isChange) := goodIn_app (goodIn_of _ (by decide +kernel)) ggX4_comes_X4_isChange
set_option maxRecDepth 20000 in
theorem ggX4_comes_X4_no : GoodIn wsX4_comes wsX4_no := goodIn_r _ [16, 1, 42, 43, 44, 45, 46, 47, 48] (by decide +kernel) (by decide +kernel)
set_option maxRecDepth 20000 in
theorem gX4_comes_X4_no : GoodIn wsX4_comes (wsV RX4 51 RX4 yX4_no wsX4_no) := goodIn_app (goodIn_of _ (by decide +kernel)) ggX4_comes_X4_no
set_option maxRecDepth 20000 in
theorem ggX4_comes_X4_row : GoodIn wsX4_comes wsX4_row := goodIn_r _ [20, 21, 22, 23, 24, 7, 25, 26, 27, 28, 42, 43, 44, 45, 46, 47, 48] (by decide +kernel) (by decide +kernel)
set_option maxRecDepth 20000 in
theorem gX4_comes_X4_row : GoodIn wsX4_comes (wsV RX4 65 RX4 yX4_row wsX4_row) := goodIn_app (goodIn_of _ (by decide +kernel)) ggX4_comes_X4_row
set_option maxRecDepth 20000 in
theorem ggX4_comes_X4_ringStep : GoodIn wsX4_comes wsX4_ringStep := goodIn_r _ [32, 33, 2, 21, 42, 43, 44, 45, 46, 47, 48] (by decide +kernel) (by decide +kernel)
set_option maxRecDepth 20000 in
theorem gX4_comes_X4_ringStep : GoodIn wsX4_comes (wsV RX4 87 RX4 yX4_ringStep wsX4_ringStep) := goodIn_app (goodIn_of _ (by decide +kernel)) ggX4_comes_X4_ringStep
set_option maxRecDepth 20000 in
theorem ggX4_comes_X4_rank : GoodIn wsX4_comes wsX4_rank := goodIn_r _ [37, 21, 38, 39, 40, 7, 41, 23, 24, 25, 42, 43, 44, 45, 46, 47, 48] (by decide +kernel) (by decide +kernel)
set_option maxRecDepth 20000 in
theorem gX4_comes_X4_rank : GoodIn wsX4_comes (wsV RX4 54 RX4 yX4_rank wsX4_rank) := goodIn_app (goodIn_of _ (by decide +kernel)) ggX4_comes_X4_rank
set_option maxRecDepth 20000 in
theorem ggX4_differ_X4_isIn : GoodIn wsX4_differ wsX4_isIn := goodIn_r _ [7] (by decide +kernel) (by decide +kernel)
set_option maxRecDepth 20000 in
theorem gX4_differ_X4_isIn : GoodIn wsX4_differ (va_wsS RX4 26 yX4_isIn wsX4_isIn) := goodIn_app (goodIn_of _ (by decide +kernel)) ggX4_differ_X4_isIn
set_option maxRecDepth 20000 in
theorem ggX4_differ_X4_no : GoodIn wsX4_differ wsX4_no := goodIn_r _ [11, 1, 36, 37, 38, 39, 40, 41, 42] (by decide +kernel) (by decide +kernel)
set_option maxRecDepth 20000 in
theorem gX4_differ_X4_no : GoodIn wsX4_differ (wsV RX4 51 RX4 yX4_no wsX4_no) := goodIn_app (goodIn_of _ (by decide +kernel)) ggX4_differ_X4_no
set_option maxRecDepth 20000 in
theorem ggX4_differ_X4_row : GoodIn wsX4_differ wsX4_row := goodIn_r _ [15, 16, 3, 17, 18, 6, 19, 20, 21, 22, 36, 37, 38, 39, 40, 41, 42] (by decide +kernel) (by decide +kernel)
set_option maxRecDepth 20000 in
theorem gX4_differ_X4_row : GoodIn wsX4_differ (wsV RX4 65 RX4 yX4_row wsX4_row) := goodIn_app (goodIn_of _ (by decide +kernel)) ggX4_differ_X4_row
set_option maxRecDepth 20000 in
theorem ggX4_differ_X4_ringStep : GoodIn wsX4_differ wsX4_ringStep := goodIn_r _ [26, 27, 2, 16, 36, 37, 38, 39, 40, 41, 42] (by decide +kernel) (by decide +kernel)
set_option maxRecDepth 20000 in
theorem gX4_differ_X4_ringStep : GoodIn wsX4_differ (wsV RX4 87 RX4 yX4_ringStep wsX4_ringStep) := goodIn_app (goodIn_of _ (by decide +kernel)) ggX4_differ_X4_ringStep
set_option maxRecDepth 20000 in
theorem ggX4_differ_X4_rank : GoodIn wsX4_differ wsX4_rank := goodIn_r _ [31, 16, 32, 33, 34, 6, 35, 17, 18, 19, 36, 37, 38, 39, 40, 41, 42] (by decide +kernel) (by decide +kernel)
set_option maxRecDepth 20000 in
theorem gX4_differ_X4_rank : GoodIn wsX4_differ (wsV RX4 54 RX4 yX4_rank wsX4_rank) := goodIn_app (goodIn_of _ (by decide +kernel)) ggX4_differ_X4_rank
set_option maxRecDepth 20000 in
theorem ggX4_advise_X4_isChange : GoodIn wsX4_advise wsX4_isChange := goodIn_r _ [8, 3, 9, 10, 7, 11, 40, 41, 42, 43, 44, 45, 46] (by decide +kernel) (by decide +kernel)
set_option maxRecDepth 20000 in
theorem gX4_advise_X4_isChange : GoodIn wsX4_advise (wsV RX4 61 RX4 yX4_isChange wsX4_isChange) := goodIn_app (goodIn_of _ (by decide +kernel)) ggX4_advise_X4_isChange
set_option maxRecDepth 20000 in
theorem ggX4_advise_X4_no : GoodIn wsX4_advise wsX4_no := goodIn_r _ [15, 1, 40, 41, 42, 43, 44, 45, 46] (by decide +kernel) (by decide +kernel)
set_option maxRecDepth 20000 in
theorem gX4_advise_X4_no : GoodIn wsX4_advise (wsV RX4 51 RX4 yX4_no wsX4_no) := goodIn_app (goodIn_of _ (by decide +kernel)) ggX4_advise_X4_no
set_option maxRecDepth 20000 in
theorem ggX4_advise_X4_row : GoodIn wsX4_advise wsX4_row := goodIn_r _ [19, 20, 21, 22, 23, 7, 24, 25, 26, 27, 40, 41, 42, 43, 44, 45, 46] (by decide +kernel) (by decide +kernel)
set_option maxRecDepth 20000 in
theorem gX4_advise_X4_row : GoodIn wsX4_advise (wsV RX4 65 RX4 yX4_row wsX4_row) := goodIn_app (goodIn_of _ (by decide +kernel)) ggX4_advise_X4_row
set_option maxRecDepth 20000 in
theorem ggX4_advise_X4_behindRow : GoodIn wsX4_advise wsX4_behindRow := goodIn_r _ [31, 20, 21, 40, 41, 42, 43, 44, 45, 46] (by decide +kernel) (by decide +kernel)
set_option maxRecDepth 20000 in
theorem gX4_advise_X4_behindRow : GoodIn wsX4_advise (wsV RX4 73 RX4 yX4_behindRow wsX4_behindRow) := goodIn_app (goodIn_of _ (by decide +kernel)) ggX4_advise_X4_behindRow
set_option maxRecDepth 20000 in
theorem ggX4_advise_X4_inversions : GoodIn wsX4_advise wsX4_inversions := goodIn_r _ [35, 20, 36, 37, 38, 7, 39, 40, 41, 42, 43, 44, 45, 46] (by decide +kernel) (by decide +kernel)
set_option maxRecDepth 20000 in
theorem gX4_advise_X4_inversions : GoodIn wsX4_advise (wsV RX4 97 RX4 yX4_inversions wsX4_inversions) := goodIn_app (goodIn_of _ (by decide +kernel)) ggX4_advise_X4_inversions
set_option maxRecDepth 20000 in
theorem ggX4_digest_X4_counted : GoodIn wsX4_digest wsX4_counted := goodIn_r _ [12, 13, 4, 6, 14, 15, 16, 11, 17, 18, 19, 20, 21, 5, 69, 70, 71, 72, 73, 74, 75] (by decide +kernel) (by decide +kernel)
set_option maxRecDepth 20000 in
theorem gX4_digest_X4_counted : GoodIn wsX4_digest (wsV RX4 116 RX4 yX4_counted wsX4_counted) := goodIn_app (goodIn_of _ (by decide +kernel)) ggX4_digest_X4_counted
set_option maxRecDepth 20000 in
theorem ggX4_digest_X4_row : GoodIn wsX4_digest wsX4_row := goodIn_r _ [25, 13, 26, 15, 16, 11, 17, 27, 28, 29, 69, 70, 71, 72, 73, 74, 75] (by decide +kernel) (by decide +kernel)
set_option maxRecDepth 20000 in
theorem gX4_digest_X4_row : GoodIn wsX4_digest (wsV RX4 65 RX4 yX4_row wsX4_row) := goodIn_app (goodIn_of _ (by decide +kernel)) ggX4_digest_X4_row
set_option maxRecDepth 20000 in
theorem ggX4_digest_X4_toldOf : GoodIn wsX4_digest wsX4_toldOf := goodIn_r _ [33, 13, 34, 35, 36, 37, 38, 39, 40, 11, 41, 42, 43, 44, 45, 15, 16, 17, 46, 47, 48, 49, 50, 51, 52, 53, 54, 55, 56, 57, 58, 59, 60, 61, 62, 63, 64, 65, 66, 67, 68, 26, 69, 70, 71, 72, 73, 74, 75] (by decide +kernel) (by decide +kernel)
set_option maxRecDepth 20000 in
theorem gX4_digest_X4_toldOf : GoodIn wsX4_digest (wsV RX4 109 RX4 yX4_toldOf wsX4_toldOf) := goodIn_app (goodIn_of _ (by decide +kernel)) ggX4_digest_X4_toldOf
