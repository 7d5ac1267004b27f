set_option maxRecDepth 20000 in
theorem ggX3_init_X0_init : GoodIn wsX3_init wsX0_init := goodIn_r _ [23, 24, 2, 3, 25, 26, 27, 48, 49] (by decide +kernel) (by decide +kernel)
set_option maxRecDepth 20000 in
theorem gX3_init_X0_init : GoodIn wsX3_init (wsX0_init) := ggX3_init_X0_init
set_option maxRecDepth 20000 in
theorem ggX3_init_X1_init : GoodIn wsX3_init wsX1_init := goodIn_r _ [30, 31, 2, 3, 25, 32, 33, 50, 51] (by decide +kernel) (by decide +kernel)
set_option maxRecDepth 20000 in
theorem gX3_init_X1_init : GoodIn wsX3_init (wsX1_init) := ggX3_init_X1_init
set_option maxRecDepth 20000 in
theorem ggX3_init_X2_init : GoodIn wsX3_init wsX2_init := goodIn_r _ [36, 37, 2, 3, 25, 38, 39, 52, 53] (by decide +kernel) (by decide +kernel)
set_option maxRecDepth 20000 in
theorem gX3_init_X2_init : GoodIn wsX3_init (wsX2_init) := ggX3_init_X2_init
set_option maxRecDepth 20000 in
theorem ggX3_setBells_X1_removeAll : GoodIn wsX3_setBells wsX1_removeAll := goodIn_r _ [10, 11, 20, 21] (by decide +kernel) (by decide +kernel)
set_option maxRecDepth 20000 in
theorem gX3_setBells_X1_removeAll : GoodIn wsX3_setBells (wsV RX3 54 RX1 yX1_removeAll wsX1_removeAll) := goodIn_app (goodIn_of _ (by decide +kernel)) ggX3_setBells_X1_removeAll
set_option maxRecDepth 20000 in
theorem ggX3_write_X3_changesOf : GoodIn wsX3_write wsX3_changesOf := goodIn_r _ [8] (by decide +kernel) (by decide +kernel)
set_option maxRecDepth 20000 in
theorem gX3_write_X3_changesOf : GoodIn wsX3_write (va_wsS RX3 57 yX3_changesOf wsX3_changesOf) := goodIn_app (goodIn_of _ (by decide +kernel)) ggX3_write_X3_changesOf
set_option maxRecDepth 20000 in
theorem ggX3_write_X3_openPage : GoodIn wsX3_write wsX3_openPage := goodIn_ca (goodIn_r _ [12, 13, 14, 4, 15, 35, 36, 37, 38, 39, 40, 41, 42] (by decide +kernel) (by decide +kernel)) (goodIn_sub (fun _ h => List.mem_cons_of_mem _ (List.mem_append_right _ h)) (by decide +kernel))
set_option maxRecDepth 20000 in
theorem gX3_write_X3_openPage : GoodIn wsX3_write (wsV RX3 66 RX3 yX3_openPage wsX3_openPage) := goodIn_app (goodIn_of _ (by decide +kernel)) ggX3_write_X3_openPage
set_option maxRecDepth 20000 in
theorem ggX3_write_X0_setRank : GoodIn wsX3_write wsX0_setRank := goodIn_r _ [20, 21, 22, 23, 24, 19, 25, 26, 27, 28, 29, 30, 31, 32, 33, 34, 43, 44] (by decide +kernel) (by decide +kernel)
set_option maxRecDepth 20000 in
theorem gX3_write_X0_setRank : GoodIn wsX3_write (wsV RX3 70 RX0 yX0_setRank wsX0_setRank) := goodIn_app (goodIn_of _ (by decide +kernel)) ggX3_write_X0_setRank
set_option maxRecDepth 20000 in
theorem ggX3_swap_X3_find : GoodIn wsX3_swap wsX3_find := goodIn_ca (goodIn_r _ [8, 1, 2, 9, 10, 34, 35, 36, 37, 38, 39, 40, 41] (by decide +kernel) (by decide +kernel)) (goodIn_sub (fun _ h => List.mem_cons_of_mem _ (List.mem_append_right _ h)) (by decide +kernel))
set_option maxRecDepth 20000 in
theorem gX3_swap_X3_find : GoodIn wsX3_swap (wsV RX3 74 RX3 yX3_find wsX3_find) := goodIn_app (goodIn_of _ (by decide +kernel)) ggX3_swap_X3_find
set_option maxRecDepth 20000 in
theorem ggX3_swap_X0_exchange : GoodIn wsX3_swap wsX0_exchange := goodIn_r _ [15, 16, 17, 18, 14, 19, 20, 21, 22, 23, 24, 42, 43] (by decide +kernel) (by decide +kernel)
set_option maxRecDepth 20000 in
theorem gX3_swap_X0_exchange : GoodIn wsX3_swap (wsV RX3 80 RX0 yX0_exchange wsX0_exchange) := goodIn_app (goodIn_of _ (by decide +kernel)) ggX3_swap_X0_exchange
set_option maxRecDepth 20000 in
theorem ggX3_swap_X0_rank : GoodIn wsX3_swap wsX0_rank := goodIn_r _ [28, 29, 30, 31, 32, 14, 33, 16, 17, 18, 19, 20, 42, 43] (by decide +kernel) (by decide +kernel)
set_option maxRecDepth 20000 in
theorem gX3_swap_X0_rank : GoodIn wsX3_swap (wsV RX3 84 RX0 yX0_rank wsX0_rank) := goodIn_app (goodIn_of _ (by decide +kernel)) ggX3_swap_X0_rank
set_option maxRecDepth 20000 in
theorem ggX3_next_X3_find : GoodIn wsX3_next wsX3_find := goodIn_ca (goodIn_r _ [6, 7, 8, 9, 10, 41, 42, 43, 44, 45, 46, 47, 48] (by decide +kernel) (by decide +kernel)) (goodIn_sub (fun _ h => List.mem_cons_of_mem _ (List.mem_append_right _ h)) (by decide +kernel))
set_option maxRecDepth 20000 in
theorem gX3_next_X3_find : GoodIn wsX3_next (wsV RX3 74 RX3 yX3_find wsX3_find) := goodIn_app (goodIn_of _ (by decide +kernel)) ggX3_next_X3_find
set_option maxRecDepth 20000 in
theorem ggX3_next_X0_rank : GoodIn wsX3_next wsX0_rank := goodIn_r _ [15, 16, 17, 18, 19, 14, 20, 21, 22, 23, 24, 25, 49, 50] (by decide +kernel) (by decide +kernel)
set_option maxRecDepth 20000 in
theorem gX3_next_X0_rank : GoodIn wsX3_next (wsV RX3 84 RX0 yX0_rank wsX0_rank) := goodIn_app (goodIn_of _ (by decide +kernel)) ggX3_next_X0_rank
set_option maxRecDepth 20000 in
theorem ggX3_next_X3_changesOf : GoodIn wsX3_next wsX3_changesOf := goodIn_r _ [28] (by decide +kernel) (by decide +kernel)
set_option maxRecDepth 20000 in
theorem gX3_next_X3_changesOf : GoodIn wsX3_next (va_wsS RX3 57 yX3_changesOf wsX3_changesOf) := goodIn_app (goodIn_of _ (by decide +kernel)) ggX3_next_X3_changesOf
set_option maxRecDepth 20000 in
theorem ggX3_next_X0_setRank : GoodIn wsX3_next wsX0_setRank := goodIn_r _ [32, 16, 33, 34, 35, 14, 36, 37, 38, 39, 40, 25, 21, 22, 23, 24, 49, 50] (by decide +kernel) (by decide +kernel)
set_option maxRecDepth 20000 in
theorem gX3_next_X0_setRank : GoodIn wsX3_next (wsV RX3 70 RX0 yX0_setRank wsX0_setRank) := goodIn_app (goodIn_of _ (by decide +kernel)) ggX3_next_X0_setRank
set_option maxRecDepth 20000 in
theorem ggX3_behind_X3_find : GoodIn wsX3_behind wsX3_find := goodIn_ca (goodIn_r _ [6, 7, 8, 1, 9, 31, 32, 33, 34, 35, 36, 37, 38] (by decide +kernel) (by decide +kernel)) (goodIn_sub (fun _ h => List.mem_cons_of_mem _ (List.mem_append_left _ (List.mem_append_right _ h))) (by decide +kernel))
set_option maxRecDepth 20000 in
theorem gX3_behind_X3_find : GoodIn wsX3_behind (wsV RX3 74 RX3 yX3_find wsX3_find) := goodIn_app (goodIn_of _ (by decide +kernel)) ggX3_behind_X3_find
set_option maxRecDepth 20000 in
theorem ggX3_behind_X3_openPage : GoodIn wsX3_behind wsX3_openPage := goodIn_ca (goodIn_r _ [13, 14, 15, 1, 9, 31, 32, 33, 34, 35, 36, 37, 38] (by decide +kernel) (by decide +kernel)) (goodIn_sub (fun _ h => List.mem_cons_of_mem _ (List.mem_append_right _ h)) (by decide +kernel))
set_option maxRecDepth 20000 in
theorem gX3_behind_X3_openPage : GoodIn wsX3_behind (wsV RX3 66 RX3 yX3_openPage wsX3_openPage) := goodIn_app (goodIn_of _ (by decide +kernel)) ggX3_behind_X3_openPage
set_option maxRecDepth 20000 in
theorem ggX3_behind_X0_setBehind : GoodIn wsX3_behind wsX0_setBehind := goodIn_r _ [20, 21, 22, 23, 24, 19, 25, 26, 27, 28, 29, 30, 39, 40] (by decide +kernel) (by decide +kernel)
set_option maxRecDepth 20000 in
theorem gX3_behind_X0_setBehind : GoodIn wsX3_behind (wsV RX3 88 RX0 yX0_setBehind wsX0_setBehind) := goodIn_app (goodIn_of _ (by decide +kernel)) ggX3_behind_X0_setBehind
set_option maxRecDepth 20000 in
theorem ggX3_back_X3_find : GoodIn wsX3_back wsX3_find := goodIn_ca (goodIn_r _ [6, 7, 8, 9, 10, 38, 39, 40, 41, 42, 43, 44, 45] (by decide +kernel) (by decide +kernel)) (goodIn_sub (fun _ h => List.mem_cons_of_mem _ (List.mem_append_right _ h)) (by decide +kernel))
set_option maxRecDepth 20000 in
theorem gX3_back_X3_find : GoodIn wsX3_back (wsV RX3 74 RX3 yX3_find wsX3_find) := goodIn_app (goodIn_of _ (by decide +kernel)) ggX3_back_X3_find
set_option maxRecDepth 20000 in
theorem ggX3_back_X0_setBack : GoodIn wsX3_back wsX0_setBack := goodIn_r _ [15, 16, 17, 18, 19, 14, 20, 21, 22, 23, 24, 25, 46, 47] (by decide +kernel) (by decide +kernel)
set_option maxRecDepth 20000 in
theorem gX3_back_X0_setBack : GoodIn wsX3_back (wsV RX3 92 RX0 yX0_setBack wsX0_setBack) := goodIn_app (goodIn_of _ (by decide +kernel)) ggX3_back_X0_setBack
set_option maxRecDepth 20000 in
theorem ggX3_back_X0_setCopy : GoodIn wsX3_back wsX0_setCopy := goodIn_r _ [29, 16, 17, 18, 19, 14, 20, 21, 22, 23, 24, 25, 46, 47] (by decide +kernel) (by decide +kernel)
set_option maxRecDepth 20000 in
theorem gX3_back_X0_setCopy : GoodIn wsX3_back (wsV RX3 96 RX0 yX0_setCopy wsX0_setCopy) := goodIn_app (goodIn_of _ (by decide +kernel)) ggX3_back_X0_setCopy
set_option maxRecDepth 20000 in
theorem ggX3_back_X0_rank : GoodIn wsX3_back wsX0_rank := goodIn_r _ [33, 16, 34, 35, 36, 14, 37, 17, 18, 19, 20, 21, 46, 47] (by decide +kernel) (by decide +kernel)
set_option maxRecDepth 20000 in
theorem gX3_back_X0_rank : GoodIn wsX3_back (wsV RX3 84 RX0 yX0_rank wsX0_rank) := goodIn_app (goodIn_of _ (by decide +kernel)) ggX3_back_X0_rank
set_option maxRecDepth 20000 in
theorem ggX3_step_X1_isStep : GoodIn wsX3_step wsX1_isStep := goodIn_r _ [10, 11, 12, 9, 13] (by decide +kernel) (by decide +kernel)
set_option maxRecDepth 20000 in
theorem gX3_step_X1_isStep : GoodIn wsX3_step (va_wsS RX3 105 yX1_isStep wsX1_isStep) := goodIn_app (goodIn_of _ (by decide +kernel)) ggX3_step_X1_isStep
set_option maxRecDepth 20000 in
theorem ggX3_step_X1_length : GoodIn wsX3_step wsX1_length := goodIn_r _ [17, 18, 32, 33] (by decide +kernel) (by decide +kernel)
set_option maxRecDepth 20000 in
theorem gX3_step_X1_length : GoodIn wsX3_step (wsV RX3 111 RX1 yX1_length wsX1_length) := goodIn_app (goodIn_of _ (by decide +kernel)) ggX3_step_X1_length
set_option maxRecDepth 20000 in
theorem ggX3_step_X1_add : GoodIn wsX3_step wsX1_add := goodIn_r _ [22, 18, 23, 32, 33] (by decide +kernel) (by decide +kernel)
set_option maxRecDepth 20000 in
theorem gX3_step_X1_add : GoodIn wsX3_step (wsV RX3 119 RX1 yX1_add wsX1_add) := goodIn_app (goodIn_of _ (by decide +kernel)) ggX3_step_X1_add
set_option maxRecDepth 20000 in
theorem ggX3_ring_X3_find : GoodIn wsX3_ring wsX3_find := goodIn_ca (goodIn_r _ [7, 8, 9, 10, 11, 62, 63, 64, 65, 66, 67, 68, 69] (by decide +kernel) (by decide +kernel)) (goodIn_sub (fun _ h => List.mem_cons_of_mem _ (List.mem_append_left _ (List.mem_append_right _ h))) (by decide +kernel))
set_option maxRecDepth 20000 in
theorem gX3_ring_X3_find : GoodIn wsX3_ring (wsV RX3 74 RX3 yX3_find wsX3_find) := goodIn_app (goodIn_of _ (by decide +kernel)) ggX3_ring_X3_find
set_option maxRecDepth 20000 in
theorem ggX3_ring_X3_checkSteps : GoodIn wsX3_ring wsX3_checkSteps := goodIn_ca (goodIn_r _ [14, 15, 16] (by decide +kernel) (by decide +kernel)) (goodIn_sub (fun _ h => List.mem_cons_of_mem _ (List.mem_append_right _ h)) (by decide +kernel))
set_option maxRecDepth 20000 in
theorem gX3_ring_X3_checkSteps : GoodIn wsX3_ring (va_wsS RX3 122 yX3_checkSteps wsX3_checkSteps) := goodIn_app (goodIn_of _ (by decide +kernel)) ggX3_ring_X3_checkSteps
set_option maxRecDepth 20000 in
theorem ggX3_ring_X1_length : GoodIn wsX3_ring wsX1_length := goodIn_r _ [21, 22, 70, 71] (by decide +kernel) (by decide +kernel)
set_option maxRecDepth 20000 in
theorem gX3_ring_X1_length : GoodIn wsX3_ring (wsV RX3 111 RX1 yX1_length wsX1_length) := goodIn_app (goodIn_of _ (by decide +kernel)) ggX3_ring_X1_length
set_option maxRecDepth 20000 in
theorem ggX3_ring_X1_ringOn : GoodIn wsX3_ring wsX1_ringOn := goodIn_r _ [26, 22, 27, 28, 29, 20, 30, 31, 32, 33, 34, 35, 36, 37, 38, 39, 40, 41, 42, 43, 44, 45, 46, 47, 48, 49, 50, 51, 52, 53, 70, 71, 72, 73] (by decide +kernel) (by decide +kernel)
set_option maxRecDepth 20000 in
theorem gX3_ring_X1_ringOn : GoodIn wsX3_ring (wsV RX3 125 RX1 yX1_ringOn wsX1_ringOn) := goodIn_app (goodIn_of _ (by decide +kernel)) ggX3_ring_X1_ringOn
set_option maxRecDepth 20000 in
theorem ggX3_ring_X0_rank : GoodIn wsX3_ring wsX0_rank := goodIn_r _ [57, 37, 58, 59, 60, 35, 61, 45, 46, 47, 48, 49, 72, 73] (by decide +kernel) (by decide +kernel)
set_option maxRecDepth 20000 in
theorem gX3_ring_X0_rank : GoodIn wsX3_ring (wsV RX3 84 RX0 yX0_rank wsX0_rank) := goodIn_app (goodIn_of _ (by decide +kernel)) ggX3_ring_X0_rank
set_option maxRecDepth 20000 in
theorem ggX3_bell_X3_find : GoodIn wsX3_bell wsX3_find := goodIn_ca (goodIn_r _ [5, 6, 7, 8, 9, 21, 22, 23, 24, 25, 26, 27, 28] (by decide +kernel) (by decide +kernel)) (goodIn_sub (fun _ h => List.mem_cons_of_mem _ (List.mem_append_right _ h)) (by decide +kernel))
set_option maxRecDepth 20000 in
theorem gX3_bell_X3_find : GoodIn wsX3_bell (wsV RX3 74 RX3 yX3_find wsX3_find) := goodIn_app (goodIn_of _ (by decide +kernel)) ggX3_bell_X3_find
set_option maxRecDepth 20000 in
theorem ggX3_bell_X3_checkPlace : GoodIn wsX3_bell wsX3_checkPlace := goodIn_ca (goodIn_r _ [13, 6, 7, 14, 21, 22, 23, 24, 25, 26, 27, 28] (by decide +kernel) (by decide +kernel)) (goodIn_sub (fun _ h => List.mem_cons_of_mem _ (List.mem_append_right _ h)) (by decide +kernel))
set_option maxRecDepth 20000 in
theorem gX3_bell_X3_checkPlace : GoodIn wsX3_bell (wsV RX3 128 RX3 yX3_checkPlace wsX3_checkPlace) := goodIn_app (goodIn_of _ (by decide +kernel)) ggX3_bell_X3_checkPlace
set_option maxRecDepth 20000 in
theorem ggX3_bell_X0_bellAt : GoodIn wsX3_bell wsX0_bellAt := goodIn_r _ [19, 20, 29, 30] (by decide +kernel) (by decide +kernel)
set_option maxRecDepth 20000 in
theorem gX3_bell_X0_bellAt : GoodIn wsX3_bell (wsV RX3 131 RX0 yX0_bellAt wsX0_bellAt) := goodIn_app (goodIn_of _ (by decide +kernel)) ggX3_bell_X0_bellAt
set_option maxRecDepth 20000 in
theorem ggX3_told_X3_find : GoodIn wsX3_told wsX3_find := goodIn_ca (goodIn_r _ [7, 1, 2, 8, 9, 64, 65, 66, 67, 68, 69, 70, 71] (by decide +kernel) (by decide +kernel)) (goodIn_sub (fun _ h => List.mem_cons_of_mem _ (List.mem_append_right _ h)) (by decide +kernel))
set_option maxRecDepth 20000 in
theorem gX3_told_X3_find : GoodIn wsX3_told (wsV RX3 74 RX3 yX3_find wsX3_find) := goodIn_app (goodIn_of _ (by decide +kernel)) ggX3_told_X3_find
set_option maxRecDepth 20000 in
theorem ggX3_told_X0_rank : GoodIn wsX3_told wsX0_rank := goodIn_r _ [14, 15, 16, 17, 18, 13, 19, 20, 21, 22, 23, 24, 72, 73] (by decide +kernel) (by decide +kernel)
set_option maxRecDepth 20000 in
theorem gX3_told_X0_rank : GoodIn wsX3_told (wsV RX3 84 RX0 yX0_rank wsX0_rank) := goodIn_app (goodIn_of _ (by decide +kernel)) ggX3_told_X0_rank
set_option maxRecDepth 20000 in
theorem ggX3_told_X0_inversions : GoodIn wsX3_told wsX0_inversions := goodIn_r _ [28, 15, 16, 17, 18, 13, 19, 20, 21, 22, 23, 24, 72, 73] (by decide +kernel) (by decide +kernel)
set_option maxRecDepth 20000 in
theorem gX3_told_X0_inversions : GoodIn wsX3_told (wsV RX3 134 RX0 yX0_inversions wsX0_inversions) := goodIn_app (goodIn_of _ (by decide +kernel)) ggX3_told_X0_inversions
set_option maxRecDepth 20000 in
theorem ggX3_told_X0_ringCount : GoodIn wsX3_told wsX0_ringCount := goodIn_r _ [32, 15, 33, 34, 35, 13, 36, 20, 21, 22, 23, 24, 72, 73] (by decide +kernel) (by decide +kernel)
set_option maxRecDepth 20000 in
theorem gX3_told_X0_ringCount : GoodIn wsX3_told (wsV RX3 137 RX0 yX0_ringCount wsX0_ringCount) := goodIn_app (goodIn_of _ (by decide +kernel)) ggX3_told_X0_ringCount
set_option maxRecDepth 20000 in
theorem ggX3_told_X0_longestRing : GoodIn wsX3_told wsX0_longestRing := goodIn_r _ [40, 15, 41, 42, 43, 44, 45, 46, 47, 13, 48, 20, 21, 22, 23, 24, 72, 73] (by decide +kernel) (by decide +kernel)
set_option maxRecDepth 20000 in
theorem gX3_told_X0_longestRing : GoodIn wsX3_told (wsV RX3 140 RX0 yX0_longestRing wsX0_longestRing) := goodIn_app (goodIn_of _ (by decide +kernel)) ggX3_told_X0_longestRing
set_option maxRecDepth 20000 in
theorem ggX3_told_X0_order : GoodIn wsX3_told wsX0_order := goodIn_r _ [52, 15, 45, 46, 47, 13, 48, 20, 21, 22, 23, 24, 53, 54, 55, 72, 73] (by decide +kernel) (by decide +kernel)
set_option maxRecDepth 20000 in
theorem gX3_told_X0_order : GoodIn wsX3_told (wsV RX3 143 RX0 yX0_order wsX0_order) := goodIn_app (goodIn_of _ (by decide +kernel)) ggX3_told_X0_order
set_option maxRecDepth 20000 in
theorem ggX3_told_X0_ownPlaces : GoodIn wsX3_told wsX0_ownPlaces := goodIn_r _ [59, 15, 20, 21, 22, 13, 23, 24, 72, 73] (by decide +kernel) (by decide +kernel)
set_option maxRecDepth 20000 in
theorem gX3_told_X0_ownPlaces : GoodIn wsX3_told (wsV RX3 146 RX0 yX0_ownPlaces wsX0_ownPlaces) := goodIn_app (goodIn_of _ (by decide +kernel)) ggX3_told_X0_ownPlaces
set_option maxRecDepth 20000 in
theorem ggX3_told_X0_placeOf : GoodIn wsX3_told wsX0_placeOf := goodIn_r _ [63, 15, 20, 21, 22, 13, 23, 24, 72, 73] (by decide +kernel) (by decide +kernel)
set_option maxRecDepth 20000 in
theorem gX3_told_X0_placeOf : GoodIn wsX3_told (wsV RX3 149 RX0 yX0_placeOf wsX0_placeOf) := goodIn_app (goodIn_of _ (by decide +kernel)) ggX3_told_X0_placeOf
set_option maxRecDepth 20000 in
theorem ggX3_round_X3_find : GoodIn wsX3_round wsX3_find := goodIn_ca (goodIn_r _ [5, 6, 7, 8, 9, 26, 27, 28, 29, 30, 31, 32, 33] (by decide +kernel) (by decide +kernel)) (goodIn_sub (fun _ h => List.mem_cons_of_mem _ (List.mem_append_right _ h)) (by decide +kernel))
set_option maxRecDepth 20000 in
theorem gX3_round_X3_find : GoodIn wsX3_round (wsV RX3 74 RX3 yX3_find wsX3_find) := goodIn_app (goodIn_of _ (by decide +kernel)) ggX3_round_X3_find
set_option maxRecDepth 20000 in
theorem ggX3_round_X3_checkPlace : GoodIn wsX3_round wsX3_checkPlace := goodIn_ca (goodIn_r _ [13, 6, 7, 14, 26, 27, 28, 29, 30, 31, 32, 33] (by decide +kernel) (by decide +kernel)) (goodIn_sub (fun _ h => List.mem_cons_of_mem _ (List.mem_append_right _ h)) (by decide +kernel))
set_option maxRecDepth 20000 in
theorem gX3_round_X3_checkPlace : GoodIn wsX3_round (wsV RX3 128 RX3 yX3_checkPlace wsX3_checkPlace) := goodIn_app (goodIn_of _ (by decide +kernel)) ggX3_round_X3_checkPlace
set_option maxRecDepth 20000 in
theorem ggX3_round_X0_ringLength : GoodIn wsX3_round wsX0_ringLength := goodIn_r _ [19, 20, 21, 22, 23, 18, 24, 25, 34, 35] (by decide +kernel) (by decide +kernel)
set_option maxRecDepth 20000 in
theorem gX3_round_X0_ringLength : GoodIn wsX3_round (wsV RX3 154 RX0 yX0_ringLength wsX0_ringLength) := goodIn_app (goodIn_of _ (by decide +kernel)) ggX3_round_X0_ringLength
set_option maxRecDepth 20000 in
theorem ggX3_apart_X3_find : GoodIn wsX3_apart wsX3_find := goodIn_ca (goodIn_r _ [6, 7, 8, 9, 10, 23, 24, 25, 26, 27, 28, 29, 30] (by decide +kernel) (by decide +kernel)) (goodIn_sub (fun _ h => List.mem_cons_of_mem _ (List.mem_append_right _ h)) (by decide +kernel))
set_option maxRecDepth 20000 in
theorem gX3_apart_X3_find : GoodIn wsX3_apart (wsV RX3 74 RX3 yX3_find wsX3_find) := goodIn_app (goodIn_of _ (by decide +kernel)) ggX3_apart_X3_find
set_option maxRecDepth 20000 in
theorem ggX3_apart_X0_bellAt : GoodIn wsX3_apart wsX0_bellAt := goodIn_r _ [15, 16, 31, 32] (by decide +kernel) (by decide +kernel)
set_option maxRecDepth 20000 in
theorem gX3_apart_X0_bellAt : GoodIn wsX3_apart (wsV RX3 131 RX0 yX0_bellAt wsX0_bellAt) := goodIn_app (goodIn_of _ (by decide +kernel)) ggX3_apart_X0_bellAt
set_option maxRecDepth 20000 in
theorem ggX3_apart_X0_placeOf : GoodIn wsX3_apart wsX0_placeOf := goodIn_r _ [20, 21, 22, 12, 13, 14, 15, 16, 31, 32] (by decide +kernel) (by decide +kernel)
set_option maxRecDepth 20000 in
theorem gX3_apart_X0_placeOf : GoodIn wsX3_apart (wsV RX3 149 RX0 yX0_placeOf wsX0_placeOf) := goodIn_app (goodIn_of _ (by decide +kernel)) ggX3_apart_X0_placeOf
set_option maxRecDepth 20000 in
theorem ggX3_count_X3_changesOf : GoodIn wsX3_count wsX3_changesOf := goodIn_r _ [10] (by decide +kernel) (by decide +kernel)
set_option maxRecDepth 20000 in
theorem gX3_count_X3_changesOf : GoodIn wsX3_count (va_wsS RX3 57 yX3_changesOf wsX3_changesOf) := goodIn_app (goodIn_of _ (by decide +kernel)) ggX3_count_X3_changesOf
set_option maxRecDepth 20000 in
theorem ggX3_count_X3_differentInBook : GoodIn wsX3_count wsX3_differentInBook := goodIn_r _ [14, 15, 4, 16, 17, 18, 19, 20, 21, 22, 23, 24, 25, 26, 27, 28, 29, 30, 31, 32, 33, 34, 35, 36, 37, 38, 39, 40, 41, 42, 43, 44, 45, 46, 53, 54, 55, 56, 57, 58, 59, 60, 61, 62, 63, 64] (by decide +kernel) (by decide +kernel)
set_option maxRecDepth 20000 in
theorem gX3_count_X3_differentInBook : GoodIn wsX3_count (wsV RX3 157 RX3 yX3_differentInBook wsX3_differentInBook) := goodIn_app (goodIn_of _ (by decide +kernel)) ggX3_count_X3_differentInBook
set_option maxRecDepth 20000 in
theorem ggX3_count_X1_length : GoodIn wsX3_count wsX1_length := goodIn_r _ [51, 52, 65, 66] (by decide +kernel) (by decide +kernel)
set_option maxRecDepth 20000 in
theorem gX3_count_X1_length : GoodIn wsX3_count (wsV RX3 111 RX1 yX1_length wsX1_length) := goodIn_app (goodIn_of _ (by decide +kernel)) ggX3_count_X1_length
set_option maxRecDepth 20000 in
theorem ggX3_kept_X1_length : GoodIn wsX3_kept wsX1_length := goodIn_r _ [8, 9, 23, 24] (by decide +kernel) (by decide +kernel)
set_option maxRecDepth 20000 in
theorem gX3_kept_X1_length : GoodIn wsX3_kept (wsV RX3 111 RX1 yX1_length wsX1_length) := goodIn_app (goodIn_of _ (by decide +kernel)) ggX3_kept_X1_length
set_option maxRecDepth 20000 in
theorem ggX3_kept_X1_keptAt : GoodIn wsX3_kept wsX1_keptAt := goodIn_r _ [13, 14, 23, 24] (by decide +kernel) (by decide +kernel)
set_option maxRecDepth 20000 in
theorem gX3_kept_X1_keptAt : GoodIn wsX3_kept (wsV RX3 164 RX1 yX1_keptAt wsX1_keptAt) := goodIn_app (goodIn_of _ (by decide +kernel)) ggX3_kept_X1_keptAt
set_option maxRecDepth 20000 in
theorem ggX3_comes_X3_find : GoodIn wsX3_comes wsX3_find := goodIn_ca (goodIn_r _ [7, 8, 9, 10, 11, 57, 58, 59, 60, 61, 62, 63, 64] (by decide +kernel) (by decide +kernel)) (goodIn_sub (fun _ h => List.mem_cons_of_mem _ (List.mem_append_right _ h)) (by decide +kernel))
set_option maxRecDepth 20000 in
theorem gX3_comes_X3_find : GoodIn wsX3_comes (wsV RX3 74 RX3 yX3_find wsX3_find) := goodIn_app (goodIn_of _ (by decide +kernel)) ggX3_comes_X3_find
set_option maxRecDepth 20000 in
theorem ggX3_comes_X1_length : GoodIn wsX3_comes wsX1_length := goodIn_r _ [16, 17, 65, 66] (by decide +kernel) (by decide +kernel)
set_option maxRecDepth 20000 in
theorem gX3_comes_X1_length : GoodIn wsX3_comes (wsV RX3 111 RX1 yX1_length wsX1_length) := goodIn_app (goodIn_of _ (by decide +kernel)) ggX3_comes_X1_length
set_option maxRecDepth 20000 in
theorem ggX3_comes_X0_setCopy : GoodIn wsX3_comes wsX0_setCopy := goodIn_r _ [22, 23, 24, 25, 26, 21, 27, 28, 29, 30, 31, 32, 67, 68] (by decide +kernel) (by decide +kernel)
set_option maxRecDepth 20000 in
theorem gX3_comes_X0_setCopy : GoodIn wsX3_comes (wsV RX3 96 RX0 yX0_setCopy wsX0_setCopy) := goodIn_app (goodIn_of _ (by decide +kernel)) ggX3_comes_X0_setCopy
set_option maxRecDepth 20000 in
theorem ggX3_comes_X1_ringOn : GoodIn wsX3_comes wsX1_ringOn := goodIn_r _ [36, 17, 37, 38, 39, 15, 40, 41, 42, 43, 44, 21, 45, 23, 46, 47, 48, 49, 50, 51, 52, 24, 25, 26, 27, 28, 29, 30, 31, 32, 65, 66, 67, 68] (by decide +kernel) (by decide +kernel)
set_option maxRecDepth 20000 in
theorem gX3_comes_X1_ringOn : GoodIn wsX3_comes (wsV RX3 125 RX1 yX1_ringOn wsX1_ringOn) := goodIn_app (goodIn_of _ (by decide +kernel)) ggX3_comes_X1_ringOn
set_option maxRecDepth 20000 in
theorem ggX3_comes_X0_isSame : GoodIn wsX3_comes wsX0_isSame := goodIn_r _ [56, 23, 24, 25, 26, 21, 27, 28, 67, 68] (by decide +kernel) (by decide +kernel)
set_option maxRecDepth 20000 in
theorem gX3_comes_X0_isSame : GoodIn wsX3_comes (wsV RX3 167 RX0 yX0_isSame wsX0_isSame) := goodIn_app (goodIn_of _ (by decide +kernel)) ggX3_comes_X0_isSame
set_option maxRecDepth 20000 in
theorem ggX3_differ_X3_checkSteps : GoodIn wsX3_differ wsX3_checkSteps := goodIn_ca (goodIn_r _ [8, 9, 10] (by decide +kernel) (by decide +kernel)) (goodIn_sub (fun _ h => List.mem_cons_of_mem _ (List.mem_append_right _ h)) (by decide +kernel))
set_option maxRecDepth 20000 in
theorem gX3_differ_X3_checkSteps : GoodIn wsX3_differ (va_wsS RX3 122 yX3_checkSteps wsX3_checkSteps) := goodIn_app (goodIn_of _ (by decide +kernel)) ggX3_differ_X3_checkSteps
set_option maxRecDepth 20000 in
theorem ggX3_differ_X0_setRank : GoodIn wsX3_differ wsX0_setRank := goodIn_r _ [15, 16, 17, 18, 19, 14, 20, 21, 22, 23, 24, 25, 26, 27, 28, 29, 87, 88] (by decide +kernel) (by decide +kernel)
set_option maxRecDepth 20000 in
theorem gX3_differ_X0_setRank : GoodIn wsX3_differ (wsV RX3 70 RX0 yX0_setRank wsX0_setRank) := goodIn_app (goodIn_of _ (by decide +kernel)) ggX3_differ_X0_setRank
set_option maxRecDepth 20000 in
theorem ggX3_differ_X2_removeAll : GoodIn wsX3_differ wsX2_removeAll := goodIn_r _ [34, 35, 89, 90] (by decide +kernel) (by decide +kernel)
set_option maxRecDepth 20000 in
theorem gX3_differ_X2_removeAll : GoodIn wsX3_differ (wsV RX3 171 RX2 yX2_removeAll wsX2_removeAll) := goodIn_app (goodIn_of _ (by decide +kernel)) ggX3_differ_X2_removeAll
set_option maxRecDepth 20000 in
theorem ggX3_differ_X0_rank : GoodIn wsX3_differ wsX0_rank := goodIn_r _ [39, 16, 40, 41, 42, 14, 43, 26, 27, 28, 29, 25, 87, 88] (by decide +kernel) (by decide +kernel)
set_option maxRecDepth 20000 in
theorem gX3_differ_X0_rank : GoodIn wsX3_differ (wsV RX3 84 RX0 yX0_rank wsX0_rank) := goodIn_app (goodIn_of _ (by decide +kernel)) ggX3_differ_X0_rank
set_option maxRecDepth 20000 in
theorem ggX3_differ_X2_add : GoodIn wsX3_differ wsX2_add := goodIn_r _ [47, 35, 48, 89, 90] (by decide +kernel) (by decide +kernel)
set_option maxRecDepth 20000 in
theorem gX3_differ_X2_add : GoodIn wsX3_differ (wsV RX3 172 RX2 yX2_add wsX2_add) := goodIn_app (goodIn_of _ (by decide +kernel)) ggX3_differ_X2_add
set_option maxRecDepth 20000 in
theorem ggX3_differ_X1_length : GoodIn wsX3_differ wsX1_length := goodIn_r _ [53, 54, 91, 92] (by decide +kernel) (by decide +kernel)
set_option maxRecDepth 20000 in
theorem gX3_differ_X1_length : GoodIn wsX3_differ (wsV RX3 111 RX1 yX1_length wsX1_length) := goodIn_app (goodIn_of _ (by decide +kernel)) ggX3_differ_X1_length
set_option maxRecDepth 20000 in
theorem ggX3_differ_X1_ringOn : GoodIn wsX3_differ wsX1_ringOn := goodIn_r _ [58, 54, 59, 60, 61, 52, 62, 63, 64, 65, 66, 14, 67, 16, 68, 69, 70, 71, 72, 73, 74, 26, 27, 28, 29, 25, 21, 22, 23, 24, 91, 92, 87, 88] (by decide +kernel) (by decide +kernel)
set_option maxRecDepth 20000 in
theorem gX3_differ_X1_ringOn : GoodIn wsX3_differ (wsV RX3 125 RX1 yX1_ringOn wsX1_ringOn) := goodIn_app (goodIn_of _ (by decide +kernel)) ggX3_differ_X1_ringOn
set_option maxRecDepth 20000 in
theorem ggX3_differ_X2_size : GoodIn wsX3_differ wsX2_size := goodIn_r _ [78, 35, 89, 90] (by decide +kernel) (by decide +kernel)
set_option maxRecDepth 20000 in
theorem gX3_differ_X2_size : GoodIn wsX3_differ (wsV RX3 173 RX2 yX2_size wsX2_size) := goodIn_app (goodIn_of _ (by decide +kernel)) ggX3_differ_X2_size
set_option maxRecDepth 20000 in
theorem ggX3_advise_X3_find : GoodIn wsX3_advise wsX3_find := goodIn_ca (goodIn_r _ [8, 9, 10, 1, 3, 34, 35, 36, 37, 38, 39, 40, 41] (by decide +kernel) (by decide +kernel)) (goodIn_sub (fun _ h => List.mem_cons_of_mem _ (List.mem_append_right _ h)) (by decide +kernel))
set_option maxRecDepth 20000 in
theorem gX3_advise_X3_find : GoodIn wsX3_advise (wsV RX3 74 RX3 yX3_find wsX3_find) := goodIn_app (goodIn_of _ (by decide +kernel)) ggX3_advise_X3_find
set_option maxRecDepth 20000 in
theorem ggX3_advise_X0_setBehind : GoodIn wsX3_advise wsX0_setBehind := goodIn_r _ [15, 16, 17, 18, 19, 14, 20, 21, 22, 23, 24, 25, 42, 43] (by decide +kernel) (by decide +kernel)
set_option maxRecDepth 20000 in
theorem gX3_advise_X0_setBehind : GoodIn wsX3_advise (wsV RX3 88 RX0 yX0_setBehind wsX0_setBehind) := goodIn_app (goodIn_of _ (by decide +kernel)) ggX3_advise_X0_setBehind
set_option maxRecDepth 20000 in
theorem ggX3_advise_X0_inversions : GoodIn wsX3_advise wsX0_inversions := goodIn_r _ [29, 16, 30, 31, 32, 14, 33, 17, 18, 19, 20, 21, 42, 43] (by decide +kernel) (by decide +kernel)
set_option maxRecDepth 20000 in
theorem gX3_advise_X0_inversions : GoodIn wsX3_advise (wsV RX3 134 RX0 yX0_inversions wsX0_inversions) := goodIn_app (goodIn_of _ (by decide +kernel)) ggX3_advise_X0_inversions
set_option maxRecDepth 20000 in
theorem ggX3_digest_X3_count : GoodIn wsX3_digest wsX3_count := goodIn_ca (goodIn_r _ [10, 11, 12, 4, 3, 5, 13, 14, 15, 9, 16, 17, 18, 19, 20, 21, 22, 23, 24, 25, 26, 27, 28, 29, 30, 31, 32, 33, 34, 35, 36, 37, 38, 39, 40, 41, 42, 43, 44, 45, 46, 47, 48, 49, 50, 51, 52, 53, 54, 55, 56, 57, 58, 124, 125, 126, 127, 128, 129, 130, 131, 132, 133, 134, 135, 136, 137] (by decide +kernel) (by decide +kernel)) (goodIn_sub (fun _ h => List.mem_cons_of_mem _ (List.mem_append_right _ h)) (by decide +kernel))
set_option maxRecDepth 20000 in
theorem gX3_digest_X3_count : GoodIn wsX3_digest (wsV RX3 180 RX3 yX3_count wsX3_count) := goodIn_app (goodIn_of _ (by decide +kernel)) ggX3_digest_X3_count
set_option maxRecDepth 20000 in
theorem ggX3_digest_X3_told : GoodIn wsX3_digest wsX3_told := goodIn_ca (goodIn_r _ [62, 11, 12, 63, 64, 65, 9, 66, 3, 22, 29, 30, 31, 32, 33, 34, 35, 36, 37, 38, 39, 40, 41, 42, 43, 67, 68, 69, 70, 71, 72, 73, 74, 75, 76, 77, 78, 79, 80, 81, 82, 83, 84, 85, 86, 87, 88, 89, 90, 91, 92, 93, 94, 95, 96, 97, 98, 99, 100, 101, 102, 103, 104, 105, 124, 125, 126, 127, 128, 129, 130, 131, 134, 135] (by decide +kernel) (by decide +kernel)) (goodIn_sub (fun _ h => List.mem_cons_of_mem _ (List.mem_append_right _ h)) (by decide +kernel))
set_option maxRecDepth 20000 in
theorem gX3_digest_X3_told : GoodIn wsX3_digest (wsV RX3 183 RX3 yX3_told wsX3_told) := goodIn_app (goodIn_of _ (by decide +kernel)) ggX3_digest_X3_told
set_option maxRecDepth 20000 in
theorem ggX3_digest_X3_bell : GoodIn wsX3_digest wsX3_bell := goodIn_ca (goodIn_r _ [109, 63, 64, 65, 9, 66, 11, 12, 3, 22, 110, 111, 112, 113, 4, 114, 40, 41, 32, 42, 43, 124, 125, 126, 127, 128, 129, 130, 131, 134, 135] (by decide +kernel) (by decide +kernel)) (goodIn_sub (fun _ h => List.mem_cons_of_mem _ (List.mem_append_right _ h)) (by decide +kernel))
set_option maxRecDepth 20000 in
theorem gX3_digest_X3_bell : GoodIn wsX3_digest (wsV RX3 187 RX3 yX3_bell wsX3_bell) := goodIn_app (goodIn_of _ (by decide +kernel)) ggX3_digest_X3_bell
set_option maxRecDepth 20000 in
theorem ggX3_digest_X1_length : GoodIn wsX3_digest wsX1_length := goodIn_r _ [57, 58, 136, 137] (by decide +kernel) (by decide +kernel)
set_option maxRecDepth 20000 in
theorem gX3_digest_X1_length : GoodIn wsX3_digest (wsV RX3 111 RX1 yX1_length wsX1_length) := goodIn_app (goodIn_of _ (by decide +kernel)) ggX3_digest_X1_length
set_option maxRecDepth 20000 in
theorem ggX3_digest_X3_kept : GoodIn wsX3_digest wsX3_kept := goodIn_ca (goodIn_r _ [118, 11, 12, 5, 53, 54, 55, 56, 57, 58, 119, 120, 121, 122, 123, 124, 125, 126, 127, 128, 129, 130, 131, 136, 137] (by decide +kernel) (by decide +kernel)) (goodIn_sub (fun _ h => List.mem_cons_of_mem _ (List.mem_append_right _ h)) (by decide +kernel))
set_option maxRecDepth 20000 in
theorem gX3_digest_X3_kept : GoodIn wsX3_digest (wsV RX3 190 RX3 yX3_kept wsX3_kept) := goodIn_app (goodIn_of _ (by decide +kernel)) ggX3_digest_X3_kept
set_option maxRecDepth 20000 in
theorem ggX3_differentInBook_X2_removeAll : GoodIn wsX3_differentInBook wsX2_removeAll := goodIn_r _ [8, 9, 42, 43] (by decide +kernel) (by decide +kernel)
set_option maxRecDepth 20000 in
theorem gX3_differentInBook_X2_removeAll : GoodIn wsX3_differentInBook (wsV RX3 171 RX2 yX2_removeAll wsX2_removeAll) := goodIn_app (goodIn_of _ (by decide +kernel)) ggX3_differentInBook_X2_removeAll
set_option maxRecDepth 20000 in
theorem ggX3_differentInBook_X0_rank : GoodIn wsX3_differentInBook wsX0_rank := goodIn_r _ [14, 15, 16, 17, 18, 13, 19, 20, 21, 22, 23, 24, 44, 45] (by decide +kernel) (by decide +kernel)
set_option maxRecDepth 20000 in
theorem gX3_differentInBook_X0_rank : GoodIn wsX3_differentInBook (wsV RX3 84 RX0 yX0_rank wsX0_rank) := goodIn_app (goodIn_of _ (by decide +kernel)) ggX3_differentInBook_X0_rank
set_option maxRecDepth 20000 in
theorem ggX3_differentInBook_X2_add : GoodIn wsX3_differentInBook wsX2_add := goodIn_r _ [28, 9, 29, 42, 43] (by decide +kernel) (by decide +kernel)
set_option maxRecDepth 20000 in
theorem gX3_differentInBook_X2_add : GoodIn wsX3_differentInBook (wsV RX3 172 RX2 yX2_add wsX2_add) := goodIn_app (goodIn_of _ (by decide +kernel)) ggX3_differentInBook_X2_add
set_option maxRecDepth 20000 in
theorem ggX3_differentInBook_X2_size : GoodIn wsX3_differentInBook wsX2_size := goodIn_r _ [33, 9, 42, 43] (by decide +kernel) (by decide +kernel)
set_option maxRecDepth 20000 in
theorem gX3_differentInBook_X2_size : GoodIn wsX3_differentInBook (wsV RX3 173 RX2 yX2_size wsX2_size) := goodIn_app (goodIn_of _ (by decide +kernel)) ggX3_differentInBook_X2_size
