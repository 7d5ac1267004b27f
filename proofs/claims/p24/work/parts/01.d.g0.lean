set_option maxRecDepth 20000 in
theorem ggX0_placeOf_X0_bellAt : GoodIn wsX0_placeOf wsX0_bellAt := goodIn_r _ [6, 7, 8, 9] (by decide +kernel) (by decide +kernel)
set_option maxRecDepth 20000 in
theorem gX0_placeOf_X0_bellAt : GoodIn wsX0_placeOf (wsV RX0 19 RX0 yX0_bellAt wsX0_bellAt) := goodIn_app (goodIn_of _ (by decide +kernel)) ggX0_placeOf_X0_bellAt
set_option maxRecDepth 20000 in
theorem ggX0_isSame_X0_bellAt : GoodIn wsX0_isSame wsX0_bellAt := goodIn_r _ [6, 7, 8, 9] (by decide +kernel) (by decide +kernel)
set_option maxRecDepth 20000 in
theorem gX0_isSame_X0_bellAt : GoodIn wsX0_isSame (wsV RX0 19 RX0 yX0_bellAt wsX0_bellAt) := goodIn_app (goodIn_of _ (by decide +kernel)) ggX0_isSame_X0_bellAt
set_option maxRecDepth 20000 in
theorem ggX0_rank_X0_lesserBehind : GoodIn wsX0_rank wsX0_lesserBehind := goodIn_r _ [6, 1, 7, 8, 9, 5, 10, 11, 12, 13] (by decide +kernel) (by decide +kernel)
set_option maxRecDepth 20000 in
theorem gX0_rank_X0_lesserBehind : GoodIn wsX0_rank (wsV RX0 23 RX0 yX0_lesserBehind wsX0_lesserBehind) := goodIn_app (goodIn_of _ (by decide +kernel)) ggX0_rank_X0_lesserBehind
set_option maxRecDepth 20000 in
theorem ggX0_inversions_X0_lesserBehind : GoodIn wsX0_inversions wsX0_lesserBehind := goodIn_r _ [6, 1, 7, 8, 9, 5, 10, 11, 12, 13] (by decide +kernel) (by decide +kernel)
set_option maxRecDepth 20000 in
theorem gX0_inversions_X0_lesserBehind : GoodIn wsX0_inversions (wsV RX0 23 RX0 yX0_lesserBehind wsX0_lesserBehind) := goodIn_app (goodIn_of _ (by decide +kernel)) ggX0_inversions_X0_lesserBehind
set_option maxRecDepth 20000 in
theorem ggX0_lesserBehind_X0_bellAt : GoodIn wsX0_lesserBehind wsX0_bellAt := goodIn_r _ [6, 7, 8, 9] (by decide +kernel) (by decide +kernel)
set_option maxRecDepth 20000 in
theorem gX0_lesserBehind_X0_bellAt : GoodIn wsX0_lesserBehind (wsV RX0 19 RX0 yX0_bellAt wsX0_bellAt) := goodIn_app (goodIn_of _ (by decide +kernel)) ggX0_lesserBehind_X0_bellAt
set_option maxRecDepth 20000 in
theorem ggX0_setRank_X0_insertAhead : GoodIn wsX0_setRank wsX0_insertAhead := goodIn_r _ [6, 1, 7, 8, 9, 5, 10, 11, 12, 13, 14, 15, 16, 17] (by decide +kernel) (by decide +kernel)
set_option maxRecDepth 20000 in
theorem gX0_setRank_X0_insertAhead : GoodIn wsX0_setRank (wsV RX0 26 RX0 yX0_insertAhead wsX0_insertAhead) := goodIn_app (goodIn_of _ (by decide +kernel)) ggX0_setRank_X0_insertAhead
set_option maxRecDepth 20000 in
theorem ggX0_insertAhead_X0_put : GoodIn wsX0_insertAhead wsX0_put := goodIn_r _ [6, 7, 12, 13] (by decide +kernel) (by decide +kernel)
set_option maxRecDepth 20000 in
theorem gX0_insertAhead_X0_put : GoodIn wsX0_insertAhead (wsV RX0 30 RX0 yX0_put wsX0_put) := goodIn_app (goodIn_of _ (by decide +kernel)) ggX0_insertAhead_X0_put
set_option maxRecDepth 20000 in
theorem ggX0_insertAhead_X0_bellAt : GoodIn wsX0_insertAhead wsX0_bellAt := goodIn_r _ [11, 7, 12, 13] (by decide +kernel) (by decide +kernel)
set_option maxRecDepth 20000 in
theorem gX0_insertAhead_X0_bellAt : GoodIn wsX0_insertAhead (wsV RX0 19 RX0 yX0_bellAt wsX0_bellAt) := goodIn_app (goodIn_of _ (by decide +kernel)) ggX0_insertAhead_X0_bellAt
set_option maxRecDepth 20000 in
theorem ggX0_setCopy_X0_bellAt : GoodIn wsX0_setCopy wsX0_bellAt := goodIn_r _ [6, 7, 12, 13] (by decide +kernel) (by decide +kernel)
set_option maxRecDepth 20000 in
theorem gX0_setCopy_X0_bellAt : GoodIn wsX0_setCopy (wsV RX0 19 RX0 yX0_bellAt wsX0_bellAt) := goodIn_app (goodIn_of _ (by decide +kernel)) ggX0_setCopy_X0_bellAt
set_option maxRecDepth 20000 in
theorem ggX0_setCopy_X0_put : GoodIn wsX0_setCopy wsX0_put := goodIn_r _ [11, 7, 12, 13] (by decide +kernel) (by decide +kernel)
set_option maxRecDepth 20000 in
theorem gX0_setCopy_X0_put : GoodIn wsX0_setCopy (wsV RX0 30 RX0 yX0_put wsX0_put) := goodIn_app (goodIn_of _ (by decide +kernel)) ggX0_setCopy_X0_put
set_option maxRecDepth 20000 in
theorem ggX0_setBehind_X0_bellAt : GoodIn wsX0_setBehind wsX0_bellAt := goodIn_r _ [6, 7, 12, 13] (by decide +kernel) (by decide +kernel)
set_option maxRecDepth 20000 in
theorem gX0_setBehind_X0_bellAt : GoodIn wsX0_setBehind (wsV RX0 19 RX0 yX0_bellAt wsX0_bellAt) := goodIn_app (goodIn_of _ (by decide +kernel)) ggX0_setBehind_X0_bellAt
set_option maxRecDepth 20000 in
theorem ggX0_setBehind_X0_put : GoodIn wsX0_setBehind wsX0_put := goodIn_r _ [11, 7, 12, 13] (by decide +kernel) (by decide +kernel)
set_option maxRecDepth 20000 in
theorem gX0_setBehind_X0_put : GoodIn wsX0_setBehind (wsV RX0 30 RX0 yX0_put wsX0_put) := goodIn_app (goodIn_of _ (by decide +kernel)) ggX0_setBehind_X0_put
set_option maxRecDepth 20000 in
theorem ggX0_setBack_X0_bellAt : GoodIn wsX0_setBack wsX0_bellAt := goodIn_r _ [6, 7, 12, 13] (by decide +kernel) (by decide +kernel)
set_option maxRecDepth 20000 in
theorem gX0_setBack_X0_bellAt : GoodIn wsX0_setBack (wsV RX0 19 RX0 yX0_bellAt wsX0_bellAt) := goodIn_app (goodIn_of _ (by decide +kernel)) ggX0_setBack_X0_bellAt
set_option maxRecDepth 20000 in
theorem ggX0_setBack_X0_put : GoodIn wsX0_setBack wsX0_put := goodIn_r _ [11, 7, 12, 13] (by decide +kernel) (by decide +kernel)
set_option maxRecDepth 20000 in
theorem gX0_setBack_X0_put : GoodIn wsX0_setBack (wsV RX0 30 RX0 yX0_put wsX0_put) := goodIn_app (goodIn_of _ (by decide +kernel)) ggX0_setBack_X0_put
set_option maxRecDepth 20000 in
theorem ggX0_exchange_X0_bellAt : GoodIn wsX0_exchange wsX0_bellAt := goodIn_r _ [5, 6, 11, 12] (by decide +kernel) (by decide +kernel)
set_option maxRecDepth 20000 in
theorem gX0_exchange_X0_bellAt : GoodIn wsX0_exchange (wsV RX0 19 RX0 yX0_bellAt wsX0_bellAt) := goodIn_app (goodIn_of _ (by decide +kernel)) ggX0_exchange_X0_bellAt
set_option maxRecDepth 20000 in
theorem ggX0_exchange_X0_put : GoodIn wsX0_exchange wsX0_put := goodIn_r _ [10, 6, 11, 12] (by decide +kernel) (by decide +kernel)
set_option maxRecDepth 20000 in
theorem gX0_exchange_X0_put : GoodIn wsX0_exchange (wsV RX0 30 RX0 yX0_put wsX0_put) := goodIn_app (goodIn_of _ (by decide +kernel)) ggX0_exchange_X0_put
set_option maxRecDepth 20000 in
theorem ggX0_ringStep_X1_keeps : GoodIn wsX0_ringStep wsX1_keeps := goodIn_r _ [5] (by decide +kernel) (by decide +kernel)
set_option maxRecDepth 20000 in
theorem gX0_ringStep_X1_keeps : GoodIn wsX0_ringStep (va_wsS RX0 40 yX1_keeps wsX1_keeps) := goodIn_app (goodIn_of _ (by decide +kernel)) ggX0_ringStep_X1_keeps
set_option maxRecDepth 20000 in
theorem ggX0_ringStep_X0_exchange : GoodIn wsX0_ringStep wsX0_exchange := goodIn_r _ [10, 11, 12, 13, 9, 14, 15, 16, 17, 18, 19, 20, 21] (by decide +kernel) (by decide +kernel)
set_option maxRecDepth 20000 in
theorem gX0_ringStep_X0_exchange : GoodIn wsX0_ringStep (wsV RX0 46 RX0 yX0_exchange wsX0_exchange) := goodIn_app (goodIn_of _ (by decide +kernel)) ggX0_ringStep_X0_exchange
set_option maxRecDepth 20000 in
theorem ggX0_ringLength_X0_bellAt : GoodIn wsX0_ringLength wsX0_bellAt := goodIn_r _ [6, 7, 8, 9] (by decide +kernel) (by decide +kernel)
set_option maxRecDepth 20000 in
theorem gX0_ringLength_X0_bellAt : GoodIn wsX0_ringLength (wsV RX0 19 RX0 yX0_bellAt wsX0_bellAt) := goodIn_app (goodIn_of _ (by decide +kernel)) ggX0_ringLength_X0_bellAt
set_option maxRecDepth 20000 in
theorem ggX0_isLeastOfRing_X0_bellAt : GoodIn wsX0_isLeastOfRing wsX0_bellAt := goodIn_r _ [6, 7, 8, 9] (by decide +kernel) (by decide +kernel)
set_option maxRecDepth 20000 in
theorem gX0_isLeastOfRing_X0_bellAt : GoodIn wsX0_isLeastOfRing (wsV RX0 19 RX0 yX0_bellAt wsX0_bellAt) := goodIn_app (goodIn_of _ (by decide +kernel)) ggX0_isLeastOfRing_X0_bellAt
set_option maxRecDepth 20000 in
theorem ggX0_ringCount_X0_isLeastOfRing : GoodIn wsX0_ringCount wsX0_isLeastOfRing := goodIn_r _ [6, 1, 7, 8, 9, 5, 10, 11, 12, 13] (by decide +kernel) (by decide +kernel)
set_option maxRecDepth 20000 in
theorem gX0_ringCount_X0_isLeastOfRing : GoodIn wsX0_ringCount (wsV RX0 50 RX0 yX0_isLeastOfRing wsX0_isLeastOfRing) := goodIn_app (goodIn_of _ (by decide +kernel)) ggX0_ringCount_X0_isLeastOfRing
set_option maxRecDepth 20000 in
theorem ggX0_longestRing_X0_ringLength : GoodIn wsX0_longestRing wsX0_ringLength := goodIn_r _ [10, 1, 11, 12, 13, 9, 14, 15, 16, 17] (by decide +kernel) (by decide +kernel)
set_option maxRecDepth 20000 in
theorem gX0_longestRing_X0_ringLength : GoodIn wsX0_longestRing (wsV RX0 33 RX0 yX0_ringLength wsX0_ringLength) := goodIn_app (goodIn_of _ (by decide +kernel)) ggX0_longestRing_X0_ringLength
set_option maxRecDepth 20000 in
theorem ggX0_order_X0_ringLength : GoodIn wsX0_order wsX0_ringLength := goodIn_r _ [6, 1, 7, 8, 9, 5, 10, 11, 15, 16] (by decide +kernel) (by decide +kernel)
set_option maxRecDepth 20000 in
theorem gX0_order_X0_ringLength : GoodIn wsX0_order (wsV RX0 33 RX0 yX0_ringLength wsX0_ringLength) := goodIn_app (goodIn_of _ (by decide +kernel)) ggX0_order_X0_ringLength
set_option maxRecDepth 20000 in
theorem ggX0_order_X0_leastMultiple : GoodIn wsX0_order wsX0_leastMultiple := goodIn_r _ [14] (by decide +kernel) (by decide +kernel)
set_option maxRecDepth 20000 in
theorem gX0_order_X0_leastMultiple : GoodIn wsX0_order (va_wsS RX0 59 yX0_leastMultiple wsX0_leastMultiple) := goodIn_app (goodIn_of _ (by decide +kernel)) ggX0_order_X0_leastMultiple
set_option maxRecDepth 20000 in
theorem ggX0_ownPlaces_X0_bellAt : GoodIn wsX0_ownPlaces wsX0_bellAt := goodIn_r _ [6, 7, 8, 9] (by decide +kernel) (by decide +kernel)
set_option maxRecDepth 20000 in
theorem gX0_ownPlaces_X0_bellAt : GoodIn wsX0_ownPlaces (wsV RX0 19 RX0 yX0_bellAt wsX0_bellAt) := goodIn_app (goodIn_of _ (by decide +kernel)) ggX0_ownPlaces_X0_bellAt
set_option maxRecDepth 20000 in
theorem ggX1_isStep_X1_keeps : GoodIn wsX1_isStep wsX1_keeps := goodIn_r _ [4] (by decide +kernel) (by decide +kernel)
set_option maxRecDepth 20000 in
theorem gX1_isStep_X1_keeps : GoodIn wsX1_isStep (va_wsS RX1 19 yX1_keeps wsX1_keeps) := goodIn_app (goodIn_of _ (by decide +kernel)) ggX1_isStep_X1_keeps
set_option maxRecDepth 20000 in
theorem ggX1_ringOn_X1_keptAt : GoodIn wsX1_ringOn wsX1_keptAt := goodIn_r _ [6, 7, 30, 31] (by decide +kernel) (by decide +kernel)
set_option maxRecDepth 20000 in
theorem gX1_ringOn_X1_keptAt : GoodIn wsX1_ringOn (wsV RX1 23 RX1 yX1_keptAt wsX1_keptAt) := goodIn_app (goodIn_of _ (by decide +kernel)) ggX1_ringOn_X1_keptAt
set_option maxRecDepth 20000 in
theorem ggX1_ringOn_X0_ringStep : GoodIn wsX1_ringOn wsX0_ringStep := goodIn_r _ [12, 13, 14, 15, 5, 16, 17, 18, 19, 11, 20, 21, 22, 23, 24, 25, 26, 27, 28, 29, 32, 33] (by decide +kernel) (by decide +kernel)
set_option maxRecDepth 20000 in
theorem gX1_ringOn_X0_ringStep : GoodIn wsX1_ringOn (wsV RX1 27 RX0 yX0_ringStep wsX0_ringStep) := goodIn_app (goodIn_of _ (by decide +kernel)) ggX1_ringOn_X0_ringStep
