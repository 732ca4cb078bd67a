set_option maxRecDepth 20000 in
theorem ggX0_pinFreeGroups_X0_join : GoodIn wsX0_pinFreeGroups wsX0_join := goodIn_r _ [8, 2, 9, 10, 11, 12, 13] (by decide +kernel) (by decide +kernel)
set_option maxRecDepth 20000 in
theorem gX0_pinFreeGroups_X0_join : GoodIn wsX0_pinFreeGroups (wsV RX0 25 RX0 yX0_join wsX0_join) := goodIn_app (goodIn_of _ (by decide +kernel)) ggX0_pinFreeGroups_X0_join
set_option maxRecDepth 20000 in
theorem ggX1_measure_X0_placeOf : GoodIn wsX1_measure wsX0_placeOf := goodIn_r _ [22, 23, 39, 40, 41, 42] (by decide +kernel) (by decide +kernel)
set_option maxRecDepth 20000 in
theorem gX1_measure_X0_placeOf : GoodIn wsX1_measure (wsV RX1 23 RX0 yX0_placeOf wsX0_placeOf) := goodIn_app (goodIn_of _ (by decide +kernel)) ggX1_measure_X0_placeOf
set_option maxRecDepth 20000 in
theorem ggX1_measure_X1_liesIn : GoodIn wsX1_measure wsX1_liesIn := goodIn_r _ [28, 7, 11, 12, 13, 29, 30, 31, 32, 33, 34, 35, 36, 37, 38] (by decide +kernel) (by decide +kernel)
set_option maxRecDepth 20000 in
theorem gX1_measure_X1_liesIn : GoodIn wsX1_measure (wsV RX1 57 RX1 yX1_liesIn wsX1_liesIn) := goodIn_app (goodIn_of _ (by decide +kernel)) ggX1_measure_X1_liesIn
set_option maxRecDepth 20000 in
theorem ggX2_init_X1_init : GoodIn wsX2_init wsX1_init := goodIn_r _ [12, 13, 2, 3] (by decide +kernel) (by decide +kernel)
set_option maxRecDepth 20000 in
theorem gX2_init_X1_init_n24 : GoodIn wsX2_init (wsX1_init) := ggX2_init_X1_init
set_option maxRecDepth 20000 in
theorem ggX2_layBase_X2_base : GoodIn wsX2_layBase wsX2_base := goodIn_r _ [6, 7, 17, 18, 19, 20, 21] (by decide +kernel) (by decide +kernel)
set_option maxRecDepth 20000 in
theorem gX2_layBase_X2_base : GoodIn wsX2_layBase (wsV RX2 25 RX2 yX2_base wsX2_base) := goodIn_app (goodIn_of _ (by decide +kernel)) ggX2_layBase_X2_base
set_option maxRecDepth 20000 in
theorem ggX2_layBase_X1_put : GoodIn wsX2_layBase wsX1_put := goodIn_r _ [12, 13, 14, 15, 16, 22, 23, 24, 25, 26, 27, 28, 29, 30, 31] (by decide +kernel) (by decide +kernel)
set_option maxRecDepth 20000 in
theorem gX2_layBase_X1_put : GoodIn wsX2_layBase (wsV RX2 29 RX1 yX1_put wsX1_put) := goodIn_app (goodIn_of _ (by decide +kernel)) ggX2_layBase_X1_put
set_option maxRecDepth 20000 in
theorem ggX2_addPocket_X2_pocketAt : GoodIn wsX2_addPocket wsX2_pocketAt := goodIn_r _ [6, 7, 17, 18, 19, 20, 21] (by decide +kernel) (by decide +kernel)
set_option maxRecDepth 20000 in
theorem gX2_addPocket_X2_pocketAt : GoodIn wsX2_addPocket (wsV RX2 41 RX2 yX2_pocketAt wsX2_pocketAt) := goodIn_app (goodIn_of _ (by decide +kernel)) ggX2_addPocket_X2_pocketAt
set_option maxRecDepth 20000 in
theorem ggX2_addPocket_X1_put : GoodIn wsX2_addPocket wsX1_put := goodIn_r _ [12, 13, 14, 15, 16, 22, 23, 24, 25, 26, 27, 28, 29, 30, 31] (by decide +kernel) (by decide +kernel)
set_option maxRecDepth 20000 in
theorem gX2_addPocket_X1_put : GoodIn wsX2_addPocket (wsV RX2 29 RX1 yX1_put wsX1_put) := goodIn_app (goodIn_of _ (by decide +kernel)) ggX2_addPocket_X1_put
set_option maxRecDepth 20000 in
theorem ggX2_measure_X2_pocketAt : GoodIn wsX2_measure wsX2_pocketAt := goodIn_r _ [8, 9, 46, 47, 48, 49, 50] (by decide +kernel) (by decide +kernel)
set_option maxRecDepth 20000 in
theorem gX2_measure_X2_pocketAt : GoodIn wsX2_measure (wsV RX2 41 RX2 yX2_pocketAt wsX2_pocketAt) := goodIn_app (goodIn_of _ (by decide +kernel)) ggX2_measure_X2_pocketAt
set_option maxRecDepth 20000 in
theorem ggX2_measure_X2_base : GoodIn wsX2_measure wsX2_base := goodIn_r _ [13, 9, 46, 47, 48, 49, 50] (by decide +kernel) (by decide +kernel)
set_option maxRecDepth 20000 in
theorem gX2_measure_X2_base : GoodIn wsX2_measure (wsV RX2 25 RX2 yX2_base wsX2_base) := goodIn_app (goodIn_of _ (by decide +kernel)) ggX2_measure_X2_base
set_option maxRecDepth 20000 in
theorem ggX2_measure_X1_measure : GoodIn wsX2_measure wsX1_measure := goodIn_r _ [18, 19, 20, 21, 22, 23, 24, 25, 26, 27, 28, 29, 30, 31, 32, 33, 34, 35, 36, 37, 38, 39, 40, 41, 42, 43, 44, 17, 45, 51, 52, 53, 54, 55, 56, 57, 58, 59, 60, 61, 62, 63, 64] (by decide +kernel) (by decide +kernel)
set_option maxRecDepth 20000 in
theorem gX2_measure_X1_measure : GoodIn wsX2_measure (wsV RX2 48 RX1 yX1_measure wsX1_measure) := goodIn_app (goodIn_of _ (by decide +kernel)) ggX2_measure_X1_measure
set_option maxRecDepth 20000 in
theorem ggX2_wholeCells_X2_base : GoodIn wsX2_wholeCells wsX2_base := goodIn_r _ [7, 8, 19, 20, 21, 22, 23] (by decide +kernel) (by decide +kernel)
set_option maxRecDepth 20000 in
theorem gX2_wholeCells_X2_base : GoodIn wsX2_wholeCells (wsV RX2 25 RX2 yX2_base wsX2_base) := goodIn_app (goodIn_of _ (by decide +kernel)) ggX2_wholeCells_X2_base
set_option maxRecDepth 20000 in
theorem ggX2_wholeCells_X1_cells : GoodIn wsX2_wholeCells wsX1_cells := goodIn_r _ [13, 14, 15, 16, 17, 18, 24, 25, 26, 27, 28, 29, 30, 31, 32, 33] (by decide +kernel) (by decide +kernel)
set_option maxRecDepth 20000 in
theorem gX2_wholeCells_X1_cells : GoodIn wsX2_wholeCells (wsV RX2 55 RX1 yX1_cells wsX1_cells) := goodIn_app (goodIn_of _ (by decide +kernel)) ggX2_wholeCells_X1_cells
set_option maxRecDepth 20000 in
theorem ggX2_takenCells_X2_gatherSides : GoodIn wsX2_takenCells wsX2_gatherSides := goodIn_r _ [7, 8, 9, 1, 10, 2, 11, 12, 13, 14, 15, 16, 6, 17, 18, 19, 20, 21, 48, 49, 50, 51, 52, 53, 54, 55, 56, 57, 58, 59, 60, 61, 62] (by decide +kernel) (by decide +kernel)
set_option maxRecDepth 20000 in
theorem gX2_takenCells_X2_gatherSides : GoodIn wsX2_takenCells (wsV RX2 59 RX2 yX2_gatherSides wsX2_gatherSides) := goodIn_app (goodIn_of _ (by decide +kernel)) ggX2_takenCells_X2_gatherSides
set_option maxRecDepth 20000 in
theorem ggX2_takenCells_X2_layersTaken : GoodIn wsX2_takenCells wsX2_layersTaken := goodIn_r _ [25, 8, 9, 14, 15, 16, 6, 17, 18, 26, 27, 28, 29, 30, 31, 32, 33, 34, 35, 36, 37, 38, 39, 40, 41, 42, 43, 44, 45, 46, 47, 48, 49, 50, 51, 52, 53, 54, 55, 56, 57, 58, 59, 60, 61, 62] (by decide +kernel) (by decide +kernel)
set_option maxRecDepth 20000 in
theorem gX2_takenCells_X2_layersTaken : GoodIn wsX2_takenCells (wsV RX2 62 RX2 yX2_layersTaken wsX2_layersTaken) := goodIn_app (goodIn_of _ (by decide +kernel)) ggX2_takenCells_X2_layersTaken
set_option maxRecDepth 20000 in
theorem ggX2_differentDepths_X2_pocketAt : GoodIn wsX2_differentDepths wsX2_pocketAt := goodIn_r _ [8, 9, 17, 18, 19, 20, 21] (by decide +kernel) (by decide +kernel)
set_option maxRecDepth 20000 in
theorem gX2_differentDepths_X2_pocketAt : GoodIn wsX2_differentDepths (wsV RX2 41 RX2 yX2_pocketAt wsX2_pocketAt) := goodIn_app (goodIn_of _ (by decide +kernel)) ggX2_differentDepths_X2_pocketAt
set_option maxRecDepth 20000 in
theorem ggX2_differentDepths_J13_bitCount_95d88 : GoodIn wsX2_differentDepths wsJ13_bitCount_95d88 := goodIn_r _ [13, 14, 15, 16] (by decide +kernel) (by decide +kernel)
set_option maxRecDepth 20000 in
theorem gX2_differentDepths_J13_bitCount_95d88 : GoodIn wsX2_differentDepths (va_wsS RX2 66 yJ13_bitCount_95d88 wsJ13_bitCount_95d88) := goodIn_app (goodIn_of _ (by decide +kernel)) ggX2_differentDepths_J13_bitCount_95d88
set_option maxRecDepth 20000 in
theorem ggX2_gatherSides_X2_pocketAt : GoodIn wsX2_gatherSides wsX2_pocketAt := goodIn_r _ [13, 14, 18, 19, 20, 21, 22] (by decide +kernel) (by decide +kernel)
set_option maxRecDepth 20000 in
theorem gX2_gatherSides_X2_pocketAt : GoodIn wsX2_gatherSides (wsV RX2 41 RX2 yX2_pocketAt wsX2_pocketAt) := goodIn_app (goodIn_of _ (by decide +kernel)) ggX2_gatherSides_X2_pocketAt
set_option maxRecDepth 20000 in
theorem ggX2_gatherSides_X2_insertSorted : GoodIn wsX2_gatherSides wsX2_insertSorted := goodIn_r _ [17] (by decide +kernel) (by decide +kernel)
set_option maxRecDepth 20000 in
theorem gX2_gatherSides_X2_insertSorted : GoodIn wsX2_gatherSides (va_wsS RX2 75 yX2_insertSorted wsX2_insertSorted) := goodIn_app (goodIn_of _ (by decide +kernel)) ggX2_gatherSides_X2_insertSorted
set_option maxRecDepth 20000 in
theorem ggX2_layersTaken_X2_pocketAt : GoodIn wsX2_layersTaken wsX2_pocketAt := goodIn_r _ [7, 8, 31, 32, 33, 34, 35] (by decide +kernel) (by decide +kernel)
set_option maxRecDepth 20000 in
theorem gX2_layersTaken_X2_pocketAt : GoodIn wsX2_layersTaken (wsV RX2 41 RX2 yX2_pocketAt wsX2_pocketAt) := goodIn_app (goodIn_of _ (by decide +kernel)) ggX2_layersTaken_X2_pocketAt
set_option maxRecDepth 20000 in
theorem ggX2_layersTaken_X1_covers : GoodIn wsX2_layersTaken wsX1_covers := goodIn_r _ [13, 14, 15, 16, 17, 36, 37, 38, 39, 40, 41, 42, 43, 44, 45] (by decide +kernel) (by decide +kernel)
set_option maxRecDepth 20000 in
theorem gX2_layersTaken_X1_covers : GoodIn wsX2_layersTaken (wsV RX2 88 RX1 yX1_covers wsX1_covers) := goodIn_app (goodIn_of _ (by decide +kernel)) ggX2_layersTaken_X1_covers
set_option maxRecDepth 20000 in
theorem ggX2_layersTaken_X1_layers : GoodIn wsX2_layersTaken wsX1_layers := goodIn_r _ [21, 22, 23, 36, 37, 38, 39, 40, 41, 42, 43, 44, 45] (by decide +kernel) (by decide +kernel)
set_option maxRecDepth 20000 in
theorem gX2_layersTaken_X1_layers : GoodIn wsX2_layersTaken (wsV RX2 92 RX1 yX1_layers wsX1_layers) := goodIn_app (goodIn_of _ (by decide +kernel)) ggX2_layersTaken_X1_layers
set_option maxRecDepth 20000 in
theorem ggX2_layersTaken_J13_bitCount_95d88 : GoodIn wsX2_layersTaken wsJ13_bitCount_95d88 := goodIn_r _ [27, 28, 29, 30] (by decide +kernel) (by decide +kernel)
set_option maxRecDepth 20000 in
theorem gX2_layersTaken_J13_bitCount_95d88 : GoodIn wsX2_layersTaken (va_wsS RX2 66 yJ13_bitCount_95d88 wsJ13_bitCount_95d88) := goodIn_app (goodIn_of _ (by decide +kernel)) ggX2_layersTaken_J13_bitCount_95d88
set_option maxRecDepth 20000 in
theorem ggX3_drop_X3_closeGap : GoodIn wsX3_drop wsX3_closeGap := goodIn_r _ [11, 6, 12, 13, 14, 15, 16, 17, 18, 19, 20, 21, 22] (by decide +kernel) (by decide +kernel)
set_option maxRecDepth 20000 in
theorem gX3_drop_X3_closeGap : GoodIn wsX3_drop (wsV RX3 36 RX3 yX3_closeGap wsX3_closeGap) := goodIn_app (goodIn_of _ (by decide +kernel)) ggX3_drop_X3_closeGap
