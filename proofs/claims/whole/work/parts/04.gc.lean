set_option maxRecDepth 20000 in
theorem ggX5_isNear_X5_in : GoodIn wsX5_isNear wsX5_in := goodIn_r _ [4] (by decide +kernel) (by decide +kernel)
set_option maxRecDepth 20000 in
theorem gX5_isNear_X5_in : GoodIn wsX5_isNear (va_wsS RX5 78 yX5_in wsX5_in) := goodIn_app (goodIn_of _ (by decide +kernel)) ggX5_isNear_X5_in
set_option maxRecDepth 20000 in
theorem ggX5_isPoint_X5_in : GoodIn wsX5_isPoint wsX5_in := goodIn_r _ [5] (by decide +kernel) (by decide +kernel)
set_option maxRecDepth 20000 in
theorem gX5_isPoint_X5_in : GoodIn wsX5_isPoint (va_wsS RX5 78 yX5_in wsX5_in) := goodIn_app (goodIn_of _ (by decide +kernel)) ggX5_isPoint_X5_in
set_option maxRecDepth 20000 in
theorem ggX5_isWish_X5_in : GoodIn wsX5_isWish wsX5_in := goodIn_r _ [5] (by decide +kernel) (by decide +kernel)
set_option maxRecDepth 20000 in
theorem gX5_isWish_X5_in : GoodIn wsX5_isWish (va_wsS RX5 78 yX5_in wsX5_in) := goodIn_app (goodIn_of _ (by decide +kernel)) ggX5_isWish_X5_in
set_option maxRecDepth 20000 in
theorem ggX5_solves_X5_holds : GoodIn wsX5_solves wsX5_holds := goodIn_r _ [15, 1, 2, 20, 21, 22, 23, 24, 25, 26, 27, 28, 29, 30, 31, 32, 33, 34, 35, 36, 37, 38, 39, 40, 41, 42, 43, 44, 45, 46, 47, 48] (by decide +kernel) (by decide +kernel)
set_option maxRecDepth 20000 in
theorem gX5_solves_X5_holds : GoodIn wsX5_solves (wsV RX5 88 RX5 yX5_holds wsX5_holds) := goodIn_app (goodIn_of _ (by decide +kernel)) ggX5_solves_X5_holds
set_option maxRecDepth 20000 in
theorem ggX5_solves_X5_ties : GoodIn wsX5_solves wsX5_ties := goodIn_r _ [19, 1, 2, 20, 21, 22, 23, 24, 25, 26, 27, 28, 29, 30, 31, 32, 33, 34, 35, 36, 37, 38, 39, 40, 41, 42, 43, 44, 45, 46, 47, 48] (by decide +kernel) (by decide +kernel)
set_option maxRecDepth 20000 in
theorem gX5_solves_X5_ties : GoodIn wsX5_solves (wsV RX5 92 RX5 yX5_ties wsX5_ties) := goodIn_app (goodIn_of _ (by decide +kernel)) ggX5_solves_X5_ties
set_option maxRecDepth 20000 in
theorem ggX5_point_X5_isNear : GoodIn wsX5_point wsX5_isNear := goodIn_r _ [8, 9, 10, 7, 11] (by decide +kernel) (by decide +kernel)
set_option maxRecDepth 20000 in
theorem gX5_point_X5_isNear : GoodIn wsX5_point (va_wsS RX5 96 yX5_isNear wsX5_isNear) := goodIn_app (goodIn_of _ (by decide +kernel)) ggX5_point_X5_isNear
set_option maxRecDepth 20000 in
theorem ggX5_point_X5_refuses : GoodIn wsX5_point wsX5_refuses := goodIn_r _ [15, 1, 16, 17, 18, 19, 20, 21, 22, 23, 24, 25, 26, 27, 28, 29, 30, 31, 32, 33, 34, 35, 36, 37, 38, 39, 40, 41, 42, 43, 44] (by decide +kernel) (by decide +kernel)
set_option maxRecDepth 20000 in
theorem gX5_point_X5_refuses : GoodIn wsX5_point (wsV RX5 100 RX5 yX5_refuses wsX5_refuses) := goodIn_app (goodIn_of _ (by decide +kernel)) ggX5_point_X5_refuses
set_option maxRecDepth 20000 in
theorem ggX5_hint_X5_isPoint : GoodIn wsX5_hint wsX5_isPoint := goodIn_r _ [8, 9, 10, 11, 7, 12, 16, 17, 18, 19, 20, 21, 22, 23, 24, 25, 26, 27, 28, 29, 30, 31, 32, 33, 34, 35, 36, 37, 38, 39, 40, 41, 42, 43, 44] (by decide +kernel) (by decide +kernel)
set_option maxRecDepth 20000 in
theorem gX5_hint_X5_isPoint : GoodIn wsX5_hint (wsV RX5 104 RX5 yX5_isPoint wsX5_isPoint) := goodIn_app (goodIn_of _ (by decide +kernel)) ggX5_hint_X5_isPoint
set_option maxRecDepth 20000 in
theorem ggX5_hint_X5_isNear : GoodIn wsX5_hint wsX5_isNear := goodIn_r _ [15, 10, 11, 7, 12] (by decide +kernel) (by decide +kernel)
set_option maxRecDepth 20000 in
theorem gX5_hint_X5_isNear : GoodIn wsX5_hint (va_wsS RX5 96 yX5_isNear wsX5_isNear) := goodIn_app (goodIn_of _ (by decide +kernel)) ggX5_hint_X5_isNear
set_option maxRecDepth 20000 in
theorem ggX5_wish_X5_in : GoodIn wsX5_wish wsX5_in := goodIn_r _ [11] (by decide +kernel) (by decide +kernel)
set_option maxRecDepth 20000 in
theorem gX5_wish_X5_in : GoodIn wsX5_wish (va_wsS RX5 78 yX5_in wsX5_in) := goodIn_app (goodIn_of _ (by decide +kernel)) ggX5_wish_X5_in
set_option maxRecDepth 20000 in
theorem ggX5_wish_X5_isNear : GoodIn wsX5_wish wsX5_isNear := goodIn_r _ [14, 8, 9, 10, 11] (by decide +kernel) (by decide +kernel)
set_option maxRecDepth 20000 in
theorem gX5_wish_X5_isNear : GoodIn wsX5_wish (va_wsS RX5 96 yX5_isNear wsX5_isNear) := goodIn_app (goodIn_of _ (by decide +kernel)) ggX5_wish_X5_isNear
set_option maxRecDepth 20000 in
theorem ggX5_wish_X5_refuses : GoodIn wsX5_wish wsX5_refuses := goodIn_r _ [18, 1, 24, 25, 26, 27, 28, 29, 30, 31, 32, 33, 34, 35, 36, 37, 38, 39, 40, 41, 42, 43, 44, 45, 46, 47, 48, 49, 50, 51, 52] (by decide +kernel) (by decide +kernel)
set_option maxRecDepth 20000 in
theorem gX5_wish_X5_refuses : GoodIn wsX5_wish (wsV RX5 100 RX5 yX5_refuses wsX5_refuses) := goodIn_app (goodIn_of _ (by decide +kernel)) ggX5_wish_X5_refuses
set_option maxRecDepth 20000 in
theorem ggX5_wish_X5_isPoint : GoodIn wsX5_wish wsX5_isPoint := goodIn_r _ [22, 23, 8, 9, 10, 11, 24, 25, 26, 27, 28, 29, 30, 31, 32, 33, 34, 35, 36, 37, 38, 39, 40, 41, 42, 43, 44, 45, 46, 47, 48, 49, 50, 51, 52] (by decide +kernel) (by decide +kernel)
set_option maxRecDepth 20000 in
theorem gX5_wish_X5_isPoint : GoodIn wsX5_wish (wsV RX5 104 RX5 yX5_isPoint wsX5_isPoint) := goodIn_app (goodIn_of _ (by decide +kernel)) ggX5_wish_X5_isPoint
set_option maxRecDepth 20000 in
theorem ggX5_remove_X5_isWish : GoodIn wsX5_remove wsX5_isWish := goodIn_r _ [14, 3, 15, 16, 13, 17, 38, 39, 40, 41, 42, 43, 44, 45, 46, 47, 48, 49, 50, 51, 52, 53, 54, 55, 56, 57, 58, 59, 60, 61, 62, 63, 64, 65, 66] (by decide +kernel) (by decide +kernel)
set_option maxRecDepth 20000 in
theorem gX5_remove_X5_isWish : GoodIn wsX5_remove (wsV RX5 107 RX5 yX5_isWish wsX5_isWish) := goodIn_app (goodIn_of _ (by decide +kernel)) ggX5_remove_X5_isWish
set_option maxRecDepth 20000 in
theorem ggX5_remove_X5_refuses : GoodIn wsX5_remove wsX5_refuses := goodIn_r _ [21, 1, 38, 39, 40, 41, 42, 43, 44, 45, 46, 47, 48, 49, 50, 51, 52, 53, 54, 55, 56, 57, 58, 59, 60, 61, 62, 63, 64, 65, 66] (by decide +kernel) (by decide +kernel)
set_option maxRecDepth 20000 in
theorem gX5_remove_X5_refuses : GoodIn wsX5_remove (wsV RX5 100 RX5 yX5_refuses wsX5_refuses) := goodIn_app (goodIn_of _ (by decide +kernel)) ggX5_remove_X5_refuses
set_option maxRecDepth 20000 in
theorem ggX5_remove_X5_solves : GoodIn wsX5_remove wsX5_solves := goodIn_r _ [25, 26, 27, 3, 5, 4, 2, 6, 7, 28, 29, 30, 31, 32, 13, 33, 34, 35, 36, 37, 38, 39, 40, 41, 42, 43, 44, 45, 46, 47, 48, 49, 50, 51, 52, 53, 54, 55, 56, 57, 58, 59, 60, 61, 62, 63, 64, 65, 66] (by decide +kernel) (by decide +kernel)
set_option maxRecDepth 20000 in
theorem gX5_remove_X5_solves : GoodIn wsX5_remove (wsV RX5 110 RX5 yX5_solves wsX5_solves) := goodIn_app (goodIn_of _ (by decide +kernel)) ggX5_remove_X5_solves
set_option maxRecDepth 20000 in
theorem ggX5_type_X5_isWish : GoodIn wsX5_type wsX5_isWish := goodIn_r _ [8, 9, 10, 11, 7, 12, 20, 21, 22, 23, 24, 25, 26, 27, 28, 29, 30, 31, 32, 33, 34, 35, 36, 37, 38, 39, 40, 41, 42, 43, 44, 45, 46, 47, 48] (by decide +kernel) (by decide +kernel)
set_option maxRecDepth 20000 in
theorem gX5_type_X5_isWish : GoodIn wsX5_type (wsV RX5 107 RX5 yX5_isWish wsX5_isWish) := goodIn_app (goodIn_of _ (by decide +kernel)) ggX5_type_X5_isWish
set_option maxRecDepth 20000 in
theorem ggX5_type_X5_refuses : GoodIn wsX5_type wsX5_refuses := goodIn_r _ [16, 1, 20, 21, 22, 23, 24, 25, 26, 27, 28, 29, 30, 31, 32, 33, 34, 35, 36, 37, 38, 39, 40, 41, 42, 43, 44, 45, 46, 47, 48] (by decide +kernel) (by decide +kernel)
set_option maxRecDepth 20000 in
theorem gX5_type_X5_refuses : GoodIn wsX5_type (wsV RX5 100 RX5 yX5_refuses wsX5_refuses) := goodIn_app (goodIn_of _ (by decide +kernel)) ggX5_type_X5_refuses
set_option maxRecDepth 20000 in
theorem ggX5_type_X5_isNear : GoodIn wsX5_type wsX5_isNear := goodIn_r _ [19, 10, 11, 7, 12] (by decide +kernel) (by decide +kernel)
set_option maxRecDepth 20000 in
theorem gX5_type_X5_isNear : GoodIn wsX5_type (va_wsS RX5 96 yX5_isNear wsX5_isNear) := goodIn_app (goodIn_of _ (by decide +kernel)) ggX5_type_X5_isNear
set_option maxRecDepth 20000 in
theorem ggX5_state_X5_isWish : GoodIn wsX5_state wsX5_isWish := goodIn_r _ [7, 8, 9, 10, 6, 11, 36, 37, 38, 39, 40, 41, 42, 43, 44, 45, 46, 47, 48, 49, 50, 51, 52, 53, 54, 55, 56, 57, 58, 59, 60, 61, 62, 63, 64] (by decide +kernel) (by decide +kernel)
set_option maxRecDepth 20000 in
theorem gX5_state_X5_isWish : GoodIn wsX5_state (wsV RX5 107 RX5 yX5_isWish wsX5_isWish) := goodIn_app (goodIn_of _ (by decide +kernel)) ggX5_state_X5_isWish
set_option maxRecDepth 20000 in
theorem ggX5_state_X5_refuses : GoodIn wsX5_state wsX5_refuses := goodIn_r _ [15, 1, 36, 37, 38, 39, 40, 41, 42, 43, 44, 45, 46, 47, 48, 49, 50, 51, 52, 53, 54, 55, 56, 57, 58, 59, 60, 61, 62, 63, 64] (by decide +kernel) (by decide +kernel)
set_option maxRecDepth 20000 in
theorem gX5_state_X5_refuses : GoodIn wsX5_state (wsV RX5 100 RX5 yX5_refuses wsX5_refuses) := goodIn_app (goodIn_of _ (by decide +kernel)) ggX5_state_X5_refuses
set_option maxRecDepth 20000 in
theorem ggX5_state_X5_solves : GoodIn wsX5_state wsX5_solves := goodIn_r _ [19, 20, 21, 8, 22, 23, 2, 24, 25, 26, 27, 28, 29, 30, 6, 31, 32, 33, 34, 35, 36, 37, 38, 39, 40, 41, 42, 43, 44, 45, 46, 47, 48, 49, 50, 51, 52, 53, 54, 55, 56, 57, 58, 59, 60, 61, 62, 63, 64] (by decide +kernel) (by decide +kernel)
set_option maxRecDepth 20000 in
theorem gX5_state_X5_solves : GoodIn wsX5_state (wsV RX5 110 RX5 yX5_solves wsX5_solves) := goodIn_app (goodIn_of _ (by decide +kernel)) ggX5_state_X5_solves
set_option maxRecDepth 20000 in
theorem ggX5_freedom_X5_solves : GoodIn wsX5_freedom wsX5_solves := goodIn_r _ [8, 3, 9, 10, 11, 12, 13, 14, 15, 16, 17, 18, 19, 20, 7, 21, 22, 23, 24, 25, 26, 27, 28, 29, 30, 31, 32, 33, 34, 35, 36, 37, 38, 39, 40, 41, 42, 43, 44, 45, 46, 47, 48, 49, 50, 51, 52, 53, 54] (by decide +kernel) (by decide +kernel)
set_option maxRecDepth 20000 in
theorem gX5_freedom_X5_solves : GoodIn wsX5_freedom (wsV RX5 110 RX5 yX5_solves wsX5_solves) := goodIn_app (goodIn_of _ (by decide +kernel)) ggX5_freedom_X5_solves
set_option maxRecDepth 20000 in
theorem ggX5_x_X5_isPoint : GoodIn wsX5_x wsX5_isPoint := goodIn_r _ [6, 7, 8, 9, 5, 10, 41, 42, 43, 44, 45, 46, 47, 48, 49, 50, 51, 52, 53, 54, 55, 56, 57, 58, 59, 60, 61, 62, 63, 64, 65, 66, 67, 68, 69] (by decide +kernel) (by decide +kernel)
set_option maxRecDepth 20000 in
theorem gX5_x_X5_isPoint : GoodIn wsX5_x (wsV RX5 104 RX5 yX5_isPoint wsX5_isPoint) := goodIn_app (goodIn_of _ (by decide +kernel)) ggX5_x_X5_isPoint
set_option maxRecDepth 20000 in
theorem ggX5_x_X5_refuses : GoodIn wsX5_x wsX5_refuses := goodIn_r _ [14, 1, 41, 42, 43, 44, 45, 46, 47, 48, 49, 50, 51, 52, 53, 54, 55, 56, 57, 58, 59, 60, 61, 62, 63, 64, 65, 66, 67, 68, 69] (by decide +kernel) (by decide +kernel)
set_option maxRecDepth 20000 in
theorem gX5_x_X5_refuses : GoodIn wsX5_x (wsV RX5 100 RX5 yX5_refuses wsX5_refuses) := goodIn_app (goodIn_of _ (by decide +kernel)) ggX5_x_X5_refuses
set_option maxRecDepth 20000 in
theorem ggX5_x_X5_solves : GoodIn wsX5_x wsX5_solves := goodIn_r _ [18, 19, 20, 21, 22, 23, 24, 25, 26, 27, 28, 29, 30, 31, 5, 32, 33, 34, 35, 36, 41, 42, 43, 44, 45, 46, 47, 48, 49, 50, 51, 52, 53, 54, 55, 56, 57, 58, 59, 60, 61, 62, 63, 64, 65, 66, 67, 68, 69] (by decide +kernel) (by decide +kernel)
set_option maxRecDepth 20000 in
theorem gX5_x_X5_solves : GoodIn wsX5_x (wsV RX5 110 RX5 yX5_solves wsX5_solves) := goodIn_app (goodIn_of _ (by decide +kernel)) ggX5_x_X5_solves
set_option maxRecDepth 20000 in
theorem ggX5_x_X5_placeOf : GoodIn wsX5_x wsX5_placeOf := goodIn_r _ [40, 19, 20, 27, 28, 41, 42, 43, 44, 45, 46, 47, 48, 49, 50, 51, 52, 53, 54, 55, 56, 57, 58, 59, 60, 61, 62, 63, 64, 65, 66, 67, 68, 69] (by decide +kernel) (by decide +kernel)
set_option maxRecDepth 20000 in
theorem gX5_x_X5_placeOf : GoodIn wsX5_x (wsV RX5 113 RX5 yX5_placeOf wsX5_placeOf) := goodIn_app (goodIn_of _ (by decide +kernel)) ggX5_x_X5_placeOf
set_option maxRecDepth 20000 in
theorem ggX5_y_X5_isPoint : GoodIn wsX5_y wsX5_isPoint := goodIn_r _ [6, 7, 8, 9, 5, 10, 41, 42, 43, 44, 45, 46, 47, 48, 49, 50, 51, 52, 53, 54, 55, 56, 57, 58, 59, 60, 61, 62, 63, 64, 65, 66, 67, 68, 69] (by decide +kernel) (by decide +kernel)
set_option maxRecDepth 20000 in
theorem gX5_y_X5_isPoint : GoodIn wsX5_y (wsV RX5 104 RX5 yX5_isPoint wsX5_isPoint) := goodIn_app (goodIn_of _ (by decide +kernel)) ggX5_y_X5_isPoint
set_option maxRecDepth 20000 in
theorem ggX5_y_X5_refuses : GoodIn wsX5_y wsX5_refuses := goodIn_r _ [14, 1, 41, 42, 43, 44, 45, 46, 47, 48, 49, 50, 51, 52, 53, 54, 55, 56, 57, 58, 59, 60, 61, 62, 63, 64, 65, 66, 67, 68, 69] (by decide +kernel) (by decide +kernel)
set_option maxRecDepth 20000 in
theorem gX5_y_X5_refuses : GoodIn wsX5_y (wsV RX5 100 RX5 yX5_refuses wsX5_refuses) := goodIn_app (goodIn_of _ (by decide +kernel)) ggX5_y_X5_refuses
set_option maxRecDepth 20000 in
theorem ggX5_y_X5_solves : GoodIn wsX5_y wsX5_solves := goodIn_r _ [18, 19, 20, 21, 22, 23, 24, 25, 26, 27, 28, 29, 30, 31, 5, 32, 33, 34, 35, 36, 41, 42, 43, 44, 45, 46, 47, 48, 49, 50, 51, 52, 53, 54, 55, 56, 57, 58, 59, 60, 61, 62, 63, 64, 65, 66, 67, 68, 69] (by decide +kernel) (by decide +kernel)
set_option maxRecDepth 20000 in
theorem gX5_y_X5_solves : GoodIn wsX5_y (wsV RX5 110 RX5 yX5_solves wsX5_solves) := goodIn_app (goodIn_of _ (by decide +kernel)) ggX5_y_X5_solves
set_option maxRecDepth 20000 in
theorem ggX5_y_X5_placeOf : GoodIn wsX5_y wsX5_placeOf := goodIn_r _ [40, 19, 20, 27, 28, 41, 42, 43, 44, 45, 46, 47, 48, 49, 50, 51, 52, 53, 54, 55, 56, 57, 58, 59, 60, 61, 62, 63, 64, 65, 66, 67, 68, 69] (by decide +kernel) (by decide +kernel)
set_option maxRecDepth 20000 in
theorem gX5_y_X5_placeOf : GoodIn wsX5_y (wsV RX5 113 RX5 yX5_placeOf wsX5_placeOf) := goodIn_app (goodIn_of _ (by decide +kernel)) ggX5_y_X5_placeOf
set_option maxRecDepth 20000 in
theorem ggX5_tell_X5_in : GoodIn wsX5_tell wsX5_in := goodIn_r _ [9] (by decide +kernel) (by decide +kernel)
set_option maxRecDepth 20000 in
theorem gX5_tell_X5_in : GoodIn wsX5_tell (va_wsS RX5 78 yX5_in wsX5_in) := goodIn_app (goodIn_of _ (by decide +kernel)) ggX5_tell_X5_in
set_option maxRecDepth 20000 in
theorem ggX5_tell_X5_isNear : GoodIn wsX5_tell wsX5_isNear := goodIn_r _ [12, 6, 7, 8, 9] (by decide +kernel) (by decide +kernel)
set_option maxRecDepth 20000 in
theorem gX5_tell_X5_isNear : GoodIn wsX5_tell (va_wsS RX5 96 yX5_isNear wsX5_isNear) := goodIn_app (goodIn_of _ (by decide +kernel)) ggX5_tell_X5_isNear
set_option maxRecDepth 20000 in
theorem ggX5_tell_X5_refuses : GoodIn wsX5_tell wsX5_refuses := goodIn_r _ [16, 1, 21, 22, 23, 24, 25, 26, 27, 28, 29, 30, 31, 32, 33, 34, 35, 36, 37, 38, 39, 40, 41, 42, 43, 44, 45, 46, 47, 48, 49] (by decide +kernel) (by decide +kernel)
set_option maxRecDepth 20000 in
theorem gX5_tell_X5_refuses : GoodIn wsX5_tell (wsV RX5 100 RX5 yX5_refuses wsX5_refuses) := goodIn_app (goodIn_of _ (by decide +kernel)) ggX5_tell_X5_refuses
set_option maxRecDepth 20000 in
theorem ggX5_tell_X5_isWish : GoodIn wsX5_tell wsX5_isWish := goodIn_r _ [20, 5, 6, 7, 8, 9, 21, 22, 23, 24, 25, 26, 27, 28, 29, 30, 31, 32, 33, 34, 35, 36, 37, 38, 39, 40, 41, 42, 43, 44, 45, 46, 47, 48, 49] (by decide +kernel) (by decide +kernel)
set_option maxRecDepth 20000 in
theorem gX5_tell_X5_isWish : GoodIn wsX5_tell (wsV RX5 107 RX5 yX5_isWish wsX5_isWish) := goodIn_app (goodIn_of _ (by decide +kernel)) ggX5_tell_X5_isWish
set_option maxRecDepth 20000 in
theorem ggX5_choose_X5_in : GoodIn wsX5_choose wsX5_in := goodIn_r _ [9] (by decide +kernel) (by decide +kernel)
set_option maxRecDepth 20000 in
theorem gX5_choose_X5_in : GoodIn wsX5_choose (va_wsS RX5 78 yX5_in wsX5_in) := goodIn_app (goodIn_of _ (by decide +kernel)) ggX5_choose_X5_in
set_option maxRecDepth 20000 in
theorem ggX5_choose_X5_refuses : GoodIn wsX5_choose wsX5_refuses := goodIn_r _ [13, 1, 14, 15, 16, 17, 18, 19, 20, 21, 22, 23, 24, 25, 26, 27, 28, 29, 30, 31, 32, 33, 34, 35, 36, 37, 38, 39, 40, 41, 42] (by decide +kernel) (by decide +kernel)
set_option maxRecDepth 20000 in
theorem gX5_choose_X5_refuses : GoodIn wsX5_choose (wsV RX5 100 RX5 yX5_refuses wsX5_refuses) := goodIn_app (goodIn_of _ (by decide +kernel)) ggX5_choose_X5_refuses
set_option maxRecDepth 20000 in
theorem ggX5_sides_X5_placeOf : GoodIn wsX5_sides wsX5_placeOf := goodIn_r _ [6, 7, 8, 9, 10, 11, 12, 13, 14, 15, 16, 17, 18, 19, 20, 21, 22, 23, 24, 25, 26, 27, 28, 29, 30, 31, 32, 33, 34, 35, 36, 37, 38, 39] (by decide +kernel) (by decide +kernel)
set_option maxRecDepth 20000 in
theorem gX5_sides_X5_placeOf : GoodIn wsX5_sides (wsV RX5 113 RX5 yX5_placeOf wsX5_placeOf) := goodIn_app (goodIn_of _ (by decide +kernel)) ggX5_sides_X5_placeOf
set_option maxRecDepth 20000 in
theorem ggX5_builds_X5_solves : GoodIn wsX5_builds wsX5_solves := goodIn_r _ [16, 17, 18, 19, 20, 21, 22, 23, 24, 25, 26, 27, 28, 29, 15, 30, 31, 32, 33, 34, 52, 53, 54, 55, 56, 57, 58, 59, 60, 61, 62, 63, 64, 65, 66, 67, 68, 69, 70, 71, 72, 73, 74, 75, 76, 77, 78, 79, 80] (by decide +kernel) (by decide +kernel)
set_option maxRecDepth 20000 in
theorem gX5_builds_X5_solves : GoodIn wsX5_builds (wsV RX5 110 RX5 yX5_solves wsX5_solves) := goodIn_app (goodIn_of _ (by decide +kernel)) ggX5_builds_X5_solves
set_option maxRecDepth 20000 in
theorem ggX5_builds_X5_sides : GoodIn wsX5_builds wsX5_sides := goodIn_r _ [38, 39, 40, 41, 42, 15, 43, 17, 18, 25, 26, 52, 53, 54, 55, 56, 57, 58, 59, 60, 61, 62, 63, 64, 65, 66, 67, 68, 69, 70, 71, 72, 73, 74, 75, 76, 77, 78, 79, 80] (by decide +kernel) (by decide +kernel)
set_option maxRecDepth 20000 in
theorem gX5_builds_X5_sides : GoodIn wsX5_builds (wsV RX5 127 RX5 yX5_sides wsX5_sides) := goodIn_app (goodIn_of _ (by decide +kernel)) ggX5_builds_X5_sides
set_option maxRecDepth 20000 in
theorem ggX5_builds_X5_isFlat : GoodIn wsX5_builds wsX5_isFlat := goodIn_r _ [47, 39, 52, 53, 54, 55, 56, 57, 58, 59, 60, 61, 62, 63, 64, 65, 66, 67, 68, 69, 70, 71, 72, 73, 74, 75, 76, 77, 78, 79, 80] (by decide +kernel) (by decide +kernel)
set_option maxRecDepth 20000 in
theorem gX5_builds_X5_isFlat : GoodIn wsX5_builds (wsV RX5 131 RX5 yX5_isFlat wsX5_isFlat) := goodIn_app (goodIn_of _ (by decide +kernel)) ggX5_builds_X5_isFlat
set_option maxRecDepth 20000 in
theorem ggX5_builds_X5_lies : GoodIn wsX5_builds wsX5_lies := goodIn_r _ [51, 39, 52, 53, 54, 55, 56, 57, 58, 59, 60, 61, 62, 63, 64, 65, 66, 67, 68, 69, 70, 71, 72, 73, 74, 75, 76, 77, 78, 79, 80] (by decide +kernel) (by decide +kernel)
set_option maxRecDepth 20000 in
theorem gX5_builds_X5_lies : GoodIn wsX5_builds (wsV RX5 137 RX5 yX5_lies wsX5_lies) := goodIn_app (goodIn_of _ (by decide +kernel)) ggX5_builds_X5_lies
set_option maxRecDepth 20000 in
theorem ggX5_setBase_X5_isPoint : GoodIn wsX5_setBase wsX5_isPoint := goodIn_r _ [11, 12, 13, 14, 10, 15, 65, 66, 67, 68, 69, 70, 71, 72, 73, 74, 75, 76, 77, 78, 79, 80, 81, 82, 83, 84, 85, 86, 87, 88, 89, 90, 91, 92, 93] (by decide +kernel) (by decide +kernel)
set_option maxRecDepth 20000 in
theorem gX5_setBase_X5_isPoint : GoodIn wsX5_setBase (wsV RX5 104 RX5 yX5_isPoint wsX5_isPoint) := goodIn_app (goodIn_of _ (by decide +kernel)) ggX5_setBase_X5_isPoint
set_option maxRecDepth 20000 in
theorem ggX5_setBase_X5_in : GoodIn wsX5_setBase wsX5_in := goodIn_r _ [15] (by decide +kernel) (by decide +kernel)
set_option maxRecDepth 20000 in
theorem gX5_setBase_X5_in : GoodIn wsX5_setBase (va_wsS RX5 78 yX5_in wsX5_in) := goodIn_app (goodIn_of _ (by decide +kernel)) ggX5_setBase_X5_in
set_option maxRecDepth 20000 in
theorem ggX5_setBase_X5_builds : GoodIn wsX5_setBase wsX5_builds := goodIn_r _ [19, 2, 3, 4, 6, 20, 21, 22, 23, 24, 25, 5, 26, 27, 28, 10, 29, 30, 31, 32, 33, 34, 35, 36, 37, 38, 39, 40, 41, 42, 43, 44, 45, 46, 47, 48, 49, 50, 51, 52, 53, 54, 55, 56, 57, 58, 59, 60, 61, 62, 63, 64, 65, 66, 67, 68, 69, 70, 71, 72, 73, 74, 75, 76, 77, 78, 79, 80, 81, 82, 83, 84, 85, 86, 87, 88, 89, 90, 91, 92, 93] (by decide +kernel) (by decide +kernel)
set_option maxRecDepth 20000 in
theorem gX5_setBase_X5_builds : GoodIn wsX5_setBase (wsV RX5 144 RX5 yX5_builds wsX5_builds) := goodIn_app (goodIn_of _ (by decide +kernel)) ggX5_setBase_X5_builds
set_option maxRecDepth 20000 in
theorem ggX5_pocket_X5_isPoint : GoodIn wsX5_pocket wsX5_isPoint := goodIn_r _ [12, 13, 14, 15, 11, 16, 21, 22, 23, 24, 25, 26, 27, 28, 29, 30, 31, 32, 33, 34, 35, 36, 37, 38, 39, 40, 41, 42, 43, 44, 45, 46, 47, 48, 49] (by decide +kernel) (by decide +kernel)
set_option maxRecDepth 20000 in
theorem gX5_pocket_X5_isPoint : GoodIn wsX5_pocket (wsV RX5 104 RX5 yX5_isPoint wsX5_isPoint) := goodIn_app (goodIn_of _ (by decide +kernel)) ggX5_pocket_X5_isPoint
set_option maxRecDepth 20000 in
theorem ggX5_pocket_X5_in : GoodIn wsX5_pocket wsX5_in := goodIn_r _ [16] (by decide +kernel) (by decide +kernel)
set_option maxRecDepth 20000 in
theorem gX5_pocket_X5_in : GoodIn wsX5_pocket (va_wsS RX5 78 yX5_in wsX5_in) := goodIn_app (goodIn_of _ (by decide +kernel)) ggX5_pocket_X5_in
set_option maxRecDepth 20000 in
theorem ggX5_pocket_X5_refuses : GoodIn wsX5_pocket wsX5_refuses := goodIn_r _ [20, 1, 21, 22, 23, 24, 25, 26, 27, 28, 29, 30, 31, 32, 33, 34, 35, 36, 37, 38, 39, 40, 41, 42, 43, 44, 45, 46, 47, 48, 49] (by decide +kernel) (by decide +kernel)
set_option maxRecDepth 20000 in
theorem gX5_pocket_X5_refuses : GoodIn wsX5_pocket (wsV RX5 100 RX5 yX5_refuses wsX5_refuses) := goodIn_app (goodIn_of _ (by decide +kernel)) ggX5_pocket_X5_refuses
set_option maxRecDepth 20000 in
theorem ggX5_fails_X5_in : GoodIn wsX5_fails wsX5_in := goodIn_r _ [7] (by decide +kernel) (by decide +kernel)
set_option maxRecDepth 20000 in
theorem gX5_fails_X5_in : GoodIn wsX5_fails (va_wsS RX5 78 yX5_in wsX5_in) := goodIn_app (goodIn_of _ (by decide +kernel)) ggX5_fails_X5_in
set_option maxRecDepth 20000 in
theorem ggX5_fails_X5_builds : GoodIn wsX5_fails wsX5_builds := goodIn_r _ [11, 12, 13, 14, 3, 1, 15, 16, 17, 18, 19, 20, 21, 22, 23, 6, 24, 25, 26, 27, 28, 29, 30, 31, 32, 33, 34, 35, 36, 37, 38, 39, 40, 41, 42, 43, 44, 45, 46, 47, 48, 49, 50, 51, 52, 53, 54, 55, 56, 57, 58, 59, 60, 61, 62, 63, 64, 65, 66, 67, 68, 69, 70, 71, 72, 73, 74, 75, 76, 77, 78, 79, 80, 81, 82, 83, 84, 85, 86, 87, 88] (by decide +kernel) (by decide +kernel)
set_option maxRecDepth 20000 in
theorem gX5_fails_X5_builds : GoodIn wsX5_fails (wsV RX5 144 RX5 yX5_builds wsX5_builds) := goodIn_app (goodIn_of _ (by decide +kernel)) ggX5_fails_X5_builds
set_option maxRecDepth 20000 in
theorem ggX5_out_X5_sorts : GoodIn wsX5_out wsX5_sorts := goodIn_r _ [12] (by decide +kernel) (by decide +kernel)
set_option maxRecDepth 20000 in
theorem gX5_out_X5_sorts : GoodIn wsX5_out (va_wsS RX5 147 yX5_sorts wsX5_sorts) := goodIn_app (goodIn_of _ (by decide +kernel)) ggX5_out_X5_sorts
set_option maxRecDepth 20000 in
theorem ggX5_out_X5_isOut : GoodIn wsX5_out wsX5_isOut := goodIn_r _ [16, 1, 4, 2, 7, 8, 17, 18, 19, 20, 21, 22, 23, 24, 25, 26, 27, 28, 29, 30, 31, 32, 33, 34, 35, 36, 37, 38, 39, 40, 41, 42, 43, 44, 45] (by decide +kernel) (by decide +kernel)
set_option maxRecDepth 20000 in
theorem gX5_out_X5_isOut : GoodIn wsX5_out (wsV RX5 151 RX5 yX5_isOut wsX5_isOut) := goodIn_app (goodIn_of _ (by decide +kernel)) ggX5_out_X5_isOut
set_option maxRecDepth 20000 in
theorem ggX5_volume_X5_builds : GoodIn wsX5_volume wsX5_builds := goodIn_r _ [7, 8, 9, 10, 2, 11, 12, 13, 14, 15, 16, 17, 18, 19, 20, 6, 21, 22, 23, 24, 25, 26, 27, 28, 29, 30, 31, 32, 33, 34, 35, 36, 37, 38, 39, 40, 41, 42, 43, 44, 45, 46, 47, 48, 49, 50, 51, 52, 53, 54, 55, 56, 75, 76, 77, 78, 79, 80, 81, 82, 83, 84, 85, 86, 87, 88, 89, 90, 91, 92, 93, 94, 95, 96, 97, 98, 99, 100, 101, 102, 103] (by decide +kernel) (by decide +kernel)
set_option maxRecDepth 20000 in
theorem gX5_volume_X5_builds : GoodIn wsX5_volume (wsV RX5 144 RX5 yX5_builds wsX5_builds) := goodIn_app (goodIn_of _ (by decide +kernel)) ggX5_volume_X5_builds
set_option maxRecDepth 20000 in
theorem ggX5_volume_X5_whole : GoodIn wsX5_volume wsX5_whole := goodIn_r _ [60, 44, 17, 75, 76, 77, 78, 79, 80, 81, 82, 83, 84, 85, 86, 87, 88, 89, 90, 91, 92, 93, 94, 95, 96, 97, 98, 99, 100, 101, 102, 103] (by decide +kernel) (by decide +kernel)
set_option maxRecDepth 20000 in
theorem gX5_volume_X5_whole : GoodIn wsX5_volume (wsV RX5 154 RX5 yX5_whole wsX5_whole) := goodIn_app (goodIn_of _ (by decide +kernel)) ggX5_volume_X5_whole
set_option maxRecDepth 20000 in
theorem ggX5_volume_X5_out : GoodIn wsX5_volume wsX5_out := goodIn_r _ [64, 11, 2, 65, 44, 66, 67, 15, 16, 68, 69, 6, 70, 71, 72, 73, 74, 75, 76, 77, 78, 79, 80, 81, 82, 83, 84, 85, 86, 87, 88, 89, 90, 91, 92, 93, 94, 95, 96, 97, 98, 99, 100, 101, 102, 103] (by decide +kernel) (by decide +kernel)
set_option maxRecDepth 20000 in
theorem gX5_volume_X5_out : GoodIn wsX5_volume (wsV RX5 158 RX5 yX5_out wsX5_out) := goodIn_app (goodIn_of _ (by decide +kernel)) ggX5_volume_X5_out
set_option maxRecDepth 20000 in
theorem ggX5_price_X5_builds : GoodIn wsX5_price wsX5_builds := goodIn_r _ [9, 10, 11, 12, 2, 3, 13, 14, 15, 16, 4, 17, 18, 19, 20, 8, 21, 22, 23, 24, 25, 26, 27, 28, 29, 30, 31, 32, 33, 34, 35, 36, 37, 38, 39, 40, 41, 42, 43, 44, 45, 46, 47, 48, 49, 50, 51, 52, 53, 54, 55, 56, 75, 76, 77, 78, 79, 80, 81, 82, 83, 84, 85, 86, 87, 88, 89, 90, 91, 92, 93, 94, 95, 96, 97, 98, 99, 100, 101, 102, 103] (by decide +kernel) (by decide +kernel)
set_option maxRecDepth 20000 in
theorem gX5_price_X5_builds : GoodIn wsX5_price (wsV RX5 144 RX5 yX5_builds wsX5_builds) := goodIn_app (goodIn_of _ (by decide +kernel)) ggX5_price_X5_builds
set_option maxRecDepth 20000 in
theorem ggX5_price_X5_whole : GoodIn wsX5_price wsX5_whole := goodIn_r _ [60, 44, 17, 75, 76, 77, 78, 79, 80, 81, 82, 83, 84, 85, 86, 87, 88, 89, 90, 91, 92, 93, 94, 95, 96, 97, 98, 99, 100, 101, 102, 103] (by decide +kernel) (by decide +kernel)
set_option maxRecDepth 20000 in
theorem gX5_price_X5_whole : GoodIn wsX5_price (wsV RX5 154 RX5 yX5_whole wsX5_whole) := goodIn_app (goodIn_of _ (by decide +kernel)) ggX5_price_X5_whole
set_option maxRecDepth 20000 in
theorem ggX5_price_X5_out : GoodIn wsX5_price wsX5_out := goodIn_r _ [64, 3, 2, 65, 44, 66, 67, 16, 4, 68, 69, 8, 70, 71, 72, 73, 74, 75, 76, 77, 78, 79, 80, 81, 82, 83, 84, 85, 86, 87, 88, 89, 90, 91, 92, 93, 94, 95, 96, 97, 98, 99, 100, 101, 102, 103] (by decide +kernel) (by decide +kernel)
set_option maxRecDepth 20000 in
theorem gX5_price_X5_out : GoodIn wsX5_price (wsV RX5 158 RX5 yX5_out wsX5_out) := goodIn_app (goodIn_of _ (by decide +kernel)) ggX5_price_X5_out
