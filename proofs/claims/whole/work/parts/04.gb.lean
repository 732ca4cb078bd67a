set_option maxRecDepth 20000 in
theorem ggX4_init_X0_init : GoodIn wsX4_init wsX0_init := goodIn_r _ [18, 19, 2, 3, 20, 21, 22, 23, 47, 48, 49, 50] (by decide +kernel) (by decide +kernel)
set_option maxRecDepth 20000 in
theorem gX4_init_X0_init_n11 : GoodIn wsX4_init (wsX0_init) := ggX4_init_X0_init
set_option maxRecDepth 20000 in
theorem ggX4_init_X3_init : GoodIn wsX4_init wsX3_init := goodIn_r _ [25, 26, 2, 3, 20, 27, 28, 29, 30, 31, 32, 33, 57, 58, 59, 60, 61, 62, 63] (by decide +kernel) (by decide +kernel)
set_option maxRecDepth 20000 in
theorem gX4_init_X3_init_n21 : GoodIn wsX4_init (wsX3_init) := ggX4_init_X3_init
set_option maxRecDepth 20000 in
theorem ggX4_init_X2_init : GoodIn wsX4_init wsX2_init := goodIn_r _ [36, 37, 2, 3, 38, 39, 20, 40, 41, 42, 43, 44, 45, 46, 64, 65, 66, 67, 68, 69, 70, 71, 72, 73, 74, 75, 76, 77, 78] (by decide +kernel) (by decide +kernel)
set_option maxRecDepth 20000 in
theorem gX4_init_X2_init : GoodIn wsX4_init (wsX2_init) := ggX4_init_X2_init
set_option maxRecDepth 20000 in
theorem ggX4_point_X4_requireReach : GoodIn wsX4_point wsX4_requireReach := goodIn_ca (goodIn_r _ [7, 8, 9] (by decide +kernel) (by decide +kernel)) (goodIn_sub (fun _ h => List.mem_cons_of_mem _ (List.mem_append_right _ h)) (by decide +kernel))
set_option maxRecDepth 20000 in
theorem gX4_point_X4_requireReach : GoodIn wsX4_point (va_wsS RX4 33 yX4_requireReach wsX4_requireReach) := goodIn_app (goodIn_of _ (by decide +kernel)) ggX4_point_X4_requireReach
set_option maxRecDepth 20000 in
theorem ggX4_point_X4_moveHint : GoodIn wsX4_point wsX4_moveHint := goodIn_r _ [13, 14, 15, 16, 17, 18, 19, 20, 21, 22, 23, 24, 25, 26, 27] (by decide +kernel) (by decide +kernel)
set_option maxRecDepth 20000 in
theorem gX4_point_X4_moveHint : GoodIn wsX4_point (wsV RX4 48 RX4 yX4_moveHint wsX4_moveHint) := goodIn_app (goodIn_of _ (by decide +kernel)) ggX4_point_X4_moveHint
set_option maxRecDepth 20000 in
theorem ggX4_hint_X4_requirePoint : GoodIn wsX4_hint wsX4_requirePoint := goodIn_ca (goodIn_r _ [5, 6, 7, 8, 22, 23, 24, 25, 26, 27] (by decide +kernel) (by decide +kernel)) (goodIn_sub (fun _ h => List.mem_cons_of_mem _ (List.mem_append_left _ (List.mem_append_right _ h))) (by decide +kernel))
set_option maxRecDepth 20000 in
theorem gX4_hint_X4_requirePoint : GoodIn wsX4_hint (wsV RX4 52 RX4 yX4_requirePoint wsX4_requirePoint) := goodIn_app (goodIn_of _ (by decide +kernel)) ggX4_hint_X4_requirePoint
set_option maxRecDepth 20000 in
theorem ggX4_hint_X4_requireReach : GoodIn wsX4_hint wsX4_requireReach := goodIn_ca (goodIn_r _ [11, 12, 13] (by decide +kernel) (by decide +kernel)) (goodIn_sub (fun _ h => List.mem_cons_of_mem _ (List.mem_append_right _ h)) (by decide +kernel))
set_option maxRecDepth 20000 in
theorem gX4_hint_X4_requireReach : GoodIn wsX4_hint (va_wsS RX4 33 yX4_requireReach wsX4_requireReach) := goodIn_app (goodIn_of _ (by decide +kernel)) ggX4_hint_X4_requireReach
set_option maxRecDepth 20000 in
theorem ggX4_hint_X4_moveHint : GoodIn wsX4_hint wsX4_moveHint := goodIn_r _ [17, 18, 19, 20, 21, 22, 23, 24, 25, 26, 27, 28, 29, 30, 31] (by decide +kernel) (by decide +kernel)
set_option maxRecDepth 20000 in
theorem gX4_hint_X4_moveHint : GoodIn wsX4_hint (wsV RX4 48 RX4 yX4_moveHint wsX4_moveHint) := goodIn_app (goodIn_of _ (by decide +kernel)) ggX4_hint_X4_moveHint
set_option maxRecDepth 20000 in
theorem ggX4_wish_X4_requireReach : GoodIn wsX4_wish wsX4_requireReach := goodIn_ca (goodIn_r _ [11, 1, 2] (by decide +kernel) (by decide +kernel)) (goodIn_sub (fun _ h => List.mem_cons_of_mem _ (List.mem_append_left _ (List.mem_append_left _ (List.mem_append_right _ h)))) (by decide +kernel))
set_option maxRecDepth 20000 in
theorem gX4_wish_X4_requireReach : GoodIn wsX4_wish (va_wsS RX4 33 yX4_requireReach wsX4_requireReach) := goodIn_app (goodIn_of _ (by decide +kernel)) ggX4_wish_X4_requireReach
set_option maxRecDepth 20000 in
theorem ggX4_wish_X4_requirePoint : GoodIn wsX4_wish wsX4_requirePoint := goodIn_ca (goodIn_r _ [15, 16, 17, 18, 30, 31, 32, 33, 34, 35] (by decide +kernel) (by decide +kernel)) (goodIn_sub (fun _ h => List.mem_cons_of_mem _ (List.mem_append_right _ h)) (by decide +kernel))
set_option maxRecDepth 20000 in
theorem gX4_wish_X4_requirePoint : GoodIn wsX4_wish (wsV RX4 52 RX4 yX4_requirePoint wsX4_requirePoint) := goodIn_app (goodIn_of _ (by decide +kernel)) ggX4_wish_X4_requirePoint
set_option maxRecDepth 20000 in
theorem ggX4_wish_X3_append : GoodIn wsX4_wish wsX3_append := goodIn_r _ [23, 24, 25, 26, 27, 28, 29, 36, 37, 38, 39, 40, 41, 42] (by decide +kernel) (by decide +kernel)
set_option maxRecDepth 20000 in
theorem gX4_wish_X3_append : GoodIn wsX4_wish (wsV RX4 71 RX3 yX3_append wsX3_append) := goodIn_app (goodIn_of _ (by decide +kernel)) ggX4_wish_X3_append
set_option maxRecDepth 20000 in
theorem ggX4_remove_X4_requireWish : GoodIn wsX4_remove wsX4_requireWish := goodIn_ca (goodIn_r _ [8, 9, 10, 1, 11, 76, 77, 78, 79, 80, 81, 82, 83, 84, 85, 86, 87, 88] (by decide +kernel) (by decide +kernel)) (goodIn_sub (fun _ h => List.mem_cons_of_mem _ (List.mem_append_right _ h)) (by decide +kernel))
set_option maxRecDepth 20000 in
theorem gX4_remove_X4_requireWish : GoodIn wsX4_remove (wsV RX4 75 RX4 yX4_requireWish wsX4_requireWish) := goodIn_app (goodIn_of _ (by decide +kernel)) ggX4_remove_X4_requireWish
set_option maxRecDepth 20000 in
theorem ggX4_remove_X4_settle : GoodIn wsX4_remove wsX4_settle := goodIn_r _ [15, 3, 16, 17, 1, 11, 2, 18, 19, 20, 21, 22, 23, 24, 25, 26, 27, 28, 7, 29, 30, 31, 32, 33, 34, 35, 36, 37, 38, 39, 40, 41, 42, 43, 44, 45, 46, 47, 48, 49, 50, 51, 52, 53, 54, 55, 56, 76, 77, 78, 79, 80, 81, 82, 83, 84, 85, 86, 87, 88, 89, 90, 91, 92] (by decide +kernel) (by decide +kernel)
set_option maxRecDepth 20000 in
theorem gX4_remove_X4_settle : GoodIn wsX4_remove (wsV RX4 78 RX4 yX4_settle wsX4_settle) := goodIn_app (goodIn_of _ (by decide +kernel)) ggX4_remove_X4_settle
set_option maxRecDepth 20000 in
theorem ggX4_remove_X3_drop : GoodIn wsX4_remove wsX3_drop := goodIn_r _ [61, 62, 63, 64, 65, 66, 67, 68, 69, 70, 60, 71, 72, 73, 74, 75, 82, 83, 84, 85, 86, 87, 88] (by decide +kernel) (by decide +kernel)
set_option maxRecDepth 20000 in
theorem gX4_remove_X3_drop : GoodIn wsX4_remove (wsV RX4 85 RX3 yX3_drop wsX3_drop) := goodIn_app (goodIn_of _ (by decide +kernel)) ggX4_remove_X3_drop
set_option maxRecDepth 20000 in
theorem ggX4_type_X4_requireWish : GoodIn wsX4_type wsX4_requireWish := goodIn_ca (goodIn_r _ [8, 9, 10, 1, 11, 24, 25, 26, 27, 28, 29, 30, 31, 32, 33, 34, 35, 36] (by decide +kernel) (by decide +kernel)) (goodIn_sub (fun _ h => List.mem_cons_of_mem _ (List.mem_append_left _ (List.mem_append_left _ (List.mem_append_right _ h)))) (by decide +kernel))
set_option maxRecDepth 20000 in
theorem gX4_type_X4_requireWish : GoodIn wsX4_type (wsV RX4 75 RX4 yX4_requireWish wsX4_requireWish) := goodIn_app (goodIn_of _ (by decide +kernel)) ggX4_type_X4_requireWish
set_option maxRecDepth 20000 in
theorem ggX4_type_X4_requireSized : GoodIn wsX4_type wsX4_requireSized := goodIn_ca (goodIn_r _ [15, 16, 17, 1, 18, 24, 25, 26, 27, 28, 29, 30, 31, 32, 33, 34, 35, 36] (by decide +kernel) (by decide +kernel)) (goodIn_sub (fun _ h => List.mem_cons_of_mem _ (List.mem_append_left _ (List.mem_append_right _ h))) (by decide +kernel))
set_option maxRecDepth 20000 in
theorem gX4_type_X4_requireSized : GoodIn wsX4_type (wsV RX4 88 RX4 yX4_requireSized wsX4_requireSized) := goodIn_app (goodIn_of _ (by decide +kernel)) ggX4_type_X4_requireSized
set_option maxRecDepth 20000 in
theorem ggX4_type_X4_requireReach : GoodIn wsX4_type wsX4_requireReach := goodIn_ca (goodIn_r _ [21, 22, 23] (by decide +kernel) (by decide +kernel)) (goodIn_sub (fun _ h => List.mem_cons_of_mem _ (List.mem_append_right _ h)) (by decide +kernel))
set_option maxRecDepth 20000 in
theorem gX4_type_X4_requireReach : GoodIn wsX4_type (va_wsS RX4 33 yX4_requireReach wsX4_requireReach) := goodIn_app (goodIn_of _ (by decide +kernel)) ggX4_type_X4_requireReach
set_option maxRecDepth 20000 in
theorem ggX4_state_X4_requireWish : GoodIn wsX4_state wsX4_requireWish := goodIn_ca (goodIn_r _ [7, 8, 9, 1, 10, 57, 58, 59, 60, 61, 62, 63, 64, 65, 66, 67, 68, 69] (by decide +kernel) (by decide +kernel)) (goodIn_sub (fun _ h => List.mem_cons_of_mem _ (List.mem_append_right _ h)) (by decide +kernel))
set_option maxRecDepth 20000 in
theorem gX4_state_X4_requireWish : GoodIn wsX4_state (wsV RX4 75 RX4 yX4_requireWish wsX4_requireWish) := goodIn_app (goodIn_of _ (by decide +kernel)) ggX4_state_X4_requireWish
set_option maxRecDepth 20000 in
theorem ggX4_state_X4_settle : GoodIn wsX4_state wsX4_settle := goodIn_r _ [14, 15, 16, 17, 1, 10, 2, 18, 19, 20, 21, 22, 23, 24, 25, 26, 27, 28, 6, 29, 30, 31, 32, 33, 34, 35, 36, 37, 38, 39, 40, 41, 42, 43, 44, 45, 46, 47, 48, 49, 50, 51, 52, 53, 54, 55, 56, 57, 58, 59, 60, 61, 62, 63, 64, 65, 66, 67, 68, 69, 70, 71, 72, 73] (by decide +kernel) (by decide +kernel)
set_option maxRecDepth 20000 in
theorem gX4_state_X4_settle : GoodIn wsX4_state (wsV RX4 78 RX4 yX4_settle wsX4_settle) := goodIn_app (goodIn_of _ (by decide +kernel)) ggX4_state_X4_settle
set_option maxRecDepth 20000 in
theorem ggX4_freedom_X4_settle : GoodIn wsX4_freedom wsX4_settle := goodIn_r _ [8, 9, 1, 3, 10, 11, 12, 13, 14, 15, 16, 17, 18, 19, 20, 21, 22, 23, 7, 24, 25, 26, 27, 28, 29, 30, 31, 32, 33, 34, 35, 36, 37, 38, 39, 40, 41, 42, 43, 44, 45, 46, 47, 48, 49, 50, 51, 52, 53, 54, 55, 56, 57, 62, 63, 64, 65, 66, 67, 68, 58, 59, 60, 61] (by decide +kernel) (by decide +kernel)
set_option maxRecDepth 20000 in
theorem gX4_freedom_X4_settle : GoodIn wsX4_freedom (wsV RX4 78 RX4 yX4_settle wsX4_settle) := goodIn_app (goodIn_of _ (by decide +kernel)) ggX4_freedom_X4_settle
set_option maxRecDepth 20000 in
theorem ggX4_x_X4_requirePoint : GoodIn wsX4_x wsX4_requirePoint := goodIn_ca (goodIn_r _ [6, 7, 8, 9, 61, 62, 63, 64, 65, 66] (by decide +kernel) (by decide +kernel)) (goodIn_sub (fun _ h => List.mem_cons_of_mem _ (List.mem_append_right _ h)) (by decide +kernel))
set_option maxRecDepth 20000 in
theorem gX4_x_X4_requirePoint : GoodIn wsX4_x (wsV RX4 52 RX4 yX4_requirePoint wsX4_requirePoint) := goodIn_app (goodIn_of _ (by decide +kernel)) ggX4_x_X4_requirePoint
set_option maxRecDepth 20000 in
theorem ggX4_x_X4_settle : GoodIn wsX4_x wsX4_settle := goodIn_r _ [13, 14, 1, 15, 16, 17, 18, 9, 19, 20, 21, 22, 23, 24, 25, 26, 27, 28, 5, 29, 30, 31, 32, 33, 34, 35, 36, 37, 38, 39, 40, 41, 42, 43, 44, 45, 46, 47, 48, 49, 50, 51, 52, 53, 54, 55, 56, 61, 62, 63, 64, 65, 66, 67, 68, 69, 70, 71, 72, 73, 74, 75, 76, 77] (by decide +kernel) (by decide +kernel)
set_option maxRecDepth 20000 in
theorem gX4_x_X4_settle : GoodIn wsX4_x (wsV RX4 78 RX4 yX4_settle wsX4_settle) := goodIn_app (goodIn_of _ (by decide +kernel)) ggX4_x_X4_settle
set_option maxRecDepth 20000 in
theorem ggX4_x_X0_placeOf : GoodIn wsX4_x wsX0_placeOf := goodIn_r _ [60, 25, 74, 75, 76, 77] (by decide +kernel) (by decide +kernel)
set_option maxRecDepth 20000 in
theorem gX4_x_X0_placeOf : GoodIn wsX4_x (wsV RX4 97 RX0 yX0_placeOf wsX0_placeOf) := goodIn_app (goodIn_of _ (by decide +kernel)) ggX4_x_X0_placeOf
set_option maxRecDepth 20000 in
theorem ggX4_y_X4_requirePoint : GoodIn wsX4_y wsX4_requirePoint := goodIn_ca (goodIn_r _ [6, 7, 8, 9, 61, 62, 63, 64, 65, 66] (by decide +kernel) (by decide +kernel)) (goodIn_sub (fun _ h => List.mem_cons_of_mem _ (List.mem_append_right _ h)) (by decide +kernel))
set_option maxRecDepth 20000 in
theorem gX4_y_X4_requirePoint : GoodIn wsX4_y (wsV RX4 52 RX4 yX4_requirePoint wsX4_requirePoint) := goodIn_app (goodIn_of _ (by decide +kernel)) ggX4_y_X4_requirePoint
set_option maxRecDepth 20000 in
theorem ggX4_y_X4_settle : GoodIn wsX4_y wsX4_settle := goodIn_r _ [13, 14, 15, 1, 16, 17, 18, 9, 19, 20, 21, 22, 23, 24, 25, 26, 27, 28, 5, 29, 30, 31, 32, 33, 34, 35, 36, 37, 38, 39, 40, 41, 42, 43, 44, 45, 46, 47, 48, 49, 50, 51, 52, 53, 54, 55, 56, 61, 62, 63, 64, 65, 66, 67, 68, 69, 70, 71, 72, 73, 74, 75, 76, 77] (by decide +kernel) (by decide +kernel)
set_option maxRecDepth 20000 in
theorem gX4_y_X4_settle : GoodIn wsX4_y (wsV RX4 78 RX4 yX4_settle wsX4_settle) := goodIn_app (goodIn_of _ (by decide +kernel)) ggX4_y_X4_settle
set_option maxRecDepth 20000 in
theorem ggX4_y_X0_placeOf : GoodIn wsX4_y wsX0_placeOf := goodIn_r _ [60, 25, 74, 75, 76, 77] (by decide +kernel) (by decide +kernel)
set_option maxRecDepth 20000 in
theorem gX4_y_X0_placeOf : GoodIn wsX4_y (wsV RX4 97 RX0 yX0_placeOf wsX0_placeOf) := goodIn_app (goodIn_of _ (by decide +kernel)) ggX4_y_X0_placeOf
set_option maxRecDepth 20000 in
theorem ggX4_tell_X4_requireVariant : GoodIn wsX4_tell wsX4_requireVariant := goodIn_ca (goodIn_r _ [6, 7, 8] (by decide +kernel) (by decide +kernel)) (goodIn_sub (fun _ h => List.mem_cons_of_mem _ (List.mem_append_left _ (List.mem_append_left _ (List.mem_append_right _ h)))) (by decide +kernel))
set_option maxRecDepth 20000 in
theorem gX4_tell_X4_requireVariant : GoodIn wsX4_tell (va_wsS RX4 101 yX4_requireVariant wsX4_requireVariant) := goodIn_app (goodIn_of _ (by decide +kernel)) ggX4_tell_X4_requireVariant
set_option maxRecDepth 20000 in
theorem ggX4_tell_X4_requireReach : GoodIn wsX4_tell wsX4_requireReach := goodIn_ca (goodIn_r _ [11, 7, 8] (by decide +kernel) (by decide +kernel)) (goodIn_sub (fun _ h => List.mem_cons_of_mem _ (List.mem_append_left _ (List.mem_append_left _ (List.mem_append_right _ h)))) (by decide +kernel))
set_option maxRecDepth 20000 in
theorem gX4_tell_X4_requireReach : GoodIn wsX4_tell (va_wsS RX4 33 yX4_requireReach wsX4_requireReach) := goodIn_app (goodIn_of _ (by decide +kernel)) ggX4_tell_X4_requireReach
set_option maxRecDepth 20000 in
theorem ggX4_tell_X4_requireWish : GoodIn wsX4_tell wsX4_requireWish := goodIn_ca (goodIn_r _ [15, 16, 17, 1, 18, 33, 34, 35, 36, 37, 38, 39, 40, 41, 42, 43, 44, 45] (by decide +kernel) (by decide +kernel)) (goodIn_sub (fun _ h => List.mem_cons_of_mem _ (List.mem_append_left _ (List.mem_append_right _ h))) (by decide +kernel))
set_option maxRecDepth 20000 in
theorem gX4_tell_X4_requireWish : GoodIn wsX4_tell (wsV RX4 75 RX4 yX4_requireWish wsX4_requireWish) := goodIn_app (goodIn_of _ (by decide +kernel)) ggX4_tell_X4_requireWish
set_option maxRecDepth 20000 in
theorem ggX4_tell_X4_requireSized : GoodIn wsX4_tell wsX4_requireSized := goodIn_ca (goodIn_r _ [22, 23, 24, 1, 25, 33, 34, 35, 36, 37, 38, 39, 40, 41, 42, 43, 44, 45] (by decide +kernel) (by decide +kernel)) (goodIn_sub (fun _ h => List.mem_cons_of_mem _ (List.mem_append_right _ h)) (by decide +kernel))
set_option maxRecDepth 20000 in
theorem gX4_tell_X4_requireSized : GoodIn wsX4_tell (wsV RX4 88 RX4 yX4_requireSized wsX4_requireSized) := goodIn_app (goodIn_of _ (by decide +kernel)) ggX4_tell_X4_requireSized
set_option maxRecDepth 20000 in
theorem ggX4_tell_X3_countTold : GoodIn wsX4_tell wsX3_countTold := goodIn_r _ [30, 31, 32, 39, 40, 41, 42, 43, 44, 45] (by decide +kernel) (by decide +kernel)
set_option maxRecDepth 20000 in
theorem gX4_tell_X3_countTold : GoodIn wsX4_tell (wsV RX4 108 RX3 yX3_countTold wsX3_countTold) := goodIn_app (goodIn_of _ (by decide +kernel)) ggX4_tell_X3_countTold
set_option maxRecDepth 20000 in
theorem ggX4_choose_X4_requireVariant : GoodIn wsX4_choose wsX4_requireVariant := goodIn_ca (goodIn_r _ [6, 7, 8] (by decide +kernel) (by decide +kernel)) (goodIn_sub (fun _ h => List.mem_cons_of_mem _ (List.mem_append_right _ h)) (by decide +kernel))
set_option maxRecDepth 20000 in
theorem gX4_choose_X4_requireVariant : GoodIn wsX4_choose (va_wsS RX4 101 yX4_requireVariant wsX4_requireVariant) := goodIn_app (goodIn_of _ (by decide +kernel)) ggX4_choose_X4_requireVariant
set_option maxRecDepth 20000 in
theorem ggX4_choose_X3_takeOver : GoodIn wsX4_choose wsX3_takeOver := goodIn_r _ [13, 14, 15, 16, 23, 24, 25, 26, 27, 28, 29] (by decide +kernel) (by decide +kernel)
set_option maxRecDepth 20000 in
theorem gX4_choose_X3_takeOver : GoodIn wsX4_choose (wsV RX4 111 RX3 yX3_takeOver wsX3_takeOver) := goodIn_app (goodIn_of _ (by decide +kernel)) ggX4_choose_X3_takeOver
set_option maxRecDepth 20000 in
theorem ggX4_setBase_X4_requirePoint : GoodIn wsX4_setBase wsX4_requirePoint := goodIn_ca (goodIn_r _ [7, 8, 9, 10, 124, 125, 126, 127, 128, 129] (by decide +kernel) (by decide +kernel)) (goodIn_sub (fun _ h => List.mem_cons_of_mem _ (List.mem_append_left _ (List.mem_append_right _ h))) (by decide +kernel))
set_option maxRecDepth 20000 in
theorem gX4_setBase_X4_requirePoint : GoodIn wsX4_setBase (wsV RX4 52 RX4 yX4_requirePoint wsX4_requirePoint) := goodIn_app (goodIn_of _ (by decide +kernel)) ggX4_setBase_X4_requirePoint
set_option maxRecDepth 20000 in
theorem ggX4_setBase_X4_requireDepth : GoodIn wsX4_setBase wsX4_requireDepth := goodIn_ca (goodIn_r _ [13, 14, 15] (by decide +kernel) (by decide +kernel)) (goodIn_sub (fun _ h => List.mem_cons_of_mem _ (List.mem_append_right _ h)) (by decide +kernel))
set_option maxRecDepth 20000 in
theorem gX4_setBase_X4_requireDepth : GoodIn wsX4_setBase (va_wsS RX4 114 yX4_requireDepth wsX4_requireDepth) := goodIn_app (goodIn_of _ (by decide +kernel)) ggX4_setBase_X4_requireDepth
set_option maxRecDepth 20000 in
theorem ggX4_setBase_X2_layBase : GoodIn wsX4_setBase wsX2_layBase := goodIn_r _ [20, 21, 22, 23, 24, 19, 25, 26, 27, 28, 29, 30, 31, 32, 33, 34, 35, 140, 141, 142, 143, 144, 130, 131, 132, 133, 134, 135, 136, 137, 138, 139] (by decide +kernel) (by decide +kernel)
set_option maxRecDepth 20000 in
theorem gX4_setBase_X2_layBase : GoodIn wsX4_setBase (wsV RX4 117 RX2 yX2_layBase wsX2_layBase) := goodIn_app (goodIn_of _ (by decide +kernel)) ggX4_setBase_X2_layBase
set_option maxRecDepth 20000 in
theorem ggX4_setBase_X4_measure : GoodIn wsX4_setBase wsX4_measure := goodIn_r _ [39, 1, 40, 41, 42, 43, 44, 6, 45, 46, 47, 48, 49, 10, 50, 51, 52, 53, 54, 55, 56, 57, 58, 59, 60, 61, 62, 63, 64, 65, 66, 67, 68, 69, 70, 71, 72, 73, 74, 75, 76, 77, 78, 79, 80, 81, 82, 83, 84, 85, 86, 87, 88, 89, 90, 19, 91, 21, 92, 93, 94, 95, 96, 97, 26, 22, 23, 24, 25, 98, 99, 100, 30, 101, 32, 33, 102, 103, 104, 105, 106, 107, 108, 109, 110, 111, 112, 35, 113, 114, 34, 115, 116, 117, 118, 119, 120, 121, 122, 124, 125, 126, 127, 128, 129, 145, 146, 147, 148, 149, 150, 151, 152, 153, 154, 155, 140, 141, 142, 143, 144, 130, 131, 132, 133, 134, 135, 136, 137, 138, 139] (by decide +kernel) (by decide +kernel)
set_option maxRecDepth 20000 in
theorem gX4_setBase_X4_measure : GoodIn wsX4_setBase (wsV RX4 120 RX4 yX4_measure wsX4_measure) := goodIn_app (goodIn_of _ (by decide +kernel)) ggX4_setBase_X4_measure
set_option maxRecDepth 20000 in
theorem ggX4_setBase_X2_base : GoodIn wsX4_setBase wsX2_base := goodIn_r _ [25, 26, 140, 141, 142, 143, 144] (by decide +kernel) (by decide +kernel)
set_option maxRecDepth 20000 in
theorem gX4_setBase_X2_base : GoodIn wsX4_setBase (wsV RX4 123 RX2 yX2_base wsX2_base) := goodIn_app (goodIn_of _ (by decide +kernel)) ggX4_setBase_X2_base
set_option maxRecDepth 20000 in
theorem ggX4_pocket_X4_requirePoint : GoodIn wsX4_pocket wsX4_requirePoint := goodIn_ca (goodIn_r _ [10, 11, 12, 13, 43, 44, 45, 46, 47, 48] (by decide +kernel) (by decide +kernel)) (goodIn_sub (fun _ h => List.mem_cons_of_mem _ (List.mem_append_left _ (List.mem_append_right _ h))) (by decide +kernel))
set_option maxRecDepth 20000 in
theorem gX4_pocket_X4_requirePoint : GoodIn wsX4_pocket (wsV RX4 52 RX4 yX4_requirePoint wsX4_requirePoint) := goodIn_app (goodIn_of _ (by decide +kernel)) ggX4_pocket_X4_requirePoint
set_option maxRecDepth 20000 in
theorem ggX4_pocket_X4_requirePocket : GoodIn wsX4_pocket wsX4_requirePocket := goodIn_ca (goodIn_r _ [17, 11, 12, 3, 5, 43, 44, 45, 46, 47, 48, 49, 50, 51, 52, 53] (by decide +kernel) (by decide +kernel)) (goodIn_sub (fun _ h => List.mem_cons_of_mem _ (List.mem_append_left _ (List.mem_append_right _ h))) (by decide +kernel))
set_option maxRecDepth 20000 in
theorem gX4_pocket_X4_requirePocket : GoodIn wsX4_pocket (wsV RX4 132 RX4 yX4_requirePocket wsX4_requirePocket) := goodIn_app (goodIn_of _ (by decide +kernel)) ggX4_pocket_X4_requirePocket
set_option maxRecDepth 20000 in
theorem ggX4_pocket_X4_requireDepth : GoodIn wsX4_pocket wsX4_requireDepth := goodIn_ca (goodIn_r _ [20, 21, 22] (by decide +kernel) (by decide +kernel)) (goodIn_sub (fun _ h => List.mem_cons_of_mem _ (List.mem_append_right _ h)) (by decide +kernel))
set_option maxRecDepth 20000 in
theorem gX4_pocket_X4_requireDepth : GoodIn wsX4_pocket (va_wsS RX4 114 yX4_requireDepth wsX4_requireDepth) := goodIn_app (goodIn_of _ (by decide +kernel)) ggX4_pocket_X4_requireDepth
set_option maxRecDepth 20000 in
theorem ggX4_pocket_X2_addPocket : GoodIn wsX4_pocket wsX2_addPocket := goodIn_r _ [27, 28, 29, 30, 31, 26, 32, 33, 34, 35, 36, 37, 38, 39, 40, 41, 42, 49, 50, 51, 52, 53, 54, 55, 56, 57, 58, 59, 60, 61, 62, 63] (by decide +kernel) (by decide +kernel)
set_option maxRecDepth 20000 in
theorem gX4_pocket_X2_addPocket : GoodIn wsX4_pocket (wsV RX4 145 RX2 yX2_addPocket wsX2_addPocket) := goodIn_app (goodIn_of _ (by decide +kernel)) ggX4_pocket_X2_addPocket
set_option maxRecDepth 20000 in
theorem ggX4_fails_X4_requirePocket : GoodIn wsX4_fails wsX4_requirePocket := goodIn_ca (goodIn_r _ [7, 8, 9, 1, 10, 112, 113, 114, 115, 116, 117, 128, 129, 130, 131, 132] (by decide +kernel) (by decide +kernel)) (goodIn_sub (fun _ h => List.mem_cons_of_mem _ (List.mem_append_right _ h)) (by decide +kernel))
set_option maxRecDepth 20000 in
theorem gX4_fails_X4_requirePocket : GoodIn wsX4_fails (wsV RX4 132 RX4 yX4_requirePocket wsX4_requirePocket) := goodIn_app (goodIn_of _ (by decide +kernel)) ggX4_fails_X4_requirePocket
set_option maxRecDepth 20000 in
theorem ggX4_fails_X4_measure : GoodIn wsX4_fails wsX4_measure := goodIn_r _ [14, 1, 15, 16, 17, 18, 19, 6, 20, 21, 22, 23, 24, 25, 26, 27, 28, 29, 30, 31, 32, 33, 34, 35, 36, 37, 38, 39, 40, 41, 42, 43, 44, 45, 46, 47, 48, 49, 50, 51, 52, 53, 54, 55, 56, 57, 58, 59, 60, 61, 62, 63, 64, 65, 66, 67, 68, 69, 70, 71, 72, 73, 74, 75, 76, 77, 78, 79, 80, 81, 82, 83, 84, 85, 86, 87, 88, 89, 90, 91, 92, 93, 94, 95, 96, 97, 98, 99, 100, 101, 102, 103, 104, 105, 106, 107, 108, 109, 110, 112, 113, 114, 115, 116, 117, 133, 134, 135, 136, 137, 138, 139, 140, 141, 142, 143, 128, 129, 130, 131, 132, 118, 119, 120, 121, 122, 123, 124, 125, 126, 127] (by decide +kernel) (by decide +kernel)
set_option maxRecDepth 20000 in
theorem gX4_fails_X4_measure : GoodIn wsX4_fails (wsV RX4 120 RX4 yX4_measure wsX4_measure) := goodIn_app (goodIn_of _ (by decide +kernel)) ggX4_fails_X4_measure
set_option maxRecDepth 20000 in
theorem ggX4_fails_X2_pocketAt : GoodIn wsX4_fails wsX2_pocketAt := goodIn_r _ [75, 76, 128, 129, 130, 131, 132] (by decide +kernel) (by decide +kernel)
set_option maxRecDepth 20000 in
theorem gX4_fails_X2_pocketAt : GoodIn wsX4_fails (wsV RX4 148 RX2 yX2_pocketAt wsX2_pocketAt) := goodIn_app (goodIn_of _ (by decide +kernel)) ggX4_fails_X2_pocketAt
set_option maxRecDepth 20000 in
theorem ggX4_volume_X4_measure : GoodIn wsX4_volume wsX4_measure := goodIn_r _ [6, 1, 7, 8, 9, 10, 11, 5, 12, 13, 14, 15, 16, 17, 18, 19, 20, 21, 22, 23, 24, 25, 26, 27, 28, 29, 30, 31, 32, 33, 34, 35, 36, 37, 38, 39, 40, 41, 42, 43, 44, 45, 46, 47, 48, 49, 50, 51, 52, 53, 54, 55, 56, 57, 58, 59, 60, 61, 62, 63, 64, 65, 66, 67, 68, 69, 70, 71, 72, 73, 74, 75, 76, 77, 78, 79, 80, 81, 82, 83, 84, 85, 86, 87, 88, 89, 90, 91, 92, 93, 94, 95, 96, 97, 98, 99, 100, 101, 102, 148, 149, 150, 151, 152, 153, 154, 155, 156, 157, 158, 159, 160, 161, 162, 163, 164, 165, 166, 167, 168, 169, 170, 171, 172, 173, 174, 175, 176, 177, 178, 179] (by decide +kernel) (by decide +kernel)
set_option maxRecDepth 20000 in
theorem gX4_volume_X4_measure : GoodIn wsX4_volume (wsV RX4 120 RX4 yX4_measure wsX4_measure) := goodIn_app (goodIn_of _ (by decide +kernel)) ggX4_volume_X4_measure
set_option maxRecDepth 20000 in
theorem ggX4_volume_X2_wholeCells : GoodIn wsX4_volume wsX2_wholeCells := goodIn_r _ [106, 61, 107, 69, 70, 71, 59, 72, 68, 108, 109, 110, 76, 111, 88, 84, 90, 89, 94, 165, 166, 167, 168, 169, 170, 171, 172, 173, 174, 175, 176, 177, 178, 179] (by decide +kernel) (by decide +kernel)
set_option maxRecDepth 20000 in
theorem gX4_volume_X2_wholeCells : GoodIn wsX4_volume (wsV RX4 152 RX2 yX2_wholeCells wsX2_wholeCells) := goodIn_app (goodIn_of _ (by decide +kernel)) ggX4_volume_X2_wholeCells
set_option maxRecDepth 20000 in
theorem ggX4_volume_X2_takenCells : GoodIn wsX4_volume wsX2_takenCells := goodIn_r _ [115, 116, 117, 118, 119, 120, 59, 121, 62, 107, 122, 123, 124, 125, 64, 65, 66, 67, 68, 126, 127, 128, 129, 130, 131, 132, 133, 134, 135, 76, 136, 84, 88, 89, 90, 137, 138, 139, 140, 94, 92, 141, 142, 143, 144, 145, 146, 147, 165, 166, 167, 168, 169, 170, 171, 172, 173, 174, 175, 176, 177, 178, 179] (by decide +kernel) (by decide +kernel)
set_option maxRecDepth 20000 in
theorem gX4_volume_X2_takenCells : GoodIn wsX4_volume (wsV RX4 156 RX2 yX2_takenCells wsX2_takenCells) := goodIn_app (goodIn_of _ (by decide +kernel)) ggX4_volume_X2_takenCells
set_option maxRecDepth 20000 in
theorem ggX4_price_X4_measure : GoodIn wsX4_price wsX4_measure := goodIn_r _ [6, 1, 7, 8, 9, 10, 11, 5, 12, 13, 14, 15, 16, 17, 18, 19, 20, 21, 22, 23, 24, 25, 26, 27, 28, 29, 30, 31, 32, 33, 34, 35, 36, 37, 38, 39, 40, 41, 42, 43, 44, 45, 46, 47, 48, 49, 50, 51, 52, 53, 54, 55, 56, 57, 58, 59, 60, 61, 62, 63, 64, 65, 66, 67, 68, 69, 70, 71, 72, 73, 74, 75, 76, 77, 78, 79, 80, 81, 82, 83, 84, 85, 86, 87, 88, 89, 90, 91, 92, 93, 94, 95, 96, 97, 98, 99, 100, 101, 102, 152, 153, 154, 155, 156, 157, 158, 159, 160, 161, 162, 163, 164, 165, 166, 167, 168, 169, 170, 171, 172, 173, 174, 175, 176, 177, 178, 179, 180, 181, 182, 183] (by decide +kernel) (by decide +kernel)
set_option maxRecDepth 20000 in
theorem gX4_price_X4_measure : GoodIn wsX4_price (wsV RX4 120 RX4 yX4_measure wsX4_measure) := goodIn_app (goodIn_of _ (by decide +kernel)) ggX4_price_X4_measure
set_option maxRecDepth 20000 in
theorem ggX4_price_X2_wholeCells : GoodIn wsX4_price wsX2_wholeCells := goodIn_r _ [106, 61, 107, 69, 70, 71, 59, 72, 68, 108, 109, 110, 76, 111, 88, 84, 90, 89, 94, 169, 170, 171, 172, 173, 174, 175, 176, 177, 178, 179, 180, 181, 182, 183] (by decide +kernel) (by decide +kernel)
set_option maxRecDepth 20000 in
theorem gX4_price_X2_wholeCells : GoodIn wsX4_price (wsV RX4 152 RX2 yX2_wholeCells wsX2_wholeCells) := goodIn_app (goodIn_of _ (by decide +kernel)) ggX4_price_X2_wholeCells
set_option maxRecDepth 20000 in
theorem ggX4_price_X2_takenCells : GoodIn wsX4_price wsX2_takenCells := goodIn_r _ [115, 116, 117, 118, 119, 120, 59, 121, 62, 107, 122, 123, 124, 125, 64, 65, 66, 67, 68, 126, 127, 128, 129, 130, 131, 132, 133, 134, 135, 76, 136, 84, 88, 89, 90, 137, 138, 139, 140, 94, 92, 141, 142, 143, 144, 145, 146, 147, 169, 170, 171, 172, 173, 174, 175, 176, 177, 178, 179, 180, 181, 182, 183] (by decide +kernel) (by decide +kernel)
set_option maxRecDepth 20000 in
theorem gX4_price_X2_takenCells : GoodIn wsX4_price (wsV RX4 156 RX2 yX2_takenCells wsX2_takenCells) := goodIn_app (goodIn_of _ (by decide +kernel)) ggX4_price_X2_takenCells
set_option maxRecDepth 20000 in
theorem ggX4_price_X2_differentDepths : GoodIn wsX4_price wsX2_differentDepths := goodIn_r _ [151, 62, 107, 63, 64, 65, 66, 59, 67, 68, 141, 142, 143, 144, 145, 146, 147, 169, 170, 171, 172, 173, 174, 175, 176, 177, 178, 179, 180, 181, 182, 183] (by decide +kernel) (by decide +kernel)
set_option maxRecDepth 20000 in
theorem gX4_price_X2_differentDepths : GoodIn wsX4_price (wsV RX4 159 RX2 yX2_differentDepths wsX2_differentDepths) := goodIn_app (goodIn_of _ (by decide +kernel)) ggX4_price_X2_differentDepths
set_option maxRecDepth 20000 in
theorem ggX4_measure_X4_settle : GoodIn wsX4_measure wsX4_settle := goodIn_r _ [8, 9, 2, 3, 10, 11, 12, 13, 14, 15, 16, 17, 18, 19, 20, 21, 22, 23, 7, 24, 25, 26, 27, 28, 29, 30, 31, 32, 33, 34, 35, 36, 37, 38, 39, 40, 41, 42, 43, 44, 45, 46, 47, 48, 49, 50, 51, 99, 100, 101, 102, 103, 104, 105, 106, 107, 108, 109, 110, 111, 112, 113, 114, 115] (by decide +kernel) (by decide +kernel)
set_option maxRecDepth 20000 in
theorem gX4_measure_X4_settle : GoodIn wsX4_measure (wsV RX4 78 RX4 yX4_settle wsX4_settle) := goodIn_app (goodIn_of _ (by decide +kernel)) ggX4_measure_X4_settle
set_option maxRecDepth 20000 in
theorem ggX4_measure_X2_measure : GoodIn wsX4_measure wsX2_measure := goodIn_r _ [56, 57, 58, 59, 60, 61, 62, 55, 63, 64, 65, 66, 67, 68, 69, 70, 71, 72, 73, 74, 75, 76, 77, 78, 79, 80, 81, 82, 83, 84, 85, 86, 87, 88, 89, 90, 91, 92, 93, 17, 94, 20, 95, 96, 97, 98, 116, 117, 118, 119, 120, 121, 122, 123, 124, 125, 126, 127, 128, 129, 130, 112, 113, 114, 115] (by decide +kernel) (by decide +kernel)
set_option maxRecDepth 20000 in
theorem gX4_measure_X2_measure : GoodIn wsX4_measure (wsV RX4 185 RX2 yX2_measure wsX2_measure) := goodIn_app (goodIn_of _ (by decide +kernel)) ggX4_measure_X2_measure
set_option maxRecDepth 20000 in
theorem ggX4_settle_X0_loosen : GoodIn wsX4_settle wsX0_loosen := goodIn_r _ [12, 13, 14, 60, 61, 62, 63] (by decide +kernel) (by decide +kernel)
set_option maxRecDepth 20000 in
theorem gX4_settle_X0_loosen : GoodIn wsX4_settle (wsV RX4 188 RX0 yX0_loosen wsX0_loosen) := goodIn_app (goodIn_of _ (by decide +kernel)) ggX4_settle_X0_loosen
set_option maxRecDepth 20000 in
theorem ggX4_settle_X4_admit : GoodIn wsX4_settle wsX4_admit := goodIn_r _ [19, 4, 20, 21, 22, 23, 2, 3, 24, 25, 18, 26, 27, 28, 29, 11, 30, 13, 14, 31, 32, 33, 34, 35, 36, 37, 38, 39, 47, 48, 49, 50, 51, 52, 53, 54, 55, 56, 57, 58, 59, 60, 61, 62, 63] (by decide +kernel) (by decide +kernel)
set_option maxRecDepth 20000 in
theorem gX4_settle_X4_admit : GoodIn wsX4_settle (wsV RX4 191 RX4 yX4_admit wsX4_admit) := goodIn_app (goodIn_of _ (by decide +kernel)) ggX4_settle_X4_admit
set_option maxRecDepth 20000 in
theorem ggX4_settle_X0_pinFreeGroups : GoodIn wsX4_settle wsX0_pinFreeGroups := goodIn_r _ [43, 44, 13, 45, 46, 32, 33, 11, 34, 14, 60, 61, 62, 63] (by decide +kernel) (by decide +kernel)
set_option maxRecDepth 20000 in
theorem gX4_settle_X0_pinFreeGroups : GoodIn wsX4_settle (wsV RX4 194 RX0 yX0_pinFreeGroups wsX0_pinFreeGroups) := goodIn_app (goodIn_of _ (by decide +kernel)) ggX4_settle_X0_pinFreeGroups
set_option maxRecDepth 20000 in
theorem ggX4_admit_X4_admitApart : GoodIn wsX4_admit wsX4_admitApart := goodIn_r _ [11, 12, 13, 14, 15, 16, 17, 18, 19, 20, 21, 22, 41, 42, 43, 44] (by decide +kernel) (by decide +kernel)
set_option maxRecDepth 20000 in
theorem gX4_admit_X4_admitApart : GoodIn wsX4_admit (va_wsS RX4 203 yX4_admitApart wsX4_admitApart) := goodIn_app (goodIn_of _ (by decide +kernel)) ggX4_admit_X4_admitApart
set_option maxRecDepth 20000 in
theorem ggX4_admit_X4_admitAtHint : GoodIn wsX4_admit wsX4_admitAtHint := goodIn_r _ [26, 6, 27, 7, 12, 13, 14, 15, 16, 17, 18, 19, 20, 21, 22, 28, 29, 30, 31, 32, 33, 41, 42, 43, 44] (by decide +kernel) (by decide +kernel)
set_option maxRecDepth 20000 in
theorem gX4_admit_X4_admitAtHint : GoodIn wsX4_admit (wsV RX4 207 RX4 yX4_admitAtHint wsX4_admitAtHint) := goodIn_app (goodIn_of _ (by decide +kernel)) ggX4_admit_X4_admitAtHint
set_option maxRecDepth 20000 in
theorem ggX4_admitApart_X0_judge : GoodIn wsX4_admitApart wsX0_judge := goodIn_r _ [5, 6, 7, 12, 13, 14, 15] (by decide +kernel) (by decide +kernel)
set_option maxRecDepth 20000 in
theorem gX4_admitApart_X0_judge : GoodIn wsX4_admitApart (wsV RX4 210 RX0 yX0_judge wsX0_judge) := goodIn_app (goodIn_of _ (by decide +kernel)) ggX4_admitApart_X0_judge
set_option maxRecDepth 20000 in
theorem ggX4_admitApart_X0_join : GoodIn wsX4_admitApart wsX0_join := goodIn_r _ [11, 6, 7, 12, 13, 14, 15] (by decide +kernel) (by decide +kernel)
set_option maxRecDepth 20000 in
theorem gX4_admitApart_X0_join : GoodIn wsX4_admitApart (wsV RX4 214 RX0 yX0_join wsX0_join) := goodIn_app (goodIn_of _ (by decide +kernel)) ggX4_admitApart_X0_join
set_option maxRecDepth 20000 in
theorem ggX4_admitAtHint_X0_judge : GoodIn wsX4_admitAtHint wsX0_judge := goodIn_r _ [8, 9, 10, 21, 22, 23, 24] (by decide +kernel) (by decide +kernel)
set_option maxRecDepth 20000 in
theorem gX4_admitAtHint_X0_judge : GoodIn wsX4_admitAtHint (wsV RX4 210 RX0 yX0_judge wsX0_judge) := goodIn_app (goodIn_of _ (by decide +kernel)) ggX4_admitAtHint_X0_judge
set_option maxRecDepth 20000 in
theorem ggX4_admitAtHint_X0_join : GoodIn wsX4_admitAtHint wsX0_join := goodIn_r _ [14, 9, 10, 21, 22, 23, 24] (by decide +kernel) (by decide +kernel)
set_option maxRecDepth 20000 in
theorem gX4_admitAtHint_X0_join : GoodIn wsX4_admitAtHint (wsV RX4 214 RX0 yX0_join wsX0_join) := goodIn_app (goodIn_of _ (by decide +kernel)) ggX4_admitAtHint_X0_join
