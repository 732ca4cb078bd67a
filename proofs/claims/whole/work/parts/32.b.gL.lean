set_option maxRecDepth 20000 in
theorem ggL_law_X4_init : GoodIn wsL_law wsX4_init := goodIn_r _ [9, 10, 11, 12, 13, 14, 15, 16, 17, 18, 19, 20, 21, 22, 23, 24, 25, 26, 27, 28, 29, 30, 31, 32, 33, 34, 35, 36, 37, 38, 39, 40, 41, 42, 43, 44, 45, 46, 47, 48, 49, 50, 51, 52, 53, 54, 55, 590, 591, 592, 593, 555, 556, 557, 558, 559, 560, 594, 595, 596, 597, 598, 599, 600, 601, 602, 603, 604, 605, 606, 607, 608, 609, 610, 611, 612, 613, 614, 615] (by decide +kernel) (by decide +kernel)
set_option maxRecDepth 20000 in
theorem gL_law_X4_init : GoodIn wsL_law (wsX4_init) := ggL_law_X4_init
set_option maxRecDepth 20000 in
theorem ggL_law_X5_init : GoodIn wsL_law wsX5_init := goodIn_r _ [58, 59, 11, 12, 29, 60, 61, 62, 63, 64, 65, 66, 67, 68, 69, 70, 71, 72, 73, 74, 75, 76, 77, 78, 79, 80, 81, 561, 562, 563, 564, 565, 566, 567, 568, 569, 570, 571, 572, 573, 574, 575, 576, 577, 578, 579, 580, 581, 582, 583, 584, 585, 586, 587, 588, 589] (by decide +kernel) (by decide +kernel)
set_option maxRecDepth 20000 in
theorem gL_law_X5_init : GoodIn wsL_law (wsX5_init) := ggL_law_X5_init
set_option maxRecDepth 20000 in
theorem ggL_law_L_point : GoodIn wsL_law wsL_point := goodIn_ca (goodIn_ca (goodIn_r _ [85, 86, 87, 88, 89, 90, 2, 91, 92, 93, 94, 95, 96, 97, 98, 99, 100, 101, 102, 103, 16, 104, 17, 105, 555, 556, 557, 558, 559, 560, 590, 591, 592, 593] (by decide +kernel) (by decide +kernel)) (goodIn_sub (fun _ h => List.mem_append_left _ (List.mem_append_left _ (List.mem_append_right _ h))) (by decide +kernel))) (goodIn_sub (fun _ h => List.mem_append_left _ (List.mem_append_right _ h)) (by decide +kernel))
set_option maxRecDepth 20000 in
theorem gL_law_L_point : GoodIn wsL_law (va_wsS RL 65 yL_point wsL_point) := goodIn_app (goodIn_of _ (by decide +kernel)) ggL_law_L_point
set_option maxRecDepth 20000 in
theorem ggL_law_X5_point : GoodIn wsL_law wsX5_point := goodIn_r _ [109, 110, 111, 60, 61, 112, 113, 5, 114, 115, 116, 117, 118, 119, 120, 121, 561, 562, 563, 564, 565, 566, 567, 568, 569, 570, 571, 572, 573, 574, 575, 576, 577, 578, 579, 580, 581, 582, 583, 584, 585, 586, 587, 588, 589] (by decide +kernel) (by decide +kernel)
set_option maxRecDepth 20000 in
theorem gL_law_X5_point : GoodIn wsL_law (wsV RL 70 RX5 yX5_point wsX5_point) := goodIn_app (goodIn_of _ (by decide +kernel)) ggL_law_X5_point
set_option maxRecDepth 20000 in
theorem ggL_law_X5_thrown : GoodIn wsL_law wsX5_thrown := goodIn_r _ [125, 110, 561, 562, 563, 564, 565, 566, 567, 568, 569, 570, 571, 572, 573, 574, 575, 576, 577, 578, 579, 580, 581, 582, 583, 584, 585, 586, 587, 588, 589] (by decide +kernel) (by decide +kernel)
set_option maxRecDepth 20000 in
theorem gL_law_X5_thrown : GoodIn wsL_law (wsV RL 71 RX5 yX5_thrown wsX5_thrown) := goodIn_app (goodIn_of _ (by decide +kernel)) ggL_law_X5_thrown
set_option maxRecDepth 20000 in
theorem ggL_law_L_hint : GoodIn wsL_law wsL_hint := goodIn_ca (goodIn_ca (goodIn_r _ [128, 129, 86, 130, 131, 132, 2, 133, 134, 135, 136, 137, 138, 139, 94, 95, 96, 97, 98, 99, 100, 101, 102, 103, 16, 104, 17, 105, 555, 556, 557, 558, 559, 560, 590, 591, 592, 593] (by decide +kernel) (by decide +kernel)) (goodIn_sub (fun _ h => List.mem_append_right _ h) (by decide +kernel))) (goodIn_sub (fun _ h => List.mem_append_left _ (List.mem_append_right _ h)) (by decide +kernel))
set_option maxRecDepth 20000 in
theorem gL_law_L_hint : GoodIn wsL_law (va_wsS RL 75 yL_hint wsL_hint) := goodIn_app (goodIn_of _ (by decide +kernel)) ggL_law_L_hint
set_option maxRecDepth 20000 in
theorem ggL_law_X5_hint : GoodIn wsL_law wsX5_hint := goodIn_r _ [143, 110, 60, 61, 144, 145, 146, 5, 147, 111, 115, 116, 117, 112, 113, 114, 561, 562, 563, 564, 565, 566, 567, 568, 569, 570, 571, 572, 573, 574, 575, 576, 577, 578, 579, 580, 581, 582, 583, 584, 585, 586, 587, 588, 589] (by decide +kernel) (by decide +kernel)
set_option maxRecDepth 20000 in
theorem gL_law_X5_hint : GoodIn wsL_law (wsV RL 78 RX5 yX5_hint wsX5_hint) := goodIn_app (goodIn_of _ (by decide +kernel)) ggL_law_X5_hint
set_option maxRecDepth 20000 in
theorem ggL_law_L_wish : GoodIn wsL_law wsL_wish := goodIn_ca (goodIn_ca (goodIn_ca (goodIn_r _ [150, 86, 129, 87, 151, 152, 153, 2, 154, 98, 99, 92, 93, 21, 155, 105, 95, 96, 97, 134, 135, 136, 137, 138, 139, 94, 156, 157, 158, 20, 159, 160, 36, 37, 38, 39, 42, 555, 556, 557, 558, 559, 560, 594, 595, 596, 597, 598, 599, 600] (by decide +kernel) (by decide +kernel)) (goodIn_sub (fun _ h => List.mem_append_left _ (List.mem_append_right _ h)) (by decide +kernel))) (goodIn_sub (fun _ h => List.mem_append_left _ (List.mem_append_left _ (List.mem_append_right _ h))) (by decide +kernel))) (goodIn_sub (fun _ h => List.mem_append_right _ h) (by decide +kernel))
set_option maxRecDepth 20000 in
theorem gL_law_L_wish : GoodIn wsL_law (va_wsS RL 79 yL_wish wsL_wish) := goodIn_app (goodIn_of _ (by decide +kernel)) ggL_law_L_wish
set_option maxRecDepth 20000 in
theorem ggL_law_X5_wish : GoodIn wsL_law wsX5_wish := goodIn_r _ [164, 110, 165, 62, 63, 64, 65, 69, 115, 116, 5, 117, 112, 113, 114, 118, 119, 120, 121, 144, 145, 146, 147, 111, 561, 562, 563, 564, 565, 566, 567, 568, 569, 570, 571, 572, 573, 574, 575, 576, 577, 578, 579, 580, 581, 582, 583, 584, 585, 586, 587, 588, 589] (by decide +kernel) (by decide +kernel)
set_option maxRecDepth 20000 in
theorem gL_law_X5_wish : GoodIn wsL_law (wsV RL 82 RX5 yX5_wish wsX5_wish) := goodIn_app (goodIn_of _ (by decide +kernel)) ggL_law_X5_wish
set_option maxRecDepth 20000 in
theorem ggL_law_L_remove : GoodIn wsL_law wsL_remove := goodIn_ca (goodIn_r _ [168, 129, 169, 170, 171, 2, 172, 21, 173, 105, 174, 175, 176, 177, 138, 139, 155, 178, 179, 180, 181, 16, 17, 94, 182, 183, 184, 15, 185, 31, 32, 186, 187, 188, 189, 190, 191, 192, 193, 194, 195, 196, 197, 198, 199, 200, 201, 202, 203, 204, 205, 206, 207, 208, 104, 209, 210, 211, 212, 213, 30, 214, 215, 216, 217, 20, 218, 36, 37, 38, 39, 42, 160, 219, 220, 221, 222, 223, 224, 225, 226, 555, 556, 557, 558, 559, 560, 594, 595, 596, 597, 598, 599, 600, 590, 591, 592, 593] (by decide +kernel) (by decide +kernel)) (goodIn_sub (fun _ h => List.mem_append_right _ h) (by decide +kernel))
set_option maxRecDepth 20000 in
theorem gL_law_L_remove : GoodIn wsL_law (va_wsS RL 83 yL_remove wsL_remove) := goodIn_app (goodIn_of _ (by decide +kernel)) ggL_law_L_remove
set_option maxRecDepth 20000 in
theorem ggL_law_X5_remove : GoodIn wsL_law wsX5_remove := goodIn_r _ [230, 110, 66, 165, 62, 63, 64, 65, 67, 69, 231, 232, 233, 5, 234, 115, 116, 117, 118, 119, 120, 121, 235, 236, 237, 238, 70, 71, 60, 61, 239, 240, 241, 242, 243, 244, 245, 246, 561, 562, 563, 564, 565, 566, 567, 568, 569, 570, 571, 572, 573, 574, 575, 576, 577, 578, 579, 580, 581, 582, 583, 584, 585, 586, 587, 588, 589] (by decide +kernel) (by decide +kernel)
set_option maxRecDepth 20000 in
theorem gL_law_X5_remove : GoodIn wsL_law (wsV RL 86 RX5 yX5_remove wsX5_remove) := goodIn_app (goodIn_of _ (by decide +kernel)) ggL_law_X5_remove
set_option maxRecDepth 20000 in
theorem ggL_law_L_type : GoodIn wsL_law wsL_type := goodIn_ca (goodIn_ca (goodIn_ca (goodIn_r _ [249, 129, 87, 86, 250, 251, 252, 2, 253, 21, 192, 105, 174, 175, 176, 177, 138, 139, 155, 254, 255, 256, 257, 92, 93, 193, 95, 96, 97, 98, 99, 555, 556, 557, 558, 559, 560, 594, 595, 596, 597, 598, 599, 600] (by decide +kernel) (by decide +kernel)) (goodIn_sub (fun _ h => List.mem_append_right _ h) (by decide +kernel))) (goodIn_sub (fun _ h => List.mem_append_left _ (List.mem_append_left _ (List.mem_append_right _ h))) (by decide +kernel))) (goodIn_sub (fun _ h => List.mem_append_left _ (List.mem_append_right _ h)) (by decide +kernel))
set_option maxRecDepth 20000 in
theorem gL_law_L_type : GoodIn wsL_law (va_wsS RL 87 yL_type wsL_type) := goodIn_app (goodIn_of _ (by decide +kernel)) ggL_law_L_type
set_option maxRecDepth 20000 in
theorem ggL_law_X5_type : GoodIn wsL_law wsX5_type := goodIn_r _ [261, 110, 62, 65, 231, 232, 233, 5, 234, 165, 115, 116, 117, 118, 119, 120, 121, 112, 113, 114, 561, 562, 563, 564, 565, 566, 567, 568, 569, 570, 571, 572, 573, 574, 575, 576, 577, 578, 579, 580, 581, 582, 583, 584, 585, 586, 587, 588, 589] (by decide +kernel) (by decide +kernel)
set_option maxRecDepth 20000 in
theorem gL_law_X5_type : GoodIn wsL_law (wsV RL 89 RX5 yX5_type wsX5_type) := goodIn_app (goodIn_of _ (by decide +kernel)) ggL_law_X5_type
set_option maxRecDepth 20000 in
theorem ggL_law_L_state : GoodIn wsL_law wsL_state := goodIn_ca (goodIn_r _ [264, 129, 265, 266, 267, 2, 268, 21, 173, 174, 175, 176, 177, 138, 139, 155, 178, 179, 180, 181, 105, 16, 17, 94, 182, 183, 184, 15, 185, 31, 32, 186, 187, 188, 189, 190, 191, 192, 193, 194, 195, 196, 197, 198, 199, 200, 201, 202, 203, 204, 205, 206, 207, 208, 104, 209, 210, 211, 212, 213, 30, 214, 555, 556, 557, 558, 559, 560, 594, 595, 596, 597, 598, 599, 600, 590, 591, 592, 593] (by decide +kernel) (by decide +kernel)) (goodIn_sub (fun _ h => List.mem_append_right _ h) (by decide +kernel))
set_option maxRecDepth 20000 in
theorem gL_law_L_state : GoodIn wsL_law (va_wsS RL 90 yL_state wsL_state) := goodIn_app (goodIn_of _ (by decide +kernel)) ggL_law_L_state
set_option maxRecDepth 20000 in
theorem ggL_law_X5_state : GoodIn wsL_law wsX5_state := goodIn_r _ [272, 110, 66, 231, 232, 233, 5, 234, 165, 115, 116, 117, 118, 119, 120, 121, 235, 236, 237, 238, 70, 71, 63, 62, 64, 65, 60, 61, 239, 240, 241, 242, 243, 244, 245, 246, 561, 562, 563, 564, 565, 566, 567, 568, 569, 570, 571, 572, 573, 574, 575, 576, 577, 578, 579, 580, 581, 582, 583, 584, 585, 586, 587, 588, 589] (by decide +kernel) (by decide +kernel)
set_option maxRecDepth 20000 in
theorem gL_law_X5_state : GoodIn wsL_law (wsV RL 92 RX5 yX5_state wsX5_state) := goodIn_app (goodIn_of _ (by decide +kernel)) ggL_law_X5_state
set_option maxRecDepth 20000 in
theorem ggL_law_X4_wishes : GoodIn wsL_law wsX4_wishes := goodIn_r _ [276, 21, 155, 555, 556, 557, 558, 559, 560, 594, 595, 596, 597, 598, 599, 600] (by decide +kernel) (by decide +kernel)
set_option maxRecDepth 20000 in
theorem gL_law_X4_wishes : GoodIn wsL_law (wsV RL 93 RX4 yX4_wishes wsX4_wishes) := goodIn_app (goodIn_of _ (by decide +kernel)) ggL_law_X4_wishes
set_option maxRecDepth 20000 in
theorem ggL_law_X5_wishes : GoodIn wsL_law wsX5_wishes := goodIn_r _ [280, 110, 165, 561, 562, 563, 564, 565, 566, 567, 568, 569, 570, 571, 572, 573, 574, 575, 576, 577, 578, 579, 580, 581, 582, 583, 584, 585, 586, 587, 588, 589] (by decide +kernel) (by decide +kernel)
set_option maxRecDepth 20000 in
theorem gL_law_X5_wishes : GoodIn wsL_law (wsV RL 96 RX5 yX5_wishes wsX5_wishes) := goodIn_app (goodIn_of _ (by decide +kernel)) ggL_law_X5_wishes
set_option maxRecDepth 20000 in
theorem ggL_law_X4_freedom : GoodIn wsL_law wsX4_freedom := goodIn_r _ [284, 16, 285, 17, 178, 179, 180, 2, 181, 105, 21, 155, 173, 94, 182, 183, 184, 15, 185, 31, 32, 186, 187, 188, 189, 190, 191, 192, 193, 194, 195, 196, 197, 198, 199, 200, 201, 202, 203, 204, 205, 206, 207, 208, 104, 209, 210, 211, 212, 213, 30, 214, 555, 556, 557, 558, 559, 560, 590, 591, 592, 593, 594, 595, 596, 597, 598, 599, 600] (by decide +kernel) (by decide +kernel)
set_option maxRecDepth 20000 in
theorem gL_law_X4_freedom : GoodIn wsL_law (wsV RL 97 RX4 yX4_freedom wsX4_freedom) := goodIn_app (goodIn_of _ (by decide +kernel)) ggL_law_X4_freedom
set_option maxRecDepth 20000 in
theorem ggL_law_X5_freedom : GoodIn wsL_law wsX5_freedom := goodIn_r _ [289, 110, 111, 70, 235, 236, 237, 5, 238, 71, 165, 63, 62, 66, 64, 65, 60, 61, 239, 240, 241, 242, 243, 244, 245, 246, 561, 562, 563, 564, 565, 566, 567, 568, 569, 570, 571, 572, 573, 574, 575, 576, 577, 578, 579, 580, 581, 582, 583, 584, 585, 586, 587, 588, 589] (by decide +kernel) (by decide +kernel)
set_option maxRecDepth 20000 in
theorem gL_law_X5_freedom : GoodIn wsL_law (wsV RL 100 RX5 yX5_freedom wsX5_freedom) := goodIn_app (goodIn_of _ (by decide +kernel)) ggL_law_X5_freedom
set_option maxRecDepth 20000 in
theorem ggL_law_L_x : GoodIn wsL_law wsL_x := goodIn_ca (goodIn_r _ [292, 129, 293, 294, 295, 2, 296, 16, 134, 135, 136, 137, 138, 139, 94, 178, 179, 180, 181, 105, 17, 21, 155, 173, 182, 183, 184, 15, 185, 31, 32, 186, 187, 188, 189, 190, 191, 192, 193, 194, 195, 196, 197, 198, 199, 200, 201, 202, 203, 204, 205, 206, 207, 208, 104, 209, 210, 211, 212, 213, 30, 214, 297, 298, 299, 300, 555, 556, 557, 558, 559, 560, 594, 595, 596, 597, 598, 599, 600, 590, 591, 592, 593] (by decide +kernel) (by decide +kernel)) (goodIn_sub (fun _ h => List.mem_append_right _ h) (by decide +kernel))
set_option maxRecDepth 20000 in
theorem gL_law_L_x : GoodIn wsL_law (va_wsS RL 101 yL_x wsL_x) := goodIn_app (goodIn_of _ (by decide +kernel)) ggL_law_L_x
set_option maxRecDepth 20000 in
theorem ggL_law_X5_x : GoodIn wsL_law wsX5_x := goodIn_r _ [304, 110, 144, 145, 146, 5, 147, 111, 115, 116, 117, 118, 119, 120, 121, 235, 236, 237, 238, 70, 71, 165, 63, 62, 66, 64, 65, 60, 61, 239, 240, 241, 242, 243, 244, 245, 246, 305, 306, 307, 308, 561, 562, 563, 564, 565, 566, 567, 568, 569, 570, 571, 572, 573, 574, 575, 576, 577, 578, 579, 580, 581, 582, 583, 584, 585, 586, 587, 588, 589] (by decide +kernel) (by decide +kernel)
set_option maxRecDepth 20000 in
theorem gL_law_X5_x : GoodIn wsL_law (wsV RL 103 RX5 yX5_x wsX5_x) := goodIn_app (goodIn_of _ (by decide +kernel)) ggL_law_X5_x
set_option maxRecDepth 20000 in
theorem ggL_law_L_y : GoodIn wsL_law wsL_y := goodIn_ca (goodIn_r _ [311, 129, 312, 313, 314, 2, 315, 17, 134, 135, 136, 137, 138, 139, 94, 178, 179, 180, 181, 105, 16, 21, 155, 173, 182, 183, 184, 15, 185, 31, 32, 186, 187, 188, 189, 190, 191, 192, 193, 194, 195, 196, 197, 198, 199, 200, 201, 202, 203, 204, 205, 206, 207, 208, 104, 209, 210, 211, 212, 213, 30, 214, 297, 298, 299, 300, 555, 556, 557, 558, 559, 560, 594, 595, 596, 597, 598, 599, 600, 590, 591, 592, 593] (by decide +kernel) (by decide +kernel)) (goodIn_sub (fun _ h => List.mem_append_right _ h) (by decide +kernel))
set_option maxRecDepth 20000 in
theorem gL_law_L_y : GoodIn wsL_law (va_wsS RL 104 yL_y wsL_y) := goodIn_app (goodIn_of _ (by decide +kernel)) ggL_law_L_y
set_option maxRecDepth 20000 in
theorem ggL_law_X5_y : GoodIn wsL_law wsX5_y := goodIn_r _ [319, 110, 144, 145, 146, 5, 147, 111, 115, 116, 117, 118, 119, 120, 121, 235, 236, 237, 238, 70, 71, 165, 63, 62, 66, 64, 65, 60, 61, 239, 240, 241, 242, 243, 244, 245, 246, 305, 306, 307, 308, 561, 562, 563, 564, 565, 566, 567, 568, 569, 570, 571, 572, 573, 574, 575, 576, 577, 578, 579, 580, 581, 582, 583, 584, 585, 586, 587, 588, 589] (by decide +kernel) (by decide +kernel)
set_option maxRecDepth 20000 in
theorem gL_law_X5_y : GoodIn wsL_law (wsV RL 106 RX5 yX5_y wsX5_y) := goodIn_app (goodIn_of _ (by decide +kernel)) ggL_law_X5_y
set_option maxRecDepth 20000 in
theorem ggL_law_L_tell : GoodIn wsL_law wsL_tell := goodIn_ca (goodIn_ca (goodIn_ca (goodIn_r _ [322, 86, 129, 87, 323, 324, 325, 2, 326, 21, 327, 328, 329, 330, 98, 99, 95, 96, 97, 174, 175, 176, 177, 138, 139, 155, 254, 255, 256, 257, 92, 93, 193, 331, 332, 333, 20, 334, 160, 42, 555, 556, 557, 558, 559, 560, 594, 595, 596, 597, 598, 599, 600] (by decide +kernel) (by decide +kernel)) (goodIn_sub (fun _ h => List.mem_append_left _ (List.mem_append_right _ h)) (by decide +kernel))) (goodIn_sub (fun _ h => List.mem_append_right _ h) (by decide +kernel))) (goodIn_sub (fun _ h => List.mem_append_left _ (List.mem_append_left _ (List.mem_append_right _ h))) (by decide +kernel))
set_option maxRecDepth 20000 in
theorem gL_law_L_tell : GoodIn wsL_law (va_wsS RL 107 yL_tell wsL_tell) := goodIn_app (goodIn_of _ (by decide +kernel)) ggL_law_L_tell
set_option maxRecDepth 20000 in
theorem ggL_law_X5_tell : GoodIn wsL_law wsX5_tell := goodIn_r _ [338, 110, 62, 67, 69, 165, 115, 116, 5, 117, 112, 113, 114, 118, 119, 120, 121, 231, 232, 233, 234, 561, 562, 563, 564, 565, 566, 567, 568, 569, 570, 571, 572, 573, 574, 575, 576, 577, 578, 579, 580, 581, 582, 583, 584, 585, 586, 587, 588, 589] (by decide +kernel) (by decide +kernel)
set_option maxRecDepth 20000 in
theorem gL_law_X5_tell : GoodIn wsL_law (wsV RL 110 RX5 yX5_tell wsX5_tell) := goodIn_app (goodIn_of _ (by decide +kernel)) ggL_law_X5_tell
set_option maxRecDepth 20000 in
theorem ggL_law_L_choose : GoodIn wsL_law wsL_choose := goodIn_ca (goodIn_r _ [341, 86, 342, 343, 344, 2, 345, 105, 21, 328, 329, 330, 98, 99, 346, 347, 348, 20, 349, 160, 42, 39, 555, 556, 557, 558, 559, 560, 594, 595, 596, 597, 598, 599, 600] (by decide +kernel) (by decide +kernel)) (goodIn_sub (fun _ h => List.mem_append_left _ (List.mem_append_right _ h)) (by decide +kernel))
set_option maxRecDepth 20000 in
theorem gL_law_L_choose : GoodIn wsL_law (va_wsS RL 111 yL_choose wsL_choose) := goodIn_app (goodIn_of _ (by decide +kernel)) ggL_law_L_choose
set_option maxRecDepth 20000 in
theorem ggL_law_X5_choose : GoodIn wsL_law wsX5_choose := goodIn_r _ [353, 110, 165, 69, 65, 67, 115, 116, 5, 117, 118, 119, 120, 121, 561, 562, 563, 564, 565, 566, 567, 568, 569, 570, 571, 572, 573, 574, 575, 576, 577, 578, 579, 580, 581, 582, 583, 584, 585, 586, 587, 588, 589] (by decide +kernel) (by decide +kernel)
set_option maxRecDepth 20000 in
theorem gL_law_X5_choose : GoodIn wsL_law (wsV RL 113 RX5 yX5_choose wsX5_choose) := goodIn_app (goodIn_of _ (by decide +kernel)) ggL_law_X5_choose
set_option maxRecDepth 20000 in
theorem ggL_law_L_setBase : GoodIn wsL_law wsL_setBase := goodIn_ca (goodIn_ca (goodIn_r _ [356, 129, 86, 357, 358, 359, 2, 360, 25, 361, 134, 135, 136, 137, 138, 139, 94, 362, 363, 364, 98, 99, 365, 366, 367, 24, 368, 369, 370, 371, 372, 373, 48, 374, 375, 376, 52, 377, 378, 379, 380, 381, 382, 383, 384, 385, 16, 17, 178, 179, 180, 181, 105, 21, 155, 173, 182, 183, 184, 15, 185, 31, 32, 186, 187, 188, 189, 190, 191, 192, 193, 194, 195, 196, 197, 198, 199, 200, 201, 202, 203, 204, 205, 206, 207, 208, 104, 209, 210, 211, 212, 213, 30, 214, 386, 387, 388, 389, 390, 391, 392, 393, 394, 395, 396, 397, 398, 399, 400, 401, 402, 403, 404, 405, 406, 407, 408, 409, 410, 411, 412, 413, 298, 299, 300, 414, 415, 416, 417, 418, 555, 556, 557, 558, 559, 560, 606, 607, 608, 609, 610, 611, 612, 613, 614, 615, 601, 602, 603, 604, 605, 594, 595, 596, 597, 598, 599, 600, 590, 591, 592, 593] (by decide +kernel) (by decide +kernel)) (goodIn_sub (fun _ h => List.mem_append_right _ h) (by decide +kernel))) (goodIn_sub (fun _ h => List.mem_append_left _ (List.mem_append_right _ h)) (by decide +kernel))
set_option maxRecDepth 20000 in
theorem gL_law_L_setBase : GoodIn wsL_law (va_wsS RL 114 yL_setBase wsL_setBase) := goodIn_app (goodIn_of _ (by decide +kernel)) ggL_law_L_setBase
set_option maxRecDepth 20000 in
theorem ggL_law_X5_setBase : GoodIn wsL_law wsX5_setBase := goodIn_r _ [422, 110, 423, 424, 425, 426, 78, 144, 145, 146, 5, 147, 111, 115, 116, 117, 427, 428, 429, 430, 431, 75, 72, 73, 77, 74, 235, 236, 237, 238, 70, 71, 165, 63, 62, 66, 64, 65, 60, 61, 239, 240, 241, 242, 243, 244, 245, 246, 432, 433, 434, 435, 76, 305, 306, 307, 308, 436, 437, 438, 439, 440, 441, 442, 443, 561, 562, 563, 564, 565, 566, 567, 568, 569, 570, 571, 572, 573, 574, 575, 576, 577, 578, 579, 580, 581, 582, 583, 584, 585, 586, 587, 588, 589] (by decide +kernel) (by decide +kernel)
set_option maxRecDepth 20000 in
theorem gL_law_X5_setBase : GoodIn wsL_law (wsV RL 116 RX5 yX5_setBase wsX5_setBase) := goodIn_app (goodIn_of _ (by decide +kernel)) ggL_law_X5_setBase
set_option maxRecDepth 20000 in
theorem ggL_law_L_pocket : GoodIn wsL_law wsL_pocket := goodIn_ca (goodIn_ca (goodIn_ca (goodIn_r _ [446, 129, 86, 87, 447, 448, 449, 2, 450, 92, 93, 25, 451, 452, 134, 135, 136, 137, 138, 139, 94, 453, 454, 455, 456, 362, 363, 364, 98, 99, 457, 458, 459, 24, 460, 390, 392, 393, 394, 395, 48, 374, 375, 376, 52, 377, 378, 379, 380, 381, 555, 556, 557, 558, 559, 560, 601, 602, 603, 604, 605, 606, 607, 608, 609, 610, 611, 612, 613, 614, 615] (by decide +kernel) (by decide +kernel)) (goodIn_sub (fun _ h => List.mem_append_left _ (List.mem_append_left _ (List.mem_append_right _ h))) (by decide +kernel))) (goodIn_sub (fun _ h => List.mem_append_right _ h) (by decide +kernel))) (goodIn_sub (fun _ h => List.mem_append_left _ (List.mem_append_right _ h)) (by decide +kernel))
set_option maxRecDepth 20000 in
theorem gL_law_L_pocket : GoodIn wsL_law (va_wsS RL 117 yL_pocket wsL_pocket) := goodIn_app (goodIn_of _ (by decide +kernel)) ggL_law_L_pocket
set_option maxRecDepth 20000 in
theorem ggL_law_X5_pocket : GoodIn wsL_law wsX5_pocket := goodIn_r _ [464, 110, 431, 423, 72, 73, 74, 75, 144, 145, 146, 5, 147, 111, 115, 116, 117, 118, 119, 120, 121, 561, 562, 563, 564, 565, 566, 567, 568, 569, 570, 571, 572, 573, 574, 575, 576, 577, 578, 579, 580, 581, 582, 583, 584, 585, 586, 587, 588, 589] (by decide +kernel) (by decide +kernel)
set_option maxRecDepth 20000 in
theorem gL_law_X5_pocket : GoodIn wsL_law (wsV RL 119 RX5 yX5_pocket wsX5_pocket) := goodIn_app (goodIn_of _ (by decide +kernel)) ggL_law_X5_pocket
set_option maxRecDepth 20000 in
theorem ggL_law_L_fails : GoodIn wsL_law wsL_fails := goodIn_ca (goodIn_r _ [467, 129, 468, 469, 470, 2, 471, 25, 361, 453, 454, 455, 456, 138, 139, 452, 382, 383, 384, 385, 16, 17, 178, 179, 180, 181, 105, 21, 155, 173, 94, 182, 183, 184, 15, 185, 31, 32, 186, 187, 188, 189, 190, 191, 192, 193, 194, 195, 196, 197, 198, 199, 200, 201, 202, 203, 204, 205, 206, 207, 208, 104, 209, 210, 211, 212, 213, 30, 214, 386, 387, 388, 24, 389, 369, 390, 391, 392, 393, 394, 395, 48, 370, 371, 372, 373, 396, 397, 398, 52, 399, 378, 379, 400, 401, 402, 403, 404, 405, 406, 407, 408, 409, 410, 381, 411, 412, 380, 413, 298, 299, 300, 414, 415, 416, 417, 472, 555, 556, 557, 558, 559, 560, 606, 607, 608, 609, 610, 611, 612, 613, 614, 615, 601, 602, 603, 604, 605, 594, 595, 596, 597, 598, 599, 600, 590, 591, 592, 593] (by decide +kernel) (by decide +kernel)) (goodIn_sub (fun _ h => List.mem_append_right _ h) (by decide +kernel))
set_option maxRecDepth 20000 in
theorem gL_law_L_fails : GoodIn wsL_law (va_wsS RL 120 yL_fails wsL_fails) := goodIn_app (goodIn_of _ (by decide +kernel)) ggL_law_L_fails
set_option maxRecDepth 20000 in
theorem ggL_law_X5_fails : GoodIn wsL_law wsX5_fails := goodIn_r _ [476, 431, 110, 78, 115, 116, 5, 117, 427, 428, 429, 430, 423, 424, 425, 75, 72, 73, 77, 74, 426, 235, 236, 237, 238, 70, 71, 165, 63, 62, 66, 64, 65, 60, 61, 239, 240, 241, 242, 243, 244, 245, 246, 432, 433, 434, 435, 76, 305, 306, 307, 308, 436, 437, 438, 439, 440, 441, 442, 443, 561, 562, 563, 564, 565, 566, 567, 568, 569, 570, 571, 572, 573, 574, 575, 576, 577, 578, 579, 580, 581, 582, 583, 584, 585, 586, 587, 588, 589] (by decide +kernel) (by decide +kernel)
set_option maxRecDepth 20000 in
theorem gL_law_X5_fails : GoodIn wsL_law (wsV RL 122 RX5 yX5_fails wsX5_fails) := goodIn_app (goodIn_of _ (by decide +kernel)) ggL_law_X5_fails
set_option maxRecDepth 20000 in
theorem ggL_law_X4_volume : GoodIn wsL_law wsX4_volume := goodIn_r _ [480, 25, 382, 383, 384, 2, 385, 16, 17, 178, 179, 180, 181, 105, 21, 155, 173, 94, 182, 183, 184, 15, 185, 31, 32, 186, 187, 188, 189, 190, 191, 192, 193, 194, 195, 196, 197, 198, 199, 200, 201, 202, 203, 204, 205, 206, 207, 208, 104, 209, 210, 211, 212, 213, 30, 214, 386, 387, 388, 24, 389, 369, 390, 391, 392, 393, 394, 395, 48, 370, 371, 372, 373, 396, 397, 398, 52, 399, 378, 379, 400, 401, 402, 403, 404, 405, 406, 407, 408, 409, 410, 381, 411, 412, 380, 413, 298, 299, 300, 414, 415, 416, 417, 481, 482, 483, 484, 485, 486, 487, 488, 489, 490, 491, 492, 493, 49, 50, 494, 495, 496, 497, 498, 499, 500, 501, 502, 503, 504, 505, 506, 507, 508, 509, 510, 511, 512, 513, 514, 515, 516, 517, 518, 519, 520, 521, 522, 523, 555, 556, 557, 558, 559, 560, 594, 595, 596, 597, 598, 599, 600, 590, 591, 592, 593, 601, 602, 603, 604, 605, 606, 607, 608, 609, 610, 611, 612, 613, 614, 615] (by decide +kernel) (by decide +kernel)
set_option maxRecDepth 20000 in
theorem gL_law_X4_volume : GoodIn wsL_law (wsV RL 123 RX4 yX4_volume wsX4_volume) := goodIn_app (goodIn_of _ (by decide +kernel)) ggL_law_X4_volume
set_option maxRecDepth 20000 in
theorem ggL_law_X5_volume : GoodIn wsL_law wsX5_volume := goodIn_r _ [527, 110, 78, 427, 428, 429, 5, 430, 423, 424, 425, 431, 75, 72, 73, 77, 74, 426, 235, 236, 237, 238, 70, 71, 165, 63, 62, 66, 64, 65, 60, 61, 239, 240, 241, 242, 243, 244, 245, 246, 432, 433, 434, 435, 76, 305, 306, 307, 308, 436, 437, 438, 439, 440, 441, 442, 443, 528, 529, 530, 531, 532, 533, 534, 535, 79, 80, 81, 536, 537, 538, 539, 540, 541, 542, 561, 562, 563, 564, 565, 566, 567, 568, 569, 570, 571, 572, 573, 574, 575, 576, 577, 578, 579, 580, 581, 582, 583, 584, 585, 586, 587, 588, 589] (by decide +kernel) (by decide +kernel)
set_option maxRecDepth 20000 in
theorem gL_law_X5_volume : GoodIn wsL_law (wsV RL 126 RX5 yX5_volume wsX5_volume) := goodIn_app (goodIn_of _ (by decide +kernel)) ggL_law_X5_volume
set_option maxRecDepth 20000 in
theorem ggL_law_X4_price : GoodIn wsL_law wsX4_price := goodIn_r _ [546, 25, 382, 383, 384, 2, 385, 16, 17, 178, 179, 180, 181, 105, 21, 155, 173, 94, 182, 183, 184, 15, 185, 31, 32, 186, 187, 188, 189, 190, 191, 192, 193, 194, 195, 196, 197, 198, 199, 200, 201, 202, 203, 204, 205, 206, 207, 208, 104, 209, 210, 211, 212, 213, 30, 214, 386, 387, 388, 24, 389, 369, 390, 391, 392, 393, 394, 395, 48, 370, 371, 372, 373, 396, 397, 398, 52, 399, 378, 379, 400, 401, 402, 403, 404, 405, 406, 407, 408, 409, 410, 381, 411, 412, 380, 413, 298, 299, 300, 414, 415, 416, 417, 481, 482, 483, 484, 485, 486, 487, 488, 489, 490, 491, 492, 493, 49, 50, 494, 495, 496, 497, 498, 499, 500, 501, 502, 503, 504, 505, 506, 507, 508, 509, 510, 511, 512, 513, 514, 515, 516, 517, 518, 519, 520, 521, 522, 523, 547, 548, 549, 550, 555, 556, 557, 558, 559, 560, 594, 595, 596, 597, 598, 599, 600, 590, 591, 592, 593, 601, 602, 603, 604, 605, 606, 607, 608, 609, 610, 611, 612, 613, 614, 615] (by decide +kernel) (by decide +kernel)
set_option maxRecDepth 20000 in
theorem gL_law_X4_price : GoodIn wsL_law (wsV RL 127 RX4 yX4_price wsX4_price) := goodIn_app (goodIn_of _ (by decide +kernel)) ggL_law_X4_price
set_option maxRecDepth 20000 in
theorem ggL_law_X5_price : GoodIn wsL_law wsX5_price := goodIn_r _ [554, 110, 78, 431, 74, 427, 428, 429, 5, 430, 423, 424, 425, 75, 72, 73, 77, 426, 235, 236, 237, 238, 70, 71, 165, 63, 62, 66, 64, 65, 60, 61, 239, 240, 241, 242, 243, 244, 245, 246, 432, 433, 434, 435, 76, 305, 306, 307, 308, 436, 437, 438, 439, 440, 441, 442, 443, 528, 529, 530, 531, 532, 533, 534, 535, 79, 80, 81, 536, 537, 538, 539, 540, 541, 542, 561, 562, 563, 564, 565, 566, 567, 568, 569, 570, 571, 572, 573, 574, 575, 576, 577, 578, 579, 580, 581, 582, 583, 584, 585, 586, 587, 588, 589] (by decide +kernel) (by decide +kernel)
set_option maxRecDepth 20000 in
theorem gL_law_X5_price : GoodIn wsL_law (wsV RL 130 RX5 yX5_price wsX5_price) := goodIn_app (goodIn_of _ (by decide +kernel)) ggL_law_X5_price
