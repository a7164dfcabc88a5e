/-! The law: words of its calls -/
set_option maxRecDepth 20000 in
theorem ggL_low_X3_low : GoodIn wsL_low wsX3_low := goodIn_ca (goodIn_r _ [6, 7, 8, 9, 5, 10, 11, 12, 13, 14, 15, 16, 17, 18, 19, 20, 21, 22, 23, 24, 25, 26, 27, 28, 29, 30, 31, 32, 33, 34] (by decide +kernel) (by decide +kernel)) (goodIn_sub (fun _ h => List.mem_cons_of_mem _ (List.mem_append_right _ h)) (by decide +kernel))
set_option maxRecDepth 20000 in
theorem gL_low_X3_low : GoodIn wsL_low (wsV RL 7 RX3 yX3_low wsX3_low) := goodIn_app (goodIn_of _ (by decide +kernel)) ggL_low_X3_low
set_option maxRecDepth 20000 in
theorem ggL_high_X3_high : GoodIn wsL_high wsX3_high := goodIn_ca (goodIn_r _ [6, 7, 8, 9, 5, 10, 11, 12, 13, 14, 15, 16, 17, 18, 19, 20, 21, 22, 23, 24, 25, 26, 27, 28, 29, 30, 31, 32, 33, 34] (by decide +kernel) (by decide +kernel)) (goodIn_sub (fun _ h => List.mem_cons_of_mem _ (List.mem_append_right _ h)) (by decide +kernel))
set_option maxRecDepth 20000 in
theorem gL_high_X3_high : GoodIn wsL_high (wsV RL 15 RX3 yX3_high wsX3_high) := goodIn_app (goodIn_of _ (by decide +kernel)) ggL_high_X3_high
set_option maxRecDepth 20000 in
theorem ggL_add_X3_add : GoodIn wsL_add wsX3_add := goodIn_ca (goodIn_ca (goodIn_r _ [7, 8, 9, 10, 6, 11, 12, 13, 14, 15, 16, 17, 18, 19, 20, 21, 22, 23, 24, 25, 26, 27, 28, 29, 30, 31, 32, 33, 34, 35, 36, 37, 38, 39, 40, 41, 42, 43, 44, 45, 46, 47, 48, 49, 50, 51, 52, 53, 54, 55, 56, 57, 58, 59, 60, 61, 62, 63, 64, 65, 66, 67, 68, 69, 70, 71, 72, 73, 74, 75, 76, 77, 78, 79, 80, 81, 82, 83, 84, 85, 86, 87, 88, 89, 90] (by decide +kernel) (by decide +kernel)) (goodIn_sub (fun _ h => List.mem_cons_of_mem _ (List.mem_append_left _ (List.mem_append_right _ h))) (by decide +kernel))) (goodIn_sub (fun _ h => List.mem_cons_of_mem _ (List.mem_append_right _ h)) (by decide +kernel))
set_option maxRecDepth 20000 in
theorem gL_add_X3_add : GoodIn wsL_add (wsV RL 18 RX3 yX3_add wsX3_add) := goodIn_app (goodIn_of _ (by decide +kernel)) ggL_add_X3_add
set_option maxRecDepth 20000 in
theorem ggL_addRow_X3_addRow : GoodIn wsL_addRow wsX3_addRow := goodIn_ca (goodIn_ca (goodIn_r _ [7, 8, 9, 10, 11, 12, 6, 13, 14, 15, 16, 17, 18, 19, 20, 21, 22, 23, 24, 25, 26, 27, 28, 29, 30, 31, 32, 33, 34, 35, 36, 37, 38, 39, 40, 41, 42, 43, 44, 45, 46, 47, 48, 49, 50, 51, 52, 53, 54, 55, 56, 57, 58, 59, 60, 61, 62, 63, 64, 65, 66, 67, 68, 69, 70, 71, 72, 73, 74, 75, 76, 77, 78, 79, 80, 81, 82, 83, 84, 85, 86, 87, 88, 89, 90, 91, 92, 93, 94, 95, 96, 97, 98, 99, 100, 101, 102, 103, 104] (by decide +kernel) (by decide +kernel)) (goodIn_sub (fun _ h => List.mem_cons_of_mem _ (List.mem_append_left _ (List.mem_append_right _ h))) (by decide +kernel))) (goodIn_sub (fun _ h => List.mem_cons_of_mem _ (List.mem_append_right _ h)) (by decide +kernel))
set_option maxRecDepth 20000 in
theorem gL_addRow_X3_addRow : GoodIn wsL_addRow (wsV RL 24 RX3 yX3_addRow wsX3_addRow) := goodIn_app (goodIn_of _ (by decide +kernel)) ggL_addRow_X3_addRow
set_option maxRecDepth 20000 in
theorem ggL_move_X3_move : GoodIn wsL_move wsX3_move := goodIn_ca (goodIn_ca (goodIn_r _ [7, 8, 9, 10, 11, 12, 6, 13, 14, 15, 16, 17, 18, 19, 20, 21, 22, 23, 24, 25, 26, 27, 28, 29, 30, 31, 32, 33, 34, 35, 36, 37, 38, 39, 40, 41, 42, 43, 44, 45, 46, 47, 48, 49, 50, 51, 52, 53, 54, 55, 56, 57, 58, 59, 60, 61, 62, 63, 64, 65, 66, 67, 68, 69, 70, 71, 72, 73, 74, 75, 76, 77, 78, 79, 80, 81, 82, 83, 84, 85] (by decide +kernel) (by decide +kernel)) (goodIn_sub (fun _ h => List.mem_cons_of_mem _ (List.mem_append_left _ (List.mem_append_right _ h))) (by decide +kernel))) (goodIn_sub (fun _ h => List.mem_cons_of_mem _ (List.mem_append_right _ h)) (by decide +kernel))
set_option maxRecDepth 20000 in
theorem gL_move_X3_move : GoodIn wsL_move (wsV RL 28 RX3 yX3_move wsX3_move) := goodIn_app (goodIn_of _ (by decide +kernel)) ggL_move_X3_move
set_option maxRecDepth 20000 in
theorem ggL_shift_X3_shift : GoodIn wsL_shift wsX3_shift := goodIn_ca (goodIn_ca (goodIn_r _ [7, 8, 9, 10, 11, 12, 13, 6, 14, 15, 16, 17, 18, 19, 20, 21, 22, 23, 24, 25, 26, 27, 28, 29, 30, 31, 32, 33, 34, 35, 36, 37, 38, 39, 40, 41, 42, 43, 44, 45, 46, 47, 48, 49, 50, 51, 52, 53, 54, 55, 56, 57, 58, 59, 60, 61, 62, 63, 64, 65, 66, 67, 68, 69, 70, 71, 72, 73, 74, 75, 76, 77, 78, 79, 80, 81, 82, 83, 84, 85, 86, 87] (by decide +kernel) (by decide +kernel)) (goodIn_sub (fun _ h => List.mem_cons_of_mem _ (List.mem_append_left _ (List.mem_append_right _ h))) (by decide +kernel))) (goodIn_sub (fun _ h => List.mem_cons_of_mem _ (List.mem_append_right _ h)) (by decide +kernel))
set_option maxRecDepth 20000 in
theorem gL_shift_X3_shift : GoodIn wsL_shift (wsV RL 34 RX3 yX3_shift wsX3_shift) := goodIn_app (goodIn_of _ (by decide +kernel)) ggL_shift_X3_shift
set_option maxRecDepth 20000 in
theorem ggL_filter_X3_filter : GoodIn wsL_filter wsX3_filter := goodIn_ca (goodIn_r _ [6, 7, 8, 9, 10, 5, 11, 12, 13, 14, 15, 16, 17, 18, 19, 20, 21, 22, 23, 24, 25, 26, 27, 28, 29, 30, 31, 32, 33, 34, 35, 36, 37, 38, 39, 40, 41, 42, 43] (by decide +kernel) (by decide +kernel)) (goodIn_sub (fun _ h => List.mem_cons_of_mem _ (List.mem_append_right _ h)) (by decide +kernel))
set_option maxRecDepth 20000 in
theorem gL_filter_X3_filter : GoodIn wsL_filter (wsV RL 38 RX3 yX3_filter wsX3_filter) := goodIn_app (goodIn_of _ (by decide +kernel)) ggL_filter_X3_filter
set_option maxRecDepth 20000 in
theorem ggL_remove_X3_remove : GoodIn wsL_remove wsX3_remove := goodIn_ca (goodIn_r _ [6, 7, 8, 9, 10, 11, 12, 5, 13, 14, 15, 16, 17, 18, 19, 20, 21, 22, 23, 24, 25, 26, 27, 28, 29, 30, 31, 32, 33, 34, 35, 36, 37, 38, 39, 40, 41, 42, 43, 44, 45, 46, 47, 48, 49, 50, 51, 52, 53, 54, 55, 56, 57, 58, 59, 60, 61, 62, 63, 64, 65] (by decide +kernel) (by decide +kernel)) (goodIn_sub (fun _ h => List.mem_cons_of_mem _ (List.mem_append_right _ h)) (by decide +kernel))
set_option maxRecDepth 20000 in
theorem gL_remove_X3_remove : GoodIn wsL_remove (wsV RL 42 RX3 yX3_remove wsX3_remove) := goodIn_app (goodIn_of _ (by decide +kernel)) ggL_remove_X3_remove
set_option maxRecDepth 20000 in
theorem ggL_update_X3_update : GoodIn wsL_update wsX3_update := goodIn_ca (goodIn_r _ [6, 7, 8, 9, 10, 11, 12, 13, 14, 15, 16, 17, 18, 19, 20, 21, 22, 23, 24, 25, 26, 27, 28, 29, 30, 5, 31, 32, 33, 34, 35, 36, 37, 38, 39, 40, 41, 42, 43, 44, 45, 46, 47, 48, 49, 50, 51, 52, 53, 54, 55, 56, 57, 58, 59, 60, 61, 62, 63, 64, 65, 66, 67, 68, 69, 70, 71, 72, 73, 74, 75, 76, 77, 78, 79, 80, 81, 82, 83, 84, 85, 86, 87, 88, 89, 90] (by decide +kernel) (by decide +kernel)) (goodIn_sub (fun _ h => List.mem_cons_of_mem _ (List.mem_append_right _ h)) (by decide +kernel))
set_option maxRecDepth 20000 in
theorem gL_update_X3_update : GoodIn wsL_update (wsV RL 46 RX3 yX3_update wsX3_update) := goodIn_app (goodIn_of _ (by decide +kernel)) ggL_update_X3_update
set_option maxRecDepth 20000 in
theorem ggL_pair_X3_pair : GoodIn wsL_pair wsX3_pair := goodIn_ca (goodIn_r _ [6, 7, 8, 9, 10, 11, 12, 13, 14, 15, 16, 17, 18, 19, 20, 21, 22, 23, 24, 25, 26, 27, 28, 29, 30, 31, 32, 33, 34, 35, 36, 37, 38, 39, 40, 41, 42] (by decide +kernel) (by decide +kernel)) (goodIn_sub (fun _ h => List.mem_cons_of_mem _ (List.mem_append_right _ h)) (by decide +kernel))
set_option maxRecDepth 20000 in
theorem gL_pair_X3_pair : GoodIn wsL_pair (wsV RL 50 RX3 yX3_pair wsX3_pair) := goodIn_app (goodIn_of _ (by decide +kernel)) ggL_pair_X3_pair
set_option maxRecDepth 20000 in
theorem ggL_paired_X3_paired : GoodIn wsL_paired wsX3_paired := goodIn_ca (goodIn_r _ [6, 7, 8, 9, 5, 10, 11, 12, 13, 14, 15, 16, 17, 18, 19, 20, 21, 22, 23, 24, 25, 26, 27, 28, 29, 30, 31, 32, 33, 34, 35, 36, 37, 38, 39, 40, 41, 42, 43, 44, 45, 46, 47, 48, 49, 50, 51] (by decide +kernel) (by decide +kernel)) (goodIn_sub (fun _ h => List.mem_cons_of_mem _ (List.mem_append_right _ h)) (by decide +kernel))
set_option maxRecDepth 20000 in
theorem gL_paired_X3_paired : GoodIn wsL_paired (wsV RL 53 RX3 yX3_paired wsX3_paired) := goodIn_app (goodIn_of _ (by decide +kernel)) ggL_paired_X3_paired
set_option maxRecDepth 20000 in
theorem ggL_overlapping_X3_overlapping : GoodIn wsL_overlapping wsX3_overlapping := goodIn_ca (goodIn_r _ [6, 7, 8, 9, 10, 11, 12, 13, 14, 15, 5, 16, 17, 18, 19, 20, 21, 22, 23, 24, 25, 26, 27, 28, 29, 30, 31, 32, 33, 34, 35, 36, 37, 38, 39, 40, 41, 42, 43, 44, 45, 46, 47, 48, 49, 50, 51, 52, 53] (by decide +kernel) (by decide +kernel)) (goodIn_sub (fun _ h => List.mem_cons_of_mem _ (List.mem_append_right _ h)) (by decide +kernel))
set_option maxRecDepth 20000 in
theorem gL_overlapping_X3_overlapping : GoodIn wsL_overlapping (wsV RL 57 RX3 yX3_overlapping wsX3_overlapping) := goodIn_app (goodIn_of _ (by decide +kernel)) ggL_overlapping_X3_overlapping
set_option maxRecDepth 20000 in
theorem ggL_found_X3_found : GoodIn wsL_found wsX3_found := goodIn_ca (goodIn_r _ [6, 7, 8, 9, 10, 5, 11, 12, 13, 14, 15, 16, 17, 18, 19, 20, 21, 22, 23, 24, 25, 26] (by decide +kernel) (by decide +kernel)) (goodIn_sub (fun _ h => List.mem_cons_of_mem _ (List.mem_append_right _ h)) (by decide +kernel))
set_option maxRecDepth 20000 in
theorem gL_found_X3_found : GoodIn wsL_found (wsV RL 60 RX3 yX3_found wsX3_found) := goodIn_app (goodIn_of _ (by decide +kernel)) ggL_found_X3_found
set_option maxRecDepth 20000 in
theorem ggL_where_X3_where : GoodIn wsL_where wsX3_where := goodIn_ca (goodIn_r _ [6, 7, 8, 9, 10, 5, 11, 12, 13, 14, 15, 16, 17, 18, 19, 20, 21, 22, 23, 24, 25, 26] (by decide +kernel) (by decide +kernel)) (goodIn_sub (fun _ h => List.mem_cons_of_mem _ (List.mem_append_right _ h)) (by decide +kernel))
set_option maxRecDepth 20000 in
theorem gL_where_X3_where : GoodIn wsL_where (wsV RL 63 RX3 yX3_where wsX3_where) := goodIn_app (goodIn_of _ (by decide +kernel)) ggL_where_X3_where
set_option maxRecDepth 20000 in
theorem ggL_corner_X3_corner : GoodIn wsL_corner wsX3_corner := goodIn_ca (goodIn_r _ [6, 7, 8, 9, 10, 11, 12, 13, 14, 15, 5, 16, 17, 18, 19, 20, 21, 22, 23, 24, 25, 26, 27, 28, 29, 30, 31, 32, 33, 34, 35, 36, 37, 38, 39] (by decide +kernel) (by decide +kernel)) (goodIn_sub (fun _ h => List.mem_cons_of_mem _ (List.mem_append_right _ h)) (by decide +kernel))
set_option maxRecDepth 20000 in
theorem gL_corner_X3_corner : GoodIn wsL_corner (wsV RL 67 RX3 yX3_corner wsX3_corner) := goodIn_app (goodIn_of _ (by decide +kernel)) ggL_corner_X3_corner
set_option maxRecDepth 20000 in
theorem ggL_about_X3_about : GoodIn wsL_about wsX3_about := goodIn_ca (goodIn_r _ [6, 7, 8, 9, 10, 11, 12, 13, 14, 15, 5, 16, 17, 18, 19, 20, 21, 22, 23, 24, 25, 26, 27, 28, 29, 30, 31, 32, 33, 34, 35, 36, 37, 38, 39, 40, 41, 42, 43, 44, 45, 46, 47, 48, 49, 50, 51, 52, 53, 54, 55, 56, 57, 58] (by decide +kernel) (by decide +kernel)) (goodIn_sub (fun _ h => List.mem_cons_of_mem _ (List.mem_append_right _ h)) (by decide +kernel))
set_option maxRecDepth 20000 in
theorem gL_about_X3_about : GoodIn wsL_about (wsV RL 71 RX3 yX3_about wsX3_about) := goodIn_app (goodIn_of _ (by decide +kernel)) ggL_about_X3_about
set_option maxRecDepth 20000 in
theorem ggL_count_X3_count : GoodIn wsL_count wsX3_count := goodIn_ca (goodIn_r _ [6, 7, 8, 9, 10, 11, 12, 13, 14, 15, 16, 17, 18, 5, 19, 20, 21, 22, 23, 24, 25, 26, 27, 28, 29, 30, 31, 32, 33, 34, 35, 36, 37, 38, 39, 40, 41] (by decide +kernel) (by decide +kernel)) (goodIn_sub (fun _ h => List.mem_cons_of_mem _ (List.mem_append_right _ h)) (by decide +kernel))
set_option maxRecDepth 20000 in
theorem gL_count_X3_count : GoodIn wsL_count (wsV RL 74 RX3 yX3_count wsX3_count) := goodIn_app (goodIn_of _ (by decide +kernel)) ggL_count_X3_count
set_option maxRecDepth 20000 in
theorem ggL_law_X3_init : GoodIn wsL_law wsX3_init := goodIn_r _ [11, 12, 13, 14, 15, 16, 17, 18, 19, 20, 21, 22, 23, 24, 25, 26, 27, 28, 29, 30, 31, 32, 33, 34, 35, 36, 37, 38, 39, 40, 41, 42, 43, 44, 45, 46, 47, 6, 48, 591, 562, 563, 564, 565, 566, 567, 568, 569, 570, 571, 572, 573, 592, 593, 594, 595, 596, 597, 598, 599] (by decide +kernel) (by decide +kernel)
set_option maxRecDepth 20000 in
theorem gL_law_X3_init : GoodIn wsL_law (wsX3_init) := ggL_law_X3_init
set_option maxRecDepth 20000 in
theorem ggL_law_X4_init : GoodIn wsL_law wsX4_init := goodIn_r _ [51, 52, 13, 14, 32, 53, 54, 55, 56, 30, 57, 58, 59, 60, 61, 62, 63, 64, 65, 66, 67, 574, 575, 576, 577, 578, 579, 580, 581, 582, 583, 584, 585, 586, 587, 588, 589, 590] (by decide +kernel) (by decide +kernel)
set_option maxRecDepth 20000 in
theorem gL_law_X4_init : GoodIn wsL_law (wsX4_init) := ggL_law_X4_init
set_option maxRecDepth 20000 in
theorem ggL_law_L_low : GoodIn wsL_law wsL_low := goodIn_ca (goodIn_r _ [71, 72, 73, 74, 75, 2, 76, 18, 77, 78, 79, 80, 81, 82, 83, 84, 85, 86, 87, 17, 88, 38, 562, 563, 564, 565, 566, 567, 568, 569, 570, 571, 572, 573, 591] (by decide +kernel) (by decide +kernel)) (goodIn_sub (fun _ h => List.mem_append_left _ (List.mem_append_left _ (List.mem_append_right _ h))) (by decide +kernel))
set_option maxRecDepth 20000 in
theorem gL_law_L_low : GoodIn wsL_law (va_wsS RL 82 yL_low wsL_low) := goodIn_app (goodIn_of _ (by decide +kernel)) ggL_law_L_low
set_option maxRecDepth 20000 in
theorem ggL_law_X4_low : GoodIn wsL_law wsX4_low := goodIn_r _ [92, 93, 94, 95, 5, 96, 53, 97, 98, 99, 100, 101, 102, 103, 104, 105, 106, 574, 575, 576, 577, 578, 579, 580, 581, 582, 583, 584, 585, 586, 587, 588, 589, 590] (by decide +kernel) (by decide +kernel)
set_option maxRecDepth 20000 in
theorem gL_law_X4_low : GoodIn wsL_law (wsV RL 87 RX4 yX4_low wsX4_low) := goodIn_app (goodIn_of _ (by decide +kernel)) ggL_law_X4_low
set_option maxRecDepth 20000 in
theorem ggL_law_X4_thrown : GoodIn wsL_law wsX4_thrown := goodIn_r _ [110, 106, 574, 575, 576, 577, 578, 579, 580, 581, 582, 583, 584, 585, 586, 587, 588, 589, 590] (by decide +kernel) (by decide +kernel)
set_option maxRecDepth 20000 in
theorem gL_law_X4_thrown : GoodIn wsL_law (wsV RL 88 RX4 yX4_thrown wsX4_thrown) := goodIn_app (goodIn_of _ (by decide +kernel)) ggL_law_X4_thrown
set_option maxRecDepth 20000 in
theorem ggL_law_L_high : GoodIn wsL_law wsL_high := goodIn_ca (goodIn_r _ [113, 72, 114, 115, 116, 2, 117, 18, 77, 78, 79, 80, 81, 82, 83, 84, 85, 86, 87, 17, 88, 38, 562, 563, 564, 565, 566, 567, 568, 569, 570, 571, 572, 573, 591] (by decide +kernel) (by decide +kernel)) (goodIn_sub (fun _ h => List.mem_append_left _ (List.mem_append_left _ (List.mem_append_right _ h))) (by decide +kernel))
set_option maxRecDepth 20000 in
theorem gL_law_L_high : GoodIn wsL_law (va_wsS RL 91 yL_high wsL_high) := goodIn_app (goodIn_of _ (by decide +kernel)) ggL_law_L_high
set_option maxRecDepth 20000 in
theorem ggL_law_X4_high : GoodIn wsL_law wsX4_high := goodIn_r _ [121, 93, 94, 95, 5, 96, 53, 97, 98, 99, 100, 101, 102, 103, 104, 105, 106, 574, 575, 576, 577, 578, 579, 580, 581, 582, 583, 584, 585, 586, 587, 588, 589, 590] (by decide +kernel) (by decide +kernel)
set_option maxRecDepth 20000 in
theorem gL_law_X4_high : GoodIn wsL_law (wsV RL 93 RX4 yX4_high wsX4_high) := goodIn_app (goodIn_of _ (by decide +kernel)) ggL_law_X4_high
set_option maxRecDepth 20000 in
theorem ggL_law_L_add : GoodIn wsL_law wsL_add := goodIn_ca (goodIn_ca (goodIn_r _ [124, 72, 125, 126, 127, 128, 2, 129, 130, 131, 132, 133, 80, 81, 18, 134, 135, 136, 17, 137, 38, 138, 139, 140, 141, 142, 143, 144, 145, 146, 147, 148, 34, 20, 149, 150, 151, 152, 153, 154, 155, 156, 157, 158, 159, 160, 161, 162, 163, 164, 22, 165, 166, 43, 44, 167, 168, 169, 170, 171, 172, 173, 174, 175, 176, 177, 178, 179, 180, 181, 182, 183, 562, 563, 564, 565, 566, 567, 568, 569, 570, 571, 572, 573, 591, 592, 593, 594, 595, 596, 597] (by decide +kernel) (by decide +kernel)) (goodIn_sub (fun _ h => List.mem_append_left _ (List.mem_append_left _ (List.mem_append_right _ h))) (by decide +kernel))) (goodIn_sub (fun _ h => List.mem_append_left _ (List.mem_append_right _ h)) (by decide +kernel))
set_option maxRecDepth 20000 in
theorem gL_law_L_add : GoodIn wsL_law (va_wsS RL 94 yL_add wsL_add) := goodIn_app (goodIn_of _ (by decide +kernel)) ggL_law_L_add
set_option maxRecDepth 20000 in
theorem ggL_law_X4_add : GoodIn wsL_law wsX4_add := goodIn_r _ [187, 188, 189, 190, 5, 191, 53, 192, 193, 194, 195, 55, 102, 103, 104, 105, 106, 196, 197, 198, 199, 67, 200, 201, 202, 203, 57, 58, 204, 205, 206, 207, 208, 209, 210, 211, 59, 56, 212, 213, 214, 215, 216, 60, 574, 575, 576, 577, 578, 579, 580, 581, 582, 583, 584, 585, 586, 587, 588, 589, 590] (by decide +kernel) (by decide +kernel)
set_option maxRecDepth 20000 in
theorem gL_law_X4_add : GoodIn wsL_law (wsV RL 97 RX4 yX4_add wsX4_add) := goodIn_app (goodIn_of _ (by decide +kernel)) ggL_law_X4_add
set_option maxRecDepth 20000 in
theorem ggL_law_L_addRow : GoodIn wsL_law wsL_addRow := goodIn_ca (goodIn_ca (goodIn_r _ [219, 72, 125, 220, 221, 222, 2, 223, 80, 81, 130, 131, 132, 133, 18, 134, 135, 136, 17, 137, 38, 224, 225, 226, 82, 83, 84, 227, 228, 229, 230, 34, 150, 151, 152, 153, 154, 155, 156, 157, 158, 159, 160, 161, 231, 232, 233, 234, 138, 139, 140, 141, 142, 143, 144, 145, 146, 147, 148, 20, 149, 162, 163, 164, 22, 165, 166, 43, 44, 167, 168, 169, 170, 171, 172, 173, 174, 175, 176, 177, 178, 179, 180, 181, 182, 183, 562, 563, 564, 565, 566, 567, 568, 569, 570, 571, 572, 573, 591, 592, 593, 594, 595, 596, 597] (by decide +kernel) (by decide +kernel)) (goodIn_sub (fun _ h => List.mem_append_left _ (List.mem_append_left _ (List.mem_append_right _ h))) (by decide +kernel))) (goodIn_sub (fun _ h => List.mem_append_left _ (List.mem_append_right _ h)) (by decide +kernel))
set_option maxRecDepth 20000 in
theorem gL_law_L_addRow : GoodIn wsL_law (va_wsS RL 98 yL_addRow wsL_addRow) := goodIn_app (goodIn_of _ (by decide +kernel)) ggL_law_L_addRow
set_option maxRecDepth 20000 in
theorem ggL_law_X4_addRow : GoodIn wsL_law wsX4_addRow := goodIn_r _ [238, 188, 189, 190, 5, 191, 53, 239, 240, 241, 242, 243, 196, 197, 198, 199, 67, 244, 245, 246, 247, 97, 98, 99, 100, 101, 192, 193, 194, 195, 55, 102, 103, 104, 105, 106, 200, 201, 202, 203, 57, 58, 204, 205, 206, 207, 208, 209, 210, 211, 59, 56, 212, 213, 214, 215, 216, 60, 574, 575, 576, 577, 578, 579, 580, 581, 582, 583, 584, 585, 586, 587, 588, 589, 590] (by decide +kernel) (by decide +kernel)
set_option maxRecDepth 20000 in
theorem gL_law_X4_addRow : GoodIn wsL_law (wsV RL 101 RX4 yX4_addRow wsX4_addRow) := goodIn_app (goodIn_of _ (by decide +kernel)) ggL_law_X4_addRow
set_option maxRecDepth 20000 in
theorem ggL_law_L_move : GoodIn wsL_law wsL_move := goodIn_ca (goodIn_ca (goodIn_r _ [250, 251, 72, 252, 253, 254, 2, 255, 20, 18, 256, 257, 258, 259, 260, 261, 149, 262, 263, 264, 130, 131, 132, 133, 80, 81, 134, 135, 136, 17, 137, 38, 224, 225, 226, 82, 83, 84, 265, 266, 267, 22, 268, 43, 44, 183, 167, 151, 152, 153, 154, 155, 156, 157, 269, 270, 271, 272, 168, 169, 170, 171, 172, 173, 174, 175, 176, 562, 563, 564, 565, 566, 567, 568, 569, 570, 571, 572, 573, 592, 593, 594, 595, 596, 597, 591] (by decide +kernel) (by decide +kernel)) (goodIn_sub (fun _ h => List.mem_append_right _ h) (by decide +kernel))) (goodIn_sub (fun _ h => List.mem_append_left _ (List.mem_append_left _ (List.mem_append_right _ h))) (by decide +kernel))
set_option maxRecDepth 20000 in
theorem gL_law_L_move : GoodIn wsL_law (va_wsS RL 102 yL_move wsL_move) := goodIn_app (goodIn_of _ (by decide +kernel)) ggL_law_L_move
set_option maxRecDepth 20000 in
theorem ggL_law_X4_move : GoodIn wsL_law wsX4_move := goodIn_r _ [276, 277, 278, 279, 5, 280, 55, 188, 189, 190, 191, 53, 239, 240, 241, 242, 243, 102, 103, 104, 105, 106, 196, 197, 198, 199, 67, 281, 282, 283, 284, 60, 59, 208, 209, 210, 211, 56, 212, 213, 214, 215, 216, 574, 575, 576, 577, 578, 579, 580, 581, 582, 583, 584, 585, 586, 587, 588, 589, 590] (by decide +kernel) (by decide +kernel)
set_option maxRecDepth 20000 in
theorem gL_law_X4_move : GoodIn wsL_law (wsV RL 105 RX4 yX4_move wsX4_move) := goodIn_app (goodIn_of _ (by decide +kernel)) ggL_law_X4_move
set_option maxRecDepth 20000 in
theorem ggL_law_L_shift : GoodIn wsL_law wsL_shift := goodIn_ca (goodIn_ca (goodIn_r _ [287, 251, 72, 288, 289, 290, 2, 291, 260, 261, 20, 149, 262, 263, 264, 224, 225, 226, 80, 81, 82, 83, 84, 292, 293, 294, 295, 34, 296, 150, 151, 152, 17, 153, 38, 154, 155, 156, 157, 158, 159, 160, 161, 231, 232, 233, 234, 265, 266, 267, 22, 268, 43, 44, 183, 167, 269, 270, 271, 272, 168, 169, 170, 171, 172, 173, 174, 175, 176, 562, 563, 564, 565, 566, 567, 568, 569, 570, 571, 572, 573, 592, 593, 594, 595, 596, 597, 591] (by decide +kernel) (by decide +kernel)) (goodIn_sub (fun _ h => List.mem_append_right _ h) (by decide +kernel))) (goodIn_sub (fun _ h => List.mem_append_left _ (List.mem_append_left _ (List.mem_append_right _ h))) (by decide +kernel))
set_option maxRecDepth 20000 in
theorem gL_law_L_shift : GoodIn wsL_law (va_wsS RL 106 yL_shift wsL_shift) := goodIn_app (goodIn_of _ (by decide +kernel)) ggL_law_L_shift
set_option maxRecDepth 20000 in
theorem ggL_law_X4_shift : GoodIn wsL_law wsX4_shift := goodIn_r _ [300, 67, 59, 55, 239, 240, 5, 241, 242, 243, 102, 103, 104, 105, 106, 244, 245, 246, 247, 97, 98, 99, 100, 101, 281, 282, 283, 284, 60, 208, 209, 210, 211, 56, 212, 213, 214, 215, 216, 574, 575, 576, 577, 578, 579, 580, 581, 582, 583, 584, 585, 586, 587, 588, 589, 590] (by decide +kernel) (by decide +kernel)
set_option maxRecDepth 20000 in
theorem gL_law_X4_shift : GoodIn wsL_law (wsV RL 109 RX4 yX4_shift wsX4_shift) := goodIn_app (goodIn_of _ (by decide +kernel)) ggL_law_X4_shift
set_option maxRecDepth 20000 in
theorem ggL_law_L_filter : GoodIn wsL_law wsL_filter := goodIn_ca (goodIn_r _ [303, 251, 304, 305, 306, 2, 307, 20, 256, 257, 258, 259, 260, 261, 149, 262, 263, 264, 308, 178, 179, 22, 180, 181, 182, 183, 562, 563, 564, 565, 566, 567, 568, 569, 570, 571, 572, 573, 592, 593, 594, 595, 596, 597] (by decide +kernel) (by decide +kernel)) (goodIn_sub (fun _ h => List.mem_append_right _ h) (by decide +kernel))
set_option maxRecDepth 20000 in
theorem gL_law_L_filter : GoodIn wsL_law (va_wsS RL 110 yL_filter wsL_filter) := goodIn_app (goodIn_of _ (by decide +kernel)) ggL_law_L_filter
set_option maxRecDepth 20000 in
theorem ggL_law_X4_filter : GoodIn wsL_law wsX4_filter := goodIn_r _ [312, 57, 58, 56, 277, 278, 279, 5, 280, 55, 102, 103, 104, 105, 106, 574, 575, 576, 577, 578, 579, 580, 581, 582, 583, 584, 585, 586, 587, 588, 589, 590] (by decide +kernel) (by decide +kernel)
set_option maxRecDepth 20000 in
theorem gL_law_X4_filter : GoodIn wsL_law (wsV RL 113 RX4 yX4_filter wsX4_filter) := goodIn_app (goodIn_of _ (by decide +kernel)) ggL_law_X4_filter
set_option maxRecDepth 20000 in
theorem ggL_law_L_remove : GoodIn wsL_law wsL_remove := goodIn_ca (goodIn_r _ [315, 251, 316, 317, 318, 2, 319, 26, 20, 144, 256, 257, 258, 259, 260, 261, 149, 262, 263, 264, 320, 321, 322, 323, 324, 325, 326, 327, 328, 329, 25, 330, 48, 331, 332, 333, 334, 335, 336, 337, 338, 339, 22, 340, 166, 183, 562, 563, 564, 565, 566, 567, 568, 569, 570, 571, 572, 573, 592, 593, 594, 595, 596, 597, 598, 599] (by decide +kernel) (by decide +kernel)) (goodIn_sub (fun _ h => List.mem_append_right _ h) (by decide +kernel))
set_option maxRecDepth 20000 in
theorem gL_law_L_remove : GoodIn wsL_law (va_wsS RL 114 yL_remove wsL_remove) := goodIn_app (goodIn_of _ (by decide +kernel)) ggL_law_L_remove
set_option maxRecDepth 20000 in
theorem ggL_law_X4_remove : GoodIn wsL_law wsX4_remove := goodIn_r _ [344, 61, 55, 56, 277, 278, 279, 5, 280, 102, 103, 104, 105, 106, 345, 346, 347, 348, 349, 350, 351, 352, 353, 354, 355, 574, 575, 576, 577, 578, 579, 580, 581, 582, 583, 584, 585, 586, 587, 588, 589, 590] (by decide +kernel) (by decide +kernel)
set_option maxRecDepth 20000 in
theorem gL_law_X4_remove : GoodIn wsL_law (wsV RL 117 RX4 yX4_remove wsX4_remove) := goodIn_app (goodIn_of _ (by decide +kernel)) ggL_law_X4_remove
set_option maxRecDepth 20000 in
theorem ggL_law_L_update : GoodIn wsL_law wsL_update := goodIn_ca (goodIn_r _ [358, 125, 359, 360, 361, 2, 362, 142, 143, 27, 26, 20, 363, 364, 28, 29, 365, 366, 367, 368, 25, 369, 48, 370, 155, 156, 157, 335, 371, 372, 373, 374, 324, 325, 326, 375, 376, 377, 22, 378, 166, 181, 182, 44, 379, 380, 381, 17, 382, 38, 331, 332, 333, 334, 336, 328, 329, 330, 383, 384, 385, 386, 387, 388, 389, 390, 391, 392, 393, 394, 562, 563, 564, 565, 566, 567, 568, 569, 570, 571, 572, 573, 592, 593, 594, 595, 596, 597, 598, 599, 591] (by decide +kernel) (by decide +kernel)) (goodIn_sub (fun _ h => List.mem_append_left _ (List.mem_append_right _ h)) (by decide +kernel))
set_option maxRecDepth 20000 in
theorem gL_law_L_update : GoodIn wsL_law (va_wsS RL 118 yL_update wsL_update) := goodIn_app (goodIn_of _ (by decide +kernel)) ggL_law_L_update
set_option maxRecDepth 20000 in
theorem ggL_law_X4_update : GoodIn wsL_law wsX4_update := goodIn_r _ [398, 62, 63, 61, 64, 56, 399, 400, 401, 402, 5, 403, 55, 404, 405, 406, 407, 57, 58, 408, 409, 410, 411, 60, 412, 413, 414, 102, 103, 104, 105, 106, 574, 575, 576, 577, 578, 579, 580, 581, 582, 583, 584, 585, 586, 587, 588, 589, 590] (by decide +kernel) (by decide +kernel)
set_option maxRecDepth 20000 in
theorem gL_law_X4_update : GoodIn wsL_law (wsV RL 121 RX4 yX4_update wsX4_update) := goodIn_app (goodIn_of _ (by decide +kernel)) ggL_law_X4_update
set_option maxRecDepth 20000 in
theorem ggL_law_L_pair : GoodIn wsL_law wsL_pair := goodIn_ca (goodIn_r _ [417, 251, 418, 419, 420, 2, 421, 260, 261, 26, 28, 29, 364, 422, 423, 424, 25, 425, 48, 388, 389, 390, 391, 392, 393, 394, 426, 427, 428, 562, 563, 564, 565, 566, 567, 568, 569, 570, 571, 572, 573, 598, 599] (by decide +kernel) (by decide +kernel)) (goodIn_sub (fun _ h => List.mem_append_right _ h) (by decide +kernel))
set_option maxRecDepth 20000 in
theorem gL_law_L_pair : GoodIn wsL_law (va_wsS RL 122 yL_pair wsL_pair) := goodIn_app (goodIn_of _ (by decide +kernel)) ggL_law_L_pair
set_option maxRecDepth 20000 in
theorem ggL_law_X4_pair : GoodIn wsL_law wsX4_pair := goodIn_r _ [432, 61, 63, 64, 433, 434, 5, 435, 102, 103, 104, 105, 106, 574, 575, 576, 577, 578, 579, 580, 581, 582, 583, 584, 585, 586, 587, 588, 589, 590] (by decide +kernel) (by decide +kernel)
set_option maxRecDepth 20000 in
theorem gL_law_X4_pair : GoodIn wsL_law (wsV RL 124 RX4 yX4_pair wsX4_pair) := goodIn_app (goodIn_of _ (by decide +kernel)) ggL_law_X4_pair
set_option maxRecDepth 20000 in
theorem ggL_law_L_paired : GoodIn wsL_law wsL_paired := goodIn_ca (goodIn_r _ [438, 251, 439, 440, 441, 2, 442, 256, 257, 258, 259, 260, 261, 20, 149, 262, 263, 264, 320, 321, 322, 323, 26, 324, 325, 326, 327, 328, 329, 25, 330, 48, 562, 563, 564, 565, 566, 567, 568, 569, 570, 571, 572, 573, 592, 593, 594, 595, 596, 597, 598, 599] (by decide +kernel) (by decide +kernel)) (goodIn_sub (fun _ h => List.mem_append_right _ h) (by decide +kernel))
set_option maxRecDepth 20000 in
theorem gL_law_L_paired : GoodIn wsL_law (va_wsS RL 125 yL_paired wsL_paired) := goodIn_app (goodIn_of _ (by decide +kernel)) ggL_law_L_paired
set_option maxRecDepth 20000 in
theorem ggL_law_X4_paired : GoodIn wsL_law wsX4_paired := goodIn_r _ [446, 277, 278, 279, 5, 280, 55, 102, 103, 104, 105, 106, 349, 350, 351, 352, 61, 353, 354, 355, 574, 575, 576, 577, 578, 579, 580, 581, 582, 583, 584, 585, 586, 587, 588, 589, 590] (by decide +kernel) (by decide +kernel)
set_option maxRecDepth 20000 in
theorem gL_law_X4_paired : GoodIn wsL_law (wsV RL 127 RX4 yX4_paired wsX4_paired) := goodIn_app (goodIn_of _ (by decide +kernel)) ggL_law_X4_paired
set_option maxRecDepth 20000 in
theorem ggL_law_L_overlapping : GoodIn wsL_law wsL_overlapping := goodIn_ca (goodIn_r _ [449, 72, 450, 451, 452, 2, 453, 454, 20, 149, 455, 456, 18, 130, 131, 132, 133, 80, 81, 134, 135, 136, 17, 137, 38, 457, 380, 381, 382, 458, 459, 460, 461, 31, 33, 562, 563, 564, 565, 566, 567, 568, 569, 570, 571, 572, 573, 592, 593, 594, 595, 596, 597, 591] (by decide +kernel) (by decide +kernel)) (goodIn_sub (fun _ h => List.mem_append_left _ (List.mem_append_left _ (List.mem_append_right _ h))) (by decide +kernel))
set_option maxRecDepth 20000 in
theorem gL_law_L_overlapping : GoodIn wsL_law (va_wsS RL 128 yL_overlapping wsL_overlapping) := goodIn_app (goodIn_of _ (by decide +kernel)) ggL_law_L_overlapping
set_option maxRecDepth 20000 in
theorem ggL_law_X4_overlapping : GoodIn wsL_law wsX4_overlapping := goodIn_r _ [465, 466, 55, 57, 60, 53, 65, 66, 188, 189, 190, 5, 191, 102, 103, 104, 105, 106, 574, 575, 576, 577, 578, 579, 580, 581, 582, 583, 584, 585, 586, 587, 588, 589, 590] (by decide +kernel) (by decide +kernel)
set_option maxRecDepth 20000 in
theorem gL_law_X4_overlapping : GoodIn wsL_law (wsV RL 130 RX4 yX4_overlapping wsX4_overlapping) := goodIn_app (goodIn_of _ (by decide +kernel)) ggL_law_X4_overlapping
set_option maxRecDepth 20000 in
theorem ggL_law_X3_meeting : GoodIn wsL_law wsX3_meeting := goodIn_r _ [470, 454, 20, 149, 455, 456, 18, 471, 472, 473, 474, 17, 475, 38, 476, 458, 459, 460, 2, 461, 31, 33, 562, 563, 564, 565, 566, 567, 568, 569, 570, 571, 572, 573, 592, 593, 594, 595, 596, 597, 591] (by decide +kernel) (by decide +kernel)
set_option maxRecDepth 20000 in
theorem gL_law_X3_meeting : GoodIn wsL_law (wsV RL 131 RX3 yX3_meeting wsX3_meeting) := goodIn_app (goodIn_of _ (by decide +kernel)) ggL_law_X3_meeting
set_option maxRecDepth 20000 in
theorem ggL_law_X4_meeting : GoodIn wsL_law wsX4_meeting := goodIn_r _ [480, 106, 466, 55, 57, 65, 66, 481, 482, 483, 5, 484, 53, 60, 574, 575, 576, 577, 578, 579, 580, 581, 582, 583, 584, 585, 586, 587, 588, 589, 590] (by decide +kernel) (by decide +kernel)
set_option maxRecDepth 20000 in
theorem gL_law_X4_meeting : GoodIn wsL_law (wsV RL 134 RX4 yX4_meeting wsX4_meeting) := goodIn_app (goodIn_of _ (by decide +kernel)) ggL_law_X4_meeting
set_option maxRecDepth 20000 in
theorem ggL_law_L_found : GoodIn wsL_law wsL_found := goodIn_ca (goodIn_r _ [487, 251, 488, 489, 490, 2, 491, 31, 492, 493, 494, 495, 260, 261, 454, 562, 563, 564, 565, 566, 567, 568, 569, 570, 571, 572, 573] (by decide +kernel) (by decide +kernel)) (goodIn_sub (fun _ h => List.mem_append_right _ h) (by decide +kernel))
set_option maxRecDepth 20000 in
theorem gL_law_L_found : GoodIn wsL_law (va_wsS RL 135 yL_found wsL_found) := goodIn_app (goodIn_of _ (by decide +kernel)) ggL_law_L_found
set_option maxRecDepth 20000 in
theorem ggL_law_X4_found : GoodIn wsL_law wsX4_found := goodIn_r _ [499, 466, 65, 102, 103, 104, 5, 105, 106, 574, 575, 576, 577, 578, 579, 580, 581, 582, 583, 584, 585, 586, 587, 588, 589, 590] (by decide +kernel) (by decide +kernel)
set_option maxRecDepth 20000 in
theorem gL_law_X4_found : GoodIn wsL_law (wsV RL 137 RX4 yX4_found wsX4_found) := goodIn_app (goodIn_of _ (by decide +kernel)) ggL_law_X4_found
set_option maxRecDepth 20000 in
theorem ggL_law_L_where : GoodIn wsL_law wsL_where := goodIn_ca (goodIn_r _ [502, 251, 503, 504, 505, 2, 506, 33, 492, 493, 494, 495, 260, 261, 454, 562, 563, 564, 565, 566, 567, 568, 569, 570, 571, 572, 573] (by decide +kernel) (by decide +kernel)) (goodIn_sub (fun _ h => List.mem_append_right _ h) (by decide +kernel))
set_option maxRecDepth 20000 in
theorem gL_law_L_where : GoodIn wsL_law (va_wsS RL 138 yL_where wsL_where) := goodIn_app (goodIn_of _ (by decide +kernel)) ggL_law_L_where
set_option maxRecDepth 20000 in
theorem ggL_law_X4_where : GoodIn wsL_law wsX4_where := goodIn_r _ [510, 466, 66, 102, 103, 104, 5, 105, 106, 574, 575, 576, 577, 578, 579, 580, 581, 582, 583, 584, 585, 586, 587, 588, 589, 590] (by decide +kernel) (by decide +kernel)
set_option maxRecDepth 20000 in
theorem gL_law_X4_where : GoodIn wsL_law (wsV RL 141 RX4 yX4_where wsX4_where) := goodIn_app (goodIn_of _ (by decide +kernel)) ggL_law_X4_where
set_option maxRecDepth 20000 in
theorem ggL_law_X3_nearest : GoodIn wsL_law wsX3_nearest := goodIn_r _ [514, 454, 33, 31, 562, 563, 564, 565, 566, 567, 568, 569, 570, 571, 572, 573] (by decide +kernel) (by decide +kernel)
set_option maxRecDepth 20000 in
theorem gL_law_X3_nearest : GoodIn wsL_law (wsV RL 142 RX3 yX3_nearest wsX3_nearest) := goodIn_app (goodIn_of _ (by decide +kernel)) ggL_law_X3_nearest
set_option maxRecDepth 20000 in
theorem ggL_law_X4_nearest : GoodIn wsL_law wsX4_nearest := goodIn_r _ [518, 106, 466, 66, 65, 574, 575, 576, 577, 578, 579, 580, 581, 582, 583, 584, 585, 586, 587, 588, 589, 590] (by decide +kernel) (by decide +kernel)
set_option maxRecDepth 20000 in
theorem gL_law_X4_nearest : GoodIn wsL_law (wsV RL 145 RX4 yX4_nearest wsX4_nearest) := goodIn_app (goodIn_of _ (by decide +kernel)) ggL_law_X4_nearest
set_option maxRecDepth 20000 in
theorem ggL_law_L_corner : GoodIn wsL_law wsL_corner := goodIn_ca (goodIn_r _ [521, 251, 522, 523, 524, 2, 525, 260, 261, 20, 456, 526, 296, 256, 257, 258, 259, 149, 262, 263, 264, 562, 563, 564, 565, 566, 567, 568, 569, 570, 571, 572, 573, 592, 593, 594, 595, 596, 597, 591] (by decide +kernel) (by decide +kernel)) (goodIn_sub (fun _ h => List.mem_append_right _ h) (by decide +kernel))
set_option maxRecDepth 20000 in
theorem gL_law_L_corner : GoodIn wsL_law (va_wsS RL 146 yL_corner wsL_corner) := goodIn_app (goodIn_of _ (by decide +kernel)) ggL_law_L_corner
set_option maxRecDepth 20000 in
theorem ggL_law_X4_corner : GoodIn wsL_law wsX4_corner := goodIn_r _ [530, 60, 59, 277, 278, 279, 5, 280, 55, 102, 103, 104, 105, 106, 574, 575, 576, 577, 578, 579, 580, 581, 582, 583, 584, 585, 586, 587, 588, 589, 590] (by decide +kernel) (by decide +kernel)
set_option maxRecDepth 20000 in
theorem gL_law_X4_corner : GoodIn wsL_law (wsV RL 149 RX4 yX4_corner wsX4_corner) := goodIn_app (goodIn_of _ (by decide +kernel)) ggL_law_X4_corner
set_option maxRecDepth 20000 in
theorem ggL_law_L_about : GoodIn wsL_law wsL_about := goodIn_ca (goodIn_r _ [533, 251, 534, 535, 536, 2, 537, 260, 261, 20, 455, 538, 363, 256, 257, 258, 259, 149, 262, 263, 264, 539, 540, 541, 542, 320, 321, 322, 323, 26, 324, 325, 326, 327, 328, 329, 25, 330, 48, 562, 563, 564, 565, 566, 567, 568, 569, 570, 571, 572, 573, 592, 593, 594, 595, 596, 597, 598, 599] (by decide +kernel) (by decide +kernel)) (goodIn_sub (fun _ h => List.mem_append_right _ h) (by decide +kernel))
set_option maxRecDepth 20000 in
theorem gL_law_L_about : GoodIn wsL_law (va_wsS RL 150 yL_about wsL_about) := goodIn_app (goodIn_of _ (by decide +kernel)) ggL_law_L_about
set_option maxRecDepth 20000 in
theorem ggL_law_X4_about : GoodIn wsL_law wsX4_about := goodIn_r _ [546, 57, 58, 56, 277, 278, 279, 5, 280, 55, 102, 103, 104, 105, 106, 345, 346, 347, 348, 349, 350, 351, 352, 61, 353, 354, 355, 574, 575, 576, 577, 578, 579, 580, 581, 582, 583, 584, 585, 586, 587, 588, 589, 590] (by decide +kernel) (by decide +kernel)
set_option maxRecDepth 20000 in
theorem gL_law_X4_about : GoodIn wsL_law (wsV RL 152 RX4 yX4_about wsX4_about) := goodIn_app (goodIn_of _ (by decide +kernel)) ggL_law_X4_about
set_option maxRecDepth 20000 in
theorem ggL_law_L_count : GoodIn wsL_law wsL_count := goodIn_ca (goodIn_r _ [549, 251, 550, 551, 552, 2, 553, 260, 261, 144, 26, 364, 28, 29, 365, 454, 554, 555, 556, 557, 20, 363, 562, 563, 564, 565, 566, 567, 568, 569, 570, 571, 572, 573, 598, 599, 592, 593, 594, 595, 596, 597] (by decide +kernel) (by decide +kernel)) (goodIn_sub (fun _ h => List.mem_append_right _ h) (by decide +kernel))
set_option maxRecDepth 20000 in
theorem gL_law_L_count : GoodIn wsL_law (va_wsS RL 153 yL_count wsL_count) := goodIn_app (goodIn_of _ (by decide +kernel)) ggL_law_L_count
set_option maxRecDepth 20000 in
theorem ggL_law_X4_count : GoodIn wsL_law wsX4_count := goodIn_r _ [561, 56, 61, 63, 64, 399, 466, 102, 103, 104, 5, 105, 106, 192, 193, 194, 195, 55, 412, 413, 414, 574, 575, 576, 577, 578, 579, 580, 581, 582, 583, 584, 585, 586, 587, 588, 589, 590] (by decide +kernel) (by decide +kernel)
set_option maxRecDepth 20000 in
theorem gL_law_X4_count : GoodIn wsL_law (wsV RL 155 RX4 yX4_count wsX4_count) := goodIn_app (goodIn_of _ (by decide +kernel)) ggL_law_X4_count
theorem inlX0 : ∀ w ∈ wsX00, w ∈ wsL_law := fun _ h => List.mem_append_left _ (List.mem_append_left _ (List.mem_append_left _ (List.mem_append_left _ (List.mem_append_left _ (List.mem_append_right _ h)))))
theorem inX0 : ∀ w ∈ wsX00, w ∈ lw_tbl := fun w h => wsL_law_in w (inlX0 w h)
theorem inlX1 : ∀ w ∈ wsX10, w ∈ wsL_law := fun _ h => List.mem_append_left _ (List.mem_append_left _ (List.mem_append_left _ (List.mem_append_left _ (List.mem_append_left _ (List.mem_append_left _ (List.mem_append_right _ h))))))
theorem inX1 : ∀ w ∈ wsX10, w ∈ lw_tbl := fun w h => wsL_law_in w (inlX1 w h)
theorem inlX2 : ∀ w ∈ wsX20, w ∈ wsL_law := fun _ h => List.mem_append_left _ (List.mem_append_left _ (List.mem_append_left _ (List.mem_append_left _ (List.mem_append_right _ h))))
theorem inX2 : ∀ w ∈ wsX20, w ∈ lw_tbl := fun w h => wsL_law_in w (inlX2 w h)
theorem inlX3 : ∀ w ∈ wsX30, w ∈ wsL_law := fun _ h => List.mem_append_left _ (List.mem_append_left _ (List.mem_append_left _ (List.mem_append_left _ (List.mem_append_left _ (List.mem_append_left _ (List.mem_append_left _ (List.mem_append_left _ (List.mem_append_right _ h))))))))
theorem inX3 : ∀ w ∈ wsX30, w ∈ lw_tbl := fun w h => wsL_law_in w (inlX3 w h)
theorem inlX4 : ∀ w ∈ wsX40, w ∈ wsL_law := fun _ h => List.mem_append_left _ (List.mem_append_left _ (List.mem_append_left _ (List.mem_append_left _ (List.mem_append_left _ (List.mem_append_left _ (List.mem_append_left _ (List.mem_append_right _ h)))))))
theorem inX4 : ∀ w ∈ wsX40, w ∈ lw_tbl := fun w h => wsL_law_in w (inlX4 w h)
theorem inJ13 : ∀ w ∈ wsJ130, w ∈ lw_tbl := by decide +kernel
theorem inJ0 : ∀ w ∈ wsJ00, w ∈ lw_tbl := by decide +kernel
theorem inJ10 : ∀ w ∈ wsJ100, w ∈ lw_tbl := by decide +kernel

