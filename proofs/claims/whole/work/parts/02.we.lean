set_option maxRecDepth 20000 in
theorem ggX4_checkpoint_X4_refuses : GoodIn wsX4_checkpoint wsX4_refuses := goodIn_r _ [7, 1, 59, 60, 61, 62, 63, 64, 65, 66, 67, 68, 69, 70, 71, 72, 73, 74, 75, 76, 77, 78, 79, 80, 81, 82, 83, 84, 85, 86, 87] (by decide +kernel) (by decide +kernel)
set_option maxRecDepth 20000 in
theorem gX4_checkpoint_X4_refuses : GoodIn wsX4_checkpoint (wsV RX4 120 RX4 yX4_refuses wsX4_refuses) := goodIn_app (goodIn_of _ (by decide +kernel)) ggX4_checkpoint_X4_refuses
set_option maxRecDepth 20000 in
theorem ggX4_checkpoint_X4_check : GoodIn wsX4_checkpoint wsX4_check := goodIn_r _ [11, 12, 13, 14, 15, 16, 17, 6, 18, 19, 20, 21, 22, 23, 24, 25, 26, 27, 28, 29, 30, 31, 32, 33, 34, 35, 36, 37, 38, 39, 40, 41, 42, 43, 44, 2, 45, 46, 47, 48, 49, 50, 51, 52, 53, 54, 55, 56, 57, 58, 59, 60, 61, 62, 63, 64, 65, 66, 67, 68, 69, 70, 71, 72, 73, 74, 75, 76, 77, 78, 79, 80, 81, 82, 83, 84, 85, 86, 87] (by decide +kernel) (by decide +kernel)
set_option maxRecDepth 20000 in
theorem gX4_checkpoint_X4_check : GoodIn wsX4_checkpoint (wsV RX4 128 RX4 yX4_check wsX4_check) := goodIn_app (goodIn_of _ (by decide +kernel)) ggX4_checkpoint_X4_check
set_option maxRecDepth 20000 in
theorem ggX4_power_X4_in : GoodIn wsX4_power wsX4_in := goodIn_r _ [6] (by decide +kernel) (by decide +kernel)
set_option maxRecDepth 20000 in
theorem gX4_power_X4_in : GoodIn wsX4_power (va_wsS RX4 116 yX4_in wsX4_in) := goodIn_app (goodIn_of _ (by decide +kernel)) ggX4_power_X4_in
set_option maxRecDepth 20000 in
theorem ggX4_power_X4_refuses : GoodIn wsX4_power wsX4_refuses := goodIn_r _ [10, 1, 11, 12, 13, 14, 15, 16, 17, 18, 19, 20, 21, 22, 23, 24, 25, 26, 27, 28, 29, 30, 31, 32, 33, 34, 35, 36, 37, 38, 39] (by decide +kernel) (by decide +kernel)
set_option maxRecDepth 20000 in
theorem gX4_power_X4_refuses : GoodIn wsX4_power (wsV RX4 120 RX4 yX4_refuses wsX4_refuses) := goodIn_app (goodIn_of _ (by decide +kernel)) ggX4_power_X4_refuses
set_option maxRecDepth 20000 in
theorem ggX4_mend_X4_isHomeWhole : GoodIn wsX4_mend wsX4_isHomeWhole := goodIn_r _ [8, 9, 35, 36, 37, 38, 39, 40, 41, 42, 43, 44, 45, 46, 47, 48, 49, 50, 51, 52, 53, 54, 55, 56, 57, 58, 59, 60, 61, 62, 63] (by decide +kernel) (by decide +kernel)
set_option maxRecDepth 20000 in
theorem gX4_mend_X4_isHomeWhole : GoodIn wsX4_mend (wsV RX4 138 RX4 yX4_isHomeWhole wsX4_isHomeWhole) := goodIn_app (goodIn_of _ (by decide +kernel)) ggX4_mend_X4_isHomeWhole
set_option maxRecDepth 20000 in
theorem ggX4_mend_X4_isSlotWhole : GoodIn wsX4_mend wsX4_isSlotWhole := goodIn_r _ [13, 2, 1, 35, 36, 37, 38, 39, 40, 41, 42, 43, 44, 45, 46, 47, 48, 49, 50, 51, 52, 53, 54, 55, 56, 57, 58, 59, 60, 61, 62, 63] (by decide +kernel) (by decide +kernel)
set_option maxRecDepth 20000 in
theorem gX4_mend_X4_isSlotWhole : GoodIn wsX4_mend (wsV RX4 141 RX4 yX4_isSlotWhole wsX4_isSlotWhole) := goodIn_app (goodIn_of _ (by decide +kernel)) ggX4_mend_X4_isSlotWhole
set_option maxRecDepth 20000 in
theorem ggX4_mend_X4_writeHome : GoodIn wsX4_mend wsX4_writeHome := goodIn_r _ [17, 9, 18, 19, 20, 21, 22, 23, 7, 24, 25, 26, 27, 28, 29, 30, 31, 32, 33, 34, 35, 36, 37, 38, 39, 40, 41, 42, 43, 44, 45, 46, 47, 48, 49, 50, 51, 52, 53, 54, 55, 56, 57, 58, 59, 60, 61, 62, 63] (by decide +kernel) (by decide +kernel)
set_option maxRecDepth 20000 in
theorem gX4_mend_X4_writeHome : GoodIn wsX4_mend (wsV RX4 102 RX4 yX4_writeHome wsX4_writeHome) := goodIn_app (goodIn_of _ (by decide +kernel)) ggX4_mend_X4_writeHome
set_option maxRecDepth 20000 in
theorem ggX4_recover_X4_refuses : GoodIn wsX4_recover wsX4_refuses := goodIn_r _ [16, 1, 74, 75, 76, 77, 78, 79, 80, 81, 82, 83, 84, 85, 86, 87, 88, 89, 90, 91, 92, 93, 94, 95, 96, 97, 98, 99, 100, 101, 102] (by decide +kernel) (by decide +kernel)
set_option maxRecDepth 20000 in
theorem gX4_recover_X4_refuses : GoodIn wsX4_recover (wsV RX4 120 RX4 yX4_refuses wsX4_refuses) := goodIn_app (goodIn_of _ (by decide +kernel)) ggX4_recover_X4_refuses
set_option maxRecDepth 20000 in
theorem ggX4_recover_X4_mend : GoodIn wsX4_recover wsX4_mend := goodIn_r _ [20, 21, 22, 23, 24, 25, 26, 15, 27, 28, 29, 30, 31, 32, 33, 34, 35, 36, 37, 7, 38, 39, 40, 41, 42, 43, 44, 45, 46, 47, 48, 2, 49, 50, 10, 74, 75, 76, 77, 78, 79, 80, 81, 82, 83, 84, 85, 86, 87, 88, 89, 90, 91, 92, 93, 94, 95, 96, 97, 98, 99, 100, 101, 102] (by decide +kernel) (by decide +kernel)
set_option maxRecDepth 20000 in
theorem gX4_recover_X4_mend : GoodIn wsX4_recover (wsV RX4 147 RX4 yX4_mend wsX4_mend) := goodIn_app (goodIn_of _ (by decide +kernel)) ggX4_recover_X4_mend
set_option maxRecDepth 20000 in
theorem ggX4_recover_X4_bring : GoodIn wsX4_recover wsX4_bring := goodIn_r _ [54, 50, 55, 10, 6, 28, 7, 37, 56, 57, 58, 59, 15, 60, 61, 62, 63, 64, 65, 49, 66, 4, 5, 67, 8, 68, 9, 69, 39, 40, 41, 42, 43, 44, 45, 46, 47, 48, 2, 70, 71, 72, 73, 22, 21, 38, 33, 34, 35, 36, 74, 75, 76, 77, 78, 79, 80, 81, 82, 83, 84, 85, 86, 87, 88, 89, 90, 91, 92, 93, 94, 95, 96, 97, 98, 99, 100, 101, 102] (by decide +kernel) (by decide +kernel)
set_option maxRecDepth 20000 in
theorem gX4_recover_X4_bring : GoodIn wsX4_recover (wsV RX4 131 RX4 yX4_bring wsX4_bring) := goodIn_app (goodIn_of _ (by decide +kernel)) ggX4_recover_X4_bring
set_option maxRecDepth 20000 in
theorem ggX4_cut_X4_refuses : GoodIn wsX4_cut wsX4_refuses := goodIn_r _ [8, 1, 16, 17, 18, 19, 20, 21, 22, 23, 24, 25, 26, 27, 28, 29, 30, 31, 32, 33, 34, 35, 36, 37, 38, 39, 40, 41, 42, 43, 44] (by decide +kernel) (by decide +kernel)
set_option maxRecDepth 20000 in
theorem gX4_cut_X4_refuses : GoodIn wsX4_cut (wsV RX4 120 RX4 yX4_refuses wsX4_refuses) := goodIn_app (goodIn_of _ (by decide +kernel)) ggX4_cut_X4_refuses
set_option maxRecDepth 20000 in
theorem ggX4_cut_X4_goDown : GoodIn wsX4_cut wsX4_goDown := goodIn_r _ [12, 13, 2, 3, 14, 15, 16, 17, 18, 19, 20, 21, 22, 23, 24, 25, 26, 27, 28, 29, 30, 31, 32, 33, 34, 35, 36, 37, 38, 39, 40, 41, 42, 43, 44] (by decide +kernel) (by decide +kernel)
set_option maxRecDepth 20000 in
theorem gX4_cut_X4_goDown : GoodIn wsX4_cut (wsV RX4 85 RX4 yX4_goDown wsX4_goDown) := goodIn_app (goodIn_of _ (by decide +kernel)) ggX4_cut_X4_goDown
set_option maxRecDepth 20000 in
theorem ggX4_disk_X4_in : GoodIn wsX4_disk wsX4_in := goodIn_r _ [15] (by decide +kernel) (by decide +kernel)
set_option maxRecDepth 20000 in
theorem gX4_disk_X4_in : GoodIn wsX4_disk (va_wsS RX4 116 yX4_in wsX4_in) := goodIn_app (goodIn_of _ (by decide +kernel)) ggX4_disk_X4_in
set_option maxRecDepth 20000 in
theorem ggX4_disk_X4_refuses : GoodIn wsX4_disk wsX4_refuses := goodIn_r _ [19, 1, 20, 21, 22, 23, 24, 25, 26, 27, 28, 29, 30, 31, 32, 33, 34, 35, 36, 37, 38, 39, 40, 41, 42, 43, 44, 45, 46, 47, 48] (by decide +kernel) (by decide +kernel)
set_option maxRecDepth 20000 in
theorem gX4_disk_X4_refuses : GoodIn wsX4_disk (wsV RX4 120 RX4 yX4_refuses wsX4_refuses) := goodIn_app (goodIn_of _ (by decide +kernel)) ggX4_disk_X4_refuses
set_option maxRecDepth 20000 in
theorem ggX4_frame_X4_in : GoodIn wsX4_frame wsX4_in := goodIn_r _ [9] (by decide +kernel) (by decide +kernel)
set_option maxRecDepth 20000 in
theorem gX4_frame_X4_in : GoodIn wsX4_frame (va_wsS RX4 116 yX4_in wsX4_in) := goodIn_app (goodIn_of _ (by decide +kernel)) ggX4_frame_X4_in
set_option maxRecDepth 20000 in
theorem ggX4_frame_X4_refuses : GoodIn wsX4_frame wsX4_refuses := goodIn_r _ [13, 1, 14, 15, 16, 17, 18, 19, 20, 21, 22, 23, 24, 25, 26, 27, 28, 29, 30, 31, 32, 33, 34, 35, 36, 37, 38, 39, 40, 41, 42] (by decide +kernel) (by decide +kernel)
set_option maxRecDepth 20000 in
theorem gX4_frame_X4_refuses : GoodIn wsX4_frame (wsV RX4 120 RX4 yX4_refuses wsX4_refuses) := goodIn_app (goodIn_of _ (by decide +kernel)) ggX4_frame_X4_refuses
set_option maxRecDepth 20000 in
theorem ggX4_count_X4_in : GoodIn wsX4_count wsX4_in := goodIn_r _ [11] (by decide +kernel) (by decide +kernel)
set_option maxRecDepth 20000 in
theorem gX4_count_X4_in : GoodIn wsX4_count (va_wsS RX4 116 yX4_in wsX4_in) := goodIn_app (goodIn_of _ (by decide +kernel)) ggX4_count_X4_in
set_option maxRecDepth 20000 in
theorem ggX4_count_X4_refuses : GoodIn wsX4_count wsX4_refuses := goodIn_r _ [15, 1, 21, 22, 23, 24, 25, 26, 27, 28, 29, 30, 31, 32, 33, 34, 35, 36, 37, 38, 39, 40, 41, 42, 43, 44, 45, 46, 47, 48, 49] (by decide +kernel) (by decide +kernel)
set_option maxRecDepth 20000 in
theorem gX4_count_X4_refuses : GoodIn wsX4_count (wsV RX4 120 RX4 yX4_refuses wsX4_refuses) := goodIn_app (goodIn_of _ (by decide +kernel)) ggX4_count_X4_refuses
set_option maxRecDepth 20000 in
theorem ggX4_count_X4_room : GoodIn wsX4_count wsX4_room := goodIn_r _ [19, 20, 3, 21, 22, 23, 24, 25, 26, 27, 28, 29, 30, 31, 32, 33, 34, 35, 36, 37, 38, 39, 40, 41, 42, 43, 44, 45, 46, 47, 48, 49] (by decide +kernel) (by decide +kernel)
set_option maxRecDepth 20000 in
theorem gX4_count_X4_room : GoodIn wsX4_count (wsV RX4 124 RX4 yX4_room wsX4_room) := goodIn_app (goodIn_of _ (by decide +kernel)) ggX4_count_X4_room
set_option maxRecDepth 20000 in
theorem ggL_change_X3_change : GoodIn wsL_change wsX3_change := goodIn_ca (goodIn_ca (goodIn_r _ [7, 8, 9, 10, 11, 12, 13, 14, 15, 6, 16, 17, 18, 19, 20, 21, 22, 23, 24, 25, 26, 27, 28, 29, 30, 31, 32, 33, 34, 35, 36, 37, 38, 39, 40, 41, 42, 43, 44, 45, 46, 47, 48, 49, 50, 51, 52, 53, 54, 55, 56, 57, 58, 59, 60, 61, 62, 63, 64, 65, 66, 67, 68, 69, 70, 71, 72, 73, 74, 75, 76, 77, 78, 79, 80, 81, 82, 83, 84, 85, 86, 87, 88, 89, 90, 91, 92, 93, 94, 95, 96, 97, 98, 99, 100, 101, 102, 103, 104, 105, 106, 107, 108, 109, 110, 111, 112, 113, 114, 115, 116, 117, 118, 119, 120, 121, 122, 123, 124, 125, 126, 127, 128, 129, 130, 131, 132, 133, 134, 135, 136, 137, 138, 139, 140, 141, 142, 143, 144, 145, 146, 147, 148, 149, 150, 151, 152, 153, 154, 155, 156, 157] (by decide +kernel) (by decide +kernel)) (goodIn_sub (fun _ h => List.mem_cons_of_mem _ (List.mem_append_left _ (List.mem_append_right _ h))) (by decide +kernel))) (goodIn_sub (fun _ h => List.mem_cons_of_mem _ (List.mem_append_right _ h)) (by decide +kernel))
set_option maxRecDepth 20000 in
theorem gL_change_X3_change : GoodIn wsL_change (wsV RL 7 RX3 yX3_change wsX3_change) := goodIn_app (goodIn_of _ (by decide +kernel)) ggL_change_X3_change
