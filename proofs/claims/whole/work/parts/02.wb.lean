set_option maxRecDepth 20000 in
theorem ggX3_cut_X3_goDown : GoodIn wsX3_cut wsX3_goDown := goodIn_r _ [9, 10, 4, 11, 3, 12, 13, 14, 15, 16, 17, 18, 19, 20, 21, 22, 23, 24, 25, 26, 27, 28, 29, 30, 31, 32, 33, 34, 35, 36, 37, 38, 39, 40, 41] (by decide +kernel) (by decide +kernel)
set_option maxRecDepth 20000 in
theorem gX3_cut_X3_goDown : GoodIn wsX3_cut (wsV RX3 124 RX3 yX3_goDown wsX3_goDown) := goodIn_app (goodIn_of _ (by decide +kernel)) ggX3_cut_X3_goDown
set_option maxRecDepth 20000 in
theorem ggX3_disk_X3_placeValue : GoodIn wsX3_disk wsX3_placeValue := goodIn_ca (goodIn_r _ [8, 1, 2, 9, 10, 7, 11, 12, 13, 14, 15, 16, 17, 18, 19, 54, 55, 56] (by decide +kernel) (by decide +kernel)) (goodIn_sub (fun _ h => List.mem_cons_of_mem _ (List.mem_append_right _ h)) (by decide +kernel))
set_option maxRecDepth 20000 in
theorem gX3_disk_X3_placeValue : GoodIn wsX3_disk (va_wsS RX3 127 yX3_placeValue wsX3_placeValue) := goodIn_app (goodIn_of _ (by decide +kernel)) ggX3_disk_X3_placeValue
set_option maxRecDepth 20000 in
theorem ggX3_disk_X3_recordValue : GoodIn wsX3_disk wsX3_recordValue := goodIn_ca (goodIn_r _ [23, 1, 2, 24, 9, 10, 7, 11, 25, 26, 27, 28, 29, 30, 31, 32, 33, 39, 40, 41, 42, 43, 44, 45, 46, 47, 48, 49, 50, 51, 52, 53, 57, 58, 59, 60] (by decide +kernel) (by decide +kernel)) (goodIn_sub (fun _ h => List.mem_cons_of_mem _ (List.mem_append_right _ h)) (by decide +kernel))
set_option maxRecDepth 20000 in
theorem gX3_disk_X3_recordValue : GoodIn wsX3_disk (wsV RX3 131 RX3 yX3_recordValue wsX3_recordValue) := goodIn_app (goodIn_of _ (by decide +kernel)) ggX3_disk_X3_recordValue
set_option maxRecDepth 20000 in
theorem ggX3_disk_X3_markValue : GoodIn wsX3_disk wsX3_markValue := goodIn_ca (goodIn_r _ [37, 1, 2, 38, 39, 40, 41, 42, 43, 44, 45, 46, 47, 48, 49, 50, 51, 52, 53] (by decide +kernel) (by decide +kernel)) (goodIn_sub (fun _ h => List.mem_cons_of_mem _ (List.mem_append_right _ h)) (by decide +kernel))
set_option maxRecDepth 20000 in
theorem gX3_disk_X3_markValue : GoodIn wsX3_disk (wsV RX3 135 RX3 yX3_markValue wsX3_markValue) := goodIn_app (goodIn_of _ (by decide +kernel)) ggX3_disk_X3_markValue
set_option maxRecDepth 20000 in
theorem ggX3_frame_X3_isIn : GoodIn wsX3_frame wsX3_isIn := goodIn_r _ [7] (by decide +kernel) (by decide +kernel)
set_option maxRecDepth 20000 in
theorem gX3_frame_X3_isIn : GoodIn wsX3_frame (va_wsS RX3 70 yX3_isIn wsX3_isIn) := goodIn_app (goodIn_of _ (by decide +kernel)) ggX3_frame_X3_isIn
set_option maxRecDepth 20000 in
theorem ggX3_frame_X1_value : GoodIn wsX3_frame wsX1_value := goodIn_r _ [12, 13, 14, 15, 16, 32, 33, 34, 35, 36] (by decide +kernel) (by decide +kernel)
set_option maxRecDepth 20000 in
theorem gX3_frame_X1_value : GoodIn wsX3_frame (wsV RX3 142 RX1 yX1_value wsX1_value) := goodIn_app (goodIn_of _ (by decide +kernel)) ggX3_frame_X1_value
set_option maxRecDepth 20000 in
theorem ggX3_count_X3_room : GoodIn wsX3_count wsX3_room := goodIn_r _ [13, 14, 4, 15, 16, 17, 18, 19, 20, 21, 22, 23, 24, 25, 26, 27, 28, 29] (by decide +kernel) (by decide +kernel)
set_option maxRecDepth 20000 in
theorem gX3_count_X3_room : GoodIn wsX3_count (wsV RX3 88 RX3 yX3_room wsX3_room) := goodIn_app (goodIn_of _ (by decide +kernel)) ggX3_count_X3_room
set_option maxRecDepth 20000 in
theorem ggX3_placeValue_X3_isIn : GoodIn wsX3_placeValue wsX3_isIn := goodIn_r _ [6] (by decide +kernel) (by decide +kernel)
set_option maxRecDepth 20000 in
theorem gX3_placeValue_X3_isIn : GoodIn wsX3_placeValue (va_wsS RX3 70 yX3_isIn wsX3_isIn) := goodIn_app (goodIn_of _ (by decide +kernel)) ggX3_placeValue_X3_isIn
set_option maxRecDepth 20000 in
theorem ggX3_placeValue_X2_value : GoodIn wsX3_placeValue wsX2_value := goodIn_r _ [11, 12, 13, 14, 15, 16, 17] (by decide +kernel) (by decide +kernel)
set_option maxRecDepth 20000 in
theorem gX3_placeValue_X2_value : GoodIn wsX3_placeValue (wsV RX3 150 RX2 yX2_value wsX2_value) := goodIn_app (goodIn_of _ (by decide +kernel)) ggX3_placeValue_X2_value
set_option maxRecDepth 20000 in
theorem ggX3_recordValue_X3_isIn : GoodIn wsX3_recordValue wsX3_isIn := goodIn_r _ [7] (by decide +kernel) (by decide +kernel)
set_option maxRecDepth 20000 in
theorem gX3_recordValue_X3_isIn : GoodIn wsX3_recordValue (va_wsS RX3 70 yX3_isIn wsX3_isIn) := goodIn_app (goodIn_of _ (by decide +kernel)) ggX3_recordValue_X3_isIn
set_option maxRecDepth 20000 in
theorem ggX3_recordValue_X0_value : GoodIn wsX3_recordValue wsX0_value := goodIn_r _ [12, 13, 14, 15, 16, 32, 33, 34, 35] (by decide +kernel) (by decide +kernel)
set_option maxRecDepth 20000 in
theorem gX3_recordValue_X0_value : GoodIn wsX3_recordValue (wsV RX3 153 RX0 yX0_value wsX0_value) := goodIn_app (goodIn_of _ (by decide +kernel)) ggX3_recordValue_X0_value
set_option maxRecDepth 20000 in
theorem ggX3_lose_X3_goDown : GoodIn wsX3_lose wsX3_goDown := goodIn_r _ [5, 6, 7, 8, 9, 10, 11, 12, 13, 14, 15, 16, 17, 18, 19, 20, 21, 22, 23, 24, 25, 26, 27, 28, 29, 30, 31, 32, 33, 34, 35, 36, 37, 38, 39] (by decide +kernel) (by decide +kernel)
set_option maxRecDepth 20000 in
theorem gX3_lose_X3_goDown : GoodIn wsX3_lose (wsV RX3 124 RX3 yX3_goDown wsX3_goDown) := goodIn_app (goodIn_of _ (by decide +kernel)) ggX3_lose_X3_goDown
set_option maxRecDepth 20000 in
theorem ggX3_goDown_X1_empty : GoodIn wsX3_goDown wsX1_empty := goodIn_r _ [9, 10, 11, 12, 13, 14, 30, 31, 32, 33, 34] (by decide +kernel) (by decide +kernel)
set_option maxRecDepth 20000 in
theorem gX3_goDown_X1_empty : GoodIn wsX3_goDown (wsV RX3 156 RX1 yX1_empty wsX1_empty) := goodIn_app (goodIn_of _ (by decide +kernel)) ggX3_goDown_X1_empty
set_option maxRecDepth 20000 in
theorem ggX3_logWaiting_X3_powerHolds : GoodIn wsX3_logWaiting wsX3_powerHolds := goodIn_r _ [9, 10, 11, 29, 30, 31, 32, 33, 34, 35, 36, 37, 38, 39, 40, 41, 42, 43] (by decide +kernel) (by decide +kernel)
set_option maxRecDepth 20000 in
theorem gX3_logWaiting_X3_powerHolds : GoodIn wsX3_logWaiting (wsV RX3 159 RX3 yX3_powerHolds wsX3_powerHolds) := goodIn_app (goodIn_of _ (by decide +kernel)) ggX3_logWaiting_X3_powerHolds
set_option maxRecDepth 20000 in
theorem ggX3_logWaiting_J9_floorMod_7cf53 : GoodIn wsX3_logWaiting wsJ9_floorMod_7cf53 := goodIn_r _ [15] (by decide +kernel) (by decide +kernel)
set_option maxRecDepth 20000 in
theorem gX3_logWaiting_J9_floorMod_7cf53 : GoodIn wsX3_logWaiting (va_wsS RX3 162 yJ9_floorMod_7cf53 wsJ9_floorMod_7cf53) := goodIn_app (goodIn_of _ (by decide +kernel)) ggX3_logWaiting_J9_floorMod_7cf53
set_option maxRecDepth 20000 in
theorem ggX3_logWaiting_X0_copy : GoodIn wsX3_logWaiting wsX0_copy := goodIn_r _ [20, 21, 22, 23, 24, 25, 26, 27, 19, 28, 44, 45, 46, 47] (by decide +kernel) (by decide +kernel)
set_option maxRecDepth 20000 in
theorem gX3_logWaiting_X0_copy : GoodIn wsX3_logWaiting (wsV RX3 167 RX0 yX0_copy wsX0_copy) := goodIn_app (goodIn_of _ (by decide +kernel)) ggX3_logWaiting_X0_copy
set_option maxRecDepth 20000 in
theorem ggX3_writePage_X3_powerHolds : GoodIn wsX3_writePage wsX3_powerHolds := goodIn_r _ [5, 6, 7, 16, 17, 18, 19, 20, 21, 22, 23, 24, 25, 26, 27, 28, 29, 30] (by decide +kernel) (by decide +kernel)
set_option maxRecDepth 20000 in
theorem gX3_writePage_X3_powerHolds : GoodIn wsX3_writePage (wsV RX3 159 RX3 yX3_powerHolds wsX3_powerHolds) := goodIn_app (goodIn_of _ (by decide +kernel)) ggX3_writePage_X3_powerHolds
set_option maxRecDepth 20000 in
theorem ggX3_writePage_X2_putSector : GoodIn wsX3_writePage wsX2_putSector := goodIn_r _ [12, 13, 14, 15, 31, 32, 33] (by decide +kernel) (by decide +kernel)
set_option maxRecDepth 20000 in
theorem gX3_writePage_X2_putSector : GoodIn wsX3_writePage (wsV RX3 171 RX2 yX2_putSector wsX2_putSector) := goodIn_app (goodIn_of _ (by decide +kernel)) ggX3_writePage_X2_putSector
set_option maxRecDepth 20000 in
theorem ggX3_cleanDirty_X3_logWaiting : GoodIn wsX3_cleanDirty wsX3_logWaiting := goodIn_r _ [12, 13, 14, 15, 16, 17, 18, 19, 11, 20, 21, 22, 23, 24, 25, 26, 27, 28, 29, 30, 31, 32, 33, 34, 35, 36, 37, 38, 39, 60, 61, 62, 63, 64, 65, 66, 67, 68, 69, 70, 71, 72, 73, 74, 80, 81, 82, 83] (by decide +kernel) (by decide +kernel)
set_option maxRecDepth 20000 in
theorem gX3_cleanDirty_X3_logWaiting : GoodIn wsX3_cleanDirty (wsV RX3 110 RX3 yX3_logWaiting wsX3_logWaiting) := goodIn_app (goodIn_of _ (by decide +kernel)) ggX3_cleanDirty_X3_logWaiting
set_option maxRecDepth 20000 in
theorem ggX3_cleanDirty_X3_writePage : GoodIn wsX3_cleanDirty wsX3_writePage := goodIn_r _ [43, 17, 18, 19, 11, 20, 21, 22, 44, 45, 46, 47, 48, 49, 50, 51, 60, 61, 62, 63, 64, 65, 66, 67, 68, 69, 70, 71, 72, 73, 74, 84, 85, 86] (by decide +kernel) (by decide +kernel)
set_option maxRecDepth 20000 in
theorem gX3_cleanDirty_X3_writePage : GoodIn wsX3_cleanDirty (wsV RX3 184 RX3 yX3_writePage wsX3_writePage) := goodIn_app (goodIn_of _ (by decide +kernel)) ggX3_cleanDirty_X3_writePage
