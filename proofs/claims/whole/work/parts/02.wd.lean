set_option maxRecDepth 20000 in
theorem ggX4_mayWrite_X4_goDown : GoodIn wsX4_mayWrite wsX4_goDown := goodIn_r _ [7, 1, 8, 9, 10, 11, 12, 13, 14, 15, 16, 17, 18, 19, 20, 21, 22, 23, 24, 25, 26, 27, 28, 29, 30, 31, 32, 33, 34, 35, 36, 37, 38, 39, 40] (by decide +kernel) (by decide +kernel)
set_option maxRecDepth 20000 in
theorem gX4_mayWrite_X4_goDown : GoodIn wsX4_mayWrite (wsV RX4 85 RX4 yX4_goDown wsX4_goDown) := goodIn_app (goodIn_of _ (by decide +kernel)) ggX4_mayWrite_X4_goDown
set_option maxRecDepth 20000 in
theorem ggX4_writeHome_X4_mayWrite : GoodIn wsX4_writeHome wsX4_mayWrite := goodIn_r _ [9, 10, 11, 12, 13, 14, 8, 15, 16, 17, 18, 19, 20, 21, 22, 23, 24, 25, 26, 27, 28, 29, 30, 31, 32, 33, 34, 35, 36, 37, 38, 39, 40, 41, 42, 43, 44, 45, 46, 47, 48] (by decide +kernel) (by decide +kernel)
set_option maxRecDepth 20000 in
theorem gX4_writeHome_X4_mayWrite : GoodIn wsX4_writeHome (wsV RX4 91 RX4 yX4_mayWrite wsX4_mayWrite) := goodIn_app (goodIn_of _ (by decide +kernel)) ggX4_writeHome_X4_mayWrite
set_option maxRecDepth 20000 in
theorem ggX4_writeBeside_X4_mayWrite : GoodIn wsX4_writeBeside wsX4_mayWrite := goodIn_r _ [11, 12, 13, 14, 15, 16, 10, 17, 18, 19, 1, 20, 21, 22, 23, 24, 25, 26, 27, 28, 29, 30, 31, 32, 33, 34, 35, 36, 37, 38, 39, 40, 41, 42, 43, 44, 45, 46, 47, 48, 49] (by decide +kernel) (by decide +kernel)
set_option maxRecDepth 20000 in
theorem gX4_writeBeside_X4_mayWrite : GoodIn wsX4_writeBeside (wsV RX4 91 RX4 yX4_mayWrite wsX4_mayWrite) := goodIn_app (goodIn_of _ (by decide +kernel)) ggX4_writeBeside_X4_mayWrite
set_option maxRecDepth 20000 in
theorem ggX4_logWaiting_X4_mayWrite : GoodIn wsX4_logWaiting wsX4_mayWrite := goodIn_r _ [14, 15, 16, 17, 18, 19, 13, 20, 21, 1, 22, 23, 24, 25, 26, 27, 28, 29, 30, 31, 32, 33, 34, 35, 36, 37, 38, 39, 40, 41, 42, 43, 44, 45, 46, 47, 48, 49, 50, 51, 52] (by decide +kernel) (by decide +kernel)
set_option maxRecDepth 20000 in
theorem gX4_logWaiting_X4_mayWrite : GoodIn wsX4_logWaiting (wsV RX4 91 RX4 yX4_mayWrite wsX4_mayWrite) := goodIn_app (goodIn_of _ (by decide +kernel)) ggX4_logWaiting_X4_mayWrite
set_option maxRecDepth 20000 in
theorem ggX4_clean_X4_logWaiting : GoodIn wsX4_clean wsX4_logWaiting := goodIn_r _ [9, 10, 11, 12, 13, 14, 15, 16, 17, 18, 19, 20, 21, 8, 22, 23, 24, 25, 26, 27, 28, 29, 2, 1, 44, 45, 46, 47, 48, 49, 50, 51, 52, 53, 54, 55, 56, 57, 58, 59, 60, 61, 62, 63, 64, 65, 66, 67, 68, 69, 70, 71, 72] (by decide +kernel) (by decide +kernel)
set_option maxRecDepth 20000 in
theorem gX4_clean_X4_logWaiting : GoodIn wsX4_clean (wsV RX4 95 RX4 yX4_logWaiting wsX4_logWaiting) := goodIn_app (goodIn_of _ (by decide +kernel)) ggX4_clean_X4_logWaiting
set_option maxRecDepth 20000 in
theorem ggX4_clean_X4_writeBeside : GoodIn wsX4_clean wsX4_writeBeside := goodIn_r _ [33, 2, 34, 3, 35, 36, 37, 19, 20, 21, 8, 22, 23, 24, 25, 26, 27, 28, 29, 10, 1, 44, 45, 46, 47, 48, 49, 50, 51, 52, 53, 54, 55, 56, 57, 58, 59, 60, 61, 62, 63, 64, 65, 66, 67, 68, 69, 70, 71, 72] (by decide +kernel) (by decide +kernel)
set_option maxRecDepth 20000 in
theorem gX4_clean_X4_writeBeside : GoodIn wsX4_clean (wsV RX4 98 RX4 yX4_writeBeside wsX4_writeBeside) := goodIn_app (goodIn_of _ (by decide +kernel)) ggX4_clean_X4_writeBeside
set_option maxRecDepth 20000 in
theorem ggX4_clean_X4_writeHome : GoodIn wsX4_clean wsX4_writeHome := goodIn_r _ [41, 42, 43, 37, 36, 19, 20, 21, 8, 22, 23, 24, 25, 26, 27, 28, 29, 10, 2, 1, 44, 45, 46, 47, 48, 49, 50, 51, 52, 53, 54, 55, 56, 57, 58, 59, 60, 61, 62, 63, 64, 65, 66, 67, 68, 69, 70, 71, 72] (by decide +kernel) (by decide +kernel)
set_option maxRecDepth 20000 in
theorem gX4_clean_X4_writeHome : GoodIn wsX4_clean (wsV RX4 102 RX4 yX4_writeHome wsX4_writeHome) := goodIn_app (goodIn_of _ (by decide +kernel)) ggX4_clean_X4_writeHome
set_option maxRecDepth 20000 in
theorem ggX4_bring_X4_clean : GoodIn wsX4_bring wsX4_clean := goodIn_r _ [13, 3, 1, 4, 14, 15, 16, 17, 12, 18, 19, 20, 21, 22, 23, 24, 25, 26, 27, 28, 29, 30, 31, 32, 33, 34, 35, 36, 37, 38, 39, 40, 41, 42, 43, 44, 45, 6, 46, 47, 48, 49, 5, 7, 50, 51, 52, 53, 54, 55, 56, 57, 58, 59, 60, 61, 62, 63, 64, 65, 66, 67, 68, 69, 70, 71, 72, 73, 74, 75, 76, 77, 78] (by decide +kernel) (by decide +kernel)
set_option maxRecDepth 20000 in
theorem gX4_bring_X4_clean : GoodIn wsX4_bring (wsV RX4 109 RX4 yX4_clean wsX4_clean) := goodIn_app (goodIn_of _ (by decide +kernel)) ggX4_bring_X4_clean
set_option maxRecDepth 20000 in
theorem ggX4_check_X4_clean : GoodIn wsX4_check wsX4_clean := goodIn_r _ [8, 9, 10, 11, 1, 12, 13, 14, 7, 15, 16, 17, 18, 19, 20, 21, 22, 23, 24, 25, 26, 27, 28, 29, 30, 31, 32, 33, 34, 35, 36, 37, 38, 39, 40, 41, 42, 43, 44, 45, 46, 47, 48, 49, 50, 51, 52, 53, 54, 55, 56, 57, 58, 59, 60, 61, 62, 63, 64, 65, 66, 67, 68, 69, 70, 71, 72, 73, 74, 75, 76, 77, 78] (by decide +kernel) (by decide +kernel)
set_option maxRecDepth 20000 in
theorem gX4_check_X4_clean : GoodIn wsX4_check (wsV RX4 109 RX4 yX4_clean wsX4_clean) := goodIn_app (goodIn_of _ (by decide +kernel)) ggX4_check_X4_clean
set_option maxRecDepth 20000 in
theorem ggX4_check_X4_mayWrite : GoodIn wsX4_check wsX4_mayWrite := goodIn_r _ [28, 29, 30, 31, 32, 33, 7, 34, 35, 16, 10, 9, 50, 51, 52, 53, 54, 55, 56, 57, 58, 59, 60, 61, 62, 63, 64, 65, 66, 67, 68, 69, 70, 71, 72, 73, 74, 75, 76, 77, 78] (by decide +kernel) (by decide +kernel)
set_option maxRecDepth 20000 in
theorem gX4_check_X4_mayWrite : GoodIn wsX4_check (wsV RX4 91 RX4 yX4_mayWrite wsX4_mayWrite) := goodIn_app (goodIn_of _ (by decide +kernel)) ggX4_check_X4_mayWrite
set_option maxRecDepth 20000 in
theorem ggX4_change_X4_in : GoodIn wsX4_change wsX4_in := goodIn_r _ [15] (by decide +kernel) (by decide +kernel)
set_option maxRecDepth 20000 in
theorem gX4_change_X4_in : GoodIn wsX4_change (va_wsS RX4 116 yX4_in wsX4_in) := goodIn_app (goodIn_of _ (by decide +kernel)) ggX4_change_X4_in
set_option maxRecDepth 20000 in
theorem ggX4_change_X4_refuses : GoodIn wsX4_change wsX4_refuses := goodIn_r _ [19, 1, 72, 73, 74, 75, 76, 77, 78, 79, 80, 81, 82, 83, 84, 85, 86, 87, 88, 89, 90, 91, 92, 93, 94, 95, 96, 97, 98, 99, 100] (by decide +kernel) (by decide +kernel)
set_option maxRecDepth 20000 in
theorem gX4_change_X4_refuses : GoodIn wsX4_change (wsV RX4 120 RX4 yX4_refuses wsX4_refuses) := goodIn_app (goodIn_of _ (by decide +kernel)) ggX4_change_X4_refuses
set_option maxRecDepth 20000 in
theorem ggX4_change_X4_room : GoodIn wsX4_change wsX4_room := goodIn_r _ [23, 24, 5, 72, 73, 74, 75, 76, 77, 78, 79, 80, 81, 82, 83, 84, 85, 86, 87, 88, 89, 90, 91, 92, 93, 94, 95, 96, 97, 98, 99, 100] (by decide +kernel) (by decide +kernel)
set_option maxRecDepth 20000 in
theorem gX4_change_X4_room : GoodIn wsX4_change (wsV RX4 124 RX4 yX4_room wsX4_room) := goodIn_app (goodIn_of _ (by decide +kernel)) ggX4_change_X4_room
set_option maxRecDepth 20000 in
theorem ggX4_change_X4_check : GoodIn wsX4_change wsX4_check := goodIn_r _ [28, 29, 5, 24, 30, 31, 32, 14, 33, 6, 34, 4, 35, 36, 37, 38, 8, 7, 39, 40, 9, 41, 10, 42, 11, 43, 44, 45, 46, 47, 48, 49, 50, 51, 52, 2, 53, 54, 55, 56, 57, 58, 59, 3, 60, 61, 62, 63, 64, 65, 72, 73, 74, 75, 76, 77, 78, 79, 80, 81, 82, 83, 84, 85, 86, 87, 88, 89, 90, 91, 92, 93, 94, 95, 96, 97, 98, 99, 100] (by decide +kernel) (by decide +kernel)
set_option maxRecDepth 20000 in
theorem gX4_change_X4_check : GoodIn wsX4_change (wsV RX4 128 RX4 yX4_check wsX4_check) := goodIn_app (goodIn_of _ (by decide +kernel)) ggX4_change_X4_check
set_option maxRecDepth 20000 in
theorem ggX4_change_X4_bring : GoodIn wsX4_change wsX4_bring := goodIn_r _ [69, 34, 70, 6, 4, 64, 3, 65, 71, 30, 31, 32, 14, 33, 29, 35, 36, 37, 38, 8, 7, 39, 40, 9, 41, 10, 42, 11, 43, 44, 45, 46, 47, 48, 49, 50, 51, 52, 2, 53, 54, 55, 56, 57, 58, 59, 60, 61, 62, 63, 72, 73, 74, 75, 76, 77, 78, 79, 80, 81, 82, 83, 84, 85, 86, 87, 88, 89, 90, 91, 92, 93, 94, 95, 96, 97, 98, 99, 100] (by decide +kernel) (by decide +kernel)
set_option maxRecDepth 20000 in
theorem gX4_change_X4_bring : GoodIn wsX4_change (wsV RX4 131 RX4 yX4_bring wsX4_bring) := goodIn_app (goodIn_of _ (by decide +kernel)) ggX4_change_X4_bring
set_option maxRecDepth 20000 in
theorem ggX4_read_X4_in : GoodIn wsX4_read wsX4_in := goodIn_r _ [8] (by decide +kernel) (by decide +kernel)
set_option maxRecDepth 20000 in
theorem gX4_read_X4_in : GoodIn wsX4_read (va_wsS RX4 116 yX4_in wsX4_in) := goodIn_app (goodIn_of _ (by decide +kernel)) ggX4_read_X4_in
set_option maxRecDepth 20000 in
theorem ggX4_read_X4_refuses : GoodIn wsX4_read wsX4_refuses := goodIn_r _ [12, 1, 63, 64, 65, 66, 67, 68, 69, 70, 71, 72, 73, 74, 75, 76, 77, 78, 79, 80, 81, 82, 83, 84, 85, 86, 87, 88, 89, 90, 91] (by decide +kernel) (by decide +kernel)
set_option maxRecDepth 20000 in
theorem gX4_read_X4_refuses : GoodIn wsX4_read (wsV RX4 120 RX4 yX4_refuses wsX4_refuses) := goodIn_app (goodIn_of _ (by decide +kernel)) ggX4_read_X4_refuses
set_option maxRecDepth 20000 in
theorem ggX4_read_X4_bring : GoodIn wsX4_read wsX4_bring := goodIn_r _ [16, 17, 18, 19, 20, 21, 3, 22, 23, 24, 25, 26, 7, 27, 28, 29, 30, 31, 32, 33, 34, 35, 36, 37, 38, 39, 40, 41, 42, 43, 44, 45, 46, 47, 48, 49, 50, 51, 2, 52, 53, 54, 55, 56, 57, 58, 59, 60, 61, 62, 63, 64, 65, 66, 67, 68, 69, 70, 71, 72, 73, 74, 75, 76, 77, 78, 79, 80, 81, 82, 83, 84, 85, 86, 87, 88, 89, 90, 91] (by decide +kernel) (by decide +kernel)
set_option maxRecDepth 20000 in
theorem gX4_read_X4_bring : GoodIn wsX4_read (wsV RX4 131 RX4 yX4_bring wsX4_bring) := goodIn_app (goodIn_of _ (by decide +kernel)) ggX4_read_X4_bring
set_option maxRecDepth 20000 in
theorem ggX4_sync_X4_refuses : GoodIn wsX4_sync wsX4_refuses := goodIn_r _ [8, 1, 33, 34, 35, 36, 37, 38, 39, 40, 41, 42, 43, 44, 45, 46, 47, 48, 49, 50, 51, 52, 53, 54, 55, 56, 57, 58, 59, 60, 61] (by decide +kernel) (by decide +kernel)
set_option maxRecDepth 20000 in
theorem gX4_sync_X4_refuses : GoodIn wsX4_sync (wsV RX4 120 RX4 yX4_refuses wsX4_refuses) := goodIn_app (goodIn_of _ (by decide +kernel)) ggX4_sync_X4_refuses
set_option maxRecDepth 20000 in
theorem ggX4_sync_X4_logWaiting : GoodIn wsX4_sync wsX4_logWaiting := goodIn_r _ [12, 3, 13, 14, 15, 16, 17, 18, 19, 20, 21, 22, 23, 7, 24, 25, 26, 27, 28, 29, 30, 2, 31, 32, 33, 34, 35, 36, 37, 38, 39, 40, 41, 42, 43, 44, 45, 46, 47, 48, 49, 50, 51, 52, 53, 54, 55, 56, 57, 58, 59, 60, 61] (by decide +kernel) (by decide +kernel)
set_option maxRecDepth 20000 in
theorem gX4_sync_X4_logWaiting : GoodIn wsX4_sync (wsV RX4 95 RX4 yX4_logWaiting wsX4_logWaiting) := goodIn_app (goodIn_of _ (by decide +kernel)) ggX4_sync_X4_logWaiting
