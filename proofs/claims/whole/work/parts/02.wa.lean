set_option maxRecDepth 20000 in
theorem ggX0_copy_X0_set : GoodIn wsX0_copy wsX0_set := goodIn_r _ [9, 1, 2, 3, 4, 10, 11, 12, 13] (by decide +kernel) (by decide +kernel)
set_option maxRecDepth 20000 in
theorem gX0_copy_X0_set : GoodIn wsX0_copy (wsV RX0 22 RX0 yX0_set wsX0_set) := goodIn_app (goodIn_of _ (by decide +kernel)) ggX0_copy_X0_set
set_option maxRecDepth 20000 in
theorem ggX3_init_X2_init : GoodIn wsX3_init wsX2_init := goodIn_r _ [30, 31, 2, 3, 32, 33, 34, 35, 66, 67, 68] (by decide +kernel) (by decide +kernel)
set_option maxRecDepth 20000 in
theorem gX3_init_X2_init : GoodIn wsX3_init (wsX2_init) := ggX3_init_X2_init
set_option maxRecDepth 20000 in
theorem ggX3_init_X0_init : GoodIn wsX3_init wsX0_init := goodIn_r _ [37, 38, 2, 3, 39, 40, 41, 42, 69, 70, 71, 72] (by decide +kernel) (by decide +kernel)
set_option maxRecDepth 20000 in
theorem gX3_init_X0_init_n68 : GoodIn wsX3_init (wsX0_init) := ggX3_init_X0_init
set_option maxRecDepth 20000 in
theorem ggX3_init_X1_init : GoodIn wsX3_init wsX1_init := goodIn_r _ [44, 45, 2, 3, 32, 46, 47, 48, 49, 50, 73, 74, 75, 76, 77] (by decide +kernel) (by decide +kernel)
set_option maxRecDepth 20000 in
theorem gX3_init_X1_init_n69 : GoodIn wsX3_init (wsX1_init) := ggX3_init_X1_init
set_option maxRecDepth 20000 in
theorem ggX3_change_X3_isIn : GoodIn wsX3_change wsX3_isIn := goodIn_r _ [10] (by decide +kernel) (by decide +kernel)
set_option maxRecDepth 20000 in
theorem gX3_change_X3_isIn : GoodIn wsX3_change (va_wsS RX3 70 yX3_isIn wsX3_isIn) := goodIn_app (goodIn_of _ (by decide +kernel)) ggX3_change_X3_isIn
set_option maxRecDepth 20000 in
theorem ggX3_change_X3_room : GoodIn wsX3_change wsX3_room := goodIn_r _ [14, 15, 6, 125, 126, 127, 128, 129, 130, 131, 132, 133, 134, 135, 136, 137, 138, 139] (by decide +kernel) (by decide +kernel)
set_option maxRecDepth 20000 in
theorem gX3_change_X3_room : GoodIn wsX3_change (wsV RX3 88 RX3 yX3_room wsX3_room) := goodIn_app (goodIn_of _ (by decide +kernel)) ggX3_change_X3_room
set_option maxRecDepth 20000 in
theorem ggX3_change_X3_cleanAllAndMark : GoodIn wsX3_change wsX3_cleanAllAndMark := goodIn_r _ [19, 6, 15, 20, 21, 22, 9, 23, 24, 25, 26, 27, 28, 29, 30, 31, 32, 33, 34, 35, 36, 37, 38, 39, 40, 41, 42, 43, 44, 45, 46, 47, 48, 49, 50, 51, 52, 53, 54, 55, 56, 57, 58, 59, 60, 61, 62, 63, 64, 65, 66, 67, 68, 69, 70, 71, 72, 73, 74, 75, 76, 77, 7, 8, 10, 125, 126, 127, 128, 129, 130, 131, 132, 133, 134, 135, 136, 137, 138, 139, 140, 141, 142, 143, 144, 145, 146, 147, 148, 149, 150, 151] (by decide +kernel) (by decide +kernel)
set_option maxRecDepth 20000 in
theorem gX3_change_X3_cleanAllAndMark : GoodIn wsX3_change (wsV RX3 92 RX3 yX3_cleanAllAndMark wsX3_cleanAllAndMark) := goodIn_app (goodIn_of _ (by decide +kernel)) ggX3_change_X3_cleanAllAndMark
set_option maxRecDepth 20000 in
theorem ggX3_change_X3_lose : GoodIn wsX3_change wsX3_lose := goodIn_r _ [81, 82, 83, 84, 9, 85, 24, 35, 42, 5, 86, 87, 88, 89, 90, 91, 92, 93, 94, 95, 125, 126, 127, 128, 129, 130, 131, 132, 133, 134, 135, 136, 137, 138, 139, 140, 141, 142, 143, 144] (by decide +kernel) (by decide +kernel)
set_option maxRecDepth 20000 in
theorem gX3_change_X3_lose : GoodIn wsX3_change (wsV RX3 95 RX3 yX3_lose wsX3_lose) := goodIn_app (goodIn_of _ (by decide +kernel)) ggX3_change_X3_lose
set_option maxRecDepth 20000 in
theorem ggX3_change_X3_bring : GoodIn wsX3_change wsX3_bring := goodIn_r _ [99, 24, 25, 77, 100, 101, 102, 103, 104, 9, 105, 27, 106, 107, 108, 109, 20, 21, 22, 23, 26, 28, 29, 30, 31, 32, 33, 34, 35, 6, 36, 37, 38, 39, 40, 41, 42, 43, 44, 45, 46, 47, 48, 49, 50, 51, 52, 53, 54, 55, 56, 57, 58, 59, 60, 61, 62, 63, 64, 65, 66, 67, 68, 69, 70, 71, 72, 73, 74, 75, 76, 7, 8, 10, 110, 111, 112, 89, 113, 91, 114, 92, 115, 93, 94, 125, 126, 127, 128, 129, 130, 131, 132, 133, 134, 135, 136, 137, 138, 139, 140, 141, 142, 143, 144, 145, 146, 147, 148, 149, 150, 151] (by decide +kernel) (by decide +kernel)
set_option maxRecDepth 20000 in
theorem gX3_change_X3_bring : GoodIn wsX3_change (wsV RX3 98 RX3 yX3_bring wsX3_bring) := goodIn_app (goodIn_of _ (by decide +kernel)) ggX3_change_X3_bring
set_option maxRecDepth 20000 in
theorem ggX3_change_X3_changeWords : GoodIn wsX3_change wsX3_changeWords := goodIn_r _ [119, 37, 6, 27, 35, 44, 45, 46, 47, 120, 58, 59, 51, 60, 53, 54, 55, 56, 121, 122, 123, 89, 124, 91, 93, 94, 125, 126, 127, 128, 129, 130, 131, 132, 133, 134, 135, 136, 137, 138, 139, 140, 141, 142, 143, 144, 145, 146, 147, 148] (by decide +kernel) (by decide +kernel)
set_option maxRecDepth 20000 in
theorem gX3_change_X3_changeWords : GoodIn wsX3_change (wsV RX3 102 RX3 yX3_changeWords wsX3_changeWords) := goodIn_app (goodIn_of _ (by decide +kernel)) ggX3_change_X3_changeWords
set_option maxRecDepth 20000 in
theorem ggX3_read_X3_isIn : GoodIn wsX3_read wsX3_isIn := goodIn_r _ [11] (by decide +kernel) (by decide +kernel)
set_option maxRecDepth 20000 in
theorem gX3_read_X3_isIn : GoodIn wsX3_read (va_wsS RX3 70 yX3_isIn wsX3_isIn) := goodIn_app (goodIn_of _ (by decide +kernel)) ggX3_read_X3_isIn
set_option maxRecDepth 20000 in
theorem ggX3_read_X3_bring : GoodIn wsX3_read wsX3_bring := goodIn_r _ [15, 16, 17, 18, 19, 20, 21, 22, 23, 10, 24, 25, 26, 27, 28, 29, 30, 31, 32, 33, 34, 35, 7, 36, 37, 38, 39, 40, 41, 42, 43, 44, 45, 46, 47, 48, 49, 50, 51, 52, 53, 54, 55, 56, 57, 58, 59, 60, 61, 62, 63, 64, 65, 66, 67, 68, 69, 70, 71, 72, 73, 74, 75, 76, 77, 78, 79, 80, 81, 82, 83, 8, 9, 11, 84, 85, 86, 87, 88, 89, 90, 91, 92, 93, 94, 108, 109, 110, 111, 112, 113, 114, 115, 116, 117, 118, 119, 120, 121, 122, 123, 124, 125, 126, 127, 128, 129, 130, 131, 132, 133, 134] (by decide +kernel) (by decide +kernel)
set_option maxRecDepth 20000 in
theorem gX3_read_X3_bring : GoodIn wsX3_read (wsV RX3 98 RX3 yX3_bring wsX3_bring) := goodIn_app (goodIn_of _ (by decide +kernel)) ggX3_read_X3_bring
set_option maxRecDepth 20000 in
theorem ggX3_read_X3_lose : GoodIn wsX3_read wsX3_lose := goodIn_r _ [98, 99, 100, 101, 10, 102, 16, 41, 49, 5, 103, 104, 105, 87, 106, 89, 91, 93, 94, 107, 108, 109, 110, 111, 112, 113, 114, 115, 116, 117, 118, 119, 120, 121, 122, 123, 124, 125, 126, 127] (by decide +kernel) (by decide +kernel)
set_option maxRecDepth 20000 in
theorem gX3_read_X3_lose : GoodIn wsX3_read (wsV RX3 95 RX3 yX3_lose wsX3_lose) := goodIn_app (goodIn_of _ (by decide +kernel)) ggX3_read_X3_lose
set_option maxRecDepth 20000 in
theorem ggX3_sync_X3_logWaiting : GoodIn wsX3_sync wsX3_logWaiting := goodIn_r _ [8, 9, 10, 11, 12, 13, 14, 15, 7, 16, 17, 18, 19, 20, 21, 22, 23, 24, 25, 26, 27, 28, 29, 30, 31, 32, 33, 34, 35, 55, 56, 57, 58, 59, 60, 61, 62, 63, 64, 65, 66, 67, 68, 69, 70, 71, 72, 73] (by decide +kernel) (by decide +kernel)
set_option maxRecDepth 20000 in
theorem gX3_sync_X3_logWaiting : GoodIn wsX3_sync (wsV RX3 110 RX3 yX3_logWaiting wsX3_logWaiting) := goodIn_app (goodIn_of _ (by decide +kernel)) ggX3_sync_X3_logWaiting
set_option maxRecDepth 20000 in
theorem ggX3_sync_X3_lose : GoodIn wsX3_sync wsX3_lose := goodIn_r _ [39, 40, 41, 42, 7, 43, 44, 9, 17, 3, 45, 46, 47, 48, 49, 50, 51, 52, 53, 54, 55, 56, 57, 58, 59, 60, 61, 62, 63, 64, 65, 66, 67, 68, 69, 74, 75, 76, 77, 78] (by decide +kernel) (by decide +kernel)
set_option maxRecDepth 20000 in
theorem gX3_sync_X3_lose : GoodIn wsX3_sync (wsV RX3 95 RX3 yX3_lose wsX3_lose) := goodIn_app (goodIn_of _ (by decide +kernel)) ggX3_sync_X3_lose
set_option maxRecDepth 20000 in
theorem ggX3_checkpoint_X3_cleanAllAndMark : GoodIn wsX3_checkpoint wsX3_cleanAllAndMark := goodIn_r _ [8, 9, 10, 11, 12, 13, 7, 14, 15, 16, 17, 18, 19, 20, 21, 22, 23, 24, 25, 26, 27, 28, 29, 30, 31, 32, 33, 34, 35, 36, 37, 38, 39, 40, 41, 42, 43, 44, 45, 46, 47, 48, 49, 50, 51, 52, 53, 54, 55, 56, 57, 58, 59, 60, 61, 62, 63, 64, 65, 66, 67, 68, 69, 70, 71, 90, 91, 92, 93, 94, 95, 96, 97, 98, 99, 100, 101, 102, 103, 104, 105, 106, 107, 108, 109, 110, 111, 112, 113, 114, 115, 116] (by decide +kernel) (by decide +kernel)
set_option maxRecDepth 20000 in
theorem gX3_checkpoint_X3_cleanAllAndMark : GoodIn wsX3_checkpoint (wsV RX3 92 RX3 yX3_cleanAllAndMark wsX3_cleanAllAndMark) := goodIn_app (goodIn_of _ (by decide +kernel)) ggX3_checkpoint_X3_cleanAllAndMark
set_option maxRecDepth 20000 in
theorem ggX3_checkpoint_X3_lose : GoodIn wsX3_checkpoint wsX3_lose := goodIn_r _ [75, 76, 77, 78, 7, 79, 15, 26, 33, 3, 80, 81, 82, 83, 84, 85, 86, 87, 88, 89, 90, 91, 92, 93, 94, 95, 96, 97, 98, 99, 100, 101, 102, 103, 104, 105, 106, 107, 108, 109] (by decide +kernel) (by decide +kernel)
set_option maxRecDepth 20000 in
theorem gX3_checkpoint_X3_lose : GoodIn wsX3_checkpoint (wsV RX3 95 RX3 yX3_lose wsX3_lose) := goodIn_app (goodIn_of _ (by decide +kernel)) ggX3_checkpoint_X3_lose
set_option maxRecDepth 20000 in
theorem ggX3_recover_X3_mendHomes : GoodIn wsX3_recover wsX3_mendHomes := goodIn_r _ [9, 10, 11, 12, 13, 14, 15, 16, 17, 18, 19, 20, 21, 22, 23, 24, 8, 25, 26, 27, 28, 29, 30, 31, 32, 33, 34, 35, 36, 37, 38, 39, 40, 41, 134, 135, 136, 137, 138, 139, 140, 141, 142, 143, 144, 145, 146, 147, 148, 149, 150, 151] (by decide +kernel) (by decide +kernel)
set_option maxRecDepth 20000 in
theorem gX3_recover_X3_mendHomes : GoodIn wsX3_recover (wsV RX3 117 RX3 yX3_mendHomes wsX3_mendHomes) := goodIn_app (goodIn_of _ (by decide +kernel)) ggX3_recover_X3_mendHomes
set_option maxRecDepth 20000 in
theorem ggX3_recover_X3_lose : GoodIn wsX3_recover wsX3_lose := goodIn_r _ [45, 46, 47, 48, 8, 49, 50, 51, 35, 3, 52, 53, 54, 55, 56, 57, 58, 59, 60, 61, 134, 135, 136, 137, 138, 139, 140, 141, 142, 143, 144, 145, 146, 147, 148, 152, 153, 154, 155, 156] (by decide +kernel) (by decide +kernel)
set_option maxRecDepth 20000 in
theorem gX3_recover_X3_lose : GoodIn wsX3_recover (wsV RX3 95 RX3 yX3_lose wsX3_lose) := goodIn_app (goodIn_of _ (by decide +kernel)) ggX3_recover_X3_lose
set_option maxRecDepth 20000 in
theorem ggX3_recover_X3_redoLogged : GoodIn wsX3_recover wsX3_redoLogged := goodIn_r _ [65, 66, 67, 68, 69, 70, 71, 72, 73, 74, 75, 76, 77, 78, 8, 79, 80, 81, 82, 83, 50, 84, 10, 85, 86, 87, 88, 89, 90, 91, 92, 93, 94, 95, 96, 97, 98, 99, 11, 100, 101, 102, 103, 104, 105, 51, 4, 106, 31, 32, 33, 34, 35, 36, 107, 108, 109, 110, 111, 112, 113, 114, 115, 116, 117, 118, 119, 27, 28, 29, 30, 37, 38, 39, 18, 40, 41, 20, 21, 120, 121, 122, 123, 124, 125, 126, 55, 127, 57, 128, 58, 129, 59, 60, 130, 131, 132, 133, 134, 135, 136, 137, 138, 139, 140, 141, 142, 143, 144, 145, 146, 147, 148, 157, 158, 159, 160, 152, 153, 154, 155, 156, 149, 150, 151] (by decide +kernel) (by decide +kernel)
set_option maxRecDepth 20000 in
theorem gX3_recover_X3_redoLogged : GoodIn wsX3_recover (wsV RX3 121 RX3 yX3_redoLogged wsX3_redoLogged) := goodIn_app (goodIn_of _ (by decide +kernel)) ggX3_recover_X3_redoLogged
