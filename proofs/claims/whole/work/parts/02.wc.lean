set_option maxRecDepth 20000 in
theorem ggX3_cleanDirty_X3_writeDirtyHome : GoodIn wsX3_cleanDirty wsX3_writeDirtyHome := goodIn_r _ [55, 1, 2, 4, 56, 5, 6, 57, 58, 11, 59, 40, 41, 42, 43, 17, 18, 19, 20, 21, 22, 44, 45, 46, 47, 48, 49, 50, 51, 60, 61, 62, 63, 64, 65, 66, 67, 68, 69, 70, 71, 72, 73, 74, 75, 76, 77, 78, 79, 84, 85, 86] (by decide +kernel) (by decide +kernel)
set_option maxRecDepth 20000 in
theorem gX3_cleanDirty_X3_writeDirtyHome : GoodIn wsX3_cleanDirty (wsV RX3 188 RX3 yX3_writeDirtyHome wsX3_writeDirtyHome) := goodIn_app (goodIn_of _ (by decide +kernel)) ggX3_cleanDirty_X3_writeDirtyHome
set_option maxRecDepth 20000 in
theorem ggX3_writeDirtyHome_X3_isIn : GoodIn wsX3_writeDirtyHome wsX3_isIn := goodIn_r _ [10] (by decide +kernel) (by decide +kernel)
set_option maxRecDepth 20000 in
theorem gX3_writeDirtyHome_X3_isIn : GoodIn wsX3_writeDirtyHome (va_wsS RX3 70 yX3_isIn wsX3_isIn) := goodIn_app (goodIn_of _ (by decide +kernel)) ggX3_writeDirtyHome_X3_isIn
set_option maxRecDepth 20000 in
theorem ggX3_writeDirtyHome_X3_writePage : GoodIn wsX3_writeDirtyHome wsX3_writePage := goodIn_r _ [14, 15, 16, 17, 9, 18, 19, 20, 21, 22, 23, 24, 25, 26, 27, 28, 29, 30, 31, 32, 33, 34, 35, 36, 37, 38, 39, 40, 41, 42, 43, 49, 50, 51] (by decide +kernel) (by decide +kernel)
set_option maxRecDepth 20000 in
theorem gX3_writeDirtyHome_X3_writePage : GoodIn wsX3_writeDirtyHome (wsV RX3 184 RX3 yX3_writePage wsX3_writePage) := goodIn_app (goodIn_of _ (by decide +kernel)) ggX3_writeDirtyHome_X3_writePage
set_option maxRecDepth 20000 in
theorem ggX3_cleanAllAndMark_X3_cleanDirty : GoodIn wsX3_cleanAllAndMark wsX3_cleanDirty := goodIn_r _ [7, 8, 9, 10, 11, 12, 13, 14, 15, 16, 17, 6, 18, 19, 1, 20, 21, 22, 23, 24, 25, 26, 27, 28, 29, 30, 31, 32, 33, 34, 35, 36, 37, 38, 39, 40, 41, 42, 43, 44, 45, 46, 47, 48, 49, 50, 51, 52, 53, 54, 55, 56, 57, 58, 59, 60, 61, 62, 63, 64, 65, 66, 67, 68, 69, 70, 71, 72, 73, 74, 75, 76, 77, 78, 79, 80, 81, 82, 83, 84, 85, 86, 87, 88, 89, 90, 91] (by decide +kernel) (by decide +kernel)
set_option maxRecDepth 20000 in
theorem gX3_cleanAllAndMark_X3_cleanDirty : GoodIn wsX3_cleanAllAndMark (wsV RX3 191 RX3 yX3_cleanDirty wsX3_cleanDirty) := goodIn_app (goodIn_of _ (by decide +kernel)) ggX3_cleanAllAndMark_X3_cleanDirty
set_option maxRecDepth 20000 in
theorem ggX3_cleanAllAndMark_X3_powerHolds : GoodIn wsX3_cleanAllAndMark wsX3_powerHolds := goodIn_r _ [25, 26, 27, 65, 66, 67, 68, 69, 70, 71, 72, 73, 74, 75, 76, 77, 78, 79] (by decide +kernel) (by decide +kernel)
set_option maxRecDepth 20000 in
theorem gX3_cleanAllAndMark_X3_powerHolds : GoodIn wsX3_cleanAllAndMark (wsV RX3 159 RX3 yX3_powerHolds wsX3_powerHolds) := goodIn_app (goodIn_of _ (by decide +kernel)) ggX3_cleanAllAndMark_X3_powerHolds
set_option maxRecDepth 20000 in
theorem ggX3_bring_X3_frameOf : GoodIn wsX3_bring wsX3_frameOf := goodIn_r _ [10, 1, 11, 85, 86, 87, 88, 89, 90, 91, 92, 93, 94, 95, 96, 97, 98, 99, 100, 101, 102, 103, 104] (by decide +kernel) (by decide +kernel)
set_option maxRecDepth 20000 in
theorem gX3_bring_X3_frameOf : GoodIn wsX3_bring (wsV RX3 194 RX3 yX3_frameOf wsX3_frameOf) := goodIn_app (goodIn_of _ (by decide +kernel)) ggX3_bring_X3_frameOf
set_option maxRecDepth 20000 in
theorem ggX3_bring_X3_frameToFill : GoodIn wsX3_bring wsX3_frameToFill := goodIn_r _ [15, 1, 5, 85, 86, 87, 88, 89, 90, 91, 92, 93, 94, 95, 96, 97, 98, 99, 100, 101, 102, 103, 104] (by decide +kernel) (by decide +kernel)
set_option maxRecDepth 20000 in
theorem gX3_bring_X3_frameToFill : GoodIn wsX3_bring (wsV RX3 197 RX3 yX3_frameToFill wsX3_frameToFill) := goodIn_app (goodIn_of _ (by decide +kernel)) ggX3_bring_X3_frameToFill
set_option maxRecDepth 20000 in
theorem ggX3_bring_X3_cleanDirty : GoodIn wsX3_bring wsX3_cleanDirty := goodIn_r _ [19, 1, 2, 20, 11, 21, 22, 23, 24, 25, 26, 9, 27, 28, 29, 30, 31, 32, 33, 34, 35, 36, 37, 38, 39, 40, 41, 42, 43, 44, 45, 46, 47, 48, 49, 50, 51, 52, 53, 54, 55, 56, 57, 58, 59, 60, 61, 62, 63, 64, 65, 66, 67, 68, 69, 70, 3, 71, 72, 73, 85, 86, 87, 88, 89, 90, 91, 92, 93, 94, 95, 96, 97, 98, 99, 100, 101, 102, 103, 104, 105, 106, 107, 108, 109, 110, 111] (by decide +kernel) (by decide +kernel)
set_option maxRecDepth 20000 in
theorem gX3_bring_X3_cleanDirty : GoodIn wsX3_bring (wsV RX3 191 RX3 yX3_cleanDirty wsX3_cleanDirty) := goodIn_app (goodIn_of _ (by decide +kernel)) ggX3_bring_X3_cleanDirty
set_option maxRecDepth 20000 in
theorem ggX3_bring_X1_fill : GoodIn wsX3_bring wsX1_fill := goodIn_r _ [78, 79, 80, 81, 82, 83, 84, 100, 101, 102, 103, 104, 109, 110, 111] (by decide +kernel) (by decide +kernel)
set_option maxRecDepth 20000 in
theorem gX3_bring_X1_fill : GoodIn wsX3_bring (wsV RX3 200 RX1 yX1_fill wsX1_fill) := goodIn_app (goodIn_of _ (by decide +kernel)) ggX3_bring_X1_fill
set_option maxRecDepth 20000 in
theorem ggX3_changeWords_J9_floorMod_7cf53 : GoodIn wsX3_changeWords wsJ9_floorMod_7cf53 := goodIn_r _ [8] (by decide +kernel) (by decide +kernel)
set_option maxRecDepth 20000 in
theorem gX3_changeWords_J9_floorMod_7cf53 : GoodIn wsX3_changeWords (va_wsS RX3 162 yJ9_floorMod_7cf53 wsJ9_floorMod_7cf53) := goodIn_app (goodIn_of _ (by decide +kernel)) ggX3_changeWords_J9_floorMod_7cf53
set_option maxRecDepth 20000 in
theorem ggX3_changeWords_X0_set : GoodIn wsX3_changeWords wsX0_set := goodIn_r _ [13, 14, 15, 16, 17, 46, 47, 48, 49] (by decide +kernel) (by decide +kernel)
set_option maxRecDepth 20000 in
theorem gX3_changeWords_X0_set : GoodIn wsX3_changeWords (wsV RX3 207 RX0 yX0_set wsX0_set) := goodIn_app (goodIn_of _ (by decide +kernel)) ggX3_changeWords_X0_set
set_option maxRecDepth 20000 in
theorem ggX3_changeWords_X1_changeWord : GoodIn wsX3_changeWords wsX1_changeWord := goodIn_r _ [22, 23, 24, 25, 41, 42, 43, 44, 45] (by decide +kernel) (by decide +kernel)
set_option maxRecDepth 20000 in
theorem gX3_changeWords_X1_changeWord : GoodIn wsX3_changeWords (wsV RX3 211 RX1 yX1_changeWord wsX1_changeWord) := goodIn_app (goodIn_of _ (by decide +kernel)) ggX3_changeWords_X1_changeWord
set_option maxRecDepth 20000 in
theorem ggX3_mendHomes_X2_isWhole : GoodIn wsX3_mendHomes wsX2_isWhole := goodIn_r _ [10, 11, 12, 49, 50, 51] (by decide +kernel) (by decide +kernel)
set_option maxRecDepth 20000 in
theorem gX3_mendHomes_X2_isWhole : GoodIn wsX3_mendHomes (wsV RX3 215 RX2 yX2_isWhole wsX2_isWhole) := goodIn_app (goodIn_of _ (by decide +kernel)) ggX3_mendHomes_X2_isWhole
set_option maxRecDepth 20000 in
theorem ggX3_mendHomes_X3_slotToMendFrom : GoodIn wsX3_mendHomes wsX3_slotToMendFrom := goodIn_r _ [17, 2, 18, 3, 6, 7, 8, 9, 10, 11, 12, 34, 35, 36, 37, 38, 39, 40, 41, 42, 43, 44, 45, 46, 47, 48, 49, 50, 51] (by decide +kernel) (by decide +kernel)
set_option maxRecDepth 20000 in
theorem gX3_mendHomes_X3_slotToMendFrom : GoodIn wsX3_mendHomes (wsV RX3 218 RX3 yX3_slotToMendFrom wsX3_slotToMendFrom) := goodIn_app (goodIn_of _ (by decide +kernel)) ggX3_mendHomes_X3_slotToMendFrom
set_option maxRecDepth 20000 in
theorem ggX3_mendHomes_X3_writePage : GoodIn wsX3_mendHomes wsX3_writePage := goodIn_r _ [22, 23, 24, 25, 16, 26, 27, 28, 29, 30, 31, 9, 32, 33, 11, 12, 34, 35, 36, 37, 38, 39, 40, 41, 42, 43, 44, 45, 46, 47, 48, 49, 50, 51] (by decide +kernel) (by decide +kernel)
set_option maxRecDepth 20000 in
theorem gX3_mendHomes_X3_writePage : GoodIn wsX3_mendHomes (wsV RX3 184 RX3 yX3_writePage wsX3_writePage) := goodIn_app (goodIn_of _ (by decide +kernel)) ggX3_mendHomes_X3_writePage
set_option maxRecDepth 20000 in
theorem ggX3_slotToMendFrom_X2_isWhole : GoodIn wsX3_slotToMendFrom wsX2_isWhole := goodIn_r _ [8, 9, 10, 26, 27, 28] (by decide +kernel) (by decide +kernel)
set_option maxRecDepth 20000 in
theorem gX3_slotToMendFrom_X2_isWhole : GoodIn wsX3_slotToMendFrom (wsV RX3 215 RX2 yX2_isWhole wsX2_isWhole) := goodIn_app (goodIn_of _ (by decide +kernel)) ggX3_slotToMendFrom_X2_isWhole
set_option maxRecDepth 20000 in
theorem ggX3_redoLogged_J9_floorMod_7cf53 : GoodIn wsX3_redoLogged wsJ9_floorMod_7cf53 := goodIn_r _ [11] (by decide +kernel) (by decide +kernel)
set_option maxRecDepth 20000 in
theorem gX3_redoLogged_J9_floorMod_7cf53 : GoodIn wsX3_redoLogged (va_wsS RX3 162 yJ9_floorMod_7cf53 wsJ9_floorMod_7cf53) := goodIn_app (goodIn_of _ (by decide +kernel)) ggX3_redoLogged_J9_floorMod_7cf53
set_option maxRecDepth 20000 in
theorem ggX3_redoLogged_X3_isIn : GoodIn wsX3_redoLogged wsX3_isIn := goodIn_r _ [15] (by decide +kernel) (by decide +kernel)
set_option maxRecDepth 20000 in
theorem gX3_redoLogged_X3_isIn : GoodIn wsX3_redoLogged (va_wsS RX3 70 yX3_isIn wsX3_isIn) := goodIn_app (goodIn_of _ (by decide +kernel)) ggX3_redoLogged_X3_isIn
set_option maxRecDepth 20000 in
theorem ggX3_redoLogged_X3_bring : GoodIn wsX3_redoLogged wsX3_bring := goodIn_r _ [19, 20, 21, 22, 23, 24, 25, 26, 27, 14, 28, 29, 30, 31, 32, 33, 34, 35, 36, 37, 38, 6, 39, 40, 41, 42, 43, 44, 45, 46, 2, 47, 48, 49, 50, 51, 52, 53, 8, 9, 10, 11, 54, 55, 56, 57, 58, 59, 60, 61, 62, 63, 64, 65, 66, 67, 68, 69, 70, 71, 72, 73, 74, 75, 76, 77, 78, 79, 80, 81, 82, 12, 13, 15, 83, 84, 85, 86, 87, 88, 89, 90, 91, 92, 93, 98, 99, 100, 101, 102, 103, 104, 105, 106, 107, 108, 109, 110, 111, 112, 117, 118, 119, 120, 121, 113, 114, 115, 116, 122, 123, 124] (by decide +kernel) (by decide +kernel)
set_option maxRecDepth 20000 in
theorem gX3_redoLogged_X3_bring : GoodIn wsX3_redoLogged (wsV RX3 98 RX3 yX3_bring wsX3_bring) := goodIn_app (goodIn_of _ (by decide +kernel)) ggX3_redoLogged_X3_bring
set_option maxRecDepth 20000 in
theorem ggX3_redoLogged_X1_changeWord : GoodIn wsX3_redoLogged wsX1_changeWord := goodIn_r _ [97, 88, 92, 93, 117, 118, 119, 120, 121] (by decide +kernel) (by decide +kernel)
set_option maxRecDepth 20000 in
theorem gX3_redoLogged_X1_changeWord : GoodIn wsX3_redoLogged (wsV RX3 211 RX1 yX1_changeWord wsX1_changeWord) := goodIn_app (goodIn_of _ (by decide +kernel)) ggX3_redoLogged_X1_changeWord
