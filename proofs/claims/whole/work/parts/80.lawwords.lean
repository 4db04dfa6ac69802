theorem lw_mem {big : List Cond} (ws : List Cond) (ps : List Nat) (hp : ws = ps.filterMap (fun i => big[i]?)) : ∀ w ∈ ws, w ∈ big := by
  intro w hw
  rw [hp] at hw
  obtain ⟨i, -, hi⟩ := List.mem_filterMap.mp hw
  exact List.mem_of_getElem? hi
set_option maxRecDepth 20000 in
theorem wl_r1 : ∀ w ∈ wsL_law0_r1, w ∈ lw_tbl := lw_mem _ [44, 45, 33, 463, 464, 37, 661, 46, 47, 48, 49, 50, 51, 52, 127, 128, 54, 129, 130, 131, 132, 133, 134, 135] rfl
set_option maxRecDepth 20000 in
theorem wl_r2 : ∀ w ∈ wsL_law0_r2, w ∈ lw_tbl := lw_mem _ [56, 136, 137, 138, 139, 140, 141, 58, 34, 79, 35, 101, 36, 59, 60, 61, 62, 78, 63, 66, 69, 81, 82, 83] rfl
set_option maxRecDepth 20000 in
theorem wl_r3 : ∀ w ∈ wsL_law0_r3, w ∈ lw_tbl := lw_mem _ [84, 86, 88, 90, 103, 104, 105, 106, 108, 110, 112, 114, 465, 466, 467, 468, 470, 471, 472, 473, 474, 475, 476, 477] rfl
set_option maxRecDepth 20000 in
theorem wl_r4 : ∀ w ∈ wsL_law0_r4, w ∈ lw_tbl := lw_mem _ [478, 479, 480, 481, 557, 482, 483, 484, 486, 488, 489, 490, 491, 493, 177, 178, 32, 179, 180, 181, 182, 183, 184, 185] rfl
set_option maxRecDepth 20000 in
theorem wl_r5 : ∀ w ∈ wsL_law0_r5, w ∈ lw_tbl := lw_mem _ [189, 41, 257, 42, 186, 187, 188, 273, 275, 1, 276, 277, 279, 2, 280, 281, 283, 3, 284, 113, 109, 111, 107, 285] rfl
set_option maxRecDepth 20000 in
theorem wl_r6 : ∀ w ∈ wsL_law0_r6, w ∈ lw_tbl := lw_mem _ [287, 4, 288, 289, 291, 5, 292, 293, 294, 43, 295, 296, 297, 298, 299, 300, 301, 302, 303, 304, 306, 6, 307, 308] rfl
set_option maxRecDepth 20000 in
theorem wl_r7 : ∀ w ∈ wsL_law0_r7, w ∈ lw_tbl := lw_mem _ [309, 310, 311, 312, 314, 7, 315, 316, 318, 8, 319, 320, 322, 9, 323, 324, 325, 326, 327, 328, 330, 10, 331, 115] rfl
set_option maxRecDepth 20000 in
theorem wl_r8 : ∀ w ∈ wsL_law0_r8, w ∈ lw_tbl := lw_mem _ [332, 334, 11, 335, 336, 338, 12, 339, 340, 341, 342, 343, 64, 67, 344, 346, 13, 347, 348, 349, 350, 351, 352, 562] rfl
set_option maxRecDepth 20000 in
theorem wl_r9 : ∀ w ∈ wsL_law0_r9, w ∈ lw_tbl := lw_mem _ [563, 564, 565, 469, 494, 487, 566, 567, 568, 569, 571, 19, 572, 573, 575, 20, 576, 577, 579, 21, 580, 496, 581, 583] rfl
set_option maxRecDepth 20000 in
theorem wl_r10 : ∀ w ∈ wsL_law0_r10, w ∈ lw_tbl := lw_mem _ [22, 584, 585, 587, 23, 588, 589, 591, 24, 592, 495, 593, 595, 25, 596, 597, 599, 26, 600, 601, 603, 27, 604, 605] rfl
set_option maxRecDepth 20000 in
theorem wl_r11 : ∀ w ∈ wsL_law0_r11, w ∈ lw_tbl := lw_mem _ [607, 28, 608, 485, 558, 559, 560, 561, 353, 354, 355, 356, 357, 358, 359, 609, 610, 611, 612, 492, 173, 174, 175, 176] rfl
set_option maxRecDepth 20000 in
theorem wl_r12 : ∀ w ∈ wsL_law0_r12, w ∈ lw_tbl := lw_mem _ [613, 614, 615, 616, 360, 361, 362, 363, 364, 365, 366, 617, 618, 619, 620, 367, 368, 369, 370, 371, 372, 373, 621, 622] rfl
set_option maxRecDepth 20000 in
theorem wl_r13 : ∀ w ∈ wsL_law0_r13, w ∈ lw_tbl := lw_mem _ [623, 624, 374, 375, 376, 377, 378, 379, 380, 625, 626, 627, 628, 382, 383, 384, 385, 386, 387, 388, 390, 392, 14, 393] rfl
set_option maxRecDepth 20000 in
theorem wl_r14 : ∀ w ∈ wsL_law0_r14, w ∈ lw_tbl := lw_mem _ [68, 65, 394, 395, 396, 397, 398, 400, 15, 401, 70, 402, 404, 16, 405, 85, 87, 89, 91, 629, 630, 631, 632, 633] rfl
set_option maxRecDepth 20000 in
theorem wl_r15 : ∀ w ∈ wsL_law0_r15, w ∈ lw_tbl := lw_mem _ [635, 29, 636, 497, 637, 639, 30, 640, 641, 643, 31, 644, 406, 407, 408, 409, 410, 411, 412, 645, 646, 647, 648, 413] rfl
set_option maxRecDepth 20000 in
theorem wl_r16 : ∀ w ∈ wsL_law0_r16, w ∈ lw_tbl := lw_mem _ [414, 415, 416, 417, 418, 419, 420, 421, 422, 424, 425, 426, 427, 428, 430, 17, 431, 433, 434, 435, 436, 437, 439, 18] rfl
set_option maxRecDepth 20000 in
theorem wl_r17 : ∀ w ∈ wsL_law0_r17, w ∈ lw_tbl := lw_mem _ [440, 649, 650, 651, 652, 443, 444, 445, 446, 447, 448, 449, 451, 452, 453, 454, 653, 654, 655, 656, 455, 456, 457, 458] rfl
set_option maxRecDepth 20000 in
theorem wl_r18 : ∀ w ∈ wsL_law0_r18, w ∈ lw_tbl := lw_mem _ [459, 460, 461, 657, 658, 659, 660] rfl
set_option maxRecDepth 20000 in
theorem wl_X30 : ∀ w ∈ wsX30, w ∈ lw_tbl := lw_mem _ [142, 144, 146, 148, 150, 152, 154, 156, 158, 160, 162, 164, 166, 168, 170] rfl
set_option maxRecDepth 20000 in
theorem wl_X40 : ∀ w ∈ wsX40, w ∈ lw_tbl := lw_mem _ [498, 500, 502, 504, 506, 508, 510, 512, 514, 516, 518, 520, 522, 524, 526, 528, 530, 532, 534, 536, 538, 540, 542, 544, 546, 548, 550, 552, 554] rfl
set_option maxRecDepth 20000 in
theorem wl_X20 : ∀ w ∈ wsX20, w ∈ lw_tbl := lw_mem _ [71, 73, 75] rfl
set_option maxRecDepth 20000 in
theorem wl_X00 : ∀ w ∈ wsX00, w ∈ lw_tbl := lw_mem _ [92, 94, 96, 98] rfl
set_option maxRecDepth 20000 in
theorem wl_X10 : ∀ w ∈ wsX10, w ∈ lw_tbl := lw_mem _ [116, 118, 120, 122, 124] rfl
set_option maxRecDepth 20000 in
theorem wsL_law_x0 : ∀ w ∈ (vx_atS RX3 78 "java/lang/IndexOutOfBoundsException" ["java/lang/RuntimeException", "java/lang/Exception"]).filter goodWord, w ∈ lw_tbl := lw_mem _ [38, 211, 220, 223, 226, 228, 212, 213, 50, 51, 214, 219, 224, 244, 201, 245, 203, 246, 205, 215, 217, 207, 240, 241, 243, 207, 231, 232, 233, 234, 234, 235, 236, 237, 237, 238, 239, 240, 230, 190, 198, 199, 200, 202, 204, 206, 210, 209, 208] rfl
set_option maxRecDepth 20000 in
theorem wsL_law_x1 : ∀ w ∈ (vx_atS RX3 87 "java/lang/IllegalStateException" ["java/lang/RuntimeException", "java/lang/Exception"]).filter goodWord, w ∈ lw_tbl := lw_mem _ [38, 211, 220, 223, 226, 228, 212, 213, 50, 51, 214, 219, 224, 244, 201, 245, 203, 246, 205, 215, 217, 207, 240, 241, 243, 207, 268, 269, 270, 234, 234, 235, 236, 237, 237, 238, 239, 240, 267, 258, 260, 222, 261, 262, 263, 264, 210, 209, 265] rfl
theorem wsL_law_in0 : ∀ w ∈ wsL_law0, w ∈ lw_tbl := fun w h => (List.mem_append.mp h).elim (fun h => (List.mem_append.mp h).elim (fun h => (List.mem_append.mp h).elim (fun h => (List.mem_append.mp h).elim (fun h => (List.mem_append.mp h).elim (fun h => (List.mem_append.mp h).elim (fun h => (List.mem_append.mp h).elim (fun h => wl_r1 w h) (fun h => (List.mem_append.mp h).elim (fun h => wl_r2 w h) (fun h => (List.mem_append.mp h).elim (fun h => wl_r3 w h) (fun h => (List.mem_append.mp h).elim (fun h => wl_r4 w h) (fun h => (List.mem_append.mp h).elim (fun h => wl_r5 w h) (fun h => (List.mem_append.mp h).elim (fun h => wl_r6 w h) (fun h => (List.mem_append.mp h).elim (fun h => wl_r7 w h) (fun h => (List.mem_append.mp h).elim (fun h => wl_r8 w h) (fun h => (List.mem_append.mp h).elim (fun h => wl_r9 w h) (fun h => (List.mem_append.mp h).elim (fun h => wl_r10 w h) (fun h => (List.mem_append.mp h).elim (fun h => wl_r11 w h) (fun h => (List.mem_append.mp h).elim (fun h => wl_r12 w h) (fun h => (List.mem_append.mp h).elim (fun h => wl_r13 w h) (fun h => (List.mem_append.mp h).elim (fun h => wl_r14 w h) (fun h => (List.mem_append.mp h).elim (fun h => wl_r15 w h) (fun h => (List.mem_append.mp h).elim (fun h => wl_r16 w h) (fun h => (List.mem_append.mp h).elim (fun h => wl_r17 w h) (fun h => wl_r18 w h)))))))))))))))))) (fun h => wl_X30 w h)) (fun h => wl_X40 w h)) (fun h => wl_X20 w h)) (fun h => wl_X00 w h)) (fun h => wl_X10 w h)) (fun h => absurd h List.not_mem_nil)
theorem wsL_law_in : ∀ w ∈ wsL_law, w ∈ lw_tbl := fun w h => (List.mem_append.mp h).elim (fun h => (List.mem_append.mp h).elim (fun h => wsL_law_in0 w h) (fun h => wsL_law_x0 w h)) (fun h => wsL_law_x1 w h)
theorem inlX0 : ∀ w ∈ wsX00, w ∈ wsL_law := fun _ h => List.mem_append_left _ (List.mem_append_left _ (List.mem_append_left _ (List.mem_append_left _ (List.mem_append_right _ h))))
theorem inX0 : ∀ w ∈ wsX00, w ∈ lw_tbl := fun w h => wsL_law_in w (inlX0 w h)
theorem inlX1 : ∀ w ∈ wsX10, w ∈ wsL_law := fun _ h => List.mem_append_left _ (List.mem_append_left _ (List.mem_append_left _ (List.mem_append_right _ h)))
theorem inX1 : ∀ w ∈ wsX10, w ∈ lw_tbl := fun w h => wsL_law_in w (inlX1 w h)
theorem inlX2 : ∀ w ∈ wsX20, w ∈ wsL_law := fun _ h => List.mem_append_left _ (List.mem_append_left _ (List.mem_append_left _ (List.mem_append_left _ (List.mem_append_left _ (List.mem_append_right _ h)))))
theorem inX2 : ∀ w ∈ wsX20, w ∈ lw_tbl := fun w h => wsL_law_in w (inlX2 w h)
theorem inlX3 : ∀ w ∈ wsX30, w ∈ wsL_law := fun _ h => List.mem_append_left _ (List.mem_append_left _ (List.mem_append_left _ (List.mem_append_left _ (List.mem_append_left _ (List.mem_append_left _ (List.mem_append_left _ (List.mem_append_right _ h)))))))
theorem inX3 : ∀ w ∈ wsX30, w ∈ lw_tbl := fun w h => wsL_law_in w (inlX3 w h)
theorem inlX4 : ∀ w ∈ wsX40, w ∈ wsL_law := fun _ h => List.mem_append_left _ (List.mem_append_left _ (List.mem_append_left _ (List.mem_append_left _ (List.mem_append_left _ (List.mem_append_left _ (List.mem_append_right _ h))))))
theorem inX4 : ∀ w ∈ wsX40, w ∈ lw_tbl := fun w h => wsL_law_in w (inlX4 w h)
