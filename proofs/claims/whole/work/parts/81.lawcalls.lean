set_option maxRecDepth 20000 in
theorem ggL_law_X3_init : GoodIn wsL_law wsX3_init := goodIn_r _ [9, 10, 11, 12, 13, 14, 15, 16, 17, 18, 19, 20, 21, 22, 23, 24, 25, 26, 27, 28, 29, 30, 31, 32, 33, 34, 35, 36, 37, 38, 39, 40, 41, 42, 43, 44, 45, 46, 47, 48, 49, 50, 51, 52, 53, 54, 55, 56, 57, 58, 59, 415, 416, 417, 418, 419, 420, 421, 422, 423, 424, 425, 426, 427, 428, 429, 459, 460, 461, 462, 463, 464, 465, 466, 467, 468, 469, 470] rfl (by decide +kernel)
set_option maxRecDepth 20000 in
theorem gL_law_X3_init : GoodIn wsL_law (wsX3_init) := ggL_law_X3_init
set_option maxRecDepth 20000 in
theorem ggL_law_X4_init : GoodIn wsL_law wsX4_init := goodIn_r _ [62, 63, 11, 12, 41, 64, 65, 66, 67, 68, 69, 70, 71, 72, 73, 74, 75, 76, 77, 78, 79, 80, 81, 82, 83, 84, 85, 430, 431, 432, 433, 434, 435, 436, 437, 438, 439, 440, 441, 442, 443, 444, 445, 446, 447, 448, 449, 450, 451, 452, 453, 454, 455, 456, 457, 458] rfl (by decide +kernel)
set_option maxRecDepth 20000 in
theorem gL_law_X4_init : GoodIn wsL_law (wsX4_init) := ggL_law_X4_init
set_option maxRecDepth 20000 in
theorem ggL_law_L_change : GoodIn wsL_law wsL_change := goodIn_ca (goodIn_ca (goodIn_r _ [89, 90, 91, 92, 93, 94, 2, 95, 96, 97, 98, 99, 20, 28, 100, 101, 102, 103, 104, 105, 106, 18, 107, 108, 109, 110, 111, 112, 113, 114, 25, 115, 15, 116, 117, 118, 22, 119, 120, 121, 122, 27, 17, 26, 123, 124, 125, 126, 19, 21, 127, 128, 129, 130, 131, 132, 133, 34, 134, 48, 49, 50, 51, 135, 136, 137, 138, 139, 140, 141, 142, 143, 144, 145, 32, 146, 42, 43, 44, 147, 148, 149, 150, 14, 151, 152, 153, 154, 155, 156, 157, 158, 159, 160, 161, 36, 162, 55, 56, 57, 58, 59, 163, 164, 165, 166, 29, 167, 168, 169, 170, 171, 172, 173, 174, 175, 176, 177, 178, 179, 180, 181, 182, 183, 184, 185, 186, 187, 188, 189, 190, 415, 416, 417, 418, 419, 420, 421, 422, 423, 424, 425, 426, 427, 428, 429, 466, 467, 468, 469, 470, 462, 463, 464, 465, 459, 460, 461] rfl (by decide +kernel)) (goodIn_sub (fun _ h => List.mem_append_left _ (List.mem_append_right _ h)) (by decide +kernel))) (goodIn_sub (fun _ h => List.mem_append_right _ h) (by decide +kernel))
set_option maxRecDepth 20000 in
theorem gL_law_L_change : GoodIn wsL_law (va_wsS RL 53 yL_change wsL_change) := goodIn_app (goodIn_r _ [86, 87, 88] rfl (by decide +kernel)) ggL_law_L_change
set_option maxRecDepth 20000 in
theorem ggL_law_X4_change : GoodIn wsL_law wsX4_change := goodIn_r _ [194, 195, 196, 79, 75, 80, 77, 81, 197, 82, 83, 84, 198, 199, 5, 200, 201, 202, 203, 204, 205, 206, 207, 208, 73, 209, 210, 211, 212, 213, 214, 215, 216, 217, 74, 218, 219, 220, 221, 69, 70, 71, 72, 222, 223, 224, 225, 85, 226, 227, 228, 229, 230, 231, 232, 233, 234, 66, 67, 68, 235, 236, 237, 238, 64, 65, 239, 240, 241, 242, 78, 243, 430, 431, 432, 433, 434, 435, 436, 437, 438, 439, 440, 441, 442, 443, 444, 445, 446, 447, 448, 449, 450, 451, 452, 453, 454, 455, 456, 457, 458] rfl (by decide +kernel)
set_option maxRecDepth 20000 in
theorem gL_law_X4_change : GoodIn wsL_law (wsV RL 58 RX4 yX4_change wsX4_change) := goodIn_app (goodIn_r _ [191, 192, 193, 5] rfl (by decide +kernel)) ggL_law_X4_change
set_option maxRecDepth 20000 in
theorem ggL_law_X4_thrown : GoodIn wsL_law wsX4_thrown := goodIn_r _ [247, 195, 430, 431, 432, 433, 434, 435, 436, 437, 438, 439, 440, 441, 442, 443, 444, 445, 446, 447, 448, 449, 450, 451, 452, 453, 454, 455, 456, 457, 458] rfl (by decide +kernel)
set_option maxRecDepth 20000 in
theorem gL_law_X4_thrown : GoodIn wsL_law (wsV RL 59 RX4 yX4_thrown wsX4_thrown) := goodIn_app (goodIn_r _ [244, 245, 246, 5] rfl (by decide +kernel)) ggL_law_X4_thrown
set_option maxRecDepth 20000 in
theorem ggL_law_L_read : GoodIn wsL_law wsL_read := goodIn_ca (goodIn_ca (goodIn_r _ [250, 90, 91, 251, 252, 253, 2, 254, 96, 97, 98, 99, 20, 30, 118, 100, 101, 102, 163, 164, 165, 166, 25, 115, 14, 29, 167, 168, 169, 170, 171, 116, 172, 173, 174, 175, 111, 112, 113, 114, 15, 117, 22, 119, 120, 121, 122, 27, 28, 17, 26, 123, 124, 125, 126, 19, 21, 127, 128, 129, 130, 131, 132, 133, 34, 134, 48, 49, 50, 51, 135, 136, 137, 138, 139, 140, 141, 142, 143, 144, 145, 32, 146, 42, 43, 44, 147, 148, 149, 150, 176, 177, 178, 36, 179, 55, 180, 56, 181, 57, 58, 151, 152, 153, 154, 155, 156, 157, 158, 159, 160, 161, 162, 59, 415, 416, 417, 418, 419, 420, 421, 422, 423, 424, 425, 426, 427, 428, 429, 466, 467, 468, 469, 470, 462, 463, 464, 465, 459, 460, 461] rfl (by decide +kernel)) (goodIn_sub (fun _ h => List.mem_append_left _ (List.mem_append_right _ h)) (by decide +kernel))) (goodIn_sub (fun _ h => List.mem_append_right _ h) (by decide +kernel))
set_option maxRecDepth 20000 in
theorem gL_law_L_read : GoodIn wsL_law (va_wsS RL 62 yL_read wsL_read) := goodIn_app (goodIn_r _ [248, 249, 88] rfl (by decide +kernel)) ggL_law_L_read
set_option maxRecDepth 20000 in
theorem ggL_law_X4_read : GoodIn wsL_law wsX4_read := goodIn_r _ [258, 195, 196, 79, 259, 198, 199, 5, 200, 201, 202, 203, 204, 239, 240, 241, 242, 74, 78, 77, 75, 64, 65, 243, 214, 215, 216, 217, 213, 218, 219, 220, 221, 197, 81, 69, 70, 82, 71, 83, 72, 84, 222, 223, 224, 225, 85, 226, 227, 228, 229, 230, 231, 232, 233, 234, 66, 67, 68, 235, 236, 237, 238, 430, 431, 432, 433, 434, 435, 436, 437, 438, 439, 440, 441, 442, 443, 444, 445, 446, 447, 448, 449, 450, 451, 452, 453, 454, 455, 456, 457, 458] rfl (by decide +kernel)
set_option maxRecDepth 20000 in
theorem gL_law_X4_read : GoodIn wsL_law (wsV RL 65 RX4 yX4_read wsX4_read) := goodIn_app (goodIn_r _ [255, 256, 257, 5] rfl (by decide +kernel)) ggL_law_X4_read
set_option maxRecDepth 20000 in
theorem ggL_law_X3_got : GoodIn wsL_law wsX3_got := goodIn_r _ [263, 30, 415, 416, 417, 418, 419, 420, 421, 422, 423, 424, 425, 426, 427, 428, 429] rfl (by decide +kernel)
set_option maxRecDepth 20000 in
theorem gL_law_X3_got : GoodIn wsL_law (wsV RL 66 RX3 yX3_got wsX3_got) := goodIn_app (goodIn_r _ [260, 261, 262, 2] rfl (by decide +kernel)) ggL_law_X3_got
set_option maxRecDepth 20000 in
theorem ggL_law_X4_got : GoodIn wsL_law wsX4_got := goodIn_r _ [267, 195, 259, 430, 431, 432, 433, 434, 435, 436, 437, 438, 439, 440, 441, 442, 443, 444, 445, 446, 447, 448, 449, 450, 451, 452, 453, 454, 455, 456, 457, 458] rfl (by decide +kernel)
set_option maxRecDepth 20000 in
theorem gL_law_X4_got : GoodIn wsL_law (wsV RL 69 RX4 yX4_got wsX4_got) := goodIn_app (goodIn_r _ [264, 265, 266, 5] rfl (by decide +kernel)) ggL_law_X4_got
set_option maxRecDepth 20000 in
theorem ggL_law_L_sync : GoodIn wsL_law wsL_sync := goodIn_ca (goodIn_r _ [270, 91, 271, 272, 273, 2, 274, 98, 99, 20, 119, 120, 121, 122, 27, 28, 17, 26, 123, 124, 125, 126, 19, 21, 127, 128, 129, 130, 131, 132, 133, 34, 134, 48, 49, 50, 51, 135, 136, 137, 138, 151, 152, 153, 154, 155, 156, 157, 158, 25, 159, 160, 161, 36, 162, 55, 56, 57, 58, 59, 415, 416, 417, 418, 419, 420, 421, 422, 423, 424, 425, 426, 427, 428, 429, 462, 463, 464, 465, 466, 467, 468, 469, 470] rfl (by decide +kernel)) (goodIn_sub (fun _ h => List.mem_append_right _ h) (by decide +kernel))
set_option maxRecDepth 20000 in
theorem gL_law_L_sync : GoodIn wsL_law (va_wsS RL 70 yL_sync wsL_sync) := goodIn_app (goodIn_r _ [268, 269, 88] rfl (by decide +kernel)) ggL_law_L_sync
set_option maxRecDepth 20000 in
theorem ggL_law_X4_sync : GoodIn wsL_law wsX4_sync := goodIn_r _ [278, 195, 196, 197, 201, 202, 203, 5, 204, 218, 219, 220, 221, 81, 69, 70, 82, 71, 83, 72, 84, 222, 223, 224, 225, 85, 226, 227, 228, 229, 230, 74, 77, 430, 431, 432, 433, 434, 435, 436, 437, 438, 439, 440, 441, 442, 443, 444, 445, 446, 447, 448, 449, 450, 451, 452, 453, 454, 455, 456, 457, 458] rfl (by decide +kernel)
set_option maxRecDepth 20000 in
theorem gL_law_X4_sync : GoodIn wsL_law (wsV RL 73 RX4 yX4_sync wsX4_sync) := goodIn_app (goodIn_r _ [275, 276, 277, 5] rfl (by decide +kernel)) ggL_law_X4_sync
set_option maxRecDepth 20000 in
theorem ggL_law_L_checkpoint : GoodIn wsL_law wsL_checkpoint := goodIn_ca (goodIn_r _ [281, 91, 282, 283, 284, 2, 285, 98, 99, 20, 107, 108, 109, 110, 28, 18, 111, 112, 113, 114, 25, 115, 15, 116, 117, 118, 22, 119, 120, 121, 122, 27, 17, 26, 123, 124, 125, 126, 19, 21, 127, 128, 129, 130, 131, 132, 133, 34, 134, 48, 49, 50, 51, 135, 136, 137, 138, 139, 140, 141, 142, 143, 144, 145, 32, 146, 42, 43, 44, 147, 148, 149, 150, 14, 100, 101, 102, 151, 152, 153, 154, 155, 156, 157, 158, 159, 160, 161, 36, 162, 55, 56, 57, 58, 59, 415, 416, 417, 418, 419, 420, 421, 422, 423, 424, 425, 426, 427, 428, 429, 466, 467, 468, 469, 470, 462, 463, 464, 465, 459, 460, 461] rfl (by decide +kernel)) (goodIn_sub (fun _ h => List.mem_append_right _ h) (by decide +kernel))
set_option maxRecDepth 20000 in
theorem gL_law_L_checkpoint : GoodIn wsL_law (va_wsS RL 74 yL_checkpoint wsL_checkpoint) := goodIn_app (goodIn_r _ [279, 280, 88] rfl (by decide +kernel)) ggL_law_L_checkpoint
set_option maxRecDepth 20000 in
theorem ggL_law_X4_checkpoint : GoodIn wsL_law wsX4_checkpoint := goodIn_r _ [289, 195, 196, 201, 202, 203, 5, 204, 209, 210, 211, 212, 213, 80, 73, 214, 215, 216, 217, 77, 74, 75, 218, 219, 220, 221, 197, 81, 69, 70, 82, 71, 83, 72, 84, 222, 223, 224, 225, 85, 226, 227, 228, 229, 230, 231, 232, 233, 234, 66, 67, 68, 79, 235, 236, 237, 238, 64, 65, 430, 431, 432, 433, 434, 435, 436, 437, 438, 439, 440, 441, 442, 443, 444, 445, 446, 447, 448, 449, 450, 451, 452, 453, 454, 455, 456, 457, 458] rfl (by decide +kernel)
set_option maxRecDepth 20000 in
theorem gL_law_X4_checkpoint : GoodIn wsL_law (wsV RL 76 RX4 yX4_checkpoint wsX4_checkpoint) := goodIn_app (goodIn_r _ [286, 287, 288, 5] rfl (by decide +kernel)) ggL_law_X4_checkpoint
set_option maxRecDepth 20000 in
theorem ggL_law_L_power : GoodIn wsL_law wsL_power := goodIn_ca (goodIn_r _ [292, 90, 293, 294, 295, 2, 296, 96, 97, 19, 415, 416, 417, 418, 419, 420, 421, 422, 423, 424, 425, 426, 427, 428, 429] rfl (by decide +kernel)) (goodIn_sub (fun _ h => List.mem_append_left _ (List.mem_append_right _ h)) (by decide +kernel))
set_option maxRecDepth 20000 in
theorem gL_law_L_power : GoodIn wsL_law (va_wsS RL 77 yL_power wsL_power) := goodIn_app (goodIn_r _ [290, 291, 88] rfl (by decide +kernel)) ggL_law_L_power
set_option maxRecDepth 20000 in
theorem ggL_law_X4_power : GoodIn wsL_law wsX4_power := goodIn_r _ [300, 195, 85, 198, 199, 5, 200, 201, 202, 203, 204, 430, 431, 432, 433, 434, 435, 436, 437, 438, 439, 440, 441, 442, 443, 444, 445, 446, 447, 448, 449, 450, 451, 452, 453, 454, 455, 456, 457, 458] rfl (by decide +kernel)
set_option maxRecDepth 20000 in
theorem gL_law_X4_power : GoodIn wsL_law (wsV RL 80 RX4 yX4_power wsX4_power) := goodIn_app (goodIn_r _ [297, 298, 299, 5] rfl (by decide +kernel)) ggL_law_X4_power
set_option maxRecDepth 20000 in
theorem ggL_law_L_recover : GoodIn wsL_law wsL_recover := goodIn_ca (goodIn_r _ [303, 91, 304, 305, 306, 2, 307, 98, 99, 20, 28, 308, 309, 310, 311, 14, 15, 312, 313, 23, 314, 315, 316, 32, 317, 43, 44, 318, 319, 320, 321, 322, 139, 140, 141, 142, 123, 124, 125, 126, 19, 21, 143, 144, 145, 146, 42, 151, 152, 153, 154, 155, 156, 157, 158, 25, 27, 159, 160, 161, 36, 162, 55, 56, 57, 58, 59, 323, 324, 325, 326, 18, 17, 327, 328, 329, 117, 330, 127, 128, 129, 130, 100, 101, 102, 163, 164, 165, 166, 115, 29, 167, 168, 169, 170, 171, 116, 172, 173, 174, 175, 111, 112, 113, 114, 118, 22, 119, 120, 121, 122, 26, 131, 132, 133, 34, 134, 48, 49, 50, 51, 135, 136, 137, 138, 147, 148, 149, 150, 176, 177, 178, 179, 180, 181, 187, 188, 189, 190, 415, 416, 417, 418, 419, 420, 421, 422, 423, 424, 425, 426, 427, 428, 429, 459, 460, 461, 466, 467, 468, 469, 470, 462, 463, 464, 465] rfl (by decide +kernel)) (goodIn_sub (fun _ h => List.mem_append_right _ h) (by decide +kernel))
set_option maxRecDepth 20000 in
theorem gL_law_L_recover : GoodIn wsL_law (va_wsS RL 81 yL_recover wsL_recover) := goodIn_app (goodIn_r _ [301, 302, 88] rfl (by decide +kernel)) ggL_law_L_recover
set_option maxRecDepth 20000 in
theorem ggL_law_X4_recover : GoodIn wsL_law wsX4_recover := goodIn_r _ [334, 195, 196, 73, 69, 70, 75, 79, 71, 72, 77, 80, 201, 202, 203, 5, 204, 335, 336, 337, 338, 67, 66, 339, 340, 341, 342, 343, 64, 344, 345, 346, 347, 235, 236, 237, 238, 65, 68, 222, 223, 224, 225, 85, 226, 227, 228, 229, 230, 197, 74, 239, 240, 241, 242, 78, 243, 214, 215, 216, 217, 213, 218, 219, 220, 221, 81, 82, 83, 84, 231, 232, 233, 234, 430, 431, 432, 433, 434, 435, 436, 437, 438, 439, 440, 441, 442, 443, 444, 445, 446, 447, 448, 449, 450, 451, 452, 453, 454, 455, 456, 457, 458] rfl (by decide +kernel)
set_option maxRecDepth 20000 in
theorem gL_law_X4_recover : GoodIn wsL_law (wsV RL 83 RX4 yX4_recover wsX4_recover) := goodIn_app (goodIn_r _ [331, 332, 333, 5] rfl (by decide +kernel)) ggL_law_X4_recover
set_option maxRecDepth 20000 in
theorem ggL_law_L_cut : GoodIn wsL_law wsL_cut := goodIn_ca (goodIn_r _ [350, 91, 351, 352, 353, 2, 354, 98, 99, 20, 27, 155, 156, 157, 158, 25, 19, 159, 160, 161, 36, 162, 55, 56, 57, 58, 59, 415, 416, 417, 418, 419, 420, 421, 422, 423, 424, 425, 426, 427, 428, 429, 466, 467, 468, 469, 470] rfl (by decide +kernel)) (goodIn_sub (fun _ h => List.mem_append_right _ h) (by decide +kernel))
set_option maxRecDepth 20000 in
theorem gL_law_L_cut : GoodIn wsL_law (va_wsS RL 84 yL_cut wsL_cut) := goodIn_app (goodIn_r _ [348, 349, 88] rfl (by decide +kernel)) ggL_law_L_cut
set_option maxRecDepth 20000 in
theorem ggL_law_X4_cut : GoodIn wsL_law wsX4_cut := goodIn_r _ [358, 195, 196, 197, 201, 202, 203, 5, 204, 227, 228, 229, 230, 85, 74, 77, 430, 431, 432, 433, 434, 435, 436, 437, 438, 439, 440, 441, 442, 443, 444, 445, 446, 447, 448, 449, 450, 451, 452, 453, 454, 455, 456, 457, 458] rfl (by decide +kernel)
set_option maxRecDepth 20000 in
theorem gL_law_X4_cut : GoodIn wsL_law (wsV RL 86 RX4 yX4_cut wsX4_cut) := goodIn_app (goodIn_r _ [355, 356, 357, 5] rfl (by decide +kernel)) ggL_law_X4_cut
set_option maxRecDepth 20000 in
theorem ggL_law_L_disk : GoodIn wsL_law wsL_disk := goodIn_ca (goodIn_r _ [361, 90, 362, 363, 364, 2, 365, 96, 97, 14, 15, 366, 367, 368, 100, 101, 102, 369, 370, 371, 32, 372, 42, 43, 44, 373, 374, 375, 376, 17, 377, 378, 379, 34, 380, 48, 49, 50, 51, 381, 382, 383, 384, 18, 415, 416, 417, 418, 419, 420, 421, 422, 423, 424, 425, 426, 427, 428, 429, 459, 460, 461, 462, 463, 464, 465] rfl (by decide +kernel)) (goodIn_sub (fun _ h => List.mem_append_left _ (List.mem_append_right _ h)) (by decide +kernel))
set_option maxRecDepth 20000 in
theorem gL_law_L_disk : GoodIn wsL_law (va_wsS RL 87 yL_disk wsL_disk) := goodIn_app (goodIn_r _ [359, 360, 88] rfl (by decide +kernel)) ggL_law_L_disk
set_option maxRecDepth 20000 in
theorem ggL_law_X4_disk : GoodIn wsL_law wsX4_disk := goodIn_r _ [388, 195, 65, 64, 68, 66, 67, 73, 69, 70, 71, 72, 198, 199, 5, 200, 201, 202, 203, 204, 430, 431, 432, 433, 434, 435, 436, 437, 438, 439, 440, 441, 442, 443, 444, 445, 446, 447, 448, 449, 450, 451, 452, 453, 454, 455, 456, 457, 458] rfl (by decide +kernel)
set_option maxRecDepth 20000 in
theorem gL_law_X4_disk : GoodIn wsL_law (wsV RL 90 RX4 yX4_disk wsX4_disk) := goodIn_app (goodIn_r _ [385, 386, 387, 5] rfl (by decide +kernel)) ggL_law_X4_disk
set_option maxRecDepth 20000 in
theorem ggL_law_L_frame : GoodIn wsL_law wsL_frame := goodIn_ca (goodIn_r _ [391, 90, 392, 393, 394, 2, 395, 96, 97, 25, 100, 101, 102, 396, 397, 398, 36, 399, 56, 57, 58, 55, 415, 416, 417, 418, 419, 420, 421, 422, 423, 424, 425, 426, 427, 428, 429, 466, 467, 468, 469, 470] rfl (by decide +kernel)) (goodIn_sub (fun _ h => List.mem_append_left _ (List.mem_append_right _ h)) (by decide +kernel))
set_option maxRecDepth 20000 in
theorem gL_law_L_frame : GoodIn wsL_law (va_wsS RL 91 yL_frame wsL_frame) := goodIn_app (goodIn_r _ [389, 390, 88] rfl (by decide +kernel)) ggL_law_L_frame
set_option maxRecDepth 20000 in
theorem ggL_law_X4_frame : GoodIn wsL_law wsX4_frame := goodIn_r _ [403, 195, 74, 75, 77, 79, 198, 199, 5, 200, 201, 202, 203, 204, 430, 431, 432, 433, 434, 435, 436, 437, 438, 439, 440, 441, 442, 443, 444, 445, 446, 447, 448, 449, 450, 451, 452, 453, 454, 455, 456, 457, 458] rfl (by decide +kernel)
set_option maxRecDepth 20000 in
theorem gL_law_X4_frame : GoodIn wsL_law (wsV RL 93 RX4 yX4_frame wsX4_frame) := goodIn_app (goodIn_r _ [400, 401, 402, 5] rfl (by decide +kernel)) ggL_law_X4_frame
set_option maxRecDepth 20000 in
theorem ggL_law_L_count : GoodIn wsL_law wsL_count := goodIn_ca (goodIn_r _ [406, 90, 407, 408, 409, 2, 410, 96, 97, 20, 28, 27, 21, 22, 23, 103, 104, 105, 106, 18, 415, 416, 417, 418, 419, 420, 421, 422, 423, 424, 425, 426, 427, 428, 429] rfl (by decide +kernel)) (goodIn_sub (fun _ h => List.mem_append_left _ (List.mem_append_right _ h)) (by decide +kernel))
set_option maxRecDepth 20000 in
theorem gL_law_L_count : GoodIn wsL_law (va_wsS RL 94 yL_count wsL_count) := goodIn_app (goodIn_r _ [404, 405, 88] rfl (by decide +kernel)) ggL_law_L_count
set_option maxRecDepth 20000 in
theorem ggL_law_X4_count : GoodIn wsL_law wsX4_count := goodIn_r _ [414, 195, 196, 80, 197, 226, 213, 339, 198, 199, 5, 200, 201, 202, 203, 204, 205, 206, 207, 208, 73, 430, 431, 432, 433, 434, 435, 436, 437, 438, 439, 440, 441, 442, 443, 444, 445, 446, 447, 448, 449, 450, 451, 452, 453, 454, 455, 456, 457, 458] rfl (by decide +kernel)
set_option maxRecDepth 20000 in
theorem gL_law_X4_count : GoodIn wsL_law (wsV RL 97 RX4 yX4_count wsX4_count) := goodIn_app (goodIn_r _ [411, 412, 413, 5] rfl (by decide +kernel)) ggL_law_X4_count
