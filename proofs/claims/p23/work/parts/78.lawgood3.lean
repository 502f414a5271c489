set_option maxRecDepth 20000 in
theorem gp_L_rests_10 : GoodIn wsL_law wsX40 := goodIn_r _ [417, 418, 419, 420, 421, 422, 423, 424, 425, 426, 427] (by decide +kernel) (by decide +kernel)
set_option maxRecDepth 20000 in
theorem gp_L_rests_11 : GoodIn wsL_law wsX10 := goodIn_r _ [428, 429, 430, 431, 432, 433] (by decide +kernel) (by decide +kernel)
set_option maxRecDepth 20000 in
theorem gp_L_rests_12 : GoodIn wsL_law wsX20 := goodIn_r _ [449, 450] (by decide +kernel) (by decide +kernel)
set_option maxRecDepth 20000 in
theorem gp_L_rests_13 : GoodIn wsL_law wsX30 := goodIn_r _ [438, 439, 440, 441, 442, 443, 444, 445, 446, 447, 448] (by decide +kernel) (by decide +kernel)
set_option maxRecDepth 20000 in
theorem gp_L_rests_14 : GoodIn wsL_law wsX00 := goodIn_r _ [434, 435, 436, 437] (by decide +kernel) (by decide +kernel)
theorem ggL_law_L_rests : GoodIn wsL_law wsL_rests := (goodIn_app gp_L_rests_1 (goodIn_app (goodIn_app (goodIn_app (goodIn_app (goodIn_app (goodIn_app gp_L_rests_2 (goodIn_app gp_L_rests_3 (goodIn_app gp_L_rests_4 (goodIn_app gp_L_rests_5 (goodIn_app gp_L_rests_6 (goodIn_app gp_L_rests_7 (goodIn_app gp_L_rests_8 gp_L_rests_9))))))) gp_L_rests_10) gp_L_rests_11) gp_L_rests_12) gp_L_rests_13) gp_L_rests_14) : GoodIn wsL_law ([Cond.code yL_rests cL_rests 8 (some .boolean)] ++ ((wsL_rests_r1 ++ (wsL_rests_r2 ++ (wsL_rests_r3 ++ (wsL_rests_r4 ++ (wsL_rests_r5 ++ (wsL_rests_r6 ++ (wsL_rests_r7 ++ wsL_rests_r8))))))) ++ wsX40 ++ wsX10 ++ wsX20 ++ wsX30 ++ wsX00)))
set_option maxRecDepth 20000 in
theorem gL_law_L_rests : GoodIn wsL_law (va_wsS RL 92 yL_rests wsL_rests) := goodIn_app (goodIn_of _ (by decide +kernel)) ggL_law_L_rests
set_option maxRecDepth 20000 in
theorem gp_L_worst_1 : GoodIn wsL_law ([Cond.code yL_worst cL_worst 7 (some .boolean)] : List Cond) := goodIn_r _ [379] (by decide +kernel) (by decide +kernel)
set_option maxRecDepth 20000 in
theorem gp_L_worst_2 : GoodIn wsL_law wsL_worst_r1 := goodIn_r _ [179, 180, 181, 2, 182, 24, 12, 20, 183, 16, 184, 28, 29, 185, 106, 107, 108, 11, 109, 39, 40, 186, 187, 188] (by decide +kernel) (by decide +kernel)
set_option maxRecDepth 20000 in
theorem gp_L_worst_3 : GoodIn wsL_law wsL_worst_r2 := goodIn_r _ [189, 33, 119, 138, 139, 190, 191, 192, 193, 148, 149, 150, 151, 37, 132, 38, 128, 129, 130, 131, 41, 133, 194, 195] (by decide +kernel) (by decide +kernel)
set_option maxRecDepth 20000 in
theorem gp_L_worst_4 : GoodIn wsL_law wsL_worst_r3 := goodIn_r _ [196, 197, 198, 199, 200, 201, 202, 203, 204, 205, 153, 154, 155, 206, 207, 208, 19, 209, 64, 58, 350, 351, 352, 353] (by decide +kernel) (by decide +kernel)
set_option maxRecDepth 20000 in
theorem gp_L_worst_5 : GoodIn wsL_law wsL_worst_r4 := goodIn_r _ [114, 354, 355, 356, 357, 358, 161, 162, 163, 164, 165, 166, 36, 167, 45, 168, 169, 170, 171, 46, 172, 173, 174, 175] (by decide +kernel) (by decide +kernel)
set_option maxRecDepth 20000 in
theorem gp_L_worst_6 : GoodIn wsL_law wsL_worst_r5 := goodIn_r _ [359, 110, 111, 112, 113, 22, 23, 115, 116, 117, 118, 120, 121, 122, 123, 59, 124, 125, 126, 127, 134, 135, 136, 137] (by decide +kernel) (by decide +kernel)
set_option maxRecDepth 20000 in
theorem gp_L_worst_7 : GoodIn wsL_law wsL_worst_r6 := goodIn_r _ [140, 141, 142, 143, 144, 145, 146, 147, 152, 156, 157, 158, 159, 83, 84, 85, 160] (by decide +kernel) (by decide +kernel)
set_option maxRecDepth 20000 in
theorem gp_L_worst_8 : GoodIn wsL_law wsX40 := goodIn_r _ [417, 418, 419, 420, 421, 422, 423, 424, 425, 426, 427] (by decide +kernel) (by decide +kernel)
set_option maxRecDepth 20000 in
theorem gp_L_worst_9 : GoodIn wsL_law wsX30 := goodIn_r _ [438, 439, 440, 441, 442, 443, 444, 445, 446, 447, 448] (by decide +kernel) (by decide +kernel)
set_option maxRecDepth 20000 in
theorem gp_L_worst_10 : GoodIn wsL_law wsX00 := goodIn_r _ [434, 435, 436, 437] (by decide +kernel) (by decide +kernel)
set_option maxRecDepth 20000 in
theorem gp_L_worst_11 : GoodIn wsL_law wsX10 := goodIn_r _ [428, 429, 430, 431, 432, 433] (by decide +kernel) (by decide +kernel)
set_option maxRecDepth 20000 in
theorem gp_L_worst_12 : GoodIn wsL_law wsX20 := goodIn_r _ [449, 450] (by decide +kernel) (by decide +kernel)
theorem ggL_law_L_worst : GoodIn wsL_law wsL_worst := (goodIn_app gp_L_worst_1 (goodIn_app (goodIn_app (goodIn_app (goodIn_app (goodIn_app (goodIn_app gp_L_worst_2 (goodIn_app gp_L_worst_3 (goodIn_app gp_L_worst_4 (goodIn_app gp_L_worst_5 (goodIn_app gp_L_worst_6 gp_L_worst_7))))) gp_L_worst_8) gp_L_worst_9) gp_L_worst_10) gp_L_worst_11) gp_L_worst_12) : GoodIn wsL_law ([Cond.code yL_worst cL_worst 7 (some .boolean)] ++ ((wsL_worst_r1 ++ (wsL_worst_r2 ++ (wsL_worst_r3 ++ (wsL_worst_r4 ++ (wsL_worst_r5 ++ wsL_worst_r6))))) ++ wsX40 ++ wsX30 ++ wsX00 ++ wsX10 ++ wsX20)))
set_option maxRecDepth 20000 in
theorem gL_law_L_worst : GoodIn wsL_law (va_wsS RL 95 yL_worst wsL_worst) := goodIn_app (goodIn_of _ (by decide +kernel)) ggL_law_L_worst
set_option maxRecDepth 20000 in
theorem gp_L_matrix_1 : GoodIn wsL_law ([Cond.code yL_matrix cL_matrix 21 (some .boolean)] : List Cond) := goodIn_r _ [382] (by decide +kernel) (by decide +kernel)
set_option maxRecDepth 20000 in
theorem gp_L_matrix_2 : GoodIn wsL_law wsL_matrix_r1 := goodIn_r _ [383, 384, 385, 2, 386, 12, 214, 371, 387, 388, 389, 390, 36, 391, 46, 110, 111, 112, 113, 114, 22, 23, 20, 115] (by decide +kernel) (by decide +kernel)
set_option maxRecDepth 20000 in
theorem gp_L_matrix_3 : GoodIn wsL_law wsL_matrix_r2 := goodIn_r _ [116, 117, 11, 118, 119, 107, 108, 109, 39, 40, 120, 121, 122, 19, 123, 64, 58, 59, 124, 125, 126, 127, 37, 128] (by decide +kernel) (by decide +kernel)
set_option maxRecDepth 20000 in
theorem gp_L_matrix_4 : GoodIn wsL_law wsL_matrix_r3 := goodIn_r _ [129, 130, 131, 41, 132, 133, 134, 135, 136, 137, 138, 139, 140, 141, 142, 143, 38, 144, 145, 146, 147, 148, 149, 150] (by decide +kernel) (by decide +kernel)
set_option maxRecDepth 20000 in
theorem gp_L_matrix_5 : GoodIn wsL_law wsL_matrix_r4 := goodIn_r _ [151, 152, 153, 154, 155, 179, 180, 181, 182, 24, 183, 16, 184, 28, 29, 185, 106, 186, 187, 188, 189, 33, 190, 191] (by decide +kernel) (by decide +kernel)
set_option maxRecDepth 20000 in
theorem gp_L_matrix_6 : GoodIn wsL_law wsL_matrix_r5 := goodIn_r _ [192, 193, 194, 195, 196, 197, 198, 199, 200, 201, 202, 203, 204, 205, 206, 207, 208, 209] (by decide +kernel) (by decide +kernel)
set_option maxRecDepth 20000 in
theorem gp_L_matrix_7 : GoodIn wsL_law wsX40 := goodIn_r _ [417, 418, 419, 420, 421, 422, 423, 424, 425, 426, 427] (by decide +kernel) (by decide +kernel)
set_option maxRecDepth 20000 in
theorem gp_L_matrix_8 : GoodIn wsL_law wsX10 := goodIn_r _ [428, 429, 430, 431, 432, 433] (by decide +kernel) (by decide +kernel)
set_option maxRecDepth 20000 in
theorem gp_L_matrix_9 : GoodIn wsL_law wsX20 := goodIn_r _ [449, 450] (by decide +kernel) (by decide +kernel)
set_option maxRecDepth 20000 in
theorem gp_L_matrix_10 : GoodIn wsL_law wsX30 := goodIn_r _ [438, 439, 440, 441, 442, 443, 444, 445, 446, 447, 448] (by decide +kernel) (by decide +kernel)
set_option maxRecDepth 20000 in
theorem gp_L_matrix_11 : GoodIn wsL_law wsX00 := goodIn_r _ [434, 435, 436, 437] (by decide +kernel) (by decide +kernel)
theorem ggL_law_L_matrix : GoodIn wsL_law wsL_matrix := (goodIn_app gp_L_matrix_1 (goodIn_app (goodIn_app (goodIn_app (goodIn_app (goodIn_app (goodIn_app gp_L_matrix_2 (goodIn_app gp_L_matrix_3 (goodIn_app gp_L_matrix_4 (goodIn_app gp_L_matrix_5 gp_L_matrix_6)))) gp_L_matrix_7) gp_L_matrix_8) gp_L_matrix_9) gp_L_matrix_10) gp_L_matrix_11) : GoodIn wsL_law ([Cond.code yL_matrix cL_matrix 21 (some .boolean)] ++ ((wsL_matrix_r1 ++ (wsL_matrix_r2 ++ (wsL_matrix_r3 ++ (wsL_matrix_r4 ++ wsL_matrix_r5)))) ++ wsX40 ++ wsX10 ++ wsX20 ++ wsX30 ++ wsX00)))
set_option maxRecDepth 20000 in
theorem gL_law_L_matrix : GoodIn wsL_law (va_wsS RL 99 yL_matrix wsL_matrix) := goodIn_app (goodIn_of _ (by decide +kernel)) ggL_law_L_matrix
set_option maxRecDepth 20000 in
theorem gp_L_voices_1 : GoodIn wsL_law ([Cond.code yL_voices cL_voices 19 (some .boolean)] : List Cond) := goodIn_r _ [394] (by decide +kernel) (by decide +kernel)
set_option maxRecDepth 20000 in
theorem gp_L_voices_2 : GoodIn wsL_law wsL_voices_r1 := goodIn_r _ [179, 180, 181, 2, 182, 24, 12, 20, 183, 16, 184, 28, 29, 185, 106, 107, 108, 11, 109, 39, 40, 186, 187, 188] (by decide +kernel) (by decide +kernel)
set_option maxRecDepth 20000 in
theorem gp_L_voices_3 : GoodIn wsL_law wsL_voices_r2 := goodIn_r _ [189, 33, 119, 138, 139, 190, 191, 192, 193, 148, 149, 150, 151, 37, 132, 38, 128, 129, 130, 131, 41, 133, 194, 195] (by decide +kernel) (by decide +kernel)
set_option maxRecDepth 20000 in
theorem gp_L_voices_4 : GoodIn wsL_law wsL_voices_r3 := goodIn_r _ [196, 197, 198, 199, 200, 201, 202, 203, 204, 205, 153, 154, 155, 206, 207, 208, 19, 209, 64, 58, 282, 283, 284, 285] (by decide +kernel) (by decide +kernel)
set_option maxRecDepth 20000 in
theorem gp_L_voices_5 : GoodIn wsL_law wsL_voices_r4 := goodIn_r _ [286, 287, 288, 289, 290, 137, 110, 111, 112, 113, 114, 22, 23, 115, 116, 117, 118, 120, 121, 122, 123, 59, 124, 125] (by decide +kernel) (by decide +kernel)
set_option maxRecDepth 20000 in
theorem gp_L_voices_6 : GoodIn wsL_law wsL_voices_r5 := goodIn_r _ [126, 127, 134, 135, 136, 140, 141, 142, 143, 144, 145, 146, 147, 152, 395, 396, 397, 398, 399, 258, 259, 260, 400, 262] (by decide +kernel) (by decide +kernel)
set_option maxRecDepth 20000 in
theorem gp_L_voices_7 : GoodIn wsL_law wsL_voices_r6 := goodIn_r _ [263, 264, 265, 266, 267, 268, 65, 60, 61, 401, 402, 403, 404, 405, 406, 407, 83, 84, 85, 408, 409, 410, 15, 411] (by decide +kernel) (by decide +kernel)
set_option maxRecDepth 20000 in
theorem gp_L_voices_8 : GoodIn wsL_law wsL_voices_r7 := goodIn_r _ [53, 412, 216, 217, 218, 413, 414, 415, 416, 244, 220, 221, 222] (by decide +kernel) (by decide +kernel)
set_option maxRecDepth 20000 in
theorem gp_L_voices_9 : GoodIn wsL_law wsX40 := goodIn_r _ [417, 418, 419, 420, 421, 422, 423, 424, 425, 426, 427] (by decide +kernel) (by decide +kernel)
set_option maxRecDepth 20000 in
theorem gp_L_voices_10 : GoodIn wsL_law wsX30 := goodIn_r _ [438, 439, 440, 441, 442, 443, 444, 445, 446, 447, 448] (by decide +kernel) (by decide +kernel)
set_option maxRecDepth 20000 in
theorem gp_L_voices_11 : GoodIn wsL_law wsX00 := goodIn_r _ [434, 435, 436, 437] (by decide +kernel) (by decide +kernel)
set_option maxRecDepth 20000 in
theorem gp_L_voices_12 : GoodIn wsL_law wsX10 := goodIn_r _ [428, 429, 430, 431, 432, 433] (by decide +kernel) (by decide +kernel)
set_option maxRecDepth 20000 in
theorem gp_L_voices_13 : GoodIn wsL_law wsX20 := goodIn_r _ [449, 450] (by decide +kernel) (by decide +kernel)
theorem ggL_law_L_voices : GoodIn wsL_law wsL_voices := (goodIn_app gp_L_voices_1 (goodIn_app (goodIn_app (goodIn_app (goodIn_app (goodIn_app (goodIn_app gp_L_voices_2 (goodIn_app gp_L_voices_3 (goodIn_app gp_L_voices_4 (goodIn_app gp_L_voices_5 (goodIn_app gp_L_voices_6 (goodIn_app gp_L_voices_7 gp_L_voices_8)))))) gp_L_voices_9) gp_L_voices_10) gp_L_voices_11) gp_L_voices_12) gp_L_voices_13) : GoodIn wsL_law ([Cond.code yL_voices cL_voices 19 (some .boolean)] ++ ((wsL_voices_r1 ++ (wsL_voices_r2 ++ (wsL_voices_r3 ++ (wsL_voices_r4 ++ (wsL_voices_r5 ++ (wsL_voices_r6 ++ wsL_voices_r7)))))) ++ wsX40 ++ wsX30 ++ wsX00 ++ wsX10 ++ wsX20)))
set_option maxRecDepth 20000 in
theorem gL_law_L_voices : GoodIn wsL_law (va_wsS RL 103 yL_voices wsL_voices) := goodIn_app (goodIn_of _ (by decide +kernel)) ggL_law_L_voices
set_option maxRecDepth 20000 in
theorem gp_X4_tick_1 : GoodIn wsL_law ([Cond.code yX4_tick cX4_tick 4 (some .int)] : List Cond) := goodIn_r _ [213] (by decide +kernel) (by decide +kernel)
set_option maxRecDepth 20000 in
theorem gp_X4_tick_2 : GoodIn wsL_law wsX4_tick_r1 := goodIn_r _ [12, 214, 215, 216, 217, 218, 24, 83, 84, 2, 85, 219, 220, 221, 222, 223, 224, 225, 226, 227, 228, 229, 230, 231] (by decide +kernel) (by decide +kernel)
set_option maxRecDepth 20000 in
theorem gp_X4_tick_3 : GoodIn wsL_law wsX4_tick_r2 := goodIn_r _ [22, 27, 20, 124, 125, 126, 11, 127, 37, 40, 128, 129, 130, 131, 41, 132, 133, 134, 135, 136, 140, 141, 142, 143] (by decide +kernel) (by decide +kernel)
set_option maxRecDepth 20000 in
theorem gp_X4_tick_4 : GoodIn wsL_law wsX4_tick_r3 := goodIn_r _ [38, 232, 233, 234, 235, 23, 236, 237, 238, 239, 26, 29, 16, 28, 152, 153, 154, 155, 39, 240, 241, 242, 15, 243] (by decide +kernel) (by decide +kernel)
set_option maxRecDepth 20000 in
theorem gp_X4_tick_5 : GoodIn wsL_law wsX4_tick_r4 := goodIn_r _ [53, 50, 51, 52, 244, 245, 246, 247, 248, 25, 249, 250, 251, 252, 253, 254, 19, 255, 66, 69, 59, 58, 60, 61] (by decide +kernel) (by decide +kernel)
set_option maxRecDepth 20000 in
theorem gp_X4_tick_6 : GoodIn wsL_law wsX4_tick_r5 := goodIn_r _ [63, 256, 121, 122, 123, 64, 257, 258, 259, 260, 261, 262, 263, 264, 265, 266, 267, 268, 65, 269, 270, 271, 272, 273] (by decide +kernel) (by decide +kernel)
set_option maxRecDepth 20000 in
theorem gp_X4_tick_7 : GoodIn wsL_law wsX4_tick_r6 := goodIn_r _ [274, 275, 276, 277, 67, 68, 278, 279, 280, 281] (by decide +kernel) (by decide +kernel)
set_option maxRecDepth 20000 in
theorem gp_X4_tick_8 : GoodIn wsL_law wsX40 := goodIn_r _ [417, 418, 419, 420, 421, 422, 423, 424, 425, 426, 427] (by decide +kernel) (by decide +kernel)
set_option maxRecDepth 20000 in
theorem gp_X4_tick_9 : GoodIn wsL_law wsX10 := goodIn_r _ [428, 429, 430, 431, 432, 433] (by decide +kernel) (by decide +kernel)
set_option maxRecDepth 20000 in
theorem gp_X4_tick_10 : GoodIn wsL_law wsX20 := goodIn_r _ [449, 450] (by decide +kernel) (by decide +kernel)
set_option maxRecDepth 20000 in
theorem gp_X4_tick_11 : GoodIn wsL_law wsX00 := goodIn_r _ [434, 435, 436, 437] (by decide +kernel) (by decide +kernel)
set_option maxRecDepth 20000 in
theorem gp_X4_tick_12 : GoodIn wsL_law wsX30 := goodIn_r _ [438, 439, 440, 441, 442, 443, 444, 445, 446, 447, 448] (by decide +kernel) (by decide +kernel)
theorem ggL_law_X4_tick : GoodIn wsL_law wsX4_tick := (goodIn_app gp_X4_tick_1 (goodIn_app (goodIn_app (goodIn_app (goodIn_app (goodIn_app (goodIn_app gp_X4_tick_2 (goodIn_app gp_X4_tick_3 (goodIn_app gp_X4_tick_4 (goodIn_app gp_X4_tick_5 (goodIn_app gp_X4_tick_6 gp_X4_tick_7))))) gp_X4_tick_8) gp_X4_tick_9) gp_X4_tick_10) gp_X4_tick_11) gp_X4_tick_12) : GoodIn wsL_law ([Cond.code yX4_tick cX4_tick 4 (some .int)] ++ ((wsX4_tick_r1 ++ (wsX4_tick_r2 ++ (wsX4_tick_r3 ++ (wsX4_tick_r4 ++ (wsX4_tick_r5 ++ wsX4_tick_r6))))) ++ wsX40 ++ wsX10 ++ wsX20 ++ wsX00 ++ wsX30)))
set_option maxRecDepth 20000 in
theorem gL_law_X4_tick : GoodIn wsL_law (wsV RL 32 RX4 yX4_tick wsX4_tick) := goodIn_app (goodIn_of _ (by decide +kernel)) ggL_law_X4_tick
