set_option maxRecDepth 20000 in
theorem gp_tick_head : GoodIn wsL_law [Cond.code yL_tick cL_tick 15 (some .boolean)] := goodIn_r _ [178] (by decide +kernel) (by decide +kernel)
set_option maxRecDepth 20000 in
theorem gp_tick_wsL_tick_r1 : GoodIn wsL_law wsL_tick_r1 := goodIn_r _ [21, 179, 180, 181, 2, 182, 24, 12, 20, 183, 16, 184, 28, 29, 185, 106, 107, 108, 11, 109, 39, 40, 186, 187] (by decide +kernel) (by decide +kernel)
set_option maxRecDepth 20000 in
theorem gp_tick_wsL_tick_r2 : GoodIn wsL_law wsL_tick_r2 := goodIn_r _ [188, 189, 33, 119, 138, 139, 190, 191, 192, 193, 148, 149, 150, 151, 37, 132, 38, 128, 129, 130, 131, 41, 133, 194] (by decide +kernel) (by decide +kernel)
set_option maxRecDepth 20000 in
theorem gp_tick_wsL_tick_r3 : GoodIn wsL_law wsL_tick_r3 := goodIn_r _ [195, 196, 197, 198, 199, 200, 201, 202, 203, 204, 205, 153, 154, 155, 206, 207, 208, 19, 209, 64, 58, 110, 111, 112] (by decide +kernel) (by decide +kernel)
set_option maxRecDepth 20000 in
theorem gp_tick_wsL_tick_r4 : GoodIn wsL_law wsL_tick_r4 := goodIn_r _ [113, 114, 22, 23, 115, 116, 117, 118, 120, 121, 122, 123, 59, 124, 125, 126, 127, 134, 135, 136, 137, 140, 141, 142] (by decide +kernel) (by decide +kernel)
set_option maxRecDepth 20000 in
theorem gp_tick_wsL_tick_r5 : GoodIn wsL_law wsL_tick_r5 := goodIn_r _ [143, 144, 145, 146, 147, 152, 210, 211, 212, 213, 214, 215, 216, 217, 218, 83, 84, 85, 219, 220, 221, 222, 223, 224] (by decide +kernel) (by decide +kernel)
set_option maxRecDepth 20000 in
theorem gp_tick_wsL_tick_r6 : GoodIn wsL_law wsL_tick_r6 := goodIn_r _ [225, 226, 227, 228, 229, 230, 231, 27, 232, 233, 234, 235, 236, 237, 238, 239, 26, 240, 241, 242, 15, 243, 53, 50] (by decide +kernel) (by decide +kernel)
set_option maxRecDepth 20000 in
theorem gp_tick_wsL_tick_r7 : GoodIn wsL_law wsL_tick_r7 := goodIn_r _ [51, 52, 244, 245, 246, 247, 248, 25, 249, 250, 251, 252, 253, 254, 255, 66, 69, 60, 61, 63, 256, 257, 258, 259] (by decide +kernel) (by decide +kernel)
set_option maxRecDepth 20000 in
theorem gp_tick_wsL_tick_r8 : GoodIn wsL_law wsL_tick_r8 := goodIn_r _ [260, 261, 262, 263, 264, 265, 266, 267, 268, 65, 269, 270, 271, 272, 273, 274, 275, 276, 277, 67, 68, 278, 279, 280] (by decide +kernel) (by decide +kernel)
set_option maxRecDepth 20000 in
theorem gp_tick_wsL_tick_r9 : GoodIn wsL_law wsL_tick_r9 := goodIn_r _ [281, 282, 283, 284, 285, 286, 287, 288, 289, 290, 291, 292, 293, 294] (by decide +kernel) (by decide +kernel)
set_option maxRecDepth 20000 in
theorem gp_tick_wsX40 : GoodIn wsL_law wsX40 := goodIn_r _ [417, 418, 419, 420, 421, 422, 423, 424, 425, 426, 427] (by decide +kernel) (by decide +kernel)
set_option maxRecDepth 20000 in
theorem gp_tick_wsX30 : GoodIn wsL_law wsX30 := goodIn_r _ [438, 439, 440, 441, 442, 443, 444, 445, 446, 447, 448] (by decide +kernel) (by decide +kernel)
set_option maxRecDepth 20000 in
theorem gp_tick_wsX00 : GoodIn wsL_law wsX00 := goodIn_r _ [434, 435, 436, 437] (by decide +kernel) (by decide +kernel)
set_option maxRecDepth 20000 in
theorem gp_tick_wsX10 : GoodIn wsL_law wsX10 := goodIn_r _ [428, 429, 430, 431, 432, 433] (by decide +kernel) (by decide +kernel)
set_option maxRecDepth 20000 in
theorem gp_tick_wsX20 : GoodIn wsL_law wsX20 := goodIn_r _ [449, 450] (by decide +kernel) (by decide +kernel)
theorem ggL_law_L_tick : GoodIn wsL_law wsL_tick := (goodIn_app gp_tick_head (goodIn_app (goodIn_app (goodIn_app (goodIn_app (goodIn_app (goodIn_app gp_tick_wsL_tick_r1 (goodIn_app gp_tick_wsL_tick_r2 (goodIn_app gp_tick_wsL_tick_r3 (goodIn_app gp_tick_wsL_tick_r4 (goodIn_app gp_tick_wsL_tick_r5 (goodIn_app gp_tick_wsL_tick_r6 (goodIn_app gp_tick_wsL_tick_r7 (goodIn_app gp_tick_wsL_tick_r8 gp_tick_wsL_tick_r9)))))))) gp_tick_wsX40) gp_tick_wsX30) gp_tick_wsX00) gp_tick_wsX10) gp_tick_wsX20) : GoodIn wsL_law ([Cond.code yL_tick cL_tick 15 (some .boolean)] ++ ((wsL_tick_r1 ++ (wsL_tick_r2 ++ (wsL_tick_r3 ++ (wsL_tick_r4 ++ (wsL_tick_r5 ++ (wsL_tick_r6 ++ (wsL_tick_r7 ++ (wsL_tick_r8 ++ wsL_tick_r9)))))))) ++ wsX40 ++ wsX30 ++ wsX00 ++ wsX10 ++ wsX20)))
set_option maxRecDepth 20000 in
theorem gL_law_L_tick : GoodIn wsL_law (va_wsS RL 67 yL_tick wsL_tick) := goodIn_app (goodIn_of _ (by decide +kernel)) ggL_law_L_tick
set_option maxRecDepth 20000 in
theorem gp_matrix_head : GoodIn wsL_law [Cond.code yL_matrix cL_matrix 21 (some .boolean)] := goodIn_r _ [382] (by decide +kernel) (by decide +kernel)
set_option maxRecDepth 20000 in
theorem gp_matrix_wsL_matrix_r1 : GoodIn wsL_law wsL_matrix_r1 := goodIn_r _ [383, 384, 385, 2, 386, 12, 214, 371, 387, 388, 389, 390, 36, 391, 46, 110, 111, 112, 113, 114, 22, 23, 20, 115] (by decide +kernel) (by decide +kernel)
set_option maxRecDepth 20000 in
theorem gp_matrix_wsL_matrix_r2 : GoodIn wsL_law wsL_matrix_r2 := goodIn_r _ [116, 117, 11, 118, 119, 107, 108, 109, 39, 40, 120, 121, 122, 19, 123, 64, 58, 59, 124, 125, 126, 127, 37, 128] (by decide +kernel) (by decide +kernel)
set_option maxRecDepth 20000 in
theorem gp_matrix_wsL_matrix_r3 : GoodIn wsL_law wsL_matrix_r3 := goodIn_r _ [129, 130, 131, 41, 132, 133, 134, 135, 136, 137, 138, 139, 140, 141, 142, 143, 38, 144, 145, 146, 147, 148, 149, 150] (by decide +kernel) (by decide +kernel)
set_option maxRecDepth 20000 in
theorem gp_matrix_wsL_matrix_r4 : GoodIn wsL_law wsL_matrix_r4 := goodIn_r _ [151, 152, 153, 154, 155, 179, 180, 181, 182, 24, 183, 16, 184, 28, 29, 185, 106, 186, 187, 188, 189, 33, 190, 191] (by decide +kernel) (by decide +kernel)
set_option maxRecDepth 20000 in
theorem gp_matrix_wsL_matrix_r5 : GoodIn wsL_law wsL_matrix_r5 := goodIn_r _ [192, 193, 194, 195, 196, 197, 198, 199, 200, 201, 202, 203, 204, 205, 206, 207, 208, 209] (by decide +kernel) (by decide +kernel)
set_option maxRecDepth 20000 in
theorem gp_matrix_wsX40 : GoodIn wsL_law wsX40 := goodIn_r _ [417, 418, 419, 420, 421, 422, 423, 424, 425, 426, 427] (by decide +kernel) (by decide +kernel)
set_option maxRecDepth 20000 in
theorem gp_matrix_wsX10 : GoodIn wsL_law wsX10 := goodIn_r _ [428, 429, 430, 431, 432, 433] (by decide +kernel) (by decide +kernel)
set_option maxRecDepth 20000 in
theorem gp_matrix_wsX20 : GoodIn wsL_law wsX20 := goodIn_r _ [449, 450] (by decide +kernel) (by decide +kernel)
set_option maxRecDepth 20000 in
theorem gp_matrix_wsX30 : GoodIn wsL_law wsX30 := goodIn_r _ [438, 439, 440, 441, 442, 443, 444, 445, 446, 447, 448] (by decide +kernel) (by decide +kernel)
set_option maxRecDepth 20000 in
theorem gp_matrix_wsX00 : GoodIn wsL_law wsX00 := goodIn_r _ [434, 435, 436, 437] (by decide +kernel) (by decide +kernel)
theorem ggL_law_L_matrix : GoodIn wsL_law wsL_matrix := (goodIn_app gp_matrix_head (goodIn_app (goodIn_app (goodIn_app (goodIn_app (goodIn_app (goodIn_app gp_matrix_wsL_matrix_r1 (goodIn_app gp_matrix_wsL_matrix_r2 (goodIn_app gp_matrix_wsL_matrix_r3 (goodIn_app gp_matrix_wsL_matrix_r4 gp_matrix_wsL_matrix_r5)))) gp_matrix_wsX40) gp_matrix_wsX10) gp_matrix_wsX20) gp_matrix_wsX30) gp_matrix_wsX00) : GoodIn wsL_law ([Cond.code yL_matrix cL_matrix 21 (some .boolean)] ++ ((wsL_matrix_r1 ++ (wsL_matrix_r2 ++ (wsL_matrix_r3 ++ (wsL_matrix_r4 ++ wsL_matrix_r5)))) ++ wsX40 ++ wsX10 ++ wsX20 ++ wsX30 ++ wsX00)))
set_option maxRecDepth 20000 in
theorem gL_law_L_matrix : GoodIn wsL_law (va_wsS RL 99 yL_matrix wsL_matrix) := goodIn_app (goodIn_of _ (by decide +kernel)) ggL_law_L_matrix
set_option maxRecDepth 20000 in
theorem gp_voices_head : GoodIn wsL_law [Cond.code yL_voices cL_voices 19 (some .boolean)] := goodIn_r _ [394] (by decide +kernel) (by decide +kernel)
set_option maxRecDepth 20000 in
theorem gp_voices_wsL_voices_r1 : GoodIn wsL_law wsL_voices_r1 := goodIn_r _ [179, 180, 181, 2, 182, 24, 12, 20, 183, 16, 184, 28, 29, 185, 106, 107, 108, 11, 109, 39, 40, 186, 187, 188] (by decide +kernel) (by decide +kernel)
set_option maxRecDepth 20000 in
theorem gp_voices_wsL_voices_r2 : GoodIn wsL_law wsL_voices_r2 := goodIn_r _ [189, 33, 119, 138, 139, 190, 191, 192, 193, 148, 149, 150, 151, 37, 132, 38, 128, 129, 130, 131, 41, 133, 194, 195] (by decide +kernel) (by decide +kernel)
set_option maxRecDepth 20000 in
theorem gp_voices_wsL_voices_r3 : GoodIn wsL_law wsL_voices_r3 := goodIn_r _ [196, 197, 198, 199, 200, 201, 202, 203, 204, 205, 153, 154, 155, 206, 207, 208, 19, 209, 64, 58, 282, 283, 284, 285] (by decide +kernel) (by decide +kernel)
set_option maxRecDepth 20000 in
theorem gp_voices_wsL_voices_r4 : GoodIn wsL_law wsL_voices_r4 := goodIn_r _ [286, 287, 288, 289, 290, 137, 110, 111, 112, 113, 114, 22, 23, 115, 116, 117, 118, 120, 121, 122, 123, 59, 124, 125] (by decide +kernel) (by decide +kernel)
set_option maxRecDepth 20000 in
theorem gp_voices_wsL_voices_r5 : GoodIn wsL_law wsL_voices_r5 := goodIn_r _ [126, 127, 134, 135, 136, 140, 141, 142, 143, 144, 145, 146, 147, 152, 395, 396, 397, 398, 399, 258, 259, 260, 400, 262] (by decide +kernel) (by decide +kernel)
set_option maxRecDepth 20000 in
theorem gp_voices_wsL_voices_r6 : GoodIn wsL_law wsL_voices_r6 := goodIn_r _ [263, 264, 265, 266, 267, 268, 65, 60, 61, 401, 402, 403, 404, 405, 406, 407, 83, 84, 85, 408, 409, 410, 15, 411] (by decide +kernel) (by decide +kernel)
set_option maxRecDepth 20000 in
theorem gp_voices_wsL_voices_r7 : GoodIn wsL_law wsL_voices_r7 := goodIn_r _ [53, 412, 216, 217, 218, 413, 414, 415, 416, 244, 220, 221, 222] (by decide +kernel) (by decide +kernel)
set_option maxRecDepth 20000 in
theorem gp_voices_wsX40 : GoodIn wsL_law wsX40 := goodIn_r _ [417, 418, 419, 420, 421, 422, 423, 424, 425, 426, 427] (by decide +kernel) (by decide +kernel)
set_option maxRecDepth 20000 in
theorem gp_voices_wsX30 : GoodIn wsL_law wsX30 := goodIn_r _ [438, 439, 440, 441, 442, 443, 444, 445, 446, 447, 448] (by decide +kernel) (by decide +kernel)
set_option maxRecDepth 20000 in
theorem gp_voices_wsX00 : GoodIn wsL_law wsX00 := goodIn_r _ [434, 435, 436, 437] (by decide +kernel) (by decide +kernel)
set_option maxRecDepth 20000 in
theorem gp_voices_wsX10 : GoodIn wsL_law wsX10 := goodIn_r _ [428, 429, 430, 431, 432, 433] (by decide +kernel) (by decide +kernel)
set_option maxRecDepth 20000 in
theorem gp_voices_wsX20 : GoodIn wsL_law wsX20 := goodIn_r _ [449, 450] (by decide +kernel) (by decide +kernel)
theorem ggL_law_L_voices : GoodIn wsL_law wsL_voices := (goodIn_app gp_voices_head (goodIn_app (goodIn_app (goodIn_app (goodIn_app (goodIn_app (goodIn_app gp_voices_wsL_voices_r1 (goodIn_app gp_voices_wsL_voices_r2 (goodIn_app gp_voices_wsL_voices_r3 (goodIn_app gp_voices_wsL_voices_r4 (goodIn_app gp_voices_wsL_voices_r5 (goodIn_app gp_voices_wsL_voices_r6 gp_voices_wsL_voices_r7)))))) gp_voices_wsX40) gp_voices_wsX30) gp_voices_wsX00) gp_voices_wsX10) gp_voices_wsX20) : GoodIn wsL_law ([Cond.code yL_voices cL_voices 19 (some .boolean)] ++ ((wsL_voices_r1 ++ (wsL_voices_r2 ++ (wsL_voices_r3 ++ (wsL_voices_r4 ++ (wsL_voices_r5 ++ (wsL_voices_r6 ++ wsL_voices_r7)))))) ++ wsX40 ++ wsX30 ++ wsX00 ++ wsX10 ++ wsX20)))
set_option maxRecDepth 20000 in
theorem gL_law_L_voices : GoodIn wsL_law (va_wsS RL 103 yL_voices wsL_voices) := goodIn_app (goodIn_of _ (by decide +kernel)) ggL_law_L_voices
