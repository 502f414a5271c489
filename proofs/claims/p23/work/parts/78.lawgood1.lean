set_option maxRecDepth 20000 in
theorem gp_X4_init_1 : GoodIn wsL_law ([Cond.code yX4_init cX4_init 1 none] : List Cond) := goodIn_r _ [5] (by decide +kernel) (by decide +kernel)
set_option maxRecDepth 20000 in
theorem gp_X4_init_2 : GoodIn wsL_law wsX4_init_r1 := goodIn_r _ [6, 7, 8, 9, 10, 11, 12, 13, 14, 15, 16, 17, 18, 19, 20, 21, 22, 23, 24, 25, 26, 27, 28, 29] (by decide +kernel) (by decide +kernel)
set_option maxRecDepth 20000 in
theorem gp_X4_init_3 : GoodIn wsL_law wsX4_init_r2 := goodIn_r _ [30, 31, 32, 33, 34, 35, 36, 37, 38, 39, 40, 41, 42, 43, 44, 45, 46, 47, 48, 49, 50, 51, 52, 53] (by decide +kernel) (by decide +kernel)
set_option maxRecDepth 20000 in
theorem gp_X4_init_4 : GoodIn wsL_law wsX4_init_r3 := goodIn_r _ [54, 55, 56, 57, 58, 59, 60, 61, 62, 63, 64, 65, 66, 67, 68, 69] (by decide +kernel) (by decide +kernel)
set_option maxRecDepth 20000 in
theorem gp_X4_init_5 : GoodIn wsL_law wsX10 := goodIn_r _ [428, 429, 430, 431, 432, 433] (by decide +kernel) (by decide +kernel)
set_option maxRecDepth 20000 in
theorem gp_X4_init_6 : GoodIn wsL_law wsX40 := goodIn_r _ [417, 418, 419, 420, 421, 422, 423, 424, 425, 426, 427] (by decide +kernel) (by decide +kernel)
set_option maxRecDepth 20000 in
theorem gp_X4_init_7 : GoodIn wsL_law wsX00 := goodIn_r _ [434, 435, 436, 437] (by decide +kernel) (by decide +kernel)
set_option maxRecDepth 20000 in
theorem gp_X4_init_8 : GoodIn wsL_law wsX30 := goodIn_r _ [438, 439, 440, 441, 442, 443, 444, 445, 446, 447, 448] (by decide +kernel) (by decide +kernel)
set_option maxRecDepth 20000 in
theorem gp_X4_init_9 : GoodIn wsL_law wsX20 := goodIn_r _ [449, 450] (by decide +kernel) (by decide +kernel)
theorem ggL_law_X4_init : GoodIn wsL_law wsX4_init := (goodIn_app gp_X4_init_1 (goodIn_app (goodIn_app (goodIn_app (goodIn_app (goodIn_app (goodIn_app gp_X4_init_2 (goodIn_app gp_X4_init_3 gp_X4_init_4)) gp_X4_init_5) gp_X4_init_6) gp_X4_init_7) gp_X4_init_8) gp_X4_init_9) : GoodIn wsL_law ([Cond.code yX4_init cX4_init 1 none] ++ ((wsX4_init_r1 ++ (wsX4_init_r2 ++ wsX4_init_r3)) ++ wsX10 ++ wsX40 ++ wsX00 ++ wsX30 ++ wsX20)))
set_option maxRecDepth 20000 in
theorem gL_law_X4_init : GoodIn wsL_law (wsX4_init) := ggL_law_X4_init
set_option maxRecDepth 20000 in
theorem ggL_law_L_cell : GoodIn wsL_law wsL_cell := goodIn_r _ [73, 74] (by decide +kernel) (by decide +kernel)
set_option maxRecDepth 20000 in
theorem gL_law_L_cell : GoodIn wsL_law (va_wsS RL 55 yL_cell wsL_cell) := goodIn_app (goodIn_of _ (by decide +kernel)) ggL_law_L_cell
set_option maxRecDepth 20000 in
theorem ggL_law_L_low : GoodIn wsL_law wsL_low := goodIn_r _ [77, 78] (by decide +kernel) (by decide +kernel)
set_option maxRecDepth 20000 in
theorem gL_law_L_low : GoodIn wsL_law (va_wsS RL 61 yL_low wsL_low) := goodIn_app (goodIn_of _ (by decide +kernel)) ggL_law_L_low
set_option maxRecDepth 20000 in
theorem gp_X4_reset_1 : GoodIn wsL_law ([Cond.code yX4_reset cX4_reset 4 (some .int)] : List Cond) := goodIn_r _ [82] (by decide +kernel) (by decide +kernel)
set_option maxRecDepth 20000 in
theorem gp_X4_reset_2 : GoodIn wsL_law wsX4_reset_r1 := goodIn_r _ [12, 16, 20, 22, 24, 28, 29, 83, 84, 2, 85, 86, 87, 88, 11, 89, 39, 40, 90, 91, 92, 93, 33, 37] (by decide +kernel) (by decide +kernel)
set_option maxRecDepth 20000 in
theorem gp_X4_reset_3 : GoodIn wsL_law wsX4_reset_r2 := goodIn_r _ [38, 94, 95, 96, 36, 97, 45, 46, 98, 99, 100, 15, 101, 53, 102, 103, 104, 19, 105, 58, 63, 66, 67, 68] (by decide +kernel) (by decide +kernel)
set_option maxRecDepth 20000 in
theorem gp_X4_reset_4 : GoodIn wsL_law wsX4_reset_r3 := goodIn_r _ [106, 107, 108, 109] (by decide +kernel) (by decide +kernel)
set_option maxRecDepth 20000 in
theorem gp_X4_reset_5 : GoodIn wsL_law wsX40 := goodIn_r _ [417, 418, 419, 420, 421, 422, 423, 424, 425, 426, 427] (by decide +kernel) (by decide +kernel)
set_option maxRecDepth 20000 in
theorem gp_X4_reset_6 : GoodIn wsL_law wsX10 := goodIn_r _ [428, 429, 430, 431, 432, 433] (by decide +kernel) (by decide +kernel)
set_option maxRecDepth 20000 in
theorem gp_X4_reset_7 : GoodIn wsL_law wsX20 := goodIn_r _ [449, 450] (by decide +kernel) (by decide +kernel)
set_option maxRecDepth 20000 in
theorem gp_X4_reset_8 : GoodIn wsL_law wsX00 := goodIn_r _ [434, 435, 436, 437] (by decide +kernel) (by decide +kernel)
set_option maxRecDepth 20000 in
theorem gp_X4_reset_9 : GoodIn wsL_law wsX30 := goodIn_r _ [438, 439, 440, 441, 442, 443, 444, 445, 446, 447, 448] (by decide +kernel) (by decide +kernel)
theorem ggL_law_X4_reset : GoodIn wsL_law wsX4_reset := (goodIn_app gp_X4_reset_1 (goodIn_app (goodIn_app (goodIn_app (goodIn_app (goodIn_app (goodIn_app gp_X4_reset_2 (goodIn_app gp_X4_reset_3 gp_X4_reset_4)) gp_X4_reset_5) gp_X4_reset_6) gp_X4_reset_7) gp_X4_reset_8) gp_X4_reset_9) : GoodIn wsL_law ([Cond.code yX4_reset cX4_reset 4 (some .int)] ++ ((wsX4_reset_r1 ++ (wsX4_reset_r2 ++ wsX4_reset_r3)) ++ wsX40 ++ wsX10 ++ wsX20 ++ wsX00 ++ wsX30)))
set_option maxRecDepth 20000 in
theorem gL_law_X4_reset : GoodIn wsL_law (wsV RL 64 RX4 yX4_reset wsX4_reset) := goodIn_app (goodIn_of _ (by decide +kernel)) ggL_law_X4_reset
set_option maxRecDepth 20000 in
theorem gp_X4_key_1 : GoodIn wsL_law ([Cond.code yX4_key cX4_key 3 (some .int)] : List Cond) := goodIn_r _ [113] (by decide +kernel) (by decide +kernel)
set_option maxRecDepth 20000 in
theorem gp_X4_key_2 : GoodIn wsL_law wsX4_key_r1 := goodIn_r _ [12, 114, 22, 23, 20, 115, 116, 117, 11, 118, 119, 107, 108, 109, 39, 40, 120, 121, 122, 19, 123, 64, 58, 59] (by decide +kernel) (by decide +kernel)
set_option maxRecDepth 20000 in
theorem gp_X4_key_3 : GoodIn wsL_law wsX4_key_r2 := goodIn_r _ [124, 125, 126, 127, 37, 128, 129, 130, 131, 41, 132, 133, 134, 135, 136, 137, 138, 2, 139, 140, 141, 142, 143, 38] (by decide +kernel) (by decide +kernel)
set_option maxRecDepth 20000 in
theorem gp_X4_key_4 : GoodIn wsL_law wsX4_key_r3 := goodIn_r _ [144, 145, 146, 147, 148, 149, 150, 151, 152, 153, 154, 155] (by decide +kernel) (by decide +kernel)
set_option maxRecDepth 20000 in
theorem gp_X4_key_5 : GoodIn wsL_law wsX40 := goodIn_r _ [417, 418, 419, 420, 421, 422, 423, 424, 425, 426, 427] (by decide +kernel) (by decide +kernel)
set_option maxRecDepth 20000 in
theorem gp_X4_key_6 : GoodIn wsL_law wsX10 := goodIn_r _ [428, 429, 430, 431, 432, 433] (by decide +kernel) (by decide +kernel)
set_option maxRecDepth 20000 in
theorem gp_X4_key_7 : GoodIn wsL_law wsX30 := goodIn_r _ [438, 439, 440, 441, 442, 443, 444, 445, 446, 447, 448] (by decide +kernel) (by decide +kernel)
set_option maxRecDepth 20000 in
theorem gp_X4_key_8 : GoodIn wsL_law wsX20 := goodIn_r _ [449, 450] (by decide +kernel) (by decide +kernel)
theorem ggL_law_X4_key : GoodIn wsL_law wsX4_key := (goodIn_app gp_X4_key_1 (goodIn_app (goodIn_app (goodIn_app (goodIn_app (goodIn_app gp_X4_key_2 (goodIn_app gp_X4_key_3 gp_X4_key_4)) gp_X4_key_5) gp_X4_key_6) gp_X4_key_7) gp_X4_key_8) : GoodIn wsL_law ([Cond.code yX4_key cX4_key 3 (some .int)] ++ ((wsX4_key_r1 ++ (wsX4_key_r2 ++ wsX4_key_r3)) ++ wsX40 ++ wsX10 ++ wsX30 ++ wsX20)))
set_option maxRecDepth 20000 in
theorem gL_law_X4_key : GoodIn wsL_law (wsV RL 15 RX4 yX4_key wsX4_key) := goodIn_app (goodIn_of _ (by decide +kernel)) ggL_law_X4_key
set_option maxRecDepth 20000 in
theorem gp_X4_setKey_1 : GoodIn wsL_law ([Cond.code yX4_setKey cX4_setKey 4 (some .int)] : List Cond) := goodIn_r _ [159] (by decide +kernel) (by decide +kernel)
set_option maxRecDepth 20000 in
theorem gp_X4_setKey_2 : GoodIn wsL_law wsX4_setKey_r1 := goodIn_r _ [12, 114, 115, 116, 117, 11, 118, 119, 107, 108, 109, 39, 40, 83, 84, 2, 85, 160, 161, 162, 163, 33, 37, 38] (by decide +kernel) (by decide +kernel)
set_option maxRecDepth 20000 in
theorem gp_X4_setKey_3 : GoodIn wsL_law wsX4_setKey_r2 := goodIn_r _ [164, 165, 166, 36, 167, 45, 168, 169, 170, 171, 46, 172, 173, 174, 175] (by decide +kernel) (by decide +kernel)
set_option maxRecDepth 20000 in
theorem gp_X4_setKey_4 : GoodIn wsL_law wsX40 := goodIn_r _ [417, 418, 419, 420, 421, 422, 423, 424, 425, 426, 427] (by decide +kernel) (by decide +kernel)
set_option maxRecDepth 20000 in
theorem gp_X4_setKey_5 : GoodIn wsL_law wsX10 := goodIn_r _ [428, 429, 430, 431, 432, 433] (by decide +kernel) (by decide +kernel)
set_option maxRecDepth 20000 in
theorem gp_X4_setKey_6 : GoodIn wsL_law wsX20 := goodIn_r _ [449, 450] (by decide +kernel) (by decide +kernel)
theorem ggL_law_X4_setKey : GoodIn wsL_law wsX4_setKey := (goodIn_app gp_X4_setKey_1 (goodIn_app (goodIn_app (goodIn_app (goodIn_app gp_X4_setKey_2 gp_X4_setKey_3) gp_X4_setKey_4) gp_X4_setKey_5) gp_X4_setKey_6) : GoodIn wsL_law ([Cond.code yX4_setKey cX4_setKey 4 (some .int)] ++ ((wsX4_setKey_r1 ++ wsX4_setKey_r2) ++ wsX40 ++ wsX10 ++ wsX20)))
set_option maxRecDepth 20000 in
theorem gL_law_X4_setKey : GoodIn wsL_law (wsV RL 41 RX4 yX4_setKey wsX4_setKey) := goodIn_app (goodIn_of _ (by decide +kernel)) ggL_law_X4_setKey
set_option maxRecDepth 20000 in
theorem gp_L_tick_1 : GoodIn wsL_law ([Cond.code yL_tick cL_tick 15 (some .boolean)] : List Cond) := goodIn_r _ [178] (by decide +kernel) (by decide +kernel)
set_option maxRecDepth 20000 in
theorem gp_L_tick_2 : GoodIn wsL_law wsL_tick_r1 := goodIn_r _ [21, 179, 180, 181, 2, 182, 24, 12, 20, 183, 16, 184, 28, 29, 185, 106, 107, 108, 11, 109, 39, 40, 186, 187] (by decide +kernel) (by decide +kernel)
set_option maxRecDepth 20000 in
theorem gp_L_tick_3 : GoodIn wsL_law wsL_tick_r2 := goodIn_r _ [188, 189, 33, 119, 138, 139, 190, 191, 192, 193, 148, 149, 150, 151, 37, 132, 38, 128, 129, 130, 131, 41, 133, 194] (by decide +kernel) (by decide +kernel)
set_option maxRecDepth 20000 in
theorem gp_L_tick_4 : GoodIn wsL_law wsL_tick_r3 := goodIn_r _ [195, 196, 197, 198, 199, 200, 201, 202, 203, 204, 205, 153, 154, 155, 206, 207, 208, 19, 209, 64, 58, 110, 111, 112] (by decide +kernel) (by decide +kernel)
set_option maxRecDepth 20000 in
theorem gp_L_tick_5 : GoodIn wsL_law wsL_tick_r4 := goodIn_r _ [113, 114, 22, 23, 115, 116, 117, 118, 120, 121, 122, 123, 59, 124, 125, 126, 127, 134, 135, 136, 137, 140, 141, 142] (by decide +kernel) (by decide +kernel)
set_option maxRecDepth 20000 in
theorem gp_L_tick_6 : GoodIn wsL_law wsL_tick_r5 := goodIn_r _ [143, 144, 145, 146, 147, 152, 210, 211, 212, 213, 214, 215, 216, 217, 218, 83, 84, 85, 219, 220, 221, 222, 223, 224] (by decide +kernel) (by decide +kernel)
set_option maxRecDepth 20000 in
theorem gp_L_tick_7 : GoodIn wsL_law wsL_tick_r6 := goodIn_r _ [225, 226, 227, 228, 229, 230, 231, 27, 232, 233, 234, 235, 236, 237, 238, 239, 26, 240, 241, 242, 15, 243, 53, 50] (by decide +kernel) (by decide +kernel)
set_option maxRecDepth 20000 in
theorem gp_L_tick_8 : GoodIn wsL_law wsL_tick_r7 := goodIn_r _ [51, 52, 244, 245, 246, 247, 248, 25, 249, 250, 251, 252, 253, 254, 255, 66, 69, 60, 61, 63, 256, 257, 258, 259] (by decide +kernel) (by decide +kernel)
set_option maxRecDepth 20000 in
theorem gp_L_tick_9 : GoodIn wsL_law wsL_tick_r8 := goodIn_r _ [260, 261, 262, 263, 264, 265, 266, 267, 268, 65, 269, 270, 271, 272, 273, 274, 275, 276, 277, 67, 68, 278, 279, 280] (by decide +kernel) (by decide +kernel)
set_option maxRecDepth 20000 in
theorem gp_L_tick_10 : GoodIn wsL_law wsL_tick_r9 := goodIn_r _ [281, 282, 283, 284, 285, 286, 287, 288, 289, 290, 291, 292, 293, 294] (by decide +kernel) (by decide +kernel)
set_option maxRecDepth 20000 in
theorem gp_L_tick_11 : GoodIn wsL_law wsX40 := goodIn_r _ [417, 418, 419, 420, 421, 422, 423, 424, 425, 426, 427] (by decide +kernel) (by decide +kernel)
set_option maxRecDepth 20000 in
theorem gp_L_tick_12 : GoodIn wsL_law wsX30 := goodIn_r _ [438, 439, 440, 441, 442, 443, 444, 445, 446, 447, 448] (by decide +kernel) (by decide +kernel)
set_option maxRecDepth 20000 in
theorem gp_L_tick_13 : GoodIn wsL_law wsX00 := goodIn_r _ [434, 435, 436, 437] (by decide +kernel) (by decide +kernel)
set_option maxRecDepth 20000 in
theorem gp_L_tick_14 : GoodIn wsL_law wsX10 := goodIn_r _ [428, 429, 430, 431, 432, 433] (by decide +kernel) (by decide +kernel)
set_option maxRecDepth 20000 in
theorem gp_L_tick_15 : GoodIn wsL_law wsX20 := goodIn_r _ [449, 450] (by decide +kernel) (by decide +kernel)
theorem ggL_law_L_tick : GoodIn wsL_law wsL_tick := (goodIn_app gp_L_tick_1 (goodIn_app (goodIn_app (goodIn_app (goodIn_app (goodIn_app (goodIn_app gp_L_tick_2 (goodIn_app gp_L_tick_3 (goodIn_app gp_L_tick_4 (goodIn_app gp_L_tick_5 (goodIn_app gp_L_tick_6 (goodIn_app gp_L_tick_7 (goodIn_app gp_L_tick_8 (goodIn_app gp_L_tick_9 gp_L_tick_10)))))))) gp_L_tick_11) gp_L_tick_12) gp_L_tick_13) gp_L_tick_14) gp_L_tick_15) : GoodIn wsL_law ([Cond.code yL_tick cL_tick 15 (some .boolean)] ++ ((wsL_tick_r1 ++ (wsL_tick_r2 ++ (wsL_tick_r3 ++ (wsL_tick_r4 ++ (wsL_tick_r5 ++ (wsL_tick_r6 ++ (wsL_tick_r7 ++ (wsL_tick_r8 ++ wsL_tick_r9)))))))) ++ wsX40 ++ wsX30 ++ wsX00 ++ wsX10 ++ wsX20)))
set_option maxRecDepth 20000 in
theorem gL_law_L_tick : GoodIn wsL_law (va_wsS RL 67 yL_tick wsL_tick) := goodIn_app (goodIn_of _ (by decide +kernel)) ggL_law_L_tick
set_option maxRecDepth 20000 in
theorem gp_L_pedals_1 : GoodIn wsL_law ([Cond.code yL_pedals cL_pedals 15 (some .boolean)] : List Cond) := goodIn_r _ [297] (by decide +kernel) (by decide +kernel)
set_option maxRecDepth 20000 in
theorem gp_L_pedals_2 : GoodIn wsL_law wsL_pedals_r1 := goodIn_r _ [179, 180, 181, 2, 182, 24, 12, 20, 183, 16, 184, 28, 29, 185, 106, 107, 108, 11, 109, 39, 40, 186, 187, 188] (by decide +kernel) (by decide +kernel)
