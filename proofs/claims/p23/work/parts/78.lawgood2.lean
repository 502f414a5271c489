set_option maxRecDepth 20000 in
theorem gp_L_pedals_3 : GoodIn wsL_law wsL_pedals_r2 := goodIn_r _ [189, 33, 119, 138, 139, 190, 191, 192, 193, 148, 149, 150, 151, 37, 132, 38, 128, 129, 130, 131, 41, 133, 194, 195] (by decide +kernel) (by decide +kernel)
set_option maxRecDepth 20000 in
theorem gp_L_pedals_4 : GoodIn wsL_law wsL_pedals_r3 := goodIn_r _ [196, 197, 198, 199, 200, 201, 202, 203, 204, 205, 153, 154, 155, 206, 207, 208, 19, 209, 64, 58, 282, 283, 284, 285] (by decide +kernel) (by decide +kernel)
set_option maxRecDepth 20000 in
theorem gp_L_pedals_5 : GoodIn wsL_law wsL_pedals_r4 := goodIn_r _ [286, 287, 288, 289, 290, 137, 298, 299, 300, 301, 302, 303, 304, 305, 67, 306, 307, 308, 309, 274, 275, 276, 277, 68] (by decide +kernel) (by decide +kernel)
set_option maxRecDepth 20000 in
theorem gp_L_pedals_6 : GoodIn wsL_law wsL_pedals_r5 := goodIn_r _ [63, 278, 279, 280, 281, 69, 59, 269, 241, 242, 15, 243, 53, 50, 51, 52, 244, 220, 221, 222, 310, 311, 312, 313] (by decide +kernel) (by decide +kernel)
set_option maxRecDepth 20000 in
theorem gp_L_pedals_7 : GoodIn wsL_law wsL_pedals_r6 := goodIn_r _ [314, 315, 316, 317, 318] (by decide +kernel) (by decide +kernel)
set_option maxRecDepth 20000 in
theorem gp_L_pedals_8 : GoodIn wsL_law wsX40 := goodIn_r _ [417, 418, 419, 420, 421, 422, 423, 424, 425, 426, 427] (by decide +kernel) (by decide +kernel)
set_option maxRecDepth 20000 in
theorem gp_L_pedals_9 : GoodIn wsL_law wsX30 := goodIn_r _ [438, 439, 440, 441, 442, 443, 444, 445, 446, 447, 448] (by decide +kernel) (by decide +kernel)
set_option maxRecDepth 20000 in
theorem gp_L_pedals_10 : GoodIn wsL_law wsX00 := goodIn_r _ [434, 435, 436, 437] (by decide +kernel) (by decide +kernel)
set_option maxRecDepth 20000 in
theorem gp_L_pedals_11 : GoodIn wsL_law wsX10 := goodIn_r _ [428, 429, 430, 431, 432, 433] (by decide +kernel) (by decide +kernel)
set_option maxRecDepth 20000 in
theorem gp_L_pedals_12 : GoodIn wsL_law wsX20 := goodIn_r _ [449, 450] (by decide +kernel) (by decide +kernel)
theorem ggL_law_L_pedals : GoodIn wsL_law wsL_pedals := (goodIn_app gp_L_pedals_1 (goodIn_app (goodIn_app (goodIn_app (goodIn_app (goodIn_app (goodIn_app gp_L_pedals_2 (goodIn_app gp_L_pedals_3 (goodIn_app gp_L_pedals_4 (goodIn_app gp_L_pedals_5 (goodIn_app gp_L_pedals_6 gp_L_pedals_7))))) gp_L_pedals_8) gp_L_pedals_9) gp_L_pedals_10) gp_L_pedals_11) gp_L_pedals_12) : GoodIn wsL_law ([Cond.code yL_pedals cL_pedals 15 (some .boolean)] ++ ((wsL_pedals_r1 ++ (wsL_pedals_r2 ++ (wsL_pedals_r3 ++ (wsL_pedals_r4 ++ (wsL_pedals_r5 ++ wsL_pedals_r6))))) ++ wsX40 ++ wsX30 ++ wsX00 ++ wsX10 ++ wsX20)))
set_option maxRecDepth 20000 in
theorem gL_law_L_pedals : GoodIn wsL_law (va_wsS RL 70 yL_pedals wsL_pedals) := goodIn_app (goodIn_of _ (by decide +kernel)) ggL_law_L_pedals
set_option maxRecDepth 20000 in
theorem ggL_law_X4_setDiodes : GoodIn wsL_law wsX4_setDiodes := goodIn_r _ [322, 12, 323, 190, 191, 192, 11, 193, 39, 148, 149, 150, 151, 37, 132, 38, 128, 129, 130, 131, 41, 133, 194, 195, 196, 197, 198, 199, 200, 417, 418, 419, 420, 421, 422, 423, 424, 425, 426, 427, 428, 429, 430, 431, 432, 433, 449, 450] (by decide +kernel) (by decide +kernel)
set_option maxRecDepth 20000 in
theorem gL_law_X4_setDiodes : GoodIn wsL_law (wsV RL 74 RX4 yX4_setDiodes wsX4_setDiodes) := goodIn_app (goodIn_of _ (by decide +kernel)) ggL_law_X4_setDiodes
set_option maxRecDepth 20000 in
theorem gp_X4_count_1 : GoodIn wsL_law ([Cond.code yX4_count cX4_count 2 (some .int)] : List Cond) := goodIn_r _ [182] (by decide +kernel) (by decide +kernel)
set_option maxRecDepth 20000 in
theorem gp_X4_count_2 : GoodIn wsL_law wsX4_count_r1 := goodIn_r _ [24, 12, 20, 183, 16, 184, 28, 29, 185, 106, 107, 108, 11, 109, 39, 40, 186, 187, 188, 189, 33, 119, 138, 2] (by decide +kernel) (by decide +kernel)
set_option maxRecDepth 20000 in
theorem gp_X4_count_3 : GoodIn wsL_law wsX4_count_r2 := goodIn_r _ [139, 190, 191, 192, 193, 148, 149, 150, 151, 37, 132, 38, 128, 129, 130, 131, 41, 133, 194, 195, 196, 197, 198, 199] (by decide +kernel) (by decide +kernel)
set_option maxRecDepth 20000 in
theorem gp_X4_count_4 : GoodIn wsL_law wsX4_count_r3 := goodIn_r _ [200, 201, 202, 203, 204, 205, 153, 154, 155, 206, 207, 208, 19, 209, 64, 58] (by decide +kernel) (by decide +kernel)
set_option maxRecDepth 20000 in
theorem gp_X4_count_5 : GoodIn wsL_law wsX40 := goodIn_r _ [417, 418, 419, 420, 421, 422, 423, 424, 425, 426, 427] (by decide +kernel) (by decide +kernel)
set_option maxRecDepth 20000 in
theorem gp_X4_count_6 : GoodIn wsL_law wsX30 := goodIn_r _ [438, 439, 440, 441, 442, 443, 444, 445, 446, 447, 448] (by decide +kernel) (by decide +kernel)
set_option maxRecDepth 20000 in
theorem gp_X4_count_7 : GoodIn wsL_law wsX00 := goodIn_r _ [434, 435, 436, 437] (by decide +kernel) (by decide +kernel)
set_option maxRecDepth 20000 in
theorem gp_X4_count_8 : GoodIn wsL_law wsX10 := goodIn_r _ [428, 429, 430, 431, 432, 433] (by decide +kernel) (by decide +kernel)
set_option maxRecDepth 20000 in
theorem gp_X4_count_9 : GoodIn wsL_law wsX20 := goodIn_r _ [449, 450] (by decide +kernel) (by decide +kernel)
theorem ggL_law_X4_count : GoodIn wsL_law wsX4_count := (goodIn_app gp_X4_count_1 (goodIn_app (goodIn_app (goodIn_app (goodIn_app (goodIn_app (goodIn_app gp_X4_count_2 (goodIn_app gp_X4_count_3 gp_X4_count_4)) gp_X4_count_5) gp_X4_count_6) gp_X4_count_7) gp_X4_count_8) gp_X4_count_9) : GoodIn wsL_law ([Cond.code yX4_count cX4_count 2 (some .int)] ++ ((wsX4_count_r1 ++ (wsX4_count_r2 ++ wsX4_count_r3)) ++ wsX40 ++ wsX30 ++ wsX00 ++ wsX10 ++ wsX20)))
set_option maxRecDepth 20000 in
theorem gL_law_X4_count : GoodIn wsL_law (wsV RL 19 RX4 yX4_count wsX4_count) := goodIn_app (goodIn_of _ (by decide +kernel)) ggL_law_X4_count
set_option maxRecDepth 20000 in
theorem ggL_law_X4_voice : GoodIn wsL_law wsX4_voice := goodIn_r _ [285, 20, 183, 286, 287, 288, 289, 290, 137, 138, 2, 139, 417, 418, 419, 420, 421, 422, 423, 424, 425, 426, 427, 438, 439, 440, 441, 442, 443, 444, 445, 446, 447, 448] (by decide +kernel) (by decide +kernel)
set_option maxRecDepth 20000 in
theorem gL_law_X4_voice : GoodIn wsL_law (wsV RL 22 RX4 yX4_voice wsX4_voice) := goodIn_app (goodIn_of _ (by decide +kernel)) ggL_law_X4_voice
set_option maxRecDepth 20000 in
theorem gp_X4_setVoices_1 : GoodIn wsL_law ([Cond.code yX4_setVoices cX4_setVoices 4 (some .int)] : List Cond) := goodIn_r _ [327] (by decide +kernel) (by decide +kernel)
set_option maxRecDepth 20000 in
theorem gp_X4_setVoices_2 : GoodIn wsL_law wsX4_setVoices_r1 := goodIn_r _ [20, 183, 24, 328, 83, 84, 2, 85, 329, 330, 331, 19, 332, 64, 58, 278, 279, 280, 281, 63, 69, 59, 269, 241] (by decide +kernel) (by decide +kernel)
set_option maxRecDepth 20000 in
theorem gp_X4_setVoices_3 : GoodIn wsL_law wsX4_setVoices_r2 := goodIn_r _ [242, 15, 243, 53, 50, 51, 52, 244, 220, 221, 222] (by decide +kernel) (by decide +kernel)
set_option maxRecDepth 20000 in
theorem gp_X4_setVoices_4 : GoodIn wsL_law wsX40 := goodIn_r _ [417, 418, 419, 420, 421, 422, 423, 424, 425, 426, 427] (by decide +kernel) (by decide +kernel)
set_option maxRecDepth 20000 in
theorem gp_X4_setVoices_5 : GoodIn wsL_law wsX30 := goodIn_r _ [438, 439, 440, 441, 442, 443, 444, 445, 446, 447, 448] (by decide +kernel) (by decide +kernel)
set_option maxRecDepth 20000 in
theorem gp_X4_setVoices_6 : GoodIn wsL_law wsX00 := goodIn_r _ [434, 435, 436, 437] (by decide +kernel) (by decide +kernel)
theorem ggL_law_X4_setVoices : GoodIn wsL_law wsX4_setVoices := (goodIn_app gp_X4_setVoices_1 (goodIn_app (goodIn_app (goodIn_app (goodIn_app gp_X4_setVoices_2 gp_X4_setVoices_3) gp_X4_setVoices_4) gp_X4_setVoices_5) gp_X4_setVoices_6) : GoodIn wsL_law ([Cond.code yX4_setVoices cX4_setVoices 4 (some .int)] ++ ((wsX4_setVoices_r1 ++ wsX4_setVoices_r2) ++ wsX40 ++ wsX30 ++ wsX00)))
set_option maxRecDepth 20000 in
theorem gL_law_X4_setVoices : GoodIn wsL_law (wsV RL 77 RX4 yX4_setVoices wsX4_setVoices) := goodIn_app (goodIn_of _ (by decide +kernel)) ggL_law_X4_setVoices
set_option maxRecDepth 20000 in
theorem ggL_law_X4_setSlope : GoodIn wsL_law wsX4_setSlope := goodIn_r _ [336, 25, 83, 84, 2, 85, 417, 418, 419, 420, 421, 422, 423, 424, 425, 426, 427] (by decide +kernel) (by decide +kernel)
set_option maxRecDepth 20000 in
theorem gL_law_X4_setSlope : GoodIn wsL_law (wsV RL 80 RX4 yX4_setSlope wsX4_setSlope) := goodIn_app (goodIn_of _ (by decide +kernel)) ggL_law_X4_setSlope
set_option maxRecDepth 20000 in
theorem ggL_law_X4_velocity : GoodIn wsL_law wsX4_velocity := goodIn_r _ [294, 83, 84, 2, 85, 245, 246, 247, 248, 25, 215, 216, 217, 218, 249, 250, 251, 417, 418, 419, 420, 421, 422, 423, 424, 425, 426, 427] (by decide +kernel) (by decide +kernel)
set_option maxRecDepth 20000 in
theorem gL_law_X4_velocity : GoodIn wsL_law (wsV RL 35 RX4 yX4_velocity wsX4_velocity) := goodIn_app (goodIn_of _ (by decide +kernel)) ggL_law_X4_velocity
set_option maxRecDepth 20000 in
theorem ggL_law_X4_setBlocking : GoodIn wsL_law wsX4_setBlocking := goodIn_r _ [340, 26, 137, 138, 2, 139, 417, 418, 419, 420, 421, 422, 423, 424, 425, 426, 427] (by decide +kernel) (by decide +kernel)
set_option maxRecDepth 20000 in
theorem gL_law_X4_setBlocking : GoodIn wsL_law (wsV RL 83 RX4 yX4_setBlocking wsX4_setBlocking) := goodIn_app (goodIn_of _ (by decide +kernel)) ggL_law_X4_setBlocking
set_option maxRecDepth 20000 in
theorem ggL_law_X4_setLateRelease : GoodIn wsL_law wsX4_setLateRelease := goodIn_r _ [344, 27, 137, 138, 2, 139, 417, 418, 419, 420, 421, 422, 423, 424, 425, 426, 427] (by decide +kernel) (by decide +kernel)
set_option maxRecDepth 20000 in
theorem gL_law_X4_setLateRelease : GoodIn wsL_law (wsV RL 86 RX4 yX4_setLateRelease wsX4_setLateRelease) := goodIn_app (goodIn_of _ (by decide +kernel)) ggL_law_X4_setLateRelease
set_option maxRecDepth 20000 in
theorem ggL_law_X4_liftAll : GoodIn wsL_law wsX4_liftAll := goodIn_r _ [348, 12, 186, 187, 188, 11, 189, 33, 119, 107, 108, 109, 39, 40, 138, 2, 139, 349, 91, 92, 93, 37, 38, 94, 95, 96, 36, 97, 45, 46, 417, 418, 419, 420, 421, 422, 423, 424, 425, 426, 427, 428, 429, 430, 431, 432, 433, 449, 450] (by decide +kernel) (by decide +kernel)
set_option maxRecDepth 20000 in
theorem gL_law_X4_liftAll : GoodIn wsL_law (wsV RL 89 RX4 yX4_liftAll wsX4_liftAll) := goodIn_app (goodIn_of _ (by decide +kernel)) ggL_law_X4_liftAll
set_option maxRecDepth 20000 in
theorem gp_X4_worstKey_1 : GoodIn wsL_law ([Cond.code yX4_worstKey cX4_worstKey 5 (some .int)] : List Cond) := goodIn_r _ [353] (by decide +kernel) (by decide +kernel)
set_option maxRecDepth 20000 in
theorem gp_X4_worstKey_2 : GoodIn wsL_law wsX4_worstKey_r1 := goodIn_r _ [12, 114, 190, 191, 192, 11, 193, 39, 148, 149, 150, 151, 37, 132, 38, 128, 129, 130, 131, 41, 133, 194, 195, 196] (by decide +kernel) (by decide +kernel)
set_option maxRecDepth 20000 in
theorem gp_X4_worstKey_3 : GoodIn wsL_law wsX4_worstKey_r2 := goodIn_r _ [197, 198, 199, 200, 106, 107, 108, 109, 40, 354, 355, 356, 357, 33, 358, 161, 162, 163, 164, 165, 166, 36, 167, 45] (by decide +kernel) (by decide +kernel)
set_option maxRecDepth 20000 in
theorem gp_X4_worstKey_4 : GoodIn wsL_law wsX4_worstKey_r3 := goodIn_r _ [168, 169, 170, 171, 46, 172, 173, 174, 175, 359] (by decide +kernel) (by decide +kernel)
set_option maxRecDepth 20000 in
theorem gp_X4_worstKey_5 : GoodIn wsL_law wsX40 := goodIn_r _ [417, 418, 419, 420, 421, 422, 423, 424, 425, 426, 427] (by decide +kernel) (by decide +kernel)
set_option maxRecDepth 20000 in
theorem gp_X4_worstKey_6 : GoodIn wsL_law wsX10 := goodIn_r _ [428, 429, 430, 431, 432, 433] (by decide +kernel) (by decide +kernel)
set_option maxRecDepth 20000 in
theorem gp_X4_worstKey_7 : GoodIn wsL_law wsX20 := goodIn_r _ [449, 450] (by decide +kernel) (by decide +kernel)
theorem ggL_law_X4_worstKey : GoodIn wsL_law wsX4_worstKey := (goodIn_app gp_X4_worstKey_1 (goodIn_app (goodIn_app (goodIn_app (goodIn_app gp_X4_worstKey_2 (goodIn_app gp_X4_worstKey_3 gp_X4_worstKey_4)) gp_X4_worstKey_5) gp_X4_worstKey_6) gp_X4_worstKey_7) : GoodIn wsL_law ([Cond.code yX4_worstKey cX4_worstKey 5 (some .int)] ++ ((wsX4_worstKey_r1 ++ (wsX4_worstKey_r2 ++ wsX4_worstKey_r3)) ++ wsX40 ++ wsX10 ++ wsX20)))
set_option maxRecDepth 20000 in
theorem gL_law_X4_worstKey : GoodIn wsL_law (wsV RL 38 RX4 yX4_worstKey wsX4_worstKey) := goodIn_app (goodIn_of _ (by decide +kernel)) ggL_law_X4_worstKey
set_option maxRecDepth 20000 in
theorem gp_L_rests_1 : GoodIn wsL_law ([Cond.code yL_rests cL_rests 8 (some .boolean)] : List Cond) := goodIn_r _ [362] (by decide +kernel) (by decide +kernel)
set_option maxRecDepth 20000 in
theorem gp_L_rests_2 : GoodIn wsL_law wsL_rests_r1 := goodIn_r _ [363, 364, 365, 2, 366, 12, 214, 215, 216, 217, 218, 83, 84, 85, 367, 368, 369, 370, 24, 371, 219, 220, 221, 222] (by decide +kernel) (by decide +kernel)
set_option maxRecDepth 20000 in
theorem gp_L_rests_3 : GoodIn wsL_law wsL_rests_r2 := goodIn_r _ [372, 129, 130, 11, 131, 41, 132, 133, 373, 374, 375, 376, 227, 22, 110, 111, 112, 113, 114, 23, 20, 115, 116, 117] (by decide +kernel) (by decide +kernel)
set_option maxRecDepth 20000 in
theorem gp_L_rests_4 : GoodIn wsL_law wsL_rests_r3 := goodIn_r _ [118, 119, 107, 108, 109, 39, 40, 120, 121, 122, 19, 123, 64, 58, 59, 124, 125, 126, 127, 37, 128, 134, 135, 136] (by decide +kernel) (by decide +kernel)
set_option maxRecDepth 20000 in
theorem gp_L_rests_5 : GoodIn wsL_law wsL_rests_r4 := goodIn_r _ [137, 138, 139, 140, 141, 142, 143, 38, 144, 145, 146, 147, 148, 149, 150, 151, 152, 153, 154, 155, 210, 211, 212, 213] (by decide +kernel) (by decide +kernel)
set_option maxRecDepth 20000 in
theorem gp_L_rests_6 : GoodIn wsL_law wsL_rests_r5 := goodIn_r _ [223, 224, 225, 226, 228, 229, 230, 231, 27, 232, 233, 234, 235, 236, 237, 238, 239, 26, 29, 16, 28, 240, 241, 242] (by decide +kernel) (by decide +kernel)
set_option maxRecDepth 20000 in
theorem gp_L_rests_7 : GoodIn wsL_law wsL_rests_r6 := goodIn_r _ [15, 243, 53, 50, 51, 52, 244, 245, 246, 247, 248, 25, 249, 250, 251, 252, 253, 254, 255, 66, 69, 60, 61, 63] (by decide +kernel) (by decide +kernel)
set_option maxRecDepth 20000 in
theorem gp_L_rests_8 : GoodIn wsL_law wsL_rests_r7 := goodIn_r _ [256, 257, 258, 259, 260, 261, 262, 263, 264, 265, 266, 267, 268, 65, 269, 270, 271, 272, 273, 274, 275, 276, 277, 67] (by decide +kernel) (by decide +kernel)
set_option maxRecDepth 20000 in
theorem gp_L_rests_9 : GoodIn wsL_law wsL_rests_r8 := goodIn_r _ [68, 278, 279, 280, 281] (by decide +kernel) (by decide +kernel)
