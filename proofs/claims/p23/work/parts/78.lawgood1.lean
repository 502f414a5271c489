set_option maxRecDepth 20000 in
theorem ggL_law_X4_init : GoodIn wsL_law wsX4_init := goodIn_r _ [5, 6, 7, 8, 9, 10, 11, 12, 13, 14, 15, 16, 17, 18, 19, 20, 21, 22, 23, 24, 25, 26, 27, 28, 29, 30, 31, 32, 33, 34, 35, 36, 37, 38, 39, 40, 41, 42, 43, 44, 45, 46, 47, 48, 49, 50, 51, 52, 53, 54, 55, 56, 57, 58, 59, 60, 61, 62, 63, 64, 65, 66, 67, 68, 69, 428, 429, 430, 431, 432, 433, 417, 418, 419, 420, 421, 422, 423, 424, 425, 426, 427, 434, 435, 436, 437, 438, 439, 440, 441, 442, 443, 444, 445, 446, 447, 448, 449, 450] (by decide +kernel) (by decide +kernel)
set_option maxRecDepth 20000 in
theorem gL_law_X4_init : GoodIn wsL_law (wsX4_init) := ggL_law_X4_init
set_option maxRecDepth 20000 in
theorem ggL_law_L_cell : GoodIn wsL_law wsL_cell := goodIn_r _ [73, 74] (by decide +kernel) (by decide +kernel)
set_option maxRecDepth 20000 in
theorem gL_law_L_cell : GoodIn wsL_law (va_wsS RL 55 yL_cell wsL_cell) := goodIn_app (goodIn_of _ (by decide +kernel)) ggL_law_L_cell
set_option maxRecDepth 20000 in
theorem ggL_law_L_low : GoodIn wsL_law wsL_low := goodIn_r _ [77, 78] (by decide +kernel) (by decide +kernel)
set_option maxRecDepth 20000 in
theorem gL_law_L_low : GoodIn wsL_law (va_wsS RL 61 yL_low wsL_low) := goodIn_app (goodIn_of _ (by decide +kernel)) ggL_law_L_low
set_option maxRecDepth 20000 in
theorem ggL_law_X4_reset : GoodIn wsL_law wsX4_reset := goodIn_r _ [82, 12, 16, 20, 22, 24, 28, 29, 83, 84, 2, 85, 86, 87, 88, 11, 89, 39, 40, 90, 91, 92, 93, 33, 37, 38, 94, 95, 96, 36, 97, 45, 46, 98, 99, 100, 15, 101, 53, 102, 103, 104, 19, 105, 58, 63, 66, 67, 68, 106, 107, 108, 109, 417, 418, 419, 420, 421, 422, 423, 424, 425, 426, 427, 428, 429, 430, 431, 432, 433, 449, 450, 434, 435, 436, 437, 438, 439, 440, 441, 442, 443, 444, 445, 446, 447, 448] (by decide +kernel) (by decide +kernel)
set_option maxRecDepth 20000 in
theorem gL_law_X4_reset : GoodIn wsL_law (wsV RL 64 RX4 yX4_reset wsX4_reset) := goodIn_app (goodIn_of _ (by decide +kernel)) ggL_law_X4_reset
set_option maxRecDepth 20000 in
theorem ggL_law_X4_key : GoodIn wsL_law wsX4_key := goodIn_r _ [113, 12, 114, 22, 23, 20, 115, 116, 117, 11, 118, 119, 107, 108, 109, 39, 40, 120, 121, 122, 19, 123, 64, 58, 59, 124, 125, 126, 127, 37, 128, 129, 130, 131, 41, 132, 133, 134, 135, 136, 137, 138, 2, 139, 140, 141, 142, 143, 38, 144, 145, 146, 147, 148, 149, 150, 151, 152, 153, 154, 155, 417, 418, 419, 420, 421, 422, 423, 424, 425, 426, 427, 428, 429, 430, 431, 432, 433, 438, 439, 440, 441, 442, 443, 444, 445, 446, 447, 448, 449, 450] (by decide +kernel) (by decide +kernel)
set_option maxRecDepth 20000 in
theorem gL_law_X4_key : GoodIn wsL_law (wsV RL 15 RX4 yX4_key wsX4_key) := goodIn_app (goodIn_of _ (by decide +kernel)) ggL_law_X4_key
set_option maxRecDepth 20000 in
theorem ggL_law_X4_setKey : GoodIn wsL_law wsX4_setKey := goodIn_r _ [159, 12, 114, 115, 116, 117, 11, 118, 119, 107, 108, 109, 39, 40, 83, 84, 2, 85, 160, 161, 162, 163, 33, 37, 38, 164, 165, 166, 36, 167, 45, 168, 169, 170, 171, 46, 172, 173, 174, 175, 417, 418, 419, 420, 421, 422, 423, 424, 425, 426, 427, 428, 429, 430, 431, 432, 433, 449, 450] (by decide +kernel) (by decide +kernel)
set_option maxRecDepth 20000 in
theorem gL_law_X4_setKey : GoodIn wsL_law (wsV RL 41 RX4 yX4_setKey wsX4_setKey) := goodIn_app (goodIn_of _ (by decide +kernel)) ggL_law_X4_setKey
set_option maxRecDepth 20000 in
theorem ggL_law_L_pedals : GoodIn wsL_law wsL_pedals := goodIn_r _ [297, 179, 180, 181, 2, 182, 24, 12, 20, 183, 16, 184, 28, 29, 185, 106, 107, 108, 11, 109, 39, 40, 186, 187, 188, 189, 33, 119, 138, 139, 190, 191, 192, 193, 148, 149, 150, 151, 37, 132, 38, 128, 129, 130, 131, 41, 133, 194, 195, 196, 197, 198, 199, 200, 201, 202, 203, 204, 205, 153, 154, 155, 206, 207, 208, 19, 209, 64, 58, 282, 283, 284, 285, 286, 287, 288, 289, 290, 137, 298, 299, 300, 301, 302, 303, 304, 305, 67, 306, 307, 308, 309, 274, 275, 276, 277, 68, 63, 278, 279, 280, 281, 69, 59, 269, 241, 242, 15, 243, 53, 50, 51, 52, 244, 220, 221, 222, 310, 311, 312, 313, 314, 315, 316, 317, 318, 417, 418, 419, 420, 421, 422, 423, 424, 425, 426, 427, 438, 439, 440, 441, 442, 443, 444, 445, 446, 447, 448, 434, 435, 436, 437, 428, 429, 430, 431, 432, 433, 449, 450] (by decide +kernel) (by decide +kernel)
set_option maxRecDepth 20000 in
theorem gL_law_L_pedals : GoodIn wsL_law (va_wsS RL 70 yL_pedals wsL_pedals) := goodIn_app (goodIn_of _ (by decide +kernel)) ggL_law_L_pedals
set_option maxRecDepth 20000 in
theorem ggL_law_X4_setDiodes : GoodIn wsL_law wsX4_setDiodes := goodIn_r _ [322, 12, 323, 190, 191, 192, 11, 193, 39, 148, 149, 150, 151, 37, 132, 38, 128, 129, 130, 131, 41, 133, 194, 195, 196, 197, 198, 199, 200, 417, 418, 419, 420, 421, 422, 423, 424, 425, 426, 427, 428, 429, 430, 431, 432, 433, 449, 450] (by decide +kernel) (by decide +kernel)
set_option maxRecDepth 20000 in
theorem gL_law_X4_setDiodes : GoodIn wsL_law (wsV RL 74 RX4 yX4_setDiodes wsX4_setDiodes) := goodIn_app (goodIn_of _ (by decide +kernel)) ggL_law_X4_setDiodes
set_option maxRecDepth 20000 in
theorem ggL_law_X4_count : GoodIn wsL_law wsX4_count := goodIn_r _ [182, 24, 12, 20, 183, 16, 184, 28, 29, 185, 106, 107, 108, 11, 109, 39, 40, 186, 187, 188, 189, 33, 119, 138, 2, 139, 190, 191, 192, 193, 148, 149, 150, 151, 37, 132, 38, 128, 129, 130, 131, 41, 133, 194, 195, 196, 197, 198, 199, 200, 201, 202, 203, 204, 205, 153, 154, 155, 206, 207, 208, 19, 209, 64, 58, 417, 418, 419, 420, 421, 422, 423, 424, 425, 426, 427, 438, 439, 440, 441, 442, 443, 444, 445, 446, 447, 448, 434, 435, 436, 437, 428, 429, 430, 431, 432, 433, 449, 450] (by decide +kernel) (by decide +kernel)
set_option maxRecDepth 20000 in
theorem gL_law_X4_count : GoodIn wsL_law (wsV RL 19 RX4 yX4_count wsX4_count) := goodIn_app (goodIn_of _ (by decide +kernel)) ggL_law_X4_count
set_option maxRecDepth 20000 in
theorem ggL_law_X4_voice : GoodIn wsL_law wsX4_voice := goodIn_r _ [285, 20, 183, 286, 287, 288, 289, 290, 137, 138, 2, 139, 417, 418, 419, 420, 421, 422, 423, 424, 425, 426, 427, 438, 439, 440, 441, 442, 443, 444, 445, 446, 447, 448] (by decide +kernel) (by decide +kernel)
set_option maxRecDepth 20000 in
theorem gL_law_X4_voice : GoodIn wsL_law (wsV RL 22 RX4 yX4_voice wsX4_voice) := goodIn_app (goodIn_of _ (by decide +kernel)) ggL_law_X4_voice
set_option maxRecDepth 20000 in
theorem ggL_law_X4_setVoices : GoodIn wsL_law wsX4_setVoices := goodIn_r _ [327, 20, 183, 24, 328, 83, 84, 2, 85, 329, 330, 331, 19, 332, 64, 58, 278, 279, 280, 281, 63, 69, 59, 269, 241, 242, 15, 243, 53, 50, 51, 52, 244, 220, 221, 222, 417, 418, 419, 420, 421, 422, 423, 424, 425, 426, 427, 438, 439, 440, 441, 442, 443, 444, 445, 446, 447, 448, 434, 435, 436, 437] (by decide +kernel) (by decide +kernel)
set_option maxRecDepth 20000 in
theorem gL_law_X4_setVoices : GoodIn wsL_law (wsV RL 77 RX4 yX4_setVoices wsX4_setVoices) := goodIn_app (goodIn_of _ (by decide +kernel)) ggL_law_X4_setVoices
set_option maxRecDepth 20000 in
theorem ggL_law_X4_setSlope : GoodIn wsL_law wsX4_setSlope := goodIn_r _ [336, 25, 83, 84, 2, 85, 417, 418, 419, 420, 421, 422, 423, 424, 425, 426, 427] (by decide +kernel) (by decide +kernel)
set_option maxRecDepth 20000 in
theorem gL_law_X4_setSlope : GoodIn wsL_law (wsV RL 80 RX4 yX4_setSlope wsX4_setSlope) := goodIn_app (goodIn_of _ (by decide +kernel)) ggL_law_X4_setSlope
set_option maxRecDepth 20000 in
theorem ggL_law_X4_velocity : GoodIn wsL_law wsX4_velocity := goodIn_r _ [294, 83, 84, 2, 85, 245, 246, 247, 248, 25, 215, 216, 217, 218, 249, 250, 251, 417, 418, 419, 420, 421, 422, 423, 424, 425, 426, 427] (by decide +kernel) (by decide +kernel)
set_option maxRecDepth 20000 in
theorem gL_law_X4_velocity : GoodIn wsL_law (wsV RL 35 RX4 yX4_velocity wsX4_velocity) := goodIn_app (goodIn_of _ (by decide +kernel)) ggL_law_X4_velocity
set_option maxRecDepth 20000 in
theorem ggL_law_X4_setBlocking : GoodIn wsL_law wsX4_setBlocking := goodIn_r _ [340, 26, 137, 138, 2, 139, 417, 418, 419, 420, 421, 422, 423, 424, 425, 426, 427] (by decide +kernel) (by decide +kernel)
set_option maxRecDepth 20000 in
theorem gL_law_X4_setBlocking : GoodIn wsL_law (wsV RL 83 RX4 yX4_setBlocking wsX4_setBlocking) := goodIn_app (goodIn_of _ (by decide +kernel)) ggL_law_X4_setBlocking
set_option maxRecDepth 20000 in
theorem ggL_law_X4_setLateRelease : GoodIn wsL_law wsX4_setLateRelease := goodIn_r _ [344, 27, 137, 138, 2, 139, 417, 418, 419, 420, 421, 422, 423, 424, 425, 426, 427] (by decide +kernel) (by decide +kernel)
set_option maxRecDepth 20000 in
theorem gL_law_X4_setLateRelease : GoodIn wsL_law (wsV RL 86 RX4 yX4_setLateRelease wsX4_setLateRelease) := goodIn_app (goodIn_of _ (by decide +kernel)) ggL_law_X4_setLateRelease
set_option maxRecDepth 20000 in
theorem ggL_law_X4_liftAll : GoodIn wsL_law wsX4_liftAll := goodIn_r _ [348, 12, 186, 187, 188, 11, 189, 33, 119, 107, 108, 109, 39, 40, 138, 2, 139, 349, 91, 92, 93, 37, 38, 94, 95, 96, 36, 97, 45, 46, 417, 418, 419, 420, 421, 422, 423, 424, 425, 426, 427, 428, 429, 430, 431, 432, 433, 449, 450] (by decide +kernel) (by decide +kernel)
set_option maxRecDepth 20000 in
theorem gL_law_X4_liftAll : GoodIn wsL_law (wsV RL 89 RX4 yX4_liftAll wsX4_liftAll) := goodIn_app (goodIn_of _ (by decide +kernel)) ggL_law_X4_liftAll
set_option maxRecDepth 20000 in
theorem ggL_law_X4_worstKey : GoodIn wsL_law wsX4_worstKey := goodIn_r _ [353, 12, 114, 190, 191, 192, 11, 193, 39, 148, 149, 150, 151, 37, 132, 38, 128, 129, 130, 131, 41, 133, 194, 195, 196, 197, 198, 199, 200, 106, 107, 108, 109, 40, 354, 355, 356, 357, 33, 358, 161, 162, 163, 164, 165, 166, 36, 167, 45, 168, 169, 170, 171, 46, 172, 173, 174, 175, 359, 417, 418, 419, 420, 421, 422, 423, 424, 425, 426, 427, 428, 429, 430, 431, 432, 433, 449, 450] (by decide +kernel) (by decide +kernel)
set_option maxRecDepth 20000 in
theorem gL_law_X4_worstKey : GoodIn wsL_law (wsV RL 38 RX4 yX4_worstKey wsX4_worstKey) := goodIn_app (goodIn_of _ (by decide +kernel)) ggL_law_X4_worstKey
set_option maxRecDepth 20000 in
theorem ggL_law_L_rests : GoodIn wsL_law wsL_rests := goodIn_r _ [362, 363, 364, 365, 2, 366, 12, 214, 215, 216, 217, 218, 83, 84, 85, 367, 368, 369, 370, 24, 371, 219, 220, 221, 222, 372, 129, 130, 11, 131, 41, 132, 133, 373, 374, 375, 376, 227, 22, 110, 111, 112, 113, 114, 23, 20, 115, 116, 117, 118, 119, 107, 108, 109, 39, 40, 120, 121, 122, 19, 123, 64, 58, 59, 124, 125, 126, 127, 37, 128, 134, 135, 136, 137, 138, 139, 140, 141, 142, 143, 38, 144, 145, 146, 147, 148, 149, 150, 151, 152, 153, 154, 155, 210, 211, 212, 213, 223, 224, 225, 226, 228, 229, 230, 231, 27, 232, 233, 234, 235, 236, 237, 238, 239, 26, 29, 16, 28, 240, 241, 242, 15, 243, 53, 50, 51, 52, 244, 245, 246, 247, 248, 25, 249, 250, 251, 252, 253, 254, 255, 66, 69, 60, 61, 63, 256, 257, 258, 259, 260, 261, 262, 263, 264, 265, 266, 267, 268, 65, 269, 270, 271, 272, 273, 274, 275, 276, 277, 67, 68, 278, 279, 280, 281, 417, 418, 419, 420, 421, 422, 423, 424, 425, 426, 427, 428, 429, 430, 431, 432, 433, 449, 450, 438, 439, 440, 441, 442, 443, 444, 445, 446, 447, 448, 434, 435, 436, 437] (by decide +kernel) (by decide +kernel)
set_option maxRecDepth 20000 in
theorem gL_law_L_rests : GoodIn wsL_law (va_wsS RL 92 yL_rests wsL_rests) := goodIn_app (goodIn_of _ (by decide +kernel)) ggL_law_L_rests
set_option maxRecDepth 20000 in
theorem ggL_law_L_worst : GoodIn wsL_law wsL_worst := goodIn_r _ [379, 179, 180, 181, 2, 182, 24, 12, 20, 183, 16, 184, 28, 29, 185, 106, 107, 108, 11, 109, 39, 40, 186, 187, 188, 189, 33, 119, 138, 139, 190, 191, 192, 193, 148, 149, 150, 151, 37, 132, 38, 128, 129, 130, 131, 41, 133, 194, 195, 196, 197, 198, 199, 200, 201, 202, 203, 204, 205, 153, 154, 155, 206, 207, 208, 19, 209, 64, 58, 350, 351, 352, 353, 114, 354, 355, 356, 357, 358, 161, 162, 163, 164, 165, 166, 36, 167, 45, 168, 169, 170, 171, 46, 172, 173, 174, 175, 359, 110, 111, 112, 113, 22, 23, 115, 116, 117, 118, 120, 121, 122, 123, 59, 124, 125, 126, 127, 134, 135, 136, 137, 140, 141, 142, 143, 144, 145, 146, 147, 152, 156, 157, 158, 159, 83, 84, 85, 160, 417, 418, 419, 420, 421, 422, 423, 424, 425, 426, 427, 438, 439, 440, 441, 442, 443, 444, 445, 446, 447, 448, 434, 435, 436, 437, 428, 429, 430, 431, 432, 433, 449, 450] (by decide +kernel) (by decide +kernel)
set_option maxRecDepth 20000 in
theorem gL_law_L_worst : GoodIn wsL_law (va_wsS RL 95 yL_worst wsL_worst) := goodIn_app (goodIn_of _ (by decide +kernel)) ggL_law_L_worst
set_option maxRecDepth 20000 in
theorem ggL_law_X4_tick : GoodIn wsL_law wsX4_tick := goodIn_r _ [213, 12, 214, 215, 216, 217, 218, 24, 83, 84, 2, 85, 219, 220, 221, 222, 223, 224, 225, 226, 227, 228, 229, 230, 231, 22, 27, 20, 124, 125, 126, 11, 127, 37, 40, 128, 129, 130, 131, 41, 132, 133, 134, 135, 136, 140, 141, 142, 143, 38, 232, 233, 234, 235, 23, 236, 237, 238, 239, 26, 29, 16, 28, 152, 153, 154, 155, 39, 240, 241, 242, 15, 243, 53, 50, 51, 52, 244, 245, 246, 247, 248, 25, 249, 250, 251, 252, 253, 254, 19, 255, 66, 69, 59, 58, 60, 61, 63, 256, 121, 122, 123, 64, 257, 258, 259, 260, 261, 262, 263, 264, 265, 266, 267, 268, 65, 269, 270, 271, 272, 273, 274, 275, 276, 277, 67, 68, 278, 279, 280, 281, 417, 418, 419, 420, 421, 422, 423, 424, 425, 426, 427, 428, 429, 430, 431, 432, 433, 449, 450, 434, 435, 436, 437, 438, 439, 440, 441, 442, 443, 444, 445, 446, 447, 448] (by decide +kernel) (by decide +kernel)
set_option maxRecDepth 20000 in
theorem gL_law_X4_tick : GoodIn wsL_law (wsV RL 32 RX4 yX4_tick wsX4_tick) := goodIn_app (goodIn_of _ (by decide +kernel)) ggL_law_X4_tick
