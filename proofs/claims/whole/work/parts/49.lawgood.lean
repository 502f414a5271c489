set_option maxRecDepth 20000 in
theorem ggL_law_X4_init : GoodIn wsL_law wsX4_init := goodIn_r _ [8, 9, 10, 11, 12, 13, 14, 15, 16, 17, 18, 19, 20, 21, 22, 23, 24, 25, 26, 27, 28, 29, 30, 31, 32, 33, 34, 35, 36, 37, 38, 39, 40, 41, 42, 43, 44, 45, 46, 47, 48, 49, 50, 51, 52, 53, 54, 55, 56, 57, 58, 59, 60, 61, 62, 63, 64, 65, 66, 67, 68, 69, 70, 71, 72, 647, 648, 649, 650, 651, 652, 606, 607, 608, 609, 610, 611, 612, 613, 614, 615, 616, 653, 654, 655, 656, 657, 658, 659, 660, 661, 662, 663, 664, 665, 666, 667, 668, 669] (by decide +kernel) (by decide +kernel)
set_option maxRecDepth 20000 in
theorem gL_law_X4_init : GoodIn wsL_law (wsX4_init) := ggL_law_X4_init
set_option maxRecDepth 20000 in
theorem ggL_law_X5_init : GoodIn wsL_law wsX5_init := goodIn_r _ [75, 76, 10, 11, 77, 78, 24, 79, 80, 81, 65, 82, 83, 84, 85, 86, 87, 88, 89, 90, 91, 92, 93, 94, 5, 95, 96, 97, 98, 99, 100, 101, 102, 103, 104, 105, 106, 107, 108, 109, 110, 111, 112, 113, 114, 115, 116, 117, 118, 119, 617, 618, 619, 620, 621, 622, 623, 624, 625, 626, 627, 628, 629, 630, 631, 632, 633, 634, 635, 636, 637, 638, 639, 640, 641, 642, 643, 644, 645, 646] (by decide +kernel) (by decide +kernel)
set_option maxRecDepth 20000 in
theorem gL_law_X5_init : GoodIn wsL_law (wsX5_init) := ggL_law_X5_init
set_option maxRecDepth 20000 in
theorem ggL_law_X4_reset : GoodIn wsL_law wsX4_reset := goodIn_r _ [123, 15, 19, 23, 25, 27, 31, 32, 124, 125, 2, 126, 127, 128, 129, 14, 130, 42, 43, 131, 132, 133, 134, 36, 40, 41, 135, 136, 137, 39, 138, 48, 49, 139, 140, 141, 18, 142, 56, 143, 144, 145, 22, 146, 61, 66, 69, 70, 71, 147, 148, 149, 150, 606, 607, 608, 609, 610, 611, 612, 613, 614, 615, 616, 647, 648, 649, 650, 651, 652, 668, 669, 653, 654, 655, 656, 657, 658, 659, 660, 661, 662, 663, 664, 665, 666, 667] (by decide +kernel) (by decide +kernel)
set_option maxRecDepth 20000 in
theorem gL_law_X4_reset : GoodIn wsL_law (wsV RL 13 RX4 yX4_reset wsX4_reset) := goodIn_app (goodIn_of _ (by decide +kernel)) ggL_law_X4_reset
set_option maxRecDepth 20000 in
theorem ggL_law_X5_reset : GoodIn wsL_law wsX5_reset := goodIn_r _ [154, 155, 156, 5, 157, 92, 93, 94, 95, 96, 97, 98, 99, 100, 79, 80, 81, 84, 88, 101, 102, 103, 104, 105, 106, 107, 108, 109, 83, 110, 82, 111, 112, 113, 114, 115, 116, 117, 118, 119, 617, 618, 619, 620, 621, 622, 623, 624, 625, 626, 627, 628, 629, 630, 631, 632, 633, 634, 635, 636, 637, 638, 639, 640, 641, 642, 643, 644, 645, 646] (by decide +kernel) (by decide +kernel)
set_option maxRecDepth 20000 in
theorem gL_law_X5_reset : GoodIn wsL_law (wsV RL 17 RX5 yX5_reset wsX5_reset) := goodIn_app (goodIn_of _ (by decide +kernel)) ggL_law_X5_reset
set_option maxRecDepth 20000 in
theorem ggL_law_X4_setDiodes : GoodIn wsL_law wsX4_setDiodes := goodIn_r _ [161, 15, 162, 163, 164, 165, 14, 166, 42, 167, 168, 169, 170, 40, 171, 41, 172, 173, 174, 175, 44, 176, 177, 178, 179, 180, 181, 182, 183, 606, 607, 608, 609, 610, 611, 612, 613, 614, 615, 616, 647, 648, 649, 650, 651, 652, 668, 669] (by decide +kernel) (by decide +kernel)
set_option maxRecDepth 20000 in
theorem gL_law_X4_setDiodes : GoodIn wsL_law (wsV RL 18 RX4 yX4_setDiodes wsX4_setDiodes) := goodIn_app (goodIn_of _ (by decide +kernel)) ggL_law_X4_setDiodes
set_option maxRecDepth 20000 in
theorem ggL_law_X5_setDiodes : GoodIn wsL_law wsX5_setDiodes := goodIn_r _ [187, 110, 105, 106, 107, 5, 108, 96, 109, 97, 83, 79, 82, 111, 112, 113, 114, 115, 116, 117, 118, 119, 188, 189, 190, 191, 192, 193, 194, 195, 617, 618, 619, 620, 621, 622, 623, 624, 625, 626, 627, 628, 629, 630, 631, 632, 633, 634, 635, 636, 637, 638, 639, 640, 641, 642, 643, 644, 645, 646] (by decide +kernel) (by decide +kernel)
set_option maxRecDepth 20000 in
theorem gL_law_X5_setDiodes : GoodIn wsL_law (wsV RL 22 RX5 yX5_setDiodes wsX5_setDiodes) := goodIn_app (goodIn_of _ (by decide +kernel)) ggL_law_X5_setDiodes
set_option maxRecDepth 20000 in
theorem ggL_law_X4_setBlocking : GoodIn wsL_law wsX4_setBlocking := goodIn_r _ [199, 29, 200, 201, 2, 202, 606, 607, 608, 609, 610, 611, 612, 613, 614, 615, 616] (by decide +kernel) (by decide +kernel)
set_option maxRecDepth 20000 in
theorem gL_law_X4_setBlocking : GoodIn wsL_law (wsV RL 23 RX4 yX4_setBlocking wsX4_setBlocking) := goodIn_app (goodIn_of _ (by decide +kernel)) ggL_law_X4_setBlocking
set_option maxRecDepth 20000 in
theorem ggL_law_X5_setBlocking : GoodIn wsL_law wsX5_setBlocking := goodIn_r _ [206, 207, 617, 618, 619, 620, 621, 622, 623, 624, 625, 626, 627, 628, 629, 630, 631, 632, 633, 634, 635, 636, 637, 638, 639, 640, 641, 642, 643, 644, 645, 646] (by decide +kernel) (by decide +kernel)
set_option maxRecDepth 20000 in
theorem gL_law_X5_setBlocking : GoodIn wsL_law (wsV RL 26 RX5 yX5_setBlocking wsX5_setBlocking) := goodIn_app (goodIn_of _ (by decide +kernel)) ggL_law_X5_setBlocking
set_option maxRecDepth 20000 in
theorem ggL_law_X4_setLateRelease : GoodIn wsL_law wsX4_setLateRelease := goodIn_r _ [211, 30, 200, 201, 2, 202, 606, 607, 608, 609, 610, 611, 612, 613, 614, 615, 616] (by decide +kernel) (by decide +kernel)
set_option maxRecDepth 20000 in
theorem gL_law_X4_setLateRelease : GoodIn wsL_law (wsV RL 27 RX4 yX4_setLateRelease wsX4_setLateRelease) := goodIn_app (goodIn_of _ (by decide +kernel)) ggL_law_X4_setLateRelease
set_option maxRecDepth 20000 in
theorem ggL_law_X5_setLateRelease : GoodIn wsL_law wsX5_setLateRelease := goodIn_r _ [215, 216, 617, 618, 619, 620, 621, 622, 623, 624, 625, 626, 627, 628, 629, 630, 631, 632, 633, 634, 635, 636, 637, 638, 639, 640, 641, 642, 643, 644, 645, 646] (by decide +kernel) (by decide +kernel)
set_option maxRecDepth 20000 in
theorem gL_law_X5_setLateRelease : GoodIn wsL_law (wsV RL 30 RX5 yX5_setLateRelease wsX5_setLateRelease) := goodIn_app (goodIn_of _ (by decide +kernel)) ggL_law_X5_setLateRelease
set_option maxRecDepth 20000 in
theorem ggL_law_X4_setSlope : GoodIn wsL_law wsX4_setSlope := goodIn_r _ [220, 28, 124, 125, 2, 126, 606, 607, 608, 609, 610, 611, 612, 613, 614, 615, 616] (by decide +kernel) (by decide +kernel)
set_option maxRecDepth 20000 in
theorem gL_law_X4_setSlope : GoodIn wsL_law (wsV RL 31 RX4 yX4_setSlope wsX4_setSlope) := goodIn_app (goodIn_of _ (by decide +kernel)) ggL_law_X4_setSlope
set_option maxRecDepth 20000 in
theorem ggL_law_X5_setSlope : GoodIn wsL_law wsX5_setSlope := goodIn_r _ [224, 77, 155, 156, 5, 157, 617, 618, 619, 620, 621, 622, 623, 624, 625, 626, 627, 628, 629, 630, 631, 632, 633, 634, 635, 636, 637, 638, 639, 640, 641, 642, 643, 644, 645, 646] (by decide +kernel) (by decide +kernel)
set_option maxRecDepth 20000 in
theorem gL_law_X5_setSlope : GoodIn wsL_law (wsV RL 35 RX5 yX5_setSlope wsX5_setSlope) := goodIn_app (goodIn_of _ (by decide +kernel)) ggL_law_X5_setSlope
set_option maxRecDepth 20000 in
theorem ggL_law_X4_setVoices : GoodIn wsL_law wsX4_setVoices := goodIn_r _ [228, 23, 229, 27, 230, 124, 125, 2, 126, 231, 232, 233, 22, 234, 67, 61, 235, 236, 237, 238, 66, 72, 62, 239, 240, 241, 18, 242, 56, 53, 54, 55, 243, 244, 245, 246, 606, 607, 608, 609, 610, 611, 612, 613, 614, 615, 616, 657, 658, 659, 660, 661, 662, 663, 664, 665, 666, 667, 653, 654, 655, 656] (by decide +kernel) (by decide +kernel)
set_option maxRecDepth 20000 in
theorem gL_law_X4_setVoices : GoodIn wsL_law (wsV RL 36 RX4 yX4_setVoices wsX4_setVoices) := goodIn_app (goodIn_of _ (by decide +kernel)) ggL_law_X4_setVoices
set_option maxRecDepth 20000 in
theorem ggL_law_X5_setVoices : GoodIn wsL_law wsX5_setVoices := goodIn_r _ [250, 78, 251, 155, 156, 5, 157, 252, 253, 254, 255, 84, 88, 85, 256, 257, 258, 259, 89, 100, 101, 617, 618, 619, 620, 621, 622, 623, 624, 625, 626, 627, 628, 629, 630, 631, 632, 633, 634, 635, 636, 637, 638, 639, 640, 641, 642, 643, 644, 645, 646] (by decide +kernel) (by decide +kernel)
set_option maxRecDepth 20000 in
theorem gL_law_X5_setVoices : GoodIn wsL_law (wsV RL 39 RX5 yX5_setVoices wsX5_setVoices) := goodIn_app (goodIn_of _ (by decide +kernel)) ggL_law_X5_setVoices
set_option maxRecDepth 20000 in
theorem ggL_law_X4_setKey : GoodIn wsL_law wsX4_setKey := goodIn_r _ [263, 15, 264, 265, 266, 267, 14, 268, 269, 148, 149, 150, 42, 43, 124, 125, 2, 126, 270, 271, 272, 273, 36, 40, 41, 274, 275, 276, 39, 277, 48, 278, 279, 280, 281, 49, 282, 283, 284, 285, 606, 607, 608, 609, 610, 611, 612, 613, 614, 615, 616, 647, 648, 649, 650, 651, 652, 668, 669] (by decide +kernel) (by decide +kernel)
set_option maxRecDepth 20000 in
theorem gL_law_X4_setKey : GoodIn wsL_law (wsV RL 40 RX4 yX4_setKey wsX4_setKey) := goodIn_app (goodIn_of _ (by decide +kernel)) ggL_law_X4_setKey
set_option maxRecDepth 20000 in
theorem ggL_law_X5_setKey : GoodIn wsL_law wsX5_setKey := goodIn_r _ [289, 79, 290, 291, 292, 5, 293, 116, 117, 118, 119, 96, 97, 155, 156, 157, 105, 106, 107, 108, 109, 83, 110, 82, 111, 112, 113, 114, 115, 617, 618, 619, 620, 621, 622, 623, 624, 625, 626, 627, 628, 629, 630, 631, 632, 633, 634, 635, 636, 637, 638, 639, 640, 641, 642, 643, 644, 645, 646] (by decide +kernel) (by decide +kernel)
set_option maxRecDepth 20000 in
theorem gL_law_X5_setKey : GoodIn wsL_law (wsV RL 43 RX5 yX5_setKey wsX5_setKey) := goodIn_app (goodIn_of _ (by decide +kernel)) ggL_law_X5_setKey
set_option maxRecDepth 20000 in
theorem ggL_law_X4_liftAll : GoodIn wsL_law wsX4_liftAll := goodIn_r _ [297, 15, 298, 299, 300, 14, 301, 36, 269, 148, 149, 150, 42, 43, 201, 2, 202, 302, 132, 133, 134, 40, 41, 135, 136, 137, 39, 138, 48, 49, 606, 607, 608, 609, 610, 611, 612, 613, 614, 615, 616, 647, 648, 649, 650, 651, 652, 668, 669] (by decide +kernel) (by decide +kernel)
set_option maxRecDepth 20000 in
theorem gL_law_X4_liftAll : GoodIn wsL_law (wsV RL 44 RX4 yX4_liftAll wsX4_liftAll) := goodIn_app (goodIn_of _ (by decide +kernel)) ggL_law_X4_liftAll
set_option maxRecDepth 20000 in
theorem ggL_law_X5_liftAll : GoodIn wsL_law wsX5_liftAll := goodIn_r _ [306, 79, 307, 308, 309, 5, 310, 116, 117, 118, 119, 96, 97, 105, 106, 107, 108, 109, 83, 110, 82, 111, 112, 113, 114, 115, 617, 618, 619, 620, 621, 622, 623, 624, 625, 626, 627, 628, 629, 630, 631, 632, 633, 634, 635, 636, 637, 638, 639, 640, 641, 642, 643, 644, 645, 646] (by decide +kernel) (by decide +kernel)
set_option maxRecDepth 20000 in
theorem gL_law_X5_liftAll : GoodIn wsL_law (wsV RL 48 RX5 yX5_liftAll wsX5_liftAll) := goodIn_app (goodIn_of _ (by decide +kernel)) ggL_law_X5_liftAll
set_option maxRecDepth 20000 in
theorem ggL_law_X4_sustain : GoodIn wsL_law wsX4_sustain := goodIn_r _ [314, 23, 27, 315, 316, 317, 22, 318, 70, 319, 320, 321, 322, 67, 61, 323, 324, 325, 326, 71, 66, 235, 236, 237, 238, 72, 62, 239, 240, 241, 18, 242, 56, 53, 54, 55, 243, 244, 245, 246, 606, 607, 608, 609, 610, 611, 612, 613, 614, 615, 616, 657, 658, 659, 660, 661, 662, 663, 664, 665, 666, 667, 653, 654, 655, 656] (by decide +kernel) (by decide +kernel)
set_option maxRecDepth 20000 in
theorem gL_law_X4_sustain : GoodIn wsL_law (wsV RL 49 RX4 yX4_sustain wsX4_sustain) := goodIn_app (goodIn_of _ (by decide +kernel)) ggL_law_X4_sustain
set_option maxRecDepth 20000 in
theorem ggL_law_X5_sustain : GoodIn wsL_law wsX5_sustain := goodIn_r _ [330, 98, 331, 332, 333, 5, 334, 78, 84, 99, 88, 252, 253, 254, 255, 85, 256, 257, 258, 259, 89, 100, 101, 617, 618, 619, 620, 621, 622, 623, 624, 625, 626, 627, 628, 629, 630, 631, 632, 633, 634, 635, 636, 637, 638, 639, 640, 641, 642, 643, 644, 645, 646] (by decide +kernel) (by decide +kernel)
set_option maxRecDepth 20000 in
theorem gL_law_X5_sustain : GoodIn wsL_law (wsV RL 52 RX5 yX5_sustain wsX5_sustain) := goodIn_app (goodIn_of _ (by decide +kernel)) ggL_law_X5_sustain
set_option maxRecDepth 20000 in
theorem ggL_law_X4_sostenuto : GoodIn wsL_law wsX4_sostenuto := goodIn_r _ [338, 23, 27, 339, 340, 341, 22, 342, 71, 67, 66, 61, 343, 344, 345, 346, 319, 320, 321, 322, 323, 324, 325, 326, 70, 235, 236, 237, 238, 72, 62, 239, 240, 241, 18, 242, 56, 53, 54, 55, 243, 244, 245, 246, 606, 607, 608, 609, 610, 611, 612, 613, 614, 615, 616, 657, 658, 659, 660, 661, 662, 663, 664, 665, 666, 667, 653, 654, 655, 656] (by decide +kernel) (by decide +kernel)
set_option maxRecDepth 20000 in
theorem gL_law_X4_sostenuto : GoodIn wsL_law (wsV RL 53 RX4 yX4_sostenuto wsX4_sostenuto) := goodIn_app (goodIn_of _ (by decide +kernel)) ggL_law_X4_sostenuto
set_option maxRecDepth 20000 in
theorem ggL_law_X5_sostenuto : GoodIn wsL_law wsX5_sostenuto := goodIn_r _ [350, 99, 78, 88, 84, 331, 332, 333, 5, 334, 98, 252, 253, 254, 255, 85, 256, 257, 258, 259, 89, 100, 101, 617, 618, 619, 620, 621, 622, 623, 624, 625, 626, 627, 628, 629, 630, 631, 632, 633, 634, 635, 636, 637, 638, 639, 640, 641, 642, 643, 644, 645, 646] (by decide +kernel) (by decide +kernel)
set_option maxRecDepth 20000 in
theorem gL_law_X5_sostenuto : GoodIn wsL_law (wsV RL 56 RX5 yX5_sostenuto wsX5_sostenuto) := goodIn_app (goodIn_of _ (by decide +kernel)) ggL_law_X5_sostenuto
set_option maxRecDepth 20000 in
theorem ggL_law_X4_tick : GoodIn wsL_law wsX4_tick := goodIn_r _ [354, 15, 355, 356, 357, 358, 359, 27, 124, 125, 2, 126, 360, 244, 245, 246, 361, 362, 363, 364, 365, 366, 367, 368, 369, 25, 30, 23, 370, 371, 372, 14, 373, 40, 43, 172, 173, 174, 175, 44, 171, 176, 374, 375, 376, 377, 378, 379, 380, 41, 381, 382, 383, 384, 26, 385, 386, 387, 388, 29, 32, 19, 31, 389, 390, 391, 392, 42, 393, 240, 241, 18, 242, 56, 53, 54, 55, 243, 394, 395, 396, 397, 28, 398, 399, 400, 401, 402, 403, 22, 404, 69, 72, 62, 61, 63, 64, 66, 405, 406, 407, 408, 67, 409, 410, 411, 412, 413, 414, 415, 416, 417, 418, 419, 420, 68, 239, 421, 422, 423, 424, 323, 324, 325, 326, 70, 71, 235, 236, 237, 238, 606, 607, 608, 609, 610, 611, 612, 613, 614, 615, 616, 647, 648, 649, 650, 651, 652, 668, 669, 653, 654, 655, 656, 657, 658, 659, 660, 661, 662, 663, 664, 665, 666, 667] (by decide +kernel) (by decide +kernel)
set_option maxRecDepth 20000 in
theorem gL_law_X4_tick : GoodIn wsL_law (wsV RL 57 RX4 yX4_tick wsX4_tick) := goodIn_app (goodIn_of _ (by decide +kernel)) ggL_law_X4_tick
set_option maxRecDepth 20000 in
theorem ggL_law_X5_tick : GoodIn wsL_law wsX5_tick := goodIn_r _ [428, 100, 155, 156, 5, 157, 429, 430, 431, 432, 96, 97, 433, 434, 435, 436, 80, 82, 81, 83, 216, 437, 438, 439, 440, 441, 442, 443, 444, 207, 103, 104, 85, 84, 86, 87, 88, 102, 445, 446, 447, 448, 116, 117, 118, 119, 256, 257, 258, 259, 89, 101, 449, 450, 451, 452, 78, 453, 454, 455, 456, 457, 458, 459, 460, 251, 461, 462, 463, 464, 465, 466, 467, 468, 469, 470, 471, 472, 77, 473, 474, 475, 476, 98, 99, 252, 253, 254, 255, 617, 618, 619, 620, 621, 622, 623, 624, 625, 626, 627, 628, 629, 630, 631, 632, 633, 634, 635, 636, 637, 638, 639, 640, 641, 642, 643, 644, 645, 646] (by decide +kernel) (by decide +kernel)
set_option maxRecDepth 20000 in
theorem gL_law_X5_tick : GoodIn wsL_law (wsV RL 60 RX5 yX5_tick wsX5_tick) := goodIn_app (goodIn_of _ (by decide +kernel)) ggL_law_X5_tick
set_option maxRecDepth 20000 in
theorem ggL_law_X4_key : GoodIn wsL_law wsX4_key := goodIn_r _ [480, 15, 264, 25, 26, 23, 265, 266, 267, 14, 268, 269, 148, 149, 150, 42, 43, 481, 406, 407, 22, 408, 67, 61, 62, 370, 371, 372, 373, 40, 172, 173, 174, 175, 44, 171, 176, 374, 375, 376, 200, 201, 2, 202, 377, 378, 379, 380, 41, 482, 483, 484, 485, 167, 168, 169, 170, 389, 390, 391, 392, 606, 607, 608, 609, 610, 611, 612, 613, 614, 615, 616, 647, 648, 649, 650, 651, 652, 657, 658, 659, 660, 661, 662, 663, 664, 665, 666, 667, 668, 669] (by decide +kernel) (by decide +kernel)
set_option maxRecDepth 20000 in
theorem gL_law_X4_key : GoodIn wsL_law (wsV RL 61 RX4 yX4_key wsX4_key) := goodIn_app (goodIn_of _ (by decide +kernel)) ggL_law_X4_key
set_option maxRecDepth 20000 in
theorem ggL_law_X5_key : GoodIn wsL_law wsX5_key := goodIn_r _ [489, 79, 80, 81, 82, 83, 290, 291, 292, 5, 293, 116, 117, 118, 119, 96, 97, 155, 156, 157, 449, 450, 451, 452, 78, 84, 85, 192, 193, 194, 195, 445, 446, 447, 448, 617, 618, 619, 620, 621, 622, 623, 624, 625, 626, 627, 628, 629, 630, 631, 632, 633, 634, 635, 636, 637, 638, 639, 640, 641, 642, 643, 644, 645, 646] (by decide +kernel) (by decide +kernel)
set_option maxRecDepth 20000 in
theorem gL_law_X5_key : GoodIn wsL_law (wsV RL 64 RX5 yX5_key wsX5_key) := goodIn_app (goodIn_of _ (by decide +kernel)) ggL_law_X5_key
set_option maxRecDepth 20000 in
theorem ggL_law_X4_voice : GoodIn wsL_law wsX4_voice := goodIn_r _ [493, 23, 229, 494, 495, 496, 497, 498, 200, 201, 2, 202, 606, 607, 608, 609, 610, 611, 612, 613, 614, 615, 616, 657, 658, 659, 660, 661, 662, 663, 664, 665, 666, 667] (by decide +kernel) (by decide +kernel)
set_option maxRecDepth 20000 in
theorem gL_law_X4_voice : GoodIn wsL_law (wsV RL 65 RX4 yX4_voice wsX4_voice) := goodIn_app (goodIn_of _ (by decide +kernel)) ggL_law_X4_voice
set_option maxRecDepth 20000 in
theorem ggL_law_X5_voice : GoodIn wsL_law wsX5_voice := goodIn_r _ [502, 78, 84, 85, 86, 87, 88, 155, 156, 5, 157, 617, 618, 619, 620, 621, 622, 623, 624, 625, 626, 627, 628, 629, 630, 631, 632, 633, 634, 635, 636, 637, 638, 639, 640, 641, 642, 643, 644, 645, 646] (by decide +kernel) (by decide +kernel)
set_option maxRecDepth 20000 in
theorem gL_law_X5_voice : GoodIn wsL_law (wsV RL 68 RX5 yX5_voice wsX5_voice) := goodIn_app (goodIn_of _ (by decide +kernel)) ggL_law_X5_voice
set_option maxRecDepth 20000 in
theorem ggL_law_X4_count : GoodIn wsL_law wsX4_count := goodIn_r _ [506, 27, 15, 23, 229, 19, 507, 31, 32, 508, 147, 148, 149, 14, 150, 42, 43, 298, 299, 300, 301, 36, 269, 201, 2, 202, 163, 164, 165, 166, 167, 168, 169, 170, 40, 171, 41, 172, 173, 174, 175, 44, 176, 177, 178, 179, 180, 181, 182, 183, 509, 510, 511, 512, 513, 390, 391, 392, 514, 344, 345, 22, 346, 67, 61, 606, 607, 608, 609, 610, 611, 612, 613, 614, 615, 616, 657, 658, 659, 660, 661, 662, 663, 664, 665, 666, 667, 653, 654, 655, 656, 647, 648, 649, 650, 651, 652, 668, 669] (by decide +kernel) (by decide +kernel)
set_option maxRecDepth 20000 in
theorem gL_law_X4_count : GoodIn wsL_law (wsV RL 69 RX4 yX4_count wsX4_count) := goodIn_app (goodIn_of _ (by decide +kernel)) ggL_law_X4_count
set_option maxRecDepth 20000 in
theorem ggL_law_X5_count : GoodIn wsL_law wsX5_count := goodIn_r _ [518, 78, 84, 100, 101, 102, 103, 104, 116, 117, 118, 5, 119, 96, 97, 445, 446, 447, 448, 82, 307, 308, 309, 310, 79, 188, 189, 190, 191, 192, 193, 194, 195, 83, 617, 618, 619, 620, 621, 622, 623, 624, 625, 626, 627, 628, 629, 630, 631, 632, 633, 634, 635, 636, 637, 638, 639, 640, 641, 642, 643, 644, 645, 646] (by decide +kernel) (by decide +kernel)
set_option maxRecDepth 20000 in
theorem gL_law_X5_count : GoodIn wsL_law (wsV RL 72 RX5 yX5_count wsX5_count) := goodIn_app (goodIn_of _ (by decide +kernel)) ggL_law_X5_count
set_option maxRecDepth 20000 in
theorem ggL_law_X4_log : GoodIn wsL_law wsX4_log := goodIn_r _ [522, 19, 523, 524, 525, 124, 125, 2, 126, 526, 527, 528, 18, 529, 56, 530, 357, 358, 359, 531, 532, 533, 534, 243, 244, 245, 246, 606, 607, 608, 609, 610, 611, 612, 613, 614, 615, 616, 653, 654, 655, 656] (by decide +kernel) (by decide +kernel)
set_option maxRecDepth 20000 in
theorem gL_law_X4_log : GoodIn wsL_law (wsV RL 73 RX4 yX4_log wsX4_log) := goodIn_app (goodIn_of _ (by decide +kernel)) ggL_law_X4_log
set_option maxRecDepth 20000 in
theorem ggL_law_X5_log : GoodIn wsL_law wsX5_log := goodIn_r _ [538, 101, 89, 155, 156, 5, 157, 617, 618, 619, 620, 621, 622, 623, 624, 625, 626, 627, 628, 629, 630, 631, 632, 633, 634, 635, 636, 637, 638, 639, 640, 641, 642, 643, 644, 645, 646] (by decide +kernel) (by decide +kernel)
set_option maxRecDepth 20000 in
theorem gL_law_X5_log : GoodIn wsL_law (wsV RL 76 RX5 yX5_log wsX5_log) := goodIn_app (goodIn_of _ (by decide +kernel)) ggL_law_X5_log
set_option maxRecDepth 20000 in
theorem ggL_law_X4_velocity : GoodIn wsL_law wsX4_velocity := goodIn_r _ [542, 124, 125, 2, 126, 394, 395, 396, 397, 28, 356, 357, 358, 359, 398, 399, 400, 606, 607, 608, 609, 610, 611, 612, 613, 614, 615, 616] (by decide +kernel) (by decide +kernel)
set_option maxRecDepth 20000 in
theorem gL_law_X4_velocity : GoodIn wsL_law (wsV RL 77 RX4 yX4_velocity wsX4_velocity) := goodIn_app (goodIn_of _ (by decide +kernel)) ggL_law_X4_velocity
set_option maxRecDepth 20000 in
theorem ggL_law_X5_velocity : GoodIn wsL_law wsX5_velocity := goodIn_r _ [546, 155, 156, 5, 157, 469, 470, 471, 472, 77, 617, 618, 619, 620, 621, 622, 623, 624, 625, 626, 627, 628, 629, 630, 631, 632, 633, 634, 635, 636, 637, 638, 639, 640, 641, 642, 643, 644, 645, 646] (by decide +kernel) (by decide +kernel)
set_option maxRecDepth 20000 in
theorem gL_law_X5_velocity : GoodIn wsL_law (wsV RL 80 RX5 yX5_velocity wsX5_velocity) := goodIn_app (goodIn_of _ (by decide +kernel)) ggL_law_X5_velocity
set_option maxRecDepth 20000 in
theorem ggL_law_X4_nextTaken : GoodIn wsL_law wsX4_nextTaken := goodIn_r _ [550, 23, 551, 410, 411, 22, 412, 67, 61, 552, 414, 415, 416, 417, 418, 419, 420, 68, 63, 64, 606, 607, 608, 609, 610, 611, 612, 613, 614, 615, 616, 657, 658, 659, 660, 661, 662, 663, 664, 665, 666, 667] (by decide +kernel) (by decide +kernel)
set_option maxRecDepth 20000 in
theorem gL_law_X4_nextTaken : GoodIn wsL_law (wsV RL 81 RX4 yX4_nextTaken wsX4_nextTaken) := goodIn_app (goodIn_of _ (by decide +kernel)) ggL_law_X4_nextTaken
set_option maxRecDepth 20000 in
theorem ggL_law_X5_nextTaken : GoodIn wsL_law wsX5_nextTaken := goodIn_r _ [556, 453, 454, 455, 5, 456, 78, 84, 457, 458, 459, 460, 251, 461, 462, 463, 464, 465, 466, 467, 468, 86, 87, 617, 618, 619, 620, 621, 622, 623, 624, 625, 626, 627, 628, 629, 630, 631, 632, 633, 634, 635, 636, 637, 638, 639, 640, 641, 642, 643, 644, 645, 646] (by decide +kernel) (by decide +kernel)
set_option maxRecDepth 20000 in
theorem gL_law_X5_nextTaken : GoodIn wsL_law (wsV RL 84 RX5 yX5_nextTaken wsX5_nextTaken) := goodIn_app (goodIn_of _ (by decide +kernel)) ggL_law_X5_nextTaken
set_option maxRecDepth 20000 in
theorem ggL_law_X4_connected : GoodIn wsL_law wsX4_connected := goodIn_r _ [560, 15, 355, 561, 562, 563, 564, 565, 39, 566, 49, 606, 607, 608, 609, 610, 611, 612, 613, 614, 615, 616, 647, 648, 649, 650, 651, 652, 668, 669] (by decide +kernel) (by decide +kernel)
set_option maxRecDepth 20000 in
theorem gL_law_X4_connected : GoodIn wsL_law (wsV RL 85 RX4 yX4_connected wsX4_connected) := goodIn_app (goodIn_of _ (by decide +kernel)) ggL_law_X4_connected
set_option maxRecDepth 20000 in
theorem ggL_law_X5_connected : GoodIn wsL_law wsX5_connected := goodIn_r _ [570, 96, 115, 109, 155, 156, 5, 157, 111, 112, 113, 114, 97, 79, 116, 117, 118, 119, 617, 618, 619, 620, 621, 622, 623, 624, 625, 626, 627, 628, 629, 630, 631, 632, 633, 634, 635, 636, 637, 638, 639, 640, 641, 642, 643, 644, 645, 646] (by decide +kernel) (by decide +kernel)
set_option maxRecDepth 20000 in
theorem gL_law_X5_connected : GoodIn wsL_law (wsV RL 88 RX5 yX5_connected wsX5_connected) := goodIn_app (goodIn_of _ (by decide +kernel)) ggL_law_X5_connected
set_option maxRecDepth 20000 in
theorem ggL_law_X4_worstKey : GoodIn wsL_law wsX4_worstKey := goodIn_r _ [574, 15, 264, 163, 164, 165, 14, 166, 42, 167, 168, 169, 170, 40, 171, 41, 172, 173, 174, 175, 44, 176, 177, 178, 179, 180, 181, 182, 183, 147, 148, 149, 150, 43, 575, 576, 577, 578, 36, 579, 271, 272, 273, 274, 275, 276, 39, 277, 48, 278, 279, 280, 281, 49, 282, 283, 284, 285, 580, 606, 607, 608, 609, 610, 611, 612, 613, 614, 615, 616, 647, 648, 649, 650, 651, 652, 668, 669] (by decide +kernel) (by decide +kernel)
set_option maxRecDepth 20000 in
theorem gL_law_X4_worstKey : GoodIn wsL_law (wsV RL 89 RX4 yX4_worstKey wsX4_worstKey) := goodIn_app (goodIn_of _ (by decide +kernel)) ggL_law_X4_worstKey
set_option maxRecDepth 20000 in
theorem ggL_law_X5_worstKey : GoodIn wsL_law wsX5_worstKey := goodIn_r _ [584, 79, 188, 189, 190, 5, 191, 116, 117, 118, 119, 96, 97, 192, 193, 194, 195, 82, 83, 105, 106, 107, 108, 109, 110, 111, 112, 113, 114, 115, 617, 618, 619, 620, 621, 622, 623, 624, 625, 626, 627, 628, 629, 630, 631, 632, 633, 634, 635, 636, 637, 638, 639, 640, 641, 642, 643, 644, 645, 646] (by decide +kernel) (by decide +kernel)
set_option maxRecDepth 20000 in
theorem gL_law_X5_worstKey : GoodIn wsL_law (wsV RL 92 RX5 yX5_worstKey wsX5_worstKey) := goodIn_app (goodIn_of _ (by decide +kernel)) ggL_law_X5_worstKey
set_option maxRecDepth 20000 in
theorem ggL_law_X4_restAfter : GoodIn wsL_law wsX4_restAfter := goodIn_r _ [588, 15, 355, 356, 357, 358, 359, 124, 125, 2, 126, 589, 590, 591, 592, 27, 561, 360, 244, 245, 246, 593, 173, 174, 14, 175, 44, 171, 176, 594, 595, 596, 597, 365, 25, 606, 607, 608, 609, 610, 611, 612, 613, 614, 615, 616, 647, 648, 649, 650, 651, 652, 668, 669] (by decide +kernel) (by decide +kernel)
set_option maxRecDepth 20000 in
theorem gL_law_X4_restAfter : GoodIn wsL_law (wsV RL 93 RX4 yX4_restAfter wsX4_restAfter) := goodIn_app (goodIn_of _ (by decide +kernel)) ggL_law_X4_restAfter
set_option maxRecDepth 20000 in
theorem ggL_law_X5_restAfter : GoodIn wsL_law wsX5_restAfter := goodIn_r _ [601, 90, 80, 91, 81, 100, 155, 156, 5, 157, 602, 603, 604, 605, 116, 117, 118, 119, 96, 97, 429, 430, 431, 432, 433, 434, 435, 436, 82, 83, 216, 437, 438, 439, 440, 441, 442, 443, 444, 207, 103, 104, 85, 84, 86, 87, 88, 102, 445, 446, 447, 448, 256, 257, 258, 259, 89, 101, 449, 450, 451, 452, 78, 453, 454, 455, 456, 457, 458, 459, 460, 251, 461, 462, 463, 464, 465, 466, 467, 468, 469, 470, 471, 472, 77, 473, 474, 475, 476, 98, 99, 252, 253, 254, 255, 617, 618, 619, 620, 621, 622, 623, 624, 625, 626, 627, 628, 629, 630, 631, 632, 633, 634, 635, 636, 637, 638, 639, 640, 641, 642, 643, 644, 645, 646] (by decide +kernel) (by decide +kernel)
set_option maxRecDepth 20000 in
theorem gL_law_X5_restAfter : GoodIn wsL_law (wsV RL 96 RX5 yX5_restAfter wsX5_restAfter) := goodIn_app (goodIn_of _ (by decide +kernel)) ggL_law_X5_restAfter
