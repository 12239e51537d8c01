set_option maxRecDepth 20000 in
theorem ggL_law_X2_init : GoodIn wsL_law wsX2_init := goodIn_r _ [8, 9, 10, 11, 12, 13, 14, 15, 16, 17, 18, 19, 20, 21, 22, 23, 24, 25, 26, 27, 28, 29, 30, 31, 32, 33, 34, 35, 36, 37, 38, 39, 40, 41, 42, 43, 44, 479, 480, 481, 482, 483, 464, 465, 466, 467, 468, 469, 470, 471, 484, 485, 486, 487, 488, 489] (by decide +kernel) (by decide +kernel)
set_option maxRecDepth 20000 in
theorem gL_law_X2_init : GoodIn wsL_law (wsX2_init) := ggL_law_X2_init
set_option maxRecDepth 20000 in
theorem ggL_law_X3_init : GoodIn wsL_law wsX3_init := goodIn_r _ [47, 48, 10, 11, 22, 49, 50, 51, 52, 53, 43, 54, 55, 56, 472, 473, 474, 475, 476, 477, 478] (by decide +kernel) (by decide +kernel)
set_option maxRecDepth 20000 in
theorem gL_law_X3_init : GoodIn wsL_law (wsX3_init) := ggL_law_X3_init
set_option maxRecDepth 20000 in
theorem ggL_law_X2_horn : GoodIn wsL_law wsX2_horn := goodIn_r _ [60, 15, 61, 464, 465, 466, 467, 468, 469, 470, 471, 479, 480, 481, 482, 483] (by decide +kernel) (by decide +kernel)
set_option maxRecDepth 20000 in
theorem gL_law_X2_horn : GoodIn wsL_law (wsV RL 13 RX2 yX2_horn wsX2_horn) := goodIn_app (goodIn_of _ (by decide +kernel)) ggL_law_X2_horn
set_option maxRecDepth 20000 in
theorem ggL_law_X3_horn : GoodIn wsL_law wsX3_horn := goodIn_r _ [65, 49, 66, 67, 5, 68, 472, 473, 474, 475, 476, 477, 478] (by decide +kernel) (by decide +kernel)
set_option maxRecDepth 20000 in
theorem gL_law_X3_horn : GoodIn wsL_law (wsV RL 17 RX3 yX3_horn wsX3_horn) := goodIn_app (goodIn_of _ (by decide +kernel)) ggL_law_X3_horn
set_option maxRecDepth 20000 in
theorem ggL_law_X2_valve : GoodIn wsL_law wsX2_valve := goodIn_r _ [72, 15, 73, 74, 75, 2, 76, 464, 465, 466, 467, 468, 469, 470, 471, 479, 480, 481, 482, 483] (by decide +kernel) (by decide +kernel)
set_option maxRecDepth 20000 in
theorem gL_law_X2_valve : GoodIn wsL_law (wsV RL 18 RX2 yX2_valve wsX2_valve) := goodIn_app (goodIn_of _ (by decide +kernel)) ggL_law_X2_valve
set_option maxRecDepth 20000 in
theorem ggL_law_X3_valve : GoodIn wsL_law wsX3_valve := goodIn_r _ [80, 49, 66, 67, 5, 68, 472, 473, 474, 475, 476, 477, 478] (by decide +kernel) (by decide +kernel)
set_option maxRecDepth 20000 in
theorem gL_law_X3_valve : GoodIn wsL_law (wsV RL 22 RX3 yX3_valve wsX3_valve) := goodIn_app (goodIn_of _ (by decide +kernel)) ggL_law_X3_valve
set_option maxRecDepth 20000 in
theorem ggL_law_X2_rule : GoodIn wsL_law wsX2_rule := goodIn_r _ [84, 85, 15, 86, 464, 465, 466, 467, 468, 469, 470, 471, 479, 480, 481, 482, 483] (by decide +kernel) (by decide +kernel)
set_option maxRecDepth 20000 in
theorem gL_law_X2_rule : GoodIn wsL_law (wsV RL 23 RX2 yX2_rule wsX2_rule) := goodIn_app (goodIn_of _ (by decide +kernel)) ggL_law_X2_rule
set_option maxRecDepth 20000 in
theorem ggL_law_X3_rule : GoodIn wsL_law wsX3_rule := goodIn_r _ [90, 49, 66, 67, 5, 68, 472, 473, 474, 475, 476, 477, 478] (by decide +kernel) (by decide +kernel)
set_option maxRecDepth 20000 in
theorem gL_law_X3_rule : GoodIn wsL_law (wsV RL 26 RX3 yX3_rule wsX3_rule) := goodIn_app (goodIn_of _ (by decide +kernel)) ggL_law_X3_rule
set_option maxRecDepth 20000 in
theorem ggL_law_X2_lowers : GoodIn wsL_law wsX2_lowers := goodIn_r _ [94, 15, 95, 96, 97, 14, 98, 30, 99, 100, 101, 102, 31, 32, 103, 2, 104, 464, 465, 466, 467, 468, 469, 470, 471, 479, 480, 481, 482, 483] (by decide +kernel) (by decide +kernel)
set_option maxRecDepth 20000 in
theorem gL_law_X2_lowers : GoodIn wsL_law (wsV RL 27 RX2 yX2_lowers wsX2_lowers) := goodIn_app (goodIn_of _ (by decide +kernel)) ggL_law_X2_lowers
set_option maxRecDepth 20000 in
theorem ggL_law_X3_lowers : GoodIn wsL_law wsX3_lowers := goodIn_r _ [108, 109, 110, 111, 5, 112, 49, 66, 67, 68, 113, 114, 115, 116, 117, 118, 119, 472, 473, 474, 475, 476, 477, 478] (by decide +kernel) (by decide +kernel)
set_option maxRecDepth 20000 in
theorem gL_law_X3_lowers : GoodIn wsL_law (wsV RL 30 RX3 yX3_lowers wsX3_lowers) := goodIn_app (goodIn_of _ (by decide +kernel)) ggL_law_X3_lowers
set_option maxRecDepth 20000 in
theorem ggL_law_X2_off : GoodIn wsL_law wsX2_off := goodIn_r _ [123, 15, 124, 125, 126, 14, 127, 128, 96, 97, 98, 30, 129, 130, 2, 131, 132, 133, 134, 135, 136, 100, 101, 102, 31, 32, 103, 104, 464, 465, 466, 467, 468, 469, 470, 471, 479, 480, 481, 482, 483] (by decide +kernel) (by decide +kernel)
set_option maxRecDepth 20000 in
theorem gL_law_X2_off : GoodIn wsL_law (wsV RL 31 RX2 yX2_off wsX2_off) := goodIn_app (goodIn_of _ (by decide +kernel)) ggL_law_X2_off
set_option maxRecDepth 20000 in
theorem ggL_law_X3_off : GoodIn wsL_law wsX3_off := goodIn_r _ [140, 141, 142, 143, 5, 144, 66, 67, 68, 109, 110, 111, 112, 49, 145, 146, 147, 148, 149, 150, 151, 152, 153, 154, 113, 114, 115, 116, 117, 118, 119, 472, 473, 474, 475, 476, 477, 478] (by decide +kernel) (by decide +kernel)
set_option maxRecDepth 20000 in
theorem gL_law_X3_off : GoodIn wsL_law (wsV RL 34 RX3 yX3_off wsX3_off) := goodIn_app (goodIn_of _ (by decide +kernel)) ggL_law_X3_off
set_option maxRecDepth 20000 in
theorem ggL_law_X2_ways : GoodIn wsL_law wsX2_ways := goodIn_r _ [158, 15, 23, 129, 130, 2, 131, 159, 160, 161, 14, 162, 163, 164, 165, 166, 32, 167, 125, 126, 127, 128, 96, 97, 98, 30, 168, 133, 134, 135, 136, 100, 101, 102, 31, 103, 104, 464, 465, 466, 467, 468, 469, 470, 471, 479, 480, 481, 482, 483] (by decide +kernel) (by decide +kernel)
set_option maxRecDepth 20000 in
theorem gL_law_X2_ways : GoodIn wsL_law (wsV RL 35 RX2 yX2_ways wsX2_ways) := goodIn_app (goodIn_of _ (by decide +kernel)) ggL_law_X2_ways
set_option maxRecDepth 20000 in
theorem ggL_law_X3_ways : GoodIn wsL_law wsX3_ways := goodIn_r _ [172, 145, 146, 5, 147, 66, 67, 68, 173, 174, 175, 176, 177, 178, 179, 180, 49, 141, 142, 143, 144, 109, 110, 111, 112, 148, 149, 150, 151, 152, 153, 154, 113, 114, 115, 116, 117, 118, 119, 181, 182, 183, 472, 473, 474, 475, 476, 477, 478] (by decide +kernel) (by decide +kernel)
set_option maxRecDepth 20000 in
theorem gL_law_X3_ways : GoodIn wsL_law (wsV RL 38 RX3 yX3_ways wsX3_ways) := goodIn_app (goodIn_of _ (by decide +kernel)) ggL_law_X3_ways
set_option maxRecDepth 20000 in
theorem ggL_law_X2_truest : GoodIn wsL_law wsX2_truest := goodIn_r _ [187, 15, 23, 188, 189, 164, 165, 166, 129, 130, 2, 131, 159, 160, 161, 14, 162, 163, 32, 167, 125, 126, 127, 128, 96, 97, 98, 30, 168, 133, 134, 135, 136, 100, 101, 102, 31, 103, 104, 132, 464, 465, 466, 467, 468, 469, 470, 471, 479, 480, 481, 482, 483] (by decide +kernel) (by decide +kernel)
set_option maxRecDepth 20000 in
theorem gL_law_X2_truest : GoodIn wsL_law (wsV RL 39 RX2 yX2_truest wsX2_truest) := goodIn_app (goodIn_of _ (by decide +kernel)) ggL_law_X2_truest
set_option maxRecDepth 20000 in
theorem ggL_law_X3_truest : GoodIn wsL_law wsX3_truest := goodIn_r _ [193, 145, 146, 5, 147, 66, 67, 68, 177, 178, 179, 180, 49, 141, 142, 143, 144, 109, 110, 111, 112, 148, 149, 150, 151, 152, 153, 154, 113, 114, 115, 116, 117, 118, 119, 181, 182, 183, 472, 473, 474, 475, 476, 477, 478] (by decide +kernel) (by decide +kernel)
set_option maxRecDepth 20000 in
theorem gL_law_X3_truest : GoodIn wsL_law (wsV RL 42 RX3 yX3_truest wsX3_truest) := goodIn_app (goodIn_of _ (by decide +kernel)) ggL_law_X3_truest
set_option maxRecDepth 20000 in
theorem ggL_law_X2_range : GoodIn wsL_law wsX2_range := goodIn_r _ [197, 15, 23, 159, 160, 161, 14, 162, 163, 164, 165, 166, 32, 167, 125, 126, 127, 128, 96, 97, 98, 30, 168, 133, 134, 135, 136, 100, 101, 102, 31, 103, 2, 104, 464, 465, 466, 467, 468, 469, 470, 471, 479, 480, 481, 482, 483] (by decide +kernel) (by decide +kernel)
set_option maxRecDepth 20000 in
theorem gL_law_X2_range : GoodIn wsL_law (wsV RL 43 RX2 yX2_range wsX2_range) := goodIn_app (goodIn_of _ (by decide +kernel)) ggL_law_X2_range
set_option maxRecDepth 20000 in
theorem ggL_law_X3_range : GoodIn wsL_law wsX3_range := goodIn_r _ [201, 66, 67, 5, 68, 173, 174, 175, 176, 177, 178, 179, 180, 49, 141, 142, 143, 144, 109, 110, 111, 112, 148, 149, 150, 151, 152, 153, 154, 113, 114, 115, 116, 117, 118, 119, 181, 182, 183, 472, 473, 474, 475, 476, 477, 478] (by decide +kernel) (by decide +kernel)
set_option maxRecDepth 20000 in
theorem gL_law_X3_range : GoodIn wsL_law (wsV RL 46 RX3 yX3_range wsX3_range) := goodIn_app (goodIn_of _ (by decide +kernel)) ggL_law_X3_range
set_option maxRecDepth 20000 in
theorem ggL_law_X2_note : GoodIn wsL_law wsX2_note := goodIn_r _ [205, 15, 206, 207, 129, 130, 2, 131, 464, 465, 466, 467, 468, 469, 470, 471, 479, 480, 481, 482, 483] (by decide +kernel) (by decide +kernel)
set_option maxRecDepth 20000 in
theorem gL_law_X2_note : GoodIn wsL_law (wsV RL 47 RX2 yX2_note wsX2_note) := goodIn_app (goodIn_of _ (by decide +kernel)) ggL_law_X2_note
set_option maxRecDepth 20000 in
theorem ggL_law_X3_note : GoodIn wsL_law wsX3_note := goodIn_r _ [211, 49, 145, 146, 5, 147, 66, 67, 68, 472, 473, 474, 475, 476, 477, 478] (by decide +kernel) (by decide +kernel)
set_option maxRecDepth 20000 in
theorem gL_law_X3_note : GoodIn wsL_law (wsV RL 50 RX3 yX3_note wsX3_note) := goodIn_app (goodIn_of _ (by decide +kernel)) ggL_law_X3_note
set_option maxRecDepth 20000 in
theorem ggL_law_X2_set : GoodIn wsL_law wsX2_set := goodIn_r _ [215, 15, 207, 216, 217, 218, 2, 219, 206, 129, 130, 131, 464, 465, 466, 467, 468, 469, 470, 471, 479, 480, 481, 482, 483] (by decide +kernel) (by decide +kernel)
set_option maxRecDepth 20000 in
theorem gL_law_X2_set : GoodIn wsL_law (wsV RL 51 RX2 yX2_set wsX2_set) := goodIn_app (goodIn_of _ (by decide +kernel)) ggL_law_X2_set
set_option maxRecDepth 20000 in
theorem ggL_law_X3_set : GoodIn wsL_law wsX3_set := goodIn_r _ [223, 49, 224, 225, 226, 5, 227, 66, 67, 68, 145, 146, 147, 472, 473, 474, 475, 476, 477, 478] (by decide +kernel) (by decide +kernel)
set_option maxRecDepth 20000 in
theorem gL_law_X3_set : GoodIn wsL_law (wsV RL 54 RX3 yX3_set wsX3_set) := goodIn_app (goodIn_of _ (by decide +kernel)) ggL_law_X3_set
set_option maxRecDepth 20000 in
theorem ggL_law_X2_clear : GoodIn wsL_law wsX2_clear := goodIn_r _ [231, 15, 206, 464, 465, 466, 467, 468, 469, 470, 471, 479, 480, 481, 482, 483] (by decide +kernel) (by decide +kernel)
set_option maxRecDepth 20000 in
theorem gL_law_X2_clear : GoodIn wsL_law (wsV RL 55 RX2 yX2_clear wsX2_clear) := goodIn_app (goodIn_of _ (by decide +kernel)) ggL_law_X2_clear
set_option maxRecDepth 20000 in
theorem ggL_law_X3_clear : GoodIn wsL_law wsX3_clear := goodIn_r _ [235, 49, 472, 473, 474, 475, 476, 477, 478] (by decide +kernel) (by decide +kernel)
set_option maxRecDepth 20000 in
theorem gL_law_X3_clear : GoodIn wsL_law (wsV RL 59 RX3 yX3_clear wsX3_clear) := goodIn_app (goodIn_of _ (by decide +kernel)) ggL_law_X3_clear
set_option maxRecDepth 20000 in
theorem ggL_law_X2_effort : GoodIn wsL_law wsX2_effort := goodIn_r _ [239, 15, 124, 125, 126, 14, 127, 128, 96, 97, 98, 30, 240, 241, 242, 243, 163, 164, 165, 166, 32, 244, 245, 246, 247, 248, 249, 250, 464, 465, 466, 467, 468, 469, 470, 471, 479, 480, 481, 482, 483] (by decide +kernel) (by decide +kernel)
set_option maxRecDepth 20000 in
theorem gL_law_X2_effort : GoodIn wsL_law (wsV RL 60 RX2 yX2_effort wsX2_effort) := goodIn_app (goodIn_of _ (by decide +kernel)) ggL_law_X2_effort
set_option maxRecDepth 20000 in
theorem ggL_law_X3_effort : GoodIn wsL_law wsX3_effort := goodIn_r _ [254, 141, 142, 143, 5, 144, 66, 67, 68, 109, 110, 111, 112, 49, 255, 256, 257, 258, 117, 118, 119, 181, 182, 183, 472, 473, 474, 475, 476, 477, 478] (by decide +kernel) (by decide +kernel)
set_option maxRecDepth 20000 in
theorem gL_law_X3_effort : GoodIn wsL_law (wsV RL 63 RX3 yX3_effort wsX3_effort) := goodIn_app (goodIn_of _ (by decide +kernel)) ggL_law_X3_effort
set_option maxRecDepth 20000 in
theorem ggL_law_X2_least : GoodIn wsL_law wsX2_least := goodIn_r _ [262, 15, 206, 21, 263, 264, 265, 20, 266, 267, 38, 39, 268, 40, 269, 160, 161, 14, 162, 163, 164, 165, 166, 32, 167, 125, 126, 127, 128, 96, 97, 98, 30, 168, 133, 134, 135, 136, 100, 101, 102, 31, 103, 2, 104, 270, 271, 272, 273, 274, 42, 44, 41, 275, 241, 242, 243, 244, 245, 246, 247, 248, 249, 250, 276, 277, 278, 279, 280, 281, 282, 283, 284, 285, 286, 287, 288, 289, 290, 291, 292, 293, 294, 295, 296, 297, 298, 299, 300, 301, 302, 303, 304, 305, 306, 307, 308, 309, 310, 311, 464, 465, 466, 467, 468, 469, 470, 471, 479, 480, 481, 482, 483, 484, 485, 486, 487, 488, 489] (by decide +kernel) (by decide +kernel)
set_option maxRecDepth 20000 in
theorem gL_law_X2_least : GoodIn wsL_law (wsV RL 64 RX2 yX2_least wsX2_least) := goodIn_app (goodIn_of _ (by decide +kernel)) ggL_law_X2_least
set_option maxRecDepth 20000 in
theorem ggL_law_X3_least : GoodIn wsL_law wsX3_least := goodIn_r _ [315, 49, 53, 316, 317, 318, 5, 319, 54, 320, 321, 322, 323, 324, 325, 326, 177, 178, 179, 180, 141, 142, 143, 144, 66, 67, 68, 109, 110, 111, 112, 148, 149, 150, 151, 152, 153, 154, 113, 114, 115, 116, 117, 118, 119, 181, 182, 183, 327, 328, 329, 330, 55, 331, 332, 333, 334, 255, 256, 257, 258, 335, 336, 337, 338, 339, 340, 341, 342, 472, 473, 474, 475, 476, 477, 478] (by decide +kernel) (by decide +kernel)
set_option maxRecDepth 20000 in
theorem gL_law_X3_least : GoodIn wsL_law (wsV RL 67 RX3 yX3_least wsX3_least) := goodIn_app (goodIn_of _ (by decide +kernel)) ggL_law_X3_least
set_option maxRecDepth 20000 in
theorem ggL_law_X2_plans : GoodIn wsL_law wsX2_plans := goodIn_r _ [346, 347, 21, 15, 348, 263, 264, 265, 20, 266, 267, 38, 39, 268, 40, 269, 160, 161, 14, 162, 163, 164, 165, 166, 32, 167, 125, 126, 127, 128, 96, 97, 98, 30, 168, 133, 134, 135, 136, 100, 101, 102, 31, 103, 2, 104, 270, 271, 272, 273, 274, 42, 44, 41, 275, 241, 242, 243, 244, 245, 246, 247, 248, 249, 250, 276, 277, 278, 279, 349, 285, 286, 287, 350, 351, 352, 353, 354, 281, 282, 283, 284, 303, 289, 290, 291, 292, 293, 294, 216, 217, 218, 219, 206, 280, 355, 356, 357, 358, 299, 300, 301, 302, 307, 308, 309, 310, 311, 464, 465, 466, 467, 468, 469, 470, 471, 479, 480, 481, 482, 483, 484, 485, 486, 487, 488, 489] (by decide +kernel) (by decide +kernel)
set_option maxRecDepth 20000 in
theorem gL_law_X2_plans : GoodIn wsL_law (wsV RL 68 RX2 yX2_plans wsX2_plans) := goodIn_app (goodIn_of _ (by decide +kernel)) ggL_law_X2_plans
set_option maxRecDepth 20000 in
theorem ggL_law_X3_plans : GoodIn wsL_law wsX3_plans := goodIn_r _ [362, 363, 364, 49, 54, 53, 55, 66, 67, 5, 68, 316, 317, 318, 319, 320, 321, 322, 323, 324, 325, 326, 177, 178, 179, 180, 141, 142, 143, 144, 109, 110, 111, 112, 148, 149, 150, 151, 152, 153, 154, 113, 114, 115, 116, 117, 118, 119, 181, 182, 183, 327, 328, 329, 330, 331, 332, 333, 334, 255, 256, 257, 258, 335, 336, 337, 338, 365, 366, 367, 368, 56, 369, 370, 371, 372, 224, 225, 226, 227, 373, 374, 375, 376, 472, 473, 474, 475, 476, 477, 478] (by decide +kernel) (by decide +kernel)
set_option maxRecDepth 20000 in
theorem gL_law_X3_plans : GoodIn wsL_law (wsV RL 72 RX3 yX3_plans wsX3_plans) := goodIn_app (goodIn_of _ (by decide +kernel)) ggL_law_X3_plans
set_option maxRecDepth 20000 in
theorem ggL_law_X2_dumb : GoodIn wsL_law wsX2_dumb := goodIn_r _ [380, 15, 206, 207, 23, 159, 160, 161, 14, 162, 163, 164, 165, 166, 32, 167, 125, 126, 127, 128, 96, 97, 98, 30, 168, 133, 134, 135, 136, 100, 101, 102, 31, 103, 2, 104, 464, 465, 466, 467, 468, 469, 470, 471, 479, 480, 481, 482, 483] (by decide +kernel) (by decide +kernel)
set_option maxRecDepth 20000 in
theorem gL_law_X2_dumb : GoodIn wsL_law (wsV RL 73 RX2 yX2_dumb wsX2_dumb) := goodIn_app (goodIn_of _ (by decide +kernel)) ggL_law_X2_dumb
set_option maxRecDepth 20000 in
theorem ggL_law_X3_dumb : GoodIn wsL_law wsX3_dumb := goodIn_r _ [384, 49, 173, 174, 175, 5, 176, 177, 178, 179, 180, 141, 142, 143, 144, 66, 67, 68, 109, 110, 111, 112, 148, 149, 150, 151, 152, 153, 154, 113, 114, 115, 116, 117, 118, 119, 181, 182, 183, 472, 473, 474, 475, 476, 477, 478] (by decide +kernel) (by decide +kernel)
set_option maxRecDepth 20000 in
theorem gL_law_X3_dumb : GoodIn wsL_law (wsV RL 76 RX3 yX3_dumb wsX3_dumb) := goodIn_app (goodIn_of _ (by decide +kernel)) ggL_law_X3_dumb
set_option maxRecDepth 20000 in
theorem ggL_law_X2_trill : GoodIn wsL_law wsX2_trill := goodIn_r _ [388, 129, 130, 2, 131, 389, 390, 391, 392, 15, 23, 24, 188, 393, 293, 165, 294, 159, 160, 161, 14, 162, 163, 164, 166, 32, 167, 125, 126, 127, 128, 96, 97, 98, 30, 168, 133, 134, 135, 136, 100, 101, 102, 31, 103, 104, 240, 241, 242, 243, 244, 245, 246, 247, 248, 249, 250, 464, 465, 466, 467, 468, 469, 470, 471, 479, 480, 481, 482, 483] (by decide +kernel) (by decide +kernel)
set_option maxRecDepth 20000 in
theorem gL_law_X2_trill : GoodIn wsL_law (wsV RL 77 RX2 yX2_trill wsX2_trill) := goodIn_app (goodIn_of _ (by decide +kernel)) ggL_law_X2_trill
set_option maxRecDepth 20000 in
theorem ggL_law_X3_trill : GoodIn wsL_law wsX3_trill := goodIn_r _ [397, 145, 146, 5, 147, 66, 67, 68, 398, 399, 400, 401, 177, 178, 179, 180, 49, 141, 142, 143, 144, 109, 110, 111, 112, 148, 149, 150, 151, 152, 153, 154, 113, 114, 115, 116, 117, 118, 119, 181, 182, 183, 255, 256, 257, 258, 472, 473, 474, 475, 476, 477, 478] (by decide +kernel) (by decide +kernel)
set_option maxRecDepth 20000 in
theorem gL_law_X3_trill : GoodIn wsL_law (wsV RL 80 RX3 yX3_trill wsX3_trill) := goodIn_app (goodIn_of _ (by decide +kernel)) ggL_law_X3_trill
set_option maxRecDepth 20000 in
theorem ggL_law_X2_awkward : GoodIn wsL_law wsX2_awkward := goodIn_r _ [405, 389, 390, 391, 2, 392, 15, 23, 24, 188, 393, 293, 165, 294, 159, 160, 161, 14, 162, 163, 164, 166, 32, 167, 125, 126, 127, 128, 96, 97, 98, 30, 168, 133, 134, 135, 136, 100, 101, 102, 31, 103, 104, 240, 241, 242, 243, 244, 245, 246, 247, 248, 249, 250, 464, 465, 466, 467, 468, 469, 470, 471, 479, 480, 481, 482, 483] (by decide +kernel) (by decide +kernel)
set_option maxRecDepth 20000 in
theorem gL_law_X2_awkward : GoodIn wsL_law (wsV RL 81 RX2 yX2_awkward wsX2_awkward) := goodIn_app (goodIn_of _ (by decide +kernel)) ggL_law_X2_awkward
set_option maxRecDepth 20000 in
theorem ggL_law_X3_awkward : GoodIn wsL_law wsX3_awkward := goodIn_r _ [409, 66, 67, 5, 68, 398, 399, 400, 401, 177, 178, 179, 180, 49, 141, 142, 143, 144, 109, 110, 111, 112, 148, 149, 150, 151, 152, 153, 154, 113, 114, 115, 116, 117, 118, 119, 181, 182, 183, 255, 256, 257, 258, 472, 473, 474, 475, 476, 477, 478] (by decide +kernel) (by decide +kernel)
set_option maxRecDepth 20000 in
theorem gL_law_X3_awkward : GoodIn wsL_law (wsV RL 84 RX3 yX3_awkward wsX3_awkward) := goodIn_app (goodIn_of _ (by decide +kernel)) ggL_law_X3_awkward
set_option maxRecDepth 20000 in
theorem ggL_law_X2_tune : GoodIn wsL_law wsX2_tune := goodIn_r _ [413, 15, 61, 74, 75, 2, 76, 414, 415, 416, 417, 25, 73, 26, 86, 206, 207, 418, 103, 104, 419, 420, 421, 422, 188, 423, 189, 164, 165, 166, 393, 293, 294, 464, 465, 466, 467, 468, 469, 470, 471, 479, 480, 481, 482, 483] (by decide +kernel) (by decide +kernel)
set_option maxRecDepth 20000 in
theorem gL_law_X2_tune : GoodIn wsL_law (wsV RL 85 RX2 yX2_tune wsX2_tune) := goodIn_app (goodIn_of _ (by decide +kernel)) ggL_law_X2_tune
set_option maxRecDepth 20000 in
theorem ggL_law_X3_tune : GoodIn wsL_law wsX3_tune := goodIn_r _ [427, 49, 66, 67, 5, 68, 428, 429, 430, 431, 148, 149, 150, 151, 152, 153, 154, 113, 114, 115, 116, 117, 118, 119, 181, 182, 183, 472, 473, 474, 475, 476, 477, 478] (by decide +kernel) (by decide +kernel)
set_option maxRecDepth 20000 in
theorem gL_law_X3_tune : GoodIn wsL_law (wsV RL 88 RX3 yX3_tune wsX3_tune) := goodIn_app (goodIn_of _ (by decide +kernel)) ggL_law_X3_tune
set_option maxRecDepth 20000 in
theorem ggL_law_X2_image : GoodIn wsL_law wsX2_image := goodIn_r _ [435, 16, 15, 17, 436, 437, 438, 14, 439, 30, 34, 31, 440, 441, 442, 443, 32, 33, 464, 465, 466, 467, 468, 469, 470, 471, 479, 480, 481, 482, 483] (by decide +kernel) (by decide +kernel)
set_option maxRecDepth 20000 in
theorem gL_law_X2_image : GoodIn wsL_law (wsV RL 89 RX2 yX2_image wsX2_image) := goodIn_app (goodIn_of _ (by decide +kernel)) ggL_law_X2_image
set_option maxRecDepth 20000 in
theorem ggL_law_X3_image : GoodIn wsL_law wsX3_image := goodIn_r _ [447, 50, 49, 52, 66, 67, 5, 68, 472, 473, 474, 475, 476, 477, 478] (by decide +kernel) (by decide +kernel)
set_option maxRecDepth 20000 in
theorem gL_law_X3_image : GoodIn wsL_law (wsV RL 92 RX3 yX3_image wsX3_image) := goodIn_app (goodIn_of _ (by decide +kernel)) ggL_law_X3_image
set_option maxRecDepth 20000 in
theorem ggL_law_X2_restore : GoodIn wsL_law wsX2_restore := goodIn_r _ [451, 17, 15, 16, 436, 437, 438, 14, 439, 30, 34, 31, 440, 441, 442, 443, 32, 33, 464, 465, 466, 467, 468, 469, 470, 471, 479, 480, 481, 482, 483] (by decide +kernel) (by decide +kernel)
set_option maxRecDepth 20000 in
theorem gL_law_X2_restore : GoodIn wsL_law (wsV RL 93 RX2 yX2_restore wsX2_restore) := goodIn_app (goodIn_of _ (by decide +kernel)) ggL_law_X2_restore
set_option maxRecDepth 20000 in
theorem ggL_law_X3_restore : GoodIn wsL_law wsX3_restore := goodIn_r _ [455, 52, 49, 50, 66, 67, 5, 68, 472, 473, 474, 475, 476, 477, 478] (by decide +kernel) (by decide +kernel)
set_option maxRecDepth 20000 in
theorem gL_law_X3_restore : GoodIn wsL_law (wsV RL 96 RX3 yX3_restore wsX3_restore) := goodIn_app (goodIn_of _ (by decide +kernel)) ggL_law_X3_restore
set_option maxRecDepth 20000 in
theorem ggL_law_X2_count : GoodIn wsL_law wsX2_count := goodIn_r _ [459, 15, 61, 206, 17, 86, 73, 207, 216, 217, 218, 2, 219, 464, 465, 466, 467, 468, 469, 470, 471, 479, 480, 481, 482, 483] (by decide +kernel) (by decide +kernel)
set_option maxRecDepth 20000 in
theorem gL_law_X2_count : GoodIn wsL_law (wsV RL 97 RX2 yX2_count wsX2_count) := goodIn_app (goodIn_of _ (by decide +kernel)) ggL_law_X2_count
set_option maxRecDepth 20000 in
theorem ggL_law_X3_count : GoodIn wsL_law wsX3_count := goodIn_r _ [463, 49, 52, 66, 67, 5, 68, 224, 225, 226, 227, 472, 473, 474, 475, 476, 477, 478] (by decide +kernel) (by decide +kernel)
set_option maxRecDepth 20000 in
theorem gL_law_X3_count : GoodIn wsL_law (wsV RL 100 RX3 yX3_count wsX3_count) := goodIn_app (goodIn_of _ (by decide +kernel)) ggL_law_X3_count
theorem dL_law_0 : decode cL_law 0 = .ok (.new 7, 3) := by decide +kernel
theorem dL_law_3 : decode cL_law 3 = .ok (.dup, 1) := by decide +kernel
theorem dL_law_4 : decode cL_law 4 = .ok (.invokespecial 9, 3) := by decide +kernel
theorem dL_law_7 : decode cL_law 7 = .ok (.astore_n 1, 1) := by decide +kernel
theorem dL_law_8 : decode cL_law 8 = .ok (.new 10, 3) := by decide +kernel
theorem dL_law_11 : decode cL_law 11 = .ok (.dup, 1) := by decide +kernel
theorem dL_law_12 : decode cL_law 12 = .ok (.invokespecial 12, 3) := by decide +kernel
theorem dL_law_15 : decode cL_law 15 = .ok (.astore_n 2, 1) := by decide +kernel
theorem dL_law_16 : decode cL_law 16 = .ok (.iconst 0, 1) := by decide +kernel
theorem dL_law_17 : decode cL_law 17 = .ok (.istore_n 3, 1) := by decide +kernel
theorem dL_law_18 : decode cL_law 18 = .ok (.iload_n 3, 1) := by decide +kernel
theorem dL_law_19 : decode cL_law 19 = .ok (.aload_n 0, 1) := by decide +kernel
theorem dL_law_20 : decode cL_law 20 = .ok (.arraylength, 1) := by decide +kernel
theorem dL_law_21 : decode cL_law 21 = .ok (.iconst 3, 1) := by decide +kernel
theorem dL_law_22 : decode cL_law 22 = .ok (.isub, 1) := by decide +kernel
theorem dL_law_23 : decode cL_law 23 = .ok (.if_icmp .gt 669, 3) := by decide +kernel
theorem dL_law_26 : decode cL_law 26 = .ok (.aload_n 0, 1) := by decide +kernel
theorem dL_law_27 : decode cL_law 27 = .ok (.iload_n 3, 1) := by decide +kernel
theorem dL_law_28 : decode cL_law 28 = .ok (.iaload, 1) := by decide +kernel
theorem dL_law_29 : decode cL_law 29 = .ok (.bipush 31, 2) := by decide +kernel
theorem dL_law_31 : decode cL_law 31 = .ok (.iand, 1) := by decide +kernel
theorem dL_law_32 : decode cL_law 32 = .ok (.tableswitch 654 0 20 #[100, 123, 156, 189, 212, 245, 278, 301, 324, 347, 380, 393, 426, 449, 473, 486, 519, 552, 585, 608, 631], 100) := by decide +kernel
theorem dL_law_132 : decode cL_law 132 = .ok (.aload_n 1, 1) := by decide +kernel
theorem dL_law_133 : decode cL_law 133 = .ok (.aload_n 0, 1) := by decide +kernel
theorem dL_law_134 : decode cL_law 134 = .ok (.iload_n 3, 1) := by decide +kernel
theorem dL_law_135 : decode cL_law 135 = .ok (.iconst 1, 1) := by decide +kernel
theorem dL_law_136 : decode cL_law 136 = .ok (.iadd, 1) := by decide +kernel
theorem dL_law_137 : decode cL_law 137 = .ok (.iaload, 1) := by decide +kernel
theorem dL_law_138 : decode cL_law 138 = .ok (.invokevirtual 13, 3) := by decide +kernel
theorem dL_law_141 : decode cL_law 141 = .ok (.aload_n 2, 1) := by decide +kernel
theorem dL_law_142 : decode cL_law 142 = .ok (.aload_n 0, 1) := by decide +kernel
theorem dL_law_143 : decode cL_law 143 = .ok (.iload_n 3, 1) := by decide +kernel
theorem dL_law_144 : decode cL_law 144 = .ok (.iconst 1, 1) := by decide +kernel
theorem dL_law_145 : decode cL_law 145 = .ok (.iadd, 1) := by decide +kernel
theorem dL_law_146 : decode cL_law 146 = .ok (.iaload, 1) := by decide +kernel
theorem dL_law_147 : decode cL_law 147 = .ok (.invokevirtual 17, 3) := by decide +kernel
theorem dL_law_150 : decode cL_law 150 = .ok (.if_icmp .eq 536, 3) := by decide +kernel
theorem dL_law_153 : decode cL_law 153 = .ok (.iconst 0, 1) := by decide +kernel
theorem dL_law_154 : decode cL_law 154 = .ok (.ireturn, 1) := by decide +kernel
theorem dL_law_155 : decode cL_law 155 = .ok (.aload_n 1, 1) := by decide +kernel
theorem dL_law_156 : decode cL_law 156 = .ok (.aload_n 0, 1) := by decide +kernel
theorem dL_law_157 : decode cL_law 157 = .ok (.iload_n 3, 1) := by decide +kernel
theorem dL_law_158 : decode cL_law 158 = .ok (.iconst 1, 1) := by decide +kernel
theorem dL_law_159 : decode cL_law 159 = .ok (.iadd, 1) := by decide +kernel
