set_option maxRecDepth 20000 in
theorem ggL_law_X6_init : GoodIn wsL_law wsX6_init := goodIn_r _ [9, 10, 11, 12, 13, 14, 15, 16, 17, 18, 19, 20, 21, 22, 23, 24, 25, 26, 27, 28, 29, 30, 31, 32, 33, 34, 35, 36, 37, 38, 39, 40, 41, 42, 43, 44, 45, 46, 47, 48, 49, 50, 51, 52, 53, 54, 55, 771, 772, 773, 774, 754, 755, 756, 757, 758, 775, 776, 777, 778, 779, 780, 781, 782, 783, 784, 785, 786] (by decide +kernel) (by decide +kernel)
set_option maxRecDepth 20000 in
theorem gL_law_X6_init : GoodIn wsL_law (wsX6_init) := ggL_law_X6_init
set_option maxRecDepth 20000 in
theorem ggL_law_X7_init : GoodIn wsL_law wsX7_init := goodIn_r _ [58, 59, 11, 12, 21, 60, 61, 62, 63, 64, 65, 66, 67, 68, 759, 760, 761, 762, 763, 764, 765, 766, 767, 768, 769, 770] (by decide +kernel) (by decide +kernel)
set_option maxRecDepth 20000 in
theorem gL_law_X7_init : GoodIn wsL_law (wsX7_init) := ggL_law_X7_init
set_option maxRecDepth 20000 in
theorem ggL_law_X6_sixty : GoodIn wsL_law wsX6_sixty := goodIn_r _ [72, 73, 74, 75, 76, 77, 78, 79, 80, 81, 82] (by decide +kernel) (by decide +kernel)
set_option maxRecDepth 20000 in
theorem gL_law_X6_sixty : GoodIn wsL_law (wsV RL 15 RX6 yX6_sixty wsX6_sixty) := goodIn_app (goodIn_of _ (by decide +kernel)) ggL_law_X6_sixty
set_option maxRecDepth 20000 in
theorem ggL_law_X7_sixty : GoodIn wsL_law wsX7_sixty := goodIn_r _ [86, 87, 88, 89, 5, 90, 91, 92, 93, 94, 95, 96, 97, 98] (by decide +kernel) (by decide +kernel)
set_option maxRecDepth 20000 in
theorem gL_law_X7_sixty : GoodIn wsL_law (wsV RL 19 RX7 yX7_sixty wsX7_sixty) := goodIn_app (goodIn_of _ (by decide +kernel)) ggL_law_X7_sixty
set_option maxRecDepth 20000 in
theorem ggL_law_X6_digit : GoodIn wsL_law wsX6_digit := goodIn_r _ [102, 74, 75, 76, 77, 78, 79, 80, 81, 82, 103, 104, 105, 106, 107, 108] (by decide +kernel) (by decide +kernel)
set_option maxRecDepth 20000 in
theorem gL_law_X6_digit : GoodIn wsL_law (wsV RL 20 RX6 yX6_digit wsX6_digit) := goodIn_app (goodIn_of _ (by decide +kernel)) ggL_law_X6_digit
set_option maxRecDepth 20000 in
theorem ggL_law_X7_digit : GoodIn wsL_law wsX7_digit := goodIn_r _ [112, 88, 89, 5, 90, 91, 92, 93, 94, 95, 96, 97, 98, 113, 114, 115, 116, 117, 118, 119, 120, 121] (by decide +kernel) (by decide +kernel)
set_option maxRecDepth 20000 in
theorem gL_law_X7_digit : GoodIn wsL_law (wsV RL 24 RX7 yX7_digit wsX7_digit) := goodIn_app (goodIn_of _ (by decide +kernel)) ggL_law_X7_digit
set_option maxRecDepth 20000 in
theorem ggL_law_X6_sight : GoodIn wsL_law wsX6_sight := goodIn_r _ [125, 74, 75, 76, 77, 78, 103, 104, 105, 82, 106, 107, 108] (by decide +kernel) (by decide +kernel)
set_option maxRecDepth 20000 in
theorem gL_law_X6_sight : GoodIn wsL_law (wsV RL 25 RX6 yX6_sight wsX6_sight) := goodIn_app (goodIn_of _ (by decide +kernel)) ggL_law_X6_sight
set_option maxRecDepth 20000 in
theorem ggL_law_X7_sight : GoodIn wsL_law wsX7_sight := goodIn_r _ [129, 88, 89, 5, 90, 91, 92, 93, 94, 130, 131, 132, 113, 114, 115, 98, 116, 117, 118, 119, 120, 121] (by decide +kernel) (by decide +kernel)
set_option maxRecDepth 20000 in
theorem gL_law_X7_sight : GoodIn wsL_law (wsV RL 28 RX7 yX7_sight wsX7_sight) := goodIn_app (goodIn_of _ (by decide +kernel)) ggL_law_X7_sight
set_option maxRecDepth 20000 in
theorem ggL_law_X6_like : GoodIn wsL_law wsX6_like := goodIn_r _ [136, 73, 137, 74, 75, 76, 77, 78, 138, 139, 140, 82, 141, 142, 143, 144, 145, 146, 147, 148, 149, 150, 151, 80, 81] (by decide +kernel) (by decide +kernel)
set_option maxRecDepth 20000 in
theorem gL_law_X6_like : GoodIn wsL_law (wsV RL 29 RX6 yX6_like wsX6_like) := goodIn_app (goodIn_of _ (by decide +kernel)) ggL_law_X6_like
set_option maxRecDepth 20000 in
theorem ggL_law_X7_like : GoodIn wsL_law wsX7_like := goodIn_r _ [155, 156, 87, 157, 88, 89, 5, 90, 91, 92, 93, 94, 158, 159, 160, 161, 130, 131, 132, 113, 114, 115, 98, 116, 117, 118, 119, 120, 121] (by decide +kernel) (by decide +kernel)
set_option maxRecDepth 20000 in
theorem gL_law_X7_like : GoodIn wsL_law (wsV RL 33 RX7 yX7_like wsX7_like) := goodIn_app (goodIn_of _ (by decide +kernel)) ggL_law_X7_like
set_option maxRecDepth 20000 in
theorem ggL_law_X6_put : GoodIn wsL_law wsX6_put := goodIn_r _ [165, 73, 166, 167, 74, 75, 76, 77, 78, 168, 169, 170, 171, 82, 79, 80, 81] (by decide +kernel) (by decide +kernel)
set_option maxRecDepth 20000 in
theorem gL_law_X6_put : GoodIn wsL_law (wsV RL 34 RX6 yX6_put wsX6_put) := goodIn_app (goodIn_of _ (by decide +kernel)) ggL_law_X6_put
set_option maxRecDepth 20000 in
theorem ggL_law_X7_put : GoodIn wsL_law wsX7_put := goodIn_r _ [175, 176, 177, 87, 178, 179, 88, 89, 5, 90, 91, 92, 93, 94, 119, 120, 121, 98, 95, 96, 97] (by decide +kernel) (by decide +kernel)
set_option maxRecDepth 20000 in
theorem gL_law_X7_put : GoodIn wsL_law (wsV RL 38 RX7 yX7_put wsX7_put) := goodIn_app (goodIn_of _ (by decide +kernel)) ggL_law_X7_put
set_option maxRecDepth 20000 in
theorem ggL_law_X6_even : GoodIn wsL_law wsX6_even := goodIn_r _ [183, 74, 75, 76, 77, 78, 184, 185, 186, 187, 188, 189, 190] (by decide +kernel) (by decide +kernel)
set_option maxRecDepth 20000 in
theorem gL_law_X6_even : GoodIn wsL_law (wsV RL 39 RX6 yX6_even wsX6_even) := goodIn_app (goodIn_of _ (by decide +kernel)) ggL_law_X6_even
set_option maxRecDepth 20000 in
theorem ggL_law_X7_even : GoodIn wsL_law wsX7_even := goodIn_r _ [194, 88, 89, 5, 90, 91, 92, 93, 94, 195, 196, 197] (by decide +kernel) (by decide +kernel)
set_option maxRecDepth 20000 in
theorem gL_law_X7_even : GoodIn wsL_law (wsV RL 43 RX7 yX7_even wsX7_even) := goodIn_app (goodIn_of _ (by decide +kernel)) ggL_law_X7_even
set_option maxRecDepth 20000 in
theorem ggL_law_X6_turned : GoodIn wsL_law wsX6_turned := goodIn_r _ [201, 73, 202, 166, 167, 74, 75, 76, 77, 78, 184, 185, 186, 187, 188, 189, 190, 203, 204, 205, 206, 207, 208, 209, 210, 211, 212, 213, 214, 215, 216, 217, 218, 219] (by decide +kernel) (by decide +kernel)
set_option maxRecDepth 20000 in
theorem gL_law_X6_turned : GoodIn wsL_law (wsV RL 44 RX6 yX6_turned wsX6_turned) := goodIn_app (goodIn_of _ (by decide +kernel)) ggL_law_X6_turned
set_option maxRecDepth 20000 in
theorem ggL_law_X7_turned : GoodIn wsL_law wsX7_turned := goodIn_r _ [223, 87, 224, 179, 88, 89, 5, 90, 91, 92, 93, 94, 195, 196, 197, 225, 226, 227, 178, 161, 95, 96, 97, 98, 228, 229, 230] (by decide +kernel) (by decide +kernel)
set_option maxRecDepth 20000 in
theorem gL_law_X7_turned : GoodIn wsL_law (wsV RL 47 RX7 yX7_turned wsX7_turned) := goodIn_app (goodIn_of _ (by decide +kernel)) ggL_law_X7_turned
set_option maxRecDepth 20000 in
theorem ggL_law_X6_list : GoodIn wsL_law wsX6_list := goodIn_r _ [234, 235, 236, 186, 237, 238, 239, 240, 241] (by decide +kernel) (by decide +kernel)
set_option maxRecDepth 20000 in
theorem gL_law_X6_list : GoodIn wsL_law (wsV RL 48 RX6 yX6_list wsX6_list) := goodIn_app (goodIn_of _ (by decide +kernel)) ggL_law_X6_list
set_option maxRecDepth 20000 in
theorem ggL_law_X7_list : GoodIn wsL_law wsX7_list := goodIn_r _ [245, 246, 247, 5, 248, 249, 250, 251, 252, 253, 98, 92, 93, 94, 195, 196, 197] (by decide +kernel) (by decide +kernel)
set_option maxRecDepth 20000 in
theorem gL_law_X7_list : GoodIn wsL_law (wsV RL 52 RX7 yX7_list wsX7_list) := goodIn_app (goodIn_of _ (by decide +kernel)) ggL_law_X7_list
set_option maxRecDepth 20000 in
theorem ggL_law_X6_factor : GoodIn wsL_law wsX6_factor := goodIn_r _ [257, 74, 75, 76, 77, 78, 184, 185, 186, 187, 188, 189, 190, 79, 80, 81, 82, 258, 259, 260, 238] (by decide +kernel) (by decide +kernel)
set_option maxRecDepth 20000 in
theorem gL_law_X6_factor : GoodIn wsL_law (wsV RL 53 RX6 yX6_factor wsX6_factor) := goodIn_app (goodIn_of _ (by decide +kernel)) ggL_law_X6_factor
set_option maxRecDepth 20000 in
theorem ggL_law_X7_factor : GoodIn wsL_law wsX7_factor := goodIn_r _ [264, 88, 89, 5, 90, 91, 92, 93, 94, 195, 196, 197, 95, 96, 97, 98, 249, 250, 251, 252, 253] (by decide +kernel) (by decide +kernel)
set_option maxRecDepth 20000 in
theorem gL_law_X7_factor : GoodIn wsL_law (wsV RL 56 RX7 yX7_factor wsX7_factor) := goodIn_app (goodIn_of _ (by decide +kernel)) ggL_law_X7_factor
set_option maxRecDepth 20000 in
theorem ggL_law_X6_root : GoodIn wsL_law wsX6_root := goodIn_r _ [268, 73, 166, 167, 269, 74, 75, 76, 77, 78, 270, 271, 272, 273, 274] (by decide +kernel) (by decide +kernel)
set_option maxRecDepth 20000 in
theorem gL_law_X6_root : GoodIn wsL_law (wsV RL 57 RX6 yX6_root wsX6_root) := goodIn_app (goodIn_of _ (by decide +kernel)) ggL_law_X6_root
set_option maxRecDepth 20000 in
theorem ggL_law_X7_root : GoodIn wsL_law wsX7_root := goodIn_r _ [278, 279, 87, 179, 88, 89, 5, 90, 91, 92, 93, 94, 119, 120, 121, 98, 280, 281, 282, 283, 252] (by decide +kernel) (by decide +kernel)
set_option maxRecDepth 20000 in
theorem gL_law_X7_root : GoodIn wsL_law (wsV RL 61 RX7 yX7_root wsX7_root) := goodIn_app (goodIn_of _ (by decide +kernel)) ggL_law_X7_root
set_option maxRecDepth 20000 in
theorem ggL_law_X6_times : GoodIn wsL_law wsX6_times := goodIn_r _ [287, 288, 16, 289, 290, 291, 15, 292, 35, 293, 104, 76, 105, 82, 294, 107, 108, 295, 296, 297, 298, 32, 33, 34, 299, 300, 301, 302, 754, 755, 756, 757, 758, 771, 772, 773, 774] (by decide +kernel) (by decide +kernel)
set_option maxRecDepth 20000 in
theorem gL_law_X6_times : GoodIn wsL_law (wsV RL 62 RX6 yX6_times wsX6_times) := goodIn_app (goodIn_of _ (by decide +kernel)) ggL_law_X6_times
set_option maxRecDepth 20000 in
theorem ggL_law_X7_times_ : GoodIn wsL_law wsX7_times_ := goodIn_r _ [306, 307, 308, 62, 63, 60, 61, 309, 310, 5, 311, 312, 92, 93, 94, 116, 117, 118, 98, 119, 120, 121, 759, 760, 761, 762, 763, 764, 765, 766, 767, 768, 769, 770] (by decide +kernel) (by decide +kernel)
set_option maxRecDepth 20000 in
theorem gL_law_X7_times_ : GoodIn wsL_law (wsV RL 66 RX7 yX7_times_ wsX7_times_) := goodIn_app (goodIn_of _ (by decide +kernel)) ggL_law_X7_times_
set_option maxRecDepth 20000 in
theorem ggL_law_X6_line : GoodIn wsL_law wsX6_line := goodIn_r _ [316, 16, 317, 318, 319, 15, 320, 35, 321, 322, 323, 324, 325, 326, 327, 328, 32, 329, 330, 331, 332, 333, 33, 334, 335, 336, 337, 34, 338, 339, 754, 755, 756, 757, 758, 771, 772, 773, 774] (by decide +kernel) (by decide +kernel)
set_option maxRecDepth 20000 in
theorem gL_law_X6_line : GoodIn wsL_law (wsV RL 67 RX6 yX6_line wsX6_line) := goodIn_app (goodIn_of _ (by decide +kernel)) ggL_law_X6_line
set_option maxRecDepth 20000 in
theorem ggL_law_X7_line : GoodIn wsL_law wsX7_line := goodIn_r _ [343, 60, 61, 62, 63, 344, 345, 346, 5, 347, 308, 92, 93, 94, 759, 760, 761, 762, 763, 764, 765, 766, 767, 768, 769, 770] (by decide +kernel) (by decide +kernel)
set_option maxRecDepth 20000 in
theorem gL_law_X7_line : GoodIn wsL_law (wsV RL 71 RX7 yX7_line wsX7_line) := goodIn_app (goodIn_of _ (by decide +kernel)) ggL_law_X7_line
set_option maxRecDepth 20000 in
theorem ggL_law_X6_sum : GoodIn wsL_law wsX6_sum := goodIn_r _ [351, 16, 352, 317, 318, 319, 15, 320, 35, 353, 354, 355, 356, 357, 358, 359, 360, 361, 322, 323, 324, 325, 326, 327, 328, 32, 329, 330, 331, 332, 333, 33, 362, 335, 336, 337, 34, 363, 364, 76, 365, 82, 754, 755, 756, 757, 758, 771, 772, 773, 774] (by decide +kernel) (by decide +kernel)
set_option maxRecDepth 20000 in
theorem gL_law_X6_sum : GoodIn wsL_law (wsV RL 72 RX6 yX6_sum wsX6_sum) := goodIn_app (goodIn_of _ (by decide +kernel)) ggL_law_X6_sum
set_option maxRecDepth 20000 in
theorem ggL_law_X7_sum : GoodIn wsL_law wsX7_sum := goodIn_r _ [369, 370, 344, 345, 346, 5, 347, 308, 92, 93, 94, 371, 372, 373, 374, 375, 376, 377, 378, 60, 61, 119, 120, 121, 98, 759, 760, 761, 762, 763, 764, 765, 766, 767, 768, 769, 770] (by decide +kernel) (by decide +kernel)
set_option maxRecDepth 20000 in
theorem gL_law_X7_sum : GoodIn wsL_law (wsV RL 76 RX7 yX7_sum wsX7_sum) := goodIn_app (goodIn_of _ (by decide +kernel)) ggL_law_X7_sum
set_option maxRecDepth 20000 in
theorem ggL_law_X6_slip : GoodIn wsL_law wsX6_slip := goodIn_r _ [382, 16, 352, 73, 383, 202, 317, 318, 319, 15, 320, 35, 384, 385, 386, 387, 388, 389, 390, 391, 392, 361, 322, 323, 324, 325, 326, 327, 328, 32, 329, 330, 331, 332, 333, 33, 362, 335, 336, 337, 34, 363, 364, 76, 365, 82, 393, 394, 395, 396, 397, 398, 399, 400, 401, 402, 403, 404, 353, 354, 355, 356, 357, 358, 359, 360, 405, 754, 755, 756, 757, 758, 771, 772, 773, 774] (by decide +kernel) (by decide +kernel)
set_option maxRecDepth 20000 in
theorem gL_law_X6_slip : GoodIn wsL_law (wsV RL 77 RX6 yX6_slip wsX6_slip) := goodIn_app (goodIn_of _ (by decide +kernel)) ggL_law_X6_slip
set_option maxRecDepth 20000 in
theorem ggL_law_X7_slip : GoodIn wsL_law wsX7_slip := goodIn_r _ [409, 370, 279, 87, 224, 344, 345, 346, 5, 347, 308, 92, 93, 94, 410, 411, 412, 413, 60, 61, 414, 63, 415, 62, 119, 120, 121, 98, 371, 372, 373, 374, 375, 376, 377, 378, 759, 760, 761, 762, 763, 764, 765, 766, 767, 768, 769, 770] (by decide +kernel) (by decide +kernel)
set_option maxRecDepth 20000 in
theorem gL_law_X7_slip : GoodIn wsL_law (wsV RL 81 RX7 yX7_slip wsX7_slip) := goodIn_app (goodIn_of _ (by decide +kernel)) ggL_law_X7_slip
set_option maxRecDepth 20000 in
theorem ggL_law_X6_blame : GoodIn wsL_law wsX6_blame := goodIn_r _ [419, 16, 383, 299, 300, 301, 15, 302, 35, 353, 354, 355, 356, 357, 358, 359, 360, 361, 322, 323, 324, 325, 326, 327, 328, 32, 329, 318, 319, 320, 330, 331, 332, 333, 33, 362, 335, 336, 337, 34, 363, 364, 76, 365, 82, 384, 385, 386, 387, 388, 389, 390, 391, 392, 393, 394, 395, 396, 397, 398, 399, 400, 401, 402, 403, 404, 405, 754, 755, 756, 757, 758, 771, 772, 773, 774] (by decide +kernel) (by decide +kernel)
set_option maxRecDepth 20000 in
theorem gL_law_X6_blame : GoodIn wsL_law (wsV RL 82 RX6 yX6_blame wsX6_blame) := goodIn_app (goodIn_of _ (by decide +kernel)) ggL_law_X6_blame
set_option maxRecDepth 20000 in
theorem ggL_law_X7_blame : GoodIn wsL_law wsX7_blame := goodIn_r _ [423, 307, 308, 371, 372, 373, 5, 374, 375, 376, 377, 378, 60, 61, 119, 120, 121, 98, 410, 411, 412, 413, 414, 63, 415, 62, 92, 93, 94, 759, 760, 761, 762, 763, 764, 765, 766, 767, 768, 769, 770] (by decide +kernel) (by decide +kernel)
set_option maxRecDepth 20000 in
theorem gL_law_X7_blame : GoodIn wsL_law (wsV RL 85 RX7 yX7_blame wsX7_blame) := goodIn_app (goodIn_of _ (by decide +kernel)) ggL_law_X7_blame
set_option maxRecDepth 20000 in
theorem ggL_law_X6_tablet : GoodIn wsL_law wsX6_tablet := goodIn_r _ [427, 428, 429, 430, 2, 431, 25, 432, 433, 434, 27, 435, 55, 53, 54, 754, 755, 756, 757, 758, 784, 785, 786] (by decide +kernel) (by decide +kernel)
set_option maxRecDepth 20000 in
theorem gL_law_X6_tablet : GoodIn wsL_law (wsV RL 86 RX6 yX6_tablet wsX6_tablet) := goodIn_app (goodIn_of _ (by decide +kernel)) ggL_law_X6_tablet
set_option maxRecDepth 20000 in
theorem ggL_law_X7_tablet : GoodIn wsL_law wsX7_tablet := goodIn_r _ [439, 156, 65, 66, 440, 441, 5, 442, 279, 92, 93, 94, 759, 760, 761, 762, 763, 764, 765, 766, 767, 768, 769, 770] (by decide +kernel) (by decide +kernel)
set_option maxRecDepth 20000 in
theorem gL_law_X7_tablet : GoodIn wsL_law (wsV RL 89 RX7 yX7_tablet wsX7_tablet) := goodIn_app (goodIn_of _ (by decide +kernel)) ggL_law_X7_tablet
set_option maxRecDepth 20000 in
theorem ggL_law_X6_press : GoodIn wsL_law wsX6_press := goodIn_r _ [446, 447, 428, 429, 430, 2, 431, 25, 448, 449, 450, 27, 451, 55, 452, 453, 454, 455, 53, 456, 457, 458, 459, 54, 460, 80, 76, 81, 82, 754, 755, 756, 757, 758, 784, 785, 786] (by decide +kernel) (by decide +kernel)
set_option maxRecDepth 20000 in
theorem gL_law_X6_press : GoodIn wsL_law (wsV RL 90 RX6 yX6_press wsX6_press) := goodIn_app (goodIn_of _ (by decide +kernel)) ggL_law_X6_press
set_option maxRecDepth 20000 in
theorem ggL_law_X7_press : GoodIn wsL_law wsX7_press := goodIn_r _ [464, 312, 66, 465, 466, 467, 5, 468, 252, 469, 470, 471, 472, 65, 440, 441, 442, 279, 92, 93, 94, 473, 474, 475, 759, 760, 761, 762, 763, 764, 765, 766, 767, 768, 769, 770] (by decide +kernel) (by decide +kernel)
set_option maxRecDepth 20000 in
theorem gL_law_X7_press : GoodIn wsL_law (wsV RL 94 RX7 yX7_press wsX7_press) := goodIn_app (goodIn_of _ (by decide +kernel)) ggL_law_X7_press
set_option maxRecDepth 20000 in
theorem ggL_law_X6_cell : GoodIn wsL_law wsX6_cell := goodIn_r _ [479, 428, 429, 430, 2, 431, 25, 448, 449, 450, 27, 451, 55, 452, 453, 454, 455, 53, 754, 755, 756, 757, 758, 784, 785, 786] (by decide +kernel) (by decide +kernel)
set_option maxRecDepth 20000 in
theorem gL_law_X6_cell : GoodIn wsL_law (wsV RL 95 RX6 yX6_cell wsX6_cell) := goodIn_app (goodIn_of _ (by decide +kernel)) ggL_law_X6_cell
set_option maxRecDepth 20000 in
theorem ggL_law_X7_cell : GoodIn wsL_law wsX7_cell := goodIn_r _ [483, 66, 465, 466, 467, 5, 468, 252, 469, 470, 471, 472, 65, 440, 441, 442, 279, 92, 93, 94, 473, 474, 475, 759, 760, 761, 762, 763, 764, 765, 766, 767, 768, 769, 770] (by decide +kernel) (by decide +kernel)
set_option maxRecDepth 20000 in
theorem gL_law_X7_cell : GoodIn wsL_law (wsV RL 99 RX7 yX7_cell wsX7_cell) := goodIn_app (goodIn_of _ (by decide +kernel)) ggL_law_X7_cell
set_option maxRecDepth 20000 in
theorem ggL_law_X6_copy : GoodIn wsL_law wsX6_copy := goodIn_r _ [487, 428, 429, 430, 2, 431, 25, 488, 489, 490, 491, 492, 493, 494, 495, 236, 186, 237, 238, 432, 433, 434, 27, 435, 55, 53, 54, 496, 497, 498, 499, 240, 241, 500, 501, 502, 503, 456, 457, 458, 459, 460, 80, 76, 81, 82, 754, 755, 756, 757, 758, 784, 785, 786] (by decide +kernel) (by decide +kernel)
set_option maxRecDepth 20000 in
theorem gL_law_X6_copy : GoodIn wsL_law (wsV RL 100 RX6 yX6_copy wsX6_copy) := goodIn_app (goodIn_of _ (by decide +kernel)) ggL_law_X6_copy
set_option maxRecDepth 20000 in
theorem ggL_law_X7_copy : GoodIn wsL_law wsX7_copy := goodIn_r _ [507, 279, 415, 156, 65, 66, 440, 441, 5, 442, 92, 93, 94, 508, 509, 510, 511, 512, 513, 246, 247, 248, 249, 250, 251, 252, 253, 98, 195, 196, 197, 225, 226, 227, 178, 161, 95, 96, 97, 228, 229, 230, 759, 760, 761, 762, 763, 764, 765, 766, 767, 768, 769, 770] (by decide +kernel) (by decide +kernel)
set_option maxRecDepth 20000 in
theorem gL_law_X7_copy : GoodIn wsL_law (wsV RL 104 RX7 yX7_copy wsX7_copy) := goodIn_app (goodIn_of _ (by decide +kernel)) ggL_law_X7_copy
set_option maxRecDepth 20000 in
theorem ggL_law_X6_reading : GoodIn wsL_law wsX6_reading := goodIn_r _ [517, 20, 428, 429, 430, 2, 431, 25, 518, 519, 520, 19, 521, 46, 47, 48, 45, 44, 40, 41, 42, 522, 523, 524, 27, 525, 55, 526, 453, 454, 455, 53, 527, 528, 529, 530, 54, 531, 532, 533, 534, 535, 536, 537, 538, 539, 493, 490, 494, 495, 236, 186, 237, 238, 540, 541, 542, 543, 544, 545, 546, 547, 548, 497, 498, 499, 240, 241, 500, 501, 502, 503, 549, 80, 76, 81, 82, 550, 551, 552, 553, 754, 755, 756, 757, 758, 775, 776, 777, 778, 779, 780, 781, 782, 783, 784, 785, 786] (by decide +kernel) (by decide +kernel)
set_option maxRecDepth 20000 in
theorem gL_law_X6_reading : GoodIn wsL_law (wsV RL 105 RX6 yX6_reading wsX6_reading) := goodIn_app (goodIn_of _ (by decide +kernel)) ggL_law_X6_reading
set_option maxRecDepth 20000 in
theorem ggL_law_X7_reading : GoodIn wsL_law wsX7_reading := goodIn_r _ [557, 440, 441, 5, 442, 279, 92, 93, 94, 558, 559, 560, 561, 562, 563, 564, 565, 65, 566, 567, 568, 569, 570, 571, 508, 509, 510, 572, 573, 574, 575, 576, 577, 578, 66, 473, 474, 475, 579, 580, 581, 582, 67, 246, 247, 248, 249, 250, 251, 252, 253, 98, 195, 196, 197, 225, 226, 227, 178, 161, 95, 96, 97, 228, 229, 230, 511, 512, 513, 583, 584, 585, 759, 760, 761, 762, 763, 764, 765, 766, 767, 768, 769, 770] (by decide +kernel) (by decide +kernel)
set_option maxRecDepth 20000 in
theorem gL_law_X7_reading : GoodIn wsL_law (wsV RL 108 RX7 yX7_reading wsX7_reading) := goodIn_app (goodIn_of _ (by decide +kernel)) ggL_law_X7_reading
set_option maxRecDepth 20000 in
theorem ggL_law_X6_sure : GoodIn wsL_law wsX6_sure := goodIn_r _ [589, 20, 428, 429, 430, 2, 431, 25, 448, 449, 450, 27, 451, 55, 590, 591, 592, 19, 593, 43, 594, 519, 520, 521, 46, 47, 48, 45, 44, 40, 41, 42, 522, 523, 524, 525, 526, 453, 454, 455, 53, 527, 528, 529, 530, 54, 595, 532, 533, 534, 535, 536, 537, 538, 539, 493, 490, 494, 495, 236, 186, 237, 238, 540, 541, 542, 543, 544, 545, 546, 547, 548, 497, 498, 499, 240, 241, 500, 501, 502, 503, 549, 80, 76, 81, 82, 596, 597, 598, 599, 600, 601, 602, 603, 604, 605, 606, 607, 754, 755, 756, 757, 758, 784, 785, 786, 775, 776, 777, 778, 779, 780, 781, 782, 783] (by decide +kernel) (by decide +kernel)
set_option maxRecDepth 20000 in
theorem gL_law_X6_sure : GoodIn wsL_law (wsV RL 109 RX6 yX6_sure wsX6_sure) := goodIn_app (goodIn_of _ (by decide +kernel)) ggL_law_X6_sure
set_option maxRecDepth 20000 in
theorem ggL_law_X7_sure : GoodIn wsL_law wsX7_sure := goodIn_r _ [611, 68, 465, 466, 467, 5, 468, 252, 469, 470, 471, 472, 65, 440, 441, 442, 279, 92, 93, 94, 612, 613, 614, 615, 558, 559, 560, 561, 562, 563, 564, 565, 566, 567, 568, 569, 570, 571, 508, 509, 510, 572, 573, 574, 575, 576, 577, 578, 66, 473, 474, 475, 579, 580, 581, 582, 67, 246, 247, 248, 249, 250, 251, 253, 98, 195, 196, 197, 225, 226, 227, 178, 161, 95, 96, 97, 228, 229, 230, 511, 512, 513, 583, 584, 585, 759, 760, 761, 762, 763, 764, 765, 766, 767, 768, 769, 770] (by decide +kernel) (by decide +kernel)
set_option maxRecDepth 20000 in
theorem gL_law_X7_sure : GoodIn wsL_law (wsV RL 112 RX7 yX7_sure wsX7_sure) := goodIn_app (goodIn_of _ (by decide +kernel)) ggL_law_X7_sure
set_option maxRecDepth 20000 in
theorem ggL_law_X6_fill : GoodIn wsL_law wsX6_fill := goodIn_r _ [619, 20, 428, 429, 430, 2, 431, 25, 590, 591, 592, 19, 593, 43, 594, 519, 520, 521, 46, 47, 48, 45, 44, 40, 41, 42, 522, 523, 524, 27, 525, 55, 526, 453, 454, 455, 53, 527, 528, 529, 530, 54, 595, 532, 533, 534, 535, 536, 537, 538, 539, 493, 490, 494, 495, 236, 186, 237, 238, 540, 541, 542, 543, 544, 545, 546, 547, 548, 497, 498, 499, 240, 241, 500, 501, 502, 503, 549, 80, 76, 81, 82, 596, 597, 598, 599, 600, 601, 602, 603, 620, 604, 605, 606, 607, 452, 456, 457, 458, 459, 460, 754, 755, 756, 757, 758, 775, 776, 777, 778, 779, 780, 781, 782, 783, 784, 785, 786] (by decide +kernel) (by decide +kernel)
set_option maxRecDepth 20000 in
theorem gL_law_X6_fill : GoodIn wsL_law (wsV RL 113 RX6 yX6_fill wsX6_fill) := goodIn_app (goodIn_of _ (by decide +kernel)) ggL_law_X6_fill
set_option maxRecDepth 20000 in
theorem ggL_law_X7_fill : GoodIn wsL_law wsX7_fill := goodIn_r _ [624, 65, 66, 68, 440, 441, 5, 442, 279, 92, 93, 94, 612, 613, 614, 615, 558, 559, 560, 561, 562, 563, 564, 565, 566, 567, 568, 569, 570, 571, 508, 509, 510, 572, 573, 574, 575, 576, 577, 578, 473, 474, 475, 579, 580, 581, 582, 67, 246, 247, 248, 249, 250, 251, 252, 253, 98, 195, 196, 197, 225, 226, 227, 178, 161, 95, 96, 97, 228, 229, 230, 511, 512, 513, 583, 584, 585, 759, 760, 761, 762, 763, 764, 765, 766, 767, 768, 769, 770] (by decide +kernel) (by decide +kernel)
set_option maxRecDepth 20000 in
theorem gL_law_X7_fill : GoodIn wsL_law (wsV RL 116 RX7 yX7_fill wsX7_fill) := goodIn_app (goodIn_of _ (by decide +kernel)) ggL_law_X7_fill
set_option maxRecDepth 20000 in
theorem ggL_law_X6_odd : GoodIn wsL_law wsX6_odd := goodIn_r _ [628, 20, 428, 429, 430, 2, 431, 25, 518, 519, 520, 19, 521, 46, 47, 48, 45, 44, 40, 41, 42, 522, 523, 524, 27, 525, 55, 526, 453, 454, 455, 53, 527, 528, 529, 530, 54, 629, 536, 537, 538, 539, 493, 490, 494, 495, 236, 186, 237, 238, 630, 541, 542, 543, 544, 545, 546, 547, 548, 497, 498, 499, 240, 241, 500, 501, 502, 503, 549, 80, 76, 81, 82, 754, 755, 756, 757, 758, 775, 776, 777, 778, 779, 780, 781, 782, 783, 784, 785, 786] (by decide +kernel) (by decide +kernel)
set_option maxRecDepth 20000 in
theorem gL_law_X6_odd : GoodIn wsL_law (wsV RL 117 RX6 yX6_odd wsX6_odd) := goodIn_app (goodIn_of _ (by decide +kernel)) ggL_law_X6_odd
set_option maxRecDepth 20000 in
theorem ggL_law_X7_odd : GoodIn wsL_law wsX7_odd := goodIn_r _ [634, 440, 441, 5, 442, 279, 92, 93, 94, 562, 563, 564, 565, 65, 566, 567, 568, 569, 570, 571, 508, 509, 510, 572, 573, 574, 575, 576, 577, 578, 66, 473, 474, 475, 579, 580, 581, 582, 67, 246, 247, 248, 249, 250, 251, 252, 253, 98, 195, 196, 197, 225, 226, 227, 178, 161, 95, 96, 97, 228, 229, 230, 511, 512, 513, 583, 584, 585, 759, 760, 761, 762, 763, 764, 765, 766, 767, 768, 769, 770] (by decide +kernel) (by decide +kernel)
set_option maxRecDepth 20000 in
theorem gL_law_X7_odd : GoodIn wsL_law (wsV RL 120 RX7 yX7_odd wsX7_odd) := goodIn_app (goodIn_of _ (by decide +kernel)) ggL_law_X7_odd
set_option maxRecDepth 20000 in
theorem ggL_law_X6_triple : GoodIn wsL_law wsX6_triple := goodIn_r _ [638, 428, 429, 430, 2, 431, 25, 448, 449, 450, 27, 451, 55, 639, 640, 641, 642, 643, 644, 645, 646, 208, 647, 648, 207, 209, 649, 650, 651, 652, 653, 528, 529, 530, 54, 460, 80, 76, 81, 82, 754, 755, 756, 757, 758, 784, 785, 786] (by decide +kernel) (by decide +kernel)
set_option maxRecDepth 20000 in
theorem gL_law_X6_triple : GoodIn wsL_law (wsV RL 121 RX6 yX6_triple wsX6_triple) := goodIn_app (goodIn_of _ (by decide +kernel)) ggL_law_X6_triple
set_option maxRecDepth 20000 in
theorem ggL_law_X7_triple : GoodIn wsL_law wsX7_triple := goodIn_r _ [657, 66, 469, 470, 471, 5, 472, 65, 440, 441, 442, 279, 92, 93, 94, 658, 659, 660, 473, 474, 475, 583, 584, 585, 95, 96, 97, 98, 759, 760, 761, 762, 763, 764, 765, 766, 767, 768, 769, 770] (by decide +kernel) (by decide +kernel)
set_option maxRecDepth 20000 in
theorem gL_law_X7_triple : GoodIn wsL_law (wsV RL 124 RX7 yX7_triple wsX7_triple) := goodIn_app (goodIn_of _ (by decide +kernel)) ggL_law_X7_triple
set_option maxRecDepth 20000 in
theorem ggL_law_X6_join : GoodIn wsL_law wsX6_join := goodIn_r _ [664, 428, 429, 430, 2, 431, 25, 620, 523, 524, 27, 525, 55, 665, 666, 667, 668, 653, 528, 529, 530, 54, 669, 670, 671, 672, 673, 207, 208, 209, 674, 646, 647, 675, 453, 454, 455, 53, 676, 457, 458, 459, 460, 80, 76, 81, 82, 754, 755, 756, 757, 758, 784, 785, 786] (by decide +kernel) (by decide +kernel)
set_option maxRecDepth 20000 in
theorem gL_law_X6_join : GoodIn wsL_law (wsV RL 125 RX6 yX6_join wsX6_join) := goodIn_app (goodIn_of _ (by decide +kernel)) ggL_law_X6_join
set_option maxRecDepth 20000 in
theorem ggL_law_X7_join : GoodIn wsL_law wsX7_join := goodIn_r _ [680, 177, 65, 66, 440, 441, 5, 442, 279, 92, 93, 94, 583, 584, 585, 95, 96, 97, 98, 759, 760, 761, 762, 763, 764, 765, 766, 767, 768, 769, 770] (by decide +kernel) (by decide +kernel)
set_option maxRecDepth 20000 in
theorem gL_law_X7_join : GoodIn wsL_law (wsV RL 128 RX7 yX7_join wsX7_join) := goodIn_app (goodIn_of _ (by decide +kernel)) ggL_law_X7_join
set_option maxRecDepth 20000 in
theorem ggL_law_X6_problem : GoodIn wsL_law wsX6_problem := goodIn_r _ [684, 73, 685, 686, 687, 2, 688, 689, 690, 691, 692, 166, 693, 184, 185, 186, 187, 188, 189, 190, 203, 204, 205, 206, 207, 208, 209, 210, 211, 212, 213, 214, 215, 216, 217, 218, 219, 79, 80, 76, 81, 82, 694, 695, 696, 202, 697, 698, 699, 383, 270, 271, 272, 273, 274, 700, 701, 702, 703] (by decide +kernel) (by decide +kernel)
set_option maxRecDepth 20000 in
theorem gL_law_X6_problem : GoodIn wsL_law (wsV RL 129 RX6 yX6_problem wsX6_problem) := goodIn_app (goodIn_of _ (by decide +kernel)) ggL_law_X6_problem
set_option maxRecDepth 20000 in
theorem ggL_law_X7_problem : GoodIn wsL_law wsX7_problem := goodIn_r _ [707, 708, 87, 161, 91, 709, 252, 224, 92, 93, 5, 94, 710, 711, 712, 713, 195, 196, 197, 225, 226, 227, 178, 95, 96, 97, 98, 228, 229, 230, 280, 281, 282, 283] (by decide +kernel) (by decide +kernel)
set_option maxRecDepth 20000 in
theorem gL_law_X7_problem : GoodIn wsL_law (wsV RL 132 RX7 yX7_problem wsX7_problem) := goodIn_app (goodIn_of _ (by decide +kernel)) ggL_law_X7_problem
set_option maxRecDepth 20000 in
theorem ggL_law_X6_unit : GoodIn wsL_law wsX6_unit := goodIn_r _ [717, 23, 22, 754, 755, 756, 757, 758] (by decide +kernel) (by decide +kernel)
set_option maxRecDepth 20000 in
theorem gL_law_X6_unit : GoodIn wsL_law (wsV RL 133 RX6 yX6_unit wsX6_unit) := goodIn_app (goodIn_of _ (by decide +kernel)) ggL_law_X6_unit
set_option maxRecDepth 20000 in
theorem ggL_law_X7_unit : GoodIn wsL_law wsX7_unit := goodIn_r _ [721, 252, 722, 723, 64, 92, 93, 5, 94, 759, 760, 761, 762, 763, 764, 765, 766, 767, 768, 769, 770] (by decide +kernel) (by decide +kernel)
set_option maxRecDepth 20000 in
theorem gL_law_X7_unit : GoodIn wsL_law (wsV RL 136 RX7 yX7_unit wsX7_unit) := goodIn_app (goodIn_of _ (by decide +kernel)) ggL_law_X7_unit
set_option maxRecDepth 20000 in
theorem ggL_law_X6_wipe : GoodIn wsL_law wsX6_wipe := goodIn_r _ [727, 23, 754, 755, 756, 757, 758] (by decide +kernel) (by decide +kernel)
set_option maxRecDepth 20000 in
theorem gL_law_X6_wipe : GoodIn wsL_law (wsV RL 137 RX6 yX6_wipe wsX6_wipe) := goodIn_app (goodIn_of _ (by decide +kernel)) ggL_law_X6_wipe
set_option maxRecDepth 20000 in
theorem ggL_law_X7_wipe : GoodIn wsL_law wsX7_wipe := goodIn_r _ [731, 723, 759, 760, 761, 762, 763, 764, 765, 766, 767, 768, 769, 770] (by decide +kernel) (by decide +kernel)
set_option maxRecDepth 20000 in
theorem gL_law_X7_wipe : GoodIn wsL_law (wsV RL 141 RX7 yX7_wipe wsX7_wipe) := goodIn_app (goodIn_of _ (by decide +kernel)) ggL_law_X7_wipe
set_option maxRecDepth 20000 in
theorem ggL_law_X6_units : GoodIn wsL_law wsX6_units := goodIn_r _ [735, 23, 352, 166, 73, 22, 754, 755, 756, 757, 758] (by decide +kernel) (by decide +kernel)
set_option maxRecDepth 20000 in
theorem gL_law_X6_units : GoodIn wsL_law (wsV RL 142 RX6 yX6_units wsX6_units) := goodIn_app (goodIn_of _ (by decide +kernel)) ggL_law_X6_units
set_option maxRecDepth 20000 in
theorem ggL_law_X7_units : GoodIn wsL_law wsX7_units := goodIn_r _ [739, 723, 370, 91, 87, 64, 92, 93, 5, 94, 759, 760, 761, 762, 763, 764, 765, 766, 767, 768, 769, 770] (by decide +kernel) (by decide +kernel)
set_option maxRecDepth 20000 in
theorem gL_law_X7_units : GoodIn wsL_law (wsV RL 145 RX7 yX7_units wsX7_units) := goodIn_app (goodIn_of _ (by decide +kernel)) ggL_law_X7_units
set_option maxRecDepth 20000 in
theorem ggL_law_X6_told : GoodIn wsL_law wsX6_told := goodIn_r _ [743, 16, 23, 299, 300, 301, 15, 302, 35, 428, 429, 430, 2, 431, 25, 620, 523, 524, 27, 525, 55, 744, 745, 746, 747, 53, 754, 755, 756, 757, 758, 771, 772, 773, 774, 784, 785, 786] (by decide +kernel) (by decide +kernel)
set_option maxRecDepth 20000 in
theorem gL_law_X6_told : GoodIn wsL_law (wsV RL 146 RX6 yX6_told wsX6_told) := goodIn_app (goodIn_of _ (by decide +kernel)) ggL_law_X6_told
set_option maxRecDepth 20000 in
theorem ggL_law_X7_told : GoodIn wsL_law wsX7_told := goodIn_r _ [751, 252, 708, 65, 752, 753, 66, 308, 723, 92, 93, 5, 94, 759, 760, 761, 762, 763, 764, 765, 766, 767, 768, 769, 770] (by decide +kernel) (by decide +kernel)
set_option maxRecDepth 20000 in
theorem gL_law_X7_told : GoodIn wsL_law (wsV RL 149 RX7 yX7_told wsX7_told) := goodIn_app (goodIn_of _ (by decide +kernel)) ggL_law_X7_told
