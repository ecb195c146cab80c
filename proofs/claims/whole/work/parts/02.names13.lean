set_option maxRecDepth 20000 in
theorem ggL_law_X5_init : GoodIn wsL_law wsX5_init := goodIn_r _ [8, 9, 10, 11, 12, 13, 14, 15, 16, 17, 18, 19, 20, 21, 22, 23, 24, 25, 26, 27, 28, 29, 30, 31, 32, 33, 34, 35, 36, 37, 38, 39, 40, 41, 42, 43, 44, 45, 46, 47, 48, 49, 50, 51, 52, 53, 54, 55, 56, 57, 58, 59, 60, 61, 62, 63, 64, 65, 66, 67, 68, 69, 70, 71, 72, 73, 74, 75, 76, 77, 78, 79, 80, 81, 82, 83, 84, 85, 86, 87, 88, 89, 90, 91, 92, 93, 94, 95, 96, 97, 98, 99, 100, 101, 102, 103, 104, 105, 106, 107, 108, 109, 110, 111, 112, 113, 114, 115, 116, 117, 118, 119, 120, 121, 122, 123, 124, 125, 126, 127, 128, 129, 130, 131, 132, 133, 134, 135, 136, 137, 138, 139, 140, 141, 142, 143, 144, 145, 146, 147, 148, 149, 150, 151, 152, 153, 154, 155, 156, 157, 2, 158, 159, 160, 161, 162, 163, 164, 165, 166, 167, 168, 169, 170, 171, 172, 173, 174, 782, 783, 784, 785, 760, 761, 762, 763, 764, 765, 766, 786, 787, 788, 789, 790, 791, 792, 793, 794, 795, 796, 797, 798, 799, 800, 801, 802, 803, 804, 805, 806] (by decide +kernel) (by decide +kernel)
set_option maxRecDepth 20000 in
theorem gL_law_X5_init : GoodIn wsL_law (wsX5_init) := ggL_law_X5_init
set_option maxRecDepth 20000 in
theorem ggL_law_X6_init : GoodIn wsL_law wsX6_init := goodIn_r _ [177, 178, 10, 11, 40, 179, 180, 181, 182, 183, 184, 185, 186, 187, 188, 189, 190, 191, 5, 192, 193, 194, 195, 196, 197, 198, 199, 200, 201, 202, 203, 204, 205, 206, 207, 767, 768, 769, 770, 771, 772, 773, 774, 775, 776, 777, 778, 779, 780, 781] (by decide +kernel) (by decide +kernel)
set_option maxRecDepth 20000 in
theorem gL_law_X6_init : GoodIn wsL_law (wsX6_init) := ggL_law_X6_init
set_option maxRecDepth 20000 in
theorem ggL_law_X5_write : GoodIn wsL_law wsX5_write := goodIn_r _ [211, 15, 34, 212, 157, 2, 158, 132, 133, 134, 14, 135, 38, 41, 760, 761, 762, 763, 764, 765, 766, 782, 783, 784, 785] (by decide +kernel) (by decide +kernel)
set_option maxRecDepth 20000 in
theorem gL_law_X5_write : GoodIn wsL_law (wsV RL 13 RX5 yX5_write wsX5_write) := goodIn_app (goodIn_of _ (by decide +kernel)) ggL_law_X5_write
set_option maxRecDepth 20000 in
theorem ggL_law_X6_write : GoodIn wsL_law wsX6_write := goodIn_r _ [216, 217, 218, 219, 179, 220, 221, 5, 222, 767, 768, 769, 770, 771, 772, 773, 774, 775, 776, 777, 778, 779, 780, 781] (by decide +kernel) (by decide +kernel)
set_option maxRecDepth 20000 in
theorem gL_law_X6_write : GoodIn wsL_law (wsV RL 17 RX6 yX6_write wsX6_write) := goodIn_app (goodIn_of _ (by decide +kernel)) ggL_law_X6_write
set_option maxRecDepth 20000 in
theorem ggL_law_X5_wipe : GoodIn wsL_law wsX5_wipe := goodIn_r _ [226, 15, 34, 760, 761, 762, 763, 764, 765, 766, 782, 783, 784, 785] (by decide +kernel) (by decide +kernel)
set_option maxRecDepth 20000 in
theorem gL_law_X5_wipe : GoodIn wsL_law (wsV RL 18 RX5 yX5_wipe wsX5_wipe) := goodIn_app (goodIn_of _ (by decide +kernel)) ggL_law_X5_wipe
set_option maxRecDepth 20000 in
theorem ggL_law_X6_wipe : GoodIn wsL_law wsX6_wipe := goodIn_r _ [230, 219, 767, 768, 769, 770, 771, 772, 773, 774, 775, 776, 777, 778, 779, 780, 781] (by decide +kernel) (by decide +kernel)
set_option maxRecDepth 20000 in
theorem gL_law_X6_wipe : GoodIn wsL_law (wsV RL 22 RX6 yX6_wipe wsX6_wipe) := goodIn_app (goodIn_of _ (by decide +kernel)) ggL_law_X6_wipe
set_option maxRecDepth 20000 in
theorem ggL_law_X5_fault : GoodIn wsL_law wsX5_fault := goodIn_r _ [234, 15, 20, 136, 137, 138, 14, 139, 39, 38, 140, 141, 142, 18, 143, 46, 47, 48, 49, 144, 145, 146, 147, 42, 148, 149, 150, 151, 41, 152, 153, 154, 155, 156, 66, 67, 68, 157, 2, 158, 159, 160, 161, 162, 50, 51, 52, 163, 164, 165, 166, 167, 168, 169, 170, 171, 172, 173, 174, 53, 54, 55, 56, 57, 58, 760, 761, 762, 763, 764, 765, 766, 782, 783, 784, 785, 786, 787, 788, 789, 790, 791, 792, 793, 794, 795, 796, 797, 798] (by decide +kernel) (by decide +kernel)
set_option maxRecDepth 20000 in
theorem gL_law_X5_fault : GoodIn wsL_law (wsV RL 23 RX5 yX5_fault wsX5_fault) := goodIn_app (goodIn_of _ (by decide +kernel)) ggL_law_X5_fault
set_option maxRecDepth 20000 in
theorem ggL_law_X6_fault : GoodIn wsL_law wsX6_fault := goodIn_r _ [238, 239, 240, 241, 5, 242, 243, 219, 189, 190, 191, 192, 181, 182, 244, 245, 246, 247, 188, 248, 249, 250, 251, 252, 253, 179, 254, 255, 256, 257, 258, 259, 260, 220, 221, 222, 193, 194, 195, 196, 197, 198, 199, 200, 767, 768, 769, 770, 771, 772, 773, 774, 775, 776, 777, 778, 779, 780, 781] (by decide +kernel) (by decide +kernel)
set_option maxRecDepth 20000 in
theorem gL_law_X6_fault : GoodIn wsL_law (wsV RL 26 RX6 yX6_fault wsX6_fault) := goodIn_app (goodIn_of _ (by decide +kernel)) ggL_law_X6_fault
set_option maxRecDepth 20000 in
theorem ggL_law_X5_lay : GoodIn wsL_law wsX5_lay := goodIn_r _ [264, 15, 20, 265, 19, 24, 266, 25, 29, 267, 136, 137, 138, 14, 139, 39, 38, 140, 141, 142, 18, 143, 46, 47, 48, 49, 144, 145, 146, 147, 42, 148, 149, 150, 151, 41, 152, 153, 154, 155, 156, 66, 67, 68, 157, 2, 158, 159, 160, 161, 162, 50, 51, 52, 163, 164, 165, 166, 167, 168, 169, 170, 171, 172, 173, 174, 53, 54, 55, 56, 57, 58, 268, 269, 270, 271, 272, 273, 274, 275, 760, 761, 762, 763, 764, 765, 766, 786, 787, 788, 789, 790, 791, 792, 793, 794, 795, 796, 797, 798, 799, 800, 801, 802, 803, 804, 805, 782, 783, 784, 785] (by decide +kernel) (by decide +kernel)
set_option maxRecDepth 20000 in
theorem gL_law_X5_lay : GoodIn wsL_law (wsV RL 27 RX5 yX5_lay wsX5_lay) := goodIn_app (goodIn_of _ (by decide +kernel)) ggL_law_X5_lay
set_option maxRecDepth 20000 in
theorem ggL_law_X6_lay : GoodIn wsL_law wsX6_lay := goodIn_r _ [279, 181, 180, 239, 240, 241, 5, 242, 243, 219, 189, 190, 191, 192, 182, 244, 245, 246, 247, 188, 248, 249, 250, 251, 252, 253, 179, 254, 255, 256, 257, 258, 259, 260, 220, 221, 222, 193, 194, 195, 196, 197, 198, 199, 200, 201, 202, 203, 204, 183, 205, 206, 207, 767, 768, 769, 770, 771, 772, 773, 774, 775, 776, 777, 778, 779, 780, 781] (by decide +kernel) (by decide +kernel)
set_option maxRecDepth 20000 in
theorem gL_law_X6_lay : GoodIn wsL_law (wsV RL 30 RX6 yX6_lay wsX6_lay) := goodIn_app (goodIn_of _ (by decide +kernel)) ggL_law_X6_lay
set_option maxRecDepth 20000 in
theorem ggL_law_X5_person : GoodIn wsL_law wsX5_person := goodIn_r _ [283, 19, 284, 285, 286, 287, 168, 169, 18, 170, 46, 157, 2, 158, 760, 761, 762, 763, 764, 765, 766, 786, 787, 788, 789, 790, 791, 792, 793, 794, 795, 796, 797, 798] (by decide +kernel) (by decide +kernel)
set_option maxRecDepth 20000 in
theorem gL_law_X5_person : GoodIn wsL_law (wsV RL 31 RX5 yX5_person wsX5_person) := goodIn_app (goodIn_of _ (by decide +kernel)) ggL_law_X5_person
set_option maxRecDepth 20000 in
theorem ggL_law_X6_person : GoodIn wsL_law wsX6_person := goodIn_r _ [291, 260, 180, 183, 292, 293, 294, 5, 295, 220, 221, 222, 767, 768, 769, 770, 771, 772, 773, 774, 775, 776, 777, 778, 779, 780, 781] (by decide +kernel) (by decide +kernel)
set_option maxRecDepth 20000 in
theorem gL_law_X6_person : GoodIn wsL_law (wsV RL 35 RX6 yX6_person wsX6_person) := goodIn_app (goodIn_of _ (by decide +kernel)) ggL_law_X6_person
set_option maxRecDepth 20000 in
theorem ggL_law_X5_glove : GoodIn wsL_law wsX5_glove := goodIn_r _ [299, 19, 300, 301, 302, 303, 66, 67, 68, 304, 305, 306, 307, 308, 18, 309, 47, 157, 2, 158, 310, 311, 312, 760, 761, 762, 763, 764, 765, 766, 786, 787, 788, 789, 790, 791, 792, 793, 794, 795, 796, 797, 798] (by decide +kernel) (by decide +kernel)
set_option maxRecDepth 20000 in
theorem gL_law_X5_glove : GoodIn wsL_law (wsV RL 36 RX5 yX5_glove wsX5_glove) := goodIn_app (goodIn_of _ (by decide +kernel)) ggL_law_X5_glove
set_option maxRecDepth 20000 in
theorem ggL_law_X6_glove : GoodIn wsL_law wsX6_glove := goodIn_r _ [316, 317, 183, 318, 319, 320, 5, 321, 220, 221, 222, 767, 768, 769, 770, 771, 772, 773, 774, 775, 776, 777, 778, 779, 780, 781] (by decide +kernel) (by decide +kernel)
set_option maxRecDepth 20000 in
theorem gL_law_X6_glove : GoodIn wsL_law (wsV RL 39 RX6 yX6_glove wsX6_glove) := goodIn_app (goodIn_of _ (by decide +kernel)) ggL_law_X6_glove
set_option maxRecDepth 20000 in
theorem ggL_law_X5_fits : GoodIn wsL_law wsX5_fits := goodIn_r _ [325, 19, 306, 307, 308, 18, 309, 47, 157, 2, 158, 287, 168, 169, 170, 46, 326, 327, 328, 329, 56, 55, 51, 53, 54, 57, 50, 311, 312, 330, 331, 760, 761, 762, 763, 764, 765, 766, 786, 787, 788, 789, 790, 791, 792, 793, 794, 795, 796, 797, 798] (by decide +kernel) (by decide +kernel)
set_option maxRecDepth 20000 in
theorem gL_law_X5_fits : GoodIn wsL_law (wsV RL 40 RX5 yX5_fits wsX5_fits) := goodIn_app (goodIn_of _ (by decide +kernel)) ggL_law_X5_fits
set_option maxRecDepth 20000 in
theorem ggL_law_X6_fits : GoodIn wsL_law wsX6_fits := goodIn_r _ [335, 318, 319, 320, 5, 321, 183, 220, 221, 222, 292, 293, 294, 295, 180, 336, 337, 338, 339, 184, 340, 341, 342, 343, 344, 345, 346, 347, 348, 349, 767, 768, 769, 770, 771, 772, 773, 774, 775, 776, 777, 778, 779, 780, 781] (by decide +kernel) (by decide +kernel)
set_option maxRecDepth 20000 in
theorem gL_law_X6_fits : GoodIn wsL_law (wsV RL 43 RX6 yX6_fits wsX6_fits) := goodIn_app (goodIn_of _ (by decide +kernel)) ggL_law_X6_fits
set_option maxRecDepth 20000 in
theorem ggL_law_X5_fight : GoodIn wsL_law wsX5_fight := goodIn_r _ [353, 19, 285, 287, 168, 169, 18, 170, 46, 157, 2, 158, 354, 355, 356, 357, 51, 760, 761, 762, 763, 764, 765, 766, 786, 787, 788, 789, 790, 791, 792, 793, 794, 795, 796, 797, 798] (by decide +kernel) (by decide +kernel)
set_option maxRecDepth 20000 in
theorem gL_law_X5_fight : GoodIn wsL_law (wsV RL 44 RX5 yX5_fight wsX5_fight) := goodIn_app (goodIn_of _ (by decide +kernel)) ggL_law_X5_fight
set_option maxRecDepth 20000 in
theorem ggL_law_X6_fight : GoodIn wsL_law wsX6_fight := goodIn_r _ [361, 183, 292, 293, 294, 5, 295, 180, 220, 221, 222, 767, 768, 769, 770, 771, 772, 773, 774, 775, 776, 777, 778, 779, 780, 781] (by decide +kernel) (by decide +kernel)
set_option maxRecDepth 20000 in
theorem gL_law_X6_fight : GoodIn wsL_law (wsV RL 47 RX6 yX6_fight wsX6_fight) := goodIn_app (goodIn_of _ (by decide +kernel)) ggL_law_X6_fight
set_option maxRecDepth 20000 in
theorem ggL_law_X5_pass : GoodIn wsL_law wsX5_pass := goodIn_r _ [365, 19, 366, 24, 367, 212, 157, 2, 158, 368, 369, 370, 23, 371, 70, 64, 63, 372, 373, 67, 374, 375, 269, 270, 18, 271, 46, 47, 48, 49, 50, 272, 273, 274, 275, 51, 52, 53, 54, 55, 56, 57, 58, 376, 377, 378, 379, 380, 381, 382, 383, 384, 327, 328, 329, 311, 312, 330, 331, 385, 386, 387, 388, 389, 390, 303, 66, 68, 760, 761, 762, 763, 764, 765, 766, 786, 787, 788, 789, 790, 791, 792, 793, 794, 795, 796, 797, 798, 799, 800, 801] (by decide +kernel) (by decide +kernel)
set_option maxRecDepth 20000 in
theorem gL_law_X5_pass : GoodIn wsL_law (wsV RL 48 RX5 yX5_pass wsX5_pass) := goodIn_app (goodIn_of _ (by decide +kernel)) ggL_law_X5_pass
set_option maxRecDepth 20000 in
theorem ggL_law_X6_pass : GoodIn wsL_law wsX6_pass := goodIn_r _ [394, 248, 183, 184, 220, 221, 5, 222, 395, 396, 397, 398, 206, 185, 336, 337, 338, 339, 399, 400, 401, 402, 403, 404, 405, 406, 180, 407, 408, 409, 410, 340, 341, 342, 343, 344, 345, 346, 347, 348, 349, 411, 412, 413, 414, 415, 416, 417, 418, 419, 420, 421, 767, 768, 769, 770, 771, 772, 773, 774, 775, 776, 777, 778, 779, 780, 781] (by decide +kernel) (by decide +kernel)
set_option maxRecDepth 20000 in
theorem gL_law_X6_pass : GoodIn wsL_law (wsV RL 51 RX6 yX6_pass wsX6_pass) := goodIn_app (goodIn_of _ (by decide +kernel)) ggL_law_X6_pass
set_option maxRecDepth 20000 in
theorem ggL_law_X5_hurl : GoodIn wsL_law wsX5_hurl := goodIn_r _ [425, 19, 426, 24, 287, 168, 169, 18, 170, 46, 157, 2, 158, 212, 354, 355, 356, 357, 51, 368, 369, 370, 23, 371, 70, 64, 63, 372, 373, 67, 374, 375, 269, 270, 271, 47, 48, 49, 50, 272, 273, 274, 275, 52, 53, 54, 55, 56, 57, 58, 427, 164, 165, 166, 167, 171, 172, 173, 174, 760, 761, 762, 763, 764, 765, 766, 786, 787, 788, 789, 790, 791, 792, 793, 794, 795, 796, 797, 798, 799, 800, 801] (by decide +kernel) (by decide +kernel)
set_option maxRecDepth 20000 in
theorem gL_law_X5_hurl : GoodIn wsL_law (wsV RL 52 RX5 yX5_hurl wsX5_hurl) := goodIn_app (goodIn_of _ (by decide +kernel)) ggL_law_X5_hurl
set_option maxRecDepth 20000 in
theorem ggL_law_X6_hurl : GoodIn wsL_law wsX6_hurl := goodIn_r _ [431, 432, 248, 183, 184, 292, 293, 294, 5, 295, 180, 220, 221, 222, 395, 396, 397, 398, 206, 185, 336, 337, 338, 339, 433, 434, 435, 436, 418, 419, 420, 421, 767, 768, 769, 770, 771, 772, 773, 774, 775, 776, 777, 778, 779, 780, 781] (by decide +kernel) (by decide +kernel)
set_option maxRecDepth 20000 in
theorem gL_law_X6_hurl : GoodIn wsL_law (wsV RL 56 RX6 yX6_hurl wsX6_hurl) := goodIn_app (goodIn_of _ (by decide +kernel)) ggL_law_X6_hurl
set_option maxRecDepth 20000 in
theorem ggL_law_X5_take : GoodIn wsL_law wsX5_take := goodIn_r _ [440, 19, 305, 24, 306, 307, 308, 18, 309, 47, 157, 2, 158, 368, 369, 370, 23, 371, 70, 64, 63, 372, 373, 67, 374, 375, 269, 270, 271, 46, 48, 49, 50, 272, 273, 274, 275, 51, 52, 53, 54, 55, 56, 57, 58, 441, 442, 443, 444, 445, 446, 447, 448, 449, 450, 451, 760, 761, 762, 763, 764, 765, 766, 786, 787, 788, 789, 790, 791, 792, 793, 794, 795, 796, 797, 798, 799, 800, 801] (by decide +kernel) (by decide +kernel)
set_option maxRecDepth 20000 in
theorem gL_law_X5_take : GoodIn wsL_law (wsV RL 57 RX5 yX5_take wsX5_take) := goodIn_app (goodIn_of _ (by decide +kernel)) ggL_law_X5_take
set_option maxRecDepth 20000 in
theorem ggL_law_X6_take : GoodIn wsL_law wsX6_take := goodIn_r _ [455, 183, 318, 319, 320, 5, 321, 220, 221, 222, 344, 345, 346, 395, 396, 397, 398, 206, 185, 456, 457, 458, 767, 768, 769, 770, 771, 772, 773, 774, 775, 776, 777, 778, 779, 780, 781] (by decide +kernel) (by decide +kernel)
set_option maxRecDepth 20000 in
theorem gL_law_X6_take : GoodIn wsL_law (wsV RL 60 RX6 yX6_take wsX6_take) := goodIn_app (goodIn_of _ (by decide +kernel)) ggL_law_X6_take
set_option maxRecDepth 20000 in
theorem ggL_law_X5_stretch : GoodIn wsL_law wsX5_stretch := goodIn_r _ [462, 19, 300, 305, 301, 24, 306, 307, 308, 18, 309, 47, 157, 2, 158, 368, 369, 370, 23, 371, 70, 64, 63, 372, 373, 67, 374, 375, 269, 270, 271, 46, 48, 49, 50, 272, 273, 274, 275, 51, 52, 53, 54, 55, 56, 57, 58, 760, 761, 762, 763, 764, 765, 766, 786, 787, 788, 789, 790, 791, 792, 793, 794, 795, 796, 797, 798, 799, 800, 801] (by decide +kernel) (by decide +kernel)
set_option maxRecDepth 20000 in
theorem gL_law_X5_stretch : GoodIn wsL_law (wsV RL 61 RX5 yX5_stretch wsX5_stretch) := goodIn_app (goodIn_of _ (by decide +kernel)) ggL_law_X5_stretch
set_option maxRecDepth 20000 in
theorem ggL_law_X6_stretch : GoodIn wsL_law wsX6_stretch := goodIn_r _ [466, 183, 318, 319, 320, 5, 321, 220, 221, 222, 344, 345, 346, 395, 396, 397, 398, 206, 185, 767, 768, 769, 770, 771, 772, 773, 774, 775, 776, 777, 778, 779, 780, 781] (by decide +kernel) (by decide +kernel)
set_option maxRecDepth 20000 in
theorem gL_law_X6_stretch : GoodIn wsL_law (wsV RL 64 RX6 yX6_stretch wsX6_stretch) := goodIn_app (goodIn_of _ (by decide +kernel)) ggL_law_X6_stretch
set_option maxRecDepth 20000 in
theorem ggL_law_X5_wear : GoodIn wsL_law wsX5_wear := goodIn_r _ [470, 19, 24, 285, 287, 168, 169, 18, 170, 46, 157, 2, 158, 306, 307, 308, 309, 47, 326, 327, 328, 329, 56, 55, 51, 53, 54, 57, 50, 311, 312, 330, 331, 368, 369, 370, 23, 371, 70, 64, 63, 372, 373, 67, 374, 375, 269, 270, 271, 48, 49, 272, 273, 274, 275, 52, 58, 471, 386, 387, 388, 389, 390, 303, 66, 68, 760, 761, 762, 763, 764, 765, 766, 786, 787, 788, 789, 790, 791, 792, 793, 794, 795, 796, 797, 798, 799, 800, 801] (by decide +kernel) (by decide +kernel)
set_option maxRecDepth 20000 in
theorem gL_law_X5_wear : GoodIn wsL_law (wsV RL 65 RX5 yX5_wear wsX5_wear) := goodIn_app (goodIn_of _ (by decide +kernel)) ggL_law_X5_wear
set_option maxRecDepth 20000 in
theorem ggL_law_X6_wear : GoodIn wsL_law wsX6_wear := goodIn_r _ [475, 183, 292, 293, 294, 5, 295, 180, 220, 221, 222, 318, 319, 320, 321, 336, 337, 338, 339, 184, 340, 341, 342, 343, 344, 345, 346, 347, 348, 349, 395, 396, 397, 398, 206, 185, 411, 412, 413, 414, 415, 416, 417, 418, 419, 420, 421, 767, 768, 769, 770, 771, 772, 773, 774, 775, 776, 777, 778, 779, 780, 781] (by decide +kernel) (by decide +kernel)
set_option maxRecDepth 20000 in
theorem gL_law_X6_wear : GoodIn wsL_law (wsV RL 68 RX6 yX6_wear wsX6_wear) := goodIn_app (goodIn_of _ (by decide +kernel)) ggL_law_X6_wear
set_option maxRecDepth 20000 in
theorem ggL_law_X5_undo : GoodIn wsL_law wsX5_undo := goodIn_r _ [479, 24, 19, 266, 480, 481, 482, 23, 483, 63, 64, 70, 375, 269, 270, 18, 271, 46, 47, 48, 49, 50, 272, 273, 274, 275, 51, 52, 53, 54, 55, 56, 57, 58, 760, 761, 762, 763, 764, 765, 766, 799, 800, 801, 786, 787, 788, 789, 790, 791, 792, 793, 794, 795, 796, 797, 798] (by decide +kernel) (by decide +kernel)
set_option maxRecDepth 20000 in
theorem gL_law_X5_undo : GoodIn wsL_law (wsV RL 69 RX5 yX5_undo wsX5_undo) := goodIn_app (goodIn_of _ (by decide +kernel)) ggL_law_X5_undo
set_option maxRecDepth 20000 in
theorem ggL_law_X6_undo : GoodIn wsL_law wsX6_undo := goodIn_r _ [487, 206, 183, 185, 767, 768, 769, 770, 771, 772, 773, 774, 775, 776, 777, 778, 779, 780, 781] (by decide +kernel) (by decide +kernel)
set_option maxRecDepth 20000 in
theorem gL_law_X6_undo : GoodIn wsL_law (wsV RL 72 RX6 yX6_undo wsX6_undo) := goodIn_app (goodIn_of _ (by decide +kernel)) ggL_law_X6_undo
set_option maxRecDepth 20000 in
theorem ggL_law_X5_behind : GoodIn wsL_law wsX5_behind := goodIn_r _ [491, 19, 33, 212, 157, 2, 158, 287, 168, 169, 18, 170, 46, 492, 493, 494, 32, 495, 82, 496, 497, 269, 270, 271, 47, 48, 49, 50, 272, 273, 274, 275, 51, 52, 53, 54, 55, 56, 57, 58, 498, 499, 500, 501, 502, 377, 378, 379, 380, 381, 382, 383, 384, 327, 328, 329, 311, 312, 330, 331, 385, 386, 387, 388, 389, 390, 303, 66, 67, 68, 760, 761, 762, 763, 764, 765, 766, 786, 787, 788, 789, 790, 791, 792, 793, 794, 795, 796, 797, 798, 806] (by decide +kernel) (by decide +kernel)
set_option maxRecDepth 20000 in
theorem gL_law_X5_behind : GoodIn wsL_law (wsV RL 73 RX5 yX5_behind wsX5_behind) := goodIn_app (goodIn_of _ (by decide +kernel)) ggL_law_X5_behind
set_option maxRecDepth 20000 in
theorem ggL_law_X6_behind : GoodIn wsL_law wsX6_behind := goodIn_r _ [506, 507, 184, 220, 221, 5, 222, 292, 293, 294, 295, 180, 336, 337, 338, 339, 183, 399, 400, 401, 402, 403, 404, 405, 406, 407, 408, 409, 410, 340, 341, 342, 343, 344, 345, 346, 347, 348, 349, 411, 412, 413, 414, 415, 416, 417, 767, 768, 769, 770, 771, 772, 773, 774, 775, 776, 777, 778, 779, 780, 781] (by decide +kernel) (by decide +kernel)
set_option maxRecDepth 20000 in
theorem gL_law_X6_behind : GoodIn wsL_law (wsV RL 76 RX6 yX6_behind wsX6_behind) := goodIn_app (goodIn_of _ (by decide +kernel)) ggL_law_X6_behind
set_option maxRecDepth 20000 in
theorem ggL_law_X5_lies : GoodIn wsL_law wsX5_lies := goodIn_r _ [511, 19, 33, 306, 307, 308, 18, 309, 47, 157, 2, 158, 512, 513, 514, 32, 515, 82, 516, 497, 269, 270, 271, 46, 48, 49, 50, 272, 273, 274, 275, 51, 52, 53, 54, 55, 56, 57, 58, 502, 377, 378, 379, 380, 381, 382, 383, 384, 327, 328, 329, 311, 312, 330, 331, 385, 386, 387, 388, 389, 390, 303, 66, 67, 68, 760, 761, 762, 763, 764, 765, 766, 786, 787, 788, 789, 790, 791, 792, 793, 794, 795, 796, 797, 798, 806] (by decide +kernel) (by decide +kernel)
set_option maxRecDepth 20000 in
theorem gL_law_X5_lies : GoodIn wsL_law (wsV RL 77 RX5 yX5_lies wsX5_lies) := goodIn_app (goodIn_of _ (by decide +kernel)) ggL_law_X5_lies
set_option maxRecDepth 20000 in
theorem ggL_law_X6_lies : GoodIn wsL_law wsX6_lies := goodIn_r _ [520, 184, 318, 319, 320, 5, 321, 183, 220, 221, 222, 336, 337, 338, 339, 344, 345, 346, 403, 404, 405, 406, 180, 407, 408, 409, 410, 340, 341, 342, 343, 347, 348, 349, 411, 412, 413, 414, 415, 416, 417, 767, 768, 769, 770, 771, 772, 773, 774, 775, 776, 777, 778, 779, 780, 781] (by decide +kernel) (by decide +kernel)
set_option maxRecDepth 20000 in
theorem gL_law_X6_lies : GoodIn wsL_law (wsV RL 80 RX6 yX6_lies wsX6_lies) := goodIn_app (goodIn_of _ (by decide +kernel)) ggL_law_X6_lies
set_option maxRecDepth 20000 in
theorem ggL_law_X5_last : GoodIn wsL_law wsX5_last := goodIn_r _ [524, 33, 19, 525, 526, 527, 32, 528, 82, 497, 269, 270, 18, 271, 46, 47, 48, 49, 50, 272, 273, 274, 275, 51, 52, 53, 54, 55, 56, 57, 58, 498, 499, 500, 501, 502, 377, 378, 379, 380, 381, 382, 383, 384, 327, 328, 329, 311, 2, 312, 330, 331, 385, 386, 387, 388, 389, 390, 303, 66, 67, 68, 529, 530, 531, 532, 760, 761, 762, 763, 764, 765, 766, 806, 786, 787, 788, 789, 790, 791, 792, 793, 794, 795, 796, 797, 798] (by decide +kernel) (by decide +kernel)
set_option maxRecDepth 20000 in
theorem gL_law_X5_last : GoodIn wsL_law (wsV RL 81 RX5 yX5_last wsX5_last) := goodIn_app (goodIn_of _ (by decide +kernel)) ggL_law_X5_last
set_option maxRecDepth 20000 in
theorem ggL_law_X6_last : GoodIn wsL_law wsX6_last := goodIn_r _ [536, 180, 184, 336, 337, 338, 5, 339, 183, 399, 400, 401, 402, 403, 404, 405, 406, 407, 408, 409, 410, 340, 341, 342, 343, 344, 345, 346, 347, 348, 349, 411, 412, 413, 414, 415, 416, 417, 767, 768, 769, 770, 771, 772, 773, 774, 775, 776, 777, 778, 779, 780, 781] (by decide +kernel) (by decide +kernel)
set_option maxRecDepth 20000 in
theorem gL_law_X6_last : GoodIn wsL_law (wsV RL 84 RX6 yX6_last wsX6_last) := goodIn_app (goodIn_of _ (by decide +kernel)) ggL_law_X6_last
set_option maxRecDepth 20000 in
theorem ggL_law_X5_safe : GoodIn wsL_law wsX5_safe := goodIn_r _ [540, 19, 33, 287, 168, 169, 18, 170, 46, 157, 2, 158, 212, 541, 542, 543, 32, 544, 545, 442, 443, 444, 47, 56, 546, 446, 447, 448, 449, 450, 451, 547, 548, 549, 550, 82, 497, 269, 270, 271, 48, 49, 50, 272, 273, 274, 275, 51, 52, 53, 54, 55, 57, 58, 551, 552, 553, 554, 555, 355, 356, 357, 502, 377, 378, 379, 380, 381, 382, 383, 384, 327, 328, 329, 311, 312, 330, 331, 385, 386, 387, 388, 389, 390, 303, 66, 67, 68, 445, 760, 761, 762, 763, 764, 765, 766, 786, 787, 788, 789, 790, 791, 792, 793, 794, 795, 796, 797, 798, 806] (by decide +kernel) (by decide +kernel)
set_option maxRecDepth 20000 in
theorem gL_law_X5_safe : GoodIn wsL_law (wsV RL 85 RX5 yX5_safe wsX5_safe) := goodIn_app (goodIn_of _ (by decide +kernel)) ggL_law_X5_safe
set_option maxRecDepth 20000 in
theorem ggL_law_X6_safe : GoodIn wsL_law wsX6_safe := goodIn_r _ [559, 507, 183, 184, 292, 293, 294, 5, 295, 180, 220, 221, 222, 456, 457, 458, 336, 337, 338, 339, 399, 400, 401, 402, 403, 404, 405, 406, 407, 408, 409, 410, 340, 341, 342, 343, 344, 345, 346, 347, 348, 349, 411, 412, 413, 414, 415, 416, 417, 767, 768, 769, 770, 771, 772, 773, 774, 775, 776, 777, 778, 779, 780, 781] (by decide +kernel) (by decide +kernel)
set_option maxRecDepth 20000 in
theorem gL_law_X6_safe : GoodIn wsL_law (wsV RL 88 RX6 yX6_safe wsX6_safe) := goodIn_app (goodIn_of _ (by decide +kernel)) ggL_law_X6_safe
set_option maxRecDepth 20000 in
theorem ggL_law_X5_dare : GoodIn wsL_law wsX5_dare := goodIn_r _ [563, 19, 426, 33, 287, 168, 169, 18, 170, 46, 157, 2, 158, 354, 355, 356, 357, 51, 564, 565, 566, 32, 567, 568, 569, 570, 571, 311, 312, 330, 331, 572, 573, 574, 575, 82, 576, 516, 577, 497, 269, 270, 271, 47, 48, 49, 50, 272, 273, 274, 275, 52, 53, 54, 55, 56, 57, 58, 578, 164, 165, 166, 167, 171, 172, 173, 174, 502, 377, 378, 379, 380, 381, 382, 383, 384, 327, 328, 329, 385, 386, 387, 388, 389, 390, 303, 66, 67, 68, 760, 761, 762, 763, 764, 765, 766, 786, 787, 788, 789, 790, 791, 792, 793, 794, 795, 796, 797, 798, 806] (by decide +kernel) (by decide +kernel)
set_option maxRecDepth 20000 in
theorem gL_law_X5_dare : GoodIn wsL_law (wsV RL 89 RX5 yX5_dare wsX5_dare) := goodIn_app (goodIn_of _ (by decide +kernel)) ggL_law_X5_dare
set_option maxRecDepth 20000 in
theorem ggL_law_X6_dare : GoodIn wsL_law wsX6_dare := goodIn_r _ [582, 183, 184, 292, 293, 294, 5, 295, 180, 220, 221, 222, 336, 337, 338, 339, 433, 434, 435, 436, 583, 584, 585, 586, 407, 408, 409, 410, 340, 341, 342, 343, 344, 345, 346, 347, 348, 349, 411, 412, 413, 414, 415, 416, 417, 767, 768, 769, 770, 771, 772, 773, 774, 775, 776, 777, 778, 779, 780, 781] (by decide +kernel) (by decide +kernel)
set_option maxRecDepth 20000 in
theorem gL_law_X6_dare : GoodIn wsL_law (wsV RL 92 RX6 yX6_dare wsX6_dare) := goodIn_app (goodIn_of _ (by decide +kernel)) ggL_law_X6_dare
set_option maxRecDepth 20000 in
theorem ggL_law_X5_first : GoodIn wsL_law wsX5_first := goodIn_r _ [590, 19, 426, 287, 168, 169, 18, 170, 46, 157, 2, 158, 212, 326, 327, 328, 329, 56, 55, 51, 53, 54, 57, 50, 311, 312, 330, 331, 591, 592, 593, 594, 389, 390, 303, 66, 67, 68, 760, 761, 762, 763, 764, 765, 766, 786, 787, 788, 789, 790, 791, 792, 793, 794, 795, 796, 797, 798] (by decide +kernel) (by decide +kernel)
set_option maxRecDepth 20000 in
theorem gL_law_X5_first : GoodIn wsL_law (wsV RL 93 RX5 yX5_first wsX5_first) := goodIn_app (goodIn_of _ (by decide +kernel)) ggL_law_X5_first
set_option maxRecDepth 20000 in
theorem ggL_law_X6_first : GoodIn wsL_law wsX6_first := goodIn_r _ [598, 183, 184, 292, 293, 294, 5, 295, 180, 220, 221, 222, 336, 337, 338, 339, 340, 341, 342, 343, 344, 345, 346, 347, 348, 349, 411, 412, 413, 414, 415, 416, 417, 767, 768, 769, 770, 771, 772, 773, 774, 775, 776, 777, 778, 779, 780, 781] (by decide +kernel) (by decide +kernel)
set_option maxRecDepth 20000 in
theorem gL_law_X6_first : GoodIn wsL_law (wsV RL 96 RX6 yX6_first wsX6_first) := goodIn_app (goodIn_of _ (by decide +kernel)) ggL_law_X6_first
set_option maxRecDepth 20000 in
theorem ggL_law_X5_ring : GoodIn wsL_law wsX5_ring := goodIn_r _ [602, 19, 265, 287, 168, 169, 18, 170, 46, 157, 2, 158, 603, 604, 605, 606, 47, 55, 384, 327, 328, 329, 56, 51, 53, 54, 57, 50, 311, 312, 330, 331, 760, 761, 762, 763, 764, 765, 766, 786, 787, 788, 789, 790, 791, 792, 793, 794, 795, 796, 797, 798] (by decide +kernel) (by decide +kernel)
set_option maxRecDepth 20000 in
theorem gL_law_X5_ring : GoodIn wsL_law (wsV RL 97 RX5 yX5_ring wsX5_ring) := goodIn_app (goodIn_of _ (by decide +kernel)) ggL_law_X5_ring
set_option maxRecDepth 20000 in
theorem ggL_law_X6_ring : GoodIn wsL_law wsX6_ring := goodIn_r _ [610, 180, 183, 184, 292, 293, 294, 5, 295, 220, 221, 222, 336, 337, 338, 339, 344, 345, 346, 340, 341, 342, 343, 347, 348, 349, 767, 768, 769, 770, 771, 772, 773, 774, 775, 776, 777, 778, 779, 780, 781] (by decide +kernel) (by decide +kernel)
set_option maxRecDepth 20000 in
theorem gL_law_X6_ring : GoodIn wsL_law (wsV RL 100 RX6 yX6_ring wsX6_ring) := goodIn_app (goodIn_of _ (by decide +kernel)) ggL_law_X6_ring
set_option maxRecDepth 20000 in
theorem ggL_law_X5_seen : GoodIn wsL_law wsX5_seen := goodIn_r _ [614, 19, 29, 267, 306, 307, 308, 18, 309, 47, 157, 2, 158, 287, 168, 169, 170, 46, 212, 615, 616, 617, 28, 618, 74, 75, 76, 77, 760, 761, 762, 763, 764, 765, 766, 802, 803, 804, 805, 786, 787, 788, 789, 790, 791, 792, 793, 794, 795, 796, 797, 798] (by decide +kernel) (by decide +kernel)
set_option maxRecDepth 20000 in
theorem gL_law_X5_seen : GoodIn wsL_law (wsV RL 101 RX5 yX5_seen wsX5_seen) := goodIn_app (goodIn_of _ (by decide +kernel)) ggL_law_X5_seen
set_option maxRecDepth 20000 in
theorem ggL_law_X6_seen : GoodIn wsL_law wsX6_seen := goodIn_r _ [622, 205, 187, 318, 319, 320, 5, 321, 183, 220, 221, 222, 292, 293, 294, 295, 180, 767, 768, 769, 770, 771, 772, 773, 774, 775, 776, 777, 778, 779, 780, 781] (by decide +kernel) (by decide +kernel)
set_option maxRecDepth 20000 in
theorem gL_law_X6_seen : GoodIn wsL_law (wsV RL 104 RX6 yX6_seen wsX6_seen) := goodIn_app (goodIn_of _ (by decide +kernel)) ggL_law_X6_seen
set_option maxRecDepth 20000 in
theorem ggL_law_X5_forget : GoodIn wsL_law wsX5_forget := goodIn_r _ [626, 29, 267, 760, 761, 762, 763, 764, 765, 766, 802, 803, 804, 805] (by decide +kernel) (by decide +kernel)
set_option maxRecDepth 20000 in
theorem gL_law_X5_forget : GoodIn wsL_law (wsV RL 105 RX5 yX5_forget wsX5_forget) := goodIn_app (goodIn_of _ (by decide +kernel)) ggL_law_X5_forget
set_option maxRecDepth 20000 in
theorem ggL_law_X6_forget : GoodIn wsL_law wsX6_forget := goodIn_r _ [630, 205, 767, 768, 769, 770, 771, 772, 773, 774, 775, 776, 777, 778, 779, 780, 781] (by decide +kernel) (by decide +kernel)
set_option maxRecDepth 20000 in
theorem gL_law_X6_forget : GoodIn wsL_law (wsV RL 108 RX6 yX6_forget wsX6_forget) := goodIn_app (goodIn_of _ (by decide +kernel)) ggL_law_X6_forget
set_option maxRecDepth 20000 in
theorem ggL_law_X5_hands : GoodIn wsL_law wsX5_hands := goodIn_r _ [634, 19, 29, 287, 168, 169, 18, 170, 46, 157, 2, 158, 212, 635, 636, 637, 28, 638, 74, 75, 76, 639, 640, 641, 77, 642, 307, 308, 309, 47, 311, 312, 330, 331, 760, 761, 762, 763, 764, 765, 766, 786, 787, 788, 789, 790, 791, 792, 793, 794, 795, 796, 797, 798, 802, 803, 804, 805] (by decide +kernel) (by decide +kernel)
set_option maxRecDepth 20000 in
theorem gL_law_X5_hands : GoodIn wsL_law (wsV RL 109 RX5 yX5_hands wsX5_hands) := goodIn_app (goodIn_of _ (by decide +kernel)) ggL_law_X5_hands
set_option maxRecDepth 20000 in
theorem ggL_law_X6_hands : GoodIn wsL_law wsX6_hands := goodIn_r _ [646, 292, 293, 294, 5, 295, 180, 220, 221, 222, 647, 648, 649, 650, 205, 187, 183, 347, 348, 349, 767, 768, 769, 770, 771, 772, 773, 774, 775, 776, 777, 778, 779, 780, 781] (by decide +kernel) (by decide +kernel)
set_option maxRecDepth 20000 in
theorem gL_law_X6_hands : GoodIn wsL_law (wsV RL 112 RX6 yX6_hands wsX6_hands) := goodIn_app (goodIn_of _ (by decide +kernel)) ggL_law_X6_hands
set_option maxRecDepth 20000 in
theorem ggL_law_X5_kinds : GoodIn wsL_law wsX5_kinds := goodIn_r _ [654, 19, 29, 301, 306, 307, 308, 18, 309, 47, 157, 2, 158, 655, 656, 657, 28, 658, 74, 76, 75, 641, 659, 77, 660, 168, 169, 170, 46, 311, 312, 330, 331, 760, 761, 762, 763, 764, 765, 766, 786, 787, 788, 789, 790, 791, 792, 793, 794, 795, 796, 797, 798, 802, 803, 804, 805] (by decide +kernel) (by decide +kernel)
set_option maxRecDepth 20000 in
theorem gL_law_X5_kinds : GoodIn wsL_law (wsV RL 113 RX5 yX5_kinds wsX5_kinds) := goodIn_app (goodIn_of _ (by decide +kernel)) ggL_law_X5_kinds
set_option maxRecDepth 20000 in
theorem ggL_law_X6_kinds : GoodIn wsL_law wsX6_kinds := goodIn_r _ [664, 183, 318, 319, 320, 5, 321, 220, 221, 222, 647, 648, 649, 650, 205, 187, 180, 347, 348, 349, 767, 768, 769, 770, 771, 772, 773, 774, 775, 776, 777, 778, 779, 780, 781] (by decide +kernel) (by decide +kernel)
set_option maxRecDepth 20000 in
theorem gL_law_X6_kinds : GoodIn wsL_law (wsV RL 116 RX6 yX6_kinds wsX6_kinds) := goodIn_app (goodIn_of _ (by decide +kernel)) ggL_law_X6_kinds
set_option maxRecDepth 20000 in
theorem ggL_law_X5_sizes : GoodIn wsL_law wsX5_sizes := goodIn_r _ [668, 19, 29, 300, 306, 307, 308, 18, 309, 47, 157, 2, 158, 212, 655, 656, 657, 28, 658, 74, 76, 75, 641, 659, 77, 660, 168, 169, 170, 46, 311, 312, 330, 331, 760, 761, 762, 763, 764, 765, 766, 786, 787, 788, 789, 790, 791, 792, 793, 794, 795, 796, 797, 798, 802, 803, 804, 805] (by decide +kernel) (by decide +kernel)
set_option maxRecDepth 20000 in
theorem gL_law_X5_sizes : GoodIn wsL_law (wsV RL 117 RX5 yX5_sizes wsX5_sizes) := goodIn_app (goodIn_of _ (by decide +kernel)) ggL_law_X5_sizes
set_option maxRecDepth 20000 in
theorem ggL_law_X6_sizes : GoodIn wsL_law wsX6_sizes := goodIn_r _ [672, 183, 318, 319, 320, 5, 321, 220, 221, 222, 647, 648, 649, 650, 205, 187, 180, 347, 348, 349, 767, 768, 769, 770, 771, 772, 773, 774, 775, 776, 777, 778, 779, 780, 781] (by decide +kernel) (by decide +kernel)
set_option maxRecDepth 20000 in
theorem gL_law_X6_sizes : GoodIn wsL_law (wsV RL 120 RX6 yX6_sizes wsX6_sizes) := goodIn_app (goodIn_of _ (by decide +kernel)) ggL_law_X6_sizes
set_option maxRecDepth 20000 in
theorem ggL_law_X5_likely : GoodIn wsL_law wsX5_likely := goodIn_r _ [676, 19, 426, 285, 304, 287, 168, 169, 18, 170, 46, 157, 2, 158, 212, 354, 355, 356, 357, 51, 326, 327, 328, 329, 56, 55, 53, 54, 57, 50, 311, 312, 330, 331, 677, 678, 679, 760, 761, 762, 763, 764, 765, 766, 786, 787, 788, 789, 790, 791, 792, 793, 794, 795, 796, 797, 798] (by decide +kernel) (by decide +kernel)
set_option maxRecDepth 20000 in
theorem gL_law_X5_likely : GoodIn wsL_law (wsV RL 121 RX5 yX5_likely wsX5_likely) := goodIn_app (goodIn_of _ (by decide +kernel)) ggL_law_X5_likely
set_option maxRecDepth 20000 in
theorem ggL_law_X6_likely : GoodIn wsL_law wsX6_likely := goodIn_r _ [683, 317, 183, 292, 293, 294, 5, 295, 180, 220, 221, 222, 336, 337, 338, 339, 184, 340, 341, 342, 343, 344, 345, 346, 347, 348, 349, 767, 768, 769, 770, 771, 772, 773, 774, 775, 776, 777, 778, 779, 780, 781] (by decide +kernel) (by decide +kernel)
set_option maxRecDepth 20000 in
theorem gL_law_X6_likely : GoodIn wsL_law (wsV RL 124 RX6 yX6_likely wsX6_likely) := goodIn_app (goodIn_of _ (by decide +kernel)) ggL_law_X6_likely
set_option maxRecDepth 20000 in
theorem ggL_law_X5_time : GoodIn wsL_law wsX5_time := goodIn_r _ [687, 33, 19, 265, 212, 157, 2, 158, 688, 689, 690, 32, 691, 82, 497, 269, 270, 18, 271, 46, 47, 48, 49, 50, 272, 273, 274, 275, 51, 52, 53, 54, 55, 56, 57, 58, 692, 693, 694, 695, 696, 697, 698, 699, 700, 516, 701, 702, 703, 704, 705, 706, 707, 708, 555, 355, 356, 357, 709, 172, 173, 174, 502, 377, 378, 379, 380, 381, 382, 383, 384, 327, 328, 329, 311, 312, 330, 331, 385, 386, 387, 388, 389, 390, 303, 66, 67, 68, 710, 530, 531, 532, 445, 446, 447, 448, 449, 450, 451, 441, 442, 443, 444, 711, 712, 713, 714, 760, 761, 762, 763, 764, 765, 766, 786, 787, 788, 789, 790, 791, 792, 793, 794, 795, 796, 797, 798, 806] (by decide +kernel) (by decide +kernel)
set_option maxRecDepth 20000 in
theorem gL_law_X5_time : GoodIn wsL_law (wsV RL 125 RX5 yX5_time wsX5_time) := goodIn_app (goodIn_of _ (by decide +kernel)) ggL_law_X5_time
set_option maxRecDepth 20000 in
theorem ggL_law_X6_time : GoodIn wsL_law wsX6_time := goodIn_r _ [718, 719, 720, 260, 721, 722, 723, 180, 184, 220, 221, 5, 222, 336, 337, 338, 339, 183, 724, 725, 726, 727, 728, 729, 730, 731, 344, 345, 346, 433, 434, 435, 436, 403, 404, 405, 406, 407, 408, 409, 410, 340, 341, 342, 343, 347, 348, 349, 411, 412, 413, 414, 415, 416, 417, 456, 457, 458, 767, 768, 769, 770, 771, 772, 773, 774, 775, 776, 777, 778, 779, 780, 781] (by decide +kernel) (by decide +kernel)
set_option maxRecDepth 20000 in
theorem gL_law_X6_time : GoodIn wsL_law (wsV RL 128 RX6 yX6_time wsX6_time) := goodIn_app (goodIn_of _ (by decide +kernel)) ggL_law_X6_time
set_option maxRecDepth 20000 in
theorem ggL_law_X5_keep : GoodIn wsL_law wsX5_keep := goodIn_r _ [735, 25, 266, 19, 368, 369, 370, 23, 371, 70, 64, 63, 372, 373, 67, 374, 375, 269, 270, 18, 271, 46, 47, 48, 49, 50, 272, 273, 274, 275, 51, 52, 53, 54, 55, 56, 57, 58, 760, 761, 762, 763, 764, 765, 766, 799, 800, 801, 786, 787, 788, 789, 790, 791, 792, 793, 794, 795, 796, 797, 798] (by decide +kernel) (by decide +kernel)
set_option maxRecDepth 20000 in
theorem gL_law_X5_keep : GoodIn wsL_law (wsV RL 129 RX5 yX5_keep wsX5_keep) := goodIn_app (goodIn_of _ (by decide +kernel)) ggL_law_X5_keep
set_option maxRecDepth 20000 in
theorem ggL_law_X6_keep : GoodIn wsL_law wsX6_keep := goodIn_r _ [739, 207, 186, 183, 767, 768, 769, 770, 771, 772, 773, 774, 775, 776, 777, 778, 779, 780, 781] (by decide +kernel) (by decide +kernel)
set_option maxRecDepth 20000 in
theorem gL_law_X6_keep : GoodIn wsL_law (wsV RL 132 RX6 yX6_keep wsX6_keep) := goodIn_app (goodIn_of _ (by decide +kernel)) ggL_law_X6_keep
set_option maxRecDepth 20000 in
theorem ggL_law_X5_back : GoodIn wsL_law wsX5_back := goodIn_r _ [743, 25, 19, 24, 266, 480, 481, 482, 23, 483, 63, 64, 70, 375, 269, 270, 18, 271, 46, 47, 48, 49, 50, 272, 273, 274, 275, 51, 52, 53, 54, 55, 56, 57, 58, 760, 761, 762, 763, 764, 765, 766, 799, 800, 801, 786, 787, 788, 789, 790, 791, 792, 793, 794, 795, 796, 797, 798] (by decide +kernel) (by decide +kernel)
set_option maxRecDepth 20000 in
theorem gL_law_X5_back : GoodIn wsL_law (wsV RL 133 RX5 yX5_back wsX5_back) := goodIn_app (goodIn_of _ (by decide +kernel)) ggL_law_X5_back
set_option maxRecDepth 20000 in
theorem ggL_law_X6_back : GoodIn wsL_law wsX6_back := goodIn_r _ [747, 207, 183, 186, 206, 767, 768, 769, 770, 771, 772, 773, 774, 775, 776, 777, 778, 779, 780, 781] (by decide +kernel) (by decide +kernel)
set_option maxRecDepth 20000 in
theorem gL_law_X6_back : GoodIn wsL_law (wsV RL 136 RX6 yX6_back wsX6_back) := goodIn_app (goodIn_of _ (by decide +kernel)) ggL_law_X6_back
set_option maxRecDepth 20000 in
theorem ggL_law_X5_count : GoodIn wsL_law wsX5_count := goodIn_r _ [751, 19, 265, 426, 366, 367, 29, 267, 24, 266, 25, 15, 34, 710, 530, 531, 18, 532, 46, 51, 445, 446, 447, 448, 449, 450, 451, 441, 442, 443, 444, 47, 56, 760, 761, 762, 763, 764, 765, 766, 786, 787, 788, 789, 790, 791, 792, 793, 794, 795, 796, 797, 798, 802, 803, 804, 805, 799, 800, 801, 782, 783, 784, 785] (by decide +kernel) (by decide +kernel)
set_option maxRecDepth 20000 in
theorem gL_law_X5_count : GoodIn wsL_law (wsV RL 137 RX5 yX5_count wsX5_count) := goodIn_app (goodIn_of _ (by decide +kernel)) ggL_law_X5_count
set_option maxRecDepth 20000 in
theorem ggL_law_X6_count : GoodIn wsL_law wsX6_count := goodIn_r _ [755, 180, 183, 205, 206, 207, 219, 756, 757, 758, 5, 759, 456, 457, 458, 767, 768, 769, 770, 771, 772, 773, 774, 775, 776, 777, 778, 779, 780, 781] (by decide +kernel) (by decide +kernel)
set_option maxRecDepth 20000 in
theorem gL_law_X6_count : GoodIn wsL_law (wsV RL 140 RX6 yX6_count wsX6_count) := goodIn_app (goodIn_of _ (by decide +kernel)) ggL_law_X6_count
theorem dL_law_0 : decode cL_law 0 = .ok (.new 7, 3) := by decide +kernel
theorem dL_law_3 : decode cL_law 3 = .ok (.dup, 1) := by decide +kernel
theorem dL_law_4 : decode cL_law 4 = .ok (.invokespecial 9, 3) := by decide +kernel
theorem dL_law_7 : decode cL_law 7 = .ok (.astore_n 1, 1) := by decide +kernel
theorem dL_law_8 : decode cL_law 8 = .ok (.new 10, 3) := by decide +kernel
theorem dL_law_11 : decode cL_law 11 = .ok (.dup, 1) := by decide +kernel
theorem dL_law_12 : decode cL_law 12 = .ok (.invokespecial 12, 3) := by decide +kernel
theorem dL_law_15 : decode cL_law 15 = .ok (.astore_n 2, 1) := by decide +kernel
theorem dL_law_16 : decode cL_law 16 = .ok (.iconst 0, 1) := by decide +kernel
theorem dL_law_17 : decode cL_law 17 = .ok (.istore_n 3, 1) := by decide +kernel
theorem dL_law_18 : decode cL_law 18 = .ok (.iload_n 3, 1) := by decide +kernel
theorem dL_law_19 : decode cL_law 19 = .ok (.aload_n 0, 1) := by decide +kernel
theorem dL_law_20 : decode cL_law 20 = .ok (.arraylength, 1) := by decide +kernel
theorem dL_law_21 : decode cL_law 21 = .ok (.iconst 4, 1) := by decide +kernel
theorem dL_law_22 : decode cL_law 22 = .ok (.isub, 1) := by decide +kernel
theorem dL_law_23 : decode cL_law 23 = .ok (.if_icmp .gt 988, 3) := by decide +kernel
theorem dL_law_26 : decode cL_law 26 = .ok (.aload_n 0, 1) := by decide +kernel
theorem dL_law_27 : decode cL_law 27 = .ok (.iload_n 3, 1) := by decide +kernel
theorem dL_law_28 : decode cL_law 28 = .ok (.iaload, 1) := by decide +kernel
theorem dL_law_29 : decode cL_law 29 = .ok (.bipush 31, 2) := by decide +kernel
theorem dL_law_31 : decode cL_law 31 = .ok (.iand, 1) := by decide +kernel
theorem dL_law_32 : decode cL_law 32 = .ok (.tableswitch 973 0 30 #[140, 163, 176, 189, 202, 235, 268, 301, 334, 357, 400, 423, 446, 479, 492, 525, 548, 561, 604, 637, 670, 693, 736, 749, 782, 805, 838, 881, 924, 937, 950], 140) := by decide +kernel
theorem dL_law_172 : decode cL_law 172 = .ok (.aload_n 1, 1) := by decide +kernel
theorem dL_law_173 : decode cL_law 173 = .ok (.aload_n 0, 1) := by decide +kernel
theorem dL_law_174 : decode cL_law 174 = .ok (.iload_n 3, 1) := by decide +kernel
theorem dL_law_175 : decode cL_law 175 = .ok (.iconst 1, 1) := by decide +kernel
theorem dL_law_176 : decode cL_law 176 = .ok (.iadd, 1) := by decide +kernel
theorem dL_law_177 : decode cL_law 177 = .ok (.iaload, 1) := by decide +kernel
theorem dL_law_178 : decode cL_law 178 = .ok (.invokevirtual 13, 3) := by decide +kernel
theorem dL_law_181 : decode cL_law 181 = .ok (.aload_n 2, 1) := by decide +kernel
theorem dL_law_182 : decode cL_law 182 = .ok (.aload_n 0, 1) := by decide +kernel
theorem dL_law_183 : decode cL_law 183 = .ok (.iload_n 3, 1) := by decide +kernel
theorem dL_law_184 : decode cL_law 184 = .ok (.iconst 1, 1) := by decide +kernel
theorem dL_law_185 : decode cL_law 185 = .ok (.iadd, 1) := by decide +kernel
theorem dL_law_186 : decode cL_law 186 = .ok (.iaload, 1) := by decide +kernel
theorem dL_law_187 : decode cL_law 187 = .ok (.invokevirtual 17, 3) := by decide +kernel
theorem dL_law_190 : decode cL_law 190 = .ok (.if_icmp .eq 815, 3) := by decide +kernel
theorem dL_law_193 : decode cL_law 193 = .ok (.iconst 0, 1) := by decide +kernel
theorem dL_law_194 : decode cL_law 194 = .ok (.ireturn, 1) := by decide +kernel
theorem dL_law_195 : decode cL_law 195 = .ok (.aload_n 1, 1) := by decide +kernel
theorem dL_law_196 : decode cL_law 196 = .ok (.invokevirtual 18, 3) := by decide +kernel
theorem dL_law_199 : decode cL_law 199 = .ok (.aload_n 2, 1) := by decide +kernel
theorem dL_law_200 : decode cL_law 200 = .ok (.invokevirtual 22, 3) := by decide +kernel
theorem dL_law_203 : decode cL_law 203 = .ok (.if_icmp .eq 802, 3) := by decide +kernel
theorem dL_law_206 : decode cL_law 206 = .ok (.iconst 0, 1) := by decide +kernel
theorem dL_law_207 : decode cL_law 207 = .ok (.ireturn, 1) := by decide +kernel
theorem dL_law_208 : decode cL_law 208 = .ok (.aload_n 1, 1) := by decide +kernel
theorem dL_law_209 : decode cL_law 209 = .ok (.invokevirtual 23, 3) := by decide +kernel
theorem dL_law_212 : decode cL_law 212 = .ok (.aload_n 2, 1) := by decide +kernel
theorem dL_law_213 : decode cL_law 213 = .ok (.invokevirtual 26, 3) := by decide +kernel
theorem dL_law_216 : decode cL_law 216 = .ok (.if_icmp .eq 789, 3) := by decide +kernel
theorem dL_law_219 : decode cL_law 219 = .ok (.iconst 0, 1) := by decide +kernel
theorem dL_law_220 : decode cL_law 220 = .ok (.ireturn, 1) := by decide +kernel
theorem dL_law_221 : decode cL_law 221 = .ok (.aload_n 1, 1) := by decide +kernel
theorem dL_law_222 : decode cL_law 222 = .ok (.invokevirtual 27, 3) := by decide +kernel
theorem dL_law_225 : decode cL_law 225 = .ok (.aload_n 2, 1) := by decide +kernel
theorem dL_law_226 : decode cL_law 226 = .ok (.invokevirtual 30, 3) := by decide +kernel
theorem dL_law_229 : decode cL_law 229 = .ok (.if_icmp .eq 776, 3) := by decide +kernel
theorem dL_law_232 : decode cL_law 232 = .ok (.iconst 0, 1) := by decide +kernel
theorem dL_law_233 : decode cL_law 233 = .ok (.ireturn, 1) := by decide +kernel
theorem dL_law_234 : decode cL_law 234 = .ok (.aload_n 1, 1) := by decide +kernel
theorem dL_law_235 : decode cL_law 235 = .ok (.aload_n 0, 1) := by decide +kernel
theorem dL_law_236 : decode cL_law 236 = .ok (.iload_n 3, 1) := by decide +kernel
theorem dL_law_237 : decode cL_law 237 = .ok (.iconst 1, 1) := by decide +kernel
theorem dL_law_238 : decode cL_law 238 = .ok (.iadd, 1) := by decide +kernel
theorem dL_law_239 : decode cL_law 239 = .ok (.iaload, 1) := by decide +kernel
theorem dL_law_240 : decode cL_law 240 = .ok (.aload_n 0, 1) := by decide +kernel
theorem dL_law_241 : decode cL_law 241 = .ok (.iload_n 3, 1) := by decide +kernel
theorem dL_law_242 : decode cL_law 242 = .ok (.iconst 2, 1) := by decide +kernel
theorem dL_law_243 : decode cL_law 243 = .ok (.iadd, 1) := by decide +kernel
theorem dL_law_244 : decode cL_law 244 = .ok (.iaload, 1) := by decide +kernel
theorem dL_law_245 : decode cL_law 245 = .ok (.invokevirtual 31, 3) := by decide +kernel
theorem dL_law_248 : decode cL_law 248 = .ok (.aload_n 2, 1) := by decide +kernel
theorem dL_law_249 : decode cL_law 249 = .ok (.aload_n 0, 1) := by decide +kernel
theorem dL_law_250 : decode cL_law 250 = .ok (.iload_n 3, 1) := by decide +kernel
theorem dL_law_251 : decode cL_law 251 = .ok (.iconst 1, 1) := by decide +kernel
theorem dL_law_252 : decode cL_law 252 = .ok (.iadd, 1) := by decide +kernel
theorem dL_law_253 : decode cL_law 253 = .ok (.iaload, 1) := by decide +kernel
theorem dL_law_254 : decode cL_law 254 = .ok (.aload_n 0, 1) := by decide +kernel
theorem dL_law_255 : decode cL_law 255 = .ok (.iload_n 3, 1) := by decide +kernel
theorem dL_law_256 : decode cL_law 256 = .ok (.iconst 2, 1) := by decide +kernel
theorem dL_law_257 : decode cL_law 257 = .ok (.iadd, 1) := by decide +kernel
theorem dL_law_258 : decode cL_law 258 = .ok (.iaload, 1) := by decide +kernel
theorem dL_law_259 : decode cL_law 259 = .ok (.invokevirtual 35, 3) := by decide +kernel
theorem dL_law_262 : decode cL_law 262 = .ok (.if_icmp .eq 743, 3) := by decide +kernel
theorem dL_law_265 : decode cL_law 265 = .ok (.iconst 0, 1) := by decide +kernel
theorem dL_law_266 : decode cL_law 266 = .ok (.ireturn, 1) := by decide +kernel
theorem dL_law_267 : decode cL_law 267 = .ok (.aload_n 1, 1) := by decide +kernel
theorem dL_law_268 : decode cL_law 268 = .ok (.aload_n 0, 1) := by decide +kernel
theorem dL_law_269 : decode cL_law 269 = .ok (.iload_n 3, 1) := by decide +kernel
theorem dL_law_270 : decode cL_law 270 = .ok (.iconst 1, 1) := by decide +kernel
theorem dL_law_271 : decode cL_law 271 = .ok (.iadd, 1) := by decide +kernel
theorem dL_law_272 : decode cL_law 272 = .ok (.iaload, 1) := by decide +kernel
theorem dL_law_273 : decode cL_law 273 = .ok (.aload_n 0, 1) := by decide +kernel
theorem dL_law_274 : decode cL_law 274 = .ok (.iload_n 3, 1) := by decide +kernel
theorem dL_law_275 : decode cL_law 275 = .ok (.iconst 2, 1) := by decide +kernel
theorem dL_law_276 : decode cL_law 276 = .ok (.iadd, 1) := by decide +kernel
theorem dL_law_277 : decode cL_law 277 = .ok (.iaload, 1) := by decide +kernel
theorem dL_law_278 : decode cL_law 278 = .ok (.invokevirtual 36, 3) := by decide +kernel
theorem dL_law_281 : decode cL_law 281 = .ok (.aload_n 2, 1) := by decide +kernel
theorem dL_law_282 : decode cL_law 282 = .ok (.aload_n 0, 1) := by decide +kernel
theorem dL_law_283 : decode cL_law 283 = .ok (.iload_n 3, 1) := by decide +kernel
theorem dL_law_284 : decode cL_law 284 = .ok (.iconst 1, 1) := by decide +kernel
theorem dL_law_285 : decode cL_law 285 = .ok (.iadd, 1) := by decide +kernel
theorem dL_law_286 : decode cL_law 286 = .ok (.iaload, 1) := by decide +kernel
theorem dL_law_287 : decode cL_law 287 = .ok (.aload_n 0, 1) := by decide +kernel
theorem dL_law_288 : decode cL_law 288 = .ok (.iload_n 3, 1) := by decide +kernel
theorem dL_law_289 : decode cL_law 289 = .ok (.iconst 2, 1) := by decide +kernel
theorem dL_law_290 : decode cL_law 290 = .ok (.iadd, 1) := by decide +kernel
theorem dL_law_291 : decode cL_law 291 = .ok (.iaload, 1) := by decide +kernel
theorem dL_law_292 : decode cL_law 292 = .ok (.invokevirtual 39, 3) := by decide +kernel
theorem dL_law_295 : decode cL_law 295 = .ok (.if_icmp .eq 710, 3) := by decide +kernel
theorem dL_law_298 : decode cL_law 298 = .ok (.iconst 0, 1) := by decide +kernel
theorem dL_law_299 : decode cL_law 299 = .ok (.ireturn, 1) := by decide +kernel
theorem dL_law_300 : decode cL_law 300 = .ok (.aload_n 1, 1) := by decide +kernel
theorem dL_law_301 : decode cL_law 301 = .ok (.aload_n 0, 1) := by decide +kernel
theorem dL_law_302 : decode cL_law 302 = .ok (.iload_n 3, 1) := by decide +kernel
theorem dL_law_303 : decode cL_law 303 = .ok (.iconst 1, 1) := by decide +kernel
theorem dL_law_304 : decode cL_law 304 = .ok (.iadd, 1) := by decide +kernel
theorem dL_law_305 : decode cL_law 305 = .ok (.iaload, 1) := by decide +kernel
theorem dL_law_306 : decode cL_law 306 = .ok (.aload_n 0, 1) := by decide +kernel
theorem dL_law_307 : decode cL_law 307 = .ok (.iload_n 3, 1) := by decide +kernel
theorem dL_law_308 : decode cL_law 308 = .ok (.iconst 2, 1) := by decide +kernel
theorem dL_law_309 : decode cL_law 309 = .ok (.iadd, 1) := by decide +kernel
