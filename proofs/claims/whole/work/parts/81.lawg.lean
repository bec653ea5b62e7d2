set_option maxRecDepth 20000 in
theorem ggL_law_X7_init : GoodIn wsL_law wsX7_init := goodIn_r _ [10, 11, 12, 13, 14, 15, 16, 17, 18, 19, 20, 21, 22, 23, 24, 25, 26, 27, 28, 29, 30, 31, 32, 33, 34, 35, 36, 37, 38, 39, 40, 41, 42, 43, 44, 45, 46, 47, 48, 49, 50, 51, 52, 53, 54, 55, 56, 57, 58, 59, 60, 61, 62, 63, 64, 65, 66, 67, 68, 69, 70, 71, 72, 73, 74, 75, 76, 77, 78, 79, 80, 81, 82, 83, 84, 85, 86, 87, 88, 89, 90, 91, 92, 93, 94, 95, 96, 97, 98, 99, 100, 101, 102, 722, 696, 697, 698, 699, 700, 723, 724, 725, 726, 727, 728, 729, 730, 731, 732, 733, 734, 735, 736, 737, 738, 739, 740, 741, 742] (by decide +kernel) (by decide +kernel)
set_option maxRecDepth 20000 in
theorem gL_law_X7_init : GoodIn wsL_law (wsX7_init) := ggL_law_X7_init
set_option maxRecDepth 20000 in
theorem ggL_law_X8_init : GoodIn wsL_law wsX8_init := goodIn_r _ [105, 106, 12, 13, 39, 107, 108, 109, 110, 111, 112, 113, 72, 114, 115, 116, 117, 118, 119, 120, 121, 122, 123, 701, 702, 703, 704, 705, 706, 707, 708, 709, 710, 711, 712, 713, 714, 715, 716, 717, 718, 719, 720, 721] (by decide +kernel) (by decide +kernel)
set_option maxRecDepth 20000 in
theorem gL_law_X8_init : GoodIn wsL_law (wsX8_init) := ggL_law_X8_init
set_option maxRecDepth 20000 in
theorem ggL_law_L_cost : GoodIn wsL_law wsL_cost := goodIn_ca (goodIn_r _ [127, 128, 129, 130, 131, 2, 132, 133, 134, 135, 136, 137, 138, 47, 16, 48, 49, 50, 51, 52, 53, 54, 55] (by decide +kernel) (by decide +kernel)) (goodIn_sub (fun _ h => List.mem_append_left _ (List.mem_append_left _ (List.mem_append_left _ (List.mem_append_right _ h)))) (by decide +kernel))
set_option maxRecDepth 20000 in
theorem gL_law_L_cost : GoodIn wsL_law (va_wsS RL 86 yL_cost wsL_cost) := goodIn_app (goodIn_of _ (by decide +kernel)) ggL_law_L_cost
set_option maxRecDepth 20000 in
theorem ggL_law_X8_cost : GoodIn wsL_law wsX8_cost := goodIn_r _ [142, 143, 144, 5, 145, 146, 147, 148, 149, 150, 151, 152, 153, 154, 155, 156, 157, 107, 701, 702, 703, 704, 705, 706, 707, 708, 709, 710, 711, 712, 713, 714, 715, 716, 717, 718, 719, 720, 721] (by decide +kernel) (by decide +kernel)
set_option maxRecDepth 20000 in
theorem gL_law_X8_cost : GoodIn wsL_law (wsV RL 91 RX8 yX8_cost wsX8_cost) := goodIn_app (goodIn_of _ (by decide +kernel)) ggL_law_X8_cost
set_option maxRecDepth 20000 in
theorem ggL_law_X8_thrown : GoodIn wsL_law wsX8_thrown := goodIn_r _ [161, 153, 701, 702, 703, 704, 705, 706, 707, 708, 709, 710, 711, 712, 713, 714, 715, 716, 717, 718, 719, 720, 721] (by decide +kernel) (by decide +kernel)
set_option maxRecDepth 20000 in
theorem gL_law_X8_thrown : GoodIn wsL_law (wsV RL 92 RX8 yX8_thrown wsX8_thrown) := goodIn_app (goodIn_of _ (by decide +kernel)) ggL_law_X8_thrown
set_option maxRecDepth 20000 in
theorem ggL_law_L_isBarred : GoodIn wsL_law wsL_isBarred := goodIn_ca (goodIn_r _ [164, 128, 165, 166, 167, 2, 168, 17, 133, 134, 135, 136, 137, 169, 170, 171, 16, 172, 40, 45, 696, 697, 698, 699, 700, 722] (by decide +kernel) (by decide +kernel)) (goodIn_sub (fun _ h => List.mem_append_left _ (List.mem_append_left _ (List.mem_append_left _ (List.mem_append_right _ h)))) (by decide +kernel))
set_option maxRecDepth 20000 in
theorem gL_law_L_isBarred : GoodIn wsL_law (va_wsS RL 95 yL_isBarred wsL_isBarred) := goodIn_app (goodIn_of _ (by decide +kernel)) ggL_law_L_isBarred
set_option maxRecDepth 20000 in
theorem ggL_law_X8_isBarred : GoodIn wsL_law wsX8_isBarred := goodIn_r _ [176, 143, 144, 5, 145, 146, 147, 148, 149, 150, 151, 152, 153, 177, 178, 179, 180, 107, 108, 154, 155, 156, 157, 701, 702, 703, 704, 705, 706, 707, 708, 709, 710, 711, 712, 713, 714, 715, 716, 717, 718, 719, 720, 721] (by decide +kernel) (by decide +kernel)
set_option maxRecDepth 20000 in
theorem gL_law_X8_isBarred : GoodIn wsL_law (wsV RL 97 RX8 yX8_isBarred wsX8_isBarred) := goodIn_app (goodIn_of _ (by decide +kernel)) ggL_law_X8_isBarred
set_option maxRecDepth 20000 in
theorem ggL_law_L_setLimit : GoodIn wsL_law wsL_setLimit := goodIn_ca (goodIn_r _ [183, 128, 184, 185, 186, 2, 187, 136, 137, 17, 188, 42, 43, 16, 44, 40, 45, 46, 47, 48, 49, 50, 51, 52, 53, 54, 55, 56, 57, 58, 696, 697, 698, 699, 700, 722] (by decide +kernel) (by decide +kernel)) (goodIn_sub (fun _ h => List.mem_append_left _ (List.mem_append_left _ (List.mem_append_left _ (List.mem_append_right _ h)))) (by decide +kernel))
set_option maxRecDepth 20000 in
theorem gL_law_L_setLimit : GoodIn wsL_law (va_wsS RL 98 yL_setLimit wsL_setLimit) := goodIn_app (goodIn_of _ (by decide +kernel)) ggL_law_L_setLimit
set_option maxRecDepth 20000 in
theorem ggL_law_X8_setLimit : GoodIn wsL_law wsX8_setLimit := goodIn_r _ [192, 108, 146, 147, 5, 148, 149, 150, 151, 152, 153, 177, 178, 179, 180, 107, 154, 155, 156, 157, 701, 702, 703, 704, 705, 706, 707, 708, 709, 710, 711, 712, 713, 714, 715, 716, 717, 718, 719, 720, 721] (by decide +kernel) (by decide +kernel)
set_option maxRecDepth 20000 in
theorem gL_law_X8_setLimit : GoodIn wsL_law (wsV RL 101 RX8 yX8_setLimit wsX8_setLimit) := goodIn_app (goodIn_of _ (by decide +kernel)) ggL_law_X8_setLimit
set_option maxRecDepth 20000 in
theorem ggL_law_L_grace : GoodIn wsL_law wsL_grace := goodIn_ca (goodIn_ca (goodIn_r _ [195, 128, 196, 197, 198, 199, 2, 200, 136, 137, 201, 202, 21, 203, 204, 205, 20, 206, 207, 208, 209, 210, 211, 65, 696, 697, 698, 699, 700, 723, 724, 725, 726] (by decide +kernel) (by decide +kernel)) (goodIn_sub (fun _ h => List.mem_append_left _ (List.mem_append_left _ (List.mem_append_left _ (List.mem_append_right _ h)))) (by decide +kernel))) (goodIn_sub (fun _ h => List.mem_append_left _ (List.mem_append_left _ (List.mem_append_right _ h))) (by decide +kernel))
set_option maxRecDepth 20000 in
theorem gL_law_L_grace : GoodIn wsL_law (va_wsS RL 102 yL_grace wsL_grace) := goodIn_app (goodIn_of _ (by decide +kernel)) ggL_law_L_grace
set_option maxRecDepth 20000 in
theorem ggL_law_X8_grace : GoodIn wsL_law wsX8_grace := goodIn_r _ [215, 216, 111, 146, 147, 5, 148, 149, 150, 151, 152, 153, 701, 702, 703, 704, 705, 706, 707, 708, 709, 710, 711, 712, 713, 714, 715, 716, 717, 718, 719, 720, 721] (by decide +kernel) (by decide +kernel)
set_option maxRecDepth 20000 in
theorem gL_law_X8_grace : GoodIn wsL_law (wsV RL 104 RX8 yX8_grace wsX8_grace) := goodIn_app (goodIn_of _ (by decide +kernel)) ggL_law_X8_grace
set_option maxRecDepth 20000 in
theorem ggL_law_L_enter : GoodIn wsL_law wsL_enter := goodIn_ca (goodIn_r _ [219, 196, 220, 221, 222, 2, 223, 201, 202, 21, 224, 225, 226, 20, 227, 207, 228, 229, 230, 231, 232, 233, 234, 235, 236, 64, 63, 237, 238, 65, 239, 240, 241, 242, 243, 244, 245, 246, 247, 248, 39, 249, 250, 251, 252, 253, 254, 255, 256, 257, 258, 259, 260, 12, 13, 261, 696, 697, 698, 699, 700, 723, 724, 725, 726, 743] (by decide +kernel) (by decide +kernel)) (goodIn_sub (fun _ h => List.mem_append_left _ (List.mem_append_left _ (List.mem_append_right _ h))) (by decide +kernel))
set_option maxRecDepth 20000 in
theorem gL_law_L_enter : GoodIn wsL_law (va_wsS RL 105 yL_enter wsL_enter) := goodIn_app (goodIn_of _ (by decide +kernel)) ggL_law_L_enter
set_option maxRecDepth 20000 in
theorem ggL_law_X8_enter : GoodIn wsL_law wsX8_enter := goodIn_r _ [265, 216, 266, 109, 111, 110, 149, 150, 151, 5, 152, 153, 701, 702, 703, 704, 705, 706, 707, 708, 709, 710, 711, 712, 713, 714, 715, 716, 717, 718, 719, 720, 721] (by decide +kernel) (by decide +kernel)
set_option maxRecDepth 20000 in
theorem gL_law_X8_enter : GoodIn wsL_law (wsV RL 108 RX8 yX8_enter wsX8_enter) := goodIn_app (goodIn_of _ (by decide +kernel)) ggL_law_X8_enter
set_option maxRecDepth 20000 in
theorem ggL_law_X7_ornaments : GoodIn wsL_law wsX7_ornaments := goodIn_r _ [270, 21, 271, 272, 273, 20, 274, 232, 696, 697, 698, 699, 700, 723, 724, 725, 726] (by decide +kernel) (by decide +kernel)
set_option maxRecDepth 20000 in
theorem gL_law_X7_ornaments : GoodIn wsL_law (wsV RL 109 RX7 yX7_ornaments wsX7_ornaments) := goodIn_app (goodIn_of _ (by decide +kernel)) ggL_law_X7_ornaments
set_option maxRecDepth 20000 in
theorem ggL_law_X8_ornaments : GoodIn wsL_law wsX8_ornaments := goodIn_r _ [278, 153, 266, 701, 702, 703, 704, 705, 706, 707, 708, 709, 710, 711, 712, 713, 714, 715, 716, 717, 718, 719, 720, 721] (by decide +kernel) (by decide +kernel)
set_option maxRecDepth 20000 in
theorem gL_law_X8_ornaments : GoodIn wsL_law (wsV RL 112 RX8 yX8_ornaments wsX8_ornaments) := goodIn_app (goodIn_of _ (by decide +kernel)) ggL_law_X8_ornaments
set_option maxRecDepth 20000 in
theorem ggL_law_L_fits : GoodIn wsL_law wsL_fits := goodIn_ca (goodIn_ca (goodIn_r _ [281, 282, 128, 283, 284, 285, 2, 286, 287, 288, 21, 17, 289, 271, 272, 273, 20, 274, 232, 133, 134, 135, 136, 137, 290, 291, 292, 293, 294, 295, 296, 64, 297, 298, 299, 300, 238, 301, 261, 302, 303, 250, 251, 252, 304, 305, 306, 307, 308, 309, 16, 310, 40, 696, 697, 698, 699, 700, 723, 724, 725, 726, 743, 722] (by decide +kernel) (by decide +kernel)) (goodIn_sub (fun _ h => List.mem_append_left _ (List.mem_append_right _ h)) (by decide +kernel))) (goodIn_sub (fun _ h => List.mem_append_left _ (List.mem_append_left _ (List.mem_append_left _ (List.mem_append_right _ h)))) (by decide +kernel))
set_option maxRecDepth 20000 in
theorem gL_law_L_fits : GoodIn wsL_law (va_wsS RL 113 yL_fits wsL_fits) := goodIn_app (goodIn_of _ (by decide +kernel)) ggL_law_L_fits
set_option maxRecDepth 20000 in
theorem ggL_law_X8_fits : GoodIn wsL_law wsX8_fits := goodIn_r _ [314, 266, 315, 143, 144, 5, 145, 146, 147, 148, 149, 150, 151, 152, 153, 316, 317, 318, 319, 110, 109, 320, 321, 322, 323, 177, 178, 179, 180, 107, 108, 154, 155, 156, 157, 701, 702, 703, 704, 705, 706, 707, 708, 709, 710, 711, 712, 713, 714, 715, 716, 717, 718, 719, 720, 721] (by decide +kernel) (by decide +kernel)
set_option maxRecDepth 20000 in
theorem gL_law_X8_fits : GoodIn wsL_law (wsV RL 116 RX8 yX8_fits wsX8_fits) := goodIn_app (goodIn_of _ (by decide +kernel)) ggL_law_X8_fits
set_option maxRecDepth 20000 in
theorem ggL_law_L_addNote : GoodIn wsL_law wsL_addNote := goodIn_ca (goodIn_ca (goodIn_r _ [326, 128, 196, 327, 328, 329, 2, 330, 201, 202, 23, 331, 332, 333, 136, 137, 133, 134, 135, 290, 291, 292, 334, 335, 336, 25, 337, 338, 339, 340, 341, 342, 73, 70, 71, 696, 697, 698, 699, 700, 727, 728, 729, 730, 731] (by decide +kernel) (by decide +kernel)) (goodIn_sub (fun _ h => List.mem_append_left _ (List.mem_append_left _ (List.mem_append_right _ h))) (by decide +kernel))) (goodIn_sub (fun _ h => List.mem_append_left _ (List.mem_append_left _ (List.mem_append_left _ (List.mem_append_right _ h)))) (by decide +kernel))
set_option maxRecDepth 20000 in
theorem gL_law_L_addNote : GoodIn wsL_law (va_wsS RL 117 yL_addNote wsL_addNote) := goodIn_app (goodIn_of _ (by decide +kernel)) ggL_law_L_addNote
set_option maxRecDepth 20000 in
theorem ggL_law_X8_addNote : GoodIn wsL_law wsX8_addNote := goodIn_r _ [346, 115, 112, 113, 114, 347, 348, 5, 349, 146, 147, 148, 143, 144, 145, 149, 150, 151, 152, 153, 701, 702, 703, 704, 705, 706, 707, 708, 709, 710, 711, 712, 713, 714, 715, 716, 717, 718, 719, 720, 721] (by decide +kernel) (by decide +kernel)
set_option maxRecDepth 20000 in
theorem gL_law_X8_addNote : GoodIn wsL_law (wsV RL 120 RX8 yX8_addNote wsX8_addNote) := goodIn_app (goodIn_of _ (by decide +kernel)) ggL_law_X8_addNote
set_option maxRecDepth 20000 in
theorem ggL_law_L_removeNote : GoodIn wsL_law wsL_removeNote := goodIn_ca (goodIn_ca (goodIn_r _ [352, 128, 353, 354, 355, 356, 2, 357, 358, 359, 23, 331, 332, 333, 136, 137, 334, 335, 336, 25, 337, 338, 360, 361, 362, 363, 70, 696, 697, 698, 699, 700, 727, 728, 729, 730, 731] (by decide +kernel) (by decide +kernel)) (goodIn_sub (fun _ h => List.mem_append_right _ h) (by decide +kernel))) (goodIn_sub (fun _ h => List.mem_append_left _ (List.mem_append_left _ (List.mem_append_left _ (List.mem_append_right _ h)))) (by decide +kernel))
set_option maxRecDepth 20000 in
theorem gL_law_L_removeNote : GoodIn wsL_law (va_wsS RL 121 yL_removeNote wsL_removeNote) := goodIn_app (goodIn_of _ (by decide +kernel)) ggL_law_L_removeNote
set_option maxRecDepth 20000 in
theorem ggL_law_X8_removeNote : GoodIn wsL_law wsX8_removeNote := goodIn_r _ [367, 115, 112, 347, 348, 5, 349, 146, 147, 148, 149, 150, 151, 152, 153, 701, 702, 703, 704, 705, 706, 707, 708, 709, 710, 711, 712, 713, 714, 715, 716, 717, 718, 719, 720, 721] (by decide +kernel) (by decide +kernel)
set_option maxRecDepth 20000 in
theorem gL_law_X8_removeNote : GoodIn wsL_law (wsV RL 123 RX8 yX8_removeNote wsX8_removeNote) := goodIn_app (goodIn_of _ (by decide +kernel)) ggL_law_X8_removeNote
set_option maxRecDepth 20000 in
theorem ggL_law_L_setWish : GoodIn wsL_law wsL_setWish := goodIn_ca (goodIn_ca (goodIn_r _ [370, 128, 282, 371, 372, 373, 2, 374, 23, 331, 332, 333, 136, 137, 375, 376, 377, 378, 287, 288, 379, 380, 381, 25, 382, 338, 383, 384, 385, 386, 73, 696, 697, 698, 699, 700, 727, 728, 729, 730, 731] (by decide +kernel) (by decide +kernel)) (goodIn_sub (fun _ h => List.mem_append_left _ (List.mem_append_left _ (List.mem_append_left _ (List.mem_append_right _ h)))) (by decide +kernel))) (goodIn_sub (fun _ h => List.mem_append_left _ (List.mem_append_right _ h)) (by decide +kernel))
set_option maxRecDepth 20000 in
theorem gL_law_L_setWish : GoodIn wsL_law (va_wsS RL 124 yL_setWish wsL_setWish) := goodIn_app (goodIn_of _ (by decide +kernel)) ggL_law_L_setWish
set_option maxRecDepth 20000 in
theorem ggL_law_X8_setWish : GoodIn wsL_law wsX8_setWish := goodIn_r _ [390, 114, 347, 348, 5, 349, 146, 147, 148, 391, 392, 393, 394, 115, 149, 150, 151, 152, 153, 701, 702, 703, 704, 705, 706, 707, 708, 709, 710, 711, 712, 713, 714, 715, 716, 717, 718, 719, 720, 721] (by decide +kernel) (by decide +kernel)
set_option maxRecDepth 20000 in
theorem gL_law_X8_setWish : GoodIn wsL_law (wsV RL 127 RX8 yX8_setWish wsX8_setWish) := goodIn_app (goodIn_of _ (by decide +kernel)) ggL_law_X8_setWish
set_option maxRecDepth 20000 in
theorem ggL_law_L_notes : GoodIn wsL_law wsL_notes := goodIn_ca (goodIn_r _ [397, 128, 398, 399, 400, 2, 401, 23, 331, 332, 333, 136, 137, 334, 335, 336, 25, 337, 338, 696, 697, 698, 699, 700, 727, 728, 729, 730, 731] (by decide +kernel) (by decide +kernel)) (goodIn_sub (fun _ h => List.mem_append_left _ (List.mem_append_left _ (List.mem_append_left _ (List.mem_append_right _ h)))) (by decide +kernel))
set_option maxRecDepth 20000 in
theorem gL_law_L_notes : GoodIn wsL_law (va_wsS RL 128 yL_notes wsL_notes) := goodIn_app (goodIn_of _ (by decide +kernel)) ggL_law_L_notes
set_option maxRecDepth 20000 in
theorem ggL_law_X8_notes : GoodIn wsL_law wsX8_notes := goodIn_r _ [405, 115, 347, 348, 5, 349, 146, 147, 148, 149, 150, 151, 152, 153, 701, 702, 703, 704, 705, 706, 707, 708, 709, 710, 711, 712, 713, 714, 715, 716, 717, 718, 719, 720, 721] (by decide +kernel) (by decide +kernel)
set_option maxRecDepth 20000 in
theorem gL_law_X8_notes : GoodIn wsL_law (wsV RL 130 RX8 yX8_notes wsX8_notes) := goodIn_app (goodIn_of _ (by decide +kernel)) ggL_law_X8_notes
set_option maxRecDepth 20000 in
theorem ggL_law_L_time : GoodIn wsL_law wsL_time := goodIn_ca (goodIn_ca (goodIn_ca (goodIn_r _ [408, 128, 282, 196, 409, 410, 411, 2, 412, 287, 288, 23, 21, 29, 331, 332, 333, 136, 137, 334, 335, 336, 25, 337, 338, 413, 414, 415, 416, 201, 202, 17, 289, 417, 418, 419, 420, 70, 71, 73, 75, 421, 422, 423, 20, 424, 297, 425, 308, 309, 16, 310, 40, 426, 294, 295, 296, 64, 298, 299, 300, 238, 301, 261, 302, 303, 250, 251, 252, 304, 305, 306, 307, 427, 428, 429, 28, 430, 81, 431, 380, 381, 382, 432, 433, 434, 83, 435, 91, 436, 437, 438, 241, 439, 440, 441, 442, 443, 444, 445, 446, 447, 448, 449, 450, 451, 452, 453, 454, 455, 456, 457, 458, 459, 460, 379, 461, 462, 463, 464, 465, 466, 467, 468, 469, 470, 471, 472, 473, 696, 697, 698, 699, 700, 727, 728, 729, 730, 731, 722, 723, 724, 725, 726, 743, 732, 733, 734, 735, 742] (by decide +kernel) (by decide +kernel)) (goodIn_sub (fun _ h => List.mem_append_left _ (List.mem_append_right _ h)) (by decide +kernel))) (goodIn_sub (fun _ h => List.mem_append_left _ (List.mem_append_left _ (List.mem_append_left _ (List.mem_append_right _ h)))) (by decide +kernel))) (goodIn_sub (fun _ h => List.mem_append_left _ (List.mem_append_left _ (List.mem_append_right _ h))) (by decide +kernel))
set_option maxRecDepth 20000 in
theorem gL_law_L_time : GoodIn wsL_law (va_wsS RL 131 yL_time wsL_time) := goodIn_app (goodIn_of _ (by decide +kernel)) ggL_law_L_time
set_option maxRecDepth 20000 in
theorem ggL_law_X8_time : GoodIn wsL_law wsX8_time := goodIn_r _ [477, 115, 478, 117, 110, 347, 348, 5, 349, 146, 147, 148, 479, 480, 481, 482, 120, 483, 484, 485, 486, 487, 488, 489, 490, 116, 112, 113, 118, 114, 491, 492, 493, 494, 119, 121, 495, 496, 497, 498, 315, 499, 266, 500, 501, 502, 503, 504, 316, 317, 318, 319, 109, 320, 321, 322, 323, 177, 178, 179, 180, 107, 108, 154, 155, 156, 157, 149, 150, 151, 152, 153, 505, 506, 507, 508, 509, 510, 511, 512, 701, 702, 703, 704, 705, 706, 707, 708, 709, 710, 711, 712, 713, 714, 715, 716, 717, 718, 719, 720, 721] (by decide +kernel) (by decide +kernel)
set_option maxRecDepth 20000 in
theorem gL_law_X8_time : GoodIn wsL_law (wsV RL 133 RX8 yX8_time wsX8_time) := goodIn_app (goodIn_of _ (by decide +kernel)) ggL_law_X8_time
set_option maxRecDepth 20000 in
theorem ggL_law_L_fitting : GoodIn wsL_law wsL_fitting := goodIn_ca (goodIn_ca (goodIn_r _ [515, 128, 282, 516, 517, 518, 2, 519, 23, 17, 21, 289, 331, 332, 333, 136, 137, 375, 376, 377, 378, 287, 288, 379, 380, 381, 25, 382, 338, 417, 418, 419, 420, 70, 71, 73, 75, 421, 422, 423, 20, 424, 297, 425, 308, 309, 16, 310, 40, 426, 294, 295, 296, 64, 298, 299, 300, 238, 301, 261, 302, 303, 250, 251, 252, 304, 305, 306, 307, 520, 441, 442, 443, 696, 697, 698, 699, 700, 727, 728, 729, 730, 731, 722, 723, 724, 725, 726, 743] (by decide +kernel) (by decide +kernel)) (goodIn_sub (fun _ h => List.mem_append_left _ (List.mem_append_left _ (List.mem_append_left _ (List.mem_append_right _ h)))) (by decide +kernel))) (goodIn_sub (fun _ h => List.mem_append_left _ (List.mem_append_right _ h)) (by decide +kernel))
set_option maxRecDepth 20000 in
theorem gL_law_L_fitting : GoodIn wsL_law (va_wsS RL 134 yL_fitting wsL_fitting) := goodIn_app (goodIn_of _ (by decide +kernel)) ggL_law_L_fitting
set_option maxRecDepth 20000 in
theorem ggL_law_X8_fitting : GoodIn wsL_law wsX8_fitting := goodIn_r _ [524, 266, 315, 347, 348, 5, 349, 146, 147, 148, 391, 392, 393, 394, 115, 149, 150, 151, 152, 153, 483, 484, 485, 486, 478, 487, 488, 489, 490, 116, 112, 117, 113, 118, 114, 491, 492, 493, 494, 119, 120, 121, 495, 496, 497, 498, 499, 500, 501, 502, 503, 504, 316, 317, 318, 319, 110, 109, 320, 321, 322, 323, 177, 178, 179, 180, 107, 108, 154, 155, 156, 157, 701, 702, 703, 704, 705, 706, 707, 708, 709, 710, 711, 712, 713, 714, 715, 716, 717, 718, 719, 720, 721] (by decide +kernel) (by decide +kernel)
set_option maxRecDepth 20000 in
theorem gL_law_X8_fitting : GoodIn wsL_law (wsV RL 136 RX8 yX8_fitting wsX8_fitting) := goodIn_app (goodIn_of _ (by decide +kernel)) ggL_law_X8_fitting
set_option maxRecDepth 20000 in
theorem ggL_law_L_choices : GoodIn wsL_law wsL_choices := goodIn_ca (goodIn_r _ [527, 128, 528, 529, 530, 2, 531, 23, 17, 21, 29, 331, 332, 333, 136, 137, 417, 418, 419, 25, 420, 338, 70, 71, 73, 75, 421, 422, 423, 20, 424, 297, 425, 308, 309, 16, 310, 40, 426, 294, 295, 296, 64, 298, 299, 300, 238, 301, 261, 302, 303, 250, 251, 252, 304, 305, 306, 307, 532, 533, 534, 28, 535, 86, 536, 438, 241, 439, 431, 380, 381, 382, 440, 441, 442, 443, 537, 538, 539, 540, 541, 696, 697, 698, 699, 700, 727, 728, 729, 730, 731, 722, 723, 724, 725, 726, 743, 732, 733, 734, 735] (by decide +kernel) (by decide +kernel)) (goodIn_sub (fun _ h => List.mem_append_left _ (List.mem_append_left _ (List.mem_append_left _ (List.mem_append_right _ h)))) (by decide +kernel))
set_option maxRecDepth 20000 in
theorem gL_law_L_choices : GoodIn wsL_law (va_wsS RL 137 yL_choices wsL_choices) := goodIn_app (goodIn_of _ (by decide +kernel)) ggL_law_L_choices
set_option maxRecDepth 20000 in
theorem ggL_law_X8_choices : GoodIn wsL_law wsX8_choices := goodIn_r _ [545, 120, 347, 348, 5, 349, 146, 147, 148, 149, 150, 151, 152, 153, 483, 484, 485, 486, 478, 487, 488, 489, 490, 115, 116, 112, 117, 113, 118, 114, 491, 492, 493, 494, 119, 121, 495, 496, 497, 498, 315, 499, 266, 500, 501, 502, 503, 504, 316, 317, 318, 319, 110, 109, 320, 321, 322, 323, 177, 178, 179, 180, 107, 108, 154, 155, 156, 157, 701, 702, 703, 704, 705, 706, 707, 708, 709, 710, 711, 712, 713, 714, 715, 716, 717, 718, 719, 720, 721] (by decide +kernel) (by decide +kernel)
set_option maxRecDepth 20000 in
theorem gL_law_X8_choices : GoodIn wsL_law (wsV RL 139 RX8 yX8_choices wsX8_choices) := goodIn_app (goodIn_of _ (by decide +kernel)) ggL_law_X8_choices
set_option maxRecDepth 20000 in
theorem ggL_law_L_least : GoodIn wsL_law wsL_least := goodIn_ca (goodIn_ca (goodIn_r _ [548, 128, 196, 549, 550, 551, 2, 552, 331, 332, 333, 136, 137, 413, 414, 415, 416, 201, 202, 23, 17, 21, 29, 289, 417, 418, 419, 25, 420, 338, 70, 71, 73, 75, 421, 422, 423, 20, 424, 297, 425, 308, 309, 16, 310, 40, 426, 294, 295, 296, 64, 298, 299, 300, 238, 301, 261, 302, 303, 250, 251, 252, 304, 305, 306, 307, 427, 428, 429, 28, 430, 81, 431, 380, 381, 382, 432, 433, 434, 83, 435, 91, 436, 437, 438, 241, 439, 440, 441, 442, 443, 444, 445, 446, 447, 448, 449, 450, 451, 452, 453, 454, 455, 456, 696, 697, 698, 699, 700, 727, 728, 729, 730, 731, 722, 723, 724, 725, 726, 743, 732, 733, 734, 735, 742] (by decide +kernel) (by decide +kernel)) (goodIn_sub (fun _ h => List.mem_append_left _ (List.mem_append_left _ (List.mem_append_left _ (List.mem_append_right _ h)))) (by decide +kernel))) (goodIn_sub (fun _ h => List.mem_append_left _ (List.mem_append_left _ (List.mem_append_right _ h))) (by decide +kernel))
set_option maxRecDepth 20000 in
theorem gL_law_L_least : GoodIn wsL_law (va_wsS RL 140 yL_least wsL_least) := goodIn_app (goodIn_of _ (by decide +kernel)) ggL_law_L_least
set_option maxRecDepth 20000 in
theorem ggL_law_X8_least : GoodIn wsL_law wsX8_least := goodIn_r _ [556, 119, 557, 558, 559, 5, 560, 479, 480, 481, 482, 120, 347, 348, 349, 146, 147, 148, 483, 484, 485, 486, 478, 487, 488, 489, 490, 115, 116, 112, 117, 113, 118, 114, 491, 492, 493, 494, 121, 495, 496, 497, 498, 315, 499, 266, 500, 501, 502, 503, 504, 316, 317, 318, 319, 110, 109, 320, 321, 322, 323, 177, 178, 179, 180, 107, 108, 154, 155, 156, 157, 149, 150, 151, 152, 153, 701, 702, 703, 704, 705, 706, 707, 708, 709, 710, 711, 712, 713, 714, 715, 716, 717, 718, 719, 720, 721] (by decide +kernel) (by decide +kernel)
set_option maxRecDepth 20000 in
theorem gL_law_X8_least : GoodIn wsL_law (wsV RL 142 RX8 yX8_least wsX8_least) := goodIn_app (goodIn_of _ (by decide +kernel)) ggL_law_X8_least
set_option maxRecDepth 20000 in
theorem ggL_law_L_chosen : GoodIn wsL_law wsL_chosen := goodIn_ca (goodIn_ca (goodIn_ca (goodIn_r _ [563, 128, 282, 196, 564, 565, 566, 2, 567, 29, 331, 332, 333, 136, 137, 375, 376, 377, 378, 287, 288, 23, 379, 380, 381, 25, 382, 338, 413, 414, 415, 416, 201, 202, 17, 21, 289, 417, 418, 419, 420, 70, 71, 73, 75, 421, 422, 423, 20, 424, 297, 425, 308, 309, 16, 310, 40, 426, 294, 295, 296, 64, 298, 299, 300, 238, 301, 261, 302, 303, 250, 251, 252, 304, 305, 306, 307, 427, 428, 429, 28, 430, 81, 431, 432, 433, 434, 83, 435, 91, 436, 437, 438, 241, 439, 440, 441, 442, 443, 444, 445, 446, 447, 448, 449, 450, 451, 452, 453, 454, 455, 456, 461, 462, 463, 464, 465, 696, 697, 698, 699, 700, 727, 728, 729, 730, 731, 722, 723, 724, 725, 726, 743, 732, 733, 734, 735, 742] (by decide +kernel) (by decide +kernel)) (goodIn_sub (fun _ h => List.mem_append_left _ (List.mem_append_left _ (List.mem_append_left _ (List.mem_append_right _ h)))) (by decide +kernel))) (goodIn_sub (fun _ h => List.mem_append_left _ (List.mem_append_right _ h)) (by decide +kernel))) (goodIn_sub (fun _ h => List.mem_append_left _ (List.mem_append_left _ (List.mem_append_right _ h))) (by decide +kernel))
set_option maxRecDepth 20000 in
theorem gL_law_L_chosen : GoodIn wsL_law (va_wsS RL 143 yL_chosen wsL_chosen) := goodIn_app (goodIn_of _ (by decide +kernel)) ggL_law_L_chosen
set_option maxRecDepth 20000 in
theorem ggL_law_X8_chosen : GoodIn wsL_law wsX8_chosen := goodIn_r _ [571, 347, 348, 5, 349, 146, 147, 148, 391, 392, 393, 394, 115, 479, 480, 481, 482, 120, 483, 484, 485, 486, 478, 487, 488, 489, 490, 116, 112, 117, 113, 118, 114, 491, 492, 493, 494, 119, 121, 495, 496, 497, 498, 315, 499, 266, 500, 501, 502, 503, 504, 316, 317, 318, 319, 110, 109, 320, 321, 322, 323, 177, 178, 179, 180, 107, 108, 154, 155, 156, 157, 149, 150, 151, 152, 153, 505, 506, 507, 508, 509, 510, 511, 512, 701, 702, 703, 704, 705, 706, 707, 708, 709, 710, 711, 712, 713, 714, 715, 716, 717, 718, 719, 720, 721] (by decide +kernel) (by decide +kernel)
set_option maxRecDepth 20000 in
theorem gL_law_X8_chosen : GoodIn wsL_law (wsV RL 145 RX8 yX8_chosen wsX8_chosen) := goodIn_app (goodIn_of _ (by decide +kernel)) ggL_law_X8_chosen
set_option maxRecDepth 20000 in
theorem ggL_law_L_mostOrnaments : GoodIn wsL_law wsL_mostOrnaments := goodIn_ca (goodIn_ca (goodIn_r _ [574, 128, 196, 575, 576, 577, 2, 578, 23, 29, 331, 332, 333, 136, 137, 413, 414, 415, 416, 201, 202, 17, 21, 289, 417, 418, 419, 25, 420, 338, 70, 71, 73, 75, 421, 422, 423, 20, 424, 297, 425, 308, 309, 16, 310, 40, 426, 294, 295, 296, 64, 298, 299, 300, 238, 301, 261, 302, 303, 250, 251, 252, 304, 305, 306, 307, 427, 428, 429, 28, 430, 81, 431, 380, 381, 382, 432, 433, 434, 83, 435, 91, 436, 437, 438, 241, 439, 440, 441, 442, 443, 444, 445, 446, 447, 448, 449, 450, 451, 452, 453, 454, 455, 456, 379, 579, 580, 581, 582, 84, 85, 541, 696, 697, 698, 699, 700, 727, 728, 729, 730, 731, 722, 723, 724, 725, 726, 743, 732, 733, 734, 735, 742] (by decide +kernel) (by decide +kernel)) (goodIn_sub (fun _ h => List.mem_append_left _ (List.mem_append_left _ (List.mem_append_left _ (List.mem_append_right _ h)))) (by decide +kernel))) (goodIn_sub (fun _ h => List.mem_append_left _ (List.mem_append_left _ (List.mem_append_right _ h))) (by decide +kernel))
set_option maxRecDepth 20000 in
theorem gL_law_L_mostOrnaments : GoodIn wsL_law (va_wsS RL 146 yL_mostOrnaments wsL_mostOrnaments) := goodIn_app (goodIn_of _ (by decide +kernel)) ggL_law_L_mostOrnaments
set_option maxRecDepth 20000 in
theorem ggL_law_X8_mostOrnaments : GoodIn wsL_law wsX8_mostOrnaments := goodIn_r _ [586, 121, 557, 558, 559, 5, 560, 479, 480, 481, 482, 120, 347, 348, 349, 146, 147, 148, 483, 484, 485, 486, 478, 487, 488, 489, 490, 115, 116, 112, 117, 113, 118, 114, 491, 492, 493, 494, 119, 495, 496, 497, 498, 315, 499, 266, 500, 501, 502, 503, 504, 316, 317, 318, 319, 110, 109, 320, 321, 322, 323, 177, 178, 179, 180, 107, 108, 154, 155, 156, 157, 149, 150, 151, 152, 153, 701, 702, 703, 704, 705, 706, 707, 708, 709, 710, 711, 712, 713, 714, 715, 716, 717, 718, 719, 720, 721] (by decide +kernel) (by decide +kernel)
set_option maxRecDepth 20000 in
theorem gL_law_X8_mostOrnaments : GoodIn wsL_law (wsV RL 148 RX8 yX8_mostOrnaments wsX8_mostOrnaments) := goodIn_app (goodIn_of _ (by decide +kernel)) ggL_law_X8_mostOrnaments
set_option maxRecDepth 20000 in
theorem ggL_law_L_average : GoodIn wsL_law wsL_average := goodIn_ca (goodIn_ca (goodIn_r _ [589, 128, 196, 590, 591, 592, 2, 593, 23, 331, 332, 333, 136, 137, 413, 414, 415, 416, 201, 202, 17, 21, 29, 289, 417, 418, 419, 25, 420, 338, 70, 71, 73, 75, 421, 422, 423, 20, 424, 297, 425, 308, 309, 16, 310, 40, 426, 294, 295, 296, 64, 298, 299, 300, 238, 301, 261, 302, 303, 250, 251, 252, 304, 305, 306, 307, 427, 428, 429, 28, 430, 81, 431, 380, 381, 382, 432, 433, 434, 83, 435, 91, 436, 437, 438, 241, 439, 440, 441, 442, 443, 444, 445, 446, 447, 448, 449, 450, 451, 452, 453, 454, 455, 456, 379, 696, 697, 698, 699, 700, 727, 728, 729, 730, 731, 722, 723, 724, 725, 726, 743, 732, 733, 734, 735, 742] (by decide +kernel) (by decide +kernel)) (goodIn_sub (fun _ h => List.mem_append_left _ (List.mem_append_left _ (List.mem_append_left _ (List.mem_append_right _ h)))) (by decide +kernel))) (goodIn_sub (fun _ h => List.mem_append_left _ (List.mem_append_left _ (List.mem_append_right _ h))) (by decide +kernel))
set_option maxRecDepth 20000 in
theorem gL_law_L_average : GoodIn wsL_law (va_wsS RL 149 yL_average wsL_average) := goodIn_app (goodIn_of _ (by decide +kernel)) ggL_law_L_average
set_option maxRecDepth 20000 in
theorem ggL_law_X8_average : GoodIn wsL_law wsX8_average := goodIn_r _ [597, 478, 119, 557, 558, 559, 5, 560, 479, 480, 481, 482, 120, 347, 348, 349, 146, 147, 148, 483, 484, 485, 486, 487, 488, 489, 490, 115, 116, 112, 117, 113, 118, 114, 491, 492, 493, 494, 121, 495, 496, 497, 498, 315, 499, 266, 500, 501, 502, 503, 504, 316, 317, 318, 319, 110, 109, 320, 321, 322, 323, 177, 178, 179, 180, 107, 108, 154, 155, 156, 157, 149, 150, 151, 152, 153, 701, 702, 703, 704, 705, 706, 707, 708, 709, 710, 711, 712, 713, 714, 715, 716, 717, 718, 719, 720, 721] (by decide +kernel) (by decide +kernel)
set_option maxRecDepth 20000 in
theorem gL_law_X8_average : GoodIn wsL_law (wsV RL 152 RX8 yX8_average wsX8_average) := goodIn_app (goodIn_of _ (by decide +kernel)) ggL_law_X8_average
set_option maxRecDepth 20000 in
theorem ggL_law_L_leastSet : GoodIn wsL_law wsL_leastSet := goodIn_ca (goodIn_r _ [600, 196, 601, 602, 603, 2, 604, 201, 202, 33, 605, 606, 607, 608, 23, 17, 21, 417, 418, 419, 25, 420, 338, 70, 71, 73, 75, 421, 422, 423, 20, 424, 297, 425, 308, 309, 16, 310, 40, 426, 294, 295, 296, 64, 298, 299, 300, 238, 301, 261, 302, 303, 250, 251, 252, 304, 305, 306, 307, 609, 610, 611, 32, 612, 97, 613, 335, 336, 337, 614, 615, 616, 617, 618, 458, 459, 460, 619, 620, 621, 622, 623, 624, 625, 626, 627, 628, 629, 630, 100, 631, 632, 633, 634, 99, 635, 433, 434, 83, 435, 91, 436, 437, 438, 241, 439, 636, 445, 446, 447, 448, 449, 450, 451, 452, 637, 380, 381, 382, 638, 441, 442, 443, 639, 454, 455, 456, 640, 641, 642, 643, 101, 644, 254, 255, 256, 645, 646, 647, 648, 649, 650, 651, 652, 653, 654, 655, 656, 696, 697, 698, 699, 700, 727, 728, 729, 730, 731, 722, 723, 724, 725, 726, 743, 736, 737, 738, 739, 740, 741, 742] (by decide +kernel) (by decide +kernel)) (goodIn_sub (fun _ h => List.mem_append_left _ (List.mem_append_left _ (List.mem_append_right _ h))) (by decide +kernel))
set_option maxRecDepth 20000 in
theorem gL_law_L_leastSet : GoodIn wsL_law (va_wsS RL 153 yL_leastSet wsL_leastSet) := goodIn_app (goodIn_of _ (by decide +kernel)) ggL_law_L_leastSet
set_option maxRecDepth 20000 in
theorem ggL_law_X8_leastSet : GoodIn wsL_law wsX8_leastSet := goodIn_r _ [660, 315, 661, 662, 663, 5, 664, 478, 122, 120, 119, 123, 665, 666, 667, 668, 115, 487, 488, 489, 490, 116, 112, 117, 113, 118, 114, 491, 492, 493, 494, 121, 495, 496, 497, 498, 499, 266, 500, 501, 502, 503, 504, 316, 317, 318, 319, 110, 109, 320, 321, 322, 323, 177, 178, 179, 180, 107, 108, 154, 155, 156, 157, 149, 150, 151, 152, 153, 701, 702, 703, 704, 705, 706, 707, 708, 709, 710, 711, 712, 713, 714, 715, 716, 717, 718, 719, 720, 721] (by decide +kernel) (by decide +kernel)
set_option maxRecDepth 20000 in
theorem gL_law_X8_leastSet : GoodIn wsL_law (wsV RL 155 RX8 yX8_leastSet wsX8_leastSet) := goodIn_app (goodIn_of _ (by decide +kernel)) ggL_law_X8_leastSet
set_option maxRecDepth 20000 in
theorem ggL_law_L_tuneAt : GoodIn wsL_law wsL_tuneAt := goodIn_ca (goodIn_ca (goodIn_r _ [671, 196, 282, 672, 673, 674, 2, 675, 201, 202, 287, 288, 33, 605, 606, 607, 608, 23, 17, 21, 417, 418, 419, 25, 420, 338, 70, 71, 73, 75, 421, 422, 423, 20, 424, 297, 425, 308, 309, 16, 310, 40, 426, 294, 295, 296, 64, 298, 299, 300, 238, 301, 261, 302, 303, 250, 251, 252, 304, 305, 306, 307, 609, 610, 611, 32, 612, 97, 613, 335, 336, 337, 614, 615, 616, 617, 618, 458, 459, 460, 619, 620, 621, 622, 623, 624, 625, 626, 627, 628, 629, 630, 100, 631, 632, 633, 634, 99, 635, 433, 434, 83, 435, 91, 436, 437, 438, 241, 439, 636, 445, 446, 447, 448, 449, 450, 451, 452, 637, 380, 381, 382, 638, 441, 442, 443, 639, 454, 455, 456, 640, 641, 642, 643, 101, 644, 254, 255, 256, 645, 646, 647, 648, 649, 650, 651, 652, 676, 677, 678, 679, 680, 681, 682, 683, 696, 697, 698, 699, 700, 727, 728, 729, 730, 731, 722, 723, 724, 725, 726, 743, 736, 737, 738, 739, 740, 741, 742] (by decide +kernel) (by decide +kernel)) (goodIn_sub (fun _ h => List.mem_append_left _ (List.mem_append_left _ (List.mem_append_right _ h))) (by decide +kernel))) (goodIn_sub (fun _ h => List.mem_append_left _ (List.mem_append_right _ h)) (by decide +kernel))
set_option maxRecDepth 20000 in
theorem gL_law_L_tuneAt : GoodIn wsL_law (va_wsS RL 156 yL_tuneAt wsL_tuneAt) := goodIn_app (goodIn_of _ (by decide +kernel)) ggL_law_L_tuneAt
set_option maxRecDepth 20000 in
theorem ggL_law_X8_tuneAt : GoodIn wsL_law wsX8_tuneAt := goodIn_r _ [687, 315, 115, 123, 661, 662, 663, 5, 664, 478, 122, 120, 119, 665, 666, 667, 668, 487, 488, 489, 490, 116, 112, 117, 113, 118, 114, 491, 492, 493, 494, 121, 495, 496, 497, 498, 499, 266, 500, 501, 502, 503, 504, 316, 317, 318, 319, 110, 109, 320, 321, 322, 323, 177, 178, 179, 180, 107, 108, 154, 155, 156, 157, 146, 147, 148, 149, 150, 151, 152, 153, 701, 702, 703, 704, 705, 706, 707, 708, 709, 710, 711, 712, 713, 714, 715, 716, 717, 718, 719, 720, 721] (by decide +kernel) (by decide +kernel)
set_option maxRecDepth 20000 in
theorem gL_law_X8_tuneAt : GoodIn wsL_law (wsV RL 158 RX8 yX8_tuneAt wsX8_tuneAt) := goodIn_app (goodIn_of _ (by decide +kernel)) ggL_law_X8_tuneAt
set_option maxRecDepth 20000 in
theorem ggL_law_X7_sets : GoodIn wsL_law wsX7_sets := goodIn_r _ [691, 605, 606, 607, 2, 608, 23, 17, 21, 33, 417, 418, 419, 25, 420, 338, 70, 71, 73, 75, 421, 422, 423, 20, 424, 297, 425, 308, 309, 16, 310, 40, 426, 294, 295, 296, 64, 298, 299, 300, 238, 301, 261, 302, 303, 250, 251, 252, 304, 305, 306, 307, 609, 610, 611, 32, 612, 97, 613, 335, 336, 337, 614, 615, 616, 617, 618, 458, 459, 460, 619, 620, 621, 622, 623, 624, 625, 626, 627, 628, 629, 630, 100, 631, 632, 633, 634, 99, 635, 433, 434, 83, 435, 91, 436, 437, 438, 241, 439, 636, 445, 446, 447, 448, 449, 450, 451, 452, 637, 380, 381, 382, 638, 441, 442, 443, 639, 454, 455, 456, 640, 641, 642, 643, 101, 644, 254, 255, 256, 645, 646, 647, 648, 649, 650, 651, 652, 696, 697, 698, 699, 700, 727, 728, 729, 730, 731, 722, 723, 724, 725, 726, 743, 736, 737, 738, 739, 740, 741, 742] (by decide +kernel) (by decide +kernel)
set_option maxRecDepth 20000 in
theorem gL_law_X7_sets : GoodIn wsL_law (wsV RL 159 RX7 yX7_sets wsX7_sets) := goodIn_app (goodIn_of _ (by decide +kernel)) ggL_law_X7_sets
set_option maxRecDepth 20000 in
theorem ggL_law_X8_sets : GoodIn wsL_law wsX8_sets := goodIn_r _ [695, 153, 661, 662, 663, 5, 664, 315, 478, 122, 120, 119, 123, 665, 666, 667, 668, 115, 487, 488, 489, 490, 116, 112, 117, 113, 118, 114, 491, 492, 493, 494, 121, 495, 496, 497, 498, 499, 266, 500, 501, 502, 503, 504, 316, 317, 318, 319, 110, 109, 320, 321, 322, 323, 177, 178, 179, 180, 107, 108, 154, 155, 156, 157, 701, 702, 703, 704, 705, 706, 707, 708, 709, 710, 711, 712, 713, 714, 715, 716, 717, 718, 719, 720, 721] (by decide +kernel) (by decide +kernel)
set_option maxRecDepth 20000 in
theorem gL_law_X8_sets : GoodIn wsL_law (wsV RL 162 RX8 yX8_sets wsX8_sets) := goodIn_app (goodIn_of _ (by decide +kernel)) ggL_law_X8_sets
