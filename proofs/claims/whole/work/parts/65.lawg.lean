set_option maxRecDepth 20000 in
theorem ggL_law_X5_init : GoodIn wsL_law wsX5_init := goodIn_r _ [9, 10, 11, 12, 13, 14, 15, 16, 17, 18, 19, 20, 21, 22, 23, 24, 25, 26, 27, 28, 29, 30, 31, 32, 33, 34, 35, 36, 37, 38, 39, 40, 41, 42, 43, 44, 45, 46, 47, 48, 49, 50, 51, 52, 53, 54, 55, 56, 57, 58, 59, 60, 61, 62, 63, 64, 65, 702, 703, 704, 705, 706, 707, 708, 691, 692, 693, 709, 710, 711, 712, 713, 714, 715, 716, 717, 718, 719, 720, 721, 722, 723, 724, 725, 726] (by decide +kernel) (by decide +kernel)
set_option maxRecDepth 20000 in
theorem gL_law_X5_init : GoodIn wsL_law (wsX5_init) := ggL_law_X5_init
set_option maxRecDepth 20000 in
theorem ggL_law_X6_init : GoodIn wsL_law wsX6_init := goodIn_r _ [68, 69, 11, 12, 42, 70, 71, 72, 73, 74, 75, 694, 695, 696, 697, 698, 699, 700, 701] (by decide +kernel) (by decide +kernel)
set_option maxRecDepth 20000 in
theorem gL_law_X6_init : GoodIn wsL_law (wsX6_init) := ggL_law_X6_init
set_option maxRecDepth 20000 in
theorem ggL_law_L_lay : GoodIn wsL_law wsL_lay := goodIn_ca (goodIn_ca (goodIn_ca (goodIn_r _ [79, 80, 81, 82, 83, 84, 85, 2, 86, 87, 88, 89, 90, 16, 91, 92, 93, 94, 95, 96, 97, 98, 15, 99, 100, 35, 101, 102, 103, 28, 104, 43, 105, 106, 107, 108, 44, 45, 691, 692, 693, 702, 703, 704, 705, 706, 707, 708, 719, 720, 721, 722, 723, 724, 725, 726, 712, 713, 714] (by decide +kernel) (by decide +kernel)) (goodIn_sub (fun _ h => List.mem_append_left _ (List.mem_append_left _ (List.mem_append_right _ h))) (by decide +kernel))) (goodIn_sub (fun _ h => List.mem_append_left _ (List.mem_append_right _ h)) (by decide +kernel))) (goodIn_sub (fun _ h => List.mem_append_right _ h) (by decide +kernel))
set_option maxRecDepth 20000 in
theorem gL_law_L_lay : GoodIn wsL_law (va_wsS RL 65 yL_lay wsL_lay) := goodIn_app (goodIn_of _ (by decide +kernel)) ggL_law_L_lay
set_option maxRecDepth 20000 in
theorem ggL_law_X6_lay_ : GoodIn wsL_law wsX6_lay_ := goodIn_r _ [112, 113, 70, 114, 115, 5, 116, 117, 118, 119, 120, 121, 122, 123, 124, 125, 126, 127, 128, 129, 130, 131, 132, 73, 133, 134, 135, 136, 137, 138, 139, 140, 71, 72, 694, 695, 696, 697, 698, 699, 700, 701] (by decide +kernel) (by decide +kernel)
set_option maxRecDepth 20000 in
theorem gL_law_X6_lay_ : GoodIn wsL_law (wsV RL 70 RX6 yX6_lay_ wsX6_lay_) := goodIn_app (goodIn_of _ (by decide +kernel)) ggL_law_X6_lay_
set_option maxRecDepth 20000 in
theorem ggL_law_X6_thrown : GoodIn wsL_law wsX6_thrown := goodIn_r _ [144, 113, 694, 695, 696, 697, 698, 699, 700, 701] (by decide +kernel) (by decide +kernel)
set_option maxRecDepth 20000 in
theorem gL_law_X6_thrown : GoodIn wsL_law (wsV RL 71 RX6 yX6_thrown wsX6_thrown) := goodIn_app (goodIn_of _ (by decide +kernel)) ggL_law_X6_thrown
set_option maxRecDepth 20000 in
theorem ggL_law_L_cell : GoodIn wsL_law wsL_cell := goodIn_ca (goodIn_r _ [147, 80, 148, 149, 150, 2, 151, 94, 95, 16, 91, 92, 93, 101, 102, 103, 28, 104, 43, 152, 153, 154, 155, 44, 156, 157, 158, 159, 45, 160, 161, 162, 15, 163, 33, 164, 165, 166, 167, 29, 168, 169, 170, 32, 171, 172, 55, 54, 173, 174, 175, 176, 177, 178, 179, 180, 181, 182, 183, 184, 185, 186, 187, 188, 189, 190, 191, 192, 193, 194, 195, 196, 197, 198, 199, 200, 201, 202, 203, 204, 205, 206, 207, 208, 100, 35, 209, 210, 211, 212, 213, 214, 96, 97, 98, 99, 691, 692, 693, 702, 703, 704, 705, 706, 707, 708, 712, 713, 714, 715, 716, 717, 718, 719, 720, 721, 722, 723, 724, 725, 726] (by decide +kernel) (by decide +kernel)) (goodIn_sub (fun _ h => List.mem_append_right _ h) (by decide +kernel))
set_option maxRecDepth 20000 in
theorem gL_law_L_cell : GoodIn wsL_law (va_wsS RL 75 yL_cell wsL_cell) := goodIn_app (goodIn_of _ (by decide +kernel)) ggL_law_L_cell
set_option maxRecDepth 20000 in
theorem ggL_law_X6_cell : GoodIn wsL_law wsX6_cell := goodIn_r _ [218, 113, 114, 115, 5, 116, 117, 118, 119, 219, 220, 221, 222, 70, 71, 72, 223, 224, 225, 226, 75, 227, 228, 229, 230, 231, 232, 233, 234, 235, 236, 237, 238, 239, 240, 241, 242, 243, 244, 245, 246, 247, 248, 249, 128, 133, 134, 135, 136, 129, 130, 131, 132, 73, 250, 251, 252, 253, 124, 125, 126, 127, 120, 121, 122, 123, 694, 695, 696, 697, 698, 699, 700, 701] (by decide +kernel) (by decide +kernel)
set_option maxRecDepth 20000 in
theorem gL_law_X6_cell : GoodIn wsL_law (wsV RL 77 RX6 yX6_cell wsX6_cell) := goodIn_app (goodIn_of _ (by decide +kernel)) ggL_law_X6_cell
set_option maxRecDepth 20000 in
theorem ggL_law_L_come : GoodIn wsL_law wsL_come := goodIn_ca (goodIn_ca (goodIn_ca (goodIn_r _ [256, 80, 81, 82, 257, 258, 259, 2, 260, 87, 88, 89, 90, 16, 91, 92, 93, 94, 95, 101, 102, 103, 28, 104, 43, 261, 262, 263, 15, 264, 100, 35, 265, 266, 267, 268, 29, 214, 190, 191, 192, 269, 106, 107, 108, 44, 45, 691, 692, 693, 702, 703, 704, 705, 706, 707, 708, 712, 713, 714, 719, 720, 721, 722, 723, 724, 725, 726] (by decide +kernel) (by decide +kernel)) (goodIn_sub (fun _ h => List.mem_append_left _ (List.mem_append_left _ (List.mem_append_right _ h))) (by decide +kernel))) (goodIn_sub (fun _ h => List.mem_append_left _ (List.mem_append_right _ h)) (by decide +kernel))) (goodIn_sub (fun _ h => List.mem_append_right _ h) (by decide +kernel))
set_option maxRecDepth 20000 in
theorem gL_law_L_come : GoodIn wsL_law (va_wsS RL 78 yL_come wsL_come) := goodIn_app (goodIn_of _ (by decide +kernel)) ggL_law_L_come
set_option maxRecDepth 20000 in
theorem ggL_law_X6_come : GoodIn wsL_law wsX6_come := goodIn_r _ [273, 113, 70, 128, 114, 115, 5, 116, 117, 118, 119, 120, 121, 122, 123, 124, 125, 126, 127, 129, 130, 131, 132, 73, 133, 134, 135, 136, 231, 232, 233, 234, 137, 138, 139, 140, 71, 72, 274, 275, 276, 277, 694, 695, 696, 697, 698, 699, 700, 701] (by decide +kernel) (by decide +kernel)
set_option maxRecDepth 20000 in
theorem gL_law_X6_come : GoodIn wsL_law (wsV RL 81 RX6 yX6_come wsX6_come) := goodIn_app (goodIn_of _ (by decide +kernel)) ggL_law_X6_come
set_option maxRecDepth 20000 in
theorem ggL_law_L_order : GoodIn wsL_law wsL_order := goodIn_ca (goodIn_ca (goodIn_ca (goodIn_r _ [280, 80, 81, 82, 281, 282, 283, 2, 284, 87, 88, 89, 90, 285, 286, 287, 288, 94, 95, 16, 289, 290, 291, 15, 292, 100, 35, 293, 294, 295, 37, 296, 297, 60, 719, 720, 721, 722, 723, 724, 725, 726, 691, 692, 693, 702, 703, 704, 705, 706, 707, 708] (by decide +kernel) (by decide +kernel)) (goodIn_sub (fun _ h => List.mem_append_left _ (List.mem_append_left _ (List.mem_append_right _ h))) (by decide +kernel))) (goodIn_sub (fun _ h => List.mem_append_left _ (List.mem_append_right _ h)) (by decide +kernel))) (goodIn_sub (fun _ h => List.mem_append_right _ h) (by decide +kernel))
set_option maxRecDepth 20000 in
theorem gL_law_L_order : GoodIn wsL_law (va_wsS RL 82 yL_order wsL_order) := goodIn_app (goodIn_of _ (by decide +kernel)) ggL_law_L_order
set_option maxRecDepth 20000 in
theorem ggL_law_X6_order : GoodIn wsL_law wsX6_order := goodIn_r _ [301, 113, 302, 303, 304, 5, 305, 128, 117, 118, 119, 120, 121, 122, 123, 129, 130, 131, 132, 73, 274, 275, 276, 277, 306, 307, 308, 309, 694, 695, 696, 697, 698, 699, 700, 701] (by decide +kernel) (by decide +kernel)
set_option maxRecDepth 20000 in
theorem gL_law_X6_order : GoodIn wsL_law (wsV RL 84 RX6 yX6_order wsX6_order) := goodIn_app (goodIn_of _ (by decide +kernel)) ggL_law_X6_order
set_option maxRecDepth 20000 in
theorem ggL_law_L_call : GoodIn wsL_law wsL_call := goodIn_ca (goodIn_r _ [312, 80, 313, 314, 315, 2, 316, 285, 286, 287, 288, 94, 95, 16, 289, 290, 291, 15, 292, 100, 35, 719, 720, 721, 722, 723, 724, 725, 726, 691, 692, 693, 702, 703, 704, 705, 706, 707, 708] (by decide +kernel) (by decide +kernel)) (goodIn_sub (fun _ h => List.mem_append_right _ h) (by decide +kernel))
set_option maxRecDepth 20000 in
theorem gL_law_L_call : GoodIn wsL_law (va_wsS RL 85 yL_call wsL_call) := goodIn_app (goodIn_of _ (by decide +kernel)) ggL_law_L_call
set_option maxRecDepth 20000 in
theorem ggL_law_X6_call : GoodIn wsL_law wsX6_call := goodIn_r _ [320, 113, 302, 303, 304, 5, 305, 128, 117, 118, 119, 120, 121, 122, 123, 129, 130, 131, 132, 73, 274, 275, 276, 277, 694, 695, 696, 697, 698, 699, 700, 701] (by decide +kernel) (by decide +kernel)
set_option maxRecDepth 20000 in
theorem gL_law_X6_call : GoodIn wsL_law (wsV RL 88 RX6 yX6_call wsX6_call) := goodIn_app (goodIn_of _ (by decide +kernel)) ggL_law_X6_call
set_option maxRecDepth 20000 in
theorem ggL_law_L_tunneller : GoodIn wsL_law wsL_tunneller := goodIn_ca (goodIn_r _ [323, 80, 324, 325, 326, 2, 327, 94, 95, 285, 286, 287, 288, 16, 289, 290, 291, 15, 292, 100, 35, 328, 329, 330, 37, 331, 297, 60, 198, 199, 200, 719, 720, 721, 722, 723, 724, 725, 726, 691, 692, 693, 702, 703, 704, 705, 706, 707, 708] (by decide +kernel) (by decide +kernel)) (goodIn_sub (fun _ h => List.mem_append_right _ h) (by decide +kernel))
set_option maxRecDepth 20000 in
theorem gL_law_L_tunneller : GoodIn wsL_law (va_wsS RL 89 yL_tunneller wsL_tunneller) := goodIn_app (goodIn_of _ (by decide +kernel)) ggL_law_L_tunneller
set_option maxRecDepth 20000 in
theorem ggL_law_X6_tunneller : GoodIn wsL_law wsX6_tunneller := goodIn_r _ [335, 113, 302, 303, 304, 5, 305, 128, 117, 118, 119, 336, 337, 338, 339, 129, 130, 131, 132, 73, 120, 121, 122, 123, 694, 695, 696, 697, 698, 699, 700, 701] (by decide +kernel) (by decide +kernel)
set_option maxRecDepth 20000 in
theorem gL_law_X6_tunneller : GoodIn wsL_law (wsV RL 92 RX6 yX6_tunneller wsX6_tunneller) := goodIn_app (goodIn_of _ (by decide +kernel)) ggL_law_X6_tunneller
set_option maxRecDepth 20000 in
theorem ggL_law_L_pass : GoodIn wsL_law wsL_pass := goodIn_ca (goodIn_r _ [342, 81, 343, 344, 345, 2, 346, 16, 347, 348, 349, 87, 88, 350, 351, 352, 15, 353, 100, 35, 354, 355, 356, 357, 358, 359, 360, 361, 37, 362, 363, 364, 365, 366, 367, 368, 369, 329, 330, 331, 297, 60, 370, 371, 372, 373, 29, 33, 187, 188, 213, 102, 103, 28, 104, 43, 205, 206, 207, 208, 168, 169, 170, 32, 171, 172, 55, 54, 173, 175, 176, 177, 178, 179, 180, 181, 182, 183, 184, 185, 186, 189, 190, 191, 192, 193, 194, 195, 196, 197, 269, 106, 107, 108, 44, 45, 374, 375, 376, 377, 378, 379, 380, 381, 174, 157, 158, 159, 382, 383, 384, 385, 386, 387, 388, 389, 390, 391, 392, 393, 394, 395, 396, 397, 398, 399, 400, 401, 402, 403, 404, 405, 406, 407, 408, 409, 410, 411, 412, 413, 414, 415, 164, 165, 166, 167, 416, 153, 154, 155, 691, 692, 693, 702, 703, 704, 705, 706, 707, 708, 719, 720, 721, 722, 723, 724, 725, 726, 712, 713, 714, 715, 716, 717, 718] (by decide +kernel) (by decide +kernel)) (goodIn_sub (fun _ h => List.mem_append_left _ (List.mem_append_left _ (List.mem_append_right _ h))) (by decide +kernel))
set_option maxRecDepth 20000 in
theorem gL_law_L_pass : GoodIn wsL_law (va_wsS RL 93 yL_pass wsL_pass) := goodIn_app (goodIn_of _ (by decide +kernel)) ggL_law_L_pass
set_option maxRecDepth 20000 in
theorem ggL_law_X6_pass : GoodIn wsL_law wsX6_pass := goodIn_r _ [420, 113, 74, 117, 118, 5, 119, 120, 121, 122, 123, 421, 422, 423, 424, 128, 425, 426, 427, 428, 71, 75, 133, 134, 135, 136, 129, 130, 131, 132, 73, 274, 275, 276, 277, 306, 307, 308, 309, 429, 430, 431, 432, 72, 433, 434, 435, 436, 70, 239, 240, 241, 437, 438, 439, 440, 231, 232, 233, 234, 246, 247, 248, 249, 227, 228, 229, 230, 235, 236, 237, 238, 250, 251, 252, 253, 137, 138, 139, 140, 441, 442, 443, 444, 445, 446, 447, 223, 224, 225, 226, 694, 695, 696, 697, 698, 699, 700, 701] (by decide +kernel) (by decide +kernel)
set_option maxRecDepth 20000 in
theorem gL_law_X6_pass : GoodIn wsL_law (wsV RL 95 RX6 yX6_pass wsX6_pass) := goodIn_app (goodIn_of _ (by decide +kernel)) ggL_law_X6_pass
set_option maxRecDepth 20000 in
theorem ggL_law_L_count : GoodIn wsL_law wsL_count := goodIn_ca (goodIn_r _ [450, 80, 451, 452, 453, 2, 454, 94, 95, 16, 455, 456, 457, 15, 458, 100, 35, 459, 460, 461, 28, 462, 43, 463, 464, 465, 466, 45, 467, 468, 469, 470, 205, 206, 207, 208, 33, 29, 168, 169, 170, 32, 171, 172, 55, 54, 173, 175, 176, 177, 178, 179, 180, 181, 182, 183, 184, 185, 186, 187, 188, 189, 190, 191, 192, 193, 209, 210, 211, 212, 213, 102, 103, 104, 194, 195, 196, 197, 214, 471, 472, 473, 474, 164, 165, 166, 167, 174, 157, 158, 159, 475, 691, 692, 693, 702, 703, 704, 705, 706, 707, 708, 719, 720, 721, 722, 723, 724, 725, 726, 712, 713, 714, 715, 716, 717, 718] (by decide +kernel) (by decide +kernel)) (goodIn_sub (fun _ h => List.mem_append_right _ h) (by decide +kernel))
set_option maxRecDepth 20000 in
theorem gL_law_L_count : GoodIn wsL_law (va_wsS RL 96 yL_count wsL_count) := goodIn_app (goodIn_of _ (by decide +kernel)) ggL_law_L_count
set_option maxRecDepth 20000 in
theorem ggL_law_X6_count : GoodIn wsL_law wsX6_count := goodIn_r _ [479, 113, 117, 118, 5, 119, 480, 481, 482, 483, 74, 128, 72, 484, 485, 486, 487, 129, 130, 131, 132, 73, 488, 489, 490, 491, 231, 232, 233, 234, 70, 492, 493, 494, 495, 246, 247, 248, 249, 75, 227, 228, 229, 230, 133, 134, 135, 136, 235, 236, 237, 238, 239, 240, 241, 250, 251, 252, 253, 223, 224, 225, 226, 242, 243, 244, 245, 120, 121, 122, 123, 694, 695, 696, 697, 698, 699, 700, 701] (by decide +kernel) (by decide +kernel)
set_option maxRecDepth 20000 in
theorem gL_law_X6_count : GoodIn wsL_law (wsV RL 98 RX6 yX6_count wsX6_count) := goodIn_app (goodIn_of _ (by decide +kernel)) ggL_law_X6_count
set_option maxRecDepth 20000 in
theorem ggL_law_L_way : GoodIn wsL_law wsL_way := goodIn_ca (goodIn_r _ [498, 80, 499, 500, 501, 2, 502, 16, 91, 92, 93, 94, 95, 503, 504, 505, 15, 506, 33, 29, 168, 169, 170, 32, 171, 172, 55, 54, 173, 214, 190, 191, 28, 192, 43, 175, 176, 177, 178, 179, 180, 181, 182, 183, 184, 185, 186, 187, 188, 189, 193, 507, 691, 692, 693, 702, 703, 704, 705, 706, 707, 708, 715, 716, 717, 718, 712, 713, 714] (by decide +kernel) (by decide +kernel)) (goodIn_sub (fun _ h => List.mem_append_right _ h) (by decide +kernel))
set_option maxRecDepth 20000 in
theorem gL_law_L_way : GoodIn wsL_law (va_wsS RL 99 yL_way wsL_way) := goodIn_app (goodIn_of _ (by decide +kernel)) ggL_law_L_way
set_option maxRecDepth 20000 in
theorem ggL_law_X6_way : GoodIn wsL_law wsX6_way := goodIn_r _ [511, 113, 75, 114, 115, 5, 116, 117, 118, 119, 120, 121, 122, 123, 231, 232, 233, 234, 70, 227, 228, 229, 230, 235, 236, 237, 238, 239, 240, 241, 694, 695, 696, 697, 698, 699, 700, 701] (by decide +kernel) (by decide +kernel)
set_option maxRecDepth 20000 in
theorem gL_law_X6_way : GoodIn wsL_law (wsV RL 101 RX6 yX6_way wsX6_way) := goodIn_app (goodIn_of _ (by decide +kernel)) ggL_law_X6_way
set_option maxRecDepth 20000 in
theorem ggL_law_L_dig : GoodIn wsL_law wsL_dig := goodIn_ca (goodIn_r _ [514, 80, 515, 516, 517, 2, 518, 21, 16, 91, 92, 93, 94, 95, 519, 520, 521, 20, 522, 64, 523, 65, 524, 47, 48, 49, 525, 526, 527, 528, 529, 102, 103, 28, 104, 43, 530, 531, 532, 533, 187, 188, 691, 692, 693, 702, 703, 704, 705, 706, 707, 708, 709, 710, 711, 712, 713, 714] (by decide +kernel) (by decide +kernel)) (goodIn_sub (fun _ h => List.mem_append_right _ h) (by decide +kernel))
set_option maxRecDepth 20000 in
theorem gL_law_L_dig : GoodIn wsL_law (va_wsS RL 102 yL_dig wsL_dig) := goodIn_app (goodIn_of _ (by decide +kernel)) ggL_law_L_dig
set_option maxRecDepth 20000 in
theorem ggL_law_X6_dig : GoodIn wsL_law wsX6_dig := goodIn_r _ [537, 113, 70, 75, 538, 114, 115, 5, 116, 117, 118, 119, 120, 121, 122, 123, 239, 240, 241, 694, 695, 696, 697, 698, 699, 700, 701] (by decide +kernel) (by decide +kernel)
set_option maxRecDepth 20000 in
theorem gL_law_X6_dig : GoodIn wsL_law (wsV RL 104 RX6 yX6_dig wsX6_dig) := goodIn_app (goodIn_of _ (by decide +kernel)) ggL_law_X6_dig
set_option maxRecDepth 20000 in
theorem ggL_law_L_caves : GoodIn wsL_law wsL_caves := goodIn_ca (goodIn_r _ [541, 80, 542, 543, 544, 2, 545, 94, 95, 16, 546, 547, 548, 15, 549, 33, 29, 168, 169, 170, 32, 171, 172, 55, 54, 173, 550, 551, 552, 553, 193, 176, 177, 178, 214, 190, 191, 28, 192, 43, 194, 195, 196, 197, 183, 184, 185, 186, 175, 179, 180, 181, 182, 187, 188, 189, 554, 555, 556, 557, 558, 426, 427, 428, 559, 560, 561, 562, 100, 35, 691, 692, 693, 702, 703, 704, 705, 706, 707, 708, 715, 716, 717, 718, 712, 713, 714, 719, 720, 721, 722, 723, 724, 725, 726] (by decide +kernel) (by decide +kernel)) (goodIn_sub (fun _ h => List.mem_append_right _ h) (by decide +kernel))
set_option maxRecDepth 20000 in
theorem gL_law_L_caves : GoodIn wsL_law (va_wsS RL 105 yL_caves wsL_caves) := goodIn_app (goodIn_of _ (by decide +kernel)) ggL_law_L_caves
set_option maxRecDepth 20000 in
theorem ggL_law_X6_caves : GoodIn wsL_law wsX6_caves := goodIn_r _ [566, 113, 117, 118, 5, 119, 567, 568, 569, 570, 75, 128, 425, 426, 427, 428, 227, 228, 229, 230, 231, 232, 233, 234, 70, 571, 572, 573, 574, 575, 576, 577, 578, 239, 240, 241, 133, 134, 135, 136, 129, 130, 131, 132, 73, 120, 121, 122, 123, 694, 695, 696, 697, 698, 699, 700, 701] (by decide +kernel) (by decide +kernel)
set_option maxRecDepth 20000 in
theorem gL_law_X6_caves : GoodIn wsL_law (wsV RL 107 RX6 yX6_caves wsX6_caves) := goodIn_app (goodIn_of _ (by decide +kernel)) ggL_law_X6_caves
set_option maxRecDepth 20000 in
theorem ggL_law_L_meet : GoodIn wsL_law wsL_meet := goodIn_ca (goodIn_ca (goodIn_r _ [581, 80, 81, 582, 583, 584, 2, 585, 87, 88, 17, 16, 285, 286, 287, 288, 94, 95, 289, 290, 291, 15, 292, 100, 35, 347, 348, 349, 586, 587, 588, 589, 29, 358, 411, 402, 590, 591, 592, 28, 593, 43, 594, 595, 596, 597, 44, 45, 598, 599, 600, 37, 601, 602, 603, 364, 363, 604, 605, 60, 606, 297, 607, 608, 609, 610, 611, 395, 396, 397, 187, 188, 354, 355, 356, 357, 359, 360, 361, 362, 365, 366, 367, 368, 369, 329, 330, 331, 370, 371, 372, 373, 33, 213, 102, 103, 104, 205, 206, 207, 208, 168, 169, 170, 32, 171, 172, 55, 54, 173, 175, 176, 177, 178, 179, 180, 181, 182, 183, 184, 185, 186, 189, 190, 191, 192, 193, 194, 195, 196, 197, 269, 106, 107, 108, 374, 375, 376, 377, 378, 379, 380, 381, 174, 157, 158, 159, 382, 383, 384, 385, 386, 387, 388, 389, 390, 391, 392, 393, 394, 398, 399, 400, 401, 403, 404, 405, 406, 407, 408, 409, 410, 412, 413, 414, 415, 164, 165, 166, 167, 416, 153, 154, 155, 691, 692, 693, 702, 703, 704, 705, 706, 707, 708, 712, 713, 714, 719, 720, 721, 722, 723, 724, 725, 726, 715, 716, 717, 718] (by decide +kernel) (by decide +kernel)) (goodIn_sub (fun _ h => List.mem_append_left _ (List.mem_append_left _ (List.mem_append_right _ h))) (by decide +kernel))) (goodIn_sub (fun _ h => List.mem_append_right _ h) (by decide +kernel))
set_option maxRecDepth 20000 in
theorem gL_law_L_meet : GoodIn wsL_law (va_wsS RL 108 yL_meet wsL_meet) := goodIn_app (goodIn_of _ (by decide +kernel)) ggL_law_L_meet
set_option maxRecDepth 20000 in
theorem ggL_law_X6_meet : GoodIn wsL_law wsX6_meet := goodIn_r _ [615, 113, 302, 303, 304, 5, 305, 128, 117, 118, 119, 120, 121, 122, 123, 616, 617, 618, 619, 620, 70, 621, 622, 623, 624, 625, 71, 72, 73, 74, 626, 627, 628, 629, 133, 134, 135, 136, 129, 130, 131, 132, 445, 446, 447, 239, 240, 241, 421, 422, 423, 424, 425, 426, 427, 428, 75, 274, 275, 276, 277, 306, 307, 308, 309, 429, 430, 431, 432, 433, 434, 435, 436, 437, 438, 439, 440, 231, 232, 233, 234, 246, 247, 248, 249, 227, 228, 229, 230, 235, 236, 237, 238, 250, 251, 252, 253, 137, 138, 139, 140, 441, 442, 443, 444, 223, 224, 225, 226, 630, 631, 632, 633, 694, 695, 696, 697, 698, 699, 700, 701] (by decide +kernel) (by decide +kernel)
set_option maxRecDepth 20000 in
theorem gL_law_X6_meet : GoodIn wsL_law (wsV RL 110 RX6 yX6_meet wsX6_meet) := goodIn_app (goodIn_of _ (by decide +kernel)) ggL_law_X6_meet
set_option maxRecDepth 20000 in
theorem ggL_law_L_foresee : GoodIn wsL_law wsL_foresee := goodIn_ca (goodIn_ca (goodIn_r _ [636, 81, 80, 637, 638, 639, 2, 640, 94, 95, 17, 16, 347, 348, 349, 87, 88, 586, 587, 588, 15, 589, 29, 35, 100, 358, 411, 402, 590, 591, 592, 28, 593, 43, 594, 595, 596, 597, 44, 45, 598, 599, 600, 37, 601, 602, 603, 364, 363, 604, 605, 60, 606, 297, 354, 355, 356, 357, 359, 360, 361, 362, 365, 366, 367, 368, 369, 329, 330, 331, 370, 371, 372, 373, 33, 187, 188, 213, 102, 103, 104, 205, 206, 207, 208, 168, 169, 170, 32, 171, 172, 55, 54, 173, 175, 176, 177, 178, 179, 180, 181, 182, 183, 184, 185, 186, 189, 190, 191, 192, 193, 194, 195, 196, 197, 269, 106, 107, 108, 374, 375, 376, 377, 378, 379, 380, 381, 174, 157, 158, 159, 382, 383, 384, 385, 386, 387, 388, 389, 390, 391, 392, 393, 394, 395, 396, 397, 398, 399, 400, 401, 403, 404, 405, 406, 407, 408, 409, 410, 412, 413, 414, 415, 164, 165, 166, 167, 416, 153, 154, 155, 455, 456, 457, 458, 459, 460, 461, 462, 641, 642, 643, 644, 645, 646, 647, 648, 691, 692, 693, 702, 703, 704, 705, 706, 707, 708, 712, 713, 714, 719, 720, 721, 722, 723, 724, 725, 726, 715, 716, 717, 718] (by decide +kernel) (by decide +kernel)) (goodIn_sub (fun _ h => List.mem_append_right _ h) (by decide +kernel))) (goodIn_sub (fun _ h => List.mem_append_left _ (List.mem_append_left _ (List.mem_append_right _ h))) (by decide +kernel))
set_option maxRecDepth 20000 in
theorem gL_law_L_foresee : GoodIn wsL_law (va_wsS RL 111 yL_foresee wsL_foresee) := goodIn_app (goodIn_of _ (by decide +kernel)) ggL_law_L_foresee
set_option maxRecDepth 20000 in
theorem ggL_law_X6_foresee : GoodIn wsL_law wsX6_foresee := goodIn_r _ [652, 113, 117, 118, 5, 119, 120, 121, 122, 123, 616, 617, 618, 619, 620, 70, 621, 622, 623, 624, 625, 71, 72, 73, 74, 421, 422, 423, 424, 128, 425, 426, 427, 428, 75, 133, 134, 135, 136, 129, 130, 131, 132, 274, 275, 276, 277, 306, 307, 308, 309, 429, 430, 431, 432, 433, 434, 435, 436, 239, 240, 241, 437, 438, 439, 440, 231, 232, 233, 234, 246, 247, 248, 249, 227, 228, 229, 230, 235, 236, 237, 238, 250, 251, 252, 253, 137, 138, 139, 140, 441, 442, 443, 444, 445, 446, 447, 223, 224, 225, 226, 484, 485, 486, 487, 488, 489, 490, 491, 630, 631, 632, 633, 694, 695, 696, 697, 698, 699, 700, 701] (by decide +kernel) (by decide +kernel)
set_option maxRecDepth 20000 in
theorem gL_law_X6_foresee : GoodIn wsL_law (wsV RL 113 RX6 yX6_foresee wsX6_foresee) := goodIn_app (goodIn_of _ (by decide +kernel)) ggL_law_X6_foresee
set_option maxRecDepth 20000 in
theorem ggL_law_L_without : GoodIn wsL_law wsL_without := goodIn_ca (goodIn_r _ [655, 80, 656, 657, 658, 2, 659, 16, 91, 92, 93, 94, 95, 660, 190, 191, 28, 192, 43, 546, 547, 548, 15, 549, 33, 29, 168, 169, 170, 32, 171, 172, 55, 54, 173, 550, 551, 552, 553, 193, 176, 177, 178, 214, 194, 195, 196, 197, 183, 184, 185, 186, 175, 179, 180, 181, 182, 187, 188, 189, 691, 692, 693, 702, 703, 704, 705, 706, 707, 708, 712, 713, 714, 715, 716, 717, 718] (by decide +kernel) (by decide +kernel)) (goodIn_sub (fun _ h => List.mem_append_right _ h) (by decide +kernel))
set_option maxRecDepth 20000 in
theorem gL_law_L_without : GoodIn wsL_law (va_wsS RL 114 yL_without wsL_without) := goodIn_app (goodIn_of _ (by decide +kernel)) ggL_law_L_without
set_option maxRecDepth 20000 in
theorem ggL_law_X6_without : GoodIn wsL_law wsX6_without := goodIn_r _ [664, 113, 70, 114, 115, 5, 116, 117, 118, 119, 120, 121, 122, 123, 231, 232, 233, 234, 567, 568, 569, 570, 75, 128, 425, 426, 427, 428, 227, 228, 229, 230, 571, 572, 573, 574, 575, 576, 577, 578, 239, 240, 241, 133, 134, 135, 136, 129, 130, 131, 132, 73, 694, 695, 696, 697, 698, 699, 700, 701] (by decide +kernel) (by decide +kernel)
set_option maxRecDepth 20000 in
theorem gL_law_X6_without : GoodIn wsL_law (wsV RL 116 RX6 yX6_without wsX6_without) := goodIn_app (goodIn_of _ (by decide +kernel)) ggL_law_X6_without
set_option maxRecDepth 20000 in
theorem ggL_law_X5_light : GoodIn wsL_law wsX5_light := goodIn_r _ [668, 16, 459, 460, 461, 28, 462, 43, 669, 670, 671, 15, 672, 33, 205, 206, 207, 208, 100, 35, 29, 168, 169, 170, 32, 171, 172, 55, 54, 173, 175, 176, 177, 178, 179, 180, 181, 182, 183, 184, 185, 186, 187, 2, 188, 189, 190, 191, 192, 193, 691, 692, 693, 702, 703, 704, 705, 706, 707, 708, 712, 713, 714, 715, 716, 717, 718, 719, 720, 721, 722, 723, 724, 725, 726] (by decide +kernel) (by decide +kernel)
set_option maxRecDepth 20000 in
theorem gL_law_X5_light : GoodIn wsL_law (wsV RL 117 RX5 yX5_light wsX5_light) := goodIn_app (goodIn_of _ (by decide +kernel)) ggL_law_X5_light
set_option maxRecDepth 20000 in
theorem ggL_law_X6_light : GoodIn wsL_law wsX6_light := goodIn_r _ [676, 113, 488, 489, 490, 5, 491, 231, 232, 233, 234, 70, 492, 493, 494, 495, 246, 247, 248, 249, 128, 75, 227, 228, 229, 230, 133, 134, 135, 136, 129, 130, 131, 132, 73, 235, 236, 237, 238, 239, 240, 241, 250, 251, 252, 253, 694, 695, 696, 697, 698, 699, 700, 701] (by decide +kernel) (by decide +kernel)
set_option maxRecDepth 20000 in
theorem gL_law_X6_light : GoodIn wsL_law (wsV RL 121 RX6 yX6_light wsX6_light) := goodIn_app (goodIn_of _ (by decide +kernel)) ggL_law_X6_light
set_option maxRecDepth 20000 in
theorem ggL_law_X5_digest : GoodIn wsL_law wsX5_digest := goodIn_ca (goodIn_r _ [680, 681, 682, 16, 683, 452, 453, 2, 454, 94, 95, 455, 456, 457, 15, 458, 100, 35, 459, 460, 461, 28, 462, 43, 463, 464, 465, 466, 45, 467, 468, 469, 470, 205, 206, 207, 208, 33, 29, 168, 169, 170, 32, 171, 172, 55, 54, 173, 175, 176, 177, 178, 179, 180, 181, 182, 183, 184, 185, 186, 187, 188, 189, 190, 191, 192, 193, 209, 210, 211, 212, 213, 102, 103, 104, 194, 195, 196, 197, 214, 471, 472, 473, 474, 164, 165, 166, 167, 174, 157, 158, 159, 475, 101, 152, 153, 154, 155, 44, 156, 684, 325, 326, 327, 285, 286, 287, 288, 289, 290, 291, 292, 328, 329, 330, 37, 331, 297, 60, 198, 199, 200, 691, 692, 693, 702, 703, 704, 705, 706, 707, 708, 719, 720, 721, 722, 723, 724, 725, 726, 712, 713, 714, 715, 716, 717, 718] (by decide +kernel) (by decide +kernel)) (goodIn_sub (fun _ h => List.mem_append_right _ h) (by decide +kernel))
set_option maxRecDepth 20000 in
theorem gL_law_X5_digest : GoodIn wsL_law (wsV RL 122 RX5 yX5_digest wsX5_digest) := goodIn_app (goodIn_of _ (by decide +kernel)) ggL_law_X5_digest
set_option maxRecDepth 20000 in
theorem ggL_law_X6_digest : GoodIn wsL_law wsX6_digest := goodIn_r _ [688, 113, 689, 690, 70, 71, 72, 128, 480, 481, 482, 5, 483, 74, 484, 485, 486, 487, 129, 130, 131, 132, 73, 488, 489, 490, 491, 231, 232, 233, 234, 492, 493, 494, 495, 246, 247, 248, 249, 75, 227, 228, 229, 230, 133, 134, 135, 136, 235, 236, 237, 238, 239, 240, 241, 250, 251, 252, 253, 223, 224, 225, 226, 242, 243, 244, 245, 336, 337, 338, 339, 694, 695, 696, 697, 698, 699, 700, 701] (by decide +kernel) (by decide +kernel)
set_option maxRecDepth 20000 in
theorem gL_law_X6_digest : GoodIn wsL_law (wsV RL 126 RX6 yX6_digest wsX6_digest) := goodIn_app (goodIn_of _ (by decide +kernel)) ggL_law_X6_digest

