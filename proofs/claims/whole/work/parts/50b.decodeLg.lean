set_option maxRecDepth 20000 in
theorem ggL_law_X4_init : GoodIn wsL_law wsX4_init := goodIn_r _ [10, 11, 12, 13, 14, 15, 16, 17, 18, 19, 20, 21, 22, 23, 24, 25, 26, 27, 28, 29, 30, 6, 31, 32, 33, 34, 35, 36, 37, 38, 39, 40, 41, 42, 43, 44, 45, 46, 47, 48, 49, 50, 51, 52, 53, 54, 55, 56, 57, 58, 59, 60, 61, 62, 63, 64, 65, 66, 67, 68, 802, 803, 804, 805, 806, 807, 808, 809, 810, 811, 812, 813, 783, 784, 785, 786, 787, 788, 814, 815, 816, 817, 818, 819, 820, 821] (by decide +kernel) (by decide +kernel)
set_option maxRecDepth 20000 in
theorem gL_law_X4_init : GoodIn wsL_law (wsX4_init) := ggL_law_X4_init
set_option maxRecDepth 20000 in
theorem ggL_law_X5_init : GoodIn wsL_law wsX5_init := goodIn_r _ [71, 72, 12, 13, 6, 73, 74, 75, 36, 76, 77, 78, 79, 80, 81, 82, 83, 84, 789, 790, 791, 792, 793, 794, 795, 796, 797, 798, 799, 800, 801] (by decide +kernel) (by decide +kernel)
set_option maxRecDepth 20000 in
theorem gL_law_X5_init : GoodIn wsL_law (wsX5_init) := ggL_law_X5_init
set_option maxRecDepth 20000 in
theorem ggL_law_L_gift : GoodIn wsL_law wsL_gift := goodIn_ca (goodIn_ca (goodIn_r _ [88, 89, 90, 91, 92, 93, 2, 94, 95, 96, 22, 17, 97, 26, 98, 99, 100, 101, 102, 103, 104, 105, 106, 107, 108, 21, 109, 110, 53, 111, 112, 113, 114, 115, 116, 117, 118, 119, 120, 121, 16, 122, 37, 123, 124, 125, 126, 38, 39, 40, 41, 42, 43, 127, 44, 128, 46, 47, 129, 130, 131, 132, 133, 134, 135, 136, 137, 138, 139, 140, 25, 141, 61, 783, 784, 785, 786, 787, 788, 802, 803, 804, 805, 806, 807, 808, 809, 810, 811, 812, 813, 814, 815, 816, 817, 818, 819] (by decide +kernel) (by decide +kernel)) (goodIn_sub (fun _ h => List.mem_append_left _ (List.mem_append_left _ (List.mem_append_right _ h))) (by decide +kernel))) (goodIn_sub (fun _ h => List.mem_append_left _ (List.mem_append_right _ h)) (by decide +kernel))
set_option maxRecDepth 20000 in
theorem gL_law_L_gift : GoodIn wsL_law (va_wsS RL 83 yL_gift wsL_gift) := goodIn_app (goodIn_of _ (by decide +kernel)) ggL_law_L_gift
set_option maxRecDepth 20000 in
theorem ggL_law_X5_gift : GoodIn wsL_law wsX5_gift := goodIn_r _ [145, 146, 147, 148, 5, 149, 150, 151, 152, 153, 154, 155, 156, 157, 158, 159, 160, 161, 162, 163, 164, 75, 73, 165, 166, 167, 168, 789, 790, 791, 792, 793, 794, 795, 796, 797, 798, 799, 800, 801] (by decide +kernel) (by decide +kernel)
set_option maxRecDepth 20000 in
theorem gL_law_X5_gift : GoodIn wsL_law (wsV RL 88 RX5 yX5_gift wsX5_gift) := goodIn_app (goodIn_of _ (by decide +kernel)) ggL_law_X5_gift
set_option maxRecDepth 20000 in
theorem ggL_law_X5_thrown : GoodIn wsL_law wsX5_thrown := goodIn_r _ [172, 146, 789, 790, 791, 792, 793, 794, 795, 796, 797, 798, 799, 800, 801] (by decide +kernel) (by decide +kernel)
set_option maxRecDepth 20000 in
theorem gL_law_X5_thrown : GoodIn wsL_law (wsV RL 89 RX5 yX5_thrown wsX5_thrown) := goodIn_app (goodIn_of _ (by decide +kernel)) ggL_law_X5_thrown
set_option maxRecDepth 20000 in
theorem ggL_law_L_way : GoodIn wsL_law wsL_way := goodIn_ca (goodIn_ca (goodIn_r _ [175, 89, 90, 176, 177, 178, 2, 179, 95, 96, 22, 17, 180, 181, 182, 26, 98, 99, 100, 101, 102, 103, 104, 105, 106, 107, 108, 21, 109, 110, 53, 111, 112, 113, 114, 115, 116, 117, 118, 119, 120, 121, 16, 122, 37, 123, 124, 125, 126, 38, 39, 40, 41, 42, 43, 127, 44, 128, 46, 47, 129, 130, 131, 132, 133, 134, 135, 136, 137, 138, 139, 140, 25, 141, 61, 783, 784, 785, 786, 787, 788, 802, 803, 804, 805, 806, 807, 808, 809, 810, 811, 812, 813, 814, 815, 816, 817, 818, 819] (by decide +kernel) (by decide +kernel)) (goodIn_sub (fun _ h => List.mem_append_left _ (List.mem_append_left _ (List.mem_append_right _ h))) (by decide +kernel))) (goodIn_sub (fun _ h => List.mem_append_left _ (List.mem_append_right _ h)) (by decide +kernel))
set_option maxRecDepth 20000 in
theorem gL_law_L_way : GoodIn wsL_law (va_wsS RL 92 yL_way wsL_way) := goodIn_app (goodIn_of _ (by decide +kernel)) ggL_law_L_way
set_option maxRecDepth 20000 in
theorem ggL_law_X5_way : GoodIn wsL_law wsX5_way := goodIn_r _ [186, 146, 147, 148, 5, 149, 150, 151, 152, 153, 154, 155, 156, 157, 158, 159, 160, 161, 162, 163, 164, 75, 73, 187, 188, 189, 190, 165, 166, 167, 168, 789, 790, 791, 792, 793, 794, 795, 796, 797, 798, 799, 800, 801] (by decide +kernel) (by decide +kernel)
set_option maxRecDepth 20000 in
theorem gL_law_X5_way : GoodIn wsL_law (wsV RL 95 RX5 yX5_way wsX5_way) := goodIn_app (goodIn_of _ (by decide +kernel)) ggL_law_X5_way
set_option maxRecDepth 20000 in
theorem ggL_law_L_put : GoodIn wsL_law wsL_put := goodIn_ca (goodIn_r _ [193, 89, 194, 195, 196, 2, 197, 22, 17, 198, 98, 99, 100, 101, 102, 103, 104, 105, 106, 107, 108, 21, 109, 110, 53, 111, 112, 113, 114, 115, 116, 117, 118, 119, 120, 121, 16, 122, 37, 123, 124, 125, 126, 38, 39, 40, 41, 42, 43, 127, 44, 128, 46, 47, 132, 133, 134, 135, 136, 137, 783, 784, 785, 786, 787, 788, 802, 803, 804, 805, 806, 807, 808, 809, 810, 811, 812, 813, 814, 815] (by decide +kernel) (by decide +kernel)) (goodIn_sub (fun _ h => List.mem_append_left _ (List.mem_append_right _ h)) (by decide +kernel))
set_option maxRecDepth 20000 in
theorem gL_law_L_put : GoodIn wsL_law (va_wsS RL 96 yL_put wsL_put) := goodIn_app (goodIn_of _ (by decide +kernel)) ggL_law_L_put
set_option maxRecDepth 20000 in
theorem ggL_law_X5_put : GoodIn wsL_law wsX5_put := goodIn_r _ [202, 146, 147, 148, 5, 149, 150, 151, 152, 153, 154, 155, 156, 157, 158, 159, 160, 161, 162, 163, 164, 75, 73, 165, 166, 167, 168, 789, 790, 791, 792, 793, 794, 795, 796, 797, 798, 799, 800, 801] (by decide +kernel) (by decide +kernel)
set_option maxRecDepth 20000 in
theorem gL_law_X5_put : GoodIn wsL_law (wsV RL 99 RX5 yX5_put wsX5_put) := goodIn_app (goodIn_of _ (by decide +kernel)) ggL_law_X5_put
set_option maxRecDepth 20000 in
theorem ggL_law_L_set : GoodIn wsL_law wsL_set := goodIn_ca (goodIn_ca (goodIn_r _ [205, 89, 90, 206, 207, 208, 2, 209, 95, 96, 210, 211, 22, 17, 212, 26, 213, 214, 215, 101, 102, 103, 104, 105, 132, 133, 134, 106, 107, 108, 21, 109, 110, 53, 111, 112, 113, 114, 115, 116, 117, 118, 119, 120, 121, 16, 122, 37, 123, 124, 125, 126, 38, 39, 40, 41, 42, 43, 127, 44, 128, 46, 47, 135, 136, 137, 216, 217, 218, 25, 219, 61, 783, 784, 785, 786, 787, 788, 802, 803, 804, 805, 806, 807, 808, 809, 810, 811, 812, 813, 814, 815, 816, 817, 818, 819] (by decide +kernel) (by decide +kernel)) (goodIn_sub (fun _ h => List.mem_append_left _ (List.mem_append_left _ (List.mem_append_right _ h))) (by decide +kernel))) (goodIn_sub (fun _ h => List.mem_append_left _ (List.mem_append_right _ h)) (by decide +kernel))
set_option maxRecDepth 20000 in
theorem gL_law_L_set : GoodIn wsL_law (va_wsS RL 100 yL_set wsL_set) := goodIn_app (goodIn_of _ (by decide +kernel)) ggL_law_L_set
set_option maxRecDepth 20000 in
theorem ggL_law_X5_set : GoodIn wsL_law wsX5_set := goodIn_r _ [223, 146, 150, 151, 5, 152, 156, 157, 158, 159, 224, 225, 226, 160, 161, 162, 163, 164, 75, 73, 165, 166, 167, 168, 789, 790, 791, 792, 793, 794, 795, 796, 797, 798, 799, 800, 801] (by decide +kernel) (by decide +kernel)
set_option maxRecDepth 20000 in
theorem gL_law_X5_set : GoodIn wsL_law (wsV RL 102 RX5 yX5_set wsX5_set) := goodIn_app (goodIn_of _ (by decide +kernel)) ggL_law_X5_set
set_option maxRecDepth 20000 in
theorem ggL_law_L_pull : GoodIn wsL_law wsL_pull := goodIn_ca (goodIn_ca (goodIn_r _ [229, 89, 230, 231, 232, 233, 2, 234, 235, 236, 17, 22, 198, 237, 238, 239, 101, 102, 103, 104, 105, 240, 241, 242, 16, 243, 42, 133, 134, 106, 107, 108, 21, 109, 110, 53, 111, 112, 113, 114, 115, 116, 117, 118, 119, 120, 121, 122, 37, 123, 124, 125, 126, 38, 39, 40, 41, 43, 127, 44, 128, 46, 47, 244, 245, 246, 247, 248, 45, 249, 130, 131, 250, 251, 252, 253, 254, 255, 256, 257, 136, 137, 258, 259, 260, 261, 262, 263, 132, 783, 784, 785, 786, 787, 788, 802, 803, 804, 805, 806, 807, 808, 809, 810, 811, 812, 813, 814, 815] (by decide +kernel) (by decide +kernel)) (goodIn_sub (fun _ h => List.mem_append_right _ h) (by decide +kernel))) (goodIn_sub (fun _ h => List.mem_append_left _ (List.mem_append_right _ h)) (by decide +kernel))
set_option maxRecDepth 20000 in
theorem gL_law_L_pull : GoodIn wsL_law (va_wsS RL 103 yL_pull wsL_pull) := goodIn_app (goodIn_of _ (by decide +kernel)) ggL_law_L_pull
set_option maxRecDepth 20000 in
theorem ggL_law_X5_pull : GoodIn wsL_law wsX5_pull := goodIn_r _ [267, 146, 73, 268, 147, 148, 5, 149, 150, 151, 152, 156, 157, 158, 159, 160, 161, 162, 163, 164, 75, 269, 270, 271, 272, 83, 273, 274, 275, 276, 82, 277, 278, 279, 280, 281, 282, 283, 284, 285, 286, 287, 288, 289, 290, 291, 292, 293, 789, 790, 791, 792, 793, 794, 795, 796, 797, 798, 799, 800, 801] (by decide +kernel) (by decide +kernel)
set_option maxRecDepth 20000 in
theorem gL_law_X5_pull : GoodIn wsL_law (wsV RL 106 RX5 yX5_pull wsX5_pull) := goodIn_app (goodIn_of _ (by decide +kernel)) ggL_law_X5_pull
set_option maxRecDepth 20000 in
theorem ggL_law_L_play : GoodIn wsL_law wsL_play := goodIn_ca (goodIn_ca (goodIn_r _ [296, 90, 230, 297, 298, 299, 2, 300, 235, 236, 17, 22, 26, 301, 302, 303, 304, 95, 96, 103, 104, 105, 305, 306, 307, 240, 241, 242, 16, 243, 42, 133, 134, 106, 107, 108, 21, 109, 110, 53, 111, 112, 113, 114, 115, 116, 117, 118, 119, 120, 121, 122, 37, 123, 124, 125, 126, 38, 39, 40, 41, 43, 127, 44, 128, 46, 47, 308, 309, 310, 25, 311, 61, 59, 130, 131, 312, 313, 314, 315, 316, 317, 318, 319, 320, 62, 321, 322, 323, 324, 325, 326, 327, 328, 329, 63, 330, 331, 332, 333, 334, 335, 336, 337, 338, 255, 256, 257, 339, 340, 341, 342, 343, 344, 345, 346, 347, 348, 349, 350, 351, 352, 353, 354, 355, 356, 357, 198, 358, 97, 31, 132, 129, 359, 360, 361, 362, 363, 364, 250, 251, 252, 253, 365, 366, 367, 368, 369, 244, 245, 246, 247, 248, 45, 249, 254, 136, 137, 258, 259, 260, 261, 262, 263, 783, 784, 785, 786, 787, 788, 802, 803, 804, 805, 806, 807, 808, 809, 810, 811, 812, 813, 814, 815, 816, 817, 818, 819] (by decide +kernel) (by decide +kernel)) (goodIn_sub (fun _ h => List.mem_append_right _ h) (by decide +kernel))) (goodIn_sub (fun _ h => List.mem_append_left _ (List.mem_append_left _ (List.mem_append_right _ h))) (by decide +kernel))
set_option maxRecDepth 20000 in
theorem gL_law_L_play : GoodIn wsL_law (va_wsS RL 107 yL_play wsL_play) := goodIn_app (goodIn_of _ (by decide +kernel)) ggL_law_L_play
set_option maxRecDepth 20000 in
theorem ggL_law_X5_play : GoodIn wsL_law wsX5_play := goodIn_r _ [373, 146, 73, 268, 374, 375, 5, 376, 150, 151, 152, 156, 157, 158, 159, 160, 161, 162, 163, 164, 75, 377, 378, 379, 380, 381, 382, 383, 384, 82, 385, 386, 387, 388, 389, 273, 274, 275, 276, 277, 278, 279, 390, 391, 392, 393, 394, 395, 396, 397, 78, 398, 399, 400, 401, 79, 272, 280, 281, 282, 402, 403, 404, 405, 406, 407, 408, 409, 410, 269, 270, 271, 83, 283, 284, 285, 286, 287, 288, 289, 290, 291, 292, 293, 789, 790, 791, 792, 793, 794, 795, 796, 797, 798, 799, 800, 801] (by decide +kernel) (by decide +kernel)
set_option maxRecDepth 20000 in
theorem gL_law_X5_play : GoodIn wsL_law (wsV RL 109 RX5 yX5_play wsX5_play) := goodIn_app (goodIn_of _ (by decide +kernel)) ggL_law_X5_play
set_option maxRecDepth 20000 in
theorem ggL_law_X4_begin : GoodIn wsL_law wsX4_begin := goodIn_r _ [414, 22, 17, 106, 107, 108, 21, 109, 110, 53, 111, 112, 113, 114, 115, 116, 117, 118, 119, 120, 121, 16, 122, 37, 123, 124, 125, 126, 38, 39, 40, 41, 42, 43, 127, 44, 128, 46, 47, 240, 241, 242, 243, 133, 2, 134, 415, 416, 417, 418, 45, 136, 137, 783, 784, 785, 786, 787, 788, 814, 815, 802, 803, 804, 805, 806, 807, 808, 809, 810, 811, 812, 813] (by decide +kernel) (by decide +kernel)
set_option maxRecDepth 20000 in
theorem gL_law_X4_begin : GoodIn wsL_law (wsV RL 112 RX4 yX4_begin wsX4_begin) := goodIn_app (goodIn_of _ (by decide +kernel)) ggL_law_X4_begin
set_option maxRecDepth 20000 in
theorem ggL_law_X5_begin : GoodIn wsL_law wsX5_begin := goodIn_r _ [422, 146, 73, 82, 83, 160, 161, 162, 5, 163, 164, 75, 789, 790, 791, 792, 793, 794, 795, 796, 797, 798, 799, 800, 801] (by decide +kernel) (by decide +kernel)
set_option maxRecDepth 20000 in
theorem gL_law_X5_begin : GoodIn wsL_law (wsV RL 116 RX5 yX5_begin wsX5_begin) := goodIn_app (goodIn_of _ (by decide +kernel)) ggL_law_X5_begin
set_option maxRecDepth 20000 in
theorem ggL_law_L_append : GoodIn wsL_law wsL_append := goodIn_ca (goodIn_ca (goodIn_r _ [425, 90, 230, 426, 427, 428, 2, 429, 95, 96, 235, 236, 30, 430, 431, 103, 104, 105, 135, 136, 137, 783, 784, 785, 786, 787, 788, 820, 821] (by decide +kernel) (by decide +kernel)) (goodIn_sub (fun _ h => List.mem_append_left _ (List.mem_append_left _ (List.mem_append_right _ h))) (by decide +kernel))) (goodIn_sub (fun _ h => List.mem_append_right _ h) (by decide +kernel))
set_option maxRecDepth 20000 in
theorem gL_law_L_append : GoodIn wsL_law (va_wsS RL 117 yL_append wsL_append) := goodIn_app (goodIn_of _ (by decide +kernel)) ggL_law_L_append
set_option maxRecDepth 20000 in
theorem ggL_law_X5_append : GoodIn wsL_law wsX5_append := goodIn_r _ [435, 146, 436, 76, 150, 151, 5, 152, 156, 157, 158, 159, 789, 790, 791, 792, 793, 794, 795, 796, 797, 798, 799, 800, 801] (by decide +kernel) (by decide +kernel)
set_option maxRecDepth 20000 in
theorem gL_law_X5_append : GoodIn wsL_law (wsV RL 119 RX5 yX5_append wsX5_append) := goodIn_app (goodIn_of _ (by decide +kernel)) ggL_law_X5_append
set_option maxRecDepth 20000 in
theorem ggL_law_X4_clearBuffer : GoodIn wsL_law wsX4_clearBuffer := goodIn_r _ [440, 30, 430, 783, 784, 785, 786, 787, 788, 820, 821] (by decide +kernel) (by decide +kernel)
set_option maxRecDepth 20000 in
theorem gL_law_X4_clearBuffer : GoodIn wsL_law (wsV RL 120 RX4 yX4_clearBuffer wsX4_clearBuffer) := goodIn_app (goodIn_of _ (by decide +kernel)) ggL_law_X4_clearBuffer
set_option maxRecDepth 20000 in
theorem ggL_law_X5_clearBuffer : GoodIn wsL_law wsX5_clearBuffer := goodIn_r _ [444, 146, 436, 789, 790, 791, 792, 793, 794, 795, 796, 797, 798, 799, 800, 801] (by decide +kernel) (by decide +kernel)
set_option maxRecDepth 20000 in
theorem gL_law_X5_clearBuffer : GoodIn wsL_law (wsV RL 123 RX5 yX5_clearBuffer wsX5_clearBuffer) := goodIn_app (goodIn_of _ (by decide +kernel)) ggL_law_X5_clearBuffer
set_option maxRecDepth 20000 in
theorem ggL_law_X4_firstError : GoodIn wsL_law wsX4_firstError := goodIn_r _ [448, 30, 449, 450, 451, 29, 452, 453, 68, 133, 2, 134, 454, 455, 456, 104, 105, 457, 458, 459, 460, 461, 462, 463, 464, 465, 783, 784, 785, 786, 787, 788, 820, 821] (by decide +kernel) (by decide +kernel)
set_option maxRecDepth 20000 in
theorem gL_law_X4_firstError : GoodIn wsL_law (wsV RL 124 RX4 yX4_firstError wsX4_firstError) := goodIn_app (goodIn_of _ (by decide +kernel)) ggL_law_X4_firstError
set_option maxRecDepth 20000 in
theorem ggL_law_X5_firstError : GoodIn wsL_law wsX5_firstError := goodIn_r _ [469, 146, 470, 471, 436, 472, 473, 474, 5, 475, 476, 477, 478, 479, 480, 77, 481, 482, 483, 484, 76, 485, 486, 487, 488, 150, 151, 152, 489, 490, 491, 492, 493, 494, 495, 496, 789, 790, 791, 792, 793, 794, 795, 796, 797, 798, 799, 800, 801] (by decide +kernel) (by decide +kernel)
set_option maxRecDepth 20000 in
theorem gL_law_X5_firstError : GoodIn wsL_law (wsV RL 127 RX5 yX5_firstError wsX5_firstError) := goodIn_app (goodIn_of _ (by decide +kernel)) ggL_law_X5_firstError
set_option maxRecDepth 20000 in
theorem ggL_law_L_read : GoodIn wsL_law wsL_read := goodIn_ca (goodIn_r _ [499, 90, 500, 501, 502, 2, 503, 95, 96, 30, 22, 17, 430, 26, 504, 505, 506, 29, 507, 453, 68, 133, 134, 454, 455, 456, 104, 105, 457, 458, 459, 460, 461, 462, 463, 464, 465, 106, 107, 108, 21, 109, 110, 53, 111, 112, 113, 114, 115, 116, 117, 118, 119, 120, 121, 16, 122, 37, 123, 124, 125, 126, 38, 39, 40, 41, 42, 43, 127, 44, 128, 46, 47, 508, 509, 510, 511, 512, 513, 514, 515, 130, 131, 136, 137, 216, 217, 218, 25, 219, 61, 783, 784, 785, 786, 787, 788, 820, 821, 814, 815, 802, 803, 804, 805, 806, 807, 808, 809, 810, 811, 812, 813, 816, 817, 818, 819] (by decide +kernel) (by decide +kernel)) (goodIn_sub (fun _ h => List.mem_append_left _ (List.mem_append_left _ (List.mem_append_right _ h))) (by decide +kernel))
set_option maxRecDepth 20000 in
theorem gL_law_L_read : GoodIn wsL_law (va_wsS RL 128 yL_read wsL_read) := goodIn_app (goodIn_of _ (by decide +kernel)) ggL_law_L_read
set_option maxRecDepth 20000 in
theorem ggL_law_X5_read : GoodIn wsL_law wsX5_read := goodIn_r _ [519, 146, 436, 476, 77, 472, 473, 474, 5, 475, 471, 470, 477, 478, 479, 480, 481, 482, 483, 484, 76, 485, 486, 487, 488, 150, 151, 152, 489, 490, 491, 492, 493, 494, 495, 496, 156, 157, 158, 159, 160, 161, 162, 163, 164, 75, 73, 165, 166, 167, 168, 187, 188, 189, 190, 789, 790, 791, 792, 793, 794, 795, 796, 797, 798, 799, 800, 801] (by decide +kernel) (by decide +kernel)
set_option maxRecDepth 20000 in
theorem gL_law_X5_read : GoodIn wsL_law (wsV RL 131 RX5 yX5_read wsX5_read) := goodIn_app (goodIn_of _ (by decide +kernel)) ggL_law_X5_read
set_option maxRecDepth 20000 in
theorem ggL_law_L_undo : GoodIn wsL_law wsL_undo := goodIn_ca (goodIn_r _ [522, 230, 523, 524, 525, 2, 526, 235, 236, 22, 527, 17, 26, 528, 529, 530, 21, 531, 110, 115, 116, 117, 118, 53, 119, 120, 121, 16, 122, 37, 123, 124, 125, 126, 38, 39, 40, 41, 42, 43, 127, 44, 128, 46, 47, 216, 217, 218, 25, 219, 61, 783, 784, 785, 786, 787, 788, 814, 815, 802, 803, 804, 805, 806, 807, 808, 809, 810, 811, 812, 813, 816, 817, 818, 819] (by decide +kernel) (by decide +kernel)) (goodIn_sub (fun _ h => List.mem_append_right _ h) (by decide +kernel))
set_option maxRecDepth 20000 in
theorem gL_law_L_undo : GoodIn wsL_law (va_wsS RL 132 yL_undo wsL_undo) := goodIn_app (goodIn_of _ (by decide +kernel)) ggL_law_L_undo
set_option maxRecDepth 20000 in
theorem ggL_law_X5_undo : GoodIn wsL_law wsX5_undo := goodIn_r _ [535, 146, 164, 73, 75, 156, 157, 158, 5, 159, 789, 790, 791, 792, 793, 794, 795, 796, 797, 798, 799, 800, 801] (by decide +kernel) (by decide +kernel)
set_option maxRecDepth 20000 in
theorem gL_law_X5_undo : GoodIn wsL_law (wsV RL 134 RX5 yX5_undo wsX5_undo) := goodIn_app (goodIn_of _ (by decide +kernel)) ggL_law_X5_undo
set_option maxRecDepth 20000 in
theorem ggL_law_L_stateOf : GoodIn wsL_law wsL_stateOf := goodIn_ca (goodIn_ca (goodIn_r _ [538, 89, 90, 539, 540, 541, 2, 542, 95, 96, 17, 97, 180, 181, 182, 98, 99, 100, 101, 102, 103, 104, 105, 129, 130, 131, 132, 133, 134, 543, 544, 545, 546, 547, 548, 549, 550, 783, 784, 785, 786, 787, 788, 802, 803, 804, 805, 806, 807, 808, 809, 810, 811, 812, 813] (by decide +kernel) (by decide +kernel)) (goodIn_sub (fun _ h => List.mem_append_left _ (List.mem_append_left _ (List.mem_append_right _ h))) (by decide +kernel))) (goodIn_sub (fun _ h => List.mem_append_left _ (List.mem_append_right _ h)) (by decide +kernel))
set_option maxRecDepth 20000 in
theorem gL_law_L_stateOf : GoodIn wsL_law (va_wsS RL 135 yL_stateOf wsL_stateOf) := goodIn_app (goodIn_of _ (by decide +kernel)) ggL_law_L_stateOf
set_option maxRecDepth 20000 in
theorem ggL_law_X5_stateOf : GoodIn wsL_law wsX5_stateOf := goodIn_r _ [554, 146, 147, 148, 5, 149, 150, 151, 152, 153, 154, 155, 156, 157, 158, 159, 555, 556, 557, 558, 73, 280, 281, 282, 559, 560, 561, 562, 789, 790, 791, 792, 793, 794, 795, 796, 797, 798, 799, 800, 801] (by decide +kernel) (by decide +kernel)
set_option maxRecDepth 20000 in
theorem gL_law_X5_stateOf : GoodIn wsL_law (wsV RL 137 RX5 yX5_stateOf wsX5_stateOf) := goodIn_app (goodIn_of _ (by decide +kernel)) ggL_law_X5_stateOf
set_option maxRecDepth 20000 in
theorem ggL_law_L_index : GoodIn wsL_law wsL_index := goodIn_ca (goodIn_r _ [565, 89, 566, 567, 568, 2, 569, 26, 17, 358, 98, 99, 100, 101, 102, 103, 104, 105, 308, 309, 310, 25, 311, 61, 59, 130, 131, 312, 313, 314, 315, 316, 133, 134, 317, 318, 319, 320, 62, 321, 322, 323, 324, 325, 326, 327, 328, 329, 63, 330, 331, 332, 333, 334, 335, 336, 337, 338, 255, 256, 257, 339, 340, 341, 342, 343, 344, 129, 359, 783, 784, 785, 786, 787, 788, 816, 817, 818, 819, 802, 803, 804, 805, 806, 807, 808, 809, 810, 811, 812, 813] (by decide +kernel) (by decide +kernel)) (goodIn_sub (fun _ h => List.mem_append_left _ (List.mem_append_right _ h)) (by decide +kernel))
set_option maxRecDepth 20000 in
theorem gL_law_L_index : GoodIn wsL_law (va_wsS RL 138 yL_index wsL_index) := goodIn_app (goodIn_of _ (by decide +kernel)) ggL_law_L_index
set_option maxRecDepth 20000 in
theorem ggL_law_X5_index : GoodIn wsL_law wsX5_index := goodIn_r _ [573, 146, 73, 147, 148, 5, 149, 150, 151, 152, 153, 154, 155, 390, 391, 392, 393, 394, 395, 396, 397, 78, 398, 399, 400, 401, 79, 272, 273, 280, 281, 282, 402, 403, 404, 405, 406, 407, 408, 409, 410, 156, 157, 158, 159, 789, 790, 791, 792, 793, 794, 795, 796, 797, 798, 799, 800, 801] (by decide +kernel) (by decide +kernel)
set_option maxRecDepth 20000 in
theorem gL_law_X5_index : GoodIn wsL_law (wsV RL 140 RX5 yX5_index wsX5_index) := goodIn_app (goodIn_of _ (by decide +kernel)) ggL_law_X5_index
set_option maxRecDepth 20000 in
theorem ggL_law_L_arm : GoodIn wsL_law wsL_arm := goodIn_ca (goodIn_ca (goodIn_r _ [576, 89, 90, 577, 578, 579, 2, 580, 95, 96, 17, 198, 581, 26, 237, 238, 239, 101, 102, 103, 104, 105, 132, 133, 134, 308, 309, 310, 25, 311, 61, 59, 130, 131, 312, 313, 314, 315, 316, 317, 318, 319, 320, 62, 321, 322, 323, 324, 325, 326, 327, 328, 329, 63, 330, 331, 332, 333, 334, 335, 336, 337, 338, 255, 256, 257, 339, 340, 341, 342, 343, 344, 582, 583, 584, 585, 358, 129, 359, 586, 587, 588, 589, 590, 591, 592, 593, 783, 784, 785, 786, 787, 788, 802, 803, 804, 805, 806, 807, 808, 809, 810, 811, 812, 813, 816, 817, 818, 819] (by decide +kernel) (by decide +kernel)) (goodIn_sub (fun _ h => List.mem_append_left _ (List.mem_append_left _ (List.mem_append_right _ h))) (by decide +kernel))) (goodIn_sub (fun _ h => List.mem_append_left _ (List.mem_append_right _ h)) (by decide +kernel))
set_option maxRecDepth 20000 in
theorem gL_law_L_arm : GoodIn wsL_law (va_wsS RL 141 yL_arm wsL_arm) := goodIn_app (goodIn_of _ (by decide +kernel)) ggL_law_L_arm
set_option maxRecDepth 20000 in
theorem ggL_law_X5_arm : GoodIn wsL_law wsX5_arm := goodIn_r _ [597, 146, 147, 148, 5, 149, 150, 151, 152, 156, 157, 158, 159, 598, 599, 600, 601, 73, 602, 603, 604, 605, 390, 391, 392, 393, 394, 395, 396, 397, 78, 398, 399, 400, 401, 79, 272, 273, 280, 281, 282, 402, 403, 404, 405, 406, 407, 408, 409, 410, 606, 607, 608, 609, 277, 278, 279, 789, 790, 791, 792, 793, 794, 795, 796, 797, 798, 799, 800, 801] (by decide +kernel) (by decide +kernel)
set_option maxRecDepth 20000 in
theorem gL_law_X5_arm : GoodIn wsL_law (wsV RL 143 RX5 yX5_arm wsX5_arm) := goodIn_app (goodIn_of _ (by decide +kernel)) ggL_law_X5_arm
set_option maxRecDepth 20000 in
theorem ggL_law_L_count : GoodIn wsL_law wsL_count := goodIn_ca (goodIn_r _ [612, 90, 613, 614, 615, 2, 616, 95, 96, 17, 301, 353, 22, 527, 240, 241, 242, 16, 243, 42, 133, 134, 783, 784, 785, 786, 787, 788, 802, 803, 804, 805, 806, 807, 808, 809, 810, 811, 812, 813, 814, 815] (by decide +kernel) (by decide +kernel)) (goodIn_sub (fun _ h => List.mem_append_left _ (List.mem_append_left _ (List.mem_append_right _ h))) (by decide +kernel))
set_option maxRecDepth 20000 in
theorem gL_law_L_count : GoodIn wsL_law (va_wsS RL 144 yL_count wsL_count) := goodIn_app (goodIn_of _ (by decide +kernel)) ggL_law_L_count
set_option maxRecDepth 20000 in
theorem ggL_law_X5_count : GoodIn wsL_law wsX5_count := goodIn_r _ [620, 146, 150, 151, 5, 152, 621, 622, 623, 624, 73, 164, 156, 157, 158, 159, 789, 790, 791, 792, 793, 794, 795, 796, 797, 798, 799, 800, 801] (by decide +kernel) (by decide +kernel)
set_option maxRecDepth 20000 in
theorem gL_law_X5_count : GoodIn wsL_law (wsV RL 146 RX5 yX5_count wsX5_count) := goodIn_app (goodIn_of _ (by decide +kernel)) ggL_law_X5_count
set_option maxRecDepth 20000 in
theorem ggL_law_L_sum : GoodIn wsL_law wsL_sum := goodIn_ca (goodIn_r _ [627, 90, 628, 629, 630, 2, 631, 95, 96, 17, 632, 633, 634, 783, 784, 785, 786, 787, 788, 802, 803, 804, 805, 806, 807, 808, 809, 810, 811, 812, 813] (by decide +kernel) (by decide +kernel)) (goodIn_sub (fun _ h => List.mem_append_left _ (List.mem_append_left _ (List.mem_append_right _ h))) (by decide +kernel))
set_option maxRecDepth 20000 in
theorem gL_law_L_sum : GoodIn wsL_law (va_wsS RL 147 yL_sum wsL_sum) := goodIn_app (goodIn_of _ (by decide +kernel)) ggL_law_L_sum
set_option maxRecDepth 20000 in
theorem ggL_law_X5_sum : GoodIn wsL_law wsX5_sum := goodIn_r _ [638, 146, 73, 150, 151, 5, 152, 156, 157, 158, 159, 789, 790, 791, 792, 793, 794, 795, 796, 797, 798, 799, 800, 801] (by decide +kernel) (by decide +kernel)
set_option maxRecDepth 20000 in
theorem gL_law_X5_sum : GoodIn wsL_law (wsV RL 149 RX5 yX5_sum wsX5_sum) := goodIn_app (goodIn_of _ (by decide +kernel)) ggL_law_X5_sum
set_option maxRecDepth 20000 in
theorem ggL_law_L_setting : GoodIn wsL_law wsL_setting := goodIn_ca (goodIn_r _ [641, 89, 642, 643, 644, 2, 645, 17, 212, 213, 214, 215, 101, 102, 103, 104, 105, 132, 133, 134, 783, 784, 785, 786, 787, 788, 802, 803, 804, 805, 806, 807, 808, 809, 810, 811, 812, 813] (by decide +kernel) (by decide +kernel)) (goodIn_sub (fun _ h => List.mem_append_left _ (List.mem_append_right _ h)) (by decide +kernel))
set_option maxRecDepth 20000 in
theorem gL_law_L_setting : GoodIn wsL_law (va_wsS RL 150 yL_setting wsL_setting) := goodIn_app (goodIn_of _ (by decide +kernel)) ggL_law_L_setting
set_option maxRecDepth 20000 in
theorem ggL_law_X5_setting : GoodIn wsL_law wsX5_setting := goodIn_r _ [649, 146, 73, 150, 151, 5, 152, 156, 157, 158, 159, 789, 790, 791, 792, 793, 794, 795, 796, 797, 798, 799, 800, 801] (by decide +kernel) (by decide +kernel)
set_option maxRecDepth 20000 in
theorem gL_law_X5_setting : GoodIn wsL_law (wsV RL 152 RX5 yX5_setting wsX5_setting) := goodIn_app (goodIn_of _ (by decide +kernel)) ggL_law_X5_setting
set_option maxRecDepth 20000 in
theorem ggL_law_L_choice : GoodIn wsL_law wsL_choice := goodIn_ca (goodIn_r _ [652, 90, 653, 654, 655, 2, 656, 26, 17, 302, 303, 304, 95, 96, 103, 104, 105, 308, 309, 310, 25, 311, 61, 59, 130, 131, 312, 313, 314, 315, 316, 133, 134, 317, 318, 319, 320, 62, 321, 322, 323, 324, 325, 326, 327, 328, 329, 63, 330, 331, 332, 333, 334, 335, 336, 337, 338, 255, 256, 257, 339, 340, 341, 342, 343, 344, 349, 350, 351, 352, 353, 354, 355, 356, 357, 198, 358, 97, 31, 132, 129, 359, 360, 361, 362, 16, 363, 43, 364, 250, 251, 252, 253, 44, 365, 366, 367, 368, 369, 783, 784, 785, 786, 787, 788, 816, 817, 818, 819, 802, 803, 804, 805, 806, 807, 808, 809, 810, 811, 812, 813] (by decide +kernel) (by decide +kernel)) (goodIn_sub (fun _ h => List.mem_append_left _ (List.mem_append_left _ (List.mem_append_right _ h))) (by decide +kernel))
set_option maxRecDepth 20000 in
theorem gL_law_L_choice : GoodIn wsL_law (va_wsS RL 153 yL_choice wsL_choice) := goodIn_app (goodIn_of _ (by decide +kernel)) ggL_law_L_choice
set_option maxRecDepth 20000 in
theorem ggL_law_X5_choice : GoodIn wsL_law wsX5_choice := goodIn_r _ [660, 146, 73, 150, 151, 5, 152, 381, 382, 383, 384, 82, 385, 386, 387, 388, 389, 273, 274, 275, 276, 277, 278, 279, 390, 391, 392, 393, 394, 395, 396, 397, 78, 398, 399, 400, 401, 79, 272, 280, 281, 282, 402, 403, 404, 405, 406, 407, 408, 409, 410, 156, 157, 158, 159, 789, 790, 791, 792, 793, 794, 795, 796, 797, 798, 799, 800, 801] (by decide +kernel) (by decide +kernel)
set_option maxRecDepth 20000 in
theorem gL_law_X5_choice : GoodIn wsL_law (wsV RL 155 RX5 yX5_choice wsX5_choice) := goodIn_app (goodIn_of _ (by decide +kernel)) ggL_law_X5_choice
set_option maxRecDepth 20000 in
theorem ggL_law_L_ifPlayed : GoodIn wsL_law wsL_ifPlayed := goodIn_ca (goodIn_r _ [663, 90, 664, 665, 666, 2, 667, 302, 303, 304, 95, 96, 103, 104, 105, 305, 306, 307, 668, 669, 670, 671, 26, 17, 18, 632, 308, 309, 310, 25, 311, 61, 59, 130, 131, 312, 313, 314, 315, 316, 133, 134, 317, 318, 319, 320, 62, 321, 322, 323, 324, 325, 326, 327, 328, 329, 63, 330, 331, 332, 333, 334, 335, 336, 337, 338, 255, 256, 257, 339, 340, 341, 342, 343, 344, 672, 120, 121, 16, 122, 37, 123, 124, 125, 126, 38, 39, 40, 41, 42, 43, 127, 44, 128, 46, 47, 345, 346, 347, 348, 349, 350, 351, 352, 353, 354, 355, 356, 357, 198, 358, 97, 31, 132, 129, 359, 360, 361, 362, 363, 364, 250, 251, 252, 253, 365, 366, 367, 368, 369, 244, 245, 246, 247, 248, 45, 249, 254, 136, 137, 258, 259, 260, 261, 262, 263, 783, 784, 785, 786, 787, 788, 802, 803, 804, 805, 806, 807, 808, 809, 810, 811, 812, 813, 816, 817, 818, 819] (by decide +kernel) (by decide +kernel)) (goodIn_sub (fun _ h => List.mem_append_left _ (List.mem_append_left _ (List.mem_append_right _ h))) (by decide +kernel))
set_option maxRecDepth 20000 in
theorem gL_law_L_ifPlayed : GoodIn wsL_law (va_wsS RL 156 yL_ifPlayed wsL_ifPlayed) := goodIn_app (goodIn_of _ (by decide +kernel)) ggL_law_L_ifPlayed
set_option maxRecDepth 20000 in
theorem ggL_law_X5_ifPlayed : GoodIn wsL_law wsX5_ifPlayed := goodIn_r _ [676, 146, 374, 375, 5, 376, 150, 151, 152, 677, 678, 679, 680, 74, 73, 681, 682, 683, 684, 377, 378, 379, 380, 381, 382, 383, 384, 82, 385, 386, 387, 388, 389, 273, 274, 275, 276, 277, 278, 279, 390, 391, 392, 393, 394, 395, 396, 397, 78, 398, 399, 400, 401, 79, 272, 280, 281, 282, 402, 403, 404, 405, 406, 407, 408, 409, 410, 269, 270, 271, 83, 283, 284, 285, 286, 287, 288, 289, 290, 291, 292, 293, 156, 157, 158, 159, 789, 790, 791, 792, 793, 794, 795, 796, 797, 798, 799, 800, 801] (by decide +kernel) (by decide +kernel)
set_option maxRecDepth 20000 in
theorem gL_law_X5_ifPlayed : GoodIn wsL_law (wsV RL 158 RX5 yX5_ifPlayed wsX5_ifPlayed) := goodIn_app (goodIn_of _ (by decide +kernel)) ggL_law_X5_ifPlayed
set_option maxRecDepth 20000 in
theorem ggL_law_L_bestRule : GoodIn wsL_law wsL_bestRule := goodIn_ca (goodIn_r _ [687, 90, 688, 689, 690, 2, 691, 305, 306, 307, 95, 96, 103, 104, 105, 668, 669, 670, 671, 26, 17, 18, 632, 308, 309, 310, 25, 311, 61, 59, 130, 131, 312, 313, 314, 315, 316, 133, 134, 317, 318, 319, 320, 62, 321, 322, 323, 324, 325, 326, 327, 328, 329, 63, 330, 331, 332, 333, 334, 335, 336, 337, 338, 255, 256, 257, 339, 340, 341, 342, 343, 344, 672, 120, 121, 16, 122, 37, 123, 124, 125, 126, 38, 39, 40, 41, 42, 43, 127, 44, 128, 46, 47, 345, 346, 347, 348, 349, 350, 351, 352, 353, 354, 355, 356, 357, 198, 358, 97, 31, 132, 129, 359, 360, 361, 362, 363, 364, 250, 251, 252, 253, 365, 366, 367, 368, 369, 244, 245, 246, 247, 248, 45, 249, 254, 136, 137, 258, 259, 260, 261, 262, 263, 783, 784, 785, 786, 787, 788, 802, 803, 804, 805, 806, 807, 808, 809, 810, 811, 812, 813, 816, 817, 818, 819] (by decide +kernel) (by decide +kernel)) (goodIn_sub (fun _ h => List.mem_append_left _ (List.mem_append_left _ (List.mem_append_right _ h))) (by decide +kernel))
set_option maxRecDepth 20000 in
theorem gL_law_L_bestRule : GoodIn wsL_law (va_wsS RL 159 yL_bestRule wsL_bestRule) := goodIn_app (goodIn_of _ (by decide +kernel)) ggL_law_L_bestRule
set_option maxRecDepth 20000 in
theorem ggL_law_X5_bestRule : GoodIn wsL_law wsX5_bestRule := goodIn_r _ [695, 146, 150, 151, 5, 152, 696, 697, 698, 699, 677, 678, 679, 680, 74, 73, 681, 682, 683, 684, 377, 378, 379, 380, 381, 382, 383, 384, 82, 385, 386, 387, 388, 389, 273, 274, 275, 276, 277, 278, 279, 390, 391, 392, 393, 394, 395, 396, 397, 78, 398, 399, 400, 401, 79, 272, 280, 281, 282, 402, 403, 404, 405, 406, 407, 408, 409, 410, 269, 270, 271, 83, 283, 284, 285, 286, 287, 288, 289, 290, 291, 292, 293, 156, 157, 158, 159, 789, 790, 791, 792, 793, 794, 795, 796, 797, 798, 799, 800, 801] (by decide +kernel) (by decide +kernel)
set_option maxRecDepth 20000 in
theorem gL_law_X5_bestRule : GoodIn wsL_law (wsV RL 161 RX5 yX5_bestRule wsX5_bestRule) := goodIn_app (goodIn_of _ (by decide +kernel)) ggL_law_X5_bestRule
set_option maxRecDepth 20000 in
theorem ggL_law_L_giftFor : GoodIn wsL_law wsL_giftFor := goodIn_ca (goodIn_r _ [702, 89, 703, 704, 705, 2, 706, 26, 17, 18, 98, 99, 100, 101, 102, 103, 104, 105, 308, 309, 310, 25, 311, 61, 59, 130, 131, 312, 313, 314, 315, 316, 133, 134, 317, 318, 319, 320, 62, 321, 322, 323, 324, 325, 326, 327, 328, 329, 63, 330, 331, 332, 333, 334, 335, 336, 337, 338, 255, 256, 257, 339, 340, 341, 342, 343, 344, 672, 120, 121, 16, 122, 37, 123, 124, 125, 126, 38, 39, 40, 41, 42, 43, 127, 44, 128, 46, 47, 354, 355, 356, 357, 198, 358, 97, 31, 132, 129, 359, 360, 361, 362, 363, 364, 250, 251, 252, 253, 365, 707, 708, 709, 710, 353, 135, 136, 137, 711, 366, 367, 368, 369, 783, 784, 785, 786, 787, 788, 816, 817, 818, 819, 802, 803, 804, 805, 806, 807, 808, 809, 810, 811, 812, 813] (by decide +kernel) (by decide +kernel)) (goodIn_sub (fun _ h => List.mem_append_left _ (List.mem_append_right _ h)) (by decide +kernel))
set_option maxRecDepth 20000 in
theorem gL_law_L_giftFor : GoodIn wsL_law (va_wsS RL 162 yL_giftFor wsL_giftFor) := goodIn_app (goodIn_of _ (by decide +kernel)) ggL_law_L_giftFor
set_option maxRecDepth 20000 in
theorem ggL_law_X5_giftFor : GoodIn wsL_law wsX5_giftFor := goodIn_r _ [715, 146, 147, 148, 5, 149, 150, 151, 152, 153, 154, 155, 716, 717, 718, 719, 74, 681, 682, 683, 684, 73, 381, 382, 383, 384, 82, 385, 386, 387, 388, 389, 273, 274, 275, 276, 277, 278, 279, 390, 391, 392, 393, 394, 395, 396, 397, 78, 398, 399, 400, 401, 79, 272, 280, 281, 282, 402, 403, 404, 405, 406, 407, 408, 409, 410, 156, 157, 158, 159, 789, 790, 791, 792, 793, 794, 795, 796, 797, 798, 799, 800, 801] (by decide +kernel) (by decide +kernel)
set_option maxRecDepth 20000 in
theorem gL_law_X5_giftFor : GoodIn wsL_law (wsV RL 164 RX5 yX5_giftFor wsX5_giftFor) := goodIn_app (goodIn_of _ (by decide +kernel)) ggL_law_X5_giftFor
set_option maxRecDepth 20000 in
theorem ggL_law_X4_evenness : GoodIn wsL_law wsX4_evenness := goodIn_r _ [723, 17, 581, 724, 725, 334, 726, 727, 728, 729, 132, 133, 2, 134, 783, 784, 785, 786, 787, 788, 802, 803, 804, 805, 806, 807, 808, 809, 810, 811, 812, 813] (by decide +kernel) (by decide +kernel)
set_option maxRecDepth 20000 in
theorem gL_law_X4_evenness : GoodIn wsL_law (wsV RL 165 RX4 yX4_evenness wsX4_evenness) := goodIn_app (goodIn_of _ (by decide +kernel)) ggL_law_X4_evenness
set_option maxRecDepth 20000 in
theorem ggL_law_X5_evenness : GoodIn wsL_law wsX5_evenness := goodIn_r _ [733, 146, 734, 735, 736, 5, 737, 73, 789, 790, 791, 792, 793, 794, 795, 796, 797, 798, 799, 800, 801] (by decide +kernel) (by decide +kernel)
set_option maxRecDepth 20000 in
theorem gL_law_X5_evenness : GoodIn wsL_law (wsV RL 169 RX5 yX5_evenness wsX5_evenness) := goodIn_app (goodIn_of _ (by decide +kernel)) ggL_law_X5_evenness
set_option maxRecDepth 20000 in
theorem ggL_law_X4_digest : GoodIn wsL_law wsX4_digest := goodIn_ca (goodIn_ca (goodIn_r _ [741, 742, 743, 30, 430, 431, 744, 614, 615, 2, 616, 95, 96, 17, 301, 353, 22, 527, 240, 241, 242, 16, 243, 42, 133, 134, 745, 629, 630, 631, 632, 633, 634, 746, 643, 644, 645, 212, 213, 214, 215, 101, 102, 103, 104, 105, 132, 747, 748, 749, 750, 751, 578, 579, 580, 198, 581, 26, 237, 238, 239, 308, 309, 310, 25, 311, 61, 59, 130, 131, 312, 313, 314, 315, 316, 317, 318, 319, 320, 62, 321, 322, 323, 324, 325, 326, 327, 328, 329, 63, 330, 331, 332, 333, 334, 335, 336, 337, 338, 255, 256, 257, 339, 340, 341, 342, 343, 344, 582, 583, 584, 585, 358, 129, 359, 586, 587, 588, 589, 590, 591, 592, 593, 752, 540, 541, 542, 97, 180, 181, 182, 98, 99, 100, 543, 544, 545, 546, 547, 548, 549, 550, 753, 567, 568, 569, 754, 654, 655, 656, 302, 303, 304, 349, 350, 351, 352, 354, 355, 356, 357, 31, 360, 361, 362, 363, 43, 364, 250, 251, 252, 253, 44, 365, 366, 367, 368, 369, 755, 665, 666, 667, 305, 306, 307, 668, 669, 670, 671, 18, 672, 120, 121, 122, 37, 123, 124, 125, 126, 38, 39, 40, 41, 127, 128, 46, 47, 345, 346, 347, 348, 244, 245, 246, 247, 248, 45, 249, 254, 136, 137, 258, 259, 260, 261, 262, 263, 756, 689, 690, 691, 757, 704, 705, 706, 707, 708, 709, 710, 135, 711, 758, 721, 722, 723, 724, 725, 726, 727, 728, 729, 759, 760, 761, 762, 763, 764, 783, 784, 785, 786, 787, 788, 820, 821, 802, 803, 804, 805, 806, 807, 808, 809, 810, 811, 812, 813, 814, 815, 816, 817, 818, 819] (by decide +kernel) (by decide +kernel)) (goodIn_sub (fun _ h => List.mem_append_left _ (List.mem_append_left _ (List.mem_append_right _ h))) (by decide +kernel))) (goodIn_sub (fun _ h => List.mem_append_left _ (List.mem_append_right _ h)) (by decide +kernel))
set_option maxRecDepth 20000 in
theorem gL_law_X4_digest : GoodIn wsL_law (wsV RL 170 RX4 yX4_digest wsX4_digest) := goodIn_app (goodIn_of _ (by decide +kernel)) ggL_law_X4_digest
set_option maxRecDepth 20000 in
theorem ggL_law_X5_digest : GoodIn wsL_law wsX5_digest := goodIn_r _ [768, 146, 769, 770, 73, 436, 76, 621, 622, 623, 5, 624, 164, 598, 599, 600, 601, 602, 603, 604, 605, 390, 391, 392, 393, 394, 395, 396, 397, 78, 398, 399, 400, 401, 79, 272, 273, 280, 281, 282, 402, 403, 404, 405, 406, 407, 408, 409, 410, 606, 607, 608, 609, 277, 278, 279, 555, 556, 557, 558, 559, 560, 561, 562, 381, 382, 383, 384, 82, 385, 386, 387, 388, 389, 274, 275, 276, 677, 678, 679, 680, 74, 681, 682, 683, 684, 377, 378, 379, 380, 269, 270, 271, 83, 283, 284, 285, 286, 287, 288, 289, 290, 291, 292, 293, 696, 697, 698, 699, 716, 717, 718, 719, 734, 735, 736, 737, 771, 772, 773, 774, 775, 776, 777, 778, 779, 780, 781, 782, 789, 790, 791, 792, 793, 794, 795, 796, 797, 798, 799, 800, 801] (by decide +kernel) (by decide +kernel)
set_option maxRecDepth 20000 in
theorem gL_law_X5_digest : GoodIn wsL_law (wsV RL 174 RX5 yX5_digest wsX5_digest) := goodIn_app (goodIn_of _ (by decide +kernel)) ggL_law_X5_digest
