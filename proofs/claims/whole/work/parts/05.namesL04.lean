set_option maxRecDepth 20000 in
theorem gL_law_L_hold : GoodIn wsL_law (va_wsS RL 118 yL_hold wsL_hold) := goodIn_app (goodIn_of _ (by decide +kernel)) ggL_law_L_hold
set_option maxRecDepth 20000 in
theorem ggL_law_X8_hold : GoodIn wsL_law wsX8_hold := goodIn_r _ [327, 105, 262, 263, 264, 5, 265, 158, 223, 102, 163, 164, 165, 166, 779, 780, 781, 782, 783, 784, 785, 786, 787, 788, 789, 790, 791, 792, 793, 794, 795, 796, 797, 798, 799, 800, 801, 802, 803, 804, 805, 806, 807, 808, 809, 810, 811, 812] (by decide +kernel) (by decide +kernel)
set_option maxRecDepth 20000 in
theorem gL_law_X8_hold : GoodIn wsL_law (wsV RL 121 RX8 yX8_hold wsX8_hold) := goodIn_app (goodIn_of _ (by decide +kernel)) ggL_law_X8_hold
set_option maxRecDepth 20000 in
theorem ggL_law_L_write : GoodIn wsL_law wsL_write := goodIn_ca (goodIn_ca (goodIn_r _ [330, 128, 331, 332, 333, 334, 2, 335, 336, 337, 20, 24, 243, 244, 245, 246, 137, 138, 247, 19, 248, 249, 195, 60, 338, 23, 339, 340, 66, 341, 342, 343, 344, 46, 28, 302, 303, 304, 767, 768, 769, 770, 771, 772, 773, 774, 775, 776, 777, 778, 817, 818, 819, 820, 821, 822, 823, 824, 825, 826, 827, 828, 829, 830, 831] (by decide +kernel) (by decide +kernel)) (goodIn_sub (fun _ h => List.mem_append_right _ h) (by decide +kernel))) (goodIn_sub (fun _ h => List.mem_append_left _ (List.mem_append_right _ h)) (by decide +kernel))
set_option maxRecDepth 20000 in
theorem gL_law_L_write : GoodIn wsL_law (va_wsS RL 122 yL_write wsL_write) := goodIn_app (goodIn_of _ (by decide +kernel)) ggL_law_L_write
set_option maxRecDepth 20000 in
theorem ggL_law_X8_write : GoodIn wsL_law wsX8_write := goodIn_r _ [348, 106, 104, 110, 262, 263, 264, 5, 265, 158, 223, 102, 163, 164, 165, 166, 349, 350, 351, 352, 108, 218, 109, 353, 354, 355, 356, 313, 314, 315, 316, 779, 780, 781, 782, 783, 784, 785, 786, 787, 788, 789, 790, 791, 792, 793, 794, 795, 796, 797, 798, 799, 800, 801, 802, 803, 804, 805, 806, 807, 808, 809, 810, 811, 812] (by decide +kernel) (by decide +kernel)
set_option maxRecDepth 20000 in
theorem gL_law_X8_write : GoodIn wsL_law (wsV RL 124 RX8 yX8_write wsX8_write) := goodIn_app (goodIn_of _ (by decide +kernel)) ggL_law_X8_write
set_option maxRecDepth 20000 in
theorem ggL_law_L_fill : GoodIn wsL_law wsL_fill := goodIn_ca (goodIn_ca (goodIn_r _ [359, 128, 331, 360, 361, 362, 2, 363, 336, 337, 20, 24, 243, 244, 245, 246, 137, 138, 247, 19, 248, 249, 195, 60, 338, 23, 339, 340, 66, 341, 342, 343, 344, 46, 28, 302, 303, 304, 767, 768, 769, 770, 771, 772, 773, 774, 775, 776, 777, 778, 817, 818, 819, 820, 821, 822, 823, 824, 825, 826, 827, 828, 829, 830, 831] (by decide +kernel) (by decide +kernel)) (goodIn_sub (fun _ h => List.mem_append_right _ h) (by decide +kernel))) (goodIn_sub (fun _ h => List.mem_append_left _ (List.mem_append_right _ h)) (by decide +kernel))
set_option maxRecDepth 20000 in
theorem gL_law_L_fill : GoodIn wsL_law (va_wsS RL 125 yL_fill wsL_fill) := goodIn_app (goodIn_of _ (by decide +kernel)) ggL_law_L_fill
set_option maxRecDepth 20000 in
theorem ggL_law_X8_fill : GoodIn wsL_law wsX8_fill := goodIn_r _ [367, 106, 104, 110, 262, 263, 264, 5, 265, 158, 223, 102, 163, 164, 165, 166, 349, 350, 351, 352, 108, 218, 109, 353, 354, 355, 356, 313, 314, 315, 316, 779, 780, 781, 782, 783, 784, 785, 786, 787, 788, 789, 790, 791, 792, 793, 794, 795, 796, 797, 798, 799, 800, 801, 802, 803, 804, 805, 806, 807, 808, 809, 810, 811, 812] (by decide +kernel) (by decide +kernel)
set_option maxRecDepth 20000 in
theorem gL_law_X8_fill : GoodIn wsL_law (wsV RL 127 RX8 yX8_fill wsX8_fill) := goodIn_app (goodIn_of _ (by decide +kernel)) ggL_law_X8_fill
set_option maxRecDepth 20000 in
theorem ggL_law_L_at : GoodIn wsL_law wsL_at := goodIn_ca (goodIn_r _ [370, 128, 371, 372, 373, 2, 374, 137, 138, 20, 24, 243, 244, 245, 246, 247, 19, 248, 249, 195, 60, 375, 23, 376, 377, 66, 767, 768, 769, 770, 771, 772, 773, 774, 775, 776, 777, 778, 817, 818, 819, 820, 821, 822, 823, 824, 825, 826] (by decide +kernel) (by decide +kernel)) (goodIn_sub (fun _ h => List.mem_append_left _ (List.mem_append_right _ h)) (by decide +kernel))
set_option maxRecDepth 20000 in
theorem gL_law_L_at : GoodIn wsL_law (va_wsS RL 128 yL_at wsL_at) := goodIn_app (goodIn_of _ (by decide +kernel)) ggL_law_L_at
set_option maxRecDepth 20000 in
theorem ggL_law_X8_at : GoodIn wsL_law wsX8_at := goodIn_r _ [381, 106, 104, 110, 262, 263, 264, 5, 265, 158, 223, 102, 163, 164, 165, 166, 779, 780, 781, 782, 783, 784, 785, 786, 787, 788, 789, 790, 791, 792, 793, 794, 795, 796, 797, 798, 799, 800, 801, 802, 803, 804, 805, 806, 807, 808, 809, 810, 811, 812] (by decide +kernel) (by decide +kernel)
set_option maxRecDepth 20000 in
theorem gL_law_X8_at : GoodIn wsL_law (wsV RL 130 RX8 yX8_at wsX8_at) := goodIn_app (goodIn_of _ (by decide +kernel)) ggL_law_X8_at
set_option maxRecDepth 20000 in
theorem ggL_law_L_about : GoodIn wsL_law wsL_about := goodIn_ca (goodIn_r _ [384, 128, 385, 386, 387, 2, 388, 137, 138, 20, 24, 16, 243, 244, 245, 246, 247, 19, 248, 249, 195, 60, 302, 303, 304, 767, 768, 769, 770, 771, 772, 773, 774, 775, 776, 777, 778, 817, 818, 819, 820, 821, 822, 823, 824, 825, 826, 813, 814, 815, 816] (by decide +kernel) (by decide +kernel)) (goodIn_sub (fun _ h => List.mem_append_left _ (List.mem_append_right _ h)) (by decide +kernel))
set_option maxRecDepth 20000 in
theorem gL_law_L_about : GoodIn wsL_law (va_wsS RL 131 yL_about wsL_about) := goodIn_app (goodIn_of _ (by decide +kernel)) ggL_law_L_about
set_option maxRecDepth 20000 in
theorem ggL_law_X8_about : GoodIn wsL_law wsX8_about := goodIn_r _ [392, 104, 102, 103, 106, 107, 108, 105, 262, 263, 264, 5, 265, 158, 223, 163, 164, 165, 166, 313, 314, 315, 316, 393, 394, 395, 396, 100, 779, 780, 781, 782, 783, 784, 785, 786, 787, 788, 789, 790, 791, 792, 793, 794, 795, 796, 797, 798, 799, 800, 801, 802, 803, 804, 805, 806, 807, 808, 809, 810, 811, 812] (by decide +kernel) (by decide +kernel)
set_option maxRecDepth 20000 in
theorem gL_law_X8_about : GoodIn wsL_law (wsV RL 133 RX8 yX8_about wsX8_about) := goodIn_app (goodIn_of _ (by decide +kernel)) ggL_law_X8_about
set_option maxRecDepth 20000 in
theorem ggL_law_X7_find : GoodIn wsL_law wsX7_find := goodIn_r _ [400, 28, 20, 24, 401, 27, 402, 403, 404, 405, 406, 407, 408, 74, 76, 77, 78, 79, 302, 19, 303, 304, 195, 60, 409, 410, 411, 412, 413, 414, 415, 416, 417, 418, 419, 420, 421, 422, 423, 424, 75, 425, 254, 255, 256, 426, 427, 428, 429, 430, 431, 432, 433, 434, 23, 435, 436, 437, 375, 376, 377, 66, 438, 439, 440, 441, 442, 73, 767, 768, 769, 770, 771, 772, 773, 774, 775, 776, 777, 778, 827, 828, 829, 830, 831, 822, 823, 824, 825, 826, 817, 818, 819, 820, 821] (by decide +kernel) (by decide +kernel)
set_option maxRecDepth 20000 in
theorem gL_law_X7_find : GoodIn wsL_law (wsV RL 134 RX7 yX7_find wsX7_find) := goodIn_app (goodIn_of _ (by decide +kernel)) ggL_law_X7_find
set_option maxRecDepth 20000 in
theorem ggL_law_X8_find : GoodIn wsL_law wsX8_find := goodIn_r _ [446, 158, 447, 217, 118, 106, 119, 448, 109, 313, 314, 315, 5, 316, 223, 102, 104, 449, 450, 451, 452, 453, 454, 455, 456, 110, 779, 780, 781, 782, 783, 784, 785, 786, 787, 788, 789, 790, 791, 792, 793, 794, 795, 796, 797, 798, 799, 800, 801, 802, 803, 804, 805, 806, 807, 808, 809, 810, 811, 812] (by decide +kernel) (by decide +kernel)
set_option maxRecDepth 20000 in
theorem gL_law_X8_find : GoodIn wsL_law (wsV RL 137 RX8 yX8_find wsX8_find) := goodIn_app (goodIn_of _ (by decide +kernel)) ggL_law_X8_find
set_option maxRecDepth 20000 in
theorem ggL_law_X7_reads : GoodIn wsL_law wsX7_reads := goodIn_r _ [460, 28, 767, 768, 769, 770, 771, 772, 773, 774, 775, 776, 777, 778, 827, 828, 829, 830, 831] (by decide +kernel) (by decide +kernel)
set_option maxRecDepth 20000 in
theorem gL_law_X7_reads : GoodIn wsL_law (wsV RL 138 RX7 yX7_reads wsX7_reads) := goodIn_app (goodIn_of _ (by decide +kernel)) ggL_law_X7_reads
set_option maxRecDepth 20000 in
theorem ggL_law_X8_reads : GoodIn wsL_law wsX8_reads := goodIn_r _ [464, 158, 447, 779, 780, 781, 782, 783, 784, 785, 786, 787, 788, 789, 790, 791, 792, 793, 794, 795, 796, 797, 798, 799, 800, 801, 802, 803, 804, 805, 806, 807, 808, 809, 810, 811, 812] (by decide +kernel) (by decide +kernel)
set_option maxRecDepth 20000 in
theorem gL_law_X8_reads : GoodIn wsL_law (wsV RL 141 RX8 yX8_reads wsX8_reads) := goodIn_app (goodIn_of _ (by decide +kernel)) ggL_law_X8_reads
set_option maxRecDepth 20000 in
theorem ggL_law_L_groupOf : GoodIn wsL_law wsL_groupOf := goodIn_ca (goodIn_r _ [467, 128, 468, 469, 470, 2, 471, 28, 20, 243, 244, 245, 246, 137, 138, 247, 19, 248, 249, 195, 60, 767, 768, 769, 770, 771, 772, 773, 774, 775, 776, 777, 778, 827, 828, 829, 830, 831, 817, 818, 819, 820, 821] (by decide +kernel) (by decide +kernel)) (goodIn_sub (fun _ h => List.mem_append_left _ (List.mem_append_right _ h)) (by decide +kernel))
set_option maxRecDepth 20000 in
theorem gL_law_L_groupOf : GoodIn wsL_law (va_wsS RL 142 yL_groupOf wsL_groupOf) := goodIn_app (goodIn_of _ (by decide +kernel)) ggL_law_L_groupOf
set_option maxRecDepth 20000 in
theorem ggL_law_X8_groupOf : GoodIn wsL_law wsX8_groupOf := goodIn_r _ [475, 109, 104, 262, 263, 264, 5, 265, 158, 223, 102, 163, 164, 165, 166, 779, 780, 781, 782, 783, 784, 785, 786, 787, 788, 789, 790, 791, 792, 793, 794, 795, 796, 797, 798, 799, 800, 801, 802, 803, 804, 805, 806, 807, 808, 809, 810, 811, 812] (by decide +kernel) (by decide +kernel)
set_option maxRecDepth 20000 in
theorem gL_law_X8_groupOf : GoodIn wsL_law (wsV RL 144 RX8 yX8_groupOf wsX8_groupOf) := goodIn_app (goodIn_of _ (by decide +kernel)) ggL_law_X8_groupOf
set_option maxRecDepth 20000 in
theorem ggL_law_L_member : GoodIn wsL_law wsL_member := goodIn_ca (goodIn_r _ [478, 128, 479, 480, 481, 2, 482, 137, 138, 20, 483, 484, 485, 486, 28, 487, 488, 489, 490, 247, 19, 248, 249, 195, 60, 767, 768, 769, 770, 771, 772, 773, 774, 775, 776, 777, 778, 817, 818, 819, 820, 821, 827, 828, 829, 830, 831] (by decide +kernel) (by decide +kernel)) (goodIn_sub (fun _ h => List.mem_append_left _ (List.mem_append_right _ h)) (by decide +kernel))
set_option maxRecDepth 20000 in
theorem gL_law_L_member : GoodIn wsL_law (va_wsS RL 145 yL_member wsL_member) := goodIn_app (goodIn_of _ (by decide +kernel)) ggL_law_L_member
set_option maxRecDepth 20000 in
theorem ggL_law_X8_member : GoodIn wsL_law wsX8_member := goodIn_r _ [494, 223, 495, 496, 497, 5, 498, 158, 448, 163, 164, 165, 166, 499, 500, 501, 502, 102, 109, 104, 779, 780, 781, 782, 783, 784, 785, 786, 787, 788, 789, 790, 791, 792, 793, 794, 795, 796, 797, 798, 799, 800, 801, 802, 803, 804, 805, 806, 807, 808, 809, 810, 811, 812] (by decide +kernel) (by decide +kernel)
set_option maxRecDepth 20000 in
theorem gL_law_X8_member : GoodIn wsL_law (wsV RL 147 RX8 yX8_member wsX8_member) := goodIn_app (goodIn_of _ (by decide +kernel)) ggL_law_X8_member
set_option maxRecDepth 20000 in
theorem ggL_law_L_near : GoodIn wsL_law wsL_near := goodIn_ca (goodIn_r _ [505, 128, 506, 507, 508, 2, 509, 32, 24, 20, 33, 243, 244, 245, 246, 137, 138, 247, 19, 248, 249, 195, 60, 510, 31, 511, 512, 513, 514, 23, 515, 516, 437, 375, 376, 377, 66, 517, 518, 519, 520, 83, 521, 522, 523, 524, 525, 526, 527, 767, 768, 769, 770, 771, 772, 773, 774, 775, 776, 777, 778, 817, 818, 819, 820, 821, 832, 833, 822, 823, 824, 825, 826] (by decide +kernel) (by decide +kernel)) (goodIn_sub (fun _ h => List.mem_append_left _ (List.mem_append_right _ h)) (by decide +kernel))
set_option maxRecDepth 20000 in
theorem gL_law_L_near : GoodIn wsL_law (va_wsS RL 148 yL_near wsL_near) := goodIn_app (goodIn_of _ (by decide +kernel)) ggL_law_L_near
set_option maxRecDepth 20000 in
theorem ggL_law_X8_near : GoodIn wsL_law wsX8_near := goodIn_r _ [531, 223, 102, 104, 262, 263, 264, 5, 265, 158, 163, 164, 165, 166, 532, 533, 534, 535, 536, 537, 538, 539, 106, 540, 541, 542, 543, 110, 544, 545, 546, 547, 779, 780, 781, 782, 783, 784, 785, 786, 787, 788, 789, 790, 791, 792, 793, 794, 795, 796, 797, 798, 799, 800, 801, 802, 803, 804, 805, 806, 807, 808, 809, 810, 811, 812] (by decide +kernel) (by decide +kernel)
set_option maxRecDepth 20000 in
theorem gL_law_X8_near : GoodIn wsL_law (wsV RL 150 RX8 yX8_near wsX8_near) := goodIn_app (goodIn_of _ (by decide +kernel)) ggL_law_X8_near
set_option maxRecDepth 20000 in
theorem ggL_law_L_nearest : GoodIn wsL_law wsL_nearest := goodIn_ca (goodIn_ca (goodIn_r _ [550, 128, 331, 551, 552, 553, 2, 554, 336, 337, 32, 24, 20, 33, 243, 244, 245, 246, 137, 138, 247, 19, 248, 249, 195, 60, 510, 31, 511, 512, 513, 514, 23, 515, 516, 437, 375, 376, 377, 66, 517, 518, 519, 520, 83, 521, 522, 523, 524, 525, 526, 527, 767, 768, 769, 770, 771, 772, 773, 774, 775, 776, 777, 778, 817, 818, 819, 820, 821, 832, 833, 822, 823, 824, 825, 826] (by decide +kernel) (by decide +kernel)) (goodIn_sub (fun _ h => List.mem_append_right _ h) (by decide +kernel))) (goodIn_sub (fun _ h => List.mem_append_left _ (List.mem_append_right _ h)) (by decide +kernel))
set_option maxRecDepth 20000 in
theorem gL_law_L_nearest : GoodIn wsL_law (va_wsS RL 151 yL_nearest wsL_nearest) := goodIn_app (goodIn_of _ (by decide +kernel)) ggL_law_L_nearest
set_option maxRecDepth 20000 in
theorem ggL_law_X8_nearest : GoodIn wsL_law wsX8_nearest := goodIn_r _ [558, 223, 102, 104, 262, 263, 264, 5, 265, 158, 163, 164, 165, 166, 532, 533, 534, 535, 536, 537, 538, 539, 106, 540, 541, 542, 543, 110, 544, 545, 546, 547, 779, 780, 781, 782, 783, 784, 785, 786, 787, 788, 789, 790, 791, 792, 793, 794, 795, 796, 797, 798, 799, 800, 801, 802, 803, 804, 805, 806, 807, 808, 809, 810, 811, 812] (by decide +kernel) (by decide +kernel)
set_option maxRecDepth 20000 in
theorem gL_law_X8_nearest : GoodIn wsL_law (wsV RL 153 RX8 yX8_nearest wsX8_nearest) := goodIn_app (goodIn_of _ (by decide +kernel)) ggL_law_X8_nearest
set_option maxRecDepth 20000 in
theorem ggL_law_L_differ : GoodIn wsL_law wsL_differ := goodIn_ca (goodIn_r _ [561, 128, 562, 563, 564, 2, 565, 45, 16, 133, 134, 135, 136, 137, 138, 139, 15, 140, 141, 54, 566, 77, 78, 79, 567, 568, 569, 570, 571, 572, 573, 574, 20, 24, 575, 19, 576, 577, 58, 200, 201, 202, 195, 59, 578, 23, 579, 580, 67, 581, 434, 435, 436, 437, 375, 376, 377, 66, 582, 583, 584, 585, 148, 149, 150, 51, 52, 767, 768, 769, 770, 771, 772, 773, 774, 775, 776, 777, 778, 813, 814, 815, 816, 817, 818, 819, 820, 821, 822, 823, 824, 825, 826] (by decide +kernel) (by decide +kernel)) (goodIn_sub (fun _ h => List.mem_append_left _ (List.mem_append_right _ h)) (by decide +kernel))
set_option maxRecDepth 20000 in
theorem gL_law_L_differ : GoodIn wsL_law (va_wsS RL 154 yL_differ wsL_differ) := goodIn_app (goodIn_of _ (by decide +kernel)) ggL_law_L_differ
set_option maxRecDepth 20000 in
theorem ggL_law_X8_differ : GoodIn wsL_law wsX8_differ := goodIn_r _ [589, 158, 120, 121, 223, 102, 103, 106, 104, 99, 100, 101, 159, 160, 161, 5, 162, 163, 164, 165, 166, 224, 225, 226, 227, 453, 454, 455, 456, 110, 170, 171, 172, 173, 779, 780, 781, 782, 783, 784, 785, 786, 787, 788, 789, 790, 791, 792, 793, 794, 795, 796, 797, 798, 799, 800, 801, 802, 803, 804, 805, 806, 807, 808, 809, 810, 811, 812] (by decide +kernel) (by decide +kernel)
set_option maxRecDepth 20000 in
theorem gL_law_X8_differ : GoodIn wsL_law (wsV RL 156 RX8 yX8_differ wsX8_differ) := goodIn_app (goodIn_of _ (by decide +kernel)) ggL_law_X8_differ
set_option maxRecDepth 20000 in
theorem ggL_law_L_wish : GoodIn wsL_law wsL_wish := goodIn_ca (goodIn_ca (goodIn_r _ [592, 128, 331, 593, 594, 595, 2, 596, 336, 337, 37, 133, 134, 135, 136, 137, 138, 16, 139, 15, 140, 141, 54, 597, 36, 598, 599, 600, 601, 602, 603, 87, 88, 604, 605, 606, 767, 768, 769, 770, 771, 772, 773, 774, 775, 776, 777, 778, 834, 835, 836, 813, 814, 815, 816] (by decide +kernel) (by decide +kernel)) (goodIn_sub (fun _ h => List.mem_append_right _ h) (by decide +kernel))) (goodIn_sub (fun _ h => List.mem_append_left _ (List.mem_append_right _ h)) (by decide +kernel))
set_option maxRecDepth 20000 in
theorem gL_law_L_wish : GoodIn wsL_law (va_wsS RL 157 yL_wish wsL_wish) := goodIn_app (goodIn_of _ (by decide +kernel)) ggL_law_L_wish
set_option maxRecDepth 20000 in
theorem ggL_law_X8_wish : GoodIn wsL_law wsX8_wish := goodIn_r _ [610, 158, 611, 111, 112, 163, 164, 165, 5, 166, 159, 160, 161, 162, 99, 779, 780, 781, 782, 783, 784, 785, 786, 787, 788, 789, 790, 791, 792, 793, 794, 795, 796, 797, 798, 799, 800, 801, 802, 803, 804, 805, 806, 807, 808, 809, 810, 811, 812] (by decide +kernel) (by decide +kernel)
set_option maxRecDepth 20000 in
theorem gL_law_X8_wish : GoodIn wsL_law (wsV RL 159 RX8 yX8_wish wsX8_wish) := goodIn_app (goodIn_of _ (by decide +kernel)) ggL_law_X8_wish
set_option maxRecDepth 20000 in
theorem ggL_law_X7_unwish : GoodIn wsL_law wsX7_unwish := goodIn_r _ [615, 37, 767, 768, 769, 770, 771, 772, 773, 774, 775, 776, 777, 778, 834, 835, 836] (by decide +kernel) (by decide +kernel)
set_option maxRecDepth 20000 in
theorem gL_law_X7_unwish : GoodIn wsL_law (wsV RL 160 RX7 yX7_unwish wsX7_unwish) := goodIn_app (goodIn_of _ (by decide +kernel)) ggL_law_X7_unwish
set_option maxRecDepth 20000 in
theorem ggL_law_X8_unwish : GoodIn wsL_law wsX8_unwish := goodIn_r _ [619, 158, 611, 779, 780, 781, 782, 783, 784, 785, 786, 787, 788, 789, 790, 791, 792, 793, 794, 795, 796, 797, 798, 799, 800, 801, 802, 803, 804, 805, 806, 807, 808, 809, 810, 811, 812] (by decide +kernel) (by decide +kernel)
set_option maxRecDepth 20000 in
theorem gL_law_X8_unwish : GoodIn wsL_law (wsV RL 163 RX8 yX8_unwish wsX8_unwish) := goodIn_app (goodIn_of _ (by decide +kernel)) ggL_law_X8_unwish
set_option maxRecDepth 20000 in
theorem ggL_law_L_leave : GoodIn wsL_law wsL_leave := goodIn_ca (goodIn_r _ [622, 331, 623, 624, 625, 2, 626, 336, 337, 43, 185, 186, 187, 767, 768, 769, 770, 771, 772, 773, 774, 775, 776, 777, 778] (by decide +kernel) (by decide +kernel)) (goodIn_sub (fun _ h => List.mem_append_right _ h) (by decide +kernel))
set_option maxRecDepth 20000 in
theorem gL_law_L_leave : GoodIn wsL_law (va_wsS RL 164 yL_leave wsL_leave) := goodIn_app (goodIn_of _ (by decide +kernel)) ggL_law_L_leave
set_option maxRecDepth 20000 in
theorem ggL_law_X8_leave : GoodIn wsL_law wsX8_leave := goodIn_r _ [630, 158, 113, 163, 164, 165, 5, 166, 779, 780, 781, 782, 783, 784, 785, 786, 787, 788, 789, 790, 791, 792, 793, 794, 795, 796, 797, 798, 799, 800, 801, 802, 803, 804, 805, 806, 807, 808, 809, 810, 811, 812] (by decide +kernel) (by decide +kernel)
set_option maxRecDepth 20000 in
theorem gL_law_X8_leave : GoodIn wsL_law (wsV RL 166 RX8 yX8_leave wsX8_leave) := goodIn_app (goodIn_of _ (by decide +kernel)) ggL_law_X8_leave
set_option maxRecDepth 20000 in
theorem ggL_law_L_keep : GoodIn wsL_law wsL_keep := goodIn_ca (goodIn_r _ [633, 128, 634, 635, 636, 2, 637, 483, 484, 485, 486, 137, 138, 28, 638, 639, 640, 641, 20, 487, 488, 489, 490, 247, 19, 248, 249, 195, 60, 642, 643, 644, 645, 37, 646, 647, 648, 649, 16, 24, 650, 15, 651, 652, 51, 767, 768, 769, 770, 771, 772, 773, 774, 775, 776, 777, 778, 827, 828, 829, 830, 831, 817, 818, 819, 820, 821, 834, 835, 836, 822, 823, 824, 825, 826, 813, 814, 815, 816] (by decide +kernel) (by decide +kernel)) (goodIn_sub (fun _ h => List.mem_append_left _ (List.mem_append_right _ h)) (by decide +kernel))
