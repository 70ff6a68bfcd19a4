set_option maxRecDepth 40000 in
theorem lwg_r1 : GoodIn lw_tbl wsL_law0_r1 := goodIn_r _ [106, 107, 89, 840, 841, 98, 1172, 108, 109, 110, 111, 112, 113, 114, 115, 90, 280, 138, 139, 91, 281, 168, 169, 92] (by decide +kernel) (by decide +kernel)
set_option maxRecDepth 40000 in
theorem lwg_r2 : GoodIn lw_tbl wsL_law0_r2 := goodIn_r _ [282, 198, 199, 93, 283, 226, 227, 95, 284, 285, 239, 240, 96, 286, 258, 259, 97, 287, 167, 288, 137, 289, 290, 291] (by decide +kernel) (by decide +kernel)
set_option maxRecDepth 40000 in
theorem lwg_r3 : GoodIn lw_tbl wsL_law0_r3 := goodIn_r _ [117, 118, 119, 120, 122, 124, 126, 141, 142, 143, 144, 146, 148, 151, 171, 172, 173, 197, 174, 175, 179, 181, 201, 202] (by decide +kernel) (by decide +kernel)
set_option maxRecDepth 40000 in
theorem lwg_r4 : GoodIn lw_tbl wsL_law0_r4 := goodIn_r _ [203, 207, 209, 210, 204, 205, 94, 206, 229, 230, 231, 232, 242, 243, 244, 245, 247, 261, 262, 263, 266, 264, 267, 842] (by decide +kernel) (by decide +kernel)
set_option maxRecDepth 40000 in
theorem lwg_r5 : GoodIn lw_tbl wsL_law0_r5 := goodIn_r _ [843, 844, 845, 847, 855, 856, 857, 858, 859, 860, 861, 862, 863, 864, 865, 866, 867, 868, 870, 871, 872, 873, 874, 875] (by decide +kernel) (by decide +kernel)
set_option maxRecDepth 40000 in
theorem lwg_r6 : GoodIn lw_tbl wsL_law0_r6 := goodIn_r _ [876, 877, 878, 879, 413, 414, 88, 415, 416, 417, 418, 419, 420, 421, 423, 18, 424, 429, 102, 427, 19, 428, 495, 496] (by decide +kernel) (by decide +kernel)
set_option maxRecDepth 40000 in
theorem lwg_r7 : GoodIn lw_tbl wsL_law0_r7 := goodIn_r _ [497, 500, 21, 501, 504, 22, 505, 508, 23, 509, 953, 954, 955, 956, 846, 957, 959, 60, 960, 961, 963, 61, 964, 965] (by decide +kernel) (by decide +kernel)
set_option maxRecDepth 40000 in
theorem lwg_r8 : GoodIn lw_tbl wsL_law0_r8 := goodIn_r _ [966, 967, 968, 970, 62, 971, 949, 950, 951, 952, 510, 511, 512, 513, 514, 515, 516, 517, 518, 519, 520, 522, 24, 523] (by decide +kernel) (by decide +kernel)
set_option maxRecDepth 40000 in
theorem lwg_r9 : GoodIn lw_tbl wsL_law0_r9 := goodIn_r _ [526, 25, 527, 153, 528, 530, 26, 531, 534, 27, 535, 393, 13, 394, 183, 406, 16, 407, 539, 28, 540, 972, 973, 974] (by decide +kernel) (by decide +kernel)
set_option maxRecDepth 40000 in
theorem lwg_r10 : GoodIn lw_tbl wsL_law0_r10 := goodIn_r _ [975, 849, 850, 976, 978, 63, 979, 848, 980, 982, 64, 983, 984, 986, 65, 987, 988, 990, 66, 991, 541, 542, 543, 544] (by decide +kernel) (by decide +kernel)
set_option maxRecDepth 40000 in
theorem lwg_r11 : GoodIn lw_tbl wsL_law0_r11 := goodIn_r _ [545, 546, 547, 548, 550, 29, 551, 554, 30, 555, 402, 15, 403, 408, 351, 350, 103, 404, 992, 993, 994, 995, 996, 998] (by decide +kernel) (by decide +kernel)
set_option maxRecDepth 40000 in
theorem lwg_r12 : GoodIn lw_tbl wsL_law0_r12 := goodIn_r _ [67, 999, 1000, 1002, 68, 1003, 557, 558, 559, 560, 561, 562, 563, 1004, 1005, 1006, 1007, 564, 565, 566, 567, 568, 569, 570] (by decide +kernel) (by decide +kernel)
set_option maxRecDepth 40000 in
theorem lwg_r13 : GoodIn lw_tbl wsL_law0_r13 := goodIn_r _ [1008, 1009, 1010, 1011, 571, 572, 573, 574, 575, 576, 577, 580, 31, 581, 331, 2, 332, 1012, 1013, 1014, 1015, 1016, 1018, 69] (by decide +kernel) (by decide +kernel)
set_option maxRecDepth 40000 in
theorem lwg_r14 : GoodIn lw_tbl wsL_law0_r14 := goodIn_r _ [1019, 1020, 1022, 70, 1023, 583, 584, 585, 586, 587, 588, 589, 1024, 1025, 1026, 1027, 590, 591, 592, 593, 594, 595, 596, 597] (by decide +kernel) (by decide +kernel)
set_option maxRecDepth 40000 in
theorem lwg_r15 : GoodIn lw_tbl wsL_law0_r15 := goodIn_r _ [598, 104, 616, 32, 617, 618, 620, 33, 621, 1028, 1029, 1030, 1031, 1032, 1034, 71, 1035, 1036, 1038, 72, 1039, 622, 623, 624] (by decide +kernel) (by decide +kernel)
set_option maxRecDepth 40000 in
theorem lwg_r16 : GoodIn lw_tbl wsL_law0_r16 := goodIn_r _ [625, 626, 627, 628, 1040, 1041, 1042, 1043, 630, 631, 632, 633, 634, 635, 636, 365, 9, 366, 1044, 1045, 1046, 1047, 639, 640] (by decide +kernel) (by decide +kernel)
set_option maxRecDepth 40000 in
theorem lwg_r17 : GoodIn lw_tbl wsL_law0_r17 := goodIn_r _ [641, 642, 643, 644, 645, 1048, 1049, 1050, 1051, 1052, 1054, 73, 1055, 317, 318, 319, 320, 323, 0, 324, 213, 325, 327, 1] (by decide +kernel) (by decide +kernel)
set_option maxRecDepth 40000 in
theorem lwg_r18 : GoodIn lw_tbl wsL_law0_r18 := goodIn_r _ [328, 333, 335, 3, 336, 337, 339, 4, 340, 341, 343, 5, 344, 345, 347, 6, 348, 349, 352, 354, 7, 355, 356, 357] (by decide +kernel) (by decide +kernel)
set_option maxRecDepth 40000 in
theorem lwg_r19 : GoodIn lw_tbl wsL_law0_r19 := goodIn_r _ [105, 358, 361, 8, 362, 363, 367, 369, 10, 370, 211, 1056, 1057, 1058, 1059, 853, 852, 1060, 1062, 74, 1063, 1064, 1066, 75] (by decide +kernel) (by decide +kernel)
set_option maxRecDepth 40000 in
theorem lwg_r20 : GoodIn lw_tbl wsL_law0_r20 := goodIn_r _ [1067, 371, 372, 373, 374, 1068, 1069, 1070, 1071, 647, 648, 649, 650, 651, 652, 653, 1072, 1073, 1074, 1075, 654, 655, 656, 657] (by decide +kernel) (by decide +kernel)
set_option maxRecDepth 40000 in
theorem lwg_r21 : GoodIn lw_tbl wsL_law0_r21 := goodIn_r _ [658, 659, 660, 661, 663, 34, 664, 666, 668, 35, 669, 1076, 1077, 1078, 1079, 1080, 1082, 76, 1083, 1084, 1086, 77, 1087, 671] (by decide +kernel) (by decide +kernel)
set_option maxRecDepth 40000 in
theorem lwg_r22 : GoodIn lw_tbl wsL_law0_r22 := goodIn_r _ [672, 673, 674, 675, 676, 677, 680, 36, 681, 233, 684, 37, 685, 686, 688, 38, 689, 692, 39, 693, 694, 696, 40, 697] (by decide +kernel) (by decide +kernel)
set_option maxRecDepth 40000 in
theorem lwg_r23 : GoodIn lw_tbl wsL_law0_r23 := goodIn_r _ [1088, 1089, 1090, 1091, 1092, 1094, 78, 1095, 1096, 1098, 79, 1099, 1100, 1102, 80, 1103, 1104, 1106, 81, 1107, 698, 699, 700, 701] (by decide +kernel) (by decide +kernel)
set_option maxRecDepth 40000 in
theorem lwg_r24 : GoodIn lw_tbl wsL_law0_r24 := goodIn_r _ [702, 703, 704, 1108, 1109, 1110, 1111, 706, 707, 708, 709, 710, 711, 712, 713, 714, 716, 41, 717, 718, 720, 42, 721, 724] (by decide +kernel) (by decide +kernel)
set_option maxRecDepth 40000 in
theorem lwg_r25 : GoodIn lw_tbl wsL_law0_r25 := goodIn_r _ [43, 725, 728, 44, 729, 730, 731, 733, 45, 734, 1112, 1113, 1114, 1115, 735, 736, 737, 738, 739, 740, 741, 745, 46, 746] (by decide +kernel) (by decide +kernel)
set_option maxRecDepth 40000 in
theorem lwg_r26 : GoodIn lw_tbl wsL_law0_r26 := goodIn_r _ [249, 749, 47, 750, 753, 48, 754, 1116, 1117, 1118, 1119, 854, 375, 376, 377, 378, 1120, 1121, 1122, 1123, 755, 756, 757, 758] (by decide +kernel) (by decide +kernel)
set_option maxRecDepth 40000 in
theorem lwg_r27 : GoodIn lw_tbl wsL_law0_r27 := goodIn_r _ [759, 760, 761, 1124, 1125, 1126, 1127, 763, 764, 765, 766, 767, 768, 769, 770, 772, 49, 773, 774, 776, 50, 777, 778, 780] (by decide +kernel) (by decide +kernel)
set_option maxRecDepth 40000 in
theorem lwg_r28 : GoodIn lw_tbl wsL_law0_r28 := goodIn_r _ [51, 781, 784, 52, 785, 1128, 1129, 1130, 1131, 1132, 1134, 82, 1135, 1136, 1138, 83, 1139, 1140, 1142, 84, 1143, 1144, 1146, 85] (by decide +kernel) (by decide +kernel)
set_option maxRecDepth 40000 in
theorem lwg_r29 : GoodIn lw_tbl wsL_law0_r29 := goodIn_r _ [1147, 786, 787, 788, 789, 790, 791, 792, 793, 795, 53, 796, 799, 54, 800, 268, 269, 801, 802, 805, 55, 806, 807, 809] (by decide +kernel) (by decide +kernel)
set_option maxRecDepth 40000 in
theorem lwg_r30 : GoodIn lw_tbl wsL_law0_r30 := goodIn_r _ [56, 810, 1148, 1149, 1150, 1151, 851, 1152, 1154, 86, 1155, 869, 379, 380, 381, 382, 385, 11, 386, 387, 389, 12, 390, 398] (by decide +kernel) (by decide +kernel)
set_option maxRecDepth 40000 in
theorem lwg_r31 : GoodIn lw_tbl wsL_law0_r31 := goodIn_r _ [14, 399, 411, 17, 412, 1156, 1157, 1158, 1159, 1160, 1162, 87, 1163, 811, 812, 813, 814, 815, 816, 817, 1164, 1165, 1166, 1167] (by decide +kernel) (by decide +kernel)
set_option maxRecDepth 40000 in
theorem lwg_r32 : GoodIn lw_tbl wsL_law0_r32 := goodIn_r _ [819, 820, 821, 822, 823, 824, 825, 828, 57, 829, 830, 831, 833, 58, 834, 835, 837, 59, 838, 1168, 1169, 1170, 1171] (by decide +kernel) (by decide +kernel)
set_option maxRecDepth 40000 in
theorem lwg_wsX70 : GoodIn lw_tbl wsX70 := goodIn_r _ [292, 294, 296, 298, 300, 302, 304, 306, 308, 310, 312, 314] (by decide +kernel) (by decide +kernel)
set_option maxRecDepth 40000 in
theorem lwg_wsX80 : GoodIn lw_tbl wsX80 := goodIn_r _ [880, 882, 884, 886, 888, 890, 892, 894, 896, 898, 900, 902, 904, 906, 908, 910, 912, 914, 916, 918, 920, 922, 924, 926, 928, 930, 932, 934, 936, 938, 940, 942, 944, 946] (by decide +kernel) (by decide +kernel)
set_option maxRecDepth 40000 in
theorem lwg_wsX30 : GoodIn lw_tbl wsX30 := goodIn_r _ [128, 130, 132, 134] (by decide +kernel) (by decide +kernel)
set_option maxRecDepth 40000 in
theorem lwg_wsX10 : GoodIn lw_tbl wsX10 := goodIn_r _ [156, 158, 160, 162, 164] (by decide +kernel) (by decide +kernel)
set_option maxRecDepth 40000 in
theorem lwg_wsX00 : GoodIn lw_tbl wsX00 := goodIn_r _ [186, 188, 190, 192, 194] (by decide +kernel) (by decide +kernel)
set_option maxRecDepth 40000 in
theorem lwg_wsX20 : GoodIn lw_tbl wsX20 := goodIn_r _ [215, 217, 219, 221, 223] (by decide +kernel) (by decide +kernel)
set_option maxRecDepth 40000 in
theorem lwg_wsX50 : GoodIn lw_tbl wsX50 := goodIn_r _ [234, 236] (by decide +kernel) (by decide +kernel)
set_option maxRecDepth 40000 in
theorem lwg_wsX60 : GoodIn lw_tbl wsX60 := goodIn_r _ [251, 253, 255] (by decide +kernel) (by decide +kernel)
set_option maxRecDepth 40000 in
theorem lwg_wsX40 : GoodIn lw_tbl wsX40 := goodIn_r _ [271, 273, 275, 277] (by decide +kernel) (by decide +kernel)
theorem wsL_law_in0 : ∀ w ∈ wsL_law0, w ∈ lw_tbl := fun w h => (show GoodIn lw_tbl wsL_law0 from (goodIn_app (goodIn_app (goodIn_app (goodIn_app (goodIn_app (goodIn_app (goodIn_app (goodIn_app (goodIn_app (goodIn_app (goodIn_app lwg_r1 (goodIn_app lwg_r2 (goodIn_app lwg_r3 (goodIn_app lwg_r4 (goodIn_app lwg_r5 (goodIn_app lwg_r6 (goodIn_app lwg_r7 (goodIn_app lwg_r8 (goodIn_app lwg_r9 (goodIn_app lwg_r10 (goodIn_app lwg_r11 (goodIn_app lwg_r12 (goodIn_app lwg_r13 (goodIn_app lwg_r14 (goodIn_app lwg_r15 (goodIn_app lwg_r16 (goodIn_app lwg_r17 (goodIn_app lwg_r18 (goodIn_app lwg_r19 (goodIn_app lwg_r20 (goodIn_app lwg_r21 (goodIn_app lwg_r22 (goodIn_app lwg_r23 (goodIn_app lwg_r24 (goodIn_app lwg_r25 (goodIn_app lwg_r26 (goodIn_app lwg_r27 (goodIn_app lwg_r28 (goodIn_app lwg_r29 (goodIn_app lwg_r30 (goodIn_app lwg_r31 lwg_r32))))))))))))))))))))))))))))))) lwg_wsX70) lwg_wsX80) lwg_wsX30) lwg_wsX10) lwg_wsX00) lwg_wsX20) lwg_wsX50) lwg_wsX60) lwg_wsX40) (fun w h => nomatch h))) w h |>.1
