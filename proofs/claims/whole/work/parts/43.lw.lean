/-! the law's words are among the tables' words, row by row -/
set_option maxRecDepth 20000 in
theorem lwi_wsL_law_r1 : GoodIn lw_tbl wsL_law_r1 := goodIn_r wsL_law_r1 [81, 82, 59, 843, 844, 64, 83, 84, 85, 86, 87, 88, 89, 90, 62, 134, 135, 136, 137, 132, 138, 115, 116, 63] rfl (by decide +kernel)
set_option maxRecDepth 20000 in
theorem lwi_wsL_law_r2 : GoodIn lw_tbl wsL_law_r2 := goodIn_r wsL_law_r2 [139, 140, 141, 142, 91, 92, 93, 101, 103, 94, 95, 61, 96, 105, 97, 98, 60, 99, 100, 118, 119, 120, 133, 121] rfl (by decide +kernel)
set_option maxRecDepth 20000 in
theorem lwi_wsL_law_r3 : GoodIn lw_tbl wsL_law_r3 := goodIn_r wsL_law_r3 [122, 123, 845, 846, 847, 848, 855, 856, 857, 858, 859, 863, 864, 865, 866, 867, 868, 869, 872, 873, 874, 875, 876, 877] rfl (by decide +kernel)
set_option maxRecDepth 20000 in
theorem lwi_wsL_law_r4 : GoodIn lw_tbl wsL_law_r4 := goodIn_r wsL_law_r4 [878, 879, 880, 881, 882, 883, 884, 885, 886, 887, 985, 888, 889, 890, 891, 892, 893, 162, 163, 164, 165, 986, 987, 988] rfl (by decide +kernel)
set_option maxRecDepth 20000 in
theorem lwi_wsL_law_r5 : GoodIn lw_tbl wsL_law_r5 := goodIn_r wsL_law_r5 [989, 849, 166, 167, 168, 169, 170, 171, 172, 173, 174, 175, 176, 177, 178, 179, 990, 991, 992, 993, 851, 850, 994, 995] rfl (by decide +kernel)
set_option maxRecDepth 20000 in
theorem lwi_wsL_law_r6 : GoodIn lw_tbl wsL_law_r6 := goodIn_r wsL_law_r6 [996, 180, 181, 182, 183, 184, 185, 186, 187, 104, 188, 189, 190, 191, 192, 194, 0, 195, 196, 198, 1, 199, 200, 202] rfl (by decide +kernel)
set_option maxRecDepth 20000 in
theorem lwi_wsL_law_r7 : GoodIn lw_tbl wsL_law_r7 := goodIn_r wsL_law_r7 [2, 203, 204, 206, 3, 207, 115, 208, 209, 210, 211, 212, 213, 65, 214, 215, 216, 66, 217, 218, 219, 220, 221, 222] rfl (by decide +kernel)
set_option maxRecDepth 20000 in
theorem lwi_wsL_law_r8 : GoodIn lw_tbl wsL_law_r8 := goodIn_r wsL_law_r8 [223, 224, 225, 226, 228, 4, 229, 230, 232, 5, 233, 234, 235, 236, 237, 238, 239, 240, 241, 106, 107, 242, 244, 6] rfl (by decide +kernel)
set_option maxRecDepth 20000 in
theorem lwi_wsL_law_r9 : GoodIn lw_tbl wsL_law_r9 := goodIn_r wsL_law_r9 [245, 246, 248, 7, 249, 250, 252, 8, 253, 293, 258, 68, 259, 294, 254, 255, 67, 256, 257, 260, 261, 262, 263, 264] rfl (by decide +kernel)
set_option maxRecDepth 20000 in
theorem lwi_wsL_law_r10 : GoodIn lw_tbl wsL_law_r10 := goodIn_r wsL_law_r10 [265, 69, 266, 267, 1205, 268, 280, 281, 282, 283, 284, 286, 287, 288, 289, 290, 292, 291, 70, 997, 998, 999, 1000, 1001] rfl (by decide +kernel)
set_option maxRecDepth 20000 in
theorem lwi_wsL_law_r11 : GoodIn lw_tbl wsL_law_r11 := goodIn_r wsL_law_r11 [1003, 36, 1004, 1005, 1007, 37, 1008, 1009, 1011, 38, 1012, 295, 296, 297, 298, 299, 301, 9, 302, 303, 304, 305, 306, 307] rfl (by decide +kernel)
set_option maxRecDepth 20000 in
theorem lwi_wsL_law_r12 : GoodIn lw_tbl wsL_law_r12 := goodIn_r wsL_law_r12 [308, 309, 310, 1013, 1014, 1015, 1016, 1017, 1019, 39, 1020, 1021, 1023, 40, 1024, 311, 312, 313, 314, 315, 316, 317, 318, 319] rfl (by decide +kernel)
set_option maxRecDepth 20000 in
theorem lwi_wsL_law_r13 : GoodIn lw_tbl wsL_law_r13 := goodIn_r wsL_law_r13 [321, 10, 322, 323, 325, 11, 326, 327, 328, 71, 329, 1025, 1026, 1027, 1028, 1029, 1031, 41, 1032, 1033, 1035, 42, 1036, 1037] rfl (by decide +kernel)
set_option maxRecDepth 20000 in
theorem lwi_wsL_law_r14 : GoodIn lw_tbl wsL_law_r14 := goodIn_r wsL_law_r14 [1038, 1039, 330, 331, 332, 333, 334, 336, 12, 337, 1040, 1041, 1042, 1043, 860, 1044, 1046, 43, 1047, 338, 339, 340, 341, 345] rfl (by decide +kernel)
set_option maxRecDepth 20000 in
theorem lwi_wsL_law_r15 : GoodIn lw_tbl wsL_law_r15 := goodIn_r wsL_law_r15 [346, 72, 366, 367, 73, 342, 343, 344, 347, 348, 349, 350, 351, 357, 353, 355, 352, 368, 369, 370, 371, 375, 376, 373] rfl (by decide +kernel)
set_option maxRecDepth 20000 in
theorem lwi_wsL_law_r16 : GoodIn lw_tbl wsL_law_r16 := goodIn_r wsL_law_r16 [372, 374, 386, 387, 388, 389, 403, 404, 74, 390, 392, 13, 393, 394, 395, 396, 397, 398, 399, 400, 401, 402, 406, 407] rfl (by decide +kernel)
set_option maxRecDepth 20000 in
theorem lwi_wsL_law_r17 : GoodIn lw_tbl wsL_law_r17 := goodIn_r wsL_law_r17 [408, 409, 410, 411, 413, 415, 417, 432, 434, 14, 435, 437, 439, 15, 440, 441, 443, 16, 444, 445, 446, 447, 75, 448] rfl (by decide +kernel)
set_option maxRecDepth 20000 in
theorem lwi_wsL_law_r18 : GoodIn lw_tbl wsL_law_r18 := goodIn_r wsL_law_r18 [1211, 449, 450, 451, 452, 453, 1212, 455, 456, 457, 458, 459, 460, 461, 462, 463, 464, 76, 465, 466, 467, 468, 469, 471] rfl (by decide +kernel)
set_option maxRecDepth 20000 in
theorem lwi_wsL_law_r19 : GoodIn lw_tbl wsL_law_r19 := goodIn_r wsL_law_r19 [472, 473, 77, 474, 475, 476, 477, 478, 479, 480, 481, 482, 483, 484, 485, 487, 489, 493, 495, 17, 496, 497, 499, 18] rfl (by decide +kernel)
set_option maxRecDepth 20000 in
theorem lwi_wsL_law_r20 : GoodIn lw_tbl wsL_law_r20 := goodIn_r wsL_law_r20 [500, 507, 509, 19, 510, 511, 513, 20, 514, 515, 516, 517, 520, 521, 522, 523, 524, 1048, 1049, 1050, 1051, 852, 861, 862] rfl (by decide +kernel)
set_option maxRecDepth 20000 in
theorem lwi_wsL_law_r21 : GoodIn lw_tbl wsL_law_r21 := goodIn_r wsL_law_r21 [1052, 1053, 1054, 1055, 1057, 44, 1058, 1070, 870, 1059, 1061, 45, 1062, 1063, 1065, 46, 1066, 1067, 1068, 1069, 1071, 1073, 47, 1074] rfl (by decide +kernel)
set_option maxRecDepth 20000 in
theorem lwi_wsL_law_r22 : GoodIn lw_tbl wsL_law_r22 := goodIn_r wsL_law_r22 [1075, 1077, 48, 1078, 1079, 1080, 1081, 1082, 1083, 1084, 871, 1085, 1087, 49, 1088, 1089, 1090, 1091, 525, 526, 527, 528, 1092, 1093] rfl (by decide +kernel)
set_option maxRecDepth 20000 in
theorem lwi_wsL_law_r23 : GoodIn lw_tbl wsL_law_r23 := goodIn_r wsL_law_r23 [1094, 1095, 529, 530, 531, 532, 533, 535, 21, 536, 345, 1096, 1097, 1098, 1099, 537, 538, 539, 540, 541, 543, 22, 544, 545] rfl (by decide +kernel)
set_option maxRecDepth 20000 in
theorem lwi_wsL_law_r24 : GoodIn lw_tbl wsL_law_r24 := goodIn_r wsL_law_r24 [546, 547, 548, 551, 549, 550, 552, 553, 554, 555, 556, 557, 558, 559, 560, 561, 562, 563, 564, 565, 567, 23, 568, 569] rfl (by decide +kernel)
set_option maxRecDepth 20000 in
theorem lwi_wsL_law_r25 : GoodIn lw_tbl wsL_law_r25 := goodIn_r wsL_law_r25 [570, 571, 572, 1100, 1101, 1102, 1103, 1104, 1106, 50, 1107, 573, 574, 575, 576, 577, 579, 24, 580, 581, 582, 78, 583, 584] rfl (by decide +kernel)
set_option maxRecDepth 20000 in
theorem lwi_wsL_law_r26 : GoodIn lw_tbl wsL_law_r26 := goodIn_r wsL_law_r26 [585, 586, 587, 590, 592, 594, 596, 598, 600, 617, 619, 25, 620, 621, 622, 623, 624, 625, 627, 26, 628, 629, 631, 27] rfl (by decide +kernel)
set_option maxRecDepth 20000 in
theorem lwi_wsL_law_r27 : GoodIn lw_tbl wsL_law_r27 := goodIn_r wsL_law_r27 [632, 633, 634, 636, 28, 637, 642, 638, 639, 640, 641, 643, 644, 645, 79, 646, 684, 692, 695, 696, 647, 648, 649, 650] rfl (by decide +kernel)
set_option maxRecDepth 20000 in
theorem lwi_wsL_law_r28 : GoodIn lw_tbl wsL_law_r28 := goodIn_r wsL_law_r28 [651, 653, 29, 654, 655, 657, 30, 658, 659, 660, 661, 662, 663, 665, 31, 666, 667, 668, 669, 670, 1120, 1121, 1122, 1123] rfl (by decide +kernel)
set_option maxRecDepth 20000 in
theorem lwi_wsL_law_r29 : GoodIn lw_tbl wsL_law_r29 := goodIn_r wsL_law_r29 [1124, 1125, 1126, 1127, 1129, 53, 1130, 853, 1132, 1131, 1116, 1118, 52, 1119, 1133, 1135, 54, 1136, 1137, 1139, 55, 1140, 671, 672] rfl (by decide +kernel)
set_option maxRecDepth 20000 in
theorem lwi_wsL_law_r30 : GoodIn lw_tbl wsL_law_r30 := goodIn_r wsL_law_r30 [673, 674, 642, 675, 676, 677, 678, 679, 686, 687, 689, 690, 691, 693, 680, 682, 1141, 1142, 1143, 1144, 722, 723, 724, 725] rfl (by decide +kernel)
set_option maxRecDepth 20000 in
theorem lwi_wsL_law_r31 : GoodIn lw_tbl wsL_law_r31 := goodIn_r wsL_law_r31 [726, 728, 32, 729, 730, 731, 732, 733, 734, 735, 736, 737, 738, 739, 740, 741, 742, 1145, 1146, 1147, 1148, 1112, 1114, 51] rfl (by decide +kernel)
set_option maxRecDepth 20000 in
theorem lwi_wsL_law_r32 : GoodIn lw_tbl wsL_law_r32 := goodIn_r wsL_law_r32 [1115, 743, 744, 745, 746, 747, 748, 749, 750, 751, 752, 753, 754, 1149, 1150, 1151, 1152, 1153, 1155, 56, 1156, 755, 756, 757] rfl (by decide +kernel)
set_option maxRecDepth 20000 in
theorem lwi_wsL_law_r33 : GoodIn lw_tbl wsL_law_r33 := goodIn_r wsL_law_r33 [758, 759, 760, 761, 762, 763, 765, 33, 766, 1157, 1158, 1159, 1160, 1161, 1163, 57, 1164, 767, 768, 769, 770, 771, 772, 773] rfl (by decide +kernel)
set_option maxRecDepth 20000 in
theorem lwi_wsL_law_r34 : GoodIn lw_tbl wsL_law_r34 := goodIn_r wsL_law_r34 [774, 1165, 1166, 1167, 1168, 775, 776, 777, 778, 1169, 1170, 1171, 1172, 779, 780, 781, 782, 783, 784, 785, 786, 787, 789, 34] rfl (by decide +kernel)
set_option maxRecDepth 20000 in
theorem lwi_wsL_law_r35 : GoodIn lw_tbl wsL_law_r35 := goodIn_r wsL_law_r35 [790, 791, 1173, 1174, 1175, 1176, 792, 793, 794, 795, 796, 797, 798, 799, 1177, 1178, 1179, 1180, 800, 801, 802, 803, 1108, 1109] rfl (by decide +kernel)
set_option maxRecDepth 20000 in
theorem lwi_wsL_law_r36 : GoodIn lw_tbl wsL_law_r36 := goodIn_r wsL_law_r36 [1110, 1111, 804, 805, 806, 807, 808, 809, 80, 810, 811, 812, 813, 814, 816, 818, 820, 1181, 1182, 1183, 1184, 854, 831, 832] rfl (by decide +kernel)
set_option maxRecDepth 20000 in
theorem lwi_wsL_law_r37 : GoodIn lw_tbl wsL_law_r37 := goodIn_r wsL_law_r37 [833, 834, 808, 1185, 1186, 1187, 1188, 835, 836, 837, 838, 839, 841, 35, 842, 1189, 1190, 1191, 1192] rfl (by decide +kernel)
set_option maxRecDepth 20000 in
theorem lwi_wsX70 : GoodIn lw_tbl wsX70 := goodIn_r wsX70 [143, 145, 147, 149, 151, 153, 155, 157, 159] rfl (by decide +kernel)
set_option maxRecDepth 20000 in
theorem lwi_wsX80 : GoodIn lw_tbl wsX80 := goodIn_r wsX80 [894, 896, 898, 900, 902, 904, 906, 908, 910, 912, 914, 916, 918, 920, 922, 924, 926, 928, 930, 932, 934, 936, 938, 940, 942, 944, 946, 948, 950, 952, 954, 956, 958, 960, 962, 964, 966, 968, 970, 972, 974, 976, 978, 980, 982] rfl (by decide +kernel)
set_option maxRecDepth 20000 in
theorem lwi_wsJx4a65c0 : GoodIn lw_tbl wsJx4a65c0 := goodIn_r wsJx4a65c0 [112, 108, 110] rfl (by decide +kernel)
set_option maxRecDepth 20000 in
theorem lwi_wsX50 : GoodIn lw_tbl wsX50 := goodIn_r wsX50 [125, 127, 129] rfl (by decide +kernel)
set_option maxRecDepth 20000 in
theorem lwi_wsX30 : GoodIn lw_tbl wsX30 := goodIn_r wsX30 [359, 361, 363] rfl (by decide +kernel)
set_option maxRecDepth 20000 in
theorem lwi_wsX40 : GoodIn lw_tbl wsX40 := goodIn_r wsX40 [377, 379, 381, 383] rfl (by decide +kernel)
set_option maxRecDepth 20000 in
theorem lwi_wsX60 : GoodIn lw_tbl wsX60 := goodIn_r wsX60 [419, 421, 423, 425, 427, 429] rfl (by decide +kernel)
set_option maxRecDepth 20000 in
theorem lwi_wsX10 : GoodIn lw_tbl wsX10 := goodIn_r wsX10 [602, 604, 606, 608, 610, 612, 614] rfl (by decide +kernel)
set_option maxRecDepth 20000 in
theorem lwi_wsX00 : GoodIn lw_tbl wsX00 := goodIn_r wsX00 [697, 699, 701, 703, 705, 707, 709, 711, 713, 715, 717, 719] rfl (by decide +kernel)
set_option maxRecDepth 20000 in
theorem lwi_wsX20 : GoodIn lw_tbl wsX20 := goodIn_r wsX20 [822, 824, 826, 828] rfl (by decide +kernel)
theorem lwi_app {a b : List Cond} (h : GoodIn lw_tbl a) (k : GoodIn lw_tbl b) : GoodIn lw_tbl (a ++ b) := fun w hw => (List.mem_append.mp hw).elim (h w) (k w)
theorem wsL_law_good : GoodIn lw_tbl wsL_law := (lwi_app (lwi_app (lwi_app (lwi_app (lwi_app (lwi_app (lwi_app (lwi_app (lwi_app (lwi_app (lwi_app (lwi_app lwi_wsL_law_r1 (lwi_app lwi_wsL_law_r2 (lwi_app lwi_wsL_law_r3 (lwi_app lwi_wsL_law_r4 (lwi_app lwi_wsL_law_r5 (lwi_app lwi_wsL_law_r6 (lwi_app lwi_wsL_law_r7 (lwi_app lwi_wsL_law_r8 (lwi_app lwi_wsL_law_r9 (lwi_app lwi_wsL_law_r10 (lwi_app lwi_wsL_law_r11 (lwi_app lwi_wsL_law_r12 (lwi_app lwi_wsL_law_r13 (lwi_app lwi_wsL_law_r14 (lwi_app lwi_wsL_law_r15 (lwi_app lwi_wsL_law_r16 (lwi_app lwi_wsL_law_r17 (lwi_app lwi_wsL_law_r18 (lwi_app lwi_wsL_law_r19 (lwi_app lwi_wsL_law_r20 (lwi_app lwi_wsL_law_r21 (lwi_app lwi_wsL_law_r22 (lwi_app lwi_wsL_law_r23 (lwi_app lwi_wsL_law_r24 (lwi_app lwi_wsL_law_r25 (lwi_app lwi_wsL_law_r26 (lwi_app lwi_wsL_law_r27 (lwi_app lwi_wsL_law_r28 (lwi_app lwi_wsL_law_r29 (lwi_app lwi_wsL_law_r30 (lwi_app lwi_wsL_law_r31 (lwi_app lwi_wsL_law_r32 (lwi_app lwi_wsL_law_r33 (lwi_app lwi_wsL_law_r34 (lwi_app lwi_wsL_law_r35 (lwi_app lwi_wsL_law_r36 (lwi_wsL_law_r37))))))))))))))))))))))))))))))))))))) lwi_wsX70) lwi_wsX80) lwi_wsJx4a65c0) lwi_wsX50) lwi_wsX30) lwi_wsX40) lwi_wsX60) lwi_wsX10) lwi_wsX00) lwi_wsX20) (fun _ h => absurd h List.not_mem_nil))
theorem wsL_law_in : ∀ w ∈ wsL_law, w ∈ lw_tbl := fun w h => (wsL_law_good w h).1
theorem inlX0 : ∀ w ∈ wsX00, w ∈ wsL_law := fun _ h => List.mem_append_left _ (List.mem_append_left _ (List.mem_append_right _ h))
theorem inX0 : ∀ w ∈ wsX00, w ∈ lw_tbl := fun w h => wsL_law_in w (inlX0 w h)
theorem inlX1 : ∀ w ∈ wsX10, w ∈ wsL_law := fun _ h => List.mem_append_left _ (List.mem_append_left _ (List.mem_append_left _ (List.mem_append_right _ h)))
theorem inX1 : ∀ w ∈ wsX10, w ∈ lw_tbl := fun w h => wsL_law_in w (inlX1 w h)
theorem inlX2 : ∀ w ∈ wsX20, w ∈ wsL_law := fun _ h => List.mem_append_left _ (List.mem_append_right _ h)
theorem inX2 : ∀ w ∈ wsX20, w ∈ lw_tbl := fun w h => wsL_law_in w (inlX2 w h)
theorem inlX3 : ∀ w ∈ wsX30, w ∈ wsL_law := fun _ h => List.mem_append_left _ (List.mem_append_left _ (List.mem_append_left _ (List.mem_append_left _ (List.mem_append_left _ (List.mem_append_left _ (List.mem_append_right _ h))))))
theorem inX3 : ∀ w ∈ wsX30, w ∈ lw_tbl := fun w h => wsL_law_in w (inlX3 w h)
theorem inlX4 : ∀ w ∈ wsX40, w ∈ wsL_law := fun _ h => List.mem_append_left _ (List.mem_append_left _ (List.mem_append_left _ (List.mem_append_left _ (List.mem_append_left _ (List.mem_append_right _ h)))))
theorem inX4 : ∀ w ∈ wsX40, w ∈ lw_tbl := fun w h => wsL_law_in w (inlX4 w h)
theorem inlX5 : ∀ w ∈ wsX50, w ∈ wsL_law := fun _ h => List.mem_append_left _ (List.mem_append_left _ (List.mem_append_left _ (List.mem_append_left _ (List.mem_append_left _ (List.mem_append_left _ (List.mem_append_left _ (List.mem_append_right _ h)))))))
theorem inX5 : ∀ w ∈ wsX50, w ∈ lw_tbl := fun w h => wsL_law_in w (inlX5 w h)
theorem inlX6 : ∀ w ∈ wsX60, w ∈ wsL_law := fun _ h => List.mem_append_left _ (List.mem_append_left _ (List.mem_append_left _ (List.mem_append_left _ (List.mem_append_right _ h))))
theorem inX6 : ∀ w ∈ wsX60, w ∈ lw_tbl := fun w h => wsL_law_in w (inlX6 w h)
theorem inlX7 : ∀ w ∈ wsX70, w ∈ wsL_law := fun _ h => List.mem_append_left _ (List.mem_append_left _ (List.mem_append_left _ (List.mem_append_left _ (List.mem_append_left _ (List.mem_append_left _ (List.mem_append_left _ (List.mem_append_left _ (List.mem_append_left _ (List.mem_append_left _ (List.mem_append_right _ h))))))))))
theorem inX7 : ∀ w ∈ wsX70, w ∈ lw_tbl := fun w h => wsL_law_in w (inlX7 w h)
theorem inlX8 : ∀ w ∈ wsX80, w ∈ wsL_law := fun _ h => List.mem_append_left _ (List.mem_append_left _ (List.mem_append_left _ (List.mem_append_left _ (List.mem_append_left _ (List.mem_append_left _ (List.mem_append_left _ (List.mem_append_left _ (List.mem_append_left _ (List.mem_append_right _ h)))))))))
theorem inX8 : ∀ w ∈ wsX80, w ∈ lw_tbl := fun w h => wsL_law_in w (inlX8 w h)
theorem inJx145de : ∀ w ∈ wsJx145de0, w ∈ lw_tbl := by decide +kernel
theorem inJx8e188 : ∀ w ∈ wsJx8e1880, w ∈ lw_tbl := by decide +kernel
theorem inJxab1ab : ∀ w ∈ wsJxab1ab0, w ∈ lw_tbl := by decide +kernel
theorem inJ13 : ∀ w ∈ wsJ130, w ∈ lw_tbl := by decide +kernel
theorem inJ9 : ∀ w ∈ wsJ90, w ∈ lw_tbl := by decide +kernel
theorem inJ0 : ∀ w ∈ wsJ00, w ∈ lw_tbl := by decide +kernel
theorem inJ1 : ∀ w ∈ wsJ10, w ∈ lw_tbl := by decide +kernel
theorem inJ2 : ∀ w ∈ wsJ20, w ∈ lw_tbl := by decide +kernel
theorem inJ10 : ∀ w ∈ wsJ100, w ∈ lw_tbl := by decide +kernel
theorem inJxa1e45 : ∀ w ∈ wsJxa1e450, w ∈ lw_tbl := by decide +kernel
theorem inJxc12de : ∀ w ∈ wsJxc12de0, w ∈ lw_tbl := by decide +kernel
theorem inlJx4a65c : ∀ w ∈ wsJx4a65c0, w ∈ wsL_law := fun _ h => List.mem_append_left _ (List.mem_append_left _ (List.mem_append_left _ (List.mem_append_left _ (List.mem_append_left _ (List.mem_append_left _ (List.mem_append_left _ (List.mem_append_left _ (List.mem_append_right _ h))))))))
theorem inJx4a65c : ∀ w ∈ wsJx4a65c0, w ∈ lw_tbl := fun w h => wsL_law_in w (inlJx4a65c w h)
theorem inJ7 : ∀ w ∈ wsJ70, w ∈ lw_tbl := by decide +kernel
theorem inJx5ef63 : ∀ w ∈ wsJx5ef630, w ∈ lw_tbl := by decide +kernel
theorem inJxbd725 : ∀ w ∈ wsJxbd7250, w ∈ lw_tbl := by decide +kernel
theorem inJ15 : ∀ w ∈ wsJ150, w ∈ lw_tbl := by decide +kernel
theorem inJxf0a74 : ∀ w ∈ wsJxf0a740, w ∈ lw_tbl := by decide +kernel
theorem inJxa66e6 : ∀ w ∈ wsJxa66e60, w ∈ lw_tbl := by decide +kernel
theorem inJ8 : ∀ w ∈ wsJ80, w ∈ lw_tbl := by decide +kernel
theorem inJ3 : ∀ w ∈ wsJ30, w ∈ lw_tbl := by decide +kernel
