/-! the law's calls: their words are among the law's (2) -/
set_option maxRecDepth 20000 in
theorem ggL_law_X8_adopt : GoodIn wsL_law wsX8_adopt := goodIn_r _ [476, 326, 477, 58, 57, 478, 479, 59, 60, 61, 97, 118, 119, 5, 120, 480, 481, 482, 483, 484, 485, 486, 62, 487, 488, 63, 64, 65, 489, 490, 491, 492, 493, 494, 495, 496, 497, 498, 499, 500, 501, 502, 503, 504, 505, 506, 507, 508, 509, 510, 511, 512, 513, 514, 515, 516, 517, 518, 519, 520, 521, 892, 893, 894, 895, 896, 897, 898, 899, 900, 901, 902, 903, 904, 905, 906, 907, 908, 909, 910, 911, 912, 913, 914, 915, 916, 917, 918, 919, 920, 921, 922, 923, 924, 925, 926, 927, 928, 929, 930, 931, 932, 933, 934, 935, 936] rfl (by decide +kernel)
set_option maxRecDepth 20000 in
theorem gL_law_X8_adopt : GoodIn wsL_law (wsV RL 45 RX8 yX8_adopt wsX8_adopt) := goodIn_app (goodIn_of _ (by decide +kernel)) ggL_law_X8_adopt
set_option maxRecDepth 20000 in
theorem ggL_law_X7_fault : GoodIn wsL_law wsX7_fault := goodIn_r _ [525, 27, 883, 884, 885, 886, 887, 888, 889, 890, 891] rfl (by decide +kernel)
set_option maxRecDepth 20000 in
theorem gL_law_X7_fault : GoodIn wsL_law (wsV RL 46 RX7 yX7_fault wsX7_fault) := goodIn_app (goodIn_of _ (by decide +kernel)) ggL_law_X7_fault
set_option maxRecDepth 20000 in
theorem ggL_law_X8_fault : GoodIn wsL_law wsX8_fault := goodIn_r _ [529, 59, 892, 893, 894, 895, 896, 897, 898, 899, 900, 901, 902, 903, 904, 905, 906, 907, 908, 909, 910, 911, 912, 913, 914, 915, 916, 917, 918, 919, 920, 921, 922, 923, 924, 925, 926, 927, 928, 929, 930, 931, 932, 933, 934, 935, 936] rfl (by decide +kernel)
set_option maxRecDepth 20000 in
theorem gL_law_X8_fault : GoodIn wsL_law (wsV RL 49 RX8 yX8_fault wsX8_fault) := goodIn_app (goodIn_of _ (by decide +kernel)) ggL_law_X8_fault
set_option maxRecDepth 20000 in
theorem ggL_law_X7_plan : GoodIn wsL_law wsX7_plan := goodIn_r _ [533, 341, 342, 2, 343, 105, 106, 107, 534, 535, 536, 537, 16, 538, 125, 126, 127, 14, 128, 129, 151, 152, 153, 154, 155, 156, 157, 158, 159, 160, 161, 162, 163, 164, 165, 166, 32, 883, 884, 885, 886, 887, 888, 889, 890, 891, 943, 944, 945, 937, 938, 939] rfl (by decide +kernel)
set_option maxRecDepth 20000 in
theorem gL_law_X7_plan : GoodIn wsL_law (wsV RL 50 RX7 yX7_plan wsX7_plan) := goodIn_app (goodIn_of _ (by decide +kernel)) ggL_law_X7_plan
set_option maxRecDepth 20000 in
theorem ggL_law_X8_plan : GoodIn wsL_law wsX8_plan := goodIn_r _ [542, 477, 60, 61, 480, 481, 5, 482, 118, 119, 120, 892, 893, 894, 895, 896, 897, 898, 899, 900, 901, 902, 903, 904, 905, 906, 907, 908, 909, 910, 911, 912, 913, 914, 915, 916, 917, 918, 919, 920, 921, 922, 923, 924, 925, 926, 927, 928, 929, 930, 931, 932, 933, 934, 935, 936] rfl (by decide +kernel)
set_option maxRecDepth 20000 in
theorem gL_law_X8_plan : GoodIn wsL_law (wsV RL 53 RX8 yX8_plan wsX8_plan) := goodIn_app (goodIn_of _ (by decide +kernel)) ggL_law_X8_plan
set_option maxRecDepth 20000 in
theorem ggL_law_X7_zone : GoodIn wsL_law wsX7_zone := goodIn_r _ [546, 547, 548, 549, 2, 550, 16, 538, 125, 126, 127, 14, 128, 129, 151, 152, 153, 154, 155, 156, 157, 158, 159, 160, 161, 162, 163, 164, 165, 166, 32, 255, 256, 257, 258, 15, 150, 551, 552, 553, 337, 554, 349, 555, 556, 557, 558, 559, 560, 368, 561, 385, 562, 466, 467, 106, 107, 563, 564, 565, 566, 567, 568, 569, 570, 387, 388, 389, 390, 571, 572, 573, 574, 575, 576, 577, 578, 386, 883, 884, 885, 886, 887, 888, 889, 890, 891, 937, 938, 939, 943, 944, 945, 950, 951, 952, 953, 954, 955] rfl (by decide +kernel)
set_option maxRecDepth 20000 in
theorem gL_law_X7_zone : GoodIn wsL_law (wsV RL 54 RX7 yX7_zone wsX7_zone) := goodIn_app (goodIn_of _ (by decide +kernel)) ggL_law_X7_zone
set_option maxRecDepth 20000 in
theorem ggL_law_X8_zone : GoodIn wsL_law wsX8_zone := goodIn_r _ [582, 477, 65, 64, 118, 119, 5, 120, 271, 272, 273, 274, 117, 583, 584, 585, 586, 62, 63, 892, 893, 894, 895, 896, 897, 898, 899, 900, 901, 902, 903, 904, 905, 906, 907, 908, 909, 910, 911, 912, 913, 914, 915, 916, 917, 918, 919, 920, 921, 922, 923, 924, 925, 926, 927, 928, 929, 930, 931, 932, 933, 934, 935, 936] rfl (by decide +kernel)
set_option maxRecDepth 20000 in
theorem gL_law_X8_zone : GoodIn wsL_law (wsV RL 58 RX8 yX8_zone wsX8_zone) := goodIn_app (goodIn_of _ (by decide +kernel)) ggL_law_X8_zone
set_option maxRecDepth 20000 in
theorem ggL_law_X7_judge : GoodIn wsL_law wsX7_judge := goodIn_r _ [590, 591, 592, 593, 2, 594, 595, 596, 597, 255, 256, 257, 258, 15, 150, 125, 126, 127, 14, 128, 129, 151, 152, 153, 154, 155, 156, 157, 158, 159, 160, 161, 162, 163, 164, 165, 166, 32, 102, 103, 104, 105, 106, 107, 598, 599, 600, 601, 10, 11, 602, 603, 604, 605, 606, 607, 608, 341, 342, 343, 609, 610, 611, 612, 613, 614, 615, 23, 616, 617, 618, 619, 620, 49, 142, 143, 144, 145, 47, 48, 138, 139, 140, 141, 621, 622, 623, 624, 534, 535, 536, 537, 16, 538, 547, 548, 549, 550, 551, 552, 553, 337, 554, 349, 555, 556, 557, 558, 559, 560, 368, 561, 385, 562, 466, 467, 563, 564, 565, 566, 625, 576, 577, 578, 386, 259, 260, 261, 262, 626, 627, 628, 629, 17, 630, 631, 632, 633, 634, 635, 636, 637, 638, 639, 640, 641, 642, 643, 644, 645, 646, 647, 648, 649, 650, 651, 291, 292, 293, 294, 295, 296, 297, 298, 652, 653, 654, 655, 656, 657, 658, 659, 660, 661, 662, 663, 664, 665, 666, 667, 956, 957, 958, 959, 960, 961, 962, 883, 884, 885, 886, 887, 888, 889, 890, 891, 937, 938, 939, 950, 951, 952, 953, 954, 955, 940, 941, 942, 943, 944, 945, 963, 964, 965, 966, 967, 968, 969, 970, 971, 972, 973, 974] rfl (by decide +kernel)
set_option maxRecDepth 20000 in
theorem gL_law_X7_judge : GoodIn wsL_law (wsV RL 59 RX7 yX7_judge wsX7_judge) := goodIn_app (goodIn_of _ (by decide +kernel)) ggL_law_X7_judge
set_option maxRecDepth 20000 in
theorem ggL_law_X8_judge : GoodIn wsL_law wsX8_judge := goodIn_r _ [671, 271, 272, 273, 5, 274, 117, 118, 119, 120, 672, 673, 674, 480, 481, 482, 675, 676, 677, 678, 54, 64, 65, 679, 66, 69, 67, 70, 68, 680, 243, 244, 245, 246, 55, 56, 681, 540, 541, 542, 477, 60, 61, 583, 584, 585, 586, 62, 63, 682, 683, 684, 685, 79, 80, 81, 275, 276, 277, 278, 686, 687, 688, 689, 311, 312, 313, 690, 691, 692, 693, 892, 893, 894, 895, 896, 897, 898, 899, 900, 901, 902, 903, 904, 905, 906, 907, 908, 909, 910, 911, 912, 913, 914, 915, 916, 917, 918, 919, 920, 921, 922, 923, 924, 925, 926, 927, 928, 929, 930, 931, 932, 933, 934, 935, 936] rfl (by decide +kernel)
set_option maxRecDepth 20000 in
theorem gL_law_X8_judge : GoodIn wsL_law (wsV RL 63 RX8 yX8_judge wsX8_judge) := goodIn_app (goodIn_of _ (by decide +kernel)) ggL_law_X8_judge
set_option maxRecDepth 20000 in
theorem ggL_law_X7_apply : GoodIn wsL_law wsX7_apply := goodIn_r _ [697, 17, 698, 699, 638, 26, 125, 126, 127, 14, 128, 129, 591, 592, 593, 2, 594, 595, 596, 597, 255, 256, 257, 258, 15, 150, 151, 152, 153, 154, 155, 156, 157, 158, 159, 160, 161, 162, 163, 164, 165, 166, 32, 102, 103, 104, 105, 106, 107, 598, 599, 600, 601, 10, 11, 602, 603, 604, 605, 606, 607, 608, 700, 701, 702, 703, 640, 704, 705, 706, 707, 708, 641, 709, 642, 643, 710, 711, 183, 184, 185, 186, 187, 188, 189, 190, 191, 192, 193, 194, 195, 196, 197, 198, 199, 200, 31, 201, 202, 203, 204, 205, 206, 207, 208, 209, 210, 211, 212, 213, 214, 215, 216, 217, 218, 219, 220, 221, 222, 223, 224, 225, 226, 227, 228, 229, 230, 231, 232, 233, 234, 883, 884, 885, 886, 887, 888, 889, 890, 891, 963, 964, 965, 966, 967, 968, 969, 970, 971, 972, 973, 974, 937, 938, 939, 956, 957, 958, 959, 960, 961, 962] rfl (by decide +kernel)
set_option maxRecDepth 20000 in
theorem gL_law_X7_apply : GoodIn wsL_law (wsV RL 64 RX7 yX7_apply wsX7_apply) := goodIn_app (goodIn_of _ (by decide +kernel)) ggL_law_X7_apply
set_option maxRecDepth 20000 in
theorem ggL_law_X8_apply : GoodIn wsL_law wsX8_apply := goodIn_r _ [715, 679, 66, 67, 68, 69, 70, 71, 72, 73, 97, 77, 78, 79, 80, 271, 272, 273, 5, 274, 117, 118, 119, 120, 672, 673, 674, 892, 893, 894, 895, 896, 897, 898, 899, 900, 901, 902, 903, 904, 905, 906, 907, 908, 909, 910, 911, 912, 913, 914, 915, 916, 917, 918, 919, 920, 921, 922, 923, 924, 925, 926, 927, 928, 929, 930, 931, 932, 933, 934, 935, 936] rfl (by decide +kernel)
set_option maxRecDepth 20000 in
theorem gL_law_X8_apply : GoodIn wsL_law (wsV RL 68 RX8 yX8_apply wsX8_apply) := goodIn_app (goodIn_of _ (by decide +kernel)) ggL_law_X8_apply
