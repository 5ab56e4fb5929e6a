/-! the law's calls: their words are among the law's (4) -/
set_option maxRecDepth 20000 in
theorem ggL_law_X8_clash : GoodIn wsL_law wsX8_clash := goodIn_r _ [804, 679, 97, 67, 68, 69, 70, 741, 742, 743, 5, 744, 118, 119, 120, 682, 683, 684, 685, 79, 80, 81, 690, 691, 692, 693, 892, 893, 894, 895, 896, 897, 898, 899, 900, 901, 902, 903, 904, 905, 906, 907, 908, 909, 910, 911, 912, 913, 914, 915, 916, 917, 918, 919, 920, 921, 922, 923, 924, 925, 926, 927, 928, 929, 930, 931, 932, 933, 934, 935, 936] rfl (by decide +kernel)
set_option maxRecDepth 20000 in
theorem gL_law_X8_clash : GoodIn wsL_law (wsV RL 89 RX8 yX8_clash wsX8_clash) := goodIn_app (goodIn_of _ (by decide +kernel)) ggL_law_X8_clash
set_option maxRecDepth 20000 in
theorem ggL_law_X7_told : GoodIn wsL_law wsX7_told := goodIn_r _ [808, 26, 720, 721, 722, 2, 723, 17, 630, 125, 126, 127, 14, 128, 129, 151, 152, 153, 154, 155, 156, 157, 158, 159, 160, 161, 162, 163, 164, 165, 166, 32, 809, 810, 811, 638, 812, 711, 710, 706, 705, 707, 708, 641, 709, 773, 774, 775, 776, 640, 813, 814, 815, 816, 817, 725, 726, 727, 883, 884, 885, 886, 887, 888, 889, 890, 891, 937, 938, 939, 963, 964, 965, 966, 967, 968, 969, 970, 971, 972, 973, 974, 956, 957, 958, 959, 960, 961, 962] rfl (by decide +kernel)
set_option maxRecDepth 20000 in
theorem gL_law_X7_told : GoodIn wsL_law (wsV RL 90 RX7 yX7_told wsX7_told) := goodIn_app (goodIn_of _ (by decide +kernel)) ggL_law_X7_told
set_option maxRecDepth 20000 in
theorem ggL_law_X8_told : GoodIn wsL_law wsX8_told := goodIn_r _ [821, 73, 66, 75, 76, 77, 78, 79, 83, 741, 742, 743, 5, 744, 679, 118, 119, 120, 781, 782, 783, 784, 74, 97, 892, 893, 894, 895, 896, 897, 898, 899, 900, 901, 902, 903, 904, 905, 906, 907, 908, 909, 910, 911, 912, 913, 914, 915, 916, 917, 918, 919, 920, 921, 922, 923, 924, 925, 926, 927, 928, 929, 930, 931, 932, 933, 934, 935, 936] rfl (by decide +kernel)
set_option maxRecDepth 20000 in
theorem gL_law_X8_told : GoodIn wsL_law (wsV RL 93 RX8 yX8_told wsX8_told) := goodIn_app (goodIn_of _ (by decide +kernel)) ggL_law_X8_told
set_option maxRecDepth 20000 in
theorem ggL_law_X7_raze : GoodIn wsL_law wsX7_raze := goodIn_r _ [825, 26, 720, 721, 722, 2, 723, 17, 630, 125, 126, 127, 14, 128, 129, 151, 152, 153, 154, 155, 156, 157, 158, 159, 160, 161, 162, 163, 164, 165, 166, 32, 826, 827, 828, 638, 829, 640, 641, 642, 643, 883, 884, 885, 886, 887, 888, 889, 890, 891, 937, 938, 939, 963, 964, 965, 966, 967, 968, 969, 970, 971, 972, 973, 974] rfl (by decide +kernel)
set_option maxRecDepth 20000 in
theorem gL_law_X7_raze : GoodIn wsL_law (wsV RL 94 RX7 yX7_raze wsX7_raze) := goodIn_app (goodIn_of _ (by decide +kernel)) ggL_law_X7_raze
set_option maxRecDepth 20000 in
theorem ggL_law_X8_raze : GoodIn wsL_law wsX8_raze := goodIn_r _ [833, 79, 97, 80, 81, 741, 742, 743, 5, 744, 679, 118, 119, 120, 892, 893, 894, 895, 896, 897, 898, 899, 900, 901, 902, 903, 904, 905, 906, 907, 908, 909, 910, 911, 912, 913, 914, 915, 916, 917, 918, 919, 920, 921, 922, 923, 924, 925, 926, 927, 928, 929, 930, 931, 932, 933, 934, 935, 936] rfl (by decide +kernel)
set_option maxRecDepth 20000 in
theorem gL_law_X8_raze : GoodIn wsL_law (wsV RL 98 RX8 yX8_raze wsX8_raze) := goodIn_app (goodIn_of _ (by decide +kernel)) ggL_law_X8_raze
set_option maxRecDepth 20000 in
theorem ggL_law_X7_stands : GoodIn wsL_law wsX7_stands := goodIn_r _ [837, 720, 721, 722, 2, 723, 17, 630, 125, 126, 127, 14, 128, 129, 151, 152, 153, 154, 155, 156, 157, 158, 159, 160, 161, 162, 163, 164, 165, 166, 32, 341, 342, 343, 105, 106, 107, 635, 636, 637, 638, 639, 640, 641, 642, 643, 883, 884, 885, 886, 887, 888, 889, 890, 891, 937, 938, 939, 963, 964, 965, 966, 967, 968, 969, 970, 971, 972, 973, 974] rfl (by decide +kernel)
set_option maxRecDepth 20000 in
theorem gL_law_X7_stands : GoodIn wsL_law (wsV RL 99 RX7 yX7_stands wsX7_stands) := goodIn_app (goodIn_of _ (by decide +kernel)) ggL_law_X7_stands
set_option maxRecDepth 20000 in
theorem ggL_law_X8_stands : GoodIn wsL_law wsX8_stands := goodIn_r _ [841, 741, 742, 743, 5, 744, 679, 118, 119, 120, 480, 481, 482, 682, 683, 684, 685, 79, 80, 81, 892, 893, 894, 895, 896, 897, 898, 899, 900, 901, 902, 903, 904, 905, 906, 907, 908, 909, 910, 911, 912, 913, 914, 915, 916, 917, 918, 919, 920, 921, 922, 923, 924, 925, 926, 927, 928, 929, 930, 931, 932, 933, 934, 935, 936] rfl (by decide +kernel)
set_option maxRecDepth 20000 in
theorem gL_law_X8_stands : GoodIn wsL_law (wsV RL 102 RX8 yX8_stands wsX8_stands) := goodIn_app (goodIn_of _ (by decide +kernel)) ggL_law_X8_stands
set_option maxRecDepth 20000 in
theorem ggL_law_X7_hold : GoodIn wsL_law wsX7_hold := goodIn_r _ [845, 26, 18, 846, 847, 848, 255, 256, 257, 2, 258, 15, 150, 125, 126, 127, 14, 128, 129, 151, 152, 153, 154, 155, 156, 157, 158, 159, 160, 161, 162, 163, 164, 165, 166, 32, 105, 106, 107, 849, 850, 851, 852, 10, 11, 853, 854, 855, 856, 183, 184, 185, 186, 187, 188, 189, 190, 191, 192, 193, 194, 195, 196, 197, 198, 199, 200, 31, 201, 202, 203, 204, 205, 206, 207, 208, 209, 210, 211, 212, 213, 214, 215, 216, 217, 218, 219, 220, 221, 222, 223, 224, 225, 226, 227, 228, 229, 230, 231, 232, 233, 234, 883, 884, 885, 886, 887, 888, 889, 890, 891, 975, 976, 977, 978, 937, 938, 939] rfl (by decide +kernel)
set_option maxRecDepth 20000 in
theorem gL_law_X7_hold : GoodIn wsL_law (wsV RL 103 RX7 yX7_hold wsX7_hold) := goodIn_app (goodIn_of _ (by decide +kernel)) ggL_law_X7_hold
set_option maxRecDepth 20000 in
theorem ggL_law_X8_hold : GoodIn wsL_law wsX8_hold := goodIn_r _ [860, 97, 861, 85, 86, 87, 88, 271, 272, 273, 5, 274, 117, 118, 119, 120, 892, 893, 894, 895, 896, 897, 898, 899, 900, 901, 902, 903, 904, 905, 906, 907, 908, 909, 910, 911, 912, 913, 914, 915, 916, 917, 918, 919, 920, 921, 922, 923, 924, 925, 926, 927, 928, 929, 930, 931, 932, 933, 934, 935, 936] rfl (by decide +kernel)
set_option maxRecDepth 20000 in
theorem gL_law_X8_hold : GoodIn wsL_law (wsV RL 106 RX8 yX8_hold wsX8_hold) := goodIn_app (goodIn_of _ (by decide +kernel)) ggL_law_X8_hold
set_option maxRecDepth 20000 in
theorem ggL_law_X7_holder : GoodIn wsL_law wsX7_holder := goodIn_r _ [865, 18, 866, 255, 256, 257, 2, 258, 15, 150, 125, 126, 127, 14, 128, 129, 151, 152, 153, 154, 155, 156, 157, 158, 159, 160, 161, 162, 163, 164, 165, 166, 32, 341, 342, 343, 105, 106, 107, 883, 884, 885, 886, 887, 888, 889, 890, 891, 975, 976, 977, 978, 937, 938, 939] rfl (by decide +kernel)
set_option maxRecDepth 20000 in
theorem gL_law_X7_holder : GoodIn wsL_law (wsV RL 107 RX7 yX7_holder wsX7_holder) := goodIn_app (goodIn_of _ (by decide +kernel)) ggL_law_X7_holder
set_option maxRecDepth 20000 in
theorem ggL_law_X8_holder : GoodIn wsL_law wsX8_holder := goodIn_r _ [870, 861, 85, 87, 88, 86, 271, 272, 273, 5, 274, 117, 118, 119, 120, 480, 481, 482, 892, 893, 894, 895, 896, 897, 898, 899, 900, 901, 902, 903, 904, 905, 906, 907, 908, 909, 910, 911, 912, 913, 914, 915, 916, 917, 918, 919, 920, 921, 922, 923, 924, 925, 926, 927, 928, 929, 930, 931, 932, 933, 934, 935, 936] rfl (by decide +kernel)
set_option maxRecDepth 20000 in
theorem gL_law_X8_holder : GoodIn wsL_law (wsV RL 110 RX8 yX8_holder wsX8_holder) := goodIn_app (goodIn_of _ (by decide +kernel)) ggL_law_X8_holder
set_option maxRecDepth 20000 in
theorem ggL_law_X7_count : GoodIn wsL_law wsX7_count := goodIn_r _ [874, 26, 15, 16, 17, 25, 24, 125, 126, 127, 14, 128, 129, 875, 876, 877, 2, 878, 630, 151, 152, 153, 154, 155, 156, 157, 158, 159, 160, 161, 162, 163, 164, 165, 166, 32, 635, 636, 637, 638, 639, 640, 641, 642, 643, 883, 884, 885, 886, 887, 888, 889, 890, 891, 940, 941, 942, 937, 938, 939, 963, 964, 965, 966, 967, 968, 969, 970, 971, 972, 973, 974] rfl (by decide +kernel)
set_option maxRecDepth 20000 in
theorem gL_law_X7_count : GoodIn wsL_law (wsV RL 111 RX7 yX7_count wsX7_count) := goodIn_app (goodIn_of _ (by decide +kernel)) ggL_law_X7_count
set_option maxRecDepth 20000 in
theorem ggL_law_X8_count : GoodIn wsL_law wsX8_count := goodIn_r _ [882, 97, 117, 477, 679, 326, 116, 682, 683, 684, 5, 685, 79, 80, 81, 892, 893, 894, 895, 896, 897, 898, 899, 900, 901, 902, 903, 904, 905, 906, 907, 908, 909, 910, 911, 912, 913, 914, 915, 916, 917, 918, 919, 920, 921, 922, 923, 924, 925, 926, 927, 928, 929, 930, 931, 932, 933, 934, 935, 936] rfl (by decide +kernel)
set_option maxRecDepth 20000 in
theorem gL_law_X8_count : GoodIn wsL_law (wsV RL 114 RX8 yX8_count wsX8_count) := goodIn_app (goodIn_of _ (by decide +kernel)) ggL_law_X8_count
