/-! the law's calls: their words are among the law's (1) -/
set_option maxRecDepth 20000 in
theorem ggL_law_X7_init : GoodIn wsL_law wsX7_init := goodIn_r _ [8, 9, 10, 11, 12, 13, 14, 15, 16, 17, 18, 19, 20, 21, 22, 23, 24, 25, 26, 27, 28, 29, 30, 31, 32, 33, 34, 35, 36, 37, 38, 39, 40, 41, 42, 43, 44, 45, 46, 47, 48, 49, 937, 938, 939, 883, 884, 885, 886, 887, 888, 889, 890, 891, 940, 941, 942] rfl (by decide +kernel)
set_option maxRecDepth 20000 in
theorem gL_law_X7_init : GoodIn wsL_law (wsX7_init) := ggL_law_X7_init
set_option maxRecDepth 20000 in
theorem ggL_law_X8_init : GoodIn wsL_law wsX8_init := goodIn_r _ [52, 53, 10, 11, 46, 54, 55, 56, 19, 57, 58, 59, 60, 61, 62, 63, 64, 65, 66, 67, 68, 69, 70, 71, 72, 73, 74, 75, 76, 77, 78, 79, 80, 81, 82, 83, 84, 85, 86, 87, 88, 892, 893, 894, 895, 896, 897, 898, 899, 900, 901, 902, 903, 904, 905, 906, 907, 908, 909, 910, 911, 912, 913, 914, 915, 916, 917, 918, 919, 920, 921, 922, 923, 924, 925, 926, 927, 928, 929, 930, 931, 932, 933, 934, 935, 936] rfl (by decide +kernel)
set_option maxRecDepth 20000 in
theorem gL_law_X8_init : GoodIn wsL_law (wsX8_init) := ggL_law_X8_init
set_option maxRecDepth 20000 in
theorem ggL_law_X7_day : GoodIn wsL_law wsX7_day := goodIn_r _ [92, 26, 883, 884, 885, 886, 887, 888, 889, 890, 891] rfl (by decide +kernel)
set_option maxRecDepth 20000 in
theorem gL_law_X7_day : GoodIn wsL_law (wsV RL 13 RX7 yX7_day wsX7_day) := goodIn_app (goodIn_of _ (by decide +kernel)) ggL_law_X7_day
set_option maxRecDepth 20000 in
theorem ggL_law_X8_day : GoodIn wsL_law wsX8_day := goodIn_r _ [96, 97, 892, 893, 894, 895, 896, 897, 898, 899, 900, 901, 902, 903, 904, 905, 906, 907, 908, 909, 910, 911, 912, 913, 914, 915, 916, 917, 918, 919, 920, 921, 922, 923, 924, 925, 926, 927, 928, 929, 930, 931, 932, 933, 934, 935, 936] rfl (by decide +kernel)
set_option maxRecDepth 20000 in
theorem gL_law_X8_day : GoodIn wsL_law (wsV RL 17 RX8 yX8_day wsX8_day) := goodIn_app (goodIn_of _ (by decide +kernel)) ggL_law_X8_day
set_option maxRecDepth 20000 in
theorem ggL_law_X7_corner : GoodIn wsL_law wsX7_corner := goodIn_r _ [101, 24, 102, 103, 2, 104, 105, 106, 107, 108, 109, 110, 23, 111, 49, 47, 48, 883, 884, 885, 886, 887, 888, 889, 890, 891, 940, 941, 942] rfl (by decide +kernel)
set_option maxRecDepth 20000 in
theorem gL_law_X7_corner : GoodIn wsL_law (wsV RL 18 RX7 yX7_corner wsX7_corner) := goodIn_app (goodIn_of _ (by decide +kernel)) ggL_law_X7_corner
set_option maxRecDepth 20000 in
theorem ggL_law_X8_corner : GoodIn wsL_law wsX8_corner := goodIn_r _ [115, 116, 55, 117, 56, 118, 119, 5, 120, 892, 893, 894, 895, 896, 897, 898, 899, 900, 901, 902, 903, 904, 905, 906, 907, 908, 909, 910, 911, 912, 913, 914, 915, 916, 917, 918, 919, 920, 921, 922, 923, 924, 925, 926, 927, 928, 929, 930, 931, 932, 933, 934, 935, 936] rfl (by decide +kernel)
set_option maxRecDepth 20000 in
theorem gL_law_X8_corner : GoodIn wsL_law (wsV RL 22 RX8 yX8_corner wsX8_corner) := goodIn_app (goodIn_of _ (by decide +kernel)) ggL_law_X8_corner
set_option maxRecDepth 20000 in
theorem ggL_law_X7_plot : GoodIn wsL_law wsX7_plot := goodIn_r _ [124, 15, 24, 21, 22, 23, 125, 126, 127, 14, 128, 129, 130, 131, 132, 133, 49, 134, 135, 136, 137, 47, 48, 138, 139, 140, 141, 142, 143, 144, 145, 146, 147, 148, 2, 149, 150, 151, 152, 153, 154, 155, 156, 157, 158, 159, 160, 161, 162, 163, 164, 165, 166, 32, 167, 168, 169, 170, 171, 172, 173, 174, 175, 176, 177, 178, 179, 180, 181, 182, 183, 184, 185, 186, 187, 188, 189, 190, 191, 192, 193, 194, 195, 196, 197, 198, 199, 200, 31, 201, 202, 203, 204, 205, 206, 207, 208, 209, 210, 211, 212, 213, 214, 215, 216, 217, 218, 219, 220, 221, 222, 223, 224, 225, 226, 227, 228, 229, 230, 231, 232, 233, 234, 43, 44, 45, 10, 11, 46, 883, 884, 885, 886, 887, 888, 889, 890, 891, 940, 941, 942, 937, 938, 939] rfl (by decide +kernel)
set_option maxRecDepth 20000 in
theorem gL_law_X7_plot : GoodIn wsL_law (wsV RL 23 RX7 yX7_plot wsX7_plot) := goodIn_app (goodIn_of _ (by decide +kernel)) ggL_law_X7_plot
set_option maxRecDepth 20000 in
theorem ggL_law_X8_plot : GoodIn wsL_law wsX8_plot := goodIn_r _ [238, 117, 54, 116, 239, 240, 241, 5, 242, 55, 56, 243, 244, 245, 246, 247, 248, 249, 250, 892, 893, 894, 895, 896, 897, 898, 899, 900, 901, 902, 903, 904, 905, 906, 907, 908, 909, 910, 911, 912, 913, 914, 915, 916, 917, 918, 919, 920, 921, 922, 923, 924, 925, 926, 927, 928, 929, 930, 931, 932, 933, 934, 935, 936] rfl (by decide +kernel)
set_option maxRecDepth 20000 in
theorem gL_law_X8_plot : GoodIn wsL_law (wsV RL 27 RX8 yX8_plot wsX8_plot) := goodIn_app (goodIn_of _ (by decide +kernel)) ggL_law_X8_plot
set_option maxRecDepth 20000 in
theorem ggL_law_X7_ring : GoodIn wsL_law wsX7_ring := goodIn_r _ [254, 255, 256, 257, 2, 258, 15, 150, 125, 126, 127, 14, 128, 129, 151, 152, 153, 154, 155, 156, 157, 158, 159, 160, 161, 162, 163, 164, 165, 166, 32, 259, 260, 261, 23, 262, 49, 47, 48, 138, 139, 140, 141, 263, 264, 265, 266, 940, 941, 942, 883, 884, 885, 886, 887, 888, 889, 890, 891, 937, 938, 939] rfl (by decide +kernel)
set_option maxRecDepth 20000 in
theorem gL_law_X7_ring : GoodIn wsL_law (wsV RL 28 RX7 yX7_ring wsX7_ring) := goodIn_app (goodIn_of _ (by decide +kernel)) ggL_law_X7_ring
set_option maxRecDepth 20000 in
theorem ggL_law_X8_ring : GoodIn wsL_law wsX8_ring := goodIn_r _ [270, 54, 55, 56, 271, 272, 273, 5, 274, 117, 118, 119, 120, 275, 276, 277, 278, 243, 244, 245, 246, 892, 893, 894, 895, 896, 897, 898, 899, 900, 901, 902, 903, 904, 905, 906, 907, 908, 909, 910, 911, 912, 913, 914, 915, 916, 917, 918, 919, 920, 921, 922, 923, 924, 925, 926, 927, 928, 929, 930, 931, 932, 933, 934, 935, 936] rfl (by decide +kernel)
set_option maxRecDepth 20000 in
theorem gL_law_X8_ring : GoodIn wsL_law (wsV RL 31 RX8 yX8_ring wsX8_ring) := goodIn_app (goodIn_of _ (by decide +kernel)) ggL_law_X8_ring
set_option maxRecDepth 20000 in
theorem ggL_law_X7_near : GoodIn wsL_law wsX7_near := goodIn_r _ [282, 255, 256, 257, 2, 258, 15, 150, 125, 126, 127, 14, 128, 129, 151, 152, 153, 154, 155, 156, 157, 158, 159, 160, 161, 162, 163, 164, 165, 166, 32, 105, 106, 107, 283, 284, 285, 23, 286, 287, 288, 289, 290, 49, 47, 48, 291, 292, 293, 294, 138, 139, 140, 141, 295, 296, 297, 298, 883, 884, 885, 886, 887, 888, 889, 890, 891, 937, 938, 939, 940, 941, 942] rfl (by decide +kernel)
set_option maxRecDepth 20000 in
theorem gL_law_X7_near : GoodIn wsL_law (wsV RL 32 RX7 yX7_near wsX7_near) := goodIn_app (goodIn_of _ (by decide +kernel)) ggL_law_X7_near
set_option maxRecDepth 20000 in
theorem ggL_law_X8_near : GoodIn wsL_law wsX8_near := goodIn_r _ [302, 271, 272, 273, 5, 274, 117, 118, 119, 120, 303, 304, 305, 306, 307, 308, 309, 310, 54, 55, 56, 311, 312, 313, 892, 893, 894, 895, 896, 897, 898, 899, 900, 901, 902, 903, 904, 905, 906, 907, 908, 909, 910, 911, 912, 913, 914, 915, 916, 917, 918, 919, 920, 921, 922, 923, 924, 925, 926, 927, 928, 929, 930, 931, 932, 933, 934, 935, 936] rfl (by decide +kernel)
set_option maxRecDepth 20000 in
theorem gL_law_X8_near : GoodIn wsL_law (wsV RL 36 RX8 yX8_near wsX8_near) := goodIn_app (goodIn_of _ (by decide +kernel)) ggL_law_X8_near
set_option maxRecDepth 20000 in
theorem ggL_law_X7_feed : GoodIn wsL_law wsX7_feed := goodIn_r _ [317, 25, 318, 319, 320, 2, 321, 20, 883, 884, 885, 886, 887, 888, 889, 890, 891] rfl (by decide +kernel)
set_option maxRecDepth 20000 in
theorem gL_law_X7_feed : GoodIn wsL_law (wsV RL 37 RX7 yX7_feed wsX7_feed) := goodIn_app (goodIn_of _ (by decide +kernel)) ggL_law_X7_feed
set_option maxRecDepth 20000 in
theorem ggL_law_X8_feed : GoodIn wsL_law wsX8_feed := goodIn_r _ [325, 326, 327, 328, 329, 5, 330, 57, 892, 893, 894, 895, 896, 897, 898, 899, 900, 901, 902, 903, 904, 905, 906, 907, 908, 909, 910, 911, 912, 913, 914, 915, 916, 917, 918, 919, 920, 921, 922, 923, 924, 925, 926, 927, 928, 929, 930, 931, 932, 933, 934, 935, 936] rfl (by decide +kernel)
set_option maxRecDepth 20000 in
theorem gL_law_X8_feed : GoodIn wsL_law (wsV RL 41 RX8 yX8_feed wsX8_feed) := goodIn_app (goodIn_of _ (by decide +kernel)) ggL_law_X8_feed
set_option maxRecDepth 20000 in
theorem ggL_law_X7_adopt : GoodIn wsL_law wsX7_adopt := goodIn_r _ [334, 25, 16, 335, 336, 337, 26, 338, 339, 340, 20, 27, 341, 342, 2, 343, 105, 106, 107, 125, 126, 127, 14, 128, 129, 344, 345, 346, 347, 10, 11, 348, 13, 349, 350, 351, 352, 29, 30, 31, 32, 33, 34, 35, 36, 37, 38, 39, 40, 41, 42, 353, 354, 355, 356, 357, 358, 359, 360, 229, 203, 230, 361, 362, 363, 364, 365, 366, 367, 368, 369, 370, 371, 372, 373, 374, 375, 376, 377, 378, 379, 380, 381, 382, 383, 384, 385, 386, 387, 388, 389, 390, 391, 392, 393, 394, 395, 396, 397, 398, 399, 400, 401, 402, 403, 404, 405, 406, 407, 408, 409, 410, 411, 412, 413, 414, 415, 416, 417, 418, 419, 420, 421, 422, 423, 424, 425, 426, 427, 428, 429, 430, 431, 160, 161, 162, 432, 433, 434, 435, 436, 437, 438, 439, 440, 441, 442, 443, 444, 445, 446, 447, 448, 449, 450, 451, 452, 453, 454, 455, 456, 457, 458, 459, 460, 461, 462, 463, 464, 465, 466, 467, 468, 469, 470, 471, 472, 184, 185, 186, 187, 188, 189, 190, 191, 192, 193, 194, 195, 196, 197, 198, 199, 200, 201, 202, 204, 205, 206, 207, 208, 209, 210, 211, 212, 213, 214, 215, 216, 217, 218, 219, 220, 221, 222, 223, 224, 225, 226, 227, 228, 231, 232, 233, 234, 183, 883, 884, 885, 886, 887, 888, 889, 890, 891, 943, 944, 945, 946, 947, 948, 949, 937, 938, 939, 950, 951, 952, 953, 954, 955] rfl (by decide +kernel)
set_option maxRecDepth 20000 in
theorem gL_law_X7_adopt : GoodIn wsL_law (wsV RL 42 RX7 yX7_adopt wsX7_adopt) := goodIn_app (goodIn_of _ (by decide +kernel)) ggL_law_X7_adopt
