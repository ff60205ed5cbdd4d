set_option maxRecDepth 20000 in
theorem ggL_law_X8_answers : GoodIn wsL_law wsX8_answers := goodIn_r _ [355, 356, 16, 318, 319, 320, 2, 321, 22, 21, 129, 130, 131, 228, 229, 230, 231, 45, 232, 233, 234, 235, 236, 237, 44, 238, 81, 239, 240, 241, 242, 80, 243, 244, 245, 246, 247, 248, 249, 250, 82, 123, 124, 125, 126, 127, 128, 322, 323, 324, 284, 325, 288, 294, 295, 296, 289, 326, 327, 216, 217, 218, 328, 329, 330, 331, 297, 332, 333, 334, 335, 336, 337, 338, 339, 136, 137, 15, 138, 51, 49, 139, 140, 141, 142, 143, 144, 145, 146, 147, 148, 149, 50, 150, 151, 152, 153, 154, 155, 156, 157, 937, 938, 939, 940, 941, 942, 943, 869, 870, 871, 872, 873, 874, 875, 876, 877, 878, 879, 880, 881, 934, 935, 936, 919, 920, 921] (by decide +kernel) (by decide +kernel)
set_option maxRecDepth 20000 in
theorem gL_law_X8_answers : GoodIn wsL_law (wsV RL 49 RX8 yX8_answers wsX8_answers) := goodIn_app (goodIn_of _ (by decide +kernel)) ggL_law_X8_answers
set_option maxRecDepth 20000 in
theorem ggL_law_X9_answers : GoodIn wsL_law wsX9_answers := goodIn_r _ [360, 361, 113, 165, 92, 344, 345, 346, 5, 347, 313, 166, 167, 168, 264, 265, 266, 267, 268, 269, 270, 194, 271, 272, 273, 274, 111, 112, 162, 163, 164, 348, 349, 350, 351, 93, 94, 95, 97, 882, 883, 884, 885, 886, 887, 888, 889, 890, 891, 892, 893, 894, 895, 896, 897, 898, 899, 900, 901, 902, 903, 904, 905, 906, 907, 908, 909, 910, 911, 912, 913, 914, 915, 916, 917, 918] (by decide +kernel) (by decide +kernel)
set_option maxRecDepth 20000 in
theorem gL_law_X9_answers : GoodIn wsL_law (wsV RL 52 RX9 yX9_answers wsX9_answers) := goodIn_app (goodIn_of _ (by decide +kernel)) ggL_law_X9_answers
set_option maxRecDepth 20000 in
theorem ggL_law_X8_aside : GoodIn wsL_law wsX8_aside := goodIn_r _ [365, 356, 16, 318, 319, 320, 2, 321, 22, 21, 129, 130, 131, 366, 367, 368, 284, 369, 295, 289, 328, 329, 330, 331, 294, 297, 332, 333, 334, 335, 336, 337, 338, 339, 136, 137, 15, 138, 51, 49, 139, 140, 141, 142, 143, 144, 145, 146, 147, 148, 149, 50, 150, 151, 152, 153, 154, 155, 156, 157, 937, 938, 939, 940, 941, 942, 943, 869, 870, 871, 872, 873, 874, 875, 876, 877, 878, 879, 880, 881, 919, 920, 921] (by decide +kernel) (by decide +kernel)
set_option maxRecDepth 20000 in
theorem gL_law_X8_aside : GoodIn wsL_law (wsV RL 53 RX8 yX8_aside wsX8_aside) := goodIn_app (goodIn_of _ (by decide +kernel)) ggL_law_X8_aside
set_option maxRecDepth 20000 in
theorem ggL_law_X9_aside : GoodIn wsL_law wsX9_aside := goodIn_r _ [373, 92, 97, 344, 345, 346, 5, 347, 313, 166, 167, 168, 882, 883, 884, 885, 886, 887, 888, 889, 890, 891, 892, 893, 894, 895, 896, 897, 898, 899, 900, 901, 902, 903, 904, 905, 906, 907, 908, 909, 910, 911, 912, 913, 914, 915, 916, 917, 918] (by decide +kernel) (by decide +kernel)
set_option maxRecDepth 20000 in
theorem gL_law_X9_aside : GoodIn wsL_law (wsV RL 57 RX9 yX9_aside wsX9_aside) := goodIn_app (goodIn_of _ (by decide +kernel)) ggL_law_X9_aside
set_option maxRecDepth 20000 in
theorem ggL_law_X8_set : GoodIn wsL_law wsX8_set := goodIn_r _ [377, 23, 378, 379, 129, 130, 2, 131, 869, 870, 871, 872, 873, 874, 875, 876, 877, 878, 879, 880, 881] (by decide +kernel) (by decide +kernel)
set_option maxRecDepth 20000 in
theorem gL_law_X8_set : GoodIn wsL_law (wsV RL 58 RX8 yX8_set wsX8_set) := goodIn_app (goodIn_of _ (by decide +kernel)) ggL_law_X8_set
set_option maxRecDepth 20000 in
theorem ggL_law_X9_set : GoodIn wsL_law wsX9_set := goodIn_r _ [383, 384, 385, 165, 386, 98, 166, 167, 5, 168, 882, 883, 884, 885, 886, 887, 888, 889, 890, 891, 892, 893, 894, 895, 896, 897, 898, 899, 900, 901, 902, 903, 904, 905, 906, 907, 908, 909, 910, 911, 912, 913, 914, 915, 916, 917, 918] (by decide +kernel) (by decide +kernel)
set_option maxRecDepth 20000 in
theorem gL_law_X9_set : GoodIn wsL_law (wsV RL 62 RX9 yX9_set wsX9_set) := goodIn_app (goodIn_of _ (by decide +kernel)) ggL_law_X9_set
set_option maxRecDepth 20000 in
theorem ggL_law_X8_points : GoodIn wsL_law wsX8_points := goodIn_r _ [390, 391, 23, 318, 319, 320, 2, 321, 22, 21, 129, 130, 131, 392, 393, 394, 199, 395, 396, 397, 284, 398, 297, 289, 399, 400, 401, 402, 403, 404, 405, 869, 870, 871, 872, 873, 874, 875, 876, 877, 878, 879, 880, 881, 937, 938, 939, 940, 941, 942, 943] (by decide +kernel) (by decide +kernel)
set_option maxRecDepth 20000 in
theorem gL_law_X8_points : GoodIn wsL_law (wsV RL 63 RX8 yX8_points wsX8_points) := goodIn_app (goodIn_of _ (by decide +kernel)) ggL_law_X8_points
set_option maxRecDepth 20000 in
theorem ggL_law_X9_points : GoodIn wsL_law wsX9_points := goodIn_r _ [409, 410, 344, 345, 346, 5, 347, 313, 166, 167, 168, 169, 170, 171, 172, 116, 117, 118, 411, 412, 413, 414, 98, 92, 93, 94, 95, 97, 173, 174, 175, 176, 88, 90, 89, 177, 178, 179, 180, 181, 182, 183, 882, 883, 884, 885, 886, 887, 888, 889, 890, 891, 892, 893, 894, 895, 896, 897, 898, 899, 900, 901, 902, 903, 904, 905, 906, 907, 908, 909, 910, 911, 912, 913, 914, 915, 916, 917, 918] (by decide +kernel) (by decide +kernel)
set_option maxRecDepth 20000 in
theorem gL_law_X9_points : GoodIn wsL_law (wsV RL 66 RX9 yX9_points wsX9_points) := goodIn_app (goodIn_of _ (by decide +kernel)) ggL_law_X9_points
set_option maxRecDepth 20000 in
theorem ggL_law_X8_guess : GoodIn wsL_law wsX8_guess := goodIn_r _ [418, 23, 199, 318, 319, 320, 2, 321, 22, 21, 129, 130, 131, 419, 420, 421, 284, 422, 423, 396, 397, 398, 297, 289, 399, 400, 401, 402, 403, 404, 405, 424, 425, 426, 427, 428, 429, 156, 430, 869, 870, 871, 872, 873, 874, 875, 876, 877, 878, 879, 880, 881, 937, 938, 939, 940, 941, 942, 943] (by decide +kernel) (by decide +kernel)
set_option maxRecDepth 20000 in
theorem gL_law_X8_guess : GoodIn wsL_law (wsV RL 67 RX8 yX8_guess wsX8_guess) := goodIn_app (goodIn_of _ (by decide +kernel)) ggL_law_X8_guess
