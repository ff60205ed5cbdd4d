set_option maxRecDepth 20000 in
theorem ggL_law_X9_least : GoodIn wsL_law wsX9_least := goodIn_r _ [211, 165, 87, 162, 163, 5, 164, 166, 167, 168, 173, 174, 175, 176, 88, 90, 89, 177, 178, 179, 180, 181, 182, 183, 882, 883, 884, 885, 886, 887, 888, 889, 890, 891, 892, 893, 894, 895, 896, 897, 898, 899, 900, 901, 902, 903, 904, 905, 906, 907, 908, 909, 910, 911, 912, 913, 914, 915, 916, 917, 918] (by decide +kernel) (by decide +kernel)
set_option maxRecDepth 20000 in
theorem gL_law_X9_least : GoodIn wsL_law (wsV RL 30 RX9 yX9_least wsX9_least) := goodIn_app (goodIn_of _ (by decide +kernel)) ggL_law_X9_least
set_option maxRecDepth 20000 in
theorem ggL_law_X8_parts : GoodIn wsL_law wsX8_parts := goodIn_r _ [215, 16, 132, 133, 2, 134, 129, 130, 131, 135, 136, 137, 15, 138, 51, 49, 139, 140, 141, 142, 143, 144, 145, 146, 147, 148, 149, 50, 150, 151, 152, 153, 154, 155, 156, 157, 216, 217, 218, 869, 870, 871, 872, 873, 874, 875, 876, 877, 878, 879, 880, 881, 919, 920, 921] (by decide +kernel) (by decide +kernel)
set_option maxRecDepth 20000 in
theorem gL_law_X8_parts : GoodIn wsL_law (wsV RL 31 RX8 yX8_parts wsX8_parts) := goodIn_app (goodIn_of _ (by decide +kernel)) ggL_law_X8_parts
set_option maxRecDepth 20000 in
theorem ggL_law_X9_parts : GoodIn wsL_law wsX9_parts := goodIn_r _ [222, 223, 169, 170, 5, 171, 172, 166, 167, 168, 173, 174, 175, 176, 88, 90, 89, 177, 178, 179, 180, 181, 182, 183, 882, 883, 884, 885, 886, 887, 888, 889, 890, 891, 892, 893, 894, 895, 896, 897, 898, 899, 900, 901, 902, 903, 904, 905, 906, 907, 908, 909, 910, 911, 912, 913, 914, 915, 916, 917, 918] (by decide +kernel) (by decide +kernel)
set_option maxRecDepth 20000 in
theorem gL_law_X9_parts : GoodIn wsL_law (wsV RL 34 RX9 yX9_parts wsX9_parts) := goodIn_app (goodIn_of _ (by decide +kernel)) ggL_law_X9_parts
set_option maxRecDepth 20000 in
theorem ggL_law_X8_probe : GoodIn wsL_law wsX8_probe := goodIn_r _ [227, 18, 228, 229, 230, 2, 231, 45, 129, 130, 131, 232, 233, 234, 235, 236, 237, 44, 238, 81, 239, 240, 241, 242, 80, 243, 244, 245, 246, 247, 248, 249, 250, 82, 132, 133, 134, 251, 252, 253, 254, 255, 256, 257, 258, 16, 19, 135, 136, 137, 15, 138, 51, 49, 139, 140, 141, 142, 143, 144, 145, 146, 147, 148, 149, 50, 150, 151, 152, 153, 154, 155, 156, 157, 216, 217, 218, 869, 870, 871, 872, 873, 874, 875, 876, 877, 878, 879, 880, 881, 934, 935, 936, 919, 920, 921] (by decide +kernel) (by decide +kernel)
set_option maxRecDepth 20000 in
theorem gL_law_X8_probe : GoodIn wsL_law (wsV RL 35 RX8 yX8_probe wsX8_probe) := goodIn_app (goodIn_of _ (by decide +kernel)) ggL_law_X8_probe
set_option maxRecDepth 20000 in
theorem ggL_law_X9_probe : GoodIn wsL_law wsX9_probe := goodIn_r _ [262, 223, 263, 113, 166, 167, 5, 168, 264, 265, 266, 267, 268, 269, 270, 194, 271, 272, 273, 274, 111, 112, 169, 170, 171, 172, 275, 276, 277, 278, 91, 173, 174, 175, 176, 88, 90, 89, 177, 178, 179, 180, 181, 182, 183, 882, 883, 884, 885, 886, 887, 888, 889, 890, 891, 892, 893, 894, 895, 896, 897, 898, 899, 900, 901, 902, 903, 904, 905, 906, 907, 908, 909, 910, 911, 912, 913, 914, 915, 916, 917, 918] (by decide +kernel) (by decide +kernel)
set_option maxRecDepth 20000 in
theorem gL_law_X9_probe : GoodIn wsL_law (wsV RL 39 RX9 yX9_probe wsX9_probe) := goodIn_app (goodIn_of _ (by decide +kernel)) ggL_law_X9_probe
set_option maxRecDepth 20000 in
theorem ggL_law_X8_learner : GoodIn wsL_law wsX8_learner := goodIn_r _ [282, 22, 21, 20, 283, 284, 285, 286, 287, 11, 12, 288, 289, 290, 291, 292, 293, 17, 294, 96, 295, 296, 297, 298, 299, 300, 301, 302, 303, 304, 305, 306, 307, 308, 869, 870, 871, 872, 873, 874, 875, 876, 877, 878, 879, 880, 881, 937, 938, 939, 940, 941, 942, 943, 944, 945, 946] (by decide +kernel) (by decide +kernel)
set_option maxRecDepth 20000 in
theorem gL_law_X8_learner : GoodIn wsL_law (wsV RL 40 RX8 yX8_learner wsX8_learner) := goodIn_app (goodIn_of _ (by decide +kernel)) ggL_law_X8_learner
set_option maxRecDepth 20000 in
theorem ggL_law_X9_learner : GoodIn wsL_law wsX9_learner := goodIn_r _ [312, 313, 92, 882, 883, 884, 885, 886, 887, 888, 889, 890, 891, 892, 893, 894, 895, 896, 897, 898, 899, 900, 901, 902, 903, 904, 905, 906, 907, 908, 909, 910, 911, 912, 913, 914, 915, 916, 917, 918] (by decide +kernel) (by decide +kernel)
set_option maxRecDepth 20000 in
theorem gL_law_X9_learner : GoodIn wsL_law (wsV RL 44 RX9 yX9_learner wsX9_learner) := goodIn_app (goodIn_of _ (by decide +kernel)) ggL_law_X9_learner
set_option maxRecDepth 20000 in
theorem ggL_law_X8_answer : GoodIn wsL_law wsX8_answer := goodIn_r _ [317, 16, 318, 319, 320, 2, 321, 22, 21, 129, 130, 131, 123, 124, 125, 126, 127, 128, 322, 323, 324, 284, 325, 288, 294, 295, 296, 289, 326, 327, 216, 217, 218, 328, 329, 330, 331, 297, 332, 333, 334, 335, 336, 337, 338, 339, 136, 137, 15, 138, 51, 49, 139, 140, 141, 142, 143, 144, 145, 146, 147, 148, 149, 50, 150, 151, 152, 153, 154, 155, 156, 157, 869, 870, 871, 872, 873, 874, 875, 876, 877, 878, 879, 880, 881, 937, 938, 939, 940, 941, 942, 943, 919, 920, 921] (by decide +kernel) (by decide +kernel)
set_option maxRecDepth 20000 in
theorem gL_law_X8_answer : GoodIn wsL_law (wsV RL 45 RX8 yX8_answer wsX8_answer) := goodIn_app (goodIn_of _ (by decide +kernel)) ggL_law_X8_answer
set_option maxRecDepth 20000 in
theorem ggL_law_X9_answer : GoodIn wsL_law wsX9_answer := goodIn_r _ [343, 165, 92, 344, 345, 346, 5, 347, 313, 166, 167, 168, 162, 163, 164, 348, 349, 350, 351, 93, 94, 95, 97, 882, 883, 884, 885, 886, 887, 888, 889, 890, 891, 892, 893, 894, 895, 896, 897, 898, 899, 900, 901, 902, 903, 904, 905, 906, 907, 908, 909, 910, 911, 912, 913, 914, 915, 916, 917, 918] (by decide +kernel) (by decide +kernel)
set_option maxRecDepth 20000 in
theorem gL_law_X9_answer : GoodIn wsL_law (wsV RL 48 RX9 yX9_answer wsX9_answer) := goodIn_app (goodIn_of _ (by decide +kernel)) ggL_law_X9_answer
