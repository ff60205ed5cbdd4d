set_option maxRecDepth 20000 in
theorem ggL_law_X9_guess : GoodIn wsL_law wsX9_guess := goodIn_r _ [434, 435, 98, 344, 345, 346, 5, 347, 313, 166, 167, 168, 436, 437, 438, 439, 87, 440, 411, 412, 413, 414, 92, 93, 94, 95, 97, 116, 117, 118, 173, 174, 175, 176, 88, 90, 89, 177, 178, 179, 180, 181, 182, 183, 882, 883, 884, 885, 886, 887, 888, 889, 890, 891, 892, 893, 894, 895, 896, 897, 898, 899, 900, 901, 902, 903, 904, 905, 906, 907, 908, 909, 910, 911, 912, 913, 914, 915, 916, 917, 918] (by decide +kernel) (by decide +kernel)
set_option maxRecDepth 20000 in
theorem gL_law_X9_guess : GoodIn wsL_law (wsV RL 71 RX9 yX9_guess wsX9_guess) := goodIn_app (goodIn_of _ (by decide +kernel)) ggL_law_X9_guess
set_option maxRecDepth 20000 in
theorem ggL_law_X8_lead : GoodIn wsL_law wsX8_lead := goodIn_r _ [444, 23, 318, 319, 320, 2, 321, 22, 21, 129, 130, 131, 419, 420, 421, 284, 422, 423, 396, 397, 398, 297, 289, 399, 400, 401, 402, 403, 404, 405, 424, 425, 426, 427, 428, 429, 156, 430, 869, 870, 871, 872, 873, 874, 875, 876, 877, 878, 879, 880, 881, 937, 938, 939, 940, 941, 942, 943] (by decide +kernel) (by decide +kernel)
set_option maxRecDepth 20000 in
theorem gL_law_X8_lead : GoodIn wsL_law (wsV RL 72 RX8 yX8_lead wsX8_lead) := goodIn_app (goodIn_of _ (by decide +kernel)) ggL_law_X8_lead
set_option maxRecDepth 20000 in
theorem ggL_law_X9_lead : GoodIn wsL_law wsX9_lead := goodIn_r _ [448, 435, 344, 345, 346, 5, 347, 313, 166, 167, 168, 436, 437, 438, 439, 87, 440, 411, 412, 413, 414, 98, 92, 93, 94, 95, 97, 116, 117, 118, 173, 174, 175, 176, 88, 90, 89, 177, 178, 179, 180, 181, 182, 183, 882, 883, 884, 885, 886, 887, 888, 889, 890, 891, 892, 893, 894, 895, 896, 897, 898, 899, 900, 901, 902, 903, 904, 905, 906, 907, 908, 909, 910, 911, 912, 913, 914, 915, 916, 917, 918] (by decide +kernel) (by decide +kernel)
set_option maxRecDepth 20000 in
theorem gL_law_X9_lead : GoodIn wsL_law (wsV RL 75 RX9 yX9_lead wsX9_lead) := goodIn_app (goodIn_of _ (by decide +kernel)) ggL_law_X9_lead
set_option maxRecDepth 20000 in
theorem ggL_law_X8_count : GoodIn wsL_law wsX8_count := goodIn_r _ [452, 356, 453, 318, 319, 320, 2, 321, 22, 21, 129, 130, 131, 454, 455, 456, 284, 457, 297, 458, 459, 460, 461, 288, 296, 295, 937, 938, 939, 940, 941, 942, 943, 869, 870, 871, 872, 873, 874, 875, 876, 877, 878, 879, 880, 881] (by decide +kernel) (by decide +kernel)
set_option maxRecDepth 20000 in
theorem gL_law_X8_count : GoodIn wsL_law (wsV RL 76 RX8 yX8_count wsX8_count) := goodIn_app (goodIn_of _ (by decide +kernel)) ggL_law_X8_count
set_option maxRecDepth 20000 in
theorem ggL_law_X9_count : GoodIn wsL_law wsX9_count := goodIn_r _ [465, 267, 92, 97, 95, 93, 94, 344, 345, 346, 5, 347, 313, 166, 167, 168, 466, 467, 468, 469, 87, 173, 174, 175, 176, 88, 90, 89, 177, 178, 179, 180, 181, 182, 183, 882, 883, 884, 885, 886, 887, 888, 889, 890, 891, 892, 893, 894, 895, 896, 897, 898, 899, 900, 901, 902, 903, 904, 905, 906, 907, 908, 909, 910, 911, 912, 913, 914, 915, 916, 917, 918] (by decide +kernel) (by decide +kernel)
set_option maxRecDepth 20000 in
theorem gL_law_X9_count : GoodIn wsL_law (wsV RL 79 RX9 yX9_count wsX9_count) := goodIn_app (goodIn_of _ (by decide +kernel)) ggL_law_X9_count
set_option maxRecDepth 20000 in
theorem ggL_law_X8_strange : GoodIn wsL_law wsX8_strange := goodIn_r _ [473, 27, 22, 21, 474, 129, 130, 2, 131, 475, 476, 477, 26, 478, 57, 479, 480, 481, 284, 482, 288, 296, 295, 294, 483, 484, 485, 486, 56, 487, 488, 489, 490, 55, 491, 332, 333, 334, 492, 335, 336, 493, 337, 338, 869, 870, 871, 872, 873, 874, 875, 876, 877, 878, 879, 880, 881, 922, 923, 924, 937, 938, 939, 940, 941, 942, 943] (by decide +kernel) (by decide +kernel)
set_option maxRecDepth 20000 in
theorem gL_law_X8_strange : GoodIn wsL_law (wsV RL 80 RX8 yX8_strange wsX8_strange) := goodIn_app (goodIn_of _ (by decide +kernel)) ggL_law_X8_strange
set_option maxRecDepth 20000 in
theorem ggL_law_X9_strange : GoodIn wsL_law wsX9_strange := goodIn_r _ [497, 267, 92, 313, 97, 93, 94, 95, 166, 167, 5, 168, 466, 467, 468, 469, 87, 173, 174, 175, 176, 88, 90, 89, 177, 178, 179, 180, 181, 182, 183, 498, 499, 500, 501, 502, 503, 882, 883, 884, 885, 886, 887, 888, 889, 890, 891, 892, 893, 894, 895, 896, 897, 898, 899, 900, 901, 902, 903, 904, 905, 906, 907, 908, 909, 910, 911, 912, 913, 914, 915, 916, 917, 918] (by decide +kernel) (by decide +kernel)
set_option maxRecDepth 20000 in
theorem gL_law_X9_strange : GoodIn wsL_law (wsV RL 83 RX9 yX9_strange wsX9_strange) := goodIn_app (goodIn_of _ (by decide +kernel)) ggL_law_X9_strange
set_option maxRecDepth 20000 in
theorem ggL_law_X8_hint : GoodIn wsL_law wsX8_hint := goodIn_r _ [507, 508, 28, 123, 124, 2, 125, 126, 127, 128, 129, 130, 131, 216, 217, 218, 509, 510, 511, 869, 870, 871, 872, 873, 874, 875, 876, 877, 878, 879, 880, 881] (by decide +kernel) (by decide +kernel)
set_option maxRecDepth 20000 in
theorem gL_law_X8_hint : GoodIn wsL_law (wsV RL 84 RX8 yX8_hint wsX8_hint) := goodIn_app (goodIn_of _ (by decide +kernel)) ggL_law_X8_hint
set_option maxRecDepth 20000 in
theorem ggL_law_X9_hint : GoodIn wsL_law wsX9_hint := goodIn_r _ [515, 194, 516, 385, 115, 517, 162, 163, 5, 164, 165, 166, 167, 168, 177, 178, 179, 882, 883, 884, 885, 886, 887, 888, 889, 890, 891, 892, 893, 894, 895, 896, 897, 898, 899, 900, 901, 902, 903, 904, 905, 906, 907, 908, 909, 910, 911, 912, 913, 914, 915, 916, 917, 918] (by decide +kernel) (by decide +kernel)
set_option maxRecDepth 20000 in
theorem gL_law_X9_hint : GoodIn wsL_law (wsV RL 87 RX9 yX9_hint wsX9_hint) := goodIn_app (goodIn_of _ (by decide +kernel)) ggL_law_X9_hint
