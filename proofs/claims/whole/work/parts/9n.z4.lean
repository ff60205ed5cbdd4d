set_option maxRecDepth 20000 in
theorem ggL_law_X8_type : GoodIn wsL_law wsX8_type := goodIn_r _ [521, 32, 522, 129, 130, 2, 131, 523, 524, 525, 526, 527, 528, 31, 529, 61, 63, 869, 870, 871, 872, 873, 874, 875, 876, 877, 878, 879, 880, 881, 925, 926, 927] (by decide +kernel) (by decide +kernel)
set_option maxRecDepth 20000 in
theorem gL_law_X8_type : GoodIn wsL_law (wsV RL 90 RX8 yX8_type wsX8_type) := goodIn_app (goodIn_of _ (by decide +kernel)) ggL_law_X8_type
set_option maxRecDepth 20000 in
theorem ggL_law_X9_type : GoodIn wsL_law wsX9_type := goodIn_r _ [533, 534, 172, 535, 536, 537, 99, 166, 167, 5, 168, 882, 883, 884, 885, 886, 887, 888, 889, 890, 891, 892, 893, 894, 895, 896, 897, 898, 899, 900, 901, 902, 903, 904, 905, 906, 907, 908, 909, 910, 911, 912, 913, 914, 915, 916, 917, 918] (by decide +kernel) (by decide +kernel)
set_option maxRecDepth 20000 in
theorem gL_law_X9_type : GoodIn wsL_law (wsV RL 94 RX9 yX9_type wsX9_type) := goodIn_app (goodIn_of _ (by decide +kernel)) ggL_law_X9_type
set_option maxRecDepth 20000 in
theorem ggL_law_X8_skills : GoodIn wsL_law wsX8_skills := goodIn_r _ [541, 32, 37, 522, 36, 22, 21, 542, 543, 544, 545, 31, 546, 64, 547, 548, 549, 35, 550, 68, 69, 70, 551, 552, 553, 554, 555, 556, 557, 558, 559, 560, 561, 562, 563, 564, 565, 61, 63, 130, 2, 131, 566, 567, 568, 569, 570, 571, 572, 573, 574, 575, 576, 577, 578, 155, 156, 157, 579, 580, 581, 582, 306, 292, 307, 308, 302, 303, 304, 869, 870, 871, 872, 873, 874, 875, 876, 877, 878, 879, 880, 881, 925, 926, 927, 937, 938, 939, 940, 941, 942, 943, 928, 929, 930, 944, 945, 946] (by decide +kernel) (by decide +kernel)
set_option maxRecDepth 20000 in
theorem gL_law_X8_skills : GoodIn wsL_law (wsV RL 95 RX8 yX8_skills wsX8_skills) := goodIn_app (goodIn_of _ (by decide +kernel)) ggL_law_X8_skills
set_option maxRecDepth 20000 in
theorem ggL_law_X9_skills : GoodIn wsL_law wsX9_skills := goodIn_r _ [586, 587, 588, 589, 537, 590, 100, 103, 101, 104, 102, 105, 106, 107, 108, 591, 592, 593, 5, 594, 595, 596, 597, 598, 599, 600, 601, 602, 603, 99, 166, 167, 168, 604, 605, 606, 607, 608, 609, 610, 611, 612, 613, 882, 883, 884, 885, 886, 887, 888, 889, 890, 891, 892, 893, 894, 895, 896, 897, 898, 899, 900, 901, 902, 903, 904, 905, 906, 907, 908, 909, 910, 911, 912, 913, 914, 915, 916, 917, 918] (by decide +kernel) (by decide +kernel)
set_option maxRecDepth 20000 in
theorem gL_law_X9_skills : GoodIn wsL_law (wsV RL 98 RX9 yX9_skills wsX9_skills) := goodIn_app (goodIn_of _ (by decide +kernel)) ggL_law_X9_skills
set_option maxRecDepth 20000 in
theorem ggL_law_X8_skill : GoodIn wsL_law wsX8_skill := goodIn_r _ [617, 36, 618, 619, 620, 621, 567, 568, 35, 569, 68, 130, 2, 131, 129, 869, 870, 871, 872, 873, 874, 875, 876, 877, 878, 879, 880, 881, 928, 929, 930] (by decide +kernel) (by decide +kernel)
set_option maxRecDepth 20000 in
theorem gL_law_X8_skill : GoodIn wsL_law (wsV RL 99 RX8 yX8_skill wsX8_skill) := goodIn_app (goodIn_of _ (by decide +kernel)) ggL_law_X8_skill
set_option maxRecDepth 20000 in
theorem ggL_law_X9_skill : GoodIn wsL_law wsX9_skill := goodIn_r _ [625, 194, 100, 101, 102, 626, 627, 628, 5, 629, 599, 590, 166, 167, 168, 882, 883, 884, 885, 886, 887, 888, 889, 890, 891, 892, 893, 894, 895, 896, 897, 898, 899, 900, 901, 902, 903, 904, 905, 906, 907, 908, 909, 910, 911, 912, 913, 914, 915, 916, 917, 918] (by decide +kernel) (by decide +kernel)
set_option maxRecDepth 20000 in
theorem gL_law_X9_skill : GoodIn wsL_law (wsV RL 102 RX9 yX9_skill wsX9_skill) := goodIn_app (goodIn_of _ (by decide +kernel)) ggL_law_X9_skill
set_option maxRecDepth 20000 in
theorem ggL_law_X8_exercise : GoodIn wsL_law wsX8_exercise := goodIn_r _ [633, 36, 542, 634, 318, 319, 320, 2, 321, 22, 21, 129, 130, 131, 621, 567, 568, 35, 569, 68, 635, 636, 637, 638, 639, 640, 292, 641, 302, 303, 304, 642, 155, 156, 157, 643, 429, 430, 869, 870, 871, 872, 873, 874, 875, 876, 877, 878, 879, 880, 881, 937, 938, 939, 940, 941, 942, 943, 944, 945, 946, 928, 929, 930] (by decide +kernel) (by decide +kernel)
set_option maxRecDepth 20000 in
theorem gL_law_X8_exercise : GoodIn wsL_law (wsV RL 103 RX8 yX8_exercise wsX8_exercise) := goodIn_app (goodIn_of _ (by decide +kernel)) ggL_law_X8_exercise
set_option maxRecDepth 20000 in
theorem ggL_law_X9_exercise : GoodIn wsL_law wsX9_exercise := goodIn_r _ [647, 107, 106, 108, 344, 345, 346, 5, 347, 313, 166, 167, 168, 626, 627, 628, 629, 599, 590, 648, 649, 650, 651, 882, 883, 884, 885, 886, 887, 888, 889, 890, 891, 892, 893, 894, 895, 896, 897, 898, 899, 900, 901, 902, 903, 904, 905, 906, 907, 908, 909, 910, 911, 912, 913, 914, 915, 916, 917, 918] (by decide +kernel) (by decide +kernel)
set_option maxRecDepth 20000 in
theorem gL_law_X9_exercise : GoodIn wsL_law (wsV RL 107 RX9 yX9_exercise wsX9_exercise) := goodIn_app (goodIn_of _ (by decide +kernel)) ggL_law_X9_exercise
set_option maxRecDepth 20000 in
theorem ggL_law_X8_odds : GoodIn wsL_law wsX8_odds := goodIn_r _ [655, 36, 542, 634, 318, 319, 320, 2, 321, 22, 21, 129, 130, 131, 621, 567, 568, 35, 569, 68, 635, 636, 637, 656, 657, 658, 292, 659, 304, 302, 303, 869, 870, 871, 872, 873, 874, 875, 876, 877, 878, 879, 880, 881, 937, 938, 939, 940, 941, 942, 943, 944, 945, 946, 928, 929, 930] (by decide +kernel) (by decide +kernel)
set_option maxRecDepth 20000 in
theorem gL_law_X8_odds : GoodIn wsL_law (wsV RL 108 RX8 yX8_odds wsX8_odds) := goodIn_app (goodIn_of _ (by decide +kernel)) ggL_law_X8_odds
