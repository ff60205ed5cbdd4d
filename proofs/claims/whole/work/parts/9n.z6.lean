set_option maxRecDepth 20000 in
theorem ggL_law_X8_by : GoodIn wsL_law wsX8_by := goodIn_r _ [744, 391, 41, 745, 746, 747, 156, 748, 129, 130, 2, 131, 749, 750, 751, 40, 752, 753, 754, 755, 756, 74, 75, 757, 758, 759, 760, 761, 76, 762, 763, 764, 869, 870, 871, 872, 873, 874, 875, 876, 877, 878, 879, 880, 881, 931, 932, 933] (by decide +kernel) (by decide +kernel)
set_option maxRecDepth 20000 in
theorem gL_law_X8_by : GoodIn wsL_law (wsV RL 128 RX8 yX8_by wsX8_by) := goodIn_app (goodIn_of _ (by decide +kernel)) ggL_law_X8_by
set_option maxRecDepth 20000 in
theorem ggL_law_X9_by : GoodIn wsL_law wsX9_by := goodIn_r _ [768, 410, 769, 166, 167, 5, 168, 770, 771, 772, 773, 774, 775, 776, 777, 731, 109, 778, 779, 780, 781, 110, 782, 783, 784, 882, 883, 884, 885, 886, 887, 888, 889, 890, 891, 892, 893, 894, 895, 896, 897, 898, 899, 900, 901, 902, 903, 904, 905, 906, 907, 908, 909, 910, 911, 912, 913, 914, 915, 916, 917, 918] (by decide +kernel) (by decide +kernel)
set_option maxRecDepth 20000 in
theorem gL_law_X9_by : GoodIn wsL_law (wsV RL 131 RX9 yX9_by wsX9_by) := goodIn_app (goodIn_of _ (by decide +kernel)) ggL_law_X9_by
set_option maxRecDepth 20000 in
theorem ggL_law_X8_share : GoodIn wsL_law wsX8_share := goodIn_r _ [788, 41, 749, 750, 751, 40, 752, 753, 754, 755, 756, 74, 75, 789, 790, 791, 792, 793, 759, 760, 761, 76, 794, 400, 401, 402, 403, 404, 405, 795, 796, 797, 798, 869, 870, 871, 872, 873, 874, 875, 876, 877, 878, 879, 880, 881, 931, 932, 933] (by decide +kernel) (by decide +kernel)
set_option maxRecDepth 20000 in
theorem gL_law_X8_share : GoodIn wsL_law (wsV RL 132 RX8 yX8_share wsX8_share) := goodIn_app (goodIn_of _ (by decide +kernel)) ggL_law_X8_share
set_option maxRecDepth 20000 in
theorem ggL_law_X9_share : GoodIn wsL_law wsX9_share := goodIn_r _ [802, 770, 771, 772, 5, 773, 774, 775, 776, 777, 731, 109, 803, 804, 805, 806, 110, 778, 779, 780, 781, 116, 117, 118, 882, 883, 884, 885, 886, 887, 888, 889, 890, 891, 892, 893, 894, 895, 896, 897, 898, 899, 900, 901, 902, 903, 904, 905, 906, 907, 908, 909, 910, 911, 912, 913, 914, 915, 916, 917, 918] (by decide +kernel) (by decide +kernel)
set_option maxRecDepth 20000 in
theorem gL_law_X9_share : GoodIn wsL_law (wsV RL 135 RX9 yX9_share wsX9_share) := goodIn_app (goodIn_of _ (by decide +kernel)) ggL_law_X9_share
set_option maxRecDepth 20000 in
theorem ggL_law_X8_verdict : GoodIn wsL_law wsX8_verdict := goodIn_r _ [810, 41, 23, 749, 750, 751, 40, 752, 753, 754, 755, 756, 74, 75, 789, 790, 791, 792, 793, 759, 760, 761, 76, 794, 400, 401, 402, 403, 404, 405, 795, 796, 797, 798, 869, 870, 871, 872, 873, 874, 875, 876, 877, 878, 879, 880, 881, 931, 932, 933] (by decide +kernel) (by decide +kernel)
set_option maxRecDepth 20000 in
theorem gL_law_X8_verdict : GoodIn wsL_law (wsV RL 136 RX8 yX8_verdict wsX8_verdict) := goodIn_app (goodIn_of _ (by decide +kernel)) ggL_law_X8_verdict
set_option maxRecDepth 20000 in
theorem ggL_law_X9_verdict : GoodIn wsL_law wsX9_verdict := goodIn_r _ [814, 98, 770, 771, 772, 5, 773, 774, 775, 776, 777, 731, 109, 803, 804, 805, 806, 110, 778, 779, 780, 781, 116, 117, 118, 882, 883, 884, 885, 886, 887, 888, 889, 890, 891, 892, 893, 894, 895, 896, 897, 898, 899, 900, 901, 902, 903, 904, 905, 906, 907, 908, 909, 910, 911, 912, 913, 914, 915, 916, 917, 918] (by decide +kernel) (by decide +kernel)
set_option maxRecDepth 20000 in
theorem gL_law_X9_verdict : GoodIn wsL_law (wsV RL 139 RX9 yX9_verdict wsX9_verdict) := goodIn_app (goodIn_of _ (by decide +kernel)) ggL_law_X9_verdict
set_option maxRecDepth 20000 in
theorem ggL_law_X8_sheet : GoodIn wsL_law wsX8_sheet := goodIn_r _ [818, 228, 229, 230, 2, 231, 45, 129, 130, 131, 232, 233, 234, 819, 820, 821, 44, 822, 81, 823, 155, 156, 157, 80, 82, 869, 870, 871, 872, 873, 874, 875, 876, 877, 878, 879, 880, 881, 934, 935, 936] (by decide +kernel) (by decide +kernel)
set_option maxRecDepth 20000 in
theorem gL_law_X8_sheet : GoodIn wsL_law (wsV RL 140 RX8 yX8_sheet wsX8_sheet) := goodIn_app (goodIn_of _ (by decide +kernel)) ggL_law_X8_sheet
set_option maxRecDepth 20000 in
theorem ggL_law_X9_sheet : GoodIn wsL_law wsX9_sheet := goodIn_r _ [827, 111, 112, 113, 264, 265, 5, 266, 267, 166, 167, 168, 268, 269, 270, 194, 882, 883, 884, 885, 886, 887, 888, 889, 890, 891, 892, 893, 894, 895, 896, 897, 898, 899, 900, 901, 902, 903, 904, 905, 906, 907, 908, 909, 910, 911, 912, 913, 914, 915, 916, 917, 918] (by decide +kernel) (by decide +kernel)
set_option maxRecDepth 20000 in
theorem gL_law_X9_sheet : GoodIn wsL_law (wsV RL 143 RX9 yX9_sheet wsX9_sheet) := goodIn_app (goodIn_of _ (by decide +kernel)) ggL_law_X9_sheet
set_option maxRecDepth 20000 in
theorem ggL_law_X8_drop : GoodIn wsL_law wsX8_drop := goodIn_r _ [831, 832, 228, 229, 230, 2, 231, 45, 129, 130, 131, 833, 240, 241, 44, 242, 80, 934, 935, 936, 869, 870, 871, 872, 873, 874, 875, 876, 877, 878, 879, 880, 881] (by decide +kernel) (by decide +kernel)
set_option maxRecDepth 20000 in
theorem gL_law_X8_drop : GoodIn wsL_law (wsV RL 144 RX8 yX8_drop wsX8_drop) := goodIn_app (goodIn_of _ (by decide +kernel)) ggL_law_X8_drop
