theorem memIn_r {big : List Cond} (ws : List Cond) (ps : List Nat) (hp : ws = ps.filterMap (fun i => big[i]?)) : ∀ w ∈ ws, w ∈ big := by
  intro w hw
  rw [hp] at hw
  obtain ⟨i, -, hi⟩ := List.mem_filterMap.mp hw
  first | exact List.mem_of_getElem? hi | exact List.getElem?_mem hi
set_option maxRecDepth 20000 in
theorem wsL_law_r1_in : ∀ w ∈ wsL_law_r1, w ∈ lw_tbl := memIn_r _ [54, 55, 41, 704, 705, 48, 1097, 56, 57, 58, 59, 60, 61, 62, 63, 42, 177, 80, 178, 179, 81, 180, 181, 182] (by decide +kernel)
set_option maxRecDepth 20000 in
theorem wsL_law_r2_in : ∀ w ∈ wsL_law_r2, w ∈ lw_tbl := memIn_r _ [83, 84, 43, 183, 184, 100, 101, 44, 185, 118, 119, 45, 186, 187, 140, 141, 46, 188, 157, 159, 47, 189, 65, 66] (by decide +kernel)
set_option maxRecDepth 20000 in
theorem wsL_law_r3_in : ∀ w ∈ wsL_law_r3, w ∈ lw_tbl := memIn_r _ [67, 68, 70, 72, 86, 87, 88, 89, 91, 92, 103, 104, 105, 106, 117, 108, 109, 121, 122, 123, 124, 127, 130, 143] (by decide +kernel)
set_option maxRecDepth 20000 in
theorem wsL_law_r4_in : ∀ w ∈ wsL_law_r4, w ∈ lw_tbl := memIn_r _ [144, 145, 146, 148, 149, 161, 162, 163, 164, 166, 168, 706, 707, 708, 709, 713, 714, 715, 716, 717, 719, 720, 721, 722] (by decide +kernel)
set_option maxRecDepth 20000 in
theorem wsL_law_r5_in : ∀ w ∈ wsL_law_r5, w ∈ lw_tbl := memIn_r _ [342, 723, 724, 728, 733, 734, 735, 737, 738, 739, 740, 741, 742, 744, 745, 746, 747, 748, 749, 726, 710, 711, 712, 217] (by decide +kernel)
set_option maxRecDepth 20000 in
theorem wsL_law_r6_in : ∀ w ∈ wsL_law_r6, w ∈ lw_tbl := memIn_r _ [218, 219, 220, 221, 222, 223, 224, 225, 226, 227, 228, 229, 230, 231, 232, 233, 234, 235, 236, 237, 239, 0, 240, 241] (by decide +kernel)
set_option maxRecDepth 20000 in
theorem wsL_law_r7_in : ∀ w ∈ wsL_law_r7, w ∈ lw_tbl := memIn_r _ [242, 243, 244, 246, 1, 247, 248, 250, 2, 251, 252, 253, 49, 254, 825, 826, 827, 828, 829, 830, 831, 832, 833, 834] (by decide +kernel)
set_option maxRecDepth 20000 in
theorem wsL_law_r8_in : ∀ w ∈ wsL_law_r8, w ∈ lw_tbl := memIn_r _ [835, 836, 837, 838, 839, 840, 842, 18, 843, 844, 845, 846, 847, 849, 19, 850, 255, 256, 257, 258, 71, 69, 851, 852] (by decide +kernel)
set_option maxRecDepth 20000 in
theorem wsL_law_r9_in : ∀ w ∈ wsL_law_r9, w ∈ lw_tbl := memIn_r _ [853, 854, 855, 259, 260, 261, 262, 263, 856, 857, 858, 859, 265, 266, 267, 268, 860, 861, 862, 863, 269, 270, 271, 272] (by decide +kernel)
set_option maxRecDepth 20000 in
theorem wsL_law_r10_in : ∀ w ∈ wsL_law_r10, w ∈ lw_tbl := memIn_r _ [273, 274, 275, 864, 865, 866, 867, 868, 276, 277, 278, 279, 280, 282, 3, 283, 284, 285, 286, 287, 288, 289, 290, 291] (by decide +kernel)
set_option maxRecDepth 20000 in
theorem wsL_law_r11_in : ∀ w ∈ wsL_law_r11, w ∈ lw_tbl := memIn_r _ [292, 293, 294, 295, 296, 297, 298, 299, 300, 301, 302, 303, 305, 4, 306, 307, 309, 5, 310, 869, 870, 871, 872, 880] (by decide +kernel)
set_option maxRecDepth 20000 in
theorem wsL_law_r12_in : ∀ w ∈ wsL_law_r12, w ∈ lw_tbl := memIn_r _ [873, 874, 875, 876, 877, 878, 879, 881, 883, 20, 884, 885, 887, 21, 888, 311, 312, 313, 314, 315, 50, 317, 318, 319] (by decide +kernel)
set_option maxRecDepth 20000 in
theorem wsL_law_r13_in : ∀ w ∈ wsL_law_r13, w ∈ lw_tbl := memIn_r _ [344, 346, 320, 321, 51, 348, 350, 351, 352, 353, 322, 323, 324, 325, 330, 332, 334, 326, 328, 6, 329, 889, 890, 891] (by decide +kernel)
set_option maxRecDepth 20000 in
theorem wsL_law_r14_in : ∀ w ∈ wsL_law_r14, w ∈ lw_tbl := memIn_r _ [892, 718, 369, 370, 371, 372, 373, 375, 7, 376, 377, 378, 379, 380, 382, 383, 384, 386, 8, 387, 389, 390, 391, 393] (by decide +kernel)
set_option maxRecDepth 20000 in
theorem wsL_law_r15_in : ∀ w ∈ wsL_law_r15, w ∈ lw_tbl := memIn_r _ [394, 396, 397, 398, 893, 894, 895, 896, 897, 899, 22, 900, 901, 903, 23, 904, 399, 400, 401, 402, 345, 905, 906, 907] (by decide +kernel)
set_option maxRecDepth 20000 in
theorem wsL_law_r16_in : ∀ w ∈ wsL_law_r16, w ∈ lw_tbl := memIn_r _ [908, 909, 403, 404, 405, 406, 407, 408, 409, 410, 910, 911, 912, 913, 411, 412, 413, 414, 415, 417, 914, 915, 916, 917] (by decide +kernel)
set_option maxRecDepth 20000 in
theorem wsL_law_r17_in : ∀ w ∈ wsL_law_r17, w ∈ lw_tbl := memIn_r _ [918, 919, 920, 419, 420, 421, 422, 426, 423, 424, 425, 427, 428, 429, 430, 431, 432, 52, 433, 434, 435, 436, 921, 922] (by decide +kernel)
set_option maxRecDepth 20000 in
theorem wsL_law_r18_in : ∀ w ∈ wsL_law_r18, w ∈ lw_tbl := memIn_r _ [923, 924, 929, 925, 927, 24, 928, 437, 438, 439, 440, 441, 442, 443, 444, 445, 446, 447, 448, 449, 450, 451, 452, 930] (by decide +kernel)
set_option maxRecDepth 20000 in
theorem wsL_law_r19_in : ∀ w ∈ wsL_law_r19, w ∈ lw_tbl := memIn_r _ [931, 932, 933, 725, 934, 936, 25, 937, 938, 453, 454, 455, 456, 939, 940, 941, 942, 457, 458, 459, 460, 347, 461, 462] (by decide +kernel)
set_option maxRecDepth 20000 in
theorem wsL_law_r20_in : ∀ w ∈ wsL_law_r20, w ∈ lw_tbl := memIn_r _ [463, 464, 465, 466, 467, 468, 943, 944, 945, 946, 947, 949, 26, 950, 469, 470, 471, 472, 90, 473, 474, 475, 476, 477] (by decide +kernel)
set_option maxRecDepth 20000 in
theorem wsL_law_r21_in : ∀ w ∈ wsL_law_r21, w ∈ lw_tbl := memIn_r _ [478, 479, 480, 481, 482, 483, 484, 485, 486, 487, 488, 489, 490, 491, 951, 952, 953, 954, 955, 957, 27, 958, 959, 960] (by decide +kernel)
set_option maxRecDepth 20000 in
theorem wsL_law_r22_in : ∀ w ∈ wsL_law_r22, w ∈ lw_tbl := memIn_r _ [492, 493, 494, 495, 496, 498, 499, 500, 961, 962, 963, 964, 965, 727, 501, 502, 503, 504, 107, 505, 506, 507, 508, 509] (by decide +kernel)
set_option maxRecDepth 20000 in
theorem wsL_law_r23_in : ∀ w ∈ wsL_law_r23, w ∈ lw_tbl := memIn_r _ [510, 511, 966, 967, 968, 969, 970, 971, 972, 729, 512, 513, 514, 515, 349, 516, 517, 518, 519, 520, 521, 522, 523, 524] (by decide +kernel)
set_option maxRecDepth 20000 in
theorem wsL_law_r24_in : ∀ w ∈ wsL_law_r24, w ∈ lw_tbl := memIn_r _ [526, 9, 527, 125, 128, 131, 528, 530, 10, 531, 532, 534, 11, 535, 537, 538, 539, 540, 542, 544, 12, 545, 546, 548] (by decide +kernel)
set_option maxRecDepth 20000 in
theorem wsL_law_r25_in : ∀ w ∈ wsL_law_r25, w ∈ lw_tbl := memIn_r _ [13, 549, 550, 551, 553, 14, 554, 973, 974, 975, 976, 730, 731, 736, 732, 977, 979, 28, 980, 981, 983, 29, 984, 989] (by decide +kernel)
set_option maxRecDepth 20000 in
theorem wsL_law_r26_in : ∀ w ∈ wsL_law_r26, w ∈ lw_tbl := memIn_r _ [985, 987, 30, 988, 990, 992, 31, 993, 994, 996, 32, 997, 998, 999, 556, 557, 558, 559, 126, 129, 132, 560, 1000, 1001] (by decide +kernel)
set_option maxRecDepth 20000 in
theorem wsL_law_r27_in : ∀ w ∈ wsL_law_r27, w ∈ lw_tbl := memIn_r _ [1002, 1003, 1004, 1006, 33, 1007, 561, 562, 563, 564, 331, 565, 566, 567, 568, 569, 570, 571, 572, 573, 1008, 1009, 1010, 1011] (by decide +kernel)
set_option maxRecDepth 20000 in
theorem wsL_law_r28_in : ∀ w ∈ wsL_law_r28, w ∈ lw_tbl := memIn_r _ [1012, 1013, 1014, 1015, 574, 575, 576, 577, 578, 579, 580, 581, 1016, 1017, 1018, 1019, 1020, 1022, 34, 1023, 582, 583, 584, 585] (by decide +kernel)
set_option maxRecDepth 20000 in
theorem wsL_law_r29_in : ∀ w ∈ wsL_law_r29, w ∈ lw_tbl := memIn_r _ [333, 586, 587, 588, 589, 1024, 1025, 1026, 1027, 590, 591, 592, 593, 594, 595, 596, 597, 598, 599, 600, 601, 602, 603, 604] (by decide +kernel)
set_option maxRecDepth 20000 in
theorem wsL_law_r30_in : ∀ w ∈ wsL_law_r30, w ∈ lw_tbl := memIn_r _ [605, 606, 607, 609, 15, 610, 611, 613, 614, 615, 1028, 1029, 1030, 1031, 1032, 1033, 1035, 35, 1036, 1037, 1038, 1039, 616, 617] (by decide +kernel)
set_option maxRecDepth 20000 in
theorem wsL_law_r31_in : ∀ w ∈ wsL_law_r31, w ∈ lw_tbl := memIn_r _ [618, 619, 620, 621, 622, 623, 1040, 1041, 1042, 1043, 1044, 743, 624, 625, 626, 627, 147, 1045, 1046, 1047, 1048, 628, 629, 630] (by decide +kernel)
set_option maxRecDepth 20000 in
theorem wsL_law_r32_in : ∀ w ∈ wsL_law_r32, w ∈ lw_tbl := memIn_r _ [631, 640, 646, 647, 648, 632, 633, 634, 635, 636, 637, 638, 639, 641, 642, 643, 644, 645, 649, 650, 651, 1049, 1050, 1051] (by decide +kernel)
set_option maxRecDepth 20000 in
theorem wsL_law_r33_in : ∀ w ∈ wsL_law_r33, w ∈ lw_tbl := memIn_r _ [1052, 1061, 1053, 1055, 36, 1056, 1057, 1059, 37, 1060, 1062, 1064, 38, 1065, 1066, 1067, 1068, 652, 653, 654, 655, 656, 657, 658] (by decide +kernel)
set_option maxRecDepth 20000 in
theorem wsL_law_r34_in : ∀ w ∈ wsL_law_r34, w ∈ lw_tbl := memIn_r _ [659, 660, 661, 662, 664, 16, 665, 1069, 1070, 1071, 1072, 1073, 1075, 39, 1076, 666, 667, 668, 669, 1077, 1078, 1079, 1080, 670] (by decide +kernel)
set_option maxRecDepth 20000 in
theorem wsL_law_r35_in : ∀ w ∈ wsL_law_r35, w ∈ lw_tbl := memIn_r _ [671, 672, 673, 674, 675, 676, 677, 678, 1081, 1082, 1083, 1084, 679, 680, 681, 682, 165, 683, 1085, 1086, 1087, 1088, 684, 685] (by decide +kernel)
set_option maxRecDepth 20000 in
theorem wsL_law_r36_in : ∀ w ∈ wsL_law_r36, w ∈ lw_tbl := memIn_r _ [686, 687, 688, 689, 690, 691, 692, 694, 17, 695, 1089, 1090, 1091, 1092, 696, 697, 698, 699, 167, 169, 701, 703, 702, 53] (by decide +kernel)
set_option maxRecDepth 20000 in
theorem wsL_law_r37_in : ∀ w ∈ wsL_law_r37, w ∈ lw_tbl := memIn_r _ [700, 1093, 1094, 1095, 1096] (by decide +kernel)
set_option maxRecDepth 20000 in
theorem wsX00_in : ∀ w ∈ wsX00, w ∈ lw_tbl := memIn_r _ [133, 135, 137] (by decide +kernel)
set_option maxRecDepth 20000 in
theorem wsX10_in : ∀ w ∈ wsX10, w ∈ lw_tbl := memIn_r _ [354, 356, 358, 360, 362, 364, 366] (by decide +kernel)
set_option maxRecDepth 20000 in
theorem wsX20_in : ∀ w ∈ wsX20, w ∈ lw_tbl := memIn_r _ [335, 337, 339] (by decide +kernel)
set_option maxRecDepth 20000 in
theorem wsX30_in : ∀ w ∈ wsX30, w ∈ lw_tbl := memIn_r _ [93, 95, 97] (by decide +kernel)
set_option maxRecDepth 20000 in
theorem wsX40_in : ∀ w ∈ wsX40, w ∈ lw_tbl := memIn_r _ [73, 75, 77] (by decide +kernel)
set_option maxRecDepth 20000 in
theorem wsX50_in : ∀ w ∈ wsX50, w ∈ lw_tbl := memIn_r _ [170, 172, 174] (by decide +kernel)
set_option maxRecDepth 20000 in
theorem wsX60_in : ∀ w ∈ wsX60, w ∈ lw_tbl := memIn_r _ [110, 112, 114] (by decide +kernel)
set_option maxRecDepth 20000 in
theorem wsX70_in : ∀ w ∈ wsX70, w ∈ lw_tbl := memIn_r _ [150, 152, 154] (by decide +kernel)
set_option maxRecDepth 20000 in
theorem wsX80_in : ∀ w ∈ wsX80, w ∈ lw_tbl := memIn_r _ [190, 192, 194, 196, 198, 200, 202, 204, 206, 208, 210, 212, 214] (by decide +kernel)
set_option maxRecDepth 20000 in
theorem wsX90_in : ∀ w ∈ wsX90, w ∈ lw_tbl := memIn_r _ [750, 752, 754, 756, 758, 760, 762, 764, 766, 768, 770, 772, 774, 776, 778, 780, 782, 784, 786, 788, 790, 792, 794, 796, 798, 800, 802, 804, 806, 808, 810, 812, 814, 816, 818, 820, 822] (by decide +kernel)
theorem wsL_law_in : ∀ w ∈ wsL_law, w ∈ lw_tbl := (List.forall_mem_append.mpr ⟨(List.forall_mem_append.mpr ⟨(List.forall_mem_append.mpr ⟨(List.forall_mem_append.mpr ⟨(List.forall_mem_append.mpr ⟨(List.forall_mem_append.mpr ⟨(List.forall_mem_append.mpr ⟨(List.forall_mem_append.mpr ⟨(List.forall_mem_append.mpr ⟨(List.forall_mem_append.mpr ⟨(List.forall_mem_append.mpr ⟨(List.forall_mem_append.mpr ⟨wsL_law_r1_in, (List.forall_mem_append.mpr ⟨wsL_law_r2_in, (List.forall_mem_append.mpr ⟨wsL_law_r3_in, (List.forall_mem_append.mpr ⟨wsL_law_r4_in, (List.forall_mem_append.mpr ⟨wsL_law_r5_in, (List.forall_mem_append.mpr ⟨wsL_law_r6_in, (List.forall_mem_append.mpr ⟨wsL_law_r7_in, (List.forall_mem_append.mpr ⟨wsL_law_r8_in, (List.forall_mem_append.mpr ⟨wsL_law_r9_in, (List.forall_mem_append.mpr ⟨wsL_law_r10_in, (List.forall_mem_append.mpr ⟨wsL_law_r11_in, (List.forall_mem_append.mpr ⟨wsL_law_r12_in, (List.forall_mem_append.mpr ⟨wsL_law_r13_in, (List.forall_mem_append.mpr ⟨wsL_law_r14_in, (List.forall_mem_append.mpr ⟨wsL_law_r15_in, (List.forall_mem_append.mpr ⟨wsL_law_r16_in, (List.forall_mem_append.mpr ⟨wsL_law_r17_in, (List.forall_mem_append.mpr ⟨wsL_law_r18_in, (List.forall_mem_append.mpr ⟨wsL_law_r19_in, (List.forall_mem_append.mpr ⟨wsL_law_r20_in, (List.forall_mem_append.mpr ⟨wsL_law_r21_in, (List.forall_mem_append.mpr ⟨wsL_law_r22_in, (List.forall_mem_append.mpr ⟨wsL_law_r23_in, (List.forall_mem_append.mpr ⟨wsL_law_r24_in, (List.forall_mem_append.mpr ⟨wsL_law_r25_in, (List.forall_mem_append.mpr ⟨wsL_law_r26_in, (List.forall_mem_append.mpr ⟨wsL_law_r27_in, (List.forall_mem_append.mpr ⟨wsL_law_r28_in, (List.forall_mem_append.mpr ⟨wsL_law_r29_in, (List.forall_mem_append.mpr ⟨wsL_law_r30_in, (List.forall_mem_append.mpr ⟨wsL_law_r31_in, (List.forall_mem_append.mpr ⟨wsL_law_r32_in, (List.forall_mem_append.mpr ⟨wsL_law_r33_in, (List.forall_mem_append.mpr ⟨wsL_law_r34_in, (List.forall_mem_append.mpr ⟨wsL_law_r35_in, (List.forall_mem_append.mpr ⟨wsL_law_r36_in, wsL_law_r37_in⟩)⟩)⟩)⟩)⟩)⟩)⟩)⟩)⟩)⟩)⟩)⟩)⟩)⟩)⟩)⟩)⟩)⟩)⟩)⟩)⟩)⟩)⟩)⟩)⟩)⟩)⟩)⟩)⟩)⟩)⟩)⟩)⟩)⟩)⟩)⟩), wsX80_in⟩), wsX90_in⟩), wsX40_in⟩), wsX30_in⟩), wsX60_in⟩), wsX00_in⟩), wsX70_in⟩), wsX50_in⟩), wsX10_in⟩), wsX20_in⟩), fun _ h => absurd h List.not_mem_nil⟩)
