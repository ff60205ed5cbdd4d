theorem dX9_hint_119 : decode cX9_hint 119 = .ok (.bipush 100, 2) := by decide +kernel
theorem dX9_hint_121 : decode cX9_hint 121 = .ok (.irem, 1) := by decide +kernel
theorem dX9_hint_122 : decode cX9_hint 122 = .ok (.istore 7, 2) := by decide +kernel
theorem dX9_hint_124 : decode cX9_hint 124 = .ok (.iload_n 3, 1) := by decide +kernel
theorem dX9_hint_125 : decode cX9_hint 125 = .ok (.iload 7, 2) := by decide +kernel
theorem dX9_hint_127 : decode cX9_hint 127 = .ok (.if_icmp .eq 6, 3) := by decide +kernel
theorem dX9_hint_130 : decode cX9_hint 130 = .ok (.bipush (-2), 2) := by decide +kernel
theorem dX9_hint_132 : decode cX9_hint 132 = .ok (.ireturn, 1) := by decide +kernel
theorem dX9_hint_133 : decode cX9_hint 133 = .ok (.iload 5, 2) := by decide +kernel
theorem dX9_hint_135 : decode cX9_hint 135 = .ok (.ifCond .eq 13, 3) := by decide +kernel
theorem dX9_hint_138 : decode cX9_hint 138 = .ok (.iload 6, 2) := by decide +kernel
theorem dX9_hint_140 : decode cX9_hint 140 = .ok (.iload 4, 2) := by decide +kernel
theorem dX9_hint_142 : decode cX9_hint 142 = .ok (.invokestatic 108, 3) := by decide +kernel
theorem dX9_hint_145 : decode cX9_hint 145 = .ok (.goto 5, 3) := by decide +kernel
theorem dX9_hint_148 : decode cX9_hint 148 = .ok (.bipush (-5), 2) := by decide +kernel
theorem dX9_hint_150 : decode cX9_hint 150 = .ok (.ireturn, 1) := by decide +kernel
set_option maxRecDepth 20000 in
theorem ggX9_type_X9_in : GoodIn wsX9_type wsX9_in := goodIn_r _ [10] (by decide +kernel) (by decide +kernel)
set_option maxRecDepth 20000 in
theorem gX9_type_X9_in : GoodIn wsX9_type (va_wsS RX9 102 yX9_in wsX9_in) := goodIn_app (goodIn_of _ (by decide +kernel)) ggX9_type_X9_in
theorem dX9_type_0 : decode cX9_type 0 = .ok (.iload_n 3, 1) := by decide +kernel
theorem dX9_type_1 : decode cX9_type 1 = .ok (.i2l, 1) := by decide +kernel
theorem dX9_type_2 : decode cX9_type 2 = .ok (.lconst 1, 1) := by decide +kernel
theorem dX9_type_3 : decode cX9_type 3 = .ok (.ldc2_w 195, 3) := by decide +kernel
theorem dX9_type_6 : decode cX9_type 6 = .ok (.invokestatic 102, 3) := by decide +kernel
theorem dX9_type_9 : decode cX9_type 9 = .ok (.ifCond .ne 5, 3) := by decide +kernel
theorem dX9_type_12 : decode cX9_type 12 = .ok (.iconst (-1), 1) := by decide +kernel
theorem dX9_type_13 : decode cX9_type 13 = .ok (.ireturn, 1) := by decide +kernel
theorem dX9_type_14 : decode cX9_type 14 = .ok (.iconst 0, 1) := by decide +kernel
theorem dX9_type_15 : decode cX9_type 15 = .ok (.istore 4, 2) := by decide +kernel
theorem dX9_type_17 : decode cX9_type 17 = .ok (.iload 4, 2) := by decide +kernel
theorem dX9_type_19 : decode cX9_type 19 = .ok (.iload_n 3, 1) := by decide +kernel
theorem dX9_type_20 : decode cX9_type 20 = .ok (.if_icmp .ge 34, 3) := by decide +kernel
theorem dX9_type_23 : decode cX9_type 23 = .ok (.lload_n 1, 1) := by decide +kernel
theorem dX9_type_24 : decode cX9_type 24 = .ok (.bipush 8, 2) := by decide +kernel
theorem dX9_type_26 : decode cX9_type 26 = .ok (.iload 4, 2) := by decide +kernel
theorem dX9_type_28 : decode cX9_type 28 = .ok (.imul, 1) := by decide +kernel
theorem dX9_type_29 : decode cX9_type 29 = .ok (.lshr, 1) := by decide +kernel
theorem dX9_type_30 : decode cX9_type 30 = .ok (.ldc2_w 100, 3) := by decide +kernel
theorem dX9_type_33 : decode cX9_type 33 = .ok (.land, 1) := by decide +kernel
theorem dX9_type_34 : decode cX9_type 34 = .ok (.ldc2_w 197, 3) := by decide +kernel
theorem dX9_type_37 : decode cX9_type 37 = .ok (.ldc2_w 199, 3) := by decide +kernel
theorem dX9_type_40 : decode cX9_type 40 = .ok (.invokestatic 102, 3) := by decide +kernel
theorem dX9_type_43 : decode cX9_type 43 = .ok (.ifCond .ne 5, 3) := by decide +kernel
theorem dX9_type_46 : decode cX9_type 46 = .ok (.iconst (-1), 1) := by decide +kernel
theorem dX9_type_47 : decode cX9_type 47 = .ok (.ireturn, 1) := by decide +kernel
theorem dX9_type_48 : decode cX9_type 48 = .ok (.iinc 4 1, 3) := by decide +kernel
theorem dX9_type_51 : decode cX9_type 51 = .ok (.goto (-34), 3) := by decide +kernel
theorem dX9_type_54 : decode cX9_type 54 = .ok (.aload_n 0, 1) := by decide +kernel
theorem dX9_type_55 : decode cX9_type 55 = .ok (.getfield 201, 3) := by decide +kernel
theorem dX9_type_58 : decode cX9_type 58 = .ok (.iload_n 3, 1) := by decide +kernel
theorem dX9_type_59 : decode cX9_type 59 = .ok (.iadd, 1) := by decide +kernel
theorem dX9_type_60 : decode cX9_type 60 = .ok (.bipush 100, 2) := by decide +kernel
theorem dX9_type_62 : decode cX9_type 62 = .ok (.if_icmp .le 6, 3) := by decide +kernel
theorem dX9_type_65 : decode cX9_type 65 = .ok (.bipush (-3), 2) := by decide +kernel
theorem dX9_type_67 : decode cX9_type 67 = .ok (.ireturn, 1) := by decide +kernel
theorem dX9_type_68 : decode cX9_type 68 = .ok (.iload_n 3, 1) := by decide +kernel
theorem dX9_type_69 : decode cX9_type 69 = .ok (.iconst 1, 1) := by decide +kernel
theorem dX9_type_70 : decode cX9_type 70 = .ok (.isub, 1) := by decide +kernel
theorem dX9_type_71 : decode cX9_type 71 = .ok (.istore 4, 2) := by decide +kernel
theorem dX9_type_73 : decode cX9_type 73 = .ok (.iload 4, 2) := by decide +kernel
theorem dX9_type_75 : decode cX9_type 75 = .ok (.ifCond .lt 40, 3) := by decide +kernel
theorem dX9_type_78 : decode cX9_type 78 = .ok (.aload_n 0, 1) := by decide +kernel
theorem dX9_type_79 : decode cX9_type 79 = .ok (.getfield 44, 3) := by decide +kernel
theorem dX9_type_82 : decode cX9_type 82 = .ok (.aload_n 0, 1) := by decide +kernel
theorem dX9_type_83 : decode cX9_type 83 = .ok (.getfield 201, 3) := by decide +kernel
theorem dX9_type_86 : decode cX9_type 86 = .ok (.lload_n 1, 1) := by decide +kernel
theorem dX9_type_87 : decode cX9_type 87 = .ok (.bipush 8, 2) := by decide +kernel
theorem dX9_type_89 : decode cX9_type 89 = .ok (.iload 4, 2) := by decide +kernel
theorem dX9_type_91 : decode cX9_type 91 = .ok (.imul, 1) := by decide +kernel
theorem dX9_type_92 : decode cX9_type 92 = .ok (.lshr, 1) := by decide +kernel
theorem dX9_type_93 : decode cX9_type 93 = .ok (.ldc2_w 100, 3) := by decide +kernel
theorem dX9_type_96 : decode cX9_type 96 = .ok (.land, 1) := by decide +kernel
theorem dX9_type_97 : decode cX9_type 97 = .ok (.l2i, 1) := by decide +kernel
theorem dX9_type_98 : decode cX9_type 98 = .ok (.iastore, 1) := by decide +kernel
theorem dX9_type_99 : decode cX9_type 99 = .ok (.aload_n 0, 1) := by decide +kernel
theorem dX9_type_100 : decode cX9_type 100 = .ok (.dup, 1) := by decide +kernel
theorem dX9_type_101 : decode cX9_type 101 = .ok (.getfield 201, 3) := by decide +kernel
theorem dX9_type_104 : decode cX9_type 104 = .ok (.iconst 1, 1) := by decide +kernel
theorem dX9_type_105 : decode cX9_type 105 = .ok (.iadd, 1) := by decide +kernel
theorem dX9_type_106 : decode cX9_type 106 = .ok (.putfield 201, 3) := by decide +kernel
theorem dX9_type_109 : decode cX9_type 109 = .ok (.iinc 4 (-1), 3) := by decide +kernel
theorem dX9_type_112 : decode cX9_type 112 = .ok (.goto (-39), 3) := by decide +kernel
theorem dX9_type_115 : decode cX9_type 115 = .ok (.aload_n 0, 1) := by decide +kernel
theorem dX9_type_116 : decode cX9_type 116 = .ok (.getfield 201, 3) := by decide +kernel
theorem dX9_type_119 : decode cX9_type 119 = .ok (.ireturn, 1) := by decide +kernel
theorem dX9_next_0 : decode cX9_next 0 = .ok (.aload_n 0, 1) := by decide +kernel
theorem dX9_next_1 : decode cX9_next 1 = .ok (.getfield 204, 3) := by decide +kernel
theorem dX9_next_4 : decode cX9_next 4 = .ok (.aload_n 0, 1) := by decide +kernel
theorem dX9_next_5 : decode cX9_next 5 = .ok (.getfield 201, 3) := by decide +kernel
theorem dX9_next_8 : decode cX9_next 8 = .ok (.if_icmp .ge 30, 3) := by decide +kernel
theorem dX9_next_11 : decode cX9_next 11 = .ok (.aload_n 0, 1) := by decide +kernel
theorem dX9_next_12 : decode cX9_next 12 = .ok (.getfield 44, 3) := by decide +kernel
theorem dX9_next_15 : decode cX9_next 15 = .ok (.aload_n 0, 1) := by decide +kernel
theorem dX9_next_16 : decode cX9_next 16 = .ok (.getfield 204, 3) := by decide +kernel
theorem dX9_next_19 : decode cX9_next 19 = .ok (.iaload, 1) := by decide +kernel
theorem dX9_next_20 : decode cX9_next 20 = .ok (.bipush 32, 2) := by decide +kernel
theorem dX9_next_22 : decode cX9_next 22 = .ok (.if_icmp .ne 16, 3) := by decide +kernel
theorem dX9_next_25 : decode cX9_next 25 = .ok (.aload_n 0, 1) := by decide +kernel
theorem dX9_next_26 : decode cX9_next 26 = .ok (.dup, 1) := by decide +kernel
theorem dX9_next_27 : decode cX9_next 27 = .ok (.getfield 204, 3) := by decide +kernel
theorem dX9_next_30 : decode cX9_next 30 = .ok (.iconst 1, 1) := by decide +kernel
theorem dX9_next_31 : decode cX9_next 31 = .ok (.iadd, 1) := by decide +kernel
theorem dX9_next_32 : decode cX9_next 32 = .ok (.putfield 204, 3) := by decide +kernel
theorem dX9_next_35 : decode cX9_next 35 = .ok (.goto (-35), 3) := by decide +kernel
theorem dX9_next_38 : decode cX9_next 38 = .ok (.aload_n 0, 1) := by decide +kernel
theorem dX9_next_39 : decode cX9_next 39 = .ok (.getfield 204, 3) := by decide +kernel
theorem dX9_next_42 : decode cX9_next 42 = .ok (.aload_n 0, 1) := by decide +kernel
theorem dX9_next_43 : decode cX9_next 43 = .ok (.getfield 201, 3) := by decide +kernel
theorem dX9_next_46 : decode cX9_next 46 = .ok (.if_icmp .ge 15, 3) := by decide +kernel
theorem dX9_next_49 : decode cX9_next 49 = .ok (.aload_n 0, 1) := by decide +kernel
theorem dX9_next_50 : decode cX9_next 50 = .ok (.getfield 44, 3) := by decide +kernel
theorem dX9_next_53 : decode cX9_next 53 = .ok (.aload_n 0, 1) := by decide +kernel
theorem dX9_next_54 : decode cX9_next 54 = .ok (.getfield 204, 3) := by decide +kernel
theorem dX9_next_57 : decode cX9_next 57 = .ok (.iaload, 1) := by decide +kernel
theorem dX9_next_58 : decode cX9_next 58 = .ok (.goto 4, 3) := by decide +kernel
theorem dX9_next_61 : decode cX9_next 61 = .ok (.iconst 0, 1) := by decide +kernel
theorem dX9_next_62 : decode cX9_next 62 = .ok (.ireturn, 1) := by decide +kernel
set_option maxRecDepth 20000 in
theorem ggX9_needs_X9_next : GoodIn wsX9_needs wsX9_next := goodIn_r _ [7, 2, 8, 9, 10, 11, 12, 13, 14, 15, 16, 17, 18, 19, 20, 21, 22, 23, 24, 25, 26, 27, 28, 29, 30, 31, 32, 33, 34, 35, 36, 37, 38, 39, 40, 41, 42, 43, 44, 45, 46] (by decide +kernel) (by decide +kernel)
set_option maxRecDepth 20000 in
theorem gX9_needs_X9_next : GoodIn wsX9_needs (wsV RX9 211 RX9 yX9_next wsX9_next) := goodIn_app (goodIn_of _ (by decide +kernel)) ggX9_needs_X9_next
theorem dX9_needs_0 : decode cX9_needs 0 = .ok (.aload_n 0, 1) := by decide +kernel
theorem dX9_needs_1 : decode cX9_needs 1 = .ok (.aload_n 0, 1) := by decide +kernel
theorem dX9_needs_2 : decode cX9_needs 2 = .ok (.getfield 207, 3) := by decide +kernel
theorem dX9_needs_5 : decode cX9_needs 5 = .ok (.ifCond .ne 11, 3) := by decide +kernel
theorem dX9_needs_8 : decode cX9_needs 8 = .ok (.aload_n 0, 1) := by decide +kernel
theorem dX9_needs_9 : decode cX9_needs 9 = .ok (.invokevirtual 211, 3) := by decide +kernel
theorem dX9_needs_12 : decode cX9_needs 12 = .ok (.iload_n 1, 1) := by decide +kernel
theorem dX9_needs_13 : decode cX9_needs 13 = .ok (.if_icmp .eq 7, 3) := by decide +kernel
theorem dX9_needs_16 : decode cX9_needs 16 = .ok (.iconst 1, 1) := by decide +kernel
theorem dX9_needs_17 : decode cX9_needs 17 = .ok (.goto 4, 3) := by decide +kernel
theorem dX9_needs_20 : decode cX9_needs 20 = .ok (.iconst 0, 1) := by decide +kernel
theorem dX9_needs_21 : decode cX9_needs 21 = .ok (.putfield 207, 3) := by decide +kernel
theorem dX9_needs_24 : decode cX9_needs 24 = .ok (.aload_n 0, 1) := by decide +kernel
theorem dX9_needs_25 : decode cX9_needs 25 = .ok (.dup, 1) := by decide +kernel
theorem dX9_needs_26 : decode cX9_needs 26 = .ok (.getfield 204, 3) := by decide +kernel
theorem dX9_needs_29 : decode cX9_needs 29 = .ok (.aload_n 0, 1) := by decide +kernel
theorem dX9_needs_30 : decode cX9_needs 30 = .ok (.getfield 207, 3) := by decide +kernel
theorem dX9_needs_33 : decode cX9_needs 33 = .ok (.ifCond .eq 7, 3) := by decide +kernel
theorem dX9_needs_36 : decode cX9_needs 36 = .ok (.iconst 0, 1) := by decide +kernel
theorem dX9_needs_37 : decode cX9_needs 37 = .ok (.goto 4, 3) := by decide +kernel
theorem dX9_needs_40 : decode cX9_needs 40 = .ok (.iconst 1, 1) := by decide +kernel
theorem dX9_needs_41 : decode cX9_needs 41 = .ok (.iadd, 1) := by decide +kernel
theorem dX9_needs_42 : decode cX9_needs 42 = .ok (.putfield 204, 3) := by decide +kernel
theorem dX9_needs_45 : decode cX9_needs 45 = .ok (.return_, 1) := by decide +kernel
set_option maxRecDepth 20000 in
theorem ggX9_number_X9_next : GoodIn wsX9_number wsX9_next := goodIn_r _ [11, 4, 5, 6, 15, 16, 17, 18, 19, 20, 21, 22, 23, 24, 25, 26, 27, 28, 29, 30, 31, 32, 33, 34, 35, 36, 37, 38, 39, 40, 41, 42, 43, 44, 45, 46, 47, 48, 49, 50, 51] (by decide +kernel) (by decide +kernel)
set_option maxRecDepth 20000 in
theorem gX9_number_X9_next : GoodIn wsX9_number (wsV RX9 211 RX9 yX9_next wsX9_next) := goodIn_app (goodIn_of _ (by decide +kernel)) ggX9_number_X9_next
set_option maxRecDepth 20000 in
theorem ggX9_number_X9_in : GoodIn wsX9_number wsX9_in := goodIn_r _ [14] (by decide +kernel) (by decide +kernel)
set_option maxRecDepth 20000 in
theorem gX9_number_X9_in : GoodIn wsX9_number (va_wsS RX9 102 yX9_in wsX9_in) := goodIn_app (goodIn_of _ (by decide +kernel)) ggX9_number_X9_in
theorem dX9_number_0 : decode cX9_number 0 = .ok (.aload_n 0, 1) := by decide +kernel
theorem dX9_number_1 : decode cX9_number 1 = .ok (.getfield 207, 3) := by decide +kernel
theorem dX9_number_4 : decode cX9_number 4 = .ok (.ifCond .ne 20, 3) := by decide +kernel
theorem dX9_number_7 : decode cX9_number 7 = .ok (.aload_n 0, 1) := by decide +kernel
theorem dX9_number_8 : decode cX9_number 8 = .ok (.invokevirtual 211, 3) := by decide +kernel
theorem dX9_number_11 : decode cX9_number 11 = .ok (.i2l, 1) := by decide +kernel
theorem dX9_number_12 : decode cX9_number 12 = .ok (.ldc2_w 215, 3) := by decide +kernel
theorem dX9_number_15 : decode cX9_number 15 = .ok (.ldc2_w 217, 3) := by decide +kernel
theorem dX9_number_18 : decode cX9_number 18 = .ok (.invokestatic 102, 3) := by decide +kernel
theorem dX9_number_21 : decode cX9_number 21 = .ok (.ifCond .ne 10, 3) := by decide +kernel
theorem dX9_number_24 : decode cX9_number 24 = .ok (.aload_n 0, 1) := by decide +kernel
theorem dX9_number_25 : decode cX9_number 25 = .ok (.iconst 1, 1) := by decide +kernel
theorem dX9_number_26 : decode cX9_number 26 = .ok (.putfield 207, 3) := by decide +kernel
theorem dX9_number_29 : decode cX9_number 29 = .ok (.iconst 0, 1) := by decide +kernel
theorem dX9_number_30 : decode cX9_number 30 = .ok (.ireturn, 1) := by decide +kernel
theorem dX9_number_31 : decode cX9_number 31 = .ok (.aload_n 0, 1) := by decide +kernel
theorem dX9_number_32 : decode cX9_number 32 = .ok (.getfield 204, 3) := by decide +kernel
theorem dX9_number_35 : decode cX9_number 35 = .ok (.istore_n 3, 1) := by decide +kernel
theorem dX9_number_36 : decode cX9_number 36 = .ok (.iconst 0, 1) := by decide +kernel
theorem dX9_number_37 : decode cX9_number 37 = .ok (.istore 4, 2) := by decide +kernel
theorem dX9_number_39 : decode cX9_number 39 = .ok (.aload_n 0, 1) := by decide +kernel
theorem dX9_number_40 : decode cX9_number 40 = .ok (.getfield 204, 3) := by decide +kernel
theorem dX9_number_43 : decode cX9_number 43 = .ok (.aload_n 0, 1) := by decide +kernel
theorem dX9_number_44 : decode cX9_number 44 = .ok (.getfield 201, 3) := by decide +kernel
theorem dX9_number_47 : decode cX9_number 47 = .ok (.if_icmp .ge 71, 3) := by decide +kernel
theorem dX9_number_50 : decode cX9_number 50 = .ok (.aload_n 0, 1) := by decide +kernel
theorem dX9_number_51 : decode cX9_number 51 = .ok (.getfield 44, 3) := by decide +kernel
theorem dX9_number_54 : decode cX9_number 54 = .ok (.aload_n 0, 1) := by decide +kernel
theorem dX9_number_55 : decode cX9_number 55 = .ok (.getfield 204, 3) := by decide +kernel
theorem dX9_number_58 : decode cX9_number 58 = .ok (.iaload, 1) := by decide +kernel
theorem dX9_number_59 : decode cX9_number 59 = .ok (.i2l, 1) := by decide +kernel
theorem dX9_number_60 : decode cX9_number 60 = .ok (.ldc2_w 215, 3) := by decide +kernel
theorem dX9_number_63 : decode cX9_number 63 = .ok (.ldc2_w 217, 3) := by decide +kernel
theorem dX9_number_66 : decode cX9_number 66 = .ok (.invokestatic 102, 3) := by decide +kernel
theorem dX9_number_69 : decode cX9_number 69 = .ok (.ifCond .eq 49, 3) := by decide +kernel
theorem dX9_number_72 : decode cX9_number 72 = .ok (.iload 4, 2) := by decide +kernel
theorem dX9_number_74 : decode cX9_number 74 = .ok (.sipush 9999, 3) := by decide +kernel
theorem dX9_number_77 : decode cX9_number 77 = .ok (.if_icmp .le 8, 3) := by decide +kernel
theorem dX9_number_80 : decode cX9_number 80 = .ok (.iload 4, 2) := by decide +kernel
theorem dX9_number_82 : decode cX9_number 82 = .ok (.goto 21, 3) := by decide +kernel
theorem dX9_number_85 : decode cX9_number 85 = .ok (.bipush 10, 2) := by decide +kernel
theorem dX9_number_87 : decode cX9_number 87 = .ok (.iload 4, 2) := by decide +kernel
theorem dX9_number_89 : decode cX9_number 89 = .ok (.imul, 1) := by decide +kernel
theorem dX9_number_90 : decode cX9_number 90 = .ok (.aload_n 0, 1) := by decide +kernel
theorem dX9_number_91 : decode cX9_number 91 = .ok (.getfield 44, 3) := by decide +kernel
theorem dX9_number_94 : decode cX9_number 94 = .ok (.aload_n 0, 1) := by decide +kernel
theorem dX9_number_95 : decode cX9_number 95 = .ok (.getfield 204, 3) := by decide +kernel
theorem dX9_number_98 : decode cX9_number 98 = .ok (.iaload, 1) := by decide +kernel
theorem dX9_number_99 : decode cX9_number 99 = .ok (.iadd, 1) := by decide +kernel
theorem dX9_number_100 : decode cX9_number 100 = .ok (.bipush 48, 2) := by decide +kernel
theorem dX9_number_102 : decode cX9_number 102 = .ok (.isub, 1) := by decide +kernel
theorem dX9_number_103 : decode cX9_number 103 = .ok (.istore 4, 2) := by decide +kernel
theorem dX9_number_105 : decode cX9_number 105 = .ok (.aload_n 0, 1) := by decide +kernel
theorem dX9_number_106 : decode cX9_number 106 = .ok (.dup, 1) := by decide +kernel
theorem dX9_number_107 : decode cX9_number 107 = .ok (.getfield 204, 3) := by decide +kernel
theorem dX9_number_110 : decode cX9_number 110 = .ok (.iconst 1, 1) := by decide +kernel
theorem dX9_number_111 : decode cX9_number 111 = .ok (.iadd, 1) := by decide +kernel
theorem dX9_number_112 : decode cX9_number 112 = .ok (.putfield 204, 3) := by decide +kernel
theorem dX9_number_115 : decode cX9_number 115 = .ok (.goto (-76), 3) := by decide +kernel
theorem dX9_number_118 : decode cX9_number 118 = .ok (.aload_n 0, 1) := by decide +kernel
theorem dX9_number_119 : decode cX9_number 119 = .ok (.iload 4, 2) := by decide +kernel
theorem dX9_number_121 : decode cX9_number 121 = .ok (.i2l, 1) := by decide +kernel
theorem dX9_number_122 : decode cX9_number 122 = .ok (.iload_n 1, 1) := by decide +kernel
theorem dX9_number_123 : decode cX9_number 123 = .ok (.i2l, 1) := by decide +kernel
theorem dX9_number_124 : decode cX9_number 124 = .ok (.iload_n 2, 1) := by decide +kernel
theorem dX9_number_125 : decode cX9_number 125 = .ok (.i2l, 1) := by decide +kernel
theorem dX9_number_126 : decode cX9_number 126 = .ok (.invokestatic 102, 3) := by decide +kernel
theorem dX9_number_129 : decode cX9_number 129 = .ok (.ifCond .ne 7, 3) := by decide +kernel
theorem dX9_number_132 : decode cX9_number 132 = .ok (.iconst 1, 1) := by decide +kernel
theorem dX9_number_133 : decode cX9_number 133 = .ok (.goto 4, 3) := by decide +kernel
theorem dX9_number_136 : decode cX9_number 136 = .ok (.iconst 0, 1) := by decide +kernel
theorem dX9_number_137 : decode cX9_number 137 = .ok (.putfield 207, 3) := by decide +kernel
theorem dX9_number_140 : decode cX9_number 140 = .ok (.aload_n 0, 1) := by decide +kernel
theorem dX9_number_141 : decode cX9_number 141 = .ok (.aload_n 0, 1) := by decide +kernel
theorem dX9_number_142 : decode cX9_number 142 = .ok (.getfield 207, 3) := by decide +kernel
theorem dX9_number_145 : decode cX9_number 145 = .ok (.ifCond .eq 7, 3) := by decide +kernel
theorem dX9_number_148 : decode cX9_number 148 = .ok (.iload_n 3, 1) := by decide +kernel
theorem dX9_number_149 : decode cX9_number 149 = .ok (.goto 7, 3) := by decide +kernel
theorem dX9_number_152 : decode cX9_number 152 = .ok (.aload_n 0, 1) := by decide +kernel
theorem dX9_number_153 : decode cX9_number 153 = .ok (.getfield 204, 3) := by decide +kernel
theorem dX9_number_156 : decode cX9_number 156 = .ok (.putfield 204, 3) := by decide +kernel
theorem dX9_number_159 : decode cX9_number 159 = .ok (.iload 4, 2) := by decide +kernel
theorem dX9_number_161 : decode cX9_number 161 = .ok (.ireturn, 1) := by decide +kernel
set_option maxRecDepth 20000 in
theorem ggX9_letter_X9_next : GoodIn wsX9_letter wsX9_next := goodIn_r _ [9, 4, 10, 11, 15, 16, 17, 18, 19, 20, 21, 22, 23, 24, 25, 26, 27, 28, 29, 30, 31, 32, 33, 34, 35, 36, 37, 38, 39, 40, 41, 42, 43, 44, 45, 46, 47, 48, 49, 50, 51] (by decide +kernel) (by decide +kernel)
set_option maxRecDepth 20000 in
theorem gX9_letter_X9_next : GoodIn wsX9_letter (wsV RX9 211 RX9 yX9_next wsX9_next) := goodIn_app (goodIn_of _ (by decide +kernel)) ggX9_letter_X9_next
set_option maxRecDepth 20000 in
theorem ggX9_letter_X9_in : GoodIn wsX9_letter wsX9_in := goodIn_r _ [14] (by decide +kernel) (by decide +kernel)
set_option maxRecDepth 20000 in
theorem gX9_letter_X9_in : GoodIn wsX9_letter (va_wsS RX9 102 yX9_in wsX9_in) := goodIn_app (goodIn_of _ (by decide +kernel)) ggX9_letter_X9_in
theorem dX9_letter_0 : decode cX9_letter 0 = .ok (.aload_n 0, 1) := by decide +kernel
theorem dX9_letter_1 : decode cX9_letter 1 = .ok (.getfield 207, 3) := by decide +kernel
theorem dX9_letter_4 : decode cX9_letter 4 = .ok (.ifCond .eq 7, 3) := by decide +kernel
theorem dX9_letter_7 : decode cX9_letter 7 = .ok (.iconst (-1), 1) := by decide +kernel
theorem dX9_letter_8 : decode cX9_letter 8 = .ok (.goto 10, 3) := by decide +kernel
theorem dX9_letter_11 : decode cX9_letter 11 = .ok (.aload_n 0, 1) := by decide +kernel
theorem dX9_letter_12 : decode cX9_letter 12 = .ok (.invokevirtual 211, 3) := by decide +kernel
theorem dX9_letter_15 : decode cX9_letter 15 = .ok (.bipush 97, 2) := by decide +kernel
theorem dX9_letter_17 : decode cX9_letter 17 = .ok (.isub, 1) := by decide +kernel
theorem dX9_letter_18 : decode cX9_letter 18 = .ok (.istore_n 2, 1) := by decide +kernel
theorem dX9_letter_19 : decode cX9_letter 19 = .ok (.aload_n 0, 1) := by decide +kernel
theorem dX9_letter_20 : decode cX9_letter 20 = .ok (.aload_n 0, 1) := by decide +kernel
theorem dX9_letter_21 : decode cX9_letter 21 = .ok (.getfield 207, 3) := by decide +kernel
theorem dX9_letter_24 : decode cX9_letter 24 = .ok (.ifCond .ne 36, 3) := by decide +kernel
theorem dX9_letter_27 : decode cX9_letter 27 = .ok (.iload_n 2, 1) := by decide +kernel
theorem dX9_letter_28 : decode cX9_letter 28 = .ok (.i2l, 1) := by decide +kernel
theorem dX9_letter_29 : decode cX9_letter 29 = .ok (.lconst 0, 1) := by decide +kernel
theorem dX9_letter_30 : decode cX9_letter 30 = .ok (.ldc2_w 219, 3) := by decide +kernel
theorem dX9_letter_33 : decode cX9_letter 33 = .ok (.invokestatic 102, 3) := by decide +kernel
theorem dX9_letter_36 : decode cX9_letter 36 = .ok (.ifCond .eq 24, 3) := by decide +kernel
theorem dX9_letter_39 : decode cX9_letter 39 = .ok (.aload_n 0, 1) := by decide +kernel
theorem dX9_letter_40 : decode cX9_letter 40 = .ok (.getfield 221, 3) := by decide +kernel
theorem dX9_letter_43 : decode cX9_letter 43 = .ok (.iload_n 2, 1) := by decide +kernel
theorem dX9_letter_44 : decode cX9_letter 44 = .ok (.ishr, 1) := by decide +kernel
theorem dX9_letter_45 : decode cX9_letter 45 = .ok (.iconst 1, 1) := by decide +kernel
theorem dX9_letter_46 : decode cX9_letter 46 = .ok (.iand, 1) := by decide +kernel
theorem dX9_letter_47 : decode cX9_letter 47 = .ok (.iconst 1, 1) := by decide +kernel
theorem dX9_letter_48 : decode cX9_letter 48 = .ok (.if_icmp .ne 7, 3) := by decide +kernel
theorem dX9_letter_51 : decode cX9_letter 51 = .ok (.iconst 1, 1) := by decide +kernel
theorem dX9_letter_52 : decode cX9_letter 52 = .ok (.goto 4, 3) := by decide +kernel
theorem dX9_letter_55 : decode cX9_letter 55 = .ok (.iconst 0, 1) := by decide +kernel
theorem dX9_letter_56 : decode cX9_letter 56 = .ok (.iload_n 1, 1) := by decide +kernel
theorem dX9_letter_57 : decode cX9_letter 57 = .ok (.if_icmp .eq 7, 3) := by decide +kernel
theorem dX9_letter_60 : decode cX9_letter 60 = .ok (.iconst 1, 1) := by decide +kernel
theorem dX9_letter_61 : decode cX9_letter 61 = .ok (.goto 4, 3) := by decide +kernel
theorem dX9_letter_64 : decode cX9_letter 64 = .ok (.iconst 0, 1) := by decide +kernel
theorem dX9_letter_65 : decode cX9_letter 65 = .ok (.putfield 207, 3) := by decide +kernel
theorem dX9_letter_68 : decode cX9_letter 68 = .ok (.aload_n 0, 1) := by decide +kernel
theorem dX9_letter_69 : decode cX9_letter 69 = .ok (.dup, 1) := by decide +kernel
theorem dX9_letter_70 : decode cX9_letter 70 = .ok (.getfield 204, 3) := by decide +kernel
theorem dX9_letter_73 : decode cX9_letter 73 = .ok (.aload_n 0, 1) := by decide +kernel
theorem dX9_letter_74 : decode cX9_letter 74 = .ok (.getfield 207, 3) := by decide +kernel
theorem dX9_letter_77 : decode cX9_letter 77 = .ok (.ifCond .eq 7, 3) := by decide +kernel
theorem dX9_letter_80 : decode cX9_letter 80 = .ok (.iconst 0, 1) := by decide +kernel
theorem dX9_letter_81 : decode cX9_letter 81 = .ok (.goto 4, 3) := by decide +kernel
theorem dX9_letter_84 : decode cX9_letter 84 = .ok (.iconst 1, 1) := by decide +kernel
theorem dX9_letter_85 : decode cX9_letter 85 = .ok (.iadd, 1) := by decide +kernel
theorem dX9_letter_86 : decode cX9_letter 86 = .ok (.putfield 204, 3) := by decide +kernel
theorem dX9_letter_89 : decode cX9_letter 89 = .ok (.aload_n 0, 1) := by decide +kernel
theorem dX9_letter_90 : decode cX9_letter 90 = .ok (.getfield 207, 3) := by decide +kernel
theorem dX9_letter_93 : decode cX9_letter 93 = .ok (.ifCond .eq 7, 3) := by decide +kernel
theorem dX9_letter_96 : decode cX9_letter 96 = .ok (.iconst 0, 1) := by decide +kernel
theorem dX9_letter_97 : decode cX9_letter 97 = .ok (.goto 4, 3) := by decide +kernel
theorem dX9_letter_100 : decode cX9_letter 100 = .ok (.iload_n 2, 1) := by decide +kernel
theorem dX9_letter_101 : decode cX9_letter 101 = .ok (.ireturn, 1) := by decide +kernel
set_option maxRecDepth 20000 in
theorem ggX9_clause_X9_letter : GoodIn wsX9_clause wsX9_letter := goodIn_r _ [11, 1, 12, 3, 2, 13, 14, 15, 10, 16, 17, 18, 19, 20, 21, 32, 33, 34, 35, 36, 37, 38, 39, 40, 41, 42, 43, 44, 45, 46, 47, 48, 49, 50, 51, 52, 53, 54, 55, 56, 57, 58, 59, 60, 61, 62, 63, 64, 65, 66, 67, 68] (by decide +kernel) (by decide +kernel)
set_option maxRecDepth 20000 in
theorem gX9_clause_X9_letter : GoodIn wsX9_clause (wsV RX9 224 RX9 yX9_letter wsX9_letter) := goodIn_app (goodIn_of _ (by decide +kernel)) ggX9_clause_X9_letter
set_option maxRecDepth 20000 in
theorem ggX9_clause_X9_needs : GoodIn wsX9_clause wsX9_needs := goodIn_r _ [25, 1, 2, 13, 14, 15, 10, 16, 17, 18, 32, 33, 34, 35, 36, 37, 38, 39, 40, 41, 42, 43, 44, 45, 46, 47, 48, 49, 50, 51, 52, 53, 54, 55, 56, 57, 58, 59, 60, 61, 62, 63, 64, 65, 66, 67, 68] (by decide +kernel) (by decide +kernel)
set_option maxRecDepth 20000 in
theorem gX9_clause_X9_needs : GoodIn wsX9_clause (wsV RX9 228 RX9 yX9_needs wsX9_needs) := goodIn_app (goodIn_of _ (by decide +kernel)) ggX9_clause_X9_needs
set_option maxRecDepth 20000 in
theorem ggX9_clause_X9_number : GoodIn wsX9_clause wsX9_number := goodIn_r _ [29, 1, 30, 31, 2, 17, 18, 13, 14, 15, 10, 16, 19, 20, 21, 32, 33, 34, 35, 36, 37, 38, 39, 40, 41, 42, 43, 44, 45, 46, 47, 48, 49, 50, 51, 52, 53, 54, 55, 56, 57, 58, 59, 60, 61, 62, 63, 64, 65, 66, 67, 68] (by decide +kernel) (by decide +kernel)
set_option maxRecDepth 20000 in
theorem gX9_clause_X9_number : GoodIn wsX9_clause (wsV RX9 232 RX9 yX9_number wsX9_number) := goodIn_app (goodIn_of _ (by decide +kernel)) ggX9_clause_X9_number
set_option maxRecDepth 20000 in
theorem ggX9_clause_X9_next : GoodIn wsX9_clause wsX9_next := goodIn_r _ [16, 2, 17, 18, 32, 33, 34, 35, 36, 37, 38, 39, 40, 41, 42, 43, 44, 45, 46, 47, 48, 49, 50, 51, 52, 53, 54, 55, 56, 57, 58, 59, 60, 61, 62, 63, 64, 65, 66, 67, 68] (by decide +kernel) (by decide +kernel)
set_option maxRecDepth 20000 in
theorem gX9_clause_X9_next : GoodIn wsX9_clause (wsV RX9 211 RX9 yX9_next wsX9_next) := goodIn_app (goodIn_of _ (by decide +kernel)) ggX9_clause_X9_next
theorem dX9_clause_0 : decode cX9_clause 0 = .ok (.aload_n 0, 1) := by decide +kernel
theorem dX9_clause_1 : decode cX9_clause 1 = .ok (.iconst 0, 1) := by decide +kernel
theorem dX9_clause_2 : decode cX9_clause 2 = .ok (.invokevirtual 224, 3) := by decide +kernel
theorem dX9_clause_5 : decode cX9_clause 5 = .ok (.istore_n 1, 1) := by decide +kernel
theorem dX9_clause_6 : decode cX9_clause 6 = .ok (.aload_n 0, 1) := by decide +kernel
theorem dX9_clause_7 : decode cX9_clause 7 = .ok (.bipush 61, 2) := by decide +kernel
theorem dX9_clause_9 : decode cX9_clause 9 = .ok (.invokevirtual 228, 3) := by decide +kernel
theorem dX9_clause_12 : decode cX9_clause 12 = .ok (.aload_n 0, 1) := by decide +kernel
theorem dX9_clause_13 : decode cX9_clause 13 = .ok (.iconst 1, 1) := by decide +kernel
theorem dX9_clause_14 : decode cX9_clause 14 = .ok (.bipush 20, 2) := by decide +kernel
theorem dX9_clause_16 : decode cX9_clause 16 = .ok (.invokevirtual 232, 3) := by decide +kernel
theorem dX9_clause_19 : decode cX9_clause 19 = .ok (.istore_n 2, 1) := by decide +kernel
theorem dX9_clause_20 : decode cX9_clause 20 = .ok (.aload_n 0, 1) := by decide +kernel
theorem dX9_clause_21 : decode cX9_clause 21 = .ok (.bipush 47, 2) := by decide +kernel
theorem dX9_clause_23 : decode cX9_clause 23 = .ok (.invokevirtual 228, 3) := by decide +kernel
theorem dX9_clause_26 : decode cX9_clause 26 = .ok (.aload_n 0, 1) := by decide +kernel
theorem dX9_clause_27 : decode cX9_clause 27 = .ok (.iconst 0, 1) := by decide +kernel
theorem dX9_clause_28 : decode cX9_clause 28 = .ok (.bipush 99, 2) := by decide +kernel
theorem dX9_clause_30 : decode cX9_clause 30 = .ok (.invokevirtual 232, 3) := by decide +kernel
theorem dX9_clause_33 : decode cX9_clause 33 = .ok (.istore_n 3, 1) := by decide +kernel
theorem dX9_clause_34 : decode cX9_clause 34 = .ok (.iconst 0, 1) := by decide +kernel
theorem dX9_clause_35 : decode cX9_clause 35 = .ok (.istore 4, 2) := by decide +kernel
theorem dX9_clause_37 : decode cX9_clause 37 = .ok (.aload_n 0, 1) := by decide +kernel
theorem dX9_clause_38 : decode cX9_clause 38 = .ok (.getfield 207, 3) := by decide +kernel
theorem dX9_clause_41 : decode cX9_clause 41 = .ok (.ifCond .ne 16, 3) := by decide +kernel
theorem dX9_clause_44 : decode cX9_clause 44 = .ok (.aload_n 0, 1) := by decide +kernel
theorem dX9_clause_45 : decode cX9_clause 45 = .ok (.invokevirtual 211, 3) := by decide +kernel
theorem dX9_clause_48 : decode cX9_clause 48 = .ok (.bipush 58, 2) := by decide +kernel
theorem dX9_clause_50 : decode cX9_clause 50 = .ok (.if_icmp .ne 7, 3) := by decide +kernel
theorem dX9_clause_53 : decode cX9_clause 53 = .ok (.iconst 1, 1) := by decide +kernel
theorem dX9_clause_54 : decode cX9_clause 54 = .ok (.goto 4, 3) := by decide +kernel
theorem dX9_clause_57 : decode cX9_clause 57 = .ok (.iconst 0, 1) := by decide +kernel
theorem dX9_clause_58 : decode cX9_clause 58 = .ok (.istore 5, 2) := by decide +kernel
theorem dX9_clause_60 : decode cX9_clause 60 = .ok (.iload 5, 2) := by decide +kernel
theorem dX9_clause_62 : decode cX9_clause 62 = .ok (.ifCond .eq 51, 3) := by decide +kernel
theorem dX9_clause_65 : decode cX9_clause 65 = .ok (.aload_n 0, 1) := by decide +kernel
theorem dX9_clause_66 : decode cX9_clause 66 = .ok (.dup, 1) := by decide +kernel
theorem dX9_clause_67 : decode cX9_clause 67 = .ok (.getfield 204, 3) := by decide +kernel
theorem dX9_clause_70 : decode cX9_clause 70 = .ok (.iconst 1, 1) := by decide +kernel
theorem dX9_clause_71 : decode cX9_clause 71 = .ok (.iadd, 1) := by decide +kernel
theorem dX9_clause_72 : decode cX9_clause 72 = .ok (.putfield 204, 3) := by decide +kernel
theorem dX9_clause_75 : decode cX9_clause 75 = .ok (.iload 4, 2) := by decide +kernel
theorem dX9_clause_77 : decode cX9_clause 77 = .ok (.iconst 1, 1) := by decide +kernel
theorem dX9_clause_78 : decode cX9_clause 78 = .ok (.aload_n 0, 1) := by decide +kernel
theorem dX9_clause_79 : decode cX9_clause 79 = .ok (.iconst 1, 1) := by decide +kernel
theorem dX9_clause_80 : decode cX9_clause 80 = .ok (.invokevirtual 224, 3) := by decide +kernel
theorem dX9_clause_83 : decode cX9_clause 83 = .ok (.ishl, 1) := by decide +kernel
theorem dX9_clause_84 : decode cX9_clause 84 = .ok (.ior, 1) := by decide +kernel
theorem dX9_clause_85 : decode cX9_clause 85 = .ok (.istore 4, 2) := by decide +kernel
theorem dX9_clause_87 : decode cX9_clause 87 = .ok (.aload_n 0, 1) := by decide +kernel
theorem dX9_clause_88 : decode cX9_clause 88 = .ok (.getfield 207, 3) := by decide +kernel
theorem dX9_clause_91 : decode cX9_clause 91 = .ok (.ifCond .ne 16, 3) := by decide +kernel
theorem dX9_clause_94 : decode cX9_clause 94 = .ok (.aload_n 0, 1) := by decide +kernel
theorem dX9_clause_95 : decode cX9_clause 95 = .ok (.invokevirtual 211, 3) := by decide +kernel
theorem dX9_clause_98 : decode cX9_clause 98 = .ok (.bipush 44, 2) := by decide +kernel
theorem dX9_clause_100 : decode cX9_clause 100 = .ok (.if_icmp .ne 7, 3) := by decide +kernel
theorem dX9_clause_103 : decode cX9_clause 103 = .ok (.iconst 1, 1) := by decide +kernel
theorem dX9_clause_104 : decode cX9_clause 104 = .ok (.goto 4, 3) := by decide +kernel
theorem dX9_clause_107 : decode cX9_clause 107 = .ok (.iconst 0, 1) := by decide +kernel
theorem dX9_clause_108 : decode cX9_clause 108 = .ok (.istore 5, 2) := by decide +kernel
theorem dX9_clause_110 : decode cX9_clause 110 = .ok (.goto (-50), 3) := by decide +kernel
theorem dX9_clause_113 : decode cX9_clause 113 = .ok (.aload_n 0, 1) := by decide +kernel
theorem dX9_clause_114 : decode cX9_clause 114 = .ok (.dup, 1) := by decide +kernel
theorem dX9_clause_115 : decode cX9_clause 115 = .ok (.getfield 221, 3) := by decide +kernel
theorem dX9_clause_118 : decode cX9_clause 118 = .ok (.aload_n 0, 1) := by decide +kernel
theorem dX9_clause_119 : decode cX9_clause 119 = .ok (.getfield 207, 3) := by decide +kernel
theorem dX9_clause_122 : decode cX9_clause 122 = .ok (.ifCond .eq 7, 3) := by decide +kernel
theorem dX9_clause_125 : decode cX9_clause 125 = .ok (.iconst 0, 1) := by decide +kernel
theorem dX9_clause_126 : decode cX9_clause 126 = .ok (.goto 6, 3) := by decide +kernel
theorem dX9_clause_129 : decode cX9_clause 129 = .ok (.iconst 1, 1) := by decide +kernel
theorem dX9_clause_130 : decode cX9_clause 130 = .ok (.iload_n 1, 1) := by decide +kernel
theorem dX9_clause_131 : decode cX9_clause 131 = .ok (.ishl, 1) := by decide +kernel
theorem dX9_clause_132 : decode cX9_clause 132 = .ok (.ior, 1) := by decide +kernel
theorem dX9_clause_133 : decode cX9_clause 133 = .ok (.putfield 221, 3) := by decide +kernel
theorem dX9_clause_136 : decode cX9_clause 136 = .ok (.aload_n 0, 1) := by decide +kernel
theorem dX9_clause_137 : decode cX9_clause 137 = .ok (.getfield 56, 3) := by decide +kernel
theorem dX9_clause_140 : decode cX9_clause 140 = .ok (.iload_n 1, 1) := by decide +kernel
theorem dX9_clause_141 : decode cX9_clause 141 = .ok (.iload_n 2, 1) := by decide +kernel
theorem dX9_clause_142 : decode cX9_clause 142 = .ok (.iastore, 1) := by decide +kernel
theorem dX9_clause_143 : decode cX9_clause 143 = .ok (.aload_n 0, 1) := by decide +kernel
theorem dX9_clause_144 : decode cX9_clause 144 = .ok (.getfield 59, 3) := by decide +kernel
theorem dX9_clause_147 : decode cX9_clause 147 = .ok (.iload_n 1, 1) := by decide +kernel
theorem dX9_clause_148 : decode cX9_clause 148 = .ok (.iload_n 3, 1) := by decide +kernel
theorem dX9_clause_149 : decode cX9_clause 149 = .ok (.iastore, 1) := by decide +kernel
theorem dX9_clause_150 : decode cX9_clause 150 = .ok (.aload_n 0, 1) := by decide +kernel
theorem dX9_clause_151 : decode cX9_clause 151 = .ok (.getfield 62, 3) := by decide +kernel
theorem dX9_clause_154 : decode cX9_clause 154 = .ok (.iload_n 1, 1) := by decide +kernel
theorem dX9_clause_155 : decode cX9_clause 155 = .ok (.iload 4, 2) := by decide +kernel
theorem dX9_clause_157 : decode cX9_clause 157 = .ok (.iastore, 1) := by decide +kernel
theorem dX9_clause_158 : decode cX9_clause 158 = .ok (.return_, 1) := by decide +kernel
set_option maxRecDepth 20000 in
theorem ggX9_skills_X9_clause : GoodIn wsX9_skills wsX9_clause := goodIn_r _ [19, 2, 1, 3, 7, 9, 11, 20, 21, 22, 18, 23, 24, 25, 26, 27, 28, 4, 29, 30, 31, 32, 33, 34, 35, 36, 37, 38, 39, 40, 41, 42, 43, 44, 45, 46, 47, 48, 49, 50, 51, 52, 53, 54, 55, 56, 57, 58, 59, 60, 61, 62, 63, 64, 65, 66, 67, 68, 69, 70, 71, 72, 73, 74, 75, 76, 77, 78, 79] (by decide +kernel) (by decide +kernel)
set_option maxRecDepth 20000 in
theorem gX9_skills_X9_clause : GoodIn wsX9_skills (wsV RX9 235 RX9 yX9_clause wsX9_clause) := goodIn_app (goodIn_of _ (by decide +kernel)) ggX9_skills_X9_clause
set_option maxRecDepth 20000 in
theorem ggX9_skills_X9_next : GoodIn wsX9_skills wsX9_next := goodIn_r _ [28, 1, 4, 29, 43, 44, 45, 46, 47, 48, 49, 50, 51, 52, 53, 54, 55, 56, 57, 58, 59, 60, 61, 62, 63, 64, 65, 66, 67, 68, 69, 70, 71, 72, 73, 74, 75, 76, 77, 78, 79] (by decide +kernel) (by decide +kernel)
set_option maxRecDepth 20000 in
theorem gX9_skills_X9_next : GoodIn wsX9_skills (wsV RX9 211 RX9 yX9_next wsX9_next) := goodIn_app (goodIn_of _ (by decide +kernel)) ggX9_skills_X9_next
theorem dX9_skills_0 : decode cX9_skills 0 = .ok (.aload_n 0, 1) := by decide +kernel
theorem dX9_skills_1 : decode cX9_skills 1 = .ok (.iconst 0, 1) := by decide +kernel
theorem dX9_skills_2 : decode cX9_skills 2 = .ok (.putfield 204, 3) := by decide +kernel
theorem dX9_skills_5 : decode cX9_skills 5 = .ok (.aload_n 0, 1) := by decide +kernel
theorem dX9_skills_6 : decode cX9_skills 6 = .ok (.iconst 0, 1) := by decide +kernel
theorem dX9_skills_7 : decode cX9_skills 7 = .ok (.putfield 207, 3) := by decide +kernel
theorem dX9_skills_10 : decode cX9_skills 10 = .ok (.aload_n 0, 1) := by decide +kernel
theorem dX9_skills_11 : decode cX9_skills 11 = .ok (.iconst 0, 1) := by decide +kernel
theorem dX9_skills_12 : decode cX9_skills 12 = .ok (.putfield 221, 3) := by decide +kernel
theorem dX9_skills_15 : decode cX9_skills 15 = .ok (.iconst 0, 1) := by decide +kernel
theorem dX9_skills_16 : decode cX9_skills 16 = .ok (.istore_n 1, 1) := by decide +kernel
theorem dX9_skills_17 : decode cX9_skills 17 = .ok (.iconst 1, 1) := by decide +kernel
theorem dX9_skills_18 : decode cX9_skills 18 = .ok (.istore_n 2, 1) := by decide +kernel
theorem dX9_skills_19 : decode cX9_skills 19 = .ok (.iload_n 2, 1) := by decide +kernel
theorem dX9_skills_20 : decode cX9_skills 20 = .ok (.ifCond .eq 59, 3) := by decide +kernel
theorem dX9_skills_23 : decode cX9_skills 23 = .ok (.aload_n 0, 1) := by decide +kernel
theorem dX9_skills_24 : decode cX9_skills 24 = .ok (.invokevirtual 235, 3) := by decide +kernel
theorem dX9_skills_27 : decode cX9_skills 27 = .ok (.iinc 1 1, 3) := by decide +kernel
theorem dX9_skills_30 : decode cX9_skills 30 = .ok (.aload_n 0, 1) := by decide +kernel
theorem dX9_skills_31 : decode cX9_skills 31 = .ok (.getfield 207, 3) := by decide +kernel
theorem dX9_skills_34 : decode cX9_skills 34 = .ok (.ifCond .ne 22, 3) := by decide +kernel
theorem dX9_skills_37 : decode cX9_skills 37 = .ok (.iload_n 1, 1) := by decide +kernel
theorem dX9_skills_38 : decode cX9_skills 38 = .ok (.bipush 8, 2) := by decide +kernel
theorem dX9_skills_40 : decode cX9_skills 40 = .ok (.if_icmp .ge 16, 3) := by decide +kernel
theorem dX9_skills_43 : decode cX9_skills 43 = .ok (.aload_n 0, 1) := by decide +kernel
theorem dX9_skills_44 : decode cX9_skills 44 = .ok (.invokevirtual 211, 3) := by decide +kernel
theorem dX9_skills_47 : decode cX9_skills 47 = .ok (.bipush 59, 2) := by decide +kernel
theorem dX9_skills_49 : decode cX9_skills 49 = .ok (.if_icmp .ne 7, 3) := by decide +kernel
theorem dX9_skills_52 : decode cX9_skills 52 = .ok (.iconst 1, 1) := by decide +kernel
theorem dX9_skills_53 : decode cX9_skills 53 = .ok (.goto 4, 3) := by decide +kernel
theorem dX9_skills_56 : decode cX9_skills 56 = .ok (.iconst 0, 1) := by decide +kernel
theorem dX9_skills_57 : decode cX9_skills 57 = .ok (.istore_n 2, 1) := by decide +kernel
theorem dX9_skills_58 : decode cX9_skills 58 = .ok (.aload_n 0, 1) := by decide +kernel
theorem dX9_skills_59 : decode cX9_skills 59 = .ok (.dup, 1) := by decide +kernel
theorem dX9_skills_60 : decode cX9_skills 60 = .ok (.getfield 204, 3) := by decide +kernel
theorem dX9_skills_63 : decode cX9_skills 63 = .ok (.iload_n 2, 1) := by decide +kernel
theorem dX9_skills_64 : decode cX9_skills 64 = .ok (.ifCond .eq 7, 3) := by decide +kernel
theorem dX9_skills_67 : decode cX9_skills 67 = .ok (.iconst 1, 1) := by decide +kernel
theorem dX9_skills_68 : decode cX9_skills 68 = .ok (.goto 4, 3) := by decide +kernel
theorem dX9_skills_71 : decode cX9_skills 71 = .ok (.iconst 0, 1) := by decide +kernel
theorem dX9_skills_72 : decode cX9_skills 72 = .ok (.iadd, 1) := by decide +kernel
theorem dX9_skills_73 : decode cX9_skills 73 = .ok (.putfield 204, 3) := by decide +kernel
theorem dX9_skills_76 : decode cX9_skills 76 = .ok (.goto (-57), 3) := by decide +kernel
theorem dX9_skills_79 : decode cX9_skills 79 = .ok (.aload_n 0, 1) := by decide +kernel
theorem dX9_skills_80 : decode cX9_skills 80 = .ok (.aload_n 0, 1) := by decide +kernel
theorem dX9_skills_81 : decode cX9_skills 81 = .ok (.getfield 207, 3) := by decide +kernel
theorem dX9_skills_84 : decode cX9_skills 84 = .ok (.ifCond .ne 10, 3) := by decide +kernel
theorem dX9_skills_87 : decode cX9_skills 87 = .ok (.aload_n 0, 1) := by decide +kernel
theorem dX9_skills_88 : decode cX9_skills 88 = .ok (.invokevirtual 211, 3) := by decide +kernel
theorem dX9_skills_91 : decode cX9_skills 91 = .ok (.ifCond .eq 7, 3) := by decide +kernel
theorem dX9_skills_94 : decode cX9_skills 94 = .ok (.iconst 1, 1) := by decide +kernel
theorem dX9_skills_95 : decode cX9_skills 95 = .ok (.goto 4, 3) := by decide +kernel
theorem dX9_skills_98 : decode cX9_skills 98 = .ok (.iconst 0, 1) := by decide +kernel
theorem dX9_skills_99 : decode cX9_skills 99 = .ok (.putfield 207, 3) := by decide +kernel
theorem dX9_skills_102 : decode cX9_skills 102 = .ok (.aload_n 0, 1) := by decide +kernel
theorem dX9_skills_103 : decode cX9_skills 103 = .ok (.iconst 0, 1) := by decide +kernel
theorem dX9_skills_104 : decode cX9_skills 104 = .ok (.putfield 201, 3) := by decide +kernel
theorem dX9_skills_107 : decode cX9_skills 107 = .ok (.aload_n 0, 1) := by decide +kernel
theorem dX9_skills_108 : decode cX9_skills 108 = .ok (.getfield 207, 3) := by decide +kernel
theorem dX9_skills_111 : decode cX9_skills 111 = .ok (.ifCond .eq 11, 3) := by decide +kernel
theorem dX9_skills_114 : decode cX9_skills 114 = .ok (.bipush (-20), 2) := by decide +kernel
theorem dX9_skills_116 : decode cX9_skills 116 = .ok (.aload_n 0, 1) := by decide +kernel
theorem dX9_skills_117 : decode cX9_skills 117 = .ok (.getfield 204, 3) := by decide +kernel
theorem dX9_skills_120 : decode cX9_skills 120 = .ok (.isub, 1) := by decide +kernel
theorem dX9_skills_121 : decode cX9_skills 121 = .ok (.ireturn, 1) := by decide +kernel
theorem dX9_skills_122 : decode cX9_skills 122 = .ok (.aload_n 0, 1) := by decide +kernel
theorem dX9_skills_123 : decode cX9_skills 123 = .ok (.aload_n 0, 1) := by decide +kernel
theorem dX9_skills_124 : decode cX9_skills 124 = .ok (.getfield 221, 3) := by decide +kernel
theorem dX9_skills_127 : decode cX9_skills 127 = .ok (.putfield 238, 3) := by decide +kernel
theorem dX9_skills_130 : decode cX9_skills 130 = .ok (.iconst 0, 1) := by decide +kernel
theorem dX9_skills_131 : decode cX9_skills 131 = .ok (.istore_n 3, 1) := by decide +kernel
theorem dX9_skills_132 : decode cX9_skills 132 = .ok (.iload_n 3, 1) := by decide +kernel
theorem dX9_skills_133 : decode cX9_skills 133 = .ok (.bipush 8, 2) := by decide +kernel
theorem dX9_skills_135 : decode cX9_skills 135 = .ok (.if_icmp .ge 45, 3) := by decide +kernel
theorem dX9_skills_138 : decode cX9_skills 138 = .ok (.aload_n 0, 1) := by decide +kernel
theorem dX9_skills_139 : decode cX9_skills 139 = .ok (.getfield 47, 3) := by decide +kernel
theorem dX9_skills_142 : decode cX9_skills 142 = .ok (.iload_n 3, 1) := by decide +kernel
theorem dX9_skills_143 : decode cX9_skills 143 = .ok (.aload_n 0, 1) := by decide +kernel
theorem dX9_skills_144 : decode cX9_skills 144 = .ok (.getfield 56, 3) := by decide +kernel
theorem dX9_skills_147 : decode cX9_skills 147 = .ok (.iload_n 3, 1) := by decide +kernel
theorem dX9_skills_148 : decode cX9_skills 148 = .ok (.iaload, 1) := by decide +kernel
theorem dX9_skills_149 : decode cX9_skills 149 = .ok (.iastore, 1) := by decide +kernel
theorem dX9_skills_150 : decode cX9_skills 150 = .ok (.aload_n 0, 1) := by decide +kernel
theorem dX9_skills_151 : decode cX9_skills 151 = .ok (.getfield 50, 3) := by decide +kernel
theorem dX9_skills_154 : decode cX9_skills 154 = .ok (.iload_n 3, 1) := by decide +kernel
theorem dX9_skills_155 : decode cX9_skills 155 = .ok (.aload_n 0, 1) := by decide +kernel
theorem dX9_skills_156 : decode cX9_skills 156 = .ok (.getfield 59, 3) := by decide +kernel
theorem dX9_skills_159 : decode cX9_skills 159 = .ok (.iload_n 3, 1) := by decide +kernel
theorem dX9_skills_160 : decode cX9_skills 160 = .ok (.iaload, 1) := by decide +kernel
theorem dX9_skills_161 : decode cX9_skills 161 = .ok (.iastore, 1) := by decide +kernel
theorem dX9_skills_162 : decode cX9_skills 162 = .ok (.aload_n 0, 1) := by decide +kernel
theorem dX9_skills_163 : decode cX9_skills 163 = .ok (.getfield 53, 3) := by decide +kernel
theorem dX9_skills_166 : decode cX9_skills 166 = .ok (.iload_n 3, 1) := by decide +kernel
theorem dX9_skills_167 : decode cX9_skills 167 = .ok (.aload_n 0, 1) := by decide +kernel
theorem dX9_skills_168 : decode cX9_skills 168 = .ok (.getfield 62, 3) := by decide +kernel
theorem dX9_skills_171 : decode cX9_skills 171 = .ok (.iload_n 3, 1) := by decide +kernel
theorem dX9_skills_172 : decode cX9_skills 172 = .ok (.iaload, 1) := by decide +kernel
theorem dX9_skills_173 : decode cX9_skills 173 = .ok (.iastore, 1) := by decide +kernel
theorem dX9_skills_174 : decode cX9_skills 174 = .ok (.iinc 3 1, 3) := by decide +kernel
theorem dX9_skills_177 : decode cX9_skills 177 = .ok (.goto (-45), 3) := by decide +kernel
theorem dX9_skills_180 : decode cX9_skills 180 = .ok (.iconst 0, 1) := by decide +kernel
theorem dX9_skills_181 : decode cX9_skills 181 = .ok (.istore_n 3, 1) := by decide +kernel
theorem dX9_skills_182 : decode cX9_skills 182 = .ok (.iload_n 3, 1) := by decide +kernel
theorem dX9_skills_183 : decode cX9_skills 183 = .ok (.bipush 96, 2) := by decide +kernel
theorem dX9_skills_185 : decode cX9_skills 185 = .ok (.if_icmp .ge 30, 3) := by decide +kernel
theorem dX9_skills_188 : decode cX9_skills 188 = .ok (.aload_n 0, 1) := by decide +kernel
theorem dX9_skills_189 : decode cX9_skills 189 = .ok (.getfield 65, 3) := by decide +kernel
theorem dX9_skills_192 : decode cX9_skills 192 = .ok (.iload_n 3, 1) := by decide +kernel
theorem dX9_skills_193 : decode cX9_skills 193 = .ok (.iconst 0, 1) := by decide +kernel
theorem dX9_skills_194 : decode cX9_skills 194 = .ok (.iastore, 1) := by decide +kernel
theorem dX9_skills_195 : decode cX9_skills 195 = .ok (.aload_n 0, 1) := by decide +kernel
theorem dX9_skills_196 : decode cX9_skills 196 = .ok (.getfield 68, 3) := by decide +kernel
theorem dX9_skills_199 : decode cX9_skills 199 = .ok (.iload_n 3, 1) := by decide +kernel
theorem dX9_skills_200 : decode cX9_skills 200 = .ok (.iconst 0, 1) := by decide +kernel
theorem dX9_skills_201 : decode cX9_skills 201 = .ok (.iastore, 1) := by decide +kernel
theorem dX9_skills_202 : decode cX9_skills 202 = .ok (.aload_n 0, 1) := by decide +kernel
theorem dX9_skills_203 : decode cX9_skills 203 = .ok (.getfield 71, 3) := by decide +kernel
theorem dX9_skills_206 : decode cX9_skills 206 = .ok (.iload_n 3, 1) := by decide +kernel
theorem dX9_skills_207 : decode cX9_skills 207 = .ok (.iconst 0, 1) := by decide +kernel
theorem dX9_skills_208 : decode cX9_skills 208 = .ok (.bastore, 1) := by decide +kernel
theorem dX9_skills_209 : decode cX9_skills 209 = .ok (.iinc 3 1, 3) := by decide +kernel
theorem dX9_skills_212 : decode cX9_skills 212 = .ok (.goto (-30), 3) := by decide +kernel
theorem dX9_skills_215 : decode cX9_skills 215 = .ok (.iload_n 1, 1) := by decide +kernel
theorem dX9_skills_216 : decode cX9_skills 216 = .ok (.ireturn, 1) := by decide +kernel
set_option maxRecDepth 20000 in
theorem ggX9_isSkill_X9_in : GoodIn wsX9_isSkill wsX9_in := goodIn_r _ [6] (by decide +kernel) (by decide +kernel)
set_option maxRecDepth 20000 in
theorem gX9_isSkill_X9_in : GoodIn wsX9_isSkill (va_wsS RX9 102 yX9_in wsX9_in) := goodIn_app (goodIn_of _ (by decide +kernel)) ggX9_isSkill_X9_in
theorem dX9_isSkill_0 : decode cX9_isSkill 0 = .ok (.iload_n 1, 1) := by decide +kernel
theorem dX9_isSkill_1 : decode cX9_isSkill 1 = .ok (.i2l, 1) := by decide +kernel
theorem dX9_isSkill_2 : decode cX9_isSkill 2 = .ok (.lconst 0, 1) := by decide +kernel
theorem dX9_isSkill_3 : decode cX9_isSkill 3 = .ok (.ldc2_w 219, 3) := by decide +kernel
theorem dX9_isSkill_6 : decode cX9_isSkill 6 = .ok (.invokestatic 102, 3) := by decide +kernel
theorem dX9_isSkill_9 : decode cX9_isSkill 9 = .ok (.ifCond .eq 19, 3) := by decide +kernel
theorem dX9_isSkill_12 : decode cX9_isSkill 12 = .ok (.aload_n 0, 1) := by decide +kernel
theorem dX9_isSkill_13 : decode cX9_isSkill 13 = .ok (.getfield 238, 3) := by decide +kernel
theorem dX9_isSkill_16 : decode cX9_isSkill 16 = .ok (.iload_n 1, 1) := by decide +kernel
theorem dX9_isSkill_17 : decode cX9_isSkill 17 = .ok (.ishr, 1) := by decide +kernel
theorem dX9_isSkill_18 : decode cX9_isSkill 18 = .ok (.iconst 1, 1) := by decide +kernel
theorem dX9_isSkill_19 : decode cX9_isSkill 19 = .ok (.iand, 1) := by decide +kernel
theorem dX9_isSkill_20 : decode cX9_isSkill 20 = .ok (.iconst 1, 1) := by decide +kernel
theorem dX9_isSkill_21 : decode cX9_isSkill 21 = .ok (.if_icmp .ne 7, 3) := by decide +kernel
theorem dX9_isSkill_24 : decode cX9_isSkill 24 = .ok (.iconst 1, 1) := by decide +kernel
theorem dX9_isSkill_25 : decode cX9_isSkill 25 = .ok (.goto 4, 3) := by decide +kernel
theorem dX9_isSkill_28 : decode cX9_isSkill 28 = .ok (.iconst 0, 1) := by decide +kernel
theorem dX9_isSkill_29 : decode cX9_isSkill 29 = .ok (.ireturn, 1) := by decide +kernel
set_option maxRecDepth 20000 in
theorem ggX9_skill_X9_isSkill : GoodIn wsX9_skill wsX9_isSkill := goodIn_r _ [9, 10, 11, 12, 13, 8, 14, 15, 16, 17, 18, 19, 20, 21, 22, 23, 24, 25, 26, 27, 28, 29, 30, 31, 32, 33, 34, 35, 36, 37, 38, 39, 40, 41, 42, 43, 44, 45, 46, 47, 48, 49, 50, 51] (by decide +kernel) (by decide +kernel)
set_option maxRecDepth 20000 in
theorem gX9_skill_X9_isSkill : GoodIn wsX9_skill (wsV RX9 241 RX9 yX9_isSkill wsX9_isSkill) := goodIn_app (goodIn_of _ (by decide +kernel)) ggX9_skill_X9_isSkill
set_option maxRecDepth 20000 in
theorem ggX9_skill_X9_in : GoodIn wsX9_skill wsX9_in := goodIn_r _ [14] (by decide +kernel) (by decide +kernel)
set_option maxRecDepth 20000 in
theorem gX9_skill_X9_in : GoodIn wsX9_skill (va_wsS RX9 102 yX9_in wsX9_in) := goodIn_app (goodIn_of _ (by decide +kernel)) ggX9_skill_X9_in
theorem dX9_skill_0 : decode cX9_skill 0 = .ok (.aload_n 0, 1) := by decide +kernel
theorem dX9_skill_1 : decode cX9_skill 1 = .ok (.iload_n 1, 1) := by decide +kernel
theorem dX9_skill_2 : decode cX9_skill 2 = .ok (.invokevirtual 241, 3) := by decide +kernel
theorem dX9_skill_5 : decode cX9_skill 5 = .ok (.ifCond .eq 15, 3) := by decide +kernel
theorem dX9_skill_8 : decode cX9_skill 8 = .ok (.iload_n 2, 1) := by decide +kernel
theorem dX9_skill_9 : decode cX9_skill 9 = .ok (.i2l, 1) := by decide +kernel
theorem dX9_skill_10 : decode cX9_skill 10 = .ok (.lconst 0, 1) := by decide +kernel
theorem dX9_skill_11 : decode cX9_skill 11 = .ok (.ldc2_w 128, 3) := by decide +kernel
theorem dX9_skill_14 : decode cX9_skill 14 = .ok (.invokestatic 102, 3) := by decide +kernel
theorem dX9_skill_17 : decode cX9_skill 17 = .ok (.ifCond .ne 5, 3) := by decide +kernel
theorem dX9_skill_20 : decode cX9_skill 20 = .ok (.iconst (-1), 1) := by decide +kernel
theorem dX9_skill_21 : decode cX9_skill 21 = .ok (.ireturn, 1) := by decide +kernel
theorem dX9_skill_22 : decode cX9_skill 22 = .ok (.iload_n 2, 1) := by decide +kernel
theorem dX9_skill_23 : decode cX9_skill 23 = .ok (.ifCond .ne 12, 3) := by decide +kernel
theorem dX9_skill_26 : decode cX9_skill 26 = .ok (.aload_n 0, 1) := by decide +kernel
theorem dX9_skill_27 : decode cX9_skill 27 = .ok (.getfield 47, 3) := by decide +kernel
theorem dX9_skill_30 : decode cX9_skill 30 = .ok (.iload_n 1, 1) := by decide +kernel
theorem dX9_skill_31 : decode cX9_skill 31 = .ok (.iaload, 1) := by decide +kernel
theorem dX9_skill_32 : decode cX9_skill 32 = .ok (.goto 23, 3) := by decide +kernel
theorem dX9_skill_35 : decode cX9_skill 35 = .ok (.iload_n 2, 1) := by decide +kernel
theorem dX9_skill_36 : decode cX9_skill 36 = .ok (.iconst 1, 1) := by decide +kernel
theorem dX9_skill_37 : decode cX9_skill 37 = .ok (.if_icmp .ne 12, 3) := by decide +kernel
theorem dX9_skill_40 : decode cX9_skill 40 = .ok (.aload_n 0, 1) := by decide +kernel
theorem dX9_skill_41 : decode cX9_skill 41 = .ok (.getfield 50, 3) := by decide +kernel
theorem dX9_skill_44 : decode cX9_skill 44 = .ok (.iload_n 1, 1) := by decide +kernel
theorem dX9_skill_45 : decode cX9_skill 45 = .ok (.iaload, 1) := by decide +kernel
theorem dX9_skill_46 : decode cX9_skill 46 = .ok (.goto 9, 3) := by decide +kernel
theorem dX9_skill_49 : decode cX9_skill 49 = .ok (.aload_n 0, 1) := by decide +kernel
theorem dX9_skill_50 : decode cX9_skill 50 = .ok (.getfield 53, 3) := by decide +kernel
theorem dX9_skill_53 : decode cX9_skill 53 = .ok (.iload_n 1, 1) := by decide +kernel
theorem dX9_skill_54 : decode cX9_skill 54 = .ok (.iaload, 1) := by decide +kernel
theorem dX9_skill_55 : decode cX9_skill 55 = .ok (.ireturn, 1) := by decide +kernel
set_option maxRecDepth 20000 in
theorem ggX9_isDay_X9_in : GoodIn wsX9_isDay wsX9_in := goodIn_r _ [5] (by decide +kernel) (by decide +kernel)
set_option maxRecDepth 20000 in
theorem gX9_isDay_X9_in : GoodIn wsX9_isDay (va_wsS RX9 102 yX9_in wsX9_in) := goodIn_app (goodIn_of _ (by decide +kernel)) ggX9_isDay_X9_in
theorem dX9_isDay_0 : decode cX9_isDay 0 = .ok (.iload_n 0, 1) := by decide +kernel
theorem dX9_isDay_1 : decode cX9_isDay 1 = .ok (.i2l, 1) := by decide +kernel
theorem dX9_isDay_2 : decode cX9_isDay 2 = .ok (.lconst 0, 1) := by decide +kernel
theorem dX9_isDay_3 : decode cX9_isDay 3 = .ok (.ldc2_w 244, 3) := by decide +kernel
theorem dX9_isDay_6 : decode cX9_isDay 6 = .ok (.invokestatic 102, 3) := by decide +kernel
theorem dX9_isDay_9 : decode cX9_isDay 9 = .ok (.ireturn, 1) := by decide +kernel
set_option maxRecDepth 20000 in
theorem ggX9_exercise_X9_isLearner : GoodIn wsX9_exercise wsX9_isLearner := goodIn_r _ [8, 9, 10, 11, 7, 12, 23, 24, 25, 26, 27, 28, 29, 30, 31, 32, 33, 34, 35, 36, 37, 38, 39, 40, 41, 42, 43, 44, 45, 46, 47, 48, 49, 50, 51, 52, 53, 54, 55, 56, 57, 58, 59] (by decide +kernel) (by decide +kernel)
set_option maxRecDepth 20000 in
theorem gX9_exercise_X9_isLearner : GoodIn wsX9_exercise (wsV RX9 151 RX9 yX9_isLearner wsX9_isLearner) := goodIn_app (goodIn_of _ (by decide +kernel)) ggX9_exercise_X9_isLearner
set_option maxRecDepth 20000 in
theorem ggX9_exercise_X9_isSkill : GoodIn wsX9_exercise wsX9_isSkill := goodIn_r _ [16, 17, 18, 10, 11, 7, 12, 23, 24, 25, 26, 27, 28, 29, 30, 31, 32, 33, 34, 35, 36, 37, 38, 39, 40, 41, 42, 43, 44, 45, 46, 47, 48, 49, 50, 51, 52, 53, 54, 55, 56, 57, 58, 59] (by decide +kernel) (by decide +kernel)
set_option maxRecDepth 20000 in
theorem gX9_exercise_X9_isSkill : GoodIn wsX9_exercise (wsV RX9 241 RX9 yX9_isSkill wsX9_isSkill) := goodIn_app (goodIn_of _ (by decide +kernel)) ggX9_exercise_X9_isSkill
set_option maxRecDepth 20000 in
theorem ggX9_exercise_X9_isDay : GoodIn wsX9_exercise wsX9_isDay := goodIn_r _ [21, 22, 10, 11, 7, 12] (by decide +kernel) (by decide +kernel)
set_option maxRecDepth 20000 in
theorem gX9_exercise_X9_isDay : GoodIn wsX9_exercise (va_wsS RX9 246 yX9_isDay wsX9_isDay) := goodIn_app (goodIn_of _ (by decide +kernel)) ggX9_exercise_X9_isDay
theorem dX9_exercise_0 : decode cX9_exercise 0 = .ok (.aload_n 0, 1) := by decide +kernel
theorem dX9_exercise_1 : decode cX9_exercise 1 = .ok (.iload_n 1, 1) := by decide +kernel
theorem dX9_exercise_2 : decode cX9_exercise 2 = .ok (.invokevirtual 151, 3) := by decide +kernel
theorem dX9_exercise_5 : decode cX9_exercise 5 = .ok (.ifCond .eq 18, 3) := by decide +kernel
theorem dX9_exercise_8 : decode cX9_exercise 8 = .ok (.aload_n 0, 1) := by decide +kernel
theorem dX9_exercise_9 : decode cX9_exercise 9 = .ok (.iload_n 2, 1) := by decide +kernel
theorem dX9_exercise_10 : decode cX9_exercise 10 = .ok (.invokevirtual 241, 3) := by decide +kernel
theorem dX9_exercise_13 : decode cX9_exercise 13 = .ok (.ifCond .eq 10, 3) := by decide +kernel
theorem dX9_exercise_16 : decode cX9_exercise 16 = .ok (.iload_n 3, 1) := by decide +kernel
theorem dX9_exercise_17 : decode cX9_exercise 17 = .ok (.invokestatic 246, 3) := by decide +kernel
theorem dX9_exercise_20 : decode cX9_exercise 20 = .ok (.ifCond .ne 5, 3) := by decide +kernel
theorem dX9_exercise_23 : decode cX9_exercise 23 = .ok (.iconst (-1), 1) := by decide +kernel
theorem dX9_exercise_24 : decode cX9_exercise 24 = .ok (.ireturn, 1) := by decide +kernel
theorem dX9_exercise_25 : decode cX9_exercise 25 = .ok (.bipush 8, 2) := by decide +kernel
theorem dX9_exercise_27 : decode cX9_exercise 27 = .ok (.iload_n 1, 1) := by decide +kernel
theorem dX9_exercise_28 : decode cX9_exercise 28 = .ok (.imul, 1) := by decide +kernel
theorem dX9_exercise_29 : decode cX9_exercise 29 = .ok (.iload_n 2, 1) := by decide +kernel
theorem dX9_exercise_30 : decode cX9_exercise 30 = .ok (.iadd, 1) := by decide +kernel
theorem dX9_exercise_31 : decode cX9_exercise 31 = .ok (.istore 5, 2) := by decide +kernel
theorem dX9_exercise_33 : decode cX9_exercise 33 = .ok (.iload_n 3, 1) := by decide +kernel
theorem dX9_exercise_34 : decode cX9_exercise 34 = .ok (.aload_n 0, 1) := by decide +kernel
theorem dX9_exercise_35 : decode cX9_exercise 35 = .ok (.getfield 68, 3) := by decide +kernel
theorem dX9_exercise_38 : decode cX9_exercise 38 = .ok (.iload 5, 2) := by decide +kernel
theorem dX9_exercise_40 : decode cX9_exercise 40 = .ok (.iaload, 1) := by decide +kernel
theorem dX9_exercise_41 : decode cX9_exercise 41 = .ok (.if_icmp .ge 6, 3) := by decide +kernel
theorem dX9_exercise_44 : decode cX9_exercise 44 = .ok (.bipush (-2), 2) := by decide +kernel
theorem dX9_exercise_46 : decode cX9_exercise 46 = .ok (.ireturn, 1) := by decide +kernel
theorem dX9_exercise_47 : decode cX9_exercise 47 = .ok (.aload_n 0, 1) := by decide +kernel
theorem dX9_exercise_48 : decode cX9_exercise 48 = .ok (.getfield 65, 3) := by decide +kernel
theorem dX9_exercise_51 : decode cX9_exercise 51 = .ok (.iload 5, 2) := by decide +kernel
theorem dX9_exercise_53 : decode cX9_exercise 53 = .ok (.iaload, 1) := by decide +kernel
theorem dX9_exercise_54 : decode cX9_exercise 54 = .ok (.ifCond .ne 8, 3) := by decide +kernel
theorem dX9_exercise_57 : decode cX9_exercise 57 = .ok (.bipush 8, 2) := by decide +kernel
theorem dX9_exercise_59 : decode cX9_exercise 59 = .ok (.goto 10, 3) := by decide +kernel
theorem dX9_exercise_62 : decode cX9_exercise 62 = .ok (.aload_n 0, 1) := by decide +kernel
theorem dX9_exercise_63 : decode cX9_exercise 63 = .ok (.getfield 65, 3) := by decide +kernel
theorem dX9_exercise_66 : decode cX9_exercise 66 = .ok (.iload 5, 2) := by decide +kernel
theorem dX9_exercise_68 : decode cX9_exercise 68 = .ok (.iaload, 1) := by decide +kernel
theorem dX9_exercise_69 : decode cX9_exercise 69 = .ok (.istore 6, 2) := by decide +kernel
theorem dX9_exercise_71 : decode cX9_exercise 71 = .ok (.iload 4, 2) := by decide +kernel
theorem dX9_exercise_73 : decode cX9_exercise 73 = .ok (.ifCond .eq 24, 3) := by decide +kernel
theorem dX9_exercise_76 : decode cX9_exercise 76 = .ok (.iload 6, 2) := by decide +kernel
theorem dX9_exercise_78 : decode cX9_exercise 78 = .ok (.sipush 256, 3) := by decide +kernel
theorem dX9_exercise_81 : decode cX9_exercise 81 = .ok (.if_icmp .ge 10, 3) := by decide +kernel
theorem dX9_exercise_84 : decode cX9_exercise 84 = .ok (.iconst 2, 1) := by decide +kernel
theorem dX9_exercise_85 : decode cX9_exercise 85 = .ok (.iload 6, 2) := by decide +kernel
theorem dX9_exercise_87 : decode cX9_exercise 87 = .ok (.imul, 1) := by decide +kernel
theorem dX9_exercise_88 : decode cX9_exercise 88 = .ok (.goto 23, 3) := by decide +kernel
theorem dX9_exercise_91 : decode cX9_exercise 91 = .ok (.sipush 512, 3) := by decide +kernel
theorem dX9_exercise_94 : decode cX9_exercise 94 = .ok (.goto 17, 3) := by decide +kernel
theorem dX9_exercise_97 : decode cX9_exercise 97 = .ok (.iload 6, 2) := by decide +kernel
theorem dX9_exercise_99 : decode cX9_exercise 99 = .ok (.iconst 1, 1) := by decide +kernel
theorem dX9_exercise_100 : decode cX9_exercise 100 = .ok (.if_icmp .le 10, 3) := by decide +kernel
theorem dX9_exercise_103 : decode cX9_exercise 103 = .ok (.iload 6, 2) := by decide +kernel
theorem dX9_exercise_105 : decode cX9_exercise 105 = .ok (.iconst 2, 1) := by decide +kernel
theorem dX9_exercise_106 : decode cX9_exercise 106 = .ok (.idiv, 1) := by decide +kernel
theorem dX9_exercise_107 : decode cX9_exercise 107 = .ok (.goto 4, 3) := by decide +kernel
theorem dX9_exercise_110 : decode cX9_exercise 110 = .ok (.iconst 1, 1) := by decide +kernel
theorem dX9_exercise_111 : decode cX9_exercise 111 = .ok (.istore 6, 2) := by decide +kernel
theorem dX9_exercise_113 : decode cX9_exercise 113 = .ok (.aload_n 0, 1) := by decide +kernel
theorem dX9_exercise_114 : decode cX9_exercise 114 = .ok (.getfield 65, 3) := by decide +kernel
theorem dX9_exercise_117 : decode cX9_exercise 117 = .ok (.iload 5, 2) := by decide +kernel
theorem dX9_exercise_119 : decode cX9_exercise 119 = .ok (.iload 6, 2) := by decide +kernel
theorem dX9_exercise_121 : decode cX9_exercise 121 = .ok (.iastore, 1) := by decide +kernel
theorem dX9_exercise_122 : decode cX9_exercise 122 = .ok (.aload_n 0, 1) := by decide +kernel
theorem dX9_exercise_123 : decode cX9_exercise 123 = .ok (.getfield 68, 3) := by decide +kernel
theorem dX9_exercise_126 : decode cX9_exercise 126 = .ok (.iload 5, 2) := by decide +kernel
theorem dX9_exercise_128 : decode cX9_exercise 128 = .ok (.iload_n 3, 1) := by decide +kernel
theorem dX9_exercise_129 : decode cX9_exercise 129 = .ok (.iastore, 1) := by decide +kernel
theorem dX9_exercise_130 : decode cX9_exercise 130 = .ok (.aload_n 0, 1) := by decide +kernel
theorem dX9_exercise_131 : decode cX9_exercise 131 = .ok (.getfield 71, 3) := by decide +kernel
theorem dX9_exercise_134 : decode cX9_exercise 134 = .ok (.iload 5, 2) := by decide +kernel
theorem dX9_exercise_136 : decode cX9_exercise 136 = .ok (.aload_n 0, 1) := by decide +kernel
theorem dX9_exercise_137 : decode cX9_exercise 137 = .ok (.getfield 71, 3) := by decide +kernel
theorem dX9_exercise_140 : decode cX9_exercise 140 = .ok (.iload 5, 2) := by decide +kernel
theorem dX9_exercise_142 : decode cX9_exercise 142 = .ok (.baload, 1) := by decide +kernel
theorem dX9_exercise_143 : decode cX9_exercise 143 = .ok (.ifCond .ne 8, 3) := by decide +kernel
theorem dX9_exercise_146 : decode cX9_exercise 146 = .ok (.iload 4, 2) := by decide +kernel
theorem dX9_exercise_148 : decode cX9_exercise 148 = .ok (.ifCond .eq 7, 3) := by decide +kernel
theorem dX9_exercise_151 : decode cX9_exercise 151 = .ok (.iconst 1, 1) := by decide +kernel
theorem dX9_exercise_152 : decode cX9_exercise 152 = .ok (.goto 4, 3) := by decide +kernel
theorem dX9_exercise_155 : decode cX9_exercise 155 = .ok (.iconst 0, 1) := by decide +kernel
theorem dX9_exercise_156 : decode cX9_exercise 156 = .ok (.bastore, 1) := by decide +kernel
theorem dX9_exercise_157 : decode cX9_exercise 157 = .ok (.iload 6, 2) := by decide +kernel
theorem dX9_exercise_159 : decode cX9_exercise 159 = .ok (.ireturn, 1) := by decide +kernel
theorem dX9_oddsOf_0 : decode cX9_oddsOf 0 = .ok (.aload_n 0, 1) := by decide +kernel
theorem dX9_oddsOf_1 : decode cX9_oddsOf 1 = .ok (.getfield 71, 3) := by decide +kernel
theorem dX9_oddsOf_4 : decode cX9_oddsOf 4 = .ok (.iload_n 1, 1) := by decide +kernel
theorem dX9_oddsOf_5 : decode cX9_oddsOf 5 = .ok (.baload, 1) := by decide +kernel
theorem dX9_oddsOf_6 : decode cX9_oddsOf 6 = .ok (.ifCond .eq 32, 3) := by decide +kernel
theorem dX9_oddsOf_9 : decode cX9_oddsOf 9 = .ok (.sipush 1000, 3) := by decide +kernel
theorem dX9_oddsOf_12 : decode cX9_oddsOf 12 = .ok (.aload_n 0, 1) := by decide +kernel
theorem dX9_oddsOf_13 : decode cX9_oddsOf 13 = .ok (.getfield 65, 3) := by decide +kernel
theorem dX9_oddsOf_16 : decode cX9_oddsOf 16 = .ok (.iload_n 1, 1) := by decide +kernel
theorem dX9_oddsOf_17 : decode cX9_oddsOf 17 = .ok (.iaload, 1) := by decide +kernel
theorem dX9_oddsOf_18 : decode cX9_oddsOf 18 = .ok (.imul, 1) := by decide +kernel
theorem dX9_oddsOf_19 : decode cX9_oddsOf 19 = .ok (.aload_n 0, 1) := by decide +kernel
theorem dX9_oddsOf_20 : decode cX9_oddsOf 20 = .ok (.getfield 65, 3) := by decide +kernel
theorem dX9_oddsOf_23 : decode cX9_oddsOf 23 = .ok (.iload_n 1, 1) := by decide +kernel
theorem dX9_oddsOf_24 : decode cX9_oddsOf 24 = .ok (.iaload, 1) := by decide +kernel
theorem dX9_oddsOf_25 : decode cX9_oddsOf 25 = .ok (.iload_n 2, 1) := by decide +kernel
theorem dX9_oddsOf_26 : decode cX9_oddsOf 26 = .ok (.iadd, 1) := by decide +kernel
theorem dX9_oddsOf_27 : decode cX9_oddsOf 27 = .ok (.aload_n 0, 1) := by decide +kernel
theorem dX9_oddsOf_28 : decode cX9_oddsOf 28 = .ok (.getfield 68, 3) := by decide +kernel
theorem dX9_oddsOf_31 : decode cX9_oddsOf 31 = .ok (.iload_n 1, 1) := by decide +kernel
theorem dX9_oddsOf_32 : decode cX9_oddsOf 32 = .ok (.iaload, 1) := by decide +kernel
theorem dX9_oddsOf_33 : decode cX9_oddsOf 33 = .ok (.isub, 1) := by decide +kernel
theorem dX9_oddsOf_34 : decode cX9_oddsOf 34 = .ok (.idiv, 1) := by decide +kernel
theorem dX9_oddsOf_35 : decode cX9_oddsOf 35 = .ok (.goto 4, 3) := by decide +kernel
theorem dX9_oddsOf_38 : decode cX9_oddsOf 38 = .ok (.iconst 0, 1) := by decide +kernel
theorem dX9_oddsOf_39 : decode cX9_oddsOf 39 = .ok (.ireturn, 1) := by decide +kernel
set_option maxRecDepth 20000 in
theorem ggX9_odds_X9_isLearner : GoodIn wsX9_odds wsX9_isLearner := goodIn_r _ [6, 7, 8, 9, 5, 10, 27, 28, 29, 30, 31, 32, 33, 34, 35, 36, 37, 38, 39, 40, 41, 42, 43, 44, 45, 46, 47, 48, 49, 50, 51, 52, 53, 54, 55, 56, 57, 58, 59, 60, 61, 62, 63] (by decide +kernel) (by decide +kernel)
set_option maxRecDepth 20000 in
theorem gX9_odds_X9_isLearner : GoodIn wsX9_odds (wsV RX9 151 RX9 yX9_isLearner wsX9_isLearner) := goodIn_app (goodIn_of _ (by decide +kernel)) ggX9_odds_X9_isLearner
set_option maxRecDepth 20000 in
theorem ggX9_odds_X9_isSkill : GoodIn wsX9_odds wsX9_isSkill := goodIn_r _ [14, 15, 16, 8, 9, 5, 10, 27, 28, 29, 30, 31, 32, 33, 34, 35, 36, 37, 38, 39, 40, 41, 42, 43, 44, 45, 46, 47, 48, 49, 50, 51, 52, 53, 54, 55, 56, 57, 58, 59, 60, 61, 62, 63] (by decide +kernel) (by decide +kernel)
set_option maxRecDepth 20000 in
theorem gX9_odds_X9_isSkill : GoodIn wsX9_odds (wsV RX9 241 RX9 yX9_isSkill wsX9_isSkill) := goodIn_app (goodIn_of _ (by decide +kernel)) ggX9_odds_X9_isSkill
set_option maxRecDepth 20000 in
theorem ggX9_odds_X9_isDay : GoodIn wsX9_odds wsX9_isDay := goodIn_r _ [19, 20, 8, 9, 5, 10] (by decide +kernel) (by decide +kernel)
set_option maxRecDepth 20000 in
theorem gX9_odds_X9_isDay : GoodIn wsX9_odds (va_wsS RX9 246 yX9_isDay wsX9_isDay) := goodIn_app (goodIn_of _ (by decide +kernel)) ggX9_odds_X9_isDay
set_option maxRecDepth 20000 in
theorem ggX9_odds_X9_oddsOf : GoodIn wsX9_odds wsX9_oddsOf := goodIn_r _ [24, 25, 26, 1, 27, 28, 29, 30, 31, 32, 33, 34, 35, 36, 37, 38, 39, 40, 41, 42, 43, 44, 45, 46, 47, 48, 49, 50, 51, 52, 53, 54, 55, 56, 57, 58, 59, 60, 61, 62, 63] (by decide +kernel) (by decide +kernel)
set_option maxRecDepth 20000 in
theorem gX9_odds_X9_oddsOf : GoodIn wsX9_odds (wsV RX9 249 RX9 yX9_oddsOf wsX9_oddsOf) := goodIn_app (goodIn_of _ (by decide +kernel)) ggX9_odds_X9_oddsOf
theorem dX9_odds_0 : decode cX9_odds 0 = .ok (.aload_n 0, 1) := by decide +kernel
theorem dX9_odds_1 : decode cX9_odds 1 = .ok (.iload_n 1, 1) := by decide +kernel
theorem dX9_odds_2 : decode cX9_odds 2 = .ok (.invokevirtual 151, 3) := by decide +kernel
theorem dX9_odds_5 : decode cX9_odds 5 = .ok (.ifCond .eq 18, 3) := by decide +kernel
theorem dX9_odds_8 : decode cX9_odds 8 = .ok (.aload_n 0, 1) := by decide +kernel
theorem dX9_odds_9 : decode cX9_odds 9 = .ok (.iload_n 2, 1) := by decide +kernel
theorem dX9_odds_10 : decode cX9_odds 10 = .ok (.invokevirtual 241, 3) := by decide +kernel
theorem dX9_odds_13 : decode cX9_odds 13 = .ok (.ifCond .eq 10, 3) := by decide +kernel
theorem dX9_odds_16 : decode cX9_odds 16 = .ok (.iload_n 3, 1) := by decide +kernel
theorem dX9_odds_17 : decode cX9_odds 17 = .ok (.invokestatic 246, 3) := by decide +kernel
theorem dX9_odds_20 : decode cX9_odds 20 = .ok (.ifCond .ne 5, 3) := by decide +kernel
theorem dX9_odds_23 : decode cX9_odds 23 = .ok (.iconst (-1), 1) := by decide +kernel
theorem dX9_odds_24 : decode cX9_odds 24 = .ok (.ireturn, 1) := by decide +kernel
theorem dX9_odds_25 : decode cX9_odds 25 = .ok (.bipush 8, 2) := by decide +kernel
theorem dX9_odds_27 : decode cX9_odds 27 = .ok (.iload_n 1, 1) := by decide +kernel
theorem dX9_odds_28 : decode cX9_odds 28 = .ok (.imul, 1) := by decide +kernel
theorem dX9_odds_29 : decode cX9_odds 29 = .ok (.iload_n 2, 1) := by decide +kernel
theorem dX9_odds_30 : decode cX9_odds 30 = .ok (.iadd, 1) := by decide +kernel
theorem dX9_odds_31 : decode cX9_odds 31 = .ok (.istore 4, 2) := by decide +kernel
theorem dX9_odds_33 : decode cX9_odds 33 = .ok (.iload_n 3, 1) := by decide +kernel
theorem dX9_odds_34 : decode cX9_odds 34 = .ok (.aload_n 0, 1) := by decide +kernel
theorem dX9_odds_35 : decode cX9_odds 35 = .ok (.getfield 68, 3) := by decide +kernel
theorem dX9_odds_38 : decode cX9_odds 38 = .ok (.iload 4, 2) := by decide +kernel
theorem dX9_odds_40 : decode cX9_odds 40 = .ok (.iaload, 1) := by decide +kernel
theorem dX9_odds_41 : decode cX9_odds 41 = .ok (.if_icmp .ge 8, 3) := by decide +kernel
theorem dX9_odds_44 : decode cX9_odds 44 = .ok (.bipush (-2), 2) := by decide +kernel
theorem dX9_odds_46 : decode cX9_odds 46 = .ok (.goto 10, 3) := by decide +kernel
theorem dX9_odds_49 : decode cX9_odds 49 = .ok (.aload_n 0, 1) := by decide +kernel
theorem dX9_odds_50 : decode cX9_odds 50 = .ok (.iload 4, 2) := by decide +kernel
theorem dX9_odds_52 : decode cX9_odds 52 = .ok (.iload_n 3, 1) := by decide +kernel
theorem dX9_odds_53 : decode cX9_odds 53 = .ok (.invokevirtual 249, 3) := by decide +kernel
theorem dX9_odds_56 : decode cX9_odds 56 = .ok (.ireturn, 1) := by decide +kernel
set_option maxRecDepth 20000 in
theorem ggX9_again_X9_isLearner : GoodIn wsX9_again wsX9_isLearner := goodIn_r _ [9, 10, 11, 12, 8, 13, 20, 21, 22, 23, 24, 25, 26, 27, 28, 29, 30, 31, 32, 33, 34, 35, 36, 37, 38, 39, 40, 41, 42, 43, 44, 45, 46, 47, 48, 49, 50, 51, 52, 53, 54, 55, 56] (by decide +kernel) (by decide +kernel)
set_option maxRecDepth 20000 in
theorem gX9_again_X9_isLearner : GoodIn wsX9_again (wsV RX9 151 RX9 yX9_isLearner wsX9_isLearner) := goodIn_app (goodIn_of _ (by decide +kernel)) ggX9_again_X9_isLearner
set_option maxRecDepth 20000 in
theorem ggX9_again_X9_isSkill : GoodIn wsX9_again wsX9_isSkill := goodIn_r _ [17, 18, 19, 11, 12, 8, 13, 20, 21, 22, 23, 24, 25, 26, 27, 28, 29, 30, 31, 32, 33, 34, 35, 36, 37, 38, 39, 40, 41, 42, 43, 44, 45, 46, 47, 48, 49, 50, 51, 52, 53, 54, 55, 56] (by decide +kernel) (by decide +kernel)
set_option maxRecDepth 20000 in
theorem gX9_again_X9_isSkill : GoodIn wsX9_again (wsV RX9 241 RX9 yX9_isSkill wsX9_isSkill) := goodIn_app (goodIn_of _ (by decide +kernel)) ggX9_again_X9_isSkill
set_option maxRecDepth 20000 in
theorem ggX9_again_X9_in : GoodIn wsX9_again wsX9_in := goodIn_r _ [13] (by decide +kernel) (by decide +kernel)
set_option maxRecDepth 20000 in
theorem gX9_again_X9_in : GoodIn wsX9_again (va_wsS RX9 102 yX9_in wsX9_in) := goodIn_app (goodIn_of _ (by decide +kernel)) ggX9_again_X9_in
theorem dX9_again_0 : decode cX9_again 0 = .ok (.aload_n 0, 1) := by decide +kernel
theorem dX9_again_1 : decode cX9_again 1 = .ok (.iload_n 1, 1) := by decide +kernel
theorem dX9_again_2 : decode cX9_again 2 = .ok (.invokevirtual 151, 3) := by decide +kernel
theorem dX9_again_5 : decode cX9_again 5 = .ok (.ifCond .eq 23, 3) := by decide +kernel
theorem dX9_again_8 : decode cX9_again 8 = .ok (.aload_n 0, 1) := by decide +kernel
theorem dX9_again_9 : decode cX9_again 9 = .ok (.iload_n 2, 1) := by decide +kernel
theorem dX9_again_10 : decode cX9_again 10 = .ok (.invokevirtual 241, 3) := by decide +kernel
theorem dX9_again_13 : decode cX9_again 13 = .ok (.ifCond .eq 15, 3) := by decide +kernel
theorem dX9_again_16 : decode cX9_again 16 = .ok (.iload_n 3, 1) := by decide +kernel
theorem dX9_again_17 : decode cX9_again 17 = .ok (.i2l, 1) := by decide +kernel
theorem dX9_again_18 : decode cX9_again 18 = .ok (.lconst 1, 1) := by decide +kernel
theorem dX9_again_19 : decode cX9_again 19 = .ok (.ldc2_w 184, 3) := by decide +kernel
theorem dX9_again_22 : decode cX9_again 22 = .ok (.invokestatic 102, 3) := by decide +kernel
theorem dX9_again_25 : decode cX9_again 25 = .ok (.ifCond .ne 5, 3) := by decide +kernel
theorem dX9_again_28 : decode cX9_again 28 = .ok (.iconst (-1), 1) := by decide +kernel
theorem dX9_again_29 : decode cX9_again 29 = .ok (.ireturn, 1) := by decide +kernel
theorem dX9_again_30 : decode cX9_again 30 = .ok (.bipush 8, 2) := by decide +kernel
theorem dX9_again_32 : decode cX9_again 32 = .ok (.iload_n 1, 1) := by decide +kernel
theorem dX9_again_33 : decode cX9_again 33 = .ok (.imul, 1) := by decide +kernel
theorem dX9_again_34 : decode cX9_again 34 = .ok (.iload_n 2, 1) := by decide +kernel
theorem dX9_again_35 : decode cX9_again 35 = .ok (.iadd, 1) := by decide +kernel
theorem dX9_again_36 : decode cX9_again 36 = .ok (.istore 4, 2) := by decide +kernel
theorem dX9_again_38 : decode cX9_again 38 = .ok (.aload_n 0, 1) := by decide +kernel
theorem dX9_again_39 : decode cX9_again 39 = .ok (.getfield 71, 3) := by decide +kernel
theorem dX9_again_42 : decode cX9_again 42 = .ok (.iload 4, 2) := by decide +kernel
theorem dX9_again_44 : decode cX9_again 44 = .ok (.baload, 1) := by decide +kernel
theorem dX9_again_45 : decode cX9_again 45 = .ok (.ifCond .eq 31, 3) := by decide +kernel
theorem dX9_again_48 : decode cX9_again 48 = .ok (.aload_n 0, 1) := by decide +kernel
theorem dX9_again_49 : decode cX9_again 49 = .ok (.getfield 68, 3) := by decide +kernel
theorem dX9_again_52 : decode cX9_again 52 = .ok (.iload 4, 2) := by decide +kernel
theorem dX9_again_54 : decode cX9_again 54 = .ok (.iaload, 1) := by decide +kernel
theorem dX9_again_55 : decode cX9_again 55 = .ok (.sipush 1000, 3) := by decide +kernel
theorem dX9_again_58 : decode cX9_again 58 = .ok (.iload_n 3, 1) := by decide +kernel
theorem dX9_again_59 : decode cX9_again 59 = .ok (.isub, 1) := by decide +kernel
theorem dX9_again_60 : decode cX9_again 60 = .ok (.aload_n 0, 1) := by decide +kernel
theorem dX9_again_61 : decode cX9_again 61 = .ok (.getfield 65, 3) := by decide +kernel
theorem dX9_again_64 : decode cX9_again 64 = .ok (.iload 4, 2) := by decide +kernel
theorem dX9_again_66 : decode cX9_again 66 = .ok (.iaload, 1) := by decide +kernel
theorem dX9_again_67 : decode cX9_again 67 = .ok (.imul, 1) := by decide +kernel
theorem dX9_again_68 : decode cX9_again 68 = .ok (.iload_n 3, 1) := by decide +kernel
theorem dX9_again_69 : decode cX9_again 69 = .ok (.idiv, 1) := by decide +kernel
theorem dX9_again_70 : decode cX9_again 70 = .ok (.iadd, 1) := by decide +kernel
theorem dX9_again_71 : decode cX9_again 71 = .ok (.iconst 1, 1) := by decide +kernel
theorem dX9_again_72 : decode cX9_again 72 = .ok (.iadd, 1) := by decide +kernel
theorem dX9_again_73 : decode cX9_again 73 = .ok (.goto 5, 3) := by decide +kernel
theorem dX9_again_76 : decode cX9_again 76 = .ok (.bipush (-4), 2) := by decide +kernel
theorem dX9_again_78 : decode cX9_again 78 = .ok (.ireturn, 1) := by decide +kernel
theorem dX9_isWay_0 : decode cX9_isWay 0 = .ok (.iload_n 1, 1) := by decide +kernel
theorem dX9_isWay_1 : decode cX9_isWay 1 = .ok (.aload_n 0, 1) := by decide +kernel
theorem dX9_isWay_2 : decode cX9_isWay 2 = .ok (.getfield 238, 3) := by decide +kernel
theorem dX9_isWay_5 : decode cX9_isWay 5 = .ok (.iconst (-1), 1) := by decide +kernel
theorem dX9_isWay_6 : decode cX9_isWay 6 = .ok (.ixor, 1) := by decide +kernel
theorem dX9_isWay_7 : decode cX9_isWay 7 = .ok (.iand, 1) := by decide +kernel
theorem dX9_isWay_8 : decode cX9_isWay 8 = .ok (.ifCond .ne 13, 3) := by decide +kernel
theorem dX9_isWay_11 : decode cX9_isWay 11 = .ok (.iload_n 1, 1) := by decide +kernel
theorem dX9_isWay_12 : decode cX9_isWay 12 = .ok (.iload_n 2, 1) := by decide +kernel
theorem dX9_isWay_13 : decode cX9_isWay 13 = .ok (.iand, 1) := by decide +kernel
theorem dX9_isWay_14 : decode cX9_isWay 14 = .ok (.ifCond .ne 7, 3) := by decide +kernel
theorem dX9_isWay_17 : decode cX9_isWay 17 = .ok (.iconst 1, 1) := by decide +kernel
theorem dX9_isWay_18 : decode cX9_isWay 18 = .ok (.goto 4, 3) := by decide +kernel
theorem dX9_isWay_21 : decode cX9_isWay 21 = .ok (.iconst 0, 1) := by decide +kernel
theorem dX9_isWay_22 : decode cX9_isWay 22 = .ok (.istore_n 3, 1) := by decide +kernel
theorem dX9_isWay_23 : decode cX9_isWay 23 = .ok (.iconst 0, 1) := by decide +kernel
theorem dX9_isWay_24 : decode cX9_isWay 24 = .ok (.istore 4, 2) := by decide +kernel
theorem dX9_isWay_26 : decode cX9_isWay 26 = .ok (.iload 4, 2) := by decide +kernel
theorem dX9_isWay_28 : decode cX9_isWay 28 = .ok (.bipush 8, 2) := by decide +kernel
theorem dX9_isWay_30 : decode cX9_isWay 30 = .ok (.if_icmp .ge 44, 3) := by decide +kernel
theorem dX9_isWay_33 : decode cX9_isWay 33 = .ok (.iload_n 3, 1) := by decide +kernel
theorem dX9_isWay_34 : decode cX9_isWay 34 = .ok (.ifCond .eq 32, 3) := by decide +kernel
theorem dX9_isWay_37 : decode cX9_isWay 37 = .ok (.iload_n 1, 1) := by decide +kernel
theorem dX9_isWay_38 : decode cX9_isWay 38 = .ok (.iload 4, 2) := by decide +kernel
theorem dX9_isWay_40 : decode cX9_isWay 40 = .ok (.ishr, 1) := by decide +kernel
theorem dX9_isWay_41 : decode cX9_isWay 41 = .ok (.iconst 1, 1) := by decide +kernel
theorem dX9_isWay_42 : decode cX9_isWay 42 = .ok (.iand, 1) := by decide +kernel
theorem dX9_isWay_43 : decode cX9_isWay 43 = .ok (.ifCond .eq 19, 3) := by decide +kernel
theorem dX9_isWay_46 : decode cX9_isWay 46 = .ok (.aload_n 0, 1) := by decide +kernel
theorem dX9_isWay_47 : decode cX9_isWay 47 = .ok (.getfield 53, 3) := by decide +kernel
theorem dX9_isWay_50 : decode cX9_isWay 50 = .ok (.iload 4, 2) := by decide +kernel
theorem dX9_isWay_52 : decode cX9_isWay 52 = .ok (.iaload, 1) := by decide +kernel
theorem dX9_isWay_53 : decode cX9_isWay 53 = .ok (.iload_n 1, 1) := by decide +kernel
theorem dX9_isWay_54 : decode cX9_isWay 54 = .ok (.iload_n 2, 1) := by decide +kernel
theorem dX9_isWay_55 : decode cX9_isWay 55 = .ok (.ior, 1) := by decide +kernel
theorem dX9_isWay_56 : decode cX9_isWay 56 = .ok (.iconst (-1), 1) := by decide +kernel
theorem dX9_isWay_57 : decode cX9_isWay 57 = .ok (.ixor, 1) := by decide +kernel
theorem dX9_isWay_58 : decode cX9_isWay 58 = .ok (.iand, 1) := by decide +kernel
theorem dX9_isWay_59 : decode cX9_isWay 59 = .ok (.ifCond .ne 7, 3) := by decide +kernel
theorem dX9_isWay_62 : decode cX9_isWay 62 = .ok (.iconst 1, 1) := by decide +kernel
theorem dX9_isWay_63 : decode cX9_isWay 63 = .ok (.goto 4, 3) := by decide +kernel
theorem dX9_isWay_66 : decode cX9_isWay 66 = .ok (.iconst 0, 1) := by decide +kernel
theorem dX9_isWay_67 : decode cX9_isWay 67 = .ok (.istore_n 3, 1) := by decide +kernel
theorem dX9_isWay_68 : decode cX9_isWay 68 = .ok (.iinc 4 1, 3) := by decide +kernel
theorem dX9_isWay_71 : decode cX9_isWay 71 = .ok (.goto (-45), 3) := by decide +kernel
theorem dX9_isWay_74 : decode cX9_isWay 74 = .ok (.iload_n 3, 1) := by decide +kernel
theorem dX9_isWay_75 : decode cX9_isWay 75 = .ok (.ireturn, 1) := by decide +kernel
theorem dX9_sumOf_0 : decode cX9_sumOf 0 = .ok (.iconst 0, 1) := by decide +kernel
theorem dX9_sumOf_1 : decode cX9_sumOf 1 = .ok (.istore_n 2, 1) := by decide +kernel
theorem dX9_sumOf_2 : decode cX9_sumOf 2 = .ok (.iconst 0, 1) := by decide +kernel
theorem dX9_sumOf_3 : decode cX9_sumOf 3 = .ok (.istore_n 3, 1) := by decide +kernel
theorem dX9_sumOf_4 : decode cX9_sumOf 4 = .ok (.iload_n 3, 1) := by decide +kernel
theorem dX9_sumOf_5 : decode cX9_sumOf 5 = .ok (.bipush 8, 2) := by decide +kernel
theorem dX9_sumOf_7 : decode cX9_sumOf 7 = .ok (.if_icmp .ge 28, 3) := by decide +kernel
theorem dX9_sumOf_10 : decode cX9_sumOf 10 = .ok (.iload_n 2, 1) := by decide +kernel
theorem dX9_sumOf_11 : decode cX9_sumOf 11 = .ok (.iload_n 0, 1) := by decide +kernel
theorem dX9_sumOf_12 : decode cX9_sumOf 12 = .ok (.iload_n 3, 1) := by decide +kernel
theorem dX9_sumOf_13 : decode cX9_sumOf 13 = .ok (.ishr, 1) := by decide +kernel
theorem dX9_sumOf_14 : decode cX9_sumOf 14 = .ok (.iconst 1, 1) := by decide +kernel
theorem dX9_sumOf_15 : decode cX9_sumOf 15 = .ok (.iand, 1) := by decide +kernel
theorem dX9_sumOf_16 : decode cX9_sumOf 16 = .ok (.iconst 1, 1) := by decide +kernel
theorem dX9_sumOf_17 : decode cX9_sumOf 17 = .ok (.if_icmp .ne 9, 3) := by decide +kernel
theorem dX9_sumOf_20 : decode cX9_sumOf 20 = .ok (.aload_n 1, 1) := by decide +kernel
theorem dX9_sumOf_21 : decode cX9_sumOf 21 = .ok (.iload_n 3, 1) := by decide +kernel
theorem dX9_sumOf_22 : decode cX9_sumOf 22 = .ok (.iaload, 1) := by decide +kernel
theorem dX9_sumOf_23 : decode cX9_sumOf 23 = .ok (.goto 4, 3) := by decide +kernel
theorem dX9_sumOf_26 : decode cX9_sumOf 26 = .ok (.iconst 0, 1) := by decide +kernel
theorem dX9_sumOf_27 : decode cX9_sumOf 27 = .ok (.iadd, 1) := by decide +kernel
theorem dX9_sumOf_28 : decode cX9_sumOf 28 = .ok (.istore_n 2, 1) := by decide +kernel
theorem dX9_sumOf_29 : decode cX9_sumOf 29 = .ok (.iinc 3 1, 3) := by decide +kernel
theorem dX9_sumOf_32 : decode cX9_sumOf 32 = .ok (.goto (-28), 3) := by decide +kernel
theorem dX9_sumOf_35 : decode cX9_sumOf 35 = .ok (.iload_n 2, 1) := by decide +kernel
theorem dX9_sumOf_36 : decode cX9_sumOf 36 = .ok (.ireturn, 1) := by decide +kernel
set_option maxRecDepth 20000 in
theorem ggX9_way_X9_isLearner : GoodIn wsX9_way wsX9_isLearner := goodIn_r _ [10, 11, 12, 13, 9, 14, 39, 40, 41, 42, 43, 44, 45, 46, 47, 48, 49, 50, 51, 52, 53, 54, 55, 56, 57, 58, 59, 60, 61, 62, 63, 64, 65, 66, 67, 68, 69, 70, 71, 72, 73, 74, 75] (by decide +kernel) (by decide +kernel)
set_option maxRecDepth 20000 in
theorem gX9_way_X9_isLearner : GoodIn wsX9_way (wsV RX9 151 RX9 yX9_isLearner wsX9_isLearner) := goodIn_app (goodIn_of _ (by decide +kernel)) ggX9_way_X9_isLearner
set_option maxRecDepth 20000 in
theorem ggX9_way_X9_isDay : GoodIn wsX9_way wsX9_isDay := goodIn_r _ [17, 18, 12, 13, 9, 14] (by decide +kernel) (by decide +kernel)
set_option maxRecDepth 20000 in
theorem gX9_way_X9_isDay : GoodIn wsX9_way (va_wsS RX9 246 yX9_isDay wsX9_isDay) := goodIn_app (goodIn_of _ (by decide +kernel)) ggX9_way_X9_isDay
set_option maxRecDepth 20000 in
theorem ggX9_way_X9_in : GoodIn wsX9_way wsX9_in := goodIn_r _ [14] (by decide +kernel) (by decide +kernel)
set_option maxRecDepth 20000 in
theorem gX9_way_X9_in : GoodIn wsX9_way (va_wsS RX9 102 yX9_in wsX9_in) := goodIn_app (goodIn_of _ (by decide +kernel)) ggX9_way_X9_in
set_option maxRecDepth 20000 in
theorem ggX9_way_X9_isSkill : GoodIn wsX9_way wsX9_isSkill := goodIn_r _ [22, 23, 24, 12, 13, 9, 14, 39, 40, 41, 42, 43, 44, 45, 46, 47, 48, 49, 50, 51, 52, 53, 54, 55, 56, 57, 58, 59, 60, 61, 62, 63, 64, 65, 66, 67, 68, 69, 70, 71, 72, 73, 74, 75] (by decide +kernel) (by decide +kernel)
set_option maxRecDepth 20000 in
theorem gX9_way_X9_isSkill : GoodIn wsX9_way (wsV RX9 241 RX9 yX9_isSkill wsX9_isSkill) := goodIn_app (goodIn_of _ (by decide +kernel)) ggX9_way_X9_isSkill
set_option maxRecDepth 20000 in
theorem ggX9_way_X9_oddsOf : GoodIn wsX9_way wsX9_oddsOf := goodIn_r _ [28, 29, 30, 3, 39, 40, 41, 42, 43, 44, 45, 46, 47, 48, 49, 50, 51, 52, 53, 54, 55, 56, 57, 58, 59, 60, 61, 62, 63, 64, 65, 66, 67, 68, 69, 70, 71, 72, 73, 74, 75] (by decide +kernel) (by decide +kernel)
set_option maxRecDepth 20000 in
theorem gX9_way_X9_oddsOf : GoodIn wsX9_way (wsV RX9 249 RX9 yX9_oddsOf wsX9_oddsOf) := goodIn_app (goodIn_of _ (by decide +kernel)) ggX9_way_X9_oddsOf
set_option maxRecDepth 20000 in
theorem ggX9_way_X9_isWay : GoodIn wsX9_way wsX9_isWay := goodIn_r _ [34, 24, 35, 39, 40, 41, 42, 43, 44, 45, 46, 47, 48, 49, 50, 51, 52, 53, 54, 55, 56, 57, 58, 59, 60, 61, 62, 63, 64, 65, 66, 67, 68, 69, 70, 71, 72, 73, 74, 75] (by decide +kernel) (by decide +kernel)
set_option maxRecDepth 20000 in
theorem gX9_way_X9_isWay : GoodIn wsX9_way (wsV RX9 254 RX9 yX9_isWay wsX9_isWay) := goodIn_app (goodIn_of _ (by decide +kernel)) ggX9_way_X9_isWay
set_option maxRecDepth 20000 in
theorem ggX9_way_X9_sumOf : GoodIn wsX9_way wsX9_sumOf := goodIn_r _ [38] (by decide +kernel) (by decide +kernel)
set_option maxRecDepth 20000 in
theorem gX9_way_X9_sumOf : GoodIn wsX9_way (va_wsS RX9 257 yX9_sumOf wsX9_sumOf) := goodIn_app (goodIn_of _ (by decide +kernel)) ggX9_way_X9_sumOf
theorem dX9_way_0 : decode cX9_way 0 = .ok (.aload_n 0, 1) := by decide +kernel
theorem dX9_way_1 : decode cX9_way 1 = .ok (.iload_n 1, 1) := by decide +kernel
theorem dX9_way_2 : decode cX9_way 2 = .ok (.invokevirtual 151, 3) := by decide +kernel
theorem dX9_way_5 : decode cX9_way 5 = .ok (.ifCond .eq 35, 3) := by decide +kernel
theorem dX9_way_8 : decode cX9_way 8 = .ok (.iload_n 2, 1) := by decide +kernel
theorem dX9_way_9 : decode cX9_way 9 = .ok (.invokestatic 246, 3) := by decide +kernel
theorem dX9_way_12 : decode cX9_way 12 = .ok (.ifCond .eq 28, 3) := by decide +kernel
theorem dX9_way_15 : decode cX9_way 15 = .ok (.iload_n 3, 1) := by decide +kernel
theorem dX9_way_16 : decode cX9_way 16 = .ok (.i2l, 1) := by decide +kernel
theorem dX9_way_17 : decode cX9_way 17 = .ok (.lconst 0, 1) := by decide +kernel
theorem dX9_way_18 : decode cX9_way 18 = .ok (.ldc2_w 252, 3) := by decide +kernel
theorem dX9_way_21 : decode cX9_way 21 = .ok (.invokestatic 102, 3) := by decide +kernel
theorem dX9_way_24 : decode cX9_way 24 = .ok (.ifCond .eq 16, 3) := by decide +kernel
theorem dX9_way_27 : decode cX9_way 27 = .ok (.iload 4, 2) := by decide +kernel
theorem dX9_way_29 : decode cX9_way 29 = .ok (.i2l, 1) := by decide +kernel
theorem dX9_way_30 : decode cX9_way 30 = .ok (.lconst 0, 1) := by decide +kernel
theorem dX9_way_31 : decode cX9_way 31 = .ok (.ldc2_w 128, 3) := by decide +kernel
theorem dX9_way_34 : decode cX9_way 34 = .ok (.invokestatic 102, 3) := by decide +kernel
theorem dX9_way_37 : decode cX9_way 37 = .ok (.ifCond .ne 5, 3) := by decide +kernel
theorem dX9_way_40 : decode cX9_way 40 = .ok (.iconst (-1), 1) := by decide +kernel
theorem dX9_way_41 : decode cX9_way 41 = .ok (.ireturn, 1) := by decide +kernel
theorem dX9_way_42 : decode cX9_way 42 = .ok (.iconst 0, 1) := by decide +kernel
theorem dX9_way_43 : decode cX9_way 43 = .ok (.istore 5, 2) := by decide +kernel
theorem dX9_way_45 : decode cX9_way 45 = .ok (.iconst 0, 1) := by decide +kernel
theorem dX9_way_46 : decode cX9_way 46 = .ok (.istore 6, 2) := by decide +kernel
theorem dX9_way_48 : decode cX9_way 48 = .ok (.iload 6, 2) := by decide +kernel
theorem dX9_way_50 : decode cX9_way 50 = .ok (.bipush 8, 2) := by decide +kernel
theorem dX9_way_52 : decode cX9_way 52 = .ok (.if_icmp .ge 76, 3) := by decide +kernel
theorem dX9_way_55 : decode cX9_way 55 = .ok (.bipush 8, 2) := by decide +kernel
theorem dX9_way_57 : decode cX9_way 57 = .ok (.iload_n 1, 1) := by decide +kernel
theorem dX9_way_58 : decode cX9_way 58 = .ok (.imul, 1) := by decide +kernel
theorem dX9_way_59 : decode cX9_way 59 = .ok (.iload 6, 2) := by decide +kernel
theorem dX9_way_61 : decode cX9_way 61 = .ok (.iadd, 1) := by decide +kernel
theorem dX9_way_62 : decode cX9_way 62 = .ok (.istore 7, 2) := by decide +kernel
theorem dX9_way_64 : decode cX9_way 64 = .ok (.aload_n 0, 1) := by decide +kernel
theorem dX9_way_65 : decode cX9_way 65 = .ok (.iload 6, 2) := by decide +kernel
theorem dX9_way_67 : decode cX9_way 67 = .ok (.invokevirtual 241, 3) := by decide +kernel
theorem dX9_way_70 : decode cX9_way 70 = .ok (.ifCond .eq 17, 3) := by decide +kernel
theorem dX9_way_73 : decode cX9_way 73 = .ok (.iload_n 2, 1) := by decide +kernel
theorem dX9_way_74 : decode cX9_way 74 = .ok (.aload_n 0, 1) := by decide +kernel
theorem dX9_way_75 : decode cX9_way 75 = .ok (.getfield 68, 3) := by decide +kernel
theorem dX9_way_78 : decode cX9_way 78 = .ok (.iload 7, 2) := by decide +kernel
theorem dX9_way_80 : decode cX9_way 80 = .ok (.iaload, 1) := by decide +kernel
theorem dX9_way_81 : decode cX9_way 81 = .ok (.if_icmp .ge 6, 3) := by decide +kernel
theorem dX9_way_84 : decode cX9_way 84 = .ok (.bipush (-2), 2) := by decide +kernel
theorem dX9_way_86 : decode cX9_way 86 = .ok (.ireturn, 1) := by decide +kernel
theorem dX9_way_87 : decode cX9_way 87 = .ok (.iload 5, 2) := by decide +kernel
theorem dX9_way_89 : decode cX9_way 89 = .ok (.aload_n 0, 1) := by decide +kernel
theorem dX9_way_90 : decode cX9_way 90 = .ok (.iload 6, 2) := by decide +kernel
theorem dX9_way_92 : decode cX9_way 92 = .ok (.invokevirtual 241, 3) := by decide +kernel
theorem dX9_way_95 : decode cX9_way 95 = .ok (.ifCond .eq 23, 3) := by decide +kernel
theorem dX9_way_98 : decode cX9_way 98 = .ok (.aload_n 0, 1) := by decide +kernel
theorem dX9_way_99 : decode cX9_way 99 = .ok (.iload 7, 2) := by decide +kernel
theorem dX9_way_101 : decode cX9_way 101 = .ok (.iload_n 2, 1) := by decide +kernel
theorem dX9_way_102 : decode cX9_way 102 = .ok (.invokevirtual 249, 3) := by decide +kernel
theorem dX9_way_105 : decode cX9_way 105 = .ok (.sipush 500, 3) := by decide +kernel
theorem dX9_way_108 : decode cX9_way 108 = .ok (.if_icmp .lt 10, 3) := by decide +kernel
theorem dX9_way_111 : decode cX9_way 111 = .ok (.iconst 1, 1) := by decide +kernel
theorem dX9_way_112 : decode cX9_way 112 = .ok (.iload 6, 2) := by decide +kernel
theorem dX9_way_114 : decode cX9_way 114 = .ok (.ishl, 1) := by decide +kernel
theorem dX9_way_115 : decode cX9_way 115 = .ok (.goto 4, 3) := by decide +kernel
theorem dX9_way_118 : decode cX9_way 118 = .ok (.iconst 0, 1) := by decide +kernel
theorem dX9_way_119 : decode cX9_way 119 = .ok (.ior, 1) := by decide +kernel
theorem dX9_way_120 : decode cX9_way 120 = .ok (.istore 5, 2) := by decide +kernel
theorem dX9_way_122 : decode cX9_way 122 = .ok (.iinc 6 1, 3) := by decide +kernel
theorem dX9_way_125 : decode cX9_way 125 = .ok (.goto (-77), 3) := by decide +kernel
theorem dX9_way_128 : decode cX9_way 128 = .ok (.iconst 0, 1) := by decide +kernel
theorem dX9_way_129 : decode cX9_way 129 = .ok (.istore 6, 2) := by decide +kernel
theorem dX9_way_131 : decode cX9_way 131 = .ok (.iconst 1, 1) := by decide +kernel
theorem dX9_way_132 : decode cX9_way 132 = .ok (.istore 7, 2) := by decide +kernel
theorem dX9_way_134 : decode cX9_way 134 = .ok (.iload 7, 2) := by decide +kernel
theorem dX9_way_136 : decode cX9_way 136 = .ok (.sipush 256, 3) := by decide +kernel
theorem dX9_way_139 : decode cX9_way 139 = .ok (.if_icmp .ge 108, 3) := by decide +kernel
theorem dX9_way_142 : decode cX9_way 142 = .ok (.aload_n 0, 1) := by decide +kernel
theorem dX9_way_143 : decode cX9_way 143 = .ok (.iload 7, 2) := by decide +kernel
theorem dX9_way_145 : decode cX9_way 145 = .ok (.iload 5, 2) := by decide +kernel
theorem dX9_way_147 : decode cX9_way 147 = .ok (.invokevirtual 254, 3) := by decide +kernel
theorem dX9_way_150 : decode cX9_way 150 = .ok (.ifCond .eq 91, 3) := by decide +kernel
theorem dX9_way_153 : decode cX9_way 153 = .ok (.iload 7, 2) := by decide +kernel
theorem dX9_way_155 : decode cX9_way 155 = .ok (.aload_n 0, 1) := by decide +kernel
theorem dX9_way_156 : decode cX9_way 156 = .ok (.getfield 47, 3) := by decide +kernel
theorem dX9_way_159 : decode cX9_way 159 = .ok (.invokestatic 257, 3) := by decide +kernel
theorem dX9_way_162 : decode cX9_way 162 = .ok (.istore 8, 2) := by decide +kernel
theorem dX9_way_164 : decode cX9_way 164 = .ok (.iload 7, 2) := by decide +kernel
theorem dX9_way_166 : decode cX9_way 166 = .ok (.aload_n 0, 1) := by decide +kernel
theorem dX9_way_167 : decode cX9_way 167 = .ok (.getfield 50, 3) := by decide +kernel
theorem dX9_way_170 : decode cX9_way 170 = .ok (.invokestatic 257, 3) := by decide +kernel
theorem dX9_way_173 : decode cX9_way 173 = .ok (.istore 9, 2) := by decide +kernel
theorem dX9_way_175 : decode cX9_way 175 = .ok (.iload 6, 2) := by decide +kernel
theorem dX9_way_177 : decode cX9_way 177 = .ok (.aload_n 0, 1) := by decide +kernel
theorem dX9_way_178 : decode cX9_way 178 = .ok (.getfield 50, 3) := by decide +kernel
theorem dX9_way_181 : decode cX9_way 181 = .ok (.invokestatic 257, 3) := by decide +kernel
theorem dX9_way_184 : decode cX9_way 184 = .ok (.istore 10, 2) := by decide +kernel
theorem dX9_way_186 : decode cX9_way 186 = .ok (.iload 9, 2) := by decide +kernel
theorem dX9_way_188 : decode cX9_way 188 = .ok (.iload 10, 2) := by decide +kernel
theorem dX9_way_190 : decode cX9_way 190 = .ok (.if_icmp .gt 24, 3) := by decide +kernel
theorem dX9_way_193 : decode cX9_way 193 = .ok (.iload 9, 2) := by decide +kernel
theorem dX9_way_195 : decode cX9_way 195 = .ok (.iload 10, 2) := by decide +kernel
theorem dX9_way_197 : decode cX9_way 197 = .ok (.if_icmp .ne 21, 3) := by decide +kernel
theorem dX9_way_200 : decode cX9_way 200 = .ok (.iload 8, 2) := by decide +kernel
theorem dX9_way_202 : decode cX9_way 202 = .ok (.iload 6, 2) := by decide +kernel
theorem dX9_way_204 : decode cX9_way 204 = .ok (.aload_n 0, 1) := by decide +kernel
theorem dX9_way_205 : decode cX9_way 205 = .ok (.getfield 47, 3) := by decide +kernel
theorem dX9_way_208 : decode cX9_way 208 = .ok (.invokestatic 257, 3) := by decide +kernel
theorem dX9_way_211 : decode cX9_way 211 = .ok (.if_icmp .ge 7, 3) := by decide +kernel
theorem dX9_way_214 : decode cX9_way 214 = .ok (.iconst 1, 1) := by decide +kernel
theorem dX9_way_215 : decode cX9_way 215 = .ok (.goto 4, 3) := by decide +kernel
theorem dX9_way_218 : decode cX9_way 218 = .ok (.iconst 0, 1) := by decide +kernel
theorem dX9_way_219 : decode cX9_way 219 = .ok (.istore 11, 2) := by decide +kernel
theorem dX9_way_221 : decode cX9_way 221 = .ok (.iload 8, 2) := by decide +kernel
theorem dX9_way_223 : decode cX9_way 223 = .ok (.iload_n 3, 1) := by decide +kernel
theorem dX9_way_224 : decode cX9_way 224 = .ok (.if_icmp .gt 13, 3) := by decide +kernel
theorem dX9_way_227 : decode cX9_way 227 = .ok (.iload 11, 2) := by decide +kernel
theorem dX9_way_229 : decode cX9_way 229 = .ok (.ifCond .eq 8, 3) := by decide +kernel
theorem dX9_way_232 : decode cX9_way 232 = .ok (.iload 7, 2) := by decide +kernel
theorem dX9_way_234 : decode cX9_way 234 = .ok (.goto 5, 3) := by decide +kernel
theorem dX9_way_237 : decode cX9_way 237 = .ok (.iload 6, 2) := by decide +kernel
theorem dX9_way_239 : decode cX9_way 239 = .ok (.istore 6, 2) := by decide +kernel
theorem dX9_way_241 : decode cX9_way 241 = .ok (.iinc 7 1, 3) := by decide +kernel
theorem dX9_way_244 : decode cX9_way 244 = .ok (.goto (-110), 3) := by decide +kernel
theorem dX9_way_247 : decode cX9_way 247 = .ok (.iload 4, 2) := by decide +kernel
theorem dX9_way_249 : decode cX9_way 249 = .ok (.ifCond .ne 8, 3) := by decide +kernel
theorem dX9_way_252 : decode cX9_way 252 = .ok (.iload 6, 2) := by decide +kernel
theorem dX9_way_254 : decode cX9_way 254 = .ok (.goto 30, 3) := by decide +kernel
theorem dX9_way_257 : decode cX9_way 257 = .ok (.iload 4, 2) := by decide +kernel
theorem dX9_way_259 : decode cX9_way 259 = .ok (.iconst 1, 1) := by decide +kernel
theorem dX9_way_260 : decode cX9_way 260 = .ok (.if_icmp .ne 15, 3) := by decide +kernel
theorem dX9_way_263 : decode cX9_way 263 = .ok (.iload 6, 2) := by decide +kernel
theorem dX9_way_265 : decode cX9_way 265 = .ok (.aload_n 0, 1) := by decide +kernel
theorem dX9_way_266 : decode cX9_way 266 = .ok (.getfield 50, 3) := by decide +kernel
theorem dX9_way_269 : decode cX9_way 269 = .ok (.invokestatic 257, 3) := by decide +kernel
theorem dX9_way_272 : decode cX9_way 272 = .ok (.goto 12, 3) := by decide +kernel
theorem dX9_way_275 : decode cX9_way 275 = .ok (.iload 6, 2) := by decide +kernel
theorem dX9_way_277 : decode cX9_way 277 = .ok (.aload_n 0, 1) := by decide +kernel
theorem dX9_way_278 : decode cX9_way 278 = .ok (.getfield 47, 3) := by decide +kernel
theorem dX9_way_281 : decode cX9_way 281 = .ok (.invokestatic 257, 3) := by decide +kernel
theorem dX9_way_284 : decode cX9_way 284 = .ok (.ireturn, 1) := by decide +kernel
set_option maxRecDepth 20000 in
theorem ggX9_deal_X9_in : GoodIn wsX9_deal wsX9_in := goodIn_r _ [9] (by decide +kernel) (by decide +kernel)
set_option maxRecDepth 20000 in
theorem gX9_deal_X9_in : GoodIn wsX9_deal (va_wsS RX9 102 yX9_in wsX9_in) := goodIn_app (goodIn_of _ (by decide +kernel)) ggX9_deal_X9_in
theorem dX9_deal_0 : decode cX9_deal 0 = .ok (.iload_n 1, 1) := by decide +kernel
theorem dX9_deal_1 : decode cX9_deal 1 = .ok (.i2l, 1) := by decide +kernel
theorem dX9_deal_2 : decode cX9_deal 2 = .ok (.lconst 0, 1) := by decide +kernel
theorem dX9_deal_3 : decode cX9_deal 3 = .ok (.lconst 1, 1) := by decide +kernel
theorem dX9_deal_4 : decode cX9_deal 4 = .ok (.invokestatic 102, 3) := by decide +kernel
theorem dX9_deal_7 : decode cX9_deal 7 = .ok (.ifCond .eq 17, 3) := by decide +kernel
theorem dX9_deal_10 : decode cX9_deal 10 = .ok (.iload_n 2, 1) := by decide +kernel
theorem dX9_deal_11 : decode cX9_deal 11 = .ok (.i2l, 1) := by decide +kernel
theorem dX9_deal_12 : decode cX9_deal 12 = .ok (.ldc2_w 261, 3) := by decide +kernel
theorem dX9_deal_15 : decode cX9_deal 15 = .ok (.ldc2_w 106, 3) := by decide +kernel
theorem dX9_deal_18 : decode cX9_deal 18 = .ok (.invokestatic 102, 3) := by decide +kernel
theorem dX9_deal_21 : decode cX9_deal 21 = .ok (.ifCond .ne 5, 3) := by decide +kernel
theorem dX9_deal_24 : decode cX9_deal 24 = .ok (.iconst (-1), 1) := by decide +kernel
theorem dX9_deal_25 : decode cX9_deal 25 = .ok (.ireturn, 1) := by decide +kernel
theorem dX9_deal_26 : decode cX9_deal 26 = .ok (.aload_n 0, 1) := by decide +kernel
theorem dX9_deal_27 : decode cX9_deal 27 = .ok (.getfield 263, 3) := by decide +kernel
theorem dX9_deal_30 : decode cX9_deal 30 = .ok (.bipush 12, 2) := by decide +kernel
theorem dX9_deal_32 : decode cX9_deal 32 = .ok (.if_icmp .ne 6, 3) := by decide +kernel
theorem dX9_deal_35 : decode cX9_deal 35 = .ok (.bipush (-3), 2) := by decide +kernel
theorem dX9_deal_37 : decode cX9_deal 37 = .ok (.ireturn, 1) := by decide +kernel
theorem dX9_deal_38 : decode cX9_deal 38 = .ok (.aload_n 0, 1) := by decide +kernel
theorem dX9_deal_39 : decode cX9_deal 39 = .ok (.getfield 74, 3) := by decide +kernel
theorem dX9_deal_42 : decode cX9_deal 42 = .ok (.aload_n 0, 1) := by decide +kernel
theorem dX9_deal_43 : decode cX9_deal 43 = .ok (.getfield 263, 3) := by decide +kernel
theorem dX9_deal_46 : decode cX9_deal 46 = .ok (.iload_n 1, 1) := by decide +kernel
theorem dX9_deal_47 : decode cX9_deal 47 = .ok (.iastore, 1) := by decide +kernel
theorem dX9_deal_48 : decode cX9_deal 48 = .ok (.aload_n 0, 1) := by decide +kernel
theorem dX9_deal_49 : decode cX9_deal 49 = .ok (.getfield 77, 3) := by decide +kernel
theorem dX9_deal_52 : decode cX9_deal 52 = .ok (.aload_n 0, 1) := by decide +kernel
theorem dX9_deal_53 : decode cX9_deal 53 = .ok (.getfield 263, 3) := by decide +kernel
theorem dX9_deal_56 : decode cX9_deal 56 = .ok (.iload_n 2, 1) := by decide +kernel
theorem dX9_deal_57 : decode cX9_deal 57 = .ok (.iastore, 1) := by decide +kernel
theorem dX9_deal_58 : decode cX9_deal 58 = .ok (.aload_n 0, 1) := by decide +kernel
theorem dX9_deal_59 : decode cX9_deal 59 = .ok (.dup, 1) := by decide +kernel
theorem dX9_deal_60 : decode cX9_deal 60 = .ok (.getfield 263, 3) := by decide +kernel
theorem dX9_deal_63 : decode cX9_deal 63 = .ok (.iconst 1, 1) := by decide +kernel
theorem dX9_deal_64 : decode cX9_deal 64 = .ok (.iadd, 1) := by decide +kernel
theorem dX9_deal_65 : decode cX9_deal 65 = .ok (.putfield 263, 3) := by decide +kernel
theorem dX9_deal_68 : decode cX9_deal 68 = .ok (.aload_n 0, 1) := by decide +kernel
theorem dX9_deal_69 : decode cX9_deal 69 = .ok (.getfield 263, 3) := by decide +kernel
theorem dX9_deal_72 : decode cX9_deal 72 = .ok (.ireturn, 1) := by decide +kernel
theorem dX9_ends_0 : decode cX9_ends 0 = .ok (.aload_n 0, 1) := by decide +kernel
theorem dX9_ends_1 : decode cX9_ends 1 = .ok (.getfield 263, 3) := by decide +kernel
theorem dX9_ends_4 : decode cX9_ends 4 = .ok (.istore_n 1, 1) := by decide +kernel
theorem dX9_ends_5 : decode cX9_ends 5 = .ok (.aload_n 0, 1) := by decide +kernel
theorem dX9_ends_6 : decode cX9_ends 6 = .ok (.iconst 0, 1) := by decide +kernel
theorem dX9_ends_7 : decode cX9_ends 7 = .ok (.putfield 263, 3) := by decide +kernel
theorem dX9_ends_10 : decode cX9_ends 10 = .ok (.iload_n 1, 1) := by decide +kernel
theorem dX9_ends_11 : decode cX9_ends 11 = .ok (.ireturn, 1) := by decide +kernel
theorem dX9_dealt_0 : decode cX9_dealt 0 = .ok (.iconst 0, 1) := by decide +kernel
theorem dX9_dealt_1 : decode cX9_dealt 1 = .ok (.istore_n 2, 1) := by decide +kernel
theorem dX9_dealt_2 : decode cX9_dealt 2 = .ok (.iconst 0, 1) := by decide +kernel
theorem dX9_dealt_3 : decode cX9_dealt 3 = .ok (.istore_n 3, 1) := by decide +kernel
theorem dX9_dealt_4 : decode cX9_dealt 4 = .ok (.iload_n 3, 1) := by decide +kernel
theorem dX9_dealt_5 : decode cX9_dealt 5 = .ok (.aload_n 0, 1) := by decide +kernel
theorem dX9_dealt_6 : decode cX9_dealt 6 = .ok (.getfield 263, 3) := by decide +kernel
theorem dX9_dealt_9 : decode cX9_dealt 9 = .ok (.if_icmp .ge 27, 3) := by decide +kernel
theorem dX9_dealt_12 : decode cX9_dealt 12 = .ok (.iload_n 2, 1) := by decide +kernel
theorem dX9_dealt_13 : decode cX9_dealt 13 = .ok (.aload_n 0, 1) := by decide +kernel
theorem dX9_dealt_14 : decode cX9_dealt 14 = .ok (.getfield 74, 3) := by decide +kernel
theorem dX9_dealt_17 : decode cX9_dealt 17 = .ok (.iload_n 3, 1) := by decide +kernel
theorem dX9_dealt_18 : decode cX9_dealt 18 = .ok (.iaload, 1) := by decide +kernel
theorem dX9_dealt_19 : decode cX9_dealt 19 = .ok (.iload_n 1, 1) := by decide +kernel
theorem dX9_dealt_20 : decode cX9_dealt 20 = .ok (.if_icmp .ne 7, 3) := by decide +kernel
theorem dX9_dealt_23 : decode cX9_dealt 23 = .ok (.iconst 1, 1) := by decide +kernel
theorem dX9_dealt_24 : decode cX9_dealt 24 = .ok (.goto 4, 3) := by decide +kernel
theorem dX9_dealt_27 : decode cX9_dealt 27 = .ok (.iconst 0, 1) := by decide +kernel
theorem dX9_dealt_28 : decode cX9_dealt 28 = .ok (.iadd, 1) := by decide +kernel
theorem dX9_dealt_29 : decode cX9_dealt 29 = .ok (.istore_n 2, 1) := by decide +kernel
theorem dX9_dealt_30 : decode cX9_dealt 30 = .ok (.iinc 3 1, 3) := by decide +kernel
theorem dX9_dealt_33 : decode cX9_dealt 33 = .ok (.goto (-29), 3) := by decide +kernel
theorem dX9_dealt_36 : decode cX9_dealt 36 = .ok (.iload_n 2, 1) := by decide +kernel
theorem dX9_dealt_37 : decode cX9_dealt 37 = .ok (.ireturn, 1) := by decide +kernel
theorem dX9_sumBy_0 : decode cX9_sumBy 0 = .ok (.iconst 0, 1) := by decide +kernel
theorem dX9_sumBy_1 : decode cX9_sumBy 1 = .ok (.istore_n 2, 1) := by decide +kernel
theorem dX9_sumBy_2 : decode cX9_sumBy 2 = .ok (.iconst 0, 1) := by decide +kernel
theorem dX9_sumBy_3 : decode cX9_sumBy 3 = .ok (.istore_n 3, 1) := by decide +kernel
theorem dX9_sumBy_4 : decode cX9_sumBy 4 = .ok (.iload_n 3, 1) := by decide +kernel
theorem dX9_sumBy_5 : decode cX9_sumBy 5 = .ok (.aload_n 0, 1) := by decide +kernel
theorem dX9_sumBy_6 : decode cX9_sumBy 6 = .ok (.getfield 263, 3) := by decide +kernel
theorem dX9_sumBy_9 : decode cX9_sumBy 9 = .ok (.if_icmp .ge 32, 3) := by decide +kernel
theorem dX9_sumBy_12 : decode cX9_sumBy 12 = .ok (.iload_n 2, 1) := by decide +kernel
theorem dX9_sumBy_13 : decode cX9_sumBy 13 = .ok (.aload_n 0, 1) := by decide +kernel
theorem dX9_sumBy_14 : decode cX9_sumBy 14 = .ok (.getfield 74, 3) := by decide +kernel
theorem dX9_sumBy_17 : decode cX9_sumBy 17 = .ok (.iload_n 3, 1) := by decide +kernel
theorem dX9_sumBy_18 : decode cX9_sumBy 18 = .ok (.iaload, 1) := by decide +kernel
theorem dX9_sumBy_19 : decode cX9_sumBy 19 = .ok (.iload_n 1, 1) := by decide +kernel
theorem dX9_sumBy_20 : decode cX9_sumBy 20 = .ok (.if_icmp .ne 12, 3) := by decide +kernel
theorem dX9_sumBy_23 : decode cX9_sumBy 23 = .ok (.aload_n 0, 1) := by decide +kernel
theorem dX9_sumBy_24 : decode cX9_sumBy 24 = .ok (.getfield 77, 3) := by decide +kernel
theorem dX9_sumBy_27 : decode cX9_sumBy 27 = .ok (.iload_n 3, 1) := by decide +kernel
theorem dX9_sumBy_28 : decode cX9_sumBy 28 = .ok (.iaload, 1) := by decide +kernel
theorem dX9_sumBy_29 : decode cX9_sumBy 29 = .ok (.goto 4, 3) := by decide +kernel
theorem dX9_sumBy_32 : decode cX9_sumBy 32 = .ok (.iconst 0, 1) := by decide +kernel
theorem dX9_sumBy_33 : decode cX9_sumBy 33 = .ok (.iadd, 1) := by decide +kernel
theorem dX9_sumBy_34 : decode cX9_sumBy 34 = .ok (.istore_n 2, 1) := by decide +kernel
theorem dX9_sumBy_35 : decode cX9_sumBy 35 = .ok (.iinc 3 1, 3) := by decide +kernel
theorem dX9_sumBy_38 : decode cX9_sumBy 38 = .ok (.goto (-34), 3) := by decide +kernel
theorem dX9_sumBy_41 : decode cX9_sumBy 41 = .ok (.iload_n 2, 1) := by decide +kernel
theorem dX9_sumBy_42 : decode cX9_sumBy 42 = .ok (.ireturn, 1) := by decide +kernel
set_option maxRecDepth 20000 in
theorem ggX9_isTrial_X9_dealt : GoodIn wsX9_isTrial wsX9_dealt := goodIn_r _ [5, 6, 7, 8, 9, 10, 11, 12, 13, 14, 15, 16, 17, 18, 19, 20, 21, 22, 23, 24, 25, 26, 27, 28, 29, 30, 31, 32, 33, 34, 35, 36, 37, 38, 39, 40, 41, 42, 43, 44] (by decide +kernel) (by decide +kernel)
set_option maxRecDepth 20000 in
theorem gX9_isTrial_X9_dealt : GoodIn wsX9_isTrial (wsV RX9 266 RX9 yX9_dealt wsX9_dealt) := goodIn_app (goodIn_of _ (by decide +kernel)) ggX9_isTrial_X9_dealt
theorem dX9_isTrial_0 : decode cX9_isTrial 0 = .ok (.aload_n 0, 1) := by decide +kernel
theorem dX9_isTrial_1 : decode cX9_isTrial 1 = .ok (.iconst 0, 1) := by decide +kernel
theorem dX9_isTrial_2 : decode cX9_isTrial 2 = .ok (.invokevirtual 266, 3) := by decide +kernel
theorem dX9_isTrial_5 : decode cX9_isTrial 5 = .ok (.ifCond .le 15, 3) := by decide +kernel
theorem dX9_isTrial_8 : decode cX9_isTrial 8 = .ok (.aload_n 0, 1) := by decide +kernel
theorem dX9_isTrial_9 : decode cX9_isTrial 9 = .ok (.iconst 1, 1) := by decide +kernel
theorem dX9_isTrial_10 : decode cX9_isTrial 10 = .ok (.invokevirtual 266, 3) := by decide +kernel
theorem dX9_isTrial_13 : decode cX9_isTrial 13 = .ok (.ifCond .le 7, 3) := by decide +kernel
theorem dX9_isTrial_16 : decode cX9_isTrial 16 = .ok (.iconst 1, 1) := by decide +kernel
theorem dX9_isTrial_17 : decode cX9_isTrial 17 = .ok (.goto 4, 3) := by decide +kernel
theorem dX9_isTrial_20 : decode cX9_isTrial 20 = .ok (.iconst 0, 1) := by decide +kernel
theorem dX9_isTrial_21 : decode cX9_isTrial 21 = .ok (.ireturn, 1) := by decide +kernel
theorem dX9_common_0 : decode cX9_common 0 = .ok (.iload_n 0, 1) := by decide +kernel
theorem dX9_common_1 : decode cX9_common 1 = .ok (.ifCond .ge 8, 3) := by decide +kernel
theorem dX9_common_4 : decode cX9_common 4 = .ok (.iload_n 0, 1) := by decide +kernel
theorem dX9_common_5 : decode cX9_common 5 = .ok (.ineg, 1) := by decide +kernel
theorem dX9_common_6 : decode cX9_common 6 = .ok (.goto 4, 3) := by decide +kernel
theorem dX9_common_9 : decode cX9_common 9 = .ok (.iload_n 0, 1) := by decide +kernel
theorem dX9_common_10 : decode cX9_common 10 = .ok (.istore_n 2, 1) := by decide +kernel
theorem dX9_common_11 : decode cX9_common 11 = .ok (.iload_n 1, 1) := by decide +kernel
theorem dX9_common_12 : decode cX9_common 12 = .ok (.istore_n 3, 1) := by decide +kernel
theorem dX9_common_13 : decode cX9_common 13 = .ok (.iload_n 3, 1) := by decide +kernel
theorem dX9_common_14 : decode cX9_common 14 = .ok (.ifCond .eq 16, 3) := by decide +kernel
theorem dX9_common_17 : decode cX9_common 17 = .ok (.iload_n 2, 1) := by decide +kernel
theorem dX9_common_18 : decode cX9_common 18 = .ok (.iload_n 3, 1) := by decide +kernel
theorem dX9_common_19 : decode cX9_common 19 = .ok (.irem, 1) := by decide +kernel
theorem dX9_common_20 : decode cX9_common 20 = .ok (.istore 4, 2) := by decide +kernel
theorem dX9_common_22 : decode cX9_common 22 = .ok (.iload_n 3, 1) := by decide +kernel
theorem dX9_common_23 : decode cX9_common 23 = .ok (.istore_n 2, 1) := by decide +kernel
theorem dX9_common_24 : decode cX9_common 24 = .ok (.iload 4, 2) := by decide +kernel
theorem dX9_common_26 : decode cX9_common 26 = .ok (.istore_n 3, 1) := by decide +kernel
theorem dX9_common_27 : decode cX9_common 27 = .ok (.goto (-14), 3) := by decide +kernel
theorem dX9_common_30 : decode cX9_common 30 = .ok (.iload_n 2, 1) := by decide +kernel
theorem dX9_common_31 : decode cX9_common 31 = .ok (.ireturn, 1) := by decide +kernel
set_option maxRecDepth 20000 in
theorem ggX9_by_X9_in : GoodIn wsX9_by wsX9_in := goodIn_r _ [6] (by decide +kernel) (by decide +kernel)
set_option maxRecDepth 20000 in
theorem gX9_by_X9_in : GoodIn wsX9_by (va_wsS RX9 102 yX9_in wsX9_in) := goodIn_app (goodIn_of _ (by decide +kernel)) ggX9_by_X9_in
set_option maxRecDepth 20000 in
theorem ggX9_by_X9_isTrial : GoodIn wsX9_by wsX9_isTrial := goodIn_r _ [10, 11, 12, 13, 5, 14, 15, 16, 25, 26, 27, 28, 29, 30, 31, 32, 33, 34, 35, 36, 37, 38, 39, 40, 41, 42, 43, 44, 45, 46, 47, 48, 49, 50, 51, 52, 53, 54, 55, 56, 57, 58, 59, 60, 61] (by decide +kernel) (by decide +kernel)
set_option maxRecDepth 20000 in
theorem gX9_by_X9_isTrial : GoodIn wsX9_by (wsV RX9 269 RX9 yX9_isTrial wsX9_isTrial) := goodIn_app (goodIn_of _ (by decide +kernel)) ggX9_by_X9_isTrial
set_option maxRecDepth 20000 in
theorem ggX9_by_X9_sumBy : GoodIn wsX9_by wsX9_sumBy := goodIn_r _ [20, 15, 16, 21, 25, 26, 27, 28, 29, 30, 31, 32, 33, 34, 35, 36, 37, 38, 39, 40, 41, 42, 43, 44, 45, 46, 47, 48, 49, 50, 51, 52, 53, 54, 55, 56, 57, 58, 59, 60, 61] (by decide +kernel) (by decide +kernel)
set_option maxRecDepth 20000 in
theorem gX9_by_X9_sumBy : GoodIn wsX9_by (wsV RX9 274 RX9 yX9_sumBy wsX9_sumBy) := goodIn_app (goodIn_of _ (by decide +kernel)) ggX9_by_X9_sumBy
set_option maxRecDepth 20000 in
theorem ggX9_by_X9_dealt : GoodIn wsX9_by wsX9_dealt := goodIn_r _ [14, 15, 16, 25, 26, 27, 28, 29, 30, 31, 32, 33, 34, 35, 36, 37, 38, 39, 40, 41, 42, 43, 44, 45, 46, 47, 48, 49, 50, 51, 52, 53, 54, 55, 56, 57, 58, 59, 60, 61] (by decide +kernel) (by decide +kernel)
set_option maxRecDepth 20000 in
theorem gX9_by_X9_dealt : GoodIn wsX9_by (wsV RX9 266 RX9 yX9_dealt wsX9_dealt) := goodIn_app (goodIn_of _ (by decide +kernel)) ggX9_by_X9_dealt
set_option maxRecDepth 20000 in
theorem ggX9_by_X9_common : GoodIn wsX9_by wsX9_common := goodIn_r _ [24] (by decide +kernel) (by decide +kernel)
set_option maxRecDepth 20000 in
theorem gX9_by_X9_common : GoodIn wsX9_by (va_wsS RX9 277 yX9_common wsX9_common) := goodIn_app (goodIn_of _ (by decide +kernel)) ggX9_by_X9_common
theorem dX9_by_0 : decode cX9_by 0 = .ok (.iload_n 1, 1) := by decide +kernel
theorem dX9_by_1 : decode cX9_by 1 = .ok (.i2l, 1) := by decide +kernel
theorem dX9_by_2 : decode cX9_by 2 = .ok (.lconst 0, 1) := by decide +kernel
theorem dX9_by_3 : decode cX9_by 3 = .ok (.lconst 1, 1) := by decide +kernel
theorem dX9_by_4 : decode cX9_by 4 = .ok (.invokestatic 102, 3) := by decide +kernel
theorem dX9_by_7 : decode cX9_by 7 = .ok (.ifCond .ne 6, 3) := by decide +kernel
theorem dX9_by_10 : decode cX9_by 10 = .ok (.ldc 169, 2) := by decide +kernel
theorem dX9_by_12 : decode cX9_by 12 = .ok (.ireturn, 1) := by decide +kernel
theorem dX9_by_13 : decode cX9_by 13 = .ok (.aload_n 0, 1) := by decide +kernel
theorem dX9_by_14 : decode cX9_by 14 = .ok (.invokevirtual 269, 3) := by decide +kernel
theorem dX9_by_17 : decode cX9_by 17 = .ok (.ifCond .ne 7, 3) := by decide +kernel
theorem dX9_by_20 : decode cX9_by 20 = .ok (.ldc_w 273, 3) := by decide +kernel
theorem dX9_by_23 : decode cX9_by 23 = .ok (.ireturn, 1) := by decide +kernel
theorem dX9_by_24 : decode cX9_by 24 = .ok (.aload_n 0, 1) := by decide +kernel
theorem dX9_by_25 : decode cX9_by 25 = .ok (.iconst 1, 1) := by decide +kernel
theorem dX9_by_26 : decode cX9_by 26 = .ok (.invokevirtual 274, 3) := by decide +kernel
theorem dX9_by_29 : decode cX9_by 29 = .ok (.aload_n 0, 1) := by decide +kernel
theorem dX9_by_30 : decode cX9_by 30 = .ok (.iconst 0, 1) := by decide +kernel
theorem dX9_by_31 : decode cX9_by 31 = .ok (.invokevirtual 266, 3) := by decide +kernel
theorem dX9_by_34 : decode cX9_by 34 = .ok (.imul, 1) := by decide +kernel
theorem dX9_by_35 : decode cX9_by 35 = .ok (.aload_n 0, 1) := by decide +kernel
theorem dX9_by_36 : decode cX9_by 36 = .ok (.iconst 0, 1) := by decide +kernel
theorem dX9_by_37 : decode cX9_by 37 = .ok (.invokevirtual 274, 3) := by decide +kernel
theorem dX9_by_40 : decode cX9_by 40 = .ok (.aload_n 0, 1) := by decide +kernel
theorem dX9_by_41 : decode cX9_by 41 = .ok (.iconst 1, 1) := by decide +kernel
theorem dX9_by_42 : decode cX9_by 42 = .ok (.invokevirtual 266, 3) := by decide +kernel
theorem dX9_by_45 : decode cX9_by 45 = .ok (.imul, 1) := by decide +kernel
theorem dX9_by_46 : decode cX9_by 46 = .ok (.isub, 1) := by decide +kernel
theorem dX9_by_47 : decode cX9_by 47 = .ok (.istore_n 2, 1) := by decide +kernel
theorem dX9_by_48 : decode cX9_by 48 = .ok (.aload_n 0, 1) := by decide +kernel
theorem dX9_by_49 : decode cX9_by 49 = .ok (.iconst 0, 1) := by decide +kernel
theorem dX9_by_50 : decode cX9_by 50 = .ok (.invokevirtual 266, 3) := by decide +kernel
theorem dX9_by_53 : decode cX9_by 53 = .ok (.aload_n 0, 1) := by decide +kernel
theorem dX9_by_54 : decode cX9_by 54 = .ok (.iconst 1, 1) := by decide +kernel
theorem dX9_by_55 : decode cX9_by 55 = .ok (.invokevirtual 266, 3) := by decide +kernel
theorem dX9_by_58 : decode cX9_by 58 = .ok (.imul, 1) := by decide +kernel
theorem dX9_by_59 : decode cX9_by 59 = .ok (.istore_n 3, 1) := by decide +kernel
theorem dX9_by_60 : decode cX9_by 60 = .ok (.iload_n 2, 1) := by decide +kernel
theorem dX9_by_61 : decode cX9_by 61 = .ok (.iload_n 3, 1) := by decide +kernel
theorem dX9_by_62 : decode cX9_by 62 = .ok (.invokestatic 277, 3) := by decide +kernel
theorem dX9_by_65 : decode cX9_by 65 = .ok (.istore 4, 2) := by decide +kernel
theorem dX9_by_67 : decode cX9_by 67 = .ok (.iload_n 1, 1) := by decide +kernel
theorem dX9_by_68 : decode cX9_by 68 = .ok (.ifCond .ne 10, 3) := by decide +kernel
theorem dX9_by_71 : decode cX9_by 71 = .ok (.iload_n 2, 1) := by decide +kernel
theorem dX9_by_72 : decode cX9_by 72 = .ok (.iload 4, 2) := by decide +kernel
theorem dX9_by_74 : decode cX9_by 74 = .ok (.idiv, 1) := by decide +kernel
theorem dX9_by_75 : decode cX9_by 75 = .ok (.goto 7, 3) := by decide +kernel
theorem dX9_by_78 : decode cX9_by 78 = .ok (.iload_n 3, 1) := by decide +kernel
theorem dX9_by_79 : decode cX9_by 79 = .ok (.iload 4, 2) := by decide +kernel
theorem dX9_by_81 : decode cX9_by 81 = .ok (.idiv, 1) := by decide +kernel
theorem dX9_by_82 : decode cX9_by 82 = .ok (.ireturn, 1) := by decide +kernel
set_option maxRecDepth 20000 in
theorem ggX9_shareOf_X9_sumBy : GoodIn wsX9_shareOf wsX9_sumBy := goodIn_r _ [7, 1, 8, 2, 16, 17, 18, 19, 20, 21, 22, 23, 24, 25, 26, 27, 28, 29, 30, 31, 32, 33, 34, 35, 36, 37, 38, 39, 40, 41, 42, 43, 44, 45, 46, 47, 48, 49, 50, 51, 52] (by decide +kernel) (by decide +kernel)
set_option maxRecDepth 20000 in
theorem gX9_shareOf_X9_sumBy : GoodIn wsX9_shareOf (wsV RX9 274 RX9 yX9_sumBy wsX9_sumBy) := goodIn_app (goodIn_of _ (by decide +kernel)) ggX9_shareOf_X9_sumBy
set_option maxRecDepth 20000 in
theorem ggX9_shareOf_X9_sizeOf : GoodIn wsX9_shareOf wsX9_sizeOf := goodIn_r _ [11] (by decide +kernel) (by decide +kernel)
set_option maxRecDepth 20000 in
theorem gX9_shareOf_X9_sizeOf : GoodIn wsX9_shareOf (va_wsS RX9 92 yX9_sizeOf wsX9_sizeOf) := goodIn_app (goodIn_of _ (by decide +kernel)) ggX9_shareOf_X9_sizeOf
set_option maxRecDepth 20000 in
theorem ggX9_shareOf_X9_dealt : GoodIn wsX9_shareOf wsX9_dealt := goodIn_r _ [15, 1, 8, 16, 17, 18, 19, 20, 21, 22, 23, 24, 25, 26, 27, 28, 29, 30, 31, 32, 33, 34, 35, 36, 37, 38, 39, 40, 41, 42, 43, 44, 45, 46, 47, 48, 49, 50, 51, 52] (by decide +kernel) (by decide +kernel)
set_option maxRecDepth 20000 in
theorem gX9_shareOf_X9_dealt : GoodIn wsX9_shareOf (wsV RX9 266 RX9 yX9_dealt wsX9_dealt) := goodIn_app (goodIn_of _ (by decide +kernel)) ggX9_shareOf_X9_dealt
theorem dX9_shareOf_0 : decode cX9_shareOf 0 = .ok (.iconst 0, 1) := by decide +kernel
theorem dX9_shareOf_1 : decode cX9_shareOf 1 = .ok (.istore_n 1, 1) := by decide +kernel
theorem dX9_shareOf_2 : decode cX9_shareOf 2 = .ok (.iconst 0, 1) := by decide +kernel
theorem dX9_shareOf_3 : decode cX9_shareOf 3 = .ok (.istore_n 2, 1) := by decide +kernel
theorem dX9_shareOf_4 : decode cX9_shareOf 4 = .ok (.aload_n 0, 1) := by decide +kernel
theorem dX9_shareOf_5 : decode cX9_shareOf 5 = .ok (.iconst 1, 1) := by decide +kernel
theorem dX9_shareOf_6 : decode cX9_shareOf 6 = .ok (.invokevirtual 274, 3) := by decide +kernel
theorem dX9_shareOf_9 : decode cX9_shareOf 9 = .ok (.istore_n 3, 1) := by decide +kernel
theorem dX9_shareOf_10 : decode cX9_shareOf 10 = .ok (.iconst 0, 1) := by decide +kernel
theorem dX9_shareOf_11 : decode cX9_shareOf 11 = .ok (.istore 4, 2) := by decide +kernel
theorem dX9_shareOf_13 : decode cX9_shareOf 13 = .ok (.iload 4, 2) := by decide +kernel
theorem dX9_shareOf_15 : decode cX9_shareOf 15 = .ok (.iconst 1, 1) := by decide +kernel
theorem dX9_shareOf_16 : decode cX9_shareOf 16 = .ok (.aload_n 0, 1) := by decide +kernel
theorem dX9_shareOf_17 : decode cX9_shareOf 17 = .ok (.getfield 263, 3) := by decide +kernel
theorem dX9_shareOf_20 : decode cX9_shareOf 20 = .ok (.ishl, 1) := by decide +kernel
theorem dX9_shareOf_21 : decode cX9_shareOf 21 = .ok (.if_icmp .ge 87, 3) := by decide +kernel
theorem dX9_shareOf_24 : decode cX9_shareOf 24 = .ok (.iload 4, 2) := by decide +kernel
theorem dX9_shareOf_26 : decode cX9_shareOf 26 = .ok (.invokestatic 92, 3) := by decide +kernel
theorem dX9_shareOf_29 : decode cX9_shareOf 29 = .ok (.aload_n 0, 1) := by decide +kernel
theorem dX9_shareOf_30 : decode cX9_shareOf 30 = .ok (.iconst 1, 1) := by decide +kernel
theorem dX9_shareOf_31 : decode cX9_shareOf 31 = .ok (.invokevirtual 266, 3) := by decide +kernel
theorem dX9_shareOf_34 : decode cX9_shareOf 34 = .ok (.if_icmp .ne 68, 3) := by decide +kernel
theorem dX9_shareOf_37 : decode cX9_shareOf 37 = .ok (.iconst 0, 1) := by decide +kernel
theorem dX9_shareOf_38 : decode cX9_shareOf 38 = .ok (.istore 5, 2) := by decide +kernel
theorem dX9_shareOf_40 : decode cX9_shareOf 40 = .ok (.iconst 0, 1) := by decide +kernel
theorem dX9_shareOf_41 : decode cX9_shareOf 41 = .ok (.istore 6, 2) := by decide +kernel
theorem dX9_shareOf_43 : decode cX9_shareOf 43 = .ok (.iload 6, 2) := by decide +kernel
theorem dX9_shareOf_45 : decode cX9_shareOf 45 = .ok (.aload_n 0, 1) := by decide +kernel
theorem dX9_shareOf_46 : decode cX9_shareOf 46 = .ok (.getfield 263, 3) := by decide +kernel
theorem dX9_shareOf_49 : decode cX9_shareOf 49 = .ok (.if_icmp .ge 36, 3) := by decide +kernel
theorem dX9_shareOf_52 : decode cX9_shareOf 52 = .ok (.iload 5, 2) := by decide +kernel
theorem dX9_shareOf_54 : decode cX9_shareOf 54 = .ok (.iload 4, 2) := by decide +kernel
theorem dX9_shareOf_56 : decode cX9_shareOf 56 = .ok (.iload 6, 2) := by decide +kernel
theorem dX9_shareOf_58 : decode cX9_shareOf 58 = .ok (.ishr, 1) := by decide +kernel
theorem dX9_shareOf_59 : decode cX9_shareOf 59 = .ok (.iconst 1, 1) := by decide +kernel
theorem dX9_shareOf_60 : decode cX9_shareOf 60 = .ok (.iand, 1) := by decide +kernel
theorem dX9_shareOf_61 : decode cX9_shareOf 61 = .ok (.iconst 1, 1) := by decide +kernel
theorem dX9_shareOf_62 : decode cX9_shareOf 62 = .ok (.if_icmp .ne 13, 3) := by decide +kernel
theorem dX9_shareOf_65 : decode cX9_shareOf 65 = .ok (.aload_n 0, 1) := by decide +kernel
theorem dX9_shareOf_66 : decode cX9_shareOf 66 = .ok (.getfield 77, 3) := by decide +kernel
theorem dX9_shareOf_69 : decode cX9_shareOf 69 = .ok (.iload 6, 2) := by decide +kernel
theorem dX9_shareOf_71 : decode cX9_shareOf 71 = .ok (.iaload, 1) := by decide +kernel
theorem dX9_shareOf_72 : decode cX9_shareOf 72 = .ok (.goto 4, 3) := by decide +kernel
theorem dX9_shareOf_75 : decode cX9_shareOf 75 = .ok (.iconst 0, 1) := by decide +kernel
theorem dX9_shareOf_76 : decode cX9_shareOf 76 = .ok (.iadd, 1) := by decide +kernel
theorem dX9_shareOf_77 : decode cX9_shareOf 77 = .ok (.istore 5, 2) := by decide +kernel
theorem dX9_shareOf_79 : decode cX9_shareOf 79 = .ok (.iinc 6 1, 3) := by decide +kernel
theorem dX9_shareOf_82 : decode cX9_shareOf 82 = .ok (.goto (-39), 3) := by decide +kernel
theorem dX9_shareOf_85 : decode cX9_shareOf 85 = .ok (.iinc 1 1, 3) := by decide +kernel
theorem dX9_shareOf_88 : decode cX9_shareOf 88 = .ok (.iload_n 2, 1) := by decide +kernel
theorem dX9_shareOf_89 : decode cX9_shareOf 89 = .ok (.iload 5, 2) := by decide +kernel
theorem dX9_shareOf_91 : decode cX9_shareOf 91 = .ok (.iload_n 3, 1) := by decide +kernel
theorem dX9_shareOf_92 : decode cX9_shareOf 92 = .ok (.if_icmp .lt 7, 3) := by decide +kernel
theorem dX9_shareOf_95 : decode cX9_shareOf 95 = .ok (.iconst 1, 1) := by decide +kernel
theorem dX9_shareOf_96 : decode cX9_shareOf 96 = .ok (.goto 4, 3) := by decide +kernel
theorem dX9_shareOf_99 : decode cX9_shareOf 99 = .ok (.iconst 0, 1) := by decide +kernel
theorem dX9_shareOf_100 : decode cX9_shareOf 100 = .ok (.iadd, 1) := by decide +kernel
theorem dX9_shareOf_101 : decode cX9_shareOf 101 = .ok (.istore_n 2, 1) := by decide +kernel
theorem dX9_shareOf_102 : decode cX9_shareOf 102 = .ok (.iinc 4 1, 3) := by decide +kernel
theorem dX9_shareOf_105 : decode cX9_shareOf 105 = .ok (.goto (-92), 3) := by decide +kernel
theorem dX9_shareOf_108 : decode cX9_shareOf 108 = .ok (.sipush 1000, 3) := by decide +kernel
theorem dX9_shareOf_111 : decode cX9_shareOf 111 = .ok (.iload_n 2, 1) := by decide +kernel
theorem dX9_shareOf_112 : decode cX9_shareOf 112 = .ok (.imul, 1) := by decide +kernel
theorem dX9_shareOf_113 : decode cX9_shareOf 113 = .ok (.iload_n 1, 1) := by decide +kernel
theorem dX9_shareOf_114 : decode cX9_shareOf 114 = .ok (.idiv, 1) := by decide +kernel
theorem dX9_shareOf_115 : decode cX9_shareOf 115 = .ok (.ireturn, 1) := by decide +kernel
set_option maxRecDepth 20000 in
theorem ggX9_share_X9_isTrial : GoodIn wsX9_share wsX9_isTrial := goodIn_r _ [5, 6, 7, 8, 4, 9, 10, 11, 24, 25, 26, 27, 28, 29, 30, 31, 32, 33, 34, 35, 36, 37, 38, 39, 40, 41, 42, 43, 44, 45, 46, 47, 48, 49, 50, 51, 52, 53, 54, 55, 56, 57, 58, 59, 60] (by decide +kernel) (by decide +kernel)
set_option maxRecDepth 20000 in
theorem gX9_share_X9_isTrial : GoodIn wsX9_share (wsV RX9 269 RX9 yX9_isTrial wsX9_isTrial) := goodIn_app (goodIn_of _ (by decide +kernel)) ggX9_share_X9_isTrial
set_option maxRecDepth 20000 in
theorem ggX9_share_X9_shareOf : GoodIn wsX9_share wsX9_shareOf := goodIn_r _ [15, 10, 16, 17, 18, 19, 4, 20, 11, 21, 22, 23, 6, 7, 8, 9, 24, 25, 26, 27, 28, 29, 30, 31, 32, 33, 34, 35, 36, 37, 38, 39, 40, 41, 42, 43, 44, 45, 46, 47, 48, 49, 50, 51, 52, 53, 54, 55, 56, 57, 58, 59, 60] (by decide +kernel) (by decide +kernel)
set_option maxRecDepth 20000 in
theorem gX9_share_X9_shareOf : GoodIn wsX9_share (wsV RX9 280 RX9 yX9_shareOf wsX9_shareOf) := goodIn_app (goodIn_of _ (by decide +kernel)) ggX9_share_X9_shareOf
theorem dX9_share_0 : decode cX9_share 0 = .ok (.aload_n 0, 1) := by decide +kernel
theorem dX9_share_1 : decode cX9_share 1 = .ok (.invokevirtual 269, 3) := by decide +kernel
theorem dX9_share_4 : decode cX9_share 4 = .ok (.ifCond .eq 10, 3) := by decide +kernel
theorem dX9_share_7 : decode cX9_share 7 = .ok (.aload_n 0, 1) := by decide +kernel
theorem dX9_share_8 : decode cX9_share 8 = .ok (.invokevirtual 280, 3) := by decide +kernel
theorem dX9_share_11 : decode cX9_share 11 = .ok (.goto 5, 3) := by decide +kernel
theorem dX9_share_14 : decode cX9_share 14 = .ok (.bipush (-2), 2) := by decide +kernel
theorem dX9_share_16 : decode cX9_share 16 = .ok (.ireturn, 1) := by decide +kernel
set_option maxRecDepth 20000 in
theorem ggX9_verdict_X9_isTrial : GoodIn wsX9_verdict wsX9_isTrial := goodIn_r _ [6, 7, 8, 9, 5, 10, 11, 12, 25, 26, 27, 28, 29, 30, 31, 32, 33, 34, 35, 36, 37, 38, 39, 40, 41, 42, 43, 44, 45, 46, 47, 48, 49, 50, 51, 52, 53, 54, 55, 56, 57, 58, 59, 60, 61] (by decide +kernel) (by decide +kernel)
set_option maxRecDepth 20000 in
theorem gX9_verdict_X9_isTrial : GoodIn wsX9_verdict (wsV RX9 269 RX9 yX9_isTrial wsX9_isTrial) := goodIn_app (goodIn_of _ (by decide +kernel)) ggX9_verdict_X9_isTrial
set_option maxRecDepth 20000 in
theorem ggX9_verdict_X9_shareOf : GoodIn wsX9_verdict wsX9_shareOf := goodIn_r _ [16, 11, 17, 18, 19, 20, 5, 21, 12, 22, 23, 24, 7, 8, 9, 10, 25, 26, 27, 28, 29, 30, 31, 32, 33, 34, 35, 36, 37, 38, 39, 40, 41, 42, 43, 44, 45, 46, 47, 48, 49, 50, 51, 52, 53, 54, 55, 56, 57, 58, 59, 60, 61] (by decide +kernel) (by decide +kernel)
set_option maxRecDepth 20000 in
theorem gX9_verdict_X9_shareOf : GoodIn wsX9_verdict (wsV RX9 280 RX9 yX9_shareOf wsX9_shareOf) := goodIn_app (goodIn_of _ (by decide +kernel)) ggX9_verdict_X9_shareOf
theorem dX9_verdict_0 : decode cX9_verdict 0 = .ok (.aload_n 0, 1) := by decide +kernel
theorem dX9_verdict_1 : decode cX9_verdict 1 = .ok (.invokevirtual 269, 3) := by decide +kernel
theorem dX9_verdict_4 : decode cX9_verdict 4 = .ok (.ifCond .ne 6, 3) := by decide +kernel
theorem dX9_verdict_7 : decode cX9_verdict 7 = .ok (.bipush (-2), 2) := by decide +kernel
theorem dX9_verdict_9 : decode cX9_verdict 9 = .ok (.ireturn, 1) := by decide +kernel
theorem dX9_verdict_10 : decode cX9_verdict 10 = .ok (.aload_n 0, 1) := by decide +kernel
theorem dX9_verdict_11 : decode cX9_verdict 11 = .ok (.invokevirtual 280, 3) := by decide +kernel
theorem dX9_verdict_14 : decode cX9_verdict 14 = .ok (.istore_n 1, 1) := by decide +kernel
theorem dX9_verdict_15 : decode cX9_verdict 15 = .ok (.iload_n 1, 1) := by decide +kernel
theorem dX9_verdict_16 : decode cX9_verdict 16 = .ok (.aload_n 0, 1) := by decide +kernel
theorem dX9_verdict_17 : decode cX9_verdict 17 = .ok (.getfield 41, 3) := by decide +kernel
theorem dX9_verdict_20 : decode cX9_verdict 20 = .ok (.iconst 4, 1) := by decide +kernel
theorem dX9_verdict_21 : decode cX9_verdict 21 = .ok (.iaload, 1) := by decide +kernel
theorem dX9_verdict_22 : decode cX9_verdict 22 = .ok (.if_icmp .ge 7, 3) := by decide +kernel
theorem dX9_verdict_25 : decode cX9_verdict 25 = .ok (.iconst 1, 1) := by decide +kernel
theorem dX9_verdict_26 : decode cX9_verdict 26 = .ok (.goto 16, 3) := by decide +kernel
theorem dX9_verdict_29 : decode cX9_verdict 29 = .ok (.iload_n 1, 1) := by decide +kernel
theorem dX9_verdict_30 : decode cX9_verdict 30 = .ok (.sipush 500, 3) := by decide +kernel
theorem dX9_verdict_33 : decode cX9_verdict 33 = .ok (.if_icmp .lt 7, 3) := by decide +kernel
theorem dX9_verdict_36 : decode cX9_verdict 36 = .ok (.iconst 0, 1) := by decide +kernel
theorem dX9_verdict_37 : decode cX9_verdict 37 = .ok (.goto 5, 3) := by decide +kernel
theorem dX9_verdict_40 : decode cX9_verdict 40 = .ok (.bipush (-5), 2) := by decide +kernel
theorem dX9_verdict_42 : decode cX9_verdict 42 = .ok (.ireturn, 1) := by decide +kernel
set_option maxRecDepth 20000 in
theorem ggX9_isSheet_X9_in : GoodIn wsX9_isSheet wsX9_in := goodIn_r _ [5] (by decide +kernel) (by decide +kernel)
set_option maxRecDepth 20000 in
theorem gX9_isSheet_X9_in : GoodIn wsX9_isSheet (va_wsS RX9 102 yX9_in wsX9_in) := goodIn_app (goodIn_of _ (by decide +kernel)) ggX9_isSheet_X9_in
theorem dX9_isSheet_0 : decode cX9_isSheet 0 = .ok (.iload_n 0, 1) := by decide +kernel
theorem dX9_isSheet_1 : decode cX9_isSheet 1 = .ok (.i2l, 1) := by decide +kernel
theorem dX9_isSheet_2 : decode cX9_isSheet 2 = .ok (.lconst 0, 1) := by decide +kernel
theorem dX9_isSheet_3 : decode cX9_isSheet 3 = .ok (.ldc2_w 177, 3) := by decide +kernel
theorem dX9_isSheet_6 : decode cX9_isSheet 6 = .ok (.invokestatic 102, 3) := by decide +kernel
theorem dX9_isSheet_9 : decode cX9_isSheet 9 = .ok (.ireturn, 1) := by decide +kernel
set_option maxRecDepth 20000 in
theorem ggX9_isLane_X9_in : GoodIn wsX9_isLane wsX9_in := goodIn_r _ [5] (by decide +kernel) (by decide +kernel)
set_option maxRecDepth 20000 in
theorem gX9_isLane_X9_in : GoodIn wsX9_isLane (va_wsS RX9 102 yX9_in wsX9_in) := goodIn_app (goodIn_of _ (by decide +kernel)) ggX9_isLane_X9_in
theorem dX9_isLane_0 : decode cX9_isLane 0 = .ok (.iload_n 0, 1) := by decide +kernel
theorem dX9_isLane_1 : decode cX9_isLane 1 = .ok (.i2l, 1) := by decide +kernel
theorem dX9_isLane_2 : decode cX9_isLane 2 = .ok (.lconst 0, 1) := by decide +kernel
theorem dX9_isLane_3 : decode cX9_isLane 3 = .ok (.ldc2_w 128, 3) := by decide +kernel
theorem dX9_isLane_6 : decode cX9_isLane 6 = .ok (.invokestatic 102, 3) := by decide +kernel
theorem dX9_isLane_9 : decode cX9_isLane 9 = .ok (.ireturn, 1) := by decide +kernel
theorem dX9_finds_0 : decode cX9_finds 0 = .ok (.aload_n 0, 1) := by decide +kernel
theorem dX9_finds_1 : decode cX9_finds 1 = .ok (.getfield 80, 3) := by decide +kernel
theorem dX9_finds_4 : decode cX9_finds 4 = .ok (.iload_n 1, 1) := by decide +kernel
theorem dX9_finds_5 : decode cX9_finds 5 = .ok (.iaload, 1) := by decide +kernel
theorem dX9_finds_6 : decode cX9_finds 6 = .ok (.ifCond .ge 6, 3) := by decide +kernel
theorem dX9_finds_9 : decode cX9_finds 9 = .ok (.bipush (-11), 2) := by decide +kernel
theorem dX9_finds_11 : decode cX9_finds 11 = .ok (.ireturn, 1) := by decide +kernel
theorem dX9_finds_12 : decode cX9_finds 12 = .ok (.aload_n 0, 1) := by decide +kernel
theorem dX9_finds_13 : decode cX9_finds 13 = .ok (.getfield 80, 3) := by decide +kernel
theorem dX9_finds_16 : decode cX9_finds 16 = .ok (.iload_n 1, 1) := by decide +kernel
theorem dX9_finds_17 : decode cX9_finds 17 = .ok (.iaload, 1) := by decide +kernel
theorem dX9_finds_18 : decode cX9_finds 18 = .ok (.iload_n 2, 1) := by decide +kernel
theorem dX9_finds_19 : decode cX9_finds 19 = .ok (.if_icmp .eq 6, 3) := by decide +kernel
theorem dX9_finds_22 : decode cX9_finds 22 = .ok (.bipush (-12), 2) := by decide +kernel
theorem dX9_finds_24 : decode cX9_finds 24 = .ok (.ireturn, 1) := by decide +kernel
theorem dX9_finds_25 : decode cX9_finds 25 = .ok (.iload_n 3, 1) := by decide +kernel
theorem dX9_finds_26 : decode cX9_finds 26 = .ok (.ifCond .lt 20, 3) := by decide +kernel
theorem dX9_finds_29 : decode cX9_finds 29 = .ok (.iload_n 3, 1) := by decide +kernel
theorem dX9_finds_30 : decode cX9_finds 30 = .ok (.i2l, 1) := by decide +kernel
theorem dX9_finds_31 : decode cX9_finds 31 = .ok (.iload 4, 2) := by decide +kernel
theorem dX9_finds_33 : decode cX9_finds 33 = .ok (.i2l, 1) := by decide +kernel
theorem dX9_finds_34 : decode cX9_finds 34 = .ok (.ladd, 1) := by decide +kernel
theorem dX9_finds_35 : decode cX9_finds 35 = .ok (.aload_n 0, 1) := by decide +kernel
theorem dX9_finds_36 : decode cX9_finds 36 = .ok (.getfield 83, 3) := by decide +kernel
theorem dX9_finds_39 : decode cX9_finds 39 = .ok (.iload_n 1, 1) := by decide +kernel
theorem dX9_finds_40 : decode cX9_finds 40 = .ok (.iaload, 1) := by decide +kernel
theorem dX9_finds_41 : decode cX9_finds 41 = .ok (.i2l, 1) := by decide +kernel
theorem dX9_finds_42 : decode cX9_finds 42 = .ok (.lcmp, 1) := by decide +kernel
theorem dX9_finds_43 : decode cX9_finds 43 = .ok (.ifCond .le 8, 3) := by decide +kernel
theorem dX9_finds_46 : decode cX9_finds 46 = .ok (.bipush (-13), 2) := by decide +kernel
theorem dX9_finds_48 : decode cX9_finds 48 = .ok (.goto 4, 3) := by decide +kernel
theorem dX9_finds_51 : decode cX9_finds 51 = .ok (.iconst 0, 1) := by decide +kernel
theorem dX9_finds_52 : decode cX9_finds 52 = .ok (.ireturn, 1) := by decide +kernel
set_option maxRecDepth 20000 in
theorem ggX9_sheet_X9_isSheet : GoodIn wsX9_sheet wsX9_isSheet := goodIn_r _ [7, 8, 9, 10, 6, 11] (by decide +kernel) (by decide +kernel)
set_option maxRecDepth 20000 in
theorem gX9_sheet_X9_isSheet : GoodIn wsX9_sheet (va_wsS RX9 132 yX9_isSheet wsX9_isSheet) := goodIn_app (goodIn_of _ (by decide +kernel)) ggX9_sheet_X9_isSheet
set_option maxRecDepth 20000 in
theorem ggX9_sheet_X9_isLane : GoodIn wsX9_sheet wsX9_isLane := goodIn_r _ [14, 15, 9, 10, 6, 11] (by decide +kernel) (by decide +kernel)
set_option maxRecDepth 20000 in
theorem gX9_sheet_X9_isLane : GoodIn wsX9_sheet (va_wsS RX9 135 yX9_isLane wsX9_isLane) := goodIn_app (goodIn_of _ (by decide +kernel)) ggX9_sheet_X9_isLane
theorem dX9_sheet_0 : decode cX9_sheet 0 = .ok (.iload_n 1, 1) := by decide +kernel
theorem dX9_sheet_1 : decode cX9_sheet 1 = .ok (.invokestatic 132, 3) := by decide +kernel
theorem dX9_sheet_4 : decode cX9_sheet 4 = .ok (.ifCond .eq 16, 3) := by decide +kernel
theorem dX9_sheet_7 : decode cX9_sheet 7 = .ok (.iload_n 2, 1) := by decide +kernel
theorem dX9_sheet_8 : decode cX9_sheet 8 = .ok (.invokestatic 135, 3) := by decide +kernel
theorem dX9_sheet_11 : decode cX9_sheet 11 = .ok (.ifCond .eq 9, 3) := by decide +kernel
theorem dX9_sheet_14 : decode cX9_sheet 14 = .ok (.iload_n 3, 1) := by decide +kernel
theorem dX9_sheet_15 : decode cX9_sheet 15 = .ok (.bipush 40, 2) := by decide +kernel
theorem dX9_sheet_17 : decode cX9_sheet 17 = .ok (.if_icmp .le 5, 3) := by decide +kernel
theorem dX9_sheet_20 : decode cX9_sheet 20 = .ok (.iconst (-1), 1) := by decide +kernel
theorem dX9_sheet_21 : decode cX9_sheet 21 = .ok (.ireturn, 1) := by decide +kernel
theorem dX9_sheet_22 : decode cX9_sheet 22 = .ok (.iload_n 3, 1) := by decide +kernel
theorem dX9_sheet_23 : decode cX9_sheet 23 = .ok (.ifCond .ge 6, 3) := by decide +kernel
theorem dX9_sheet_26 : decode cX9_sheet 26 = .ok (.bipush (-14), 2) := by decide +kernel
theorem dX9_sheet_28 : decode cX9_sheet 28 = .ok (.ireturn, 1) := by decide +kernel
theorem dX9_sheet_29 : decode cX9_sheet 29 = .ok (.aload_n 0, 1) := by decide +kernel
theorem dX9_sheet_30 : decode cX9_sheet 30 = .ok (.getfield 80, 3) := by decide +kernel
theorem dX9_sheet_33 : decode cX9_sheet 33 = .ok (.iload_n 1, 1) := by decide +kernel
theorem dX9_sheet_34 : decode cX9_sheet 34 = .ok (.iload_n 2, 1) := by decide +kernel
theorem dX9_sheet_35 : decode cX9_sheet 35 = .ok (.iastore, 1) := by decide +kernel
theorem dX9_sheet_36 : decode cX9_sheet 36 = .ok (.aload_n 0, 1) := by decide +kernel
theorem dX9_sheet_37 : decode cX9_sheet 37 = .ok (.getfield 83, 3) := by decide +kernel
theorem dX9_sheet_40 : decode cX9_sheet 40 = .ok (.iload_n 1, 1) := by decide +kernel
theorem dX9_sheet_41 : decode cX9_sheet 41 = .ok (.iload_n 3, 1) := by decide +kernel
theorem dX9_sheet_42 : decode cX9_sheet 42 = .ok (.iastore, 1) := by decide +kernel
theorem dX9_sheet_43 : decode cX9_sheet 43 = .ok (.iconst 0, 1) := by decide +kernel
theorem dX9_sheet_44 : decode cX9_sheet 44 = .ok (.istore 4, 2) := by decide +kernel
theorem dX9_sheet_46 : decode cX9_sheet 46 = .ok (.iload 4, 2) := by decide +kernel
theorem dX9_sheet_48 : decode cX9_sheet 48 = .ok (.bipush 40, 2) := by decide +kernel
theorem dX9_sheet_50 : decode cX9_sheet 50 = .ok (.if_icmp .ge 22, 3) := by decide +kernel
theorem dX9_sheet_53 : decode cX9_sheet 53 = .ok (.aload_n 0, 1) := by decide +kernel
theorem dX9_sheet_54 : decode cX9_sheet 54 = .ok (.getfield 86, 3) := by decide +kernel
theorem dX9_sheet_57 : decode cX9_sheet 57 = .ok (.bipush 40, 2) := by decide +kernel
theorem dX9_sheet_59 : decode cX9_sheet 59 = .ok (.iload_n 1, 1) := by decide +kernel
theorem dX9_sheet_60 : decode cX9_sheet 60 = .ok (.imul, 1) := by decide +kernel
theorem dX9_sheet_61 : decode cX9_sheet 61 = .ok (.iload 4, 2) := by decide +kernel
theorem dX9_sheet_63 : decode cX9_sheet 63 = .ok (.iadd, 1) := by decide +kernel
theorem dX9_sheet_64 : decode cX9_sheet 64 = .ok (.iconst 0, 1) := by decide +kernel
theorem dX9_sheet_65 : decode cX9_sheet 65 = .ok (.iastore, 1) := by decide +kernel
theorem dX9_sheet_66 : decode cX9_sheet 66 = .ok (.iinc 4 1, 3) := by decide +kernel
theorem dX9_sheet_69 : decode cX9_sheet 69 = .ok (.goto (-23), 3) := by decide +kernel
theorem dX9_sheet_72 : decode cX9_sheet 72 = .ok (.iload_n 3, 1) := by decide +kernel
theorem dX9_sheet_73 : decode cX9_sheet 73 = .ok (.ireturn, 1) := by decide +kernel
set_option maxRecDepth 20000 in
theorem ggX9_drop_X9_isSheet : GoodIn wsX9_drop wsX9_isSheet := goodIn_r _ [6, 7, 8, 9, 5, 10] (by decide +kernel) (by decide +kernel)
set_option maxRecDepth 20000 in
theorem gX9_drop_X9_isSheet : GoodIn wsX9_drop (va_wsS RX9 132 yX9_isSheet wsX9_isSheet) := goodIn_app (goodIn_of _ (by decide +kernel)) ggX9_drop_X9_isSheet
theorem dX9_drop_0 : decode cX9_drop 0 = .ok (.iload_n 1, 1) := by decide +kernel
theorem dX9_drop_1 : decode cX9_drop 1 = .ok (.invokestatic 132, 3) := by decide +kernel
theorem dX9_drop_4 : decode cX9_drop 4 = .ok (.ifCond .ne 5, 3) := by decide +kernel
theorem dX9_drop_7 : decode cX9_drop 7 = .ok (.iconst (-1), 1) := by decide +kernel
theorem dX9_drop_8 : decode cX9_drop 8 = .ok (.ireturn, 1) := by decide +kernel
theorem dX9_drop_9 : decode cX9_drop 9 = .ok (.aload_n 0, 1) := by decide +kernel
theorem dX9_drop_10 : decode cX9_drop 10 = .ok (.getfield 80, 3) := by decide +kernel
theorem dX9_drop_13 : decode cX9_drop 13 = .ok (.iload_n 1, 1) := by decide +kernel
theorem dX9_drop_14 : decode cX9_drop 14 = .ok (.iaload, 1) := by decide +kernel
theorem dX9_drop_15 : decode cX9_drop 15 = .ok (.ifCond .ge 6, 3) := by decide +kernel
theorem dX9_drop_18 : decode cX9_drop 18 = .ok (.bipush (-11), 2) := by decide +kernel
theorem dX9_drop_20 : decode cX9_drop 20 = .ok (.ireturn, 1) := by decide +kernel
theorem dX9_drop_21 : decode cX9_drop 21 = .ok (.aload_n 0, 1) := by decide +kernel
theorem dX9_drop_22 : decode cX9_drop 22 = .ok (.getfield 80, 3) := by decide +kernel
theorem dX9_drop_25 : decode cX9_drop 25 = .ok (.iload_n 1, 1) := by decide +kernel
theorem dX9_drop_26 : decode cX9_drop 26 = .ok (.iconst (-1), 1) := by decide +kernel
theorem dX9_drop_27 : decode cX9_drop 27 = .ok (.iastore, 1) := by decide +kernel
theorem dX9_drop_28 : decode cX9_drop 28 = .ok (.aload_n 0, 1) := by decide +kernel
theorem dX9_drop_29 : decode cX9_drop 29 = .ok (.getfield 83, 3) := by decide +kernel
theorem dX9_drop_32 : decode cX9_drop 32 = .ok (.iload_n 1, 1) := by decide +kernel
theorem dX9_drop_33 : decode cX9_drop 33 = .ok (.iaload, 1) := by decide +kernel
theorem dX9_drop_34 : decode cX9_drop 34 = .ok (.ireturn, 1) := by decide +kernel
set_option maxRecDepth 20000 in
theorem ggX9_item_X9_isSheet : GoodIn wsX9_item wsX9_isSheet := goodIn_r _ [5, 6, 7, 8, 4, 9] (by decide +kernel) (by decide +kernel)
set_option maxRecDepth 20000 in
theorem gX9_item_X9_isSheet : GoodIn wsX9_item (va_wsS RX9 132 yX9_isSheet wsX9_isSheet) := goodIn_app (goodIn_of _ (by decide +kernel)) ggX9_item_X9_isSheet
set_option maxRecDepth 20000 in
theorem ggX9_item_X9_isLane : GoodIn wsX9_item wsX9_isLane := goodIn_r _ [12, 13, 7, 8, 4, 9] (by decide +kernel) (by decide +kernel)
set_option maxRecDepth 20000 in
theorem gX9_item_X9_isLane : GoodIn wsX9_item (va_wsS RX9 135 yX9_isLane wsX9_isLane) := goodIn_app (goodIn_of _ (by decide +kernel)) ggX9_item_X9_isLane
set_option maxRecDepth 20000 in
theorem ggX9_item_X9_finds : GoodIn wsX9_item wsX9_finds := goodIn_r _ [17, 18, 19, 20, 21, 22, 23, 24, 25, 26, 27, 28, 29, 30, 31, 32, 33, 34, 35, 36, 37, 38, 39, 40, 41, 42, 43, 44, 45, 46, 47, 48, 49, 50, 51, 52, 53, 54, 55, 56] (by decide +kernel) (by decide +kernel)
set_option maxRecDepth 20000 in
theorem gX9_item_X9_finds : GoodIn wsX9_item (wsV RX9 140 RX9 yX9_finds wsX9_finds) := goodIn_app (goodIn_of _ (by decide +kernel)) ggX9_item_X9_finds
theorem dX9_item_0 : decode cX9_item 0 = .ok (.iload_n 1, 1) := by decide +kernel
theorem dX9_item_1 : decode cX9_item 1 = .ok (.invokestatic 132, 3) := by decide +kernel
theorem dX9_item_4 : decode cX9_item 4 = .ok (.ifCond .eq 10, 3) := by decide +kernel
theorem dX9_item_7 : decode cX9_item 7 = .ok (.iload_n 2, 1) := by decide +kernel
theorem dX9_item_8 : decode cX9_item 8 = .ok (.invokestatic 135, 3) := by decide +kernel
theorem dX9_item_11 : decode cX9_item 11 = .ok (.ifCond .ne 5, 3) := by decide +kernel
theorem dX9_item_14 : decode cX9_item 14 = .ok (.iconst (-1), 1) := by decide +kernel
theorem dX9_item_15 : decode cX9_item 15 = .ok (.ireturn, 1) := by decide +kernel
theorem dX9_item_16 : decode cX9_item 16 = .ok (.aload_n 0, 1) := by decide +kernel
theorem dX9_item_17 : decode cX9_item 17 = .ok (.iload_n 1, 1) := by decide +kernel
theorem dX9_item_18 : decode cX9_item 18 = .ok (.iload_n 2, 1) := by decide +kernel
theorem dX9_item_19 : decode cX9_item 19 = .ok (.iload_n 3, 1) := by decide +kernel
theorem dX9_item_20 : decode cX9_item 20 = .ok (.iconst 1, 1) := by decide +kernel
theorem dX9_item_21 : decode cX9_item 21 = .ok (.invokevirtual 140, 3) := by decide +kernel
theorem dX9_item_24 : decode cX9_item 24 = .ok (.istore 5, 2) := by decide +kernel
theorem dX9_item_26 : decode cX9_item 26 = .ok (.iload 5, 2) := by decide +kernel
theorem dX9_item_28 : decode cX9_item 28 = .ok (.ifCond .ge 6, 3) := by decide +kernel
theorem dX9_item_31 : decode cX9_item 31 = .ok (.iload 5, 2) := by decide +kernel
theorem dX9_item_33 : decode cX9_item 33 = .ok (.ireturn, 1) := by decide +kernel
theorem dX9_item_34 : decode cX9_item 34 = .ok (.aload_n 0, 1) := by decide +kernel
theorem dX9_item_35 : decode cX9_item 35 = .ok (.getfield 86, 3) := by decide +kernel
theorem dX9_item_38 : decode cX9_item 38 = .ok (.bipush 40, 2) := by decide +kernel
theorem dX9_item_40 : decode cX9_item 40 = .ok (.iload_n 1, 1) := by decide +kernel
theorem dX9_item_41 : decode cX9_item 41 = .ok (.imul, 1) := by decide +kernel
theorem dX9_item_42 : decode cX9_item 42 = .ok (.iload_n 3, 1) := by decide +kernel
theorem dX9_item_43 : decode cX9_item 43 = .ok (.iadd, 1) := by decide +kernel
theorem dX9_item_44 : decode cX9_item 44 = .ok (.iload_n 2, 1) := by decide +kernel
theorem dX9_item_45 : decode cX9_item 45 = .ok (.ifCond .ne 9, 3) := by decide +kernel
theorem dX9_item_48 : decode cX9_item 48 = .ok (.iload 4, 2) := by decide +kernel
theorem dX9_item_50 : decode cX9_item 50 = .ok (.i2b, 1) := by decide +kernel
theorem dX9_item_51 : decode cX9_item 51 = .ok (.goto 16, 3) := by decide +kernel
theorem dX9_item_54 : decode cX9_item 54 = .ok (.iload_n 2, 1) := by decide +kernel
theorem dX9_item_55 : decode cX9_item 55 = .ok (.iconst 1, 1) := by decide +kernel
theorem dX9_item_56 : decode cX9_item 56 = .ok (.if_icmp .ne 9, 3) := by decide +kernel
theorem dX9_item_59 : decode cX9_item 59 = .ok (.iload 4, 2) := by decide +kernel
theorem dX9_item_61 : decode cX9_item 61 = .ok (.i2s, 1) := by decide +kernel
theorem dX9_item_62 : decode cX9_item 62 = .ok (.goto 5, 3) := by decide +kernel
theorem dX9_item_65 : decode cX9_item 65 = .ok (.iload 4, 2) := by decide +kernel
theorem dX9_item_67 : decode cX9_item 67 = .ok (.iastore, 1) := by decide +kernel
theorem dX9_item_68 : decode cX9_item 68 = .ok (.iconst 1, 1) := by decide +kernel
theorem dX9_item_69 : decode cX9_item 69 = .ok (.ireturn, 1) := by decide +kernel
set_option maxRecDepth 20000 in
theorem ggX9_copy_X9_isSheet : GoodIn wsX9_copy wsX9_isSheet := goodIn_r _ [7, 8, 9, 10, 6, 11] (by decide +kernel) (by decide +kernel)
set_option maxRecDepth 20000 in
theorem gX9_copy_X9_isSheet : GoodIn wsX9_copy (va_wsS RX9 132 yX9_isSheet wsX9_isSheet) := goodIn_app (goodIn_of _ (by decide +kernel)) ggX9_copy_X9_isSheet
set_option maxRecDepth 20000 in
theorem ggX9_copy_X9_finds : GoodIn wsX9_copy wsX9_finds := goodIn_r _ [15, 1, 16, 17, 18, 19, 20, 21, 22, 23, 24, 25, 26, 27, 28, 29, 30, 31, 32, 33, 34, 35, 36, 37, 38, 39, 40, 41, 42, 43, 44, 45, 46, 47, 48, 49, 50, 51, 52, 53] (by decide +kernel) (by decide +kernel)
set_option maxRecDepth 20000 in
theorem gX9_copy_X9_finds : GoodIn wsX9_copy (wsV RX9 140 RX9 yX9_finds wsX9_finds) := goodIn_app (goodIn_of _ (by decide +kernel)) ggX9_copy_X9_finds
theorem dX9_copy_0 : decode cX9_copy 0 = .ok (.iload_n 1, 1) := by decide +kernel
theorem dX9_copy_1 : decode cX9_copy 1 = .ok (.invokestatic 132, 3) := by decide +kernel
theorem dX9_copy_4 : decode cX9_copy 4 = .ok (.ifCond .eq 10, 3) := by decide +kernel
theorem dX9_copy_7 : decode cX9_copy 7 = .ok (.iload_n 3, 1) := by decide +kernel
theorem dX9_copy_8 : decode cX9_copy 8 = .ok (.invokestatic 132, 3) := by decide +kernel
theorem dX9_copy_11 : decode cX9_copy 11 = .ok (.ifCond .ne 5, 3) := by decide +kernel
theorem dX9_copy_14 : decode cX9_copy 14 = .ok (.iconst (-1), 1) := by decide +kernel
theorem dX9_copy_15 : decode cX9_copy 15 = .ok (.ireturn, 1) := by decide +kernel
theorem dX9_copy_16 : decode cX9_copy 16 = .ok (.aload_n 0, 1) := by decide +kernel
theorem dX9_copy_17 : decode cX9_copy 17 = .ok (.getfield 80, 3) := by decide +kernel
theorem dX9_copy_20 : decode cX9_copy 20 = .ok (.iload_n 1, 1) := by decide +kernel
theorem dX9_copy_21 : decode cX9_copy 21 = .ok (.iaload, 1) := by decide +kernel
theorem dX9_copy_22 : decode cX9_copy 22 = .ok (.ifCond .lt 12, 3) := by decide +kernel
theorem dX9_copy_25 : decode cX9_copy 25 = .ok (.aload_n 0, 1) := by decide +kernel
theorem dX9_copy_26 : decode cX9_copy 26 = .ok (.getfield 80, 3) := by decide +kernel
theorem dX9_copy_29 : decode cX9_copy 29 = .ok (.iload_n 3, 1) := by decide +kernel
theorem dX9_copy_30 : decode cX9_copy 30 = .ok (.iaload, 1) := by decide +kernel
theorem dX9_copy_31 : decode cX9_copy 31 = .ok (.ifCond .ge 6, 3) := by decide +kernel
theorem dX9_copy_34 : decode cX9_copy 34 = .ok (.bipush (-11), 2) := by decide +kernel
theorem dX9_copy_36 : decode cX9_copy 36 = .ok (.ireturn, 1) := by decide +kernel
theorem dX9_copy_37 : decode cX9_copy 37 = .ok (.aload_n 0, 1) := by decide +kernel
theorem dX9_copy_38 : decode cX9_copy 38 = .ok (.getfield 80, 3) := by decide +kernel
theorem dX9_copy_41 : decode cX9_copy 41 = .ok (.iload_n 1, 1) := by decide +kernel
theorem dX9_copy_42 : decode cX9_copy 42 = .ok (.iaload, 1) := by decide +kernel
theorem dX9_copy_43 : decode cX9_copy 43 = .ok (.aload_n 0, 1) := by decide +kernel
theorem dX9_copy_44 : decode cX9_copy 44 = .ok (.getfield 80, 3) := by decide +kernel
theorem dX9_copy_47 : decode cX9_copy 47 = .ok (.iload_n 3, 1) := by decide +kernel
theorem dX9_copy_48 : decode cX9_copy 48 = .ok (.iaload, 1) := by decide +kernel
theorem dX9_copy_49 : decode cX9_copy 49 = .ok (.if_icmp .eq 6, 3) := by decide +kernel
theorem dX9_copy_52 : decode cX9_copy 52 = .ok (.bipush (-12), 2) := by decide +kernel
theorem dX9_copy_54 : decode cX9_copy 54 = .ok (.ireturn, 1) := by decide +kernel
theorem dX9_copy_55 : decode cX9_copy 55 = .ok (.iload 5, 2) := by decide +kernel
theorem dX9_copy_57 : decode cX9_copy 57 = .ok (.ifCond .lt 38, 3) := by decide +kernel
theorem dX9_copy_60 : decode cX9_copy 60 = .ok (.aload_n 0, 1) := by decide +kernel
theorem dX9_copy_61 : decode cX9_copy 61 = .ok (.iload_n 1, 1) := by decide +kernel
theorem dX9_copy_62 : decode cX9_copy 62 = .ok (.aload_n 0, 1) := by decide +kernel
theorem dX9_copy_63 : decode cX9_copy 63 = .ok (.getfield 80, 3) := by decide +kernel
theorem dX9_copy_66 : decode cX9_copy 66 = .ok (.iload_n 1, 1) := by decide +kernel
theorem dX9_copy_67 : decode cX9_copy 67 = .ok (.iaload, 1) := by decide +kernel
theorem dX9_copy_68 : decode cX9_copy 68 = .ok (.iload_n 2, 1) := by decide +kernel
theorem dX9_copy_69 : decode cX9_copy 69 = .ok (.iload 5, 2) := by decide +kernel
theorem dX9_copy_71 : decode cX9_copy 71 = .ok (.invokevirtual 140, 3) := by decide +kernel
theorem dX9_copy_74 : decode cX9_copy 74 = .ok (.ifCond .lt 21, 3) := by decide +kernel
theorem dX9_copy_77 : decode cX9_copy 77 = .ok (.aload_n 0, 1) := by decide +kernel
theorem dX9_copy_78 : decode cX9_copy 78 = .ok (.iload_n 3, 1) := by decide +kernel
theorem dX9_copy_79 : decode cX9_copy 79 = .ok (.aload_n 0, 1) := by decide +kernel
theorem dX9_copy_80 : decode cX9_copy 80 = .ok (.getfield 80, 3) := by decide +kernel
theorem dX9_copy_83 : decode cX9_copy 83 = .ok (.iload_n 3, 1) := by decide +kernel
theorem dX9_copy_84 : decode cX9_copy 84 = .ok (.iaload, 1) := by decide +kernel
theorem dX9_copy_85 : decode cX9_copy 85 = .ok (.iload 4, 2) := by decide +kernel
theorem dX9_copy_87 : decode cX9_copy 87 = .ok (.iload 5, 2) := by decide +kernel
theorem dX9_copy_89 : decode cX9_copy 89 = .ok (.invokevirtual 140, 3) := by decide +kernel
theorem dX9_copy_92 : decode cX9_copy 92 = .ok (.ifCond .ge 6, 3) := by decide +kernel
theorem dX9_copy_95 : decode cX9_copy 95 = .ok (.bipush (-13), 2) := by decide +kernel
theorem dX9_copy_97 : decode cX9_copy 97 = .ok (.ireturn, 1) := by decide +kernel
theorem dX9_copy_98 : decode cX9_copy 98 = .ok (.iconst 0, 1) := by decide +kernel
theorem dX9_copy_99 : decode cX9_copy 99 = .ok (.istore 6, 2) := by decide +kernel
theorem dX9_copy_101 : decode cX9_copy 101 = .ok (.iload 6, 2) := by decide +kernel
theorem dX9_copy_103 : decode cX9_copy 103 = .ok (.iload 5, 2) := by decide +kernel
theorem dX9_copy_105 : decode cX9_copy 105 = .ok (.if_icmp .ge 30, 3) := by decide +kernel
theorem dX9_copy_108 : decode cX9_copy 108 = .ok (.aload_n 0, 1) := by decide +kernel
theorem dX9_copy_109 : decode cX9_copy 109 = .ok (.getfield 89, 3) := by decide +kernel
theorem dX9_copy_112 : decode cX9_copy 112 = .ok (.iload 6, 2) := by decide +kernel
theorem dX9_copy_114 : decode cX9_copy 114 = .ok (.aload_n 0, 1) := by decide +kernel
theorem dX9_copy_115 : decode cX9_copy 115 = .ok (.getfield 86, 3) := by decide +kernel
theorem dX9_copy_118 : decode cX9_copy 118 = .ok (.bipush 40, 2) := by decide +kernel
theorem dX9_copy_120 : decode cX9_copy 120 = .ok (.iload_n 1, 1) := by decide +kernel
theorem dX9_copy_121 : decode cX9_copy 121 = .ok (.imul, 1) := by decide +kernel
theorem dX9_copy_122 : decode cX9_copy 122 = .ok (.iload_n 2, 1) := by decide +kernel
theorem dX9_copy_123 : decode cX9_copy 123 = .ok (.iadd, 1) := by decide +kernel
theorem dX9_copy_124 : decode cX9_copy 124 = .ok (.iload 6, 2) := by decide +kernel
theorem dX9_copy_126 : decode cX9_copy 126 = .ok (.iadd, 1) := by decide +kernel
theorem dX9_copy_127 : decode cX9_copy 127 = .ok (.iaload, 1) := by decide +kernel
theorem dX9_copy_128 : decode cX9_copy 128 = .ok (.iastore, 1) := by decide +kernel
theorem dX9_copy_129 : decode cX9_copy 129 = .ok (.iinc 6 1, 3) := by decide +kernel
theorem dX9_copy_132 : decode cX9_copy 132 = .ok (.goto (-31), 3) := by decide +kernel
theorem dX9_copy_135 : decode cX9_copy 135 = .ok (.iconst 0, 1) := by decide +kernel
theorem dX9_copy_136 : decode cX9_copy 136 = .ok (.istore 6, 2) := by decide +kernel
theorem dX9_copy_138 : decode cX9_copy 138 = .ok (.iload 6, 2) := by decide +kernel
theorem dX9_copy_140 : decode cX9_copy 140 = .ok (.iload 5, 2) := by decide +kernel
theorem dX9_copy_142 : decode cX9_copy 142 = .ok (.if_icmp .ge 31, 3) := by decide +kernel
theorem dX9_copy_145 : decode cX9_copy 145 = .ok (.aload_n 0, 1) := by decide +kernel
theorem dX9_copy_146 : decode cX9_copy 146 = .ok (.getfield 86, 3) := by decide +kernel
theorem dX9_copy_149 : decode cX9_copy 149 = .ok (.bipush 40, 2) := by decide +kernel
theorem dX9_copy_151 : decode cX9_copy 151 = .ok (.iload_n 3, 1) := by decide +kernel
theorem dX9_copy_152 : decode cX9_copy 152 = .ok (.imul, 1) := by decide +kernel
theorem dX9_copy_153 : decode cX9_copy 153 = .ok (.iload 4, 2) := by decide +kernel
theorem dX9_copy_155 : decode cX9_copy 155 = .ok (.iadd, 1) := by decide +kernel
theorem dX9_copy_156 : decode cX9_copy 156 = .ok (.iload 6, 2) := by decide +kernel
theorem dX9_copy_158 : decode cX9_copy 158 = .ok (.iadd, 1) := by decide +kernel
theorem dX9_copy_159 : decode cX9_copy 159 = .ok (.aload_n 0, 1) := by decide +kernel
theorem dX9_copy_160 : decode cX9_copy 160 = .ok (.getfield 89, 3) := by decide +kernel
theorem dX9_copy_163 : decode cX9_copy 163 = .ok (.iload 6, 2) := by decide +kernel
theorem dX9_copy_165 : decode cX9_copy 165 = .ok (.iaload, 1) := by decide +kernel
theorem dX9_copy_166 : decode cX9_copy 166 = .ok (.iastore, 1) := by decide +kernel
theorem dX9_copy_167 : decode cX9_copy 167 = .ok (.iinc 6 1, 3) := by decide +kernel
theorem dX9_copy_170 : decode cX9_copy 170 = .ok (.goto (-32), 3) := by decide +kernel
theorem dX9_copy_173 : decode cX9_copy 173 = .ok (.iload 5, 2) := by decide +kernel
theorem dX9_copy_175 : decode cX9_copy 175 = .ok (.ireturn, 1) := by decide +kernel
theorem dJ6_bitCount_0f7a4_0 : decode cJ6_bitCount_0f7a4 0 = .ok (.iload_n 0, 1) := by decide +kernel
theorem dJ6_bitCount_0f7a4_1 : decode cJ6_bitCount_0f7a4 1 = .ok (.iload_n 0, 1) := by decide +kernel
theorem dJ6_bitCount_0f7a4_2 : decode cJ6_bitCount_0f7a4 2 = .ok (.iconst 1, 1) := by decide +kernel
theorem dJ6_bitCount_0f7a4_3 : decode cJ6_bitCount_0f7a4 3 = .ok (.iushr, 1) := by decide +kernel
theorem dJ6_bitCount_0f7a4_4 : decode cJ6_bitCount_0f7a4 4 = .ok (.ldc_w 265, 3) := by decide +kernel
theorem dJ6_bitCount_0f7a4_7 : decode cJ6_bitCount_0f7a4 7 = .ok (.iand, 1) := by decide +kernel
theorem dJ6_bitCount_0f7a4_8 : decode cJ6_bitCount_0f7a4 8 = .ok (.isub, 1) := by decide +kernel
theorem dJ6_bitCount_0f7a4_9 : decode cJ6_bitCount_0f7a4 9 = .ok (.istore_n 0, 1) := by decide +kernel
theorem dJ6_bitCount_0f7a4_10 : decode cJ6_bitCount_0f7a4 10 = .ok (.iload_n 0, 1) := by decide +kernel
theorem dJ6_bitCount_0f7a4_11 : decode cJ6_bitCount_0f7a4 11 = .ok (.ldc_w 266, 3) := by decide +kernel
theorem dJ6_bitCount_0f7a4_14 : decode cJ6_bitCount_0f7a4 14 = .ok (.iand, 1) := by decide +kernel
theorem dJ6_bitCount_0f7a4_15 : decode cJ6_bitCount_0f7a4 15 = .ok (.iload_n 0, 1) := by decide +kernel
theorem dJ6_bitCount_0f7a4_16 : decode cJ6_bitCount_0f7a4 16 = .ok (.iconst 2, 1) := by decide +kernel
theorem dJ6_bitCount_0f7a4_17 : decode cJ6_bitCount_0f7a4 17 = .ok (.iushr, 1) := by decide +kernel
theorem dJ6_bitCount_0f7a4_18 : decode cJ6_bitCount_0f7a4 18 = .ok (.ldc_w 266, 3) := by decide +kernel
theorem dJ6_bitCount_0f7a4_21 : decode cJ6_bitCount_0f7a4 21 = .ok (.iand, 1) := by decide +kernel
theorem dJ6_bitCount_0f7a4_22 : decode cJ6_bitCount_0f7a4 22 = .ok (.iadd, 1) := by decide +kernel
theorem dJ6_bitCount_0f7a4_23 : decode cJ6_bitCount_0f7a4 23 = .ok (.istore_n 0, 1) := by decide +kernel
theorem dJ6_bitCount_0f7a4_24 : decode cJ6_bitCount_0f7a4 24 = .ok (.iload_n 0, 1) := by decide +kernel
theorem dJ6_bitCount_0f7a4_25 : decode cJ6_bitCount_0f7a4 25 = .ok (.iload_n 0, 1) := by decide +kernel
theorem dJ6_bitCount_0f7a4_26 : decode cJ6_bitCount_0f7a4 26 = .ok (.iconst 4, 1) := by decide +kernel
theorem dJ6_bitCount_0f7a4_27 : decode cJ6_bitCount_0f7a4 27 = .ok (.iushr, 1) := by decide +kernel
theorem dJ6_bitCount_0f7a4_28 : decode cJ6_bitCount_0f7a4 28 = .ok (.iadd, 1) := by decide +kernel
theorem dJ6_bitCount_0f7a4_29 : decode cJ6_bitCount_0f7a4 29 = .ok (.ldc_w 267, 3) := by decide +kernel
theorem dJ6_bitCount_0f7a4_32 : decode cJ6_bitCount_0f7a4 32 = .ok (.iand, 1) := by decide +kernel
theorem dJ6_bitCount_0f7a4_33 : decode cJ6_bitCount_0f7a4 33 = .ok (.istore_n 0, 1) := by decide +kernel
theorem dJ6_bitCount_0f7a4_34 : decode cJ6_bitCount_0f7a4 34 = .ok (.iload_n 0, 1) := by decide +kernel
theorem dJ6_bitCount_0f7a4_35 : decode cJ6_bitCount_0f7a4 35 = .ok (.iload_n 0, 1) := by decide +kernel
theorem dJ6_bitCount_0f7a4_36 : decode cJ6_bitCount_0f7a4 36 = .ok (.bipush 8, 2) := by decide +kernel
theorem dJ6_bitCount_0f7a4_38 : decode cJ6_bitCount_0f7a4 38 = .ok (.iushr, 1) := by decide +kernel
theorem dJ6_bitCount_0f7a4_39 : decode cJ6_bitCount_0f7a4 39 = .ok (.iadd, 1) := by decide +kernel
theorem dJ6_bitCount_0f7a4_40 : decode cJ6_bitCount_0f7a4 40 = .ok (.istore_n 0, 1) := by decide +kernel
theorem dJ6_bitCount_0f7a4_41 : decode cJ6_bitCount_0f7a4 41 = .ok (.iload_n 0, 1) := by decide +kernel
theorem dJ6_bitCount_0f7a4_42 : decode cJ6_bitCount_0f7a4 42 = .ok (.iload_n 0, 1) := by decide +kernel
theorem dJ6_bitCount_0f7a4_43 : decode cJ6_bitCount_0f7a4 43 = .ok (.bipush 16, 2) := by decide +kernel
theorem dJ6_bitCount_0f7a4_45 : decode cJ6_bitCount_0f7a4 45 = .ok (.iushr, 1) := by decide +kernel
theorem dJ6_bitCount_0f7a4_46 : decode cJ6_bitCount_0f7a4 46 = .ok (.iadd, 1) := by decide +kernel
theorem dJ6_bitCount_0f7a4_47 : decode cJ6_bitCount_0f7a4 47 = .ok (.istore_n 0, 1) := by decide +kernel
theorem dJ6_bitCount_0f7a4_48 : decode cJ6_bitCount_0f7a4 48 = .ok (.iload_n 0, 1) := by decide +kernel
theorem dJ6_bitCount_0f7a4_49 : decode cJ6_bitCount_0f7a4 49 = .ok (.bipush 63, 2) := by decide +kernel
theorem dJ6_bitCount_0f7a4_51 : decode cJ6_bitCount_0f7a4 51 = .ok (.iand, 1) := by decide +kernel
theorem dJ6_bitCount_0f7a4_52 : decode cJ6_bitCount_0f7a4 52 = .ok (.ireturn, 1) := by decide +kernel
theorem dJ9_abs_0f7a4_0 : decode cJ9_abs_0f7a4 0 = .ok (.iload_n 0, 1) := by decide +kernel
theorem dJ9_abs_0f7a4_1 : decode cJ9_abs_0f7a4 1 = .ok (.ifCond .ge 8, 3) := by decide +kernel
theorem dJ9_abs_0f7a4_4 : decode cJ9_abs_0f7a4 4 = .ok (.iload_n 0, 1) := by decide +kernel
theorem dJ9_abs_0f7a4_5 : decode cJ9_abs_0f7a4 5 = .ok (.ineg, 1) := by decide +kernel
theorem dJ9_abs_0f7a4_6 : decode cJ9_abs_0f7a4 6 = .ok (.goto 4, 3) := by decide +kernel
theorem dJ9_abs_0f7a4_9 : decode cJ9_abs_0f7a4 9 = .ok (.iload_n 0, 1) := by decide +kernel
theorem dJ9_abs_0f7a4_10 : decode cJ9_abs_0f7a4 10 = .ok (.ireturn, 1) := by decide +kernel
theorem dJ9_max_7cf53_0 : decode cJ9_max_7cf53 0 = .ok (.iload_n 0, 1) := by decide +kernel
theorem dJ9_max_7cf53_1 : decode cJ9_max_7cf53 1 = .ok (.iload_n 1, 1) := by decide +kernel
theorem dJ9_max_7cf53_2 : decode cJ9_max_7cf53 2 = .ok (.if_icmp .lt 7, 3) := by decide +kernel
theorem dJ9_max_7cf53_5 : decode cJ9_max_7cf53 5 = .ok (.iload_n 0, 1) := by decide +kernel
theorem dJ9_max_7cf53_6 : decode cJ9_max_7cf53 6 = .ok (.goto 4, 3) := by decide +kernel
theorem dJ9_max_7cf53_9 : decode cJ9_max_7cf53 9 = .ok (.iload_n 1, 1) := by decide +kernel
theorem dJ9_max_7cf53_10 : decode cJ9_max_7cf53 10 = .ok (.ireturn, 1) := by decide +kernel
theorem dJ9_min_7cf53_0 : decode cJ9_min_7cf53 0 = .ok (.iload_n 0, 1) := by decide +kernel
theorem dJ9_min_7cf53_1 : decode cJ9_min_7cf53 1 = .ok (.iload_n 1, 1) := by decide +kernel
theorem dJ9_min_7cf53_2 : decode cJ9_min_7cf53 2 = .ok (.if_icmp .gt 7, 3) := by decide +kernel
theorem dJ9_min_7cf53_5 : decode cJ9_min_7cf53 5 = .ok (.iload_n 0, 1) := by decide +kernel
theorem dJ9_min_7cf53_6 : decode cJ9_min_7cf53 6 = .ok (.goto 4, 3) := by decide +kernel
theorem dJ9_min_7cf53_9 : decode cJ9_min_7cf53 9 = .ok (.iload_n 1, 1) := by decide +kernel
theorem dJ9_min_7cf53_10 : decode cJ9_min_7cf53 10 = .ok (.ireturn, 1) := by decide +kernel
