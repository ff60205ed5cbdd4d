theorem dX8_init_0 : decode cX8_init 0 = .ok (.aload_n 0, 1) := by decide +kernel
theorem dX8_init_1 : decode cX8_init 1 = .ok (.invokespecial 1, 3) := by decide +kernel
theorem dX8_init_4 : decode cX8_init 4 = .ok (.aload_n 0, 1) := by decide +kernel
theorem dX8_init_5 : decode cX8_init 5 = .ok (.new 7, 3) := by decide +kernel
theorem dX8_init_8 : decode cX8_init 8 = .ok (.dup, 1) := by decide +kernel
theorem dX8_init_9 : decode cX8_init 9 = .ok (.invokespecial 9, 3) := by decide +kernel
theorem dX8_init_12 : decode cX8_init 12 = .ok (.putfield 10, 3) := by decide +kernel
theorem dX8_init_15 : decode cX8_init 15 = .ok (.aload_n 0, 1) := by decide +kernel
theorem dX8_init_16 : decode cX8_init 16 = .ok (.bipush 6, 2) := by decide +kernel
theorem dX8_init_18 : decode cX8_init 18 = .ok (.newarray .int, 2) := by decide +kernel
theorem dX8_init_20 : decode cX8_init 20 = .ok (.putfield 16, 3) := by decide +kernel
theorem dX8_init_23 : decode cX8_init 23 = .ok (.aload_n 0, 1) := by decide +kernel
theorem dX8_init_24 : decode cX8_init 24 = .ok (.bipush 6, 2) := by decide +kernel
theorem dX8_init_26 : decode cX8_init 26 = .ok (.newarray .int, 2) := by decide +kernel
theorem dX8_init_28 : decode cX8_init 28 = .ok (.putfield 20, 3) := by decide +kernel
theorem dX8_init_31 : decode cX8_init 31 = .ok (.aload_n 0, 1) := by decide +kernel
theorem dX8_init_32 : decode cX8_init 32 = .ok (.bipush 12, 2) := by decide +kernel
theorem dX8_init_34 : decode cX8_init 34 = .ok (.anewarray 23, 3) := by decide +kernel
theorem dX8_init_37 : decode cX8_init 37 = .ok (.putfield 25, 3) := by decide +kernel
theorem dX8_init_40 : decode cX8_init 40 = .ok (.aload_n 0, 1) := by decide +kernel
theorem dX8_init_41 : decode cX8_init 41 = .ok (.iconst 0, 1) := by decide +kernel
theorem dX8_init_42 : decode cX8_init 42 = .ok (.putfield 29, 3) := by decide +kernel
theorem dX8_init_45 : decode cX8_init 45 = .ok (.aload_n 0, 1) := by decide +kernel
theorem dX8_init_46 : decode cX8_init 46 = .ok (.iconst 5, 1) := by decide +kernel
theorem dX8_init_47 : decode cX8_init 47 = .ok (.newarray .int, 2) := by decide +kernel
theorem dX8_init_49 : decode cX8_init 49 = .ok (.dup, 1) := by decide +kernel
theorem dX8_init_50 : decode cX8_init 50 = .ok (.iconst 0, 1) := by decide +kernel
theorem dX8_init_51 : decode cX8_init 51 = .ok (.bipush 10, 2) := by decide +kernel
theorem dX8_init_53 : decode cX8_init 53 = .ok (.iastore, 1) := by decide +kernel
theorem dX8_init_54 : decode cX8_init 54 = .ok (.dup, 1) := by decide +kernel
theorem dX8_init_55 : decode cX8_init 55 = .ok (.iconst 1, 1) := by decide +kernel
theorem dX8_init_56 : decode cX8_init 56 = .ok (.bipush 20, 2) := by decide +kernel
theorem dX8_init_58 : decode cX8_init 58 = .ok (.iastore, 1) := by decide +kernel
theorem dX8_init_59 : decode cX8_init 59 = .ok (.dup, 1) := by decide +kernel
theorem dX8_init_60 : decode cX8_init 60 = .ok (.iconst 2, 1) := by decide +kernel
theorem dX8_init_61 : decode cX8_init 61 = .ok (.iconst 5, 1) := by decide +kernel
theorem dX8_init_62 : decode cX8_init 62 = .ok (.iastore, 1) := by decide +kernel
theorem dX8_init_63 : decode cX8_init 63 = .ok (.dup, 1) := by decide +kernel
theorem dX8_init_64 : decode cX8_init 64 = .ok (.iconst 3, 1) := by decide +kernel
theorem dX8_init_65 : decode cX8_init 65 = .ok (.bipush 10, 2) := by decide +kernel
theorem dX8_init_67 : decode cX8_init 67 = .ok (.iastore, 1) := by decide +kernel
theorem dX8_init_68 : decode cX8_init 68 = .ok (.dup, 1) := by decide +kernel
theorem dX8_init_69 : decode cX8_init 69 = .ok (.iconst 4, 1) := by decide +kernel
theorem dX8_init_70 : decode cX8_init 70 = .ok (.bipush 50, 2) := by decide +kernel
theorem dX8_init_72 : decode cX8_init 72 = .ok (.iastore, 1) := by decide +kernel
theorem dX8_init_73 : decode cX8_init 73 = .ok (.putfield 33, 3) := by decide +kernel
theorem dX8_init_76 : decode cX8_init 76 = .ok (.aload_n 0, 1) := by decide +kernel
theorem dX8_init_77 : decode cX8_init 77 = .ok (.new 36, 3) := by decide +kernel
theorem dX8_init_80 : decode cX8_init 80 = .ok (.dup, 1) := by decide +kernel
theorem dX8_init_81 : decode cX8_init 81 = .ok (.invokespecial 38, 3) := by decide +kernel
theorem dX8_init_84 : decode cX8_init 84 = .ok (.putfield 39, 3) := by decide +kernel
theorem dX8_init_87 : decode cX8_init 87 = .ok (.aload_n 0, 1) := by decide +kernel
theorem dX8_init_88 : decode cX8_init 88 = .ok (.iconst (-1), 1) := by decide +kernel
theorem dX8_init_89 : decode cX8_init 89 = .ok (.putfield 43, 3) := by decide +kernel
theorem dX8_init_92 : decode cX8_init 92 = .ok (.aload_n 0, 1) := by decide +kernel
theorem dX8_init_93 : decode cX8_init 93 = .ok (.new 46, 3) := by decide +kernel
theorem dX8_init_96 : decode cX8_init 96 = .ok (.dup, 1) := by decide +kernel
theorem dX8_init_97 : decode cX8_init 97 = .ok (.invokespecial 48, 3) := by decide +kernel
theorem dX8_init_100 : decode cX8_init 100 = .ok (.putfield 49, 3) := by decide +kernel
theorem dX8_init_103 : decode cX8_init 103 = .ok (.aload_n 0, 1) := by decide +kernel
theorem dX8_init_104 : decode cX8_init 104 = .ok (.new 53, 3) := by decide +kernel
theorem dX8_init_107 : decode cX8_init 107 = .ok (.dup, 1) := by decide +kernel
theorem dX8_init_108 : decode cX8_init 108 = .ok (.invokespecial 55, 3) := by decide +kernel
theorem dX8_init_111 : decode cX8_init 111 = .ok (.putfield 56, 3) := by decide +kernel
theorem dX8_init_114 : decode cX8_init 114 = .ok (.aload_n 0, 1) := by decide +kernel
theorem dX8_init_115 : decode cX8_init 115 = .ok (.new 53, 3) := by decide +kernel
theorem dX8_init_118 : decode cX8_init 118 = .ok (.dup, 1) := by decide +kernel
theorem dX8_init_119 : decode cX8_init 119 = .ok (.invokespecial 55, 3) := by decide +kernel
theorem dX8_init_122 : decode cX8_init 122 = .ok (.putfield 60, 3) := by decide +kernel
theorem dX8_init_125 : decode cX8_init 125 = .ok (.aload_n 0, 1) := by decide +kernel
theorem dX8_init_126 : decode cX8_init 126 = .ok (.new 63, 3) := by decide +kernel
theorem dX8_init_129 : decode cX8_init 129 = .ok (.dup, 1) := by decide +kernel
theorem dX8_init_130 : decode cX8_init 130 = .ok (.invokespecial 65, 3) := by decide +kernel
theorem dX8_init_133 : decode cX8_init 133 = .ok (.putfield 66, 3) := by decide +kernel
theorem dX8_init_136 : decode cX8_init 136 = .ok (.aload_n 0, 1) := by decide +kernel
theorem dX8_init_137 : decode cX8_init 137 = .ok (.iconst 4, 1) := by decide +kernel
theorem dX8_init_138 : decode cX8_init 138 = .ok (.anewarray 70, 3) := by decide +kernel
theorem dX8_init_141 : decode cX8_init 141 = .ok (.dup, 1) := by decide +kernel
theorem dX8_init_142 : decode cX8_init 142 = .ok (.iconst 0, 1) := by decide +kernel
theorem dX8_init_143 : decode cX8_init 143 = .ok (.new 70, 3) := by decide +kernel
theorem dX8_init_146 : decode cX8_init 146 = .ok (.dup, 1) := by decide +kernel
theorem dX8_init_147 : decode cX8_init 147 = .ok (.invokespecial 72, 3) := by decide +kernel
theorem dX8_init_150 : decode cX8_init 150 = .ok (.aastore, 1) := by decide +kernel
theorem dX8_init_151 : decode cX8_init 151 = .ok (.dup, 1) := by decide +kernel
theorem dX8_init_152 : decode cX8_init 152 = .ok (.iconst 1, 1) := by decide +kernel
theorem dX8_init_153 : decode cX8_init 153 = .ok (.new 70, 3) := by decide +kernel
theorem dX8_init_156 : decode cX8_init 156 = .ok (.dup, 1) := by decide +kernel
theorem dX8_init_157 : decode cX8_init 157 = .ok (.invokespecial 72, 3) := by decide +kernel
theorem dX8_init_160 : decode cX8_init 160 = .ok (.aastore, 1) := by decide +kernel
theorem dX8_init_161 : decode cX8_init 161 = .ok (.dup, 1) := by decide +kernel
theorem dX8_init_162 : decode cX8_init 162 = .ok (.iconst 2, 1) := by decide +kernel
theorem dX8_init_163 : decode cX8_init 163 = .ok (.new 70, 3) := by decide +kernel
theorem dX8_init_166 : decode cX8_init 166 = .ok (.dup, 1) := by decide +kernel
theorem dX8_init_167 : decode cX8_init 167 = .ok (.invokespecial 72, 3) := by decide +kernel
theorem dX8_init_170 : decode cX8_init 170 = .ok (.aastore, 1) := by decide +kernel
theorem dX8_init_171 : decode cX8_init 171 = .ok (.dup, 1) := by decide +kernel
theorem dX8_init_172 : decode cX8_init 172 = .ok (.iconst 3, 1) := by decide +kernel
theorem dX8_init_173 : decode cX8_init 173 = .ok (.new 70, 3) := by decide +kernel
theorem dX8_init_176 : decode cX8_init 176 = .ok (.dup, 1) := by decide +kernel
theorem dX8_init_177 : decode cX8_init 177 = .ok (.invokespecial 72, 3) := by decide +kernel
theorem dX8_init_180 : decode cX8_init 180 = .ok (.aastore, 1) := by decide +kernel
theorem dX8_init_181 : decode cX8_init 181 = .ok (.putfield 73, 3) := by decide +kernel
theorem dX8_init_184 : decode cX8_init 184 = .ok (.return_, 1) := by decide +kernel
set_option maxRecDepth 20000 in
theorem ggX8_work_X8_isTask : GoodIn wsX8_work wsX8_isTask := goodIn_r _ [5, 6, 7, 4, 8, 9, 10, 11] (by decide +kernel) (by decide +kernel)
set_option maxRecDepth 20000 in
theorem gX8_work_X8_isTask : GoodIn wsX8_work (va_wsS RX8 77 yX8_isTask wsX8_isTask) := goodIn_app (goodIn_of _ (by decide +kernel)) ggX8_work_X8_isTask
set_option maxRecDepth 20000 in
theorem ggX8_work_X8_isSet : GoodIn wsX8_work wsX8_isSet := goodIn_r _ [14, 9, 10, 4, 11] (by decide +kernel) (by decide +kernel)
set_option maxRecDepth 20000 in
theorem gX8_work_X8_isSet : GoodIn wsX8_work (va_wsS RX8 81 yX8_isSet wsX8_isSet) := goodIn_app (goodIn_of _ (by decide +kernel)) ggX8_work_X8_isSet
set_option maxRecDepth 20000 in
theorem ggX8_work_X4_fill : GoodIn wsX8_work wsX4_fill := goodIn_r _ [19, 20, 21, 22, 23, 24, 18, 25, 26, 27, 28, 29, 30, 31, 32, 33, 34, 35, 36, 37, 38, 39, 40, 41, 55, 56, 57] (by decide +kernel) (by decide +kernel)
set_option maxRecDepth 20000 in
theorem gX8_work_X4_fill : GoodIn wsX8_work (wsV RX8 85 RX4 yX4_fill wsX4_fill) := goodIn_app (goodIn_of _ (by decide +kernel)) ggX8_work_X4_fill
theorem dX8_work_0 : decode cX8_work 0 = .ok (.iload_n 1, 1) := by decide +kernel
theorem dX8_work_1 : decode cX8_work 1 = .ok (.iload_n 2, 1) := by decide +kernel
theorem dX8_work_2 : decode cX8_work 2 = .ok (.invokestatic 77, 3) := by decide +kernel
theorem dX8_work_5 : decode cX8_work 5 = .ok (.ifCond .eq 10, 3) := by decide +kernel
theorem dX8_work_8 : decode cX8_work 8 = .ok (.iload_n 3, 1) := by decide +kernel
theorem dX8_work_9 : decode cX8_work 9 = .ok (.invokestatic 81, 3) := by decide +kernel
theorem dX8_work_12 : decode cX8_work 12 = .ok (.ifCond .ne 5, 3) := by decide +kernel
theorem dX8_work_15 : decode cX8_work 15 = .ok (.iconst (-1), 1) := by decide +kernel
theorem dX8_work_16 : decode cX8_work 16 = .ok (.ireturn, 1) := by decide +kernel
theorem dX8_work_17 : decode cX8_work 17 = .ok (.aload_n 0, 1) := by decide +kernel
theorem dX8_work_18 : decode cX8_work 18 = .ok (.getfield 10, 3) := by decide +kernel
theorem dX8_work_21 : decode cX8_work 21 = .ok (.iload_n 1, 1) := by decide +kernel
theorem dX8_work_22 : decode cX8_work 22 = .ok (.iload_n 2, 1) := by decide +kernel
theorem dX8_work_23 : decode cX8_work 23 = .ok (.iload_n 3, 1) := by decide +kernel
theorem dX8_work_24 : decode cX8_work 24 = .ok (.invokevirtual 85, 3) := by decide +kernel
theorem dX8_work_27 : decode cX8_work 27 = .ok (.ireturn, 1) := by decide +kernel
set_option maxRecDepth 20000 in
theorem ggX8_row_X8_isTask : GoodIn wsX8_row wsX8_isTask := goodIn_r _ [7, 8, 9, 6, 10, 11, 12, 13] (by decide +kernel) (by decide +kernel)
set_option maxRecDepth 20000 in
theorem gX8_row_X8_isTask : GoodIn wsX8_row (va_wsS RX8 77 yX8_isTask wsX8_isTask) := goodIn_app (goodIn_of _ (by decide +kernel)) ggX8_row_X8_isTask
set_option maxRecDepth 20000 in
theorem ggX8_row_X8_isSet : GoodIn wsX8_row wsX8_isSet := goodIn_r _ [16, 11, 12, 6, 13] (by decide +kernel) (by decide +kernel)
set_option maxRecDepth 20000 in
theorem gX8_row_X8_isSet : GoodIn wsX8_row (va_wsS RX8 81 yX8_isSet wsX8_isSet) := goodIn_app (goodIn_of _ (by decide +kernel)) ggX8_row_X8_isSet
set_option maxRecDepth 20000 in
theorem ggX8_row_X8_within : GoodIn wsX8_row wsX8_within := goodIn_r _ [13] (by decide +kernel) (by decide +kernel)
set_option maxRecDepth 20000 in
theorem gX8_row_X8_within : GoodIn wsX8_row (va_wsS RX8 89 yX8_within wsX8_within) := goodIn_app (goodIn_of _ (by decide +kernel)) ggX8_row_X8_within
set_option maxRecDepth 20000 in
theorem ggX8_row_X4_fill : GoodIn wsX8_row wsX4_fill := goodIn_r _ [21, 22, 23, 24, 25, 26, 20, 27, 28, 29, 30, 31, 32, 33, 34, 35, 36, 37, 38, 39, 40, 41, 42, 43, 57, 58, 59] (by decide +kernel) (by decide +kernel)
set_option maxRecDepth 20000 in
theorem gX8_row_X4_fill : GoodIn wsX8_row (wsV RX8 85 RX4 yX4_fill wsX4_fill) := goodIn_app (goodIn_of _ (by decide +kernel)) ggX8_row_X4_fill
theorem dX8_row_0 : decode cX8_row 0 = .ok (.iload_n 1, 1) := by decide +kernel
theorem dX8_row_1 : decode cX8_row 1 = .ok (.iload_n 2, 1) := by decide +kernel
theorem dX8_row_2 : decode cX8_row 2 = .ok (.invokestatic 77, 3) := by decide +kernel
theorem dX8_row_5 : decode cX8_row 5 = .ok (.ifCond .eq 20, 3) := by decide +kernel
theorem dX8_row_8 : decode cX8_row 8 = .ok (.iload_n 3, 1) := by decide +kernel
theorem dX8_row_9 : decode cX8_row 9 = .ok (.invokestatic 81, 3) := by decide +kernel
theorem dX8_row_12 : decode cX8_row 12 = .ok (.ifCond .eq 13, 3) := by decide +kernel
theorem dX8_row_15 : decode cX8_row 15 = .ok (.iload 4, 2) := by decide +kernel
theorem dX8_row_17 : decode cX8_row 17 = .ok (.iconst 0, 1) := by decide +kernel
theorem dX8_row_18 : decode cX8_row 18 = .ok (.iconst 2, 1) := by decide +kernel
theorem dX8_row_19 : decode cX8_row 19 = .ok (.invokestatic 89, 3) := by decide +kernel
theorem dX8_row_22 : decode cX8_row 22 = .ok (.ifCond .ne 5, 3) := by decide +kernel
theorem dX8_row_25 : decode cX8_row 25 = .ok (.iconst (-1), 1) := by decide +kernel
theorem dX8_row_26 : decode cX8_row 26 = .ok (.ireturn, 1) := by decide +kernel
theorem dX8_row_27 : decode cX8_row 27 = .ok (.aload_n 0, 1) := by decide +kernel
theorem dX8_row_28 : decode cX8_row 28 = .ok (.getfield 10, 3) := by decide +kernel
theorem dX8_row_31 : decode cX8_row 31 = .ok (.iload_n 1, 1) := by decide +kernel
theorem dX8_row_32 : decode cX8_row 32 = .ok (.iload_n 2, 1) := by decide +kernel
theorem dX8_row_33 : decode cX8_row 33 = .ok (.iload_n 3, 1) := by decide +kernel
theorem dX8_row_34 : decode cX8_row 34 = .ok (.invokevirtual 85, 3) := by decide +kernel
theorem dX8_row_37 : decode cX8_row 37 = .ok (.pop, 1) := by decide +kernel
theorem dX8_row_38 : decode cX8_row 38 = .ok (.bipush 10, 2) := by decide +kernel
theorem dX8_row_40 : decode cX8_row 40 = .ok (.aload_n 0, 1) := by decide +kernel
theorem dX8_row_41 : decode cX8_row 41 = .ok (.getfield 10, 3) := by decide +kernel
theorem dX8_row_44 : decode cX8_row 44 = .ok (.getfield 93, 3) := by decide +kernel
theorem dX8_row_47 : decode cX8_row 47 = .ok (.iload 4, 2) := by decide +kernel
theorem dX8_row_49 : decode cX8_row 49 = .ok (.iaload, 1) := by decide +kernel
theorem dX8_row_50 : decode cX8_row 50 = .ok (.imul, 1) := by decide +kernel
theorem dX8_row_51 : decode cX8_row 51 = .ok (.aload_n 0, 1) := by decide +kernel
theorem dX8_row_52 : decode cX8_row 52 = .ok (.getfield 10, 3) := by decide +kernel
theorem dX8_row_55 : decode cX8_row 55 = .ok (.getfield 96, 3) := by decide +kernel
theorem dX8_row_58 : decode cX8_row 58 = .ok (.iload 4, 2) := by decide +kernel
theorem dX8_row_60 : decode cX8_row 60 = .ok (.iaload, 1) := by decide +kernel
theorem dX8_row_61 : decode cX8_row 61 = .ok (.iadd, 1) := by decide +kernel
theorem dX8_row_62 : decode cX8_row 62 = .ok (.ireturn, 1) := by decide +kernel
set_option maxRecDepth 20000 in
theorem ggX8_could_X8_isTask : GoodIn wsX8_could wsX8_isTask := goodIn_r _ [6, 7, 8, 5, 9, 10, 11, 12] (by decide +kernel) (by decide +kernel)
set_option maxRecDepth 20000 in
theorem gX8_could_X8_isTask : GoodIn wsX8_could (va_wsS RX8 77 yX8_isTask wsX8_isTask) := goodIn_app (goodIn_of _ (by decide +kernel)) ggX8_could_X8_isTask
set_option maxRecDepth 20000 in
theorem ggX8_could_X8_isNumber : GoodIn wsX8_could wsX8_isNumber := goodIn_r _ [9, 10, 11, 5, 12] (by decide +kernel) (by decide +kernel)
set_option maxRecDepth 20000 in
theorem gX8_could_X8_isNumber : GoodIn wsX8_could (va_wsS RX8 99 yX8_isNumber wsX8_isNumber) := goodIn_app (goodIn_of _ (by decide +kernel)) ggX8_could_X8_isNumber
set_option maxRecDepth 20000 in
theorem ggX8_could_X4_fill : GoodIn wsX8_could wsX4_fill := goodIn_r _ [17, 18, 19, 20, 21, 22, 16, 23, 24, 25, 26, 27, 28, 29, 30, 31, 32, 33, 34, 35, 36, 37, 38, 39, 53, 54, 55] (by decide +kernel) (by decide +kernel)
set_option maxRecDepth 20000 in
theorem gX8_could_X4_fill : GoodIn wsX8_could (wsV RX8 85 RX4 yX4_fill wsX4_fill) := goodIn_app (goodIn_of _ (by decide +kernel)) ggX8_could_X4_fill
theorem dX8_could_0 : decode cX8_could 0 = .ok (.iload_n 1, 1) := by decide +kernel
theorem dX8_could_1 : decode cX8_could 1 = .ok (.iload_n 2, 1) := by decide +kernel
theorem dX8_could_2 : decode cX8_could 2 = .ok (.invokestatic 77, 3) := by decide +kernel
theorem dX8_could_5 : decode cX8_could 5 = .ok (.ifCond .eq 10, 3) := by decide +kernel
theorem dX8_could_8 : decode cX8_could 8 = .ok (.iload_n 3, 1) := by decide +kernel
theorem dX8_could_9 : decode cX8_could 9 = .ok (.invokestatic 99, 3) := by decide +kernel
theorem dX8_could_12 : decode cX8_could 12 = .ok (.ifCond .ne 5, 3) := by decide +kernel
theorem dX8_could_15 : decode cX8_could 15 = .ok (.iconst (-1), 1) := by decide +kernel
theorem dX8_could_16 : decode cX8_could 16 = .ok (.ireturn, 1) := by decide +kernel
theorem dX8_could_17 : decode cX8_could 17 = .ok (.iconst 0, 1) := by decide +kernel
theorem dX8_could_18 : decode cX8_could 18 = .ok (.istore 4, 2) := by decide +kernel
theorem dX8_could_20 : decode cX8_could 20 = .ok (.iconst 0, 1) := by decide +kernel
theorem dX8_could_21 : decode cX8_could 21 = .ok (.istore 5, 2) := by decide +kernel
theorem dX8_could_23 : decode cX8_could 23 = .ok (.iload 5, 2) := by decide +kernel
theorem dX8_could_25 : decode cX8_could 25 = .ok (.getstatic 102, 3) := by decide +kernel
theorem dX8_could_28 : decode cX8_could 28 = .ok (.arraylength, 1) := by decide +kernel
theorem dX8_could_29 : decode cX8_could 29 = .ok (.if_icmp .ge 31, 3) := by decide +kernel
theorem dX8_could_32 : decode cX8_could 32 = .ok (.aload_n 0, 1) := by decide +kernel
theorem dX8_could_33 : decode cX8_could 33 = .ok (.getfield 10, 3) := by decide +kernel
theorem dX8_could_36 : decode cX8_could 36 = .ok (.iload_n 1, 1) := by decide +kernel
theorem dX8_could_37 : decode cX8_could 37 = .ok (.iload_n 2, 1) := by decide +kernel
theorem dX8_could_38 : decode cX8_could 38 = .ok (.getstatic 102, 3) := by decide +kernel
theorem dX8_could_41 : decode cX8_could 41 = .ok (.iload 5, 2) := by decide +kernel
theorem dX8_could_43 : decode cX8_could 43 = .ok (.iaload, 1) := by decide +kernel
theorem dX8_could_44 : decode cX8_could 44 = .ok (.invokevirtual 85, 3) := by decide +kernel
theorem dX8_could_47 : decode cX8_could 47 = .ok (.iload_n 3, 1) := by decide +kernel
theorem dX8_could_48 : decode cX8_could 48 = .ok (.if_icmp .ne 6, 3) := by decide +kernel
theorem dX8_could_51 : decode cX8_could 51 = .ok (.iinc 4 1, 3) := by decide +kernel
theorem dX8_could_54 : decode cX8_could 54 = .ok (.iinc 5 1, 3) := by decide +kernel
theorem dX8_could_57 : decode cX8_could 57 = .ok (.goto (-34), 3) := by decide +kernel
theorem dX8_could_60 : decode cX8_could 60 = .ok (.iload 4, 2) := by decide +kernel
theorem dX8_could_62 : decode cX8_could 62 = .ok (.ireturn, 1) := by decide +kernel
set_option maxRecDepth 20000 in
theorem ggX8_least_X8_isTask : GoodIn wsX8_least wsX8_isTask := goodIn_r _ [6, 7, 8, 5, 9, 10, 11, 12] (by decide +kernel) (by decide +kernel)
set_option maxRecDepth 20000 in
theorem gX8_least_X8_isTask : GoodIn wsX8_least (va_wsS RX8 77 yX8_isTask wsX8_isTask) := goodIn_app (goodIn_of _ (by decide +kernel)) ggX8_least_X8_isTask
set_option maxRecDepth 20000 in
theorem ggX8_least_X8_isNumber : GoodIn wsX8_least wsX8_isNumber := goodIn_r _ [9, 10, 11, 5, 12] (by decide +kernel) (by decide +kernel)
set_option maxRecDepth 20000 in
theorem gX8_least_X8_isNumber : GoodIn wsX8_least (va_wsS RX8 99 yX8_isNumber wsX8_isNumber) := goodIn_app (goodIn_of _ (by decide +kernel)) ggX8_least_X8_isNumber
set_option maxRecDepth 20000 in
theorem ggX8_least_X4_fill : GoodIn wsX8_least wsX4_fill := goodIn_r _ [17, 18, 19, 20, 21, 22, 16, 23, 24, 25, 26, 27, 28, 29, 30, 31, 32, 33, 34, 35, 36, 37, 38, 39, 53, 54, 55] (by decide +kernel) (by decide +kernel)
set_option maxRecDepth 20000 in
theorem gX8_least_X4_fill : GoodIn wsX8_least (wsV RX8 85 RX4 yX4_fill wsX4_fill) := goodIn_app (goodIn_of _ (by decide +kernel)) ggX8_least_X4_fill
theorem dX8_least_0 : decode cX8_least 0 = .ok (.iload_n 1, 1) := by decide +kernel
theorem dX8_least_1 : decode cX8_least 1 = .ok (.iload_n 2, 1) := by decide +kernel
theorem dX8_least_2 : decode cX8_least 2 = .ok (.invokestatic 77, 3) := by decide +kernel
theorem dX8_least_5 : decode cX8_least 5 = .ok (.ifCond .eq 15, 3) := by decide +kernel
theorem dX8_least_8 : decode cX8_least 8 = .ok (.iload_n 3, 1) := by decide +kernel
theorem dX8_least_9 : decode cX8_least 9 = .ok (.invokestatic 99, 3) := by decide +kernel
theorem dX8_least_12 : decode cX8_least 12 = .ok (.ifCond .eq 8, 3) := by decide +kernel
theorem dX8_least_15 : decode cX8_least 15 = .ok (.iload 4, 2) := by decide +kernel
theorem dX8_least_17 : decode cX8_least 17 = .ok (.ifCond .ge 5, 3) := by decide +kernel
theorem dX8_least_20 : decode cX8_least 20 = .ok (.iconst (-1), 1) := by decide +kernel
theorem dX8_least_21 : decode cX8_least 21 = .ok (.ireturn, 1) := by decide +kernel
theorem dX8_least_22 : decode cX8_least 22 = .ok (.iconst 0, 1) := by decide +kernel
theorem dX8_least_23 : decode cX8_least 23 = .ok (.istore 5, 2) := by decide +kernel
theorem dX8_least_25 : decode cX8_least 25 = .ok (.iconst 0, 1) := by decide +kernel
theorem dX8_least_26 : decode cX8_least 26 = .ok (.istore 6, 2) := by decide +kernel
theorem dX8_least_28 : decode cX8_least 28 = .ok (.iload 6, 2) := by decide +kernel
theorem dX8_least_30 : decode cX8_least 30 = .ok (.getstatic 102, 3) := by decide +kernel
theorem dX8_least_33 : decode cX8_least 33 = .ok (.arraylength, 1) := by decide +kernel
theorem dX8_least_34 : decode cX8_least 34 = .ok (.if_icmp .ge 45, 3) := by decide +kernel
theorem dX8_least_37 : decode cX8_least 37 = .ok (.aload_n 0, 1) := by decide +kernel
theorem dX8_least_38 : decode cX8_least 38 = .ok (.getfield 10, 3) := by decide +kernel
theorem dX8_least_41 : decode cX8_least 41 = .ok (.iload_n 1, 1) := by decide +kernel
theorem dX8_least_42 : decode cX8_least 42 = .ok (.iload_n 2, 1) := by decide +kernel
theorem dX8_least_43 : decode cX8_least 43 = .ok (.getstatic 102, 3) := by decide +kernel
theorem dX8_least_46 : decode cX8_least 46 = .ok (.iload 6, 2) := by decide +kernel
theorem dX8_least_48 : decode cX8_least 48 = .ok (.iaload, 1) := by decide +kernel
theorem dX8_least_49 : decode cX8_least 49 = .ok (.invokevirtual 85, 3) := by decide +kernel
theorem dX8_least_52 : decode cX8_least 52 = .ok (.iload_n 3, 1) := by decide +kernel
theorem dX8_least_53 : decode cX8_least 53 = .ok (.if_icmp .ne 20, 3) := by decide +kernel
theorem dX8_least_56 : decode cX8_least 56 = .ok (.iload 5, 2) := by decide +kernel
theorem dX8_least_58 : decode cX8_least 58 = .ok (.iload 4, 2) := by decide +kernel
theorem dX8_least_60 : decode cX8_least 60 = .ok (.if_icmp .ne 10, 3) := by decide +kernel
theorem dX8_least_63 : decode cX8_least 63 = .ok (.getstatic 102, 3) := by decide +kernel
theorem dX8_least_66 : decode cX8_least 66 = .ok (.iload 6, 2) := by decide +kernel
theorem dX8_least_68 : decode cX8_least 68 = .ok (.iaload, 1) := by decide +kernel
theorem dX8_least_69 : decode cX8_least 69 = .ok (.ireturn, 1) := by decide +kernel
theorem dX8_least_70 : decode cX8_least 70 = .ok (.iinc 5 1, 3) := by decide +kernel
theorem dX8_least_73 : decode cX8_least 73 = .ok (.iinc 6 1, 3) := by decide +kernel
theorem dX8_least_76 : decode cX8_least 76 = .ok (.goto (-48), 3) := by decide +kernel
theorem dX8_least_79 : decode cX8_least 79 = .ok (.bipush (-4), 2) := by decide +kernel
theorem dX8_least_81 : decode cX8_least 81 = .ok (.ireturn, 1) := by decide +kernel
set_option maxRecDepth 20000 in
theorem ggX8_parts_X8_isSet : GoodIn wsX8_parts wsX8_isSet := goodIn_r _ [5, 6, 7, 4, 8] (by decide +kernel) (by decide +kernel)
set_option maxRecDepth 20000 in
theorem gX8_parts_X8_isSet : GoodIn wsX8_parts (va_wsS RX8 81 yX8_isSet wsX8_isSet) := goodIn_app (goodIn_of _ (by decide +kernel)) ggX8_parts_X8_isSet
set_option maxRecDepth 20000 in
theorem ggX8_parts_X8_within : GoodIn wsX8_parts wsX8_within := goodIn_r _ [8] (by decide +kernel) (by decide +kernel)
set_option maxRecDepth 20000 in
theorem gX8_parts_X8_within : GoodIn wsX8_parts (va_wsS RX8 89 yX8_within wsX8_within) := goodIn_app (goodIn_of _ (by decide +kernel)) ggX8_parts_X8_within
set_option maxRecDepth 20000 in
theorem ggX8_parts_X4_fill : GoodIn wsX8_parts wsX4_fill := goodIn_r _ [13, 14, 15, 16, 17, 18, 12, 19, 20, 21, 22, 23, 24, 25, 26, 27, 28, 29, 30, 31, 32, 33, 34, 35, 52, 53, 54] (by decide +kernel) (by decide +kernel)
set_option maxRecDepth 20000 in
theorem gX8_parts_X4_fill : GoodIn wsX8_parts (wsV RX8 85 RX4 yX4_fill wsX4_fill) := goodIn_app (goodIn_of _ (by decide +kernel)) ggX8_parts_X4_fill
set_option maxRecDepth 20000 in
theorem ggX8_parts_X8_taskNumber : GoodIn wsX8_parts wsX8_taskNumber := goodIn_r _ [38] (by decide +kernel) (by decide +kernel)
set_option maxRecDepth 20000 in
theorem gX8_parts_X8_taskNumber : GoodIn wsX8_parts (va_wsS RX8 105 yX8_taskNumber wsX8_taskNumber) := goodIn_app (goodIn_of _ (by decide +kernel)) ggX8_parts_X8_taskNumber
theorem dX8_parts_0 : decode cX8_parts 0 = .ok (.iload_n 1, 1) := by decide +kernel
theorem dX8_parts_1 : decode cX8_parts 1 = .ok (.invokestatic 81, 3) := by decide +kernel
theorem dX8_parts_4 : decode cX8_parts 4 = .ok (.ifCond .eq 21, 3) := by decide +kernel
theorem dX8_parts_7 : decode cX8_parts 7 = .ok (.iload_n 2, 1) := by decide +kernel
theorem dX8_parts_8 : decode cX8_parts 8 = .ok (.invokestatic 81, 3) := by decide +kernel
theorem dX8_parts_11 : decode cX8_parts 11 = .ok (.ifCond .eq 14, 3) := by decide +kernel
theorem dX8_parts_14 : decode cX8_parts 14 = .ok (.iload_n 3, 1) := by decide +kernel
theorem dX8_parts_15 : decode cX8_parts 15 = .ok (.iconst 1, 1) := by decide +kernel
theorem dX8_parts_16 : decode cX8_parts 16 = .ok (.sipush 200, 3) := by decide +kernel
theorem dX8_parts_19 : decode cX8_parts 19 = .ok (.invokestatic 89, 3) := by decide +kernel
theorem dX8_parts_22 : decode cX8_parts 22 = .ok (.ifCond .ne 5, 3) := by decide +kernel
theorem dX8_parts_25 : decode cX8_parts 25 = .ok (.iconst (-1), 1) := by decide +kernel
theorem dX8_parts_26 : decode cX8_parts 26 = .ok (.ireturn, 1) := by decide +kernel
theorem dX8_parts_27 : decode cX8_parts 27 = .ok (.iconst 0, 1) := by decide +kernel
theorem dX8_parts_28 : decode cX8_parts 28 = .ok (.istore 4, 2) := by decide +kernel
theorem dX8_parts_30 : decode cX8_parts 30 = .ok (.iload 4, 2) := by decide +kernel
theorem dX8_parts_32 : decode cX8_parts 32 = .ok (.iload_n 3, 1) := by decide +kernel
theorem dX8_parts_33 : decode cX8_parts 33 = .ok (.if_icmp .ge 60, 3) := by decide +kernel
theorem dX8_parts_36 : decode cX8_parts 36 = .ok (.iconst 0, 1) := by decide +kernel
theorem dX8_parts_37 : decode cX8_parts 37 = .ok (.istore 5, 2) := by decide +kernel
theorem dX8_parts_39 : decode cX8_parts 39 = .ok (.iload 5, 2) := by decide +kernel
theorem dX8_parts_41 : decode cX8_parts 41 = .ok (.iload 4, 2) := by decide +kernel
theorem dX8_parts_43 : decode cX8_parts 43 = .ok (.if_icmp .gt 44, 3) := by decide +kernel
theorem dX8_parts_46 : decode cX8_parts 46 = .ok (.aload_n 0, 1) := by decide +kernel
theorem dX8_parts_47 : decode cX8_parts 47 = .ok (.getfield 10, 3) := by decide +kernel
theorem dX8_parts_50 : decode cX8_parts 50 = .ok (.iload 4, 2) := by decide +kernel
theorem dX8_parts_52 : decode cX8_parts 52 = .ok (.iload 5, 2) := by decide +kernel
theorem dX8_parts_54 : decode cX8_parts 54 = .ok (.iload_n 1, 1) := by decide +kernel
theorem dX8_parts_55 : decode cX8_parts 55 = .ok (.invokevirtual 85, 3) := by decide +kernel
theorem dX8_parts_58 : decode cX8_parts 58 = .ok (.aload_n 0, 1) := by decide +kernel
theorem dX8_parts_59 : decode cX8_parts 59 = .ok (.getfield 10, 3) := by decide +kernel
theorem dX8_parts_62 : decode cX8_parts 62 = .ok (.iload 4, 2) := by decide +kernel
theorem dX8_parts_64 : decode cX8_parts 64 = .ok (.iload 5, 2) := by decide +kernel
theorem dX8_parts_66 : decode cX8_parts 66 = .ok (.iload_n 2, 1) := by decide +kernel
theorem dX8_parts_67 : decode cX8_parts 67 = .ok (.invokevirtual 85, 3) := by decide +kernel
theorem dX8_parts_70 : decode cX8_parts 70 = .ok (.if_icmp .eq 11, 3) := by decide +kernel
theorem dX8_parts_73 : decode cX8_parts 73 = .ok (.iload 4, 2) := by decide +kernel
theorem dX8_parts_75 : decode cX8_parts 75 = .ok (.iload 5, 2) := by decide +kernel
theorem dX8_parts_77 : decode cX8_parts 77 = .ok (.invokestatic 105, 3) := by decide +kernel
theorem dX8_parts_80 : decode cX8_parts 80 = .ok (.ireturn, 1) := by decide +kernel
theorem dX8_parts_81 : decode cX8_parts 81 = .ok (.iinc 5 1, 3) := by decide +kernel
theorem dX8_parts_84 : decode cX8_parts 84 = .ok (.goto (-45), 3) := by decide +kernel
theorem dX8_parts_87 : decode cX8_parts 87 = .ok (.iinc 4 1, 3) := by decide +kernel
theorem dX8_parts_90 : decode cX8_parts 90 = .ok (.goto (-60), 3) := by decide +kernel
theorem dX8_parts_93 : decode cX8_parts 93 = .ok (.bipush (-4), 2) := by decide +kernel
theorem dX8_parts_95 : decode cX8_parts 95 = .ok (.ireturn, 1) := by decide +kernel
set_option maxRecDepth 20000 in
theorem ggX8_probe_X8_sheetAt : GoodIn wsX8_probe wsX8_sheetAt := goodIn_r _ [6, 7, 8, 9, 5, 10, 77, 78, 79, 80, 81, 82, 83, 84, 85, 86, 87, 88, 89] (by decide +kernel) (by decide +kernel)
set_option maxRecDepth 20000 in
theorem gX8_probe_X8_sheetAt : GoodIn wsX8_probe (wsV RX8 109 RX8 yX8_sheetAt wsX8_sheetAt) := goodIn_app (goodIn_of _ (by decide +kernel)) ggX8_probe_X8_sheetAt
set_option maxRecDepth 20000 in
theorem ggX8_probe_X8_within : GoodIn wsX8_probe wsX8_within := goodIn_r _ [10] (by decide +kernel) (by decide +kernel)
set_option maxRecDepth 20000 in
theorem gX8_probe_X8_within : GoodIn wsX8_probe (va_wsS RX8 89 yX8_within wsX8_within) := goodIn_app (goodIn_of _ (by decide +kernel)) ggX8_probe_X8_within
set_option maxRecDepth 20000 in
theorem ggX8_probe_X8_isLane : GoodIn wsX8_probe wsX8_isLane := goodIn_r _ [13, 8, 9, 5, 10] (by decide +kernel) (by decide +kernel)
set_option maxRecDepth 20000 in
theorem gX8_probe_X8_isLane : GoodIn wsX8_probe (va_wsS RX8 113 yX8_isLane wsX8_isLane) := goodIn_app (goodIn_of _ (by decide +kernel)) ggX8_probe_X8_isLane
set_option maxRecDepth 20000 in
theorem ggX8_probe_X5_refusal : GoodIn wsX8_probe wsX5_refusal := goodIn_r _ [18, 19, 20, 21, 22, 17, 23, 24, 25, 26, 27, 28, 90, 91, 92] (by decide +kernel) (by decide +kernel)
set_option maxRecDepth 20000 in
theorem gX8_probe_X5_refusal : GoodIn wsX8_probe (wsV RX8 116 RX5 yX5_refusal wsX5_refusal) := goodIn_app (goodIn_of _ (by decide +kernel)) ggX8_probe_X5_refusal
set_option maxRecDepth 20000 in
theorem ggX8_probe_X5_at : GoodIn wsX8_probe wsX5_at := goodIn_r _ [32, 24, 33, 90, 91, 92] (by decide +kernel) (by decide +kernel)
set_option maxRecDepth 20000 in
theorem gX8_probe_X5_at : GoodIn wsX8_probe (wsV RX8 119 RX5 yX5_at wsX5_at) := goodIn_app (goodIn_of _ (by decide +kernel)) ggX8_probe_X5_at
set_option maxRecDepth 20000 in
theorem ggX8_probe_X8_isSet : GoodIn wsX8_probe wsX8_isSet := goodIn_r _ [36, 8, 9, 5, 10] (by decide +kernel) (by decide +kernel)
set_option maxRecDepth 20000 in
theorem gX8_probe_X8_isSet : GoodIn wsX8_probe (va_wsS RX8 81 yX8_isSet wsX8_isSet) := goodIn_app (goodIn_of _ (by decide +kernel)) ggX8_probe_X8_isSet
set_option maxRecDepth 20000 in
theorem ggX8_probe_X8_bestProbe : GoodIn wsX8_probe wsX8_bestProbe := goodIn_r _ [40, 41, 42, 43, 5, 44, 45, 1, 46, 47, 48, 49, 50, 51, 52, 53, 54, 55, 56, 57, 58, 59, 60, 61, 62, 63, 64, 65, 66, 67, 68, 69, 70, 71, 72, 73, 74, 75, 76, 77, 78, 79, 80, 81, 82, 83, 84, 85, 86, 87, 88, 89, 93, 94, 95] (by decide +kernel) (by decide +kernel)
set_option maxRecDepth 20000 in
theorem gX8_probe_X8_bestProbe : GoodIn wsX8_probe (wsV RX8 123 RX8 yX8_bestProbe wsX8_bestProbe) := goodIn_app (goodIn_of _ (by decide +kernel)) ggX8_probe_X8_bestProbe
theorem dX8_probe_0 : decode cX8_probe 0 = .ok (.aload_n 0, 1) := by decide +kernel
theorem dX8_probe_1 : decode cX8_probe 1 = .ok (.iload_n 2, 1) := by decide +kernel
theorem dX8_probe_2 : decode cX8_probe 2 = .ok (.invokevirtual 109, 3) := by decide +kernel
theorem dX8_probe_5 : decode cX8_probe 5 = .ok (.astore 6, 2) := by decide +kernel
theorem dX8_probe_7 : decode cX8_probe 7 = .ok (.iload_n 1, 1) := by decide +kernel
theorem dX8_probe_8 : decode cX8_probe 8 = .ok (.iconst 1, 1) := by decide +kernel
theorem dX8_probe_9 : decode cX8_probe 9 = .ok (.sipush 200, 3) := by decide +kernel
theorem dX8_probe_12 : decode cX8_probe 12 = .ok (.invokestatic 89, 3) := by decide +kernel
theorem dX8_probe_15 : decode cX8_probe 15 = .ok (.ifCond .eq 26, 3) := by decide +kernel
theorem dX8_probe_18 : decode cX8_probe 18 = .ok (.aload 6, 2) := by decide +kernel
theorem dX8_probe_20 : decode cX8_probe 20 = .ok (.ifnull 21, 3) := by decide +kernel
theorem dX8_probe_23 : decode cX8_probe 23 = .ok (.iload_n 3, 1) := by decide +kernel
theorem dX8_probe_24 : decode cX8_probe 24 = .ok (.invokestatic 113, 3) := by decide +kernel
theorem dX8_probe_27 : decode cX8_probe 27 = .ok (.ifCond .eq 14, 3) := by decide +kernel
theorem dX8_probe_30 : decode cX8_probe 30 = .ok (.iload 5, 2) := by decide +kernel
theorem dX8_probe_32 : decode cX8_probe 32 = .ok (.iconst 1, 1) := by decide +kernel
theorem dX8_probe_33 : decode cX8_probe 33 = .ok (.bipush 6, 2) := by decide +kernel
theorem dX8_probe_35 : decode cX8_probe 35 = .ok (.invokestatic 89, 3) := by decide +kernel
theorem dX8_probe_38 : decode cX8_probe 38 = .ok (.ifCond .ne 5, 3) := by decide +kernel
theorem dX8_probe_41 : decode cX8_probe 41 = .ok (.iconst (-1), 1) := by decide +kernel
theorem dX8_probe_42 : decode cX8_probe 42 = .ok (.ireturn, 1) := by decide +kernel
theorem dX8_probe_43 : decode cX8_probe 43 = .ok (.aload 6, 2) := by decide +kernel
theorem dX8_probe_45 : decode cX8_probe 45 = .ok (.iload_n 3, 1) := by decide +kernel
theorem dX8_probe_46 : decode cX8_probe 46 = .ok (.iload 4, 2) := by decide +kernel
theorem dX8_probe_48 : decode cX8_probe 48 = .ok (.iload 5, 2) := by decide +kernel
theorem dX8_probe_50 : decode cX8_probe 50 = .ok (.invokevirtual 116, 3) := by decide +kernel
theorem dX8_probe_53 : decode cX8_probe 53 = .ok (.istore 7, 2) := by decide +kernel
theorem dX8_probe_55 : decode cX8_probe 55 = .ok (.iload 7, 2) := by decide +kernel
theorem dX8_probe_57 : decode cX8_probe 57 = .ok (.ifCond .ge 6, 3) := by decide +kernel
theorem dX8_probe_60 : decode cX8_probe 60 = .ok (.iload 7, 2) := by decide +kernel
theorem dX8_probe_62 : decode cX8_probe 62 = .ok (.ireturn, 1) := by decide +kernel
theorem dX8_probe_63 : decode cX8_probe 63 = .ok (.iconst 0, 1) := by decide +kernel
theorem dX8_probe_64 : decode cX8_probe 64 = .ok (.istore 8, 2) := by decide +kernel
theorem dX8_probe_66 : decode cX8_probe 66 = .ok (.iload 8, 2) := by decide +kernel
theorem dX8_probe_68 : decode cX8_probe 68 = .ok (.iload 5, 2) := by decide +kernel
theorem dX8_probe_70 : decode cX8_probe 70 = .ok (.if_icmp .ge 41, 3) := by decide +kernel
theorem dX8_probe_73 : decode cX8_probe 73 = .ok (.aload 6, 2) := by decide +kernel
theorem dX8_probe_75 : decode cX8_probe 75 = .ok (.iload 4, 2) := by decide +kernel
theorem dX8_probe_77 : decode cX8_probe 77 = .ok (.iload 8, 2) := by decide +kernel
theorem dX8_probe_79 : decode cX8_probe 79 = .ok (.iadd, 1) := by decide +kernel
theorem dX8_probe_80 : decode cX8_probe 80 = .ok (.invokevirtual 119, 3) := by decide +kernel
theorem dX8_probe_83 : decode cX8_probe 83 = .ok (.istore 9, 2) := by decide +kernel
theorem dX8_probe_85 : decode cX8_probe 85 = .ok (.iload 9, 2) := by decide +kernel
theorem dX8_probe_87 : decode cX8_probe 87 = .ok (.invokestatic 81, 3) := by decide +kernel
theorem dX8_probe_90 : decode cX8_probe 90 = .ok (.ifCond .ne 6, 3) := by decide +kernel
theorem dX8_probe_93 : decode cX8_probe 93 = .ok (.bipush (-2), 2) := by decide +kernel
theorem dX8_probe_95 : decode cX8_probe 95 = .ok (.ireturn, 1) := by decide +kernel
theorem dX8_probe_96 : decode cX8_probe 96 = .ok (.aload_n 0, 1) := by decide +kernel
theorem dX8_probe_97 : decode cX8_probe 97 = .ok (.getfield 16, 3) := by decide +kernel
theorem dX8_probe_100 : decode cX8_probe 100 = .ok (.iload 8, 2) := by decide +kernel
theorem dX8_probe_102 : decode cX8_probe 102 = .ok (.iload 9, 2) := by decide +kernel
theorem dX8_probe_104 : decode cX8_probe 104 = .ok (.iastore, 1) := by decide +kernel
theorem dX8_probe_105 : decode cX8_probe 105 = .ok (.iinc 8 1, 3) := by decide +kernel
theorem dX8_probe_108 : decode cX8_probe 108 = .ok (.goto (-42), 3) := by decide +kernel
theorem dX8_probe_111 : decode cX8_probe 111 = .ok (.aload_n 0, 1) := by decide +kernel
theorem dX8_probe_112 : decode cX8_probe 112 = .ok (.iload_n 1, 1) := by decide +kernel
theorem dX8_probe_113 : decode cX8_probe 113 = .ok (.iload 5, 2) := by decide +kernel
theorem dX8_probe_115 : decode cX8_probe 115 = .ok (.invokevirtual 123, 3) := by decide +kernel
theorem dX8_probe_118 : decode cX8_probe 118 = .ok (.ireturn, 1) := by decide +kernel
set_option maxRecDepth 20000 in
theorem ggX8_bestProbe_X8_differentAnswers : GoodIn wsX8_bestProbe wsX8_differentAnswers := goodIn_r _ [5, 6, 7, 8, 9, 10, 11, 12, 13, 14, 15, 16, 17, 18, 19, 20, 21, 22, 23, 24, 25, 26, 27, 28, 29, 30, 31, 32, 33, 34, 35, 39, 40, 41, 42, 43, 44, 45, 46, 47, 48, 49, 50, 51, 52, 53, 54] (by decide +kernel) (by decide +kernel)
set_option maxRecDepth 20000 in
theorem gX8_bestProbe_X8_differentAnswers : GoodIn wsX8_bestProbe (wsV RX8 126 RX8 yX8_differentAnswers wsX8_differentAnswers) := goodIn_app (goodIn_of _ (by decide +kernel)) ggX8_bestProbe_X8_differentAnswers
set_option maxRecDepth 20000 in
theorem ggX8_bestProbe_X8_taskNumber : GoodIn wsX8_bestProbe wsX8_taskNumber := goodIn_r _ [38] (by decide +kernel) (by decide +kernel)
set_option maxRecDepth 20000 in
theorem gX8_bestProbe_X8_taskNumber : GoodIn wsX8_bestProbe (va_wsS RX8 105 yX8_taskNumber wsX8_taskNumber) := goodIn_app (goodIn_of _ (by decide +kernel)) ggX8_bestProbe_X8_taskNumber
theorem dX8_bestProbe_0 : decode cX8_bestProbe 0 = .ok (.iconst 0, 1) := by decide +kernel
theorem dX8_bestProbe_1 : decode cX8_bestProbe 1 = .ok (.istore_n 3, 1) := by decide +kernel
theorem dX8_bestProbe_2 : decode cX8_bestProbe 2 = .ok (.iconst 0, 1) := by decide +kernel
theorem dX8_bestProbe_3 : decode cX8_bestProbe 3 = .ok (.istore 4, 2) := by decide +kernel
theorem dX8_bestProbe_5 : decode cX8_bestProbe 5 = .ok (.iconst 0, 1) := by decide +kernel
theorem dX8_bestProbe_6 : decode cX8_bestProbe 6 = .ok (.istore 5, 2) := by decide +kernel
theorem dX8_bestProbe_8 : decode cX8_bestProbe 8 = .ok (.iload 5, 2) := by decide +kernel
theorem dX8_bestProbe_10 : decode cX8_bestProbe 10 = .ok (.iload_n 1, 1) := by decide +kernel
theorem dX8_bestProbe_11 : decode cX8_bestProbe 11 = .ok (.if_icmp .ge 63, 3) := by decide +kernel
theorem dX8_bestProbe_14 : decode cX8_bestProbe 14 = .ok (.iconst 0, 1) := by decide +kernel
theorem dX8_bestProbe_15 : decode cX8_bestProbe 15 = .ok (.istore 6, 2) := by decide +kernel
theorem dX8_bestProbe_17 : decode cX8_bestProbe 17 = .ok (.iload 6, 2) := by decide +kernel
theorem dX8_bestProbe_19 : decode cX8_bestProbe 19 = .ok (.iload 5, 2) := by decide +kernel
theorem dX8_bestProbe_21 : decode cX8_bestProbe 21 = .ok (.if_icmp .gt 47, 3) := by decide +kernel
theorem dX8_bestProbe_24 : decode cX8_bestProbe 24 = .ok (.aload_n 0, 1) := by decide +kernel
theorem dX8_bestProbe_25 : decode cX8_bestProbe 25 = .ok (.iload 5, 2) := by decide +kernel
theorem dX8_bestProbe_27 : decode cX8_bestProbe 27 = .ok (.iload 6, 2) := by decide +kernel
theorem dX8_bestProbe_29 : decode cX8_bestProbe 29 = .ok (.iload_n 2, 1) := by decide +kernel
theorem dX8_bestProbe_30 : decode cX8_bestProbe 30 = .ok (.invokevirtual 126, 3) := by decide +kernel
theorem dX8_bestProbe_33 : decode cX8_bestProbe 33 = .ok (.istore 7, 2) := by decide +kernel
theorem dX8_bestProbe_35 : decode cX8_bestProbe 35 = .ok (.iload 7, 2) := by decide +kernel
theorem dX8_bestProbe_37 : decode cX8_bestProbe 37 = .ok (.iload 4, 2) := by decide +kernel
theorem dX8_bestProbe_39 : decode cX8_bestProbe 39 = .ok (.if_icmp .le 15, 3) := by decide +kernel
theorem dX8_bestProbe_42 : decode cX8_bestProbe 42 = .ok (.iload 7, 2) := by decide +kernel
theorem dX8_bestProbe_44 : decode cX8_bestProbe 44 = .ok (.istore 4, 2) := by decide +kernel
theorem dX8_bestProbe_46 : decode cX8_bestProbe 46 = .ok (.iload 5, 2) := by decide +kernel
theorem dX8_bestProbe_48 : decode cX8_bestProbe 48 = .ok (.iload 6, 2) := by decide +kernel
theorem dX8_bestProbe_50 : decode cX8_bestProbe 50 = .ok (.invokestatic 105, 3) := by decide +kernel
theorem dX8_bestProbe_53 : decode cX8_bestProbe 53 = .ok (.istore_n 3, 1) := by decide +kernel
theorem dX8_bestProbe_54 : decode cX8_bestProbe 54 = .ok (.iload 4, 2) := by decide +kernel
theorem dX8_bestProbe_56 : decode cX8_bestProbe 56 = .ok (.iload_n 2, 1) := by decide +kernel
theorem dX8_bestProbe_57 : decode cX8_bestProbe 57 = .ok (.if_icmp .lt 5, 3) := by decide +kernel
theorem dX8_bestProbe_60 : decode cX8_bestProbe 60 = .ok (.iload_n 3, 1) := by decide +kernel
theorem dX8_bestProbe_61 : decode cX8_bestProbe 61 = .ok (.ireturn, 1) := by decide +kernel
theorem dX8_bestProbe_62 : decode cX8_bestProbe 62 = .ok (.iinc 6 1, 3) := by decide +kernel
theorem dX8_bestProbe_65 : decode cX8_bestProbe 65 = .ok (.goto (-48), 3) := by decide +kernel
theorem dX8_bestProbe_68 : decode cX8_bestProbe 68 = .ok (.iinc 5 1, 3) := by decide +kernel
theorem dX8_bestProbe_71 : decode cX8_bestProbe 71 = .ok (.goto (-63), 3) := by decide +kernel
theorem dX8_bestProbe_74 : decode cX8_bestProbe 74 = .ok (.iload_n 3, 1) := by decide +kernel
theorem dX8_bestProbe_75 : decode cX8_bestProbe 75 = .ok (.ireturn, 1) := by decide +kernel
set_option maxRecDepth 20000 in
theorem ggX8_differentAnswers_X4_fill : GoodIn wsX8_differentAnswers wsX4_fill := goodIn_r _ [8, 9, 10, 11, 12, 13, 7, 14, 15, 16, 17, 18, 19, 20, 21, 22, 23, 24, 25, 26, 27, 28, 29, 30, 44, 45, 46] (by decide +kernel) (by decide +kernel)
set_option maxRecDepth 20000 in
theorem gX8_differentAnswers_X4_fill : GoodIn wsX8_differentAnswers (wsV RX8 85 RX4 yX4_fill wsX4_fill) := goodIn_app (goodIn_of _ (by decide +kernel)) ggX8_differentAnswers_X4_fill
theorem dX8_differentAnswers_0 : decode cX8_differentAnswers 0 = .ok (.iconst 0, 1) := by decide +kernel
theorem dX8_differentAnswers_1 : decode cX8_differentAnswers 1 = .ok (.istore 4, 2) := by decide +kernel
theorem dX8_differentAnswers_3 : decode cX8_differentAnswers 3 = .ok (.iconst 0, 1) := by decide +kernel
theorem dX8_differentAnswers_4 : decode cX8_differentAnswers 4 = .ok (.istore 5, 2) := by decide +kernel
theorem dX8_differentAnswers_6 : decode cX8_differentAnswers 6 = .ok (.iload 5, 2) := by decide +kernel
theorem dX8_differentAnswers_8 : decode cX8_differentAnswers 8 = .ok (.iload_n 3, 1) := by decide +kernel
theorem dX8_differentAnswers_9 : decode cX8_differentAnswers 9 = .ok (.if_icmp .ge 78, 3) := by decide +kernel
theorem dX8_differentAnswers_12 : decode cX8_differentAnswers 12 = .ok (.aload_n 0, 1) := by decide +kernel
theorem dX8_differentAnswers_13 : decode cX8_differentAnswers 13 = .ok (.getfield 10, 3) := by decide +kernel
theorem dX8_differentAnswers_16 : decode cX8_differentAnswers 16 = .ok (.iload_n 1, 1) := by decide +kernel
theorem dX8_differentAnswers_17 : decode cX8_differentAnswers 17 = .ok (.iload_n 2, 1) := by decide +kernel
theorem dX8_differentAnswers_18 : decode cX8_differentAnswers 18 = .ok (.aload_n 0, 1) := by decide +kernel
theorem dX8_differentAnswers_19 : decode cX8_differentAnswers 19 = .ok (.getfield 16, 3) := by decide +kernel
theorem dX8_differentAnswers_22 : decode cX8_differentAnswers 22 = .ok (.iload 5, 2) := by decide +kernel
theorem dX8_differentAnswers_24 : decode cX8_differentAnswers 24 = .ok (.iaload, 1) := by decide +kernel
theorem dX8_differentAnswers_25 : decode cX8_differentAnswers 25 = .ok (.invokevirtual 85, 3) := by decide +kernel
theorem dX8_differentAnswers_28 : decode cX8_differentAnswers 28 = .ok (.istore 6, 2) := by decide +kernel
theorem dX8_differentAnswers_30 : decode cX8_differentAnswers 30 = .ok (.iconst 1, 1) := by decide +kernel
theorem dX8_differentAnswers_31 : decode cX8_differentAnswers 31 = .ok (.istore 7, 2) := by decide +kernel
theorem dX8_differentAnswers_33 : decode cX8_differentAnswers 33 = .ok (.iconst 0, 1) := by decide +kernel
theorem dX8_differentAnswers_34 : decode cX8_differentAnswers 34 = .ok (.istore 8, 2) := by decide +kernel
theorem dX8_differentAnswers_36 : decode cX8_differentAnswers 36 = .ok (.iload 8, 2) := by decide +kernel
theorem dX8_differentAnswers_38 : decode cX8_differentAnswers 38 = .ok (.iload 4, 2) := by decide +kernel
theorem dX8_differentAnswers_40 : decode cX8_differentAnswers 40 = .ok (.if_icmp .ge 24, 3) := by decide +kernel
theorem dX8_differentAnswers_43 : decode cX8_differentAnswers 43 = .ok (.aload_n 0, 1) := by decide +kernel
theorem dX8_differentAnswers_44 : decode cX8_differentAnswers 44 = .ok (.getfield 20, 3) := by decide +kernel
theorem dX8_differentAnswers_47 : decode cX8_differentAnswers 47 = .ok (.iload 8, 2) := by decide +kernel
theorem dX8_differentAnswers_49 : decode cX8_differentAnswers 49 = .ok (.iaload, 1) := by decide +kernel
theorem dX8_differentAnswers_50 : decode cX8_differentAnswers 50 = .ok (.iload 6, 2) := by decide +kernel
theorem dX8_differentAnswers_52 : decode cX8_differentAnswers 52 = .ok (.if_icmp .ne 6, 3) := by decide +kernel
theorem dX8_differentAnswers_55 : decode cX8_differentAnswers 55 = .ok (.iconst 0, 1) := by decide +kernel
theorem dX8_differentAnswers_56 : decode cX8_differentAnswers 56 = .ok (.istore 7, 2) := by decide +kernel
theorem dX8_differentAnswers_58 : decode cX8_differentAnswers 58 = .ok (.iinc 8 1, 3) := by decide +kernel
theorem dX8_differentAnswers_61 : decode cX8_differentAnswers 61 = .ok (.goto (-25), 3) := by decide +kernel
theorem dX8_differentAnswers_64 : decode cX8_differentAnswers 64 = .ok (.iload 7, 2) := by decide +kernel
theorem dX8_differentAnswers_66 : decode cX8_differentAnswers 66 = .ok (.ifCond .eq 15, 3) := by decide +kernel
theorem dX8_differentAnswers_69 : decode cX8_differentAnswers 69 = .ok (.aload_n 0, 1) := by decide +kernel
theorem dX8_differentAnswers_70 : decode cX8_differentAnswers 70 = .ok (.getfield 20, 3) := by decide +kernel
theorem dX8_differentAnswers_73 : decode cX8_differentAnswers 73 = .ok (.iload 4, 2) := by decide +kernel
theorem dX8_differentAnswers_75 : decode cX8_differentAnswers 75 = .ok (.iload 6, 2) := by decide +kernel
theorem dX8_differentAnswers_77 : decode cX8_differentAnswers 77 = .ok (.iastore, 1) := by decide +kernel
theorem dX8_differentAnswers_78 : decode cX8_differentAnswers 78 = .ok (.iinc 4 1, 3) := by decide +kernel
theorem dX8_differentAnswers_81 : decode cX8_differentAnswers 81 = .ok (.iinc 5 1, 3) := by decide +kernel
theorem dX8_differentAnswers_84 : decode cX8_differentAnswers 84 = .ok (.goto (-78), 3) := by decide +kernel
theorem dX8_differentAnswers_87 : decode cX8_differentAnswers 87 = .ok (.iload 4, 2) := by decide +kernel
theorem dX8_differentAnswers_89 : decode cX8_differentAnswers 89 = .ok (.ireturn, 1) := by decide +kernel
set_option maxRecDepth 20000 in
theorem ggX8_learner_X1_init : GoodIn wsX8_learner wsX1_init := goodIn_r _ [7, 8, 9, 10, 11, 12, 13, 14, 15, 16, 17, 18, 19, 20, 21, 22, 23, 24, 25, 26, 27, 28, 29, 30, 31, 32, 33, 47, 48, 49, 50, 51, 52, 53, 54, 55, 56] (by decide +kernel) (by decide +kernel)
set_option maxRecDepth 20000 in
theorem gX8_learner_X1_init_n129 : GoodIn wsX8_learner (wsX1_init) := ggX8_learner_X1_init
theorem dX8_learner_0 : decode cX8_learner 0 = .ok (.aload_n 0, 1) := by decide +kernel
theorem dX8_learner_1 : decode cX8_learner 1 = .ok (.getfield 29, 3) := by decide +kernel
theorem dX8_learner_4 : decode cX8_learner 4 = .ok (.bipush 12, 2) := by decide +kernel
theorem dX8_learner_6 : decode cX8_learner 6 = .ok (.if_icmp .lt 6, 3) := by decide +kernel
theorem dX8_learner_9 : decode cX8_learner 9 = .ok (.bipush (-3), 2) := by decide +kernel
theorem dX8_learner_11 : decode cX8_learner 11 = .ok (.ireturn, 1) := by decide +kernel
theorem dX8_learner_12 : decode cX8_learner 12 = .ok (.aload_n 0, 1) := by decide +kernel
theorem dX8_learner_13 : decode cX8_learner 13 = .ok (.getfield 25, 3) := by decide +kernel
theorem dX8_learner_16 : decode cX8_learner 16 = .ok (.aload_n 0, 1) := by decide +kernel
theorem dX8_learner_17 : decode cX8_learner 17 = .ok (.getfield 29, 3) := by decide +kernel
theorem dX8_learner_20 : decode cX8_learner 20 = .ok (.new 23, 3) := by decide +kernel
theorem dX8_learner_23 : decode cX8_learner 23 = .ok (.dup, 1) := by decide +kernel
theorem dX8_learner_24 : decode cX8_learner 24 = .ok (.invokespecial 129, 3) := by decide +kernel
theorem dX8_learner_27 : decode cX8_learner 27 = .ok (.aastore, 1) := by decide +kernel
theorem dX8_learner_28 : decode cX8_learner 28 = .ok (.aload_n 0, 1) := by decide +kernel
theorem dX8_learner_29 : decode cX8_learner 29 = .ok (.dup, 1) := by decide +kernel
theorem dX8_learner_30 : decode cX8_learner 30 = .ok (.getfield 29, 3) := by decide +kernel
theorem dX8_learner_33 : decode cX8_learner 33 = .ok (.iconst 1, 1) := by decide +kernel
theorem dX8_learner_34 : decode cX8_learner 34 = .ok (.iadd, 1) := by decide +kernel
theorem dX8_learner_35 : decode cX8_learner 35 = .ok (.putfield 29, 3) := by decide +kernel
theorem dX8_learner_38 : decode cX8_learner 38 = .ok (.aload_n 0, 1) := by decide +kernel
theorem dX8_learner_39 : decode cX8_learner 39 = .ok (.getfield 29, 3) := by decide +kernel
theorem dX8_learner_42 : decode cX8_learner 42 = .ok (.iconst 1, 1) := by decide +kernel
theorem dX8_learner_43 : decode cX8_learner 43 = .ok (.isub, 1) := by decide +kernel
theorem dX8_learner_44 : decode cX8_learner 44 = .ok (.ireturn, 1) := by decide +kernel
set_option maxRecDepth 20000 in
theorem ggX8_answer_X8_learnerAt : GoodIn wsX8_answer wsX8_learnerAt := goodIn_r _ [6, 7, 8, 9, 10, 5, 11, 72, 73, 74, 75, 76, 77, 78, 79, 80, 81, 82, 83, 84] (by decide +kernel) (by decide +kernel)
set_option maxRecDepth 20000 in
theorem gX8_answer_X8_learnerAt : GoodIn wsX8_answer (wsV RX8 130 RX8 yX8_learnerAt wsX8_learnerAt) := goodIn_app (goodIn_of _ (by decide +kernel)) ggX8_answer_X8_learnerAt
set_option maxRecDepth 20000 in
theorem ggX8_answer_X8_isTask : GoodIn wsX8_answer wsX8_isTask := goodIn_r _ [14, 15, 16, 5, 17, 9, 10, 11] (by decide +kernel) (by decide +kernel)
set_option maxRecDepth 20000 in
theorem gX8_answer_X8_isTask : GoodIn wsX8_answer (va_wsS RX8 77 yX8_isTask wsX8_isTask) := goodIn_app (goodIn_of _ (by decide +kernel)) ggX8_answer_X8_isTask
set_option maxRecDepth 20000 in
theorem ggX8_answer_X8_isNumber : GoodIn wsX8_answer wsX8_isNumber := goodIn_r _ [17, 9, 10, 5, 11] (by decide +kernel) (by decide +kernel)
set_option maxRecDepth 20000 in
theorem gX8_answer_X8_isNumber : GoodIn wsX8_answer (va_wsS RX8 99 yX8_isNumber wsX8_isNumber) := goodIn_app (goodIn_of _ (by decide +kernel)) ggX8_answer_X8_isNumber
set_option maxRecDepth 20000 in
theorem ggX8_answer_X1_take : GoodIn wsX8_answer wsX1_take := goodIn_r _ [22, 23, 24, 25, 26, 27, 28, 5, 29, 30, 31, 32, 33, 34, 35, 21, 36, 37, 38, 39, 40, 41, 42, 43, 44, 45, 46, 47, 48, 49, 50, 51, 52, 53, 54, 55, 56, 57, 58, 59, 60, 61, 62, 63, 64, 65, 66, 67, 68, 69, 70, 71, 85, 86, 87, 88, 89, 90, 91, 92, 93, 94] (by decide +kernel) (by decide +kernel)
set_option maxRecDepth 20000 in
theorem gX8_answer_X1_take : GoodIn wsX8_answer (wsV RX8 134 RX1 yX1_take wsX1_take) := goodIn_app (goodIn_of _ (by decide +kernel)) ggX8_answer_X1_take
theorem dX8_answer_0 : decode cX8_answer 0 = .ok (.aload_n 0, 1) := by decide +kernel
theorem dX8_answer_1 : decode cX8_answer 1 = .ok (.iload_n 1, 1) := by decide +kernel
theorem dX8_answer_2 : decode cX8_answer 2 = .ok (.invokevirtual 130, 3) := by decide +kernel
theorem dX8_answer_5 : decode cX8_answer 5 = .ok (.astore 5, 2) := by decide +kernel
theorem dX8_answer_7 : decode cX8_answer 7 = .ok (.aload 5, 2) := by decide +kernel
theorem dX8_answer_9 : decode cX8_answer 9 = .ok (.ifnull 19, 3) := by decide +kernel
theorem dX8_answer_12 : decode cX8_answer 12 = .ok (.iload_n 2, 1) := by decide +kernel
theorem dX8_answer_13 : decode cX8_answer 13 = .ok (.iload_n 3, 1) := by decide +kernel
theorem dX8_answer_14 : decode cX8_answer 14 = .ok (.invokestatic 77, 3) := by decide +kernel
theorem dX8_answer_17 : decode cX8_answer 17 = .ok (.ifCond .eq 11, 3) := by decide +kernel
theorem dX8_answer_20 : decode cX8_answer 20 = .ok (.iload 4, 2) := by decide +kernel
theorem dX8_answer_22 : decode cX8_answer 22 = .ok (.invokestatic 99, 3) := by decide +kernel
theorem dX8_answer_25 : decode cX8_answer 25 = .ok (.ifCond .ne 5, 3) := by decide +kernel
theorem dX8_answer_28 : decode cX8_answer 28 = .ok (.iconst (-1), 1) := by decide +kernel
theorem dX8_answer_29 : decode cX8_answer 29 = .ok (.ireturn, 1) := by decide +kernel
theorem dX8_answer_30 : decode cX8_answer 30 = .ok (.aload 5, 2) := by decide +kernel
theorem dX8_answer_32 : decode cX8_answer 32 = .ok (.iload_n 2, 1) := by decide +kernel
theorem dX8_answer_33 : decode cX8_answer 33 = .ok (.iload_n 3, 1) := by decide +kernel
theorem dX8_answer_34 : decode cX8_answer 34 = .ok (.iload 4, 2) := by decide +kernel
theorem dX8_answer_36 : decode cX8_answer 36 = .ok (.aload_n 0, 1) := by decide +kernel
theorem dX8_answer_37 : decode cX8_answer 37 = .ok (.getfield 10, 3) := by decide +kernel
theorem dX8_answer_40 : decode cX8_answer 40 = .ok (.invokevirtual 134, 3) := by decide +kernel
theorem dX8_answer_43 : decode cX8_answer 43 = .ok (.ireturn, 1) := by decide +kernel
set_option maxRecDepth 20000 in
theorem ggX8_answers_X8_learnerAt : GoodIn wsX8_answers wsX8_learnerAt := goodIn_r _ [7, 8, 9, 10, 11, 6, 12, 108, 109, 110, 111, 112, 113, 114, 115, 116, 117, 118, 119, 120] (by decide +kernel) (by decide +kernel)
set_option maxRecDepth 20000 in
theorem gX8_answers_X8_learnerAt : GoodIn wsX8_answers (wsV RX8 130 RX8 yX8_learnerAt wsX8_learnerAt) := goodIn_app (goodIn_of _ (by decide +kernel)) ggX8_answers_X8_learnerAt
set_option maxRecDepth 20000 in
theorem ggX8_answers_X8_sheetAt : GoodIn wsX8_answers wsX8_sheetAt := goodIn_r _ [16, 17, 10, 11, 6, 12, 108, 109, 110, 111, 112, 113, 114, 115, 116, 117, 118, 119, 120] (by decide +kernel) (by decide +kernel)
set_option maxRecDepth 20000 in
theorem gX8_answers_X8_sheetAt : GoodIn wsX8_answers (wsV RX8 109 RX8 yX8_sheetAt wsX8_sheetAt) := goodIn_app (goodIn_of _ (by decide +kernel)) ggX8_answers_X8_sheetAt
set_option maxRecDepth 20000 in
theorem ggX8_answers_X8_isLane : GoodIn wsX8_answers wsX8_isLane := goodIn_r _ [20, 10, 11, 6, 12] (by decide +kernel) (by decide +kernel)
set_option maxRecDepth 20000 in
theorem gX8_answers_X8_isLane : GoodIn wsX8_answers (va_wsS RX8 113 yX8_isLane wsX8_isLane) := goodIn_app (goodIn_of _ (by decide +kernel)) ggX8_answers_X8_isLane
set_option maxRecDepth 20000 in
theorem ggX8_answers_X8_within : GoodIn wsX8_answers wsX8_within := goodIn_r _ [12] (by decide +kernel) (by decide +kernel)
set_option maxRecDepth 20000 in
theorem gX8_answers_X8_within : GoodIn wsX8_answers (va_wsS RX8 89 yX8_within wsX8_within) := goodIn_app (goodIn_of _ (by decide +kernel)) ggX8_answers_X8_within
set_option maxRecDepth 20000 in
theorem ggX8_answers_X5_refusal : GoodIn wsX8_answers wsX5_refusal := goodIn_r _ [25, 26, 27, 28, 29, 24, 30, 31, 32, 33, 34, 35, 121, 122, 123] (by decide +kernel) (by decide +kernel)
set_option maxRecDepth 20000 in
theorem gX8_answers_X5_refusal : GoodIn wsX8_answers (wsV RX8 116 RX5 yX5_refusal wsX5_refusal) := goodIn_app (goodIn_of _ (by decide +kernel)) ggX8_answers_X5_refusal
set_option maxRecDepth 20000 in
theorem ggX8_answers_X5_at : GoodIn wsX8_answers wsX5_at := goodIn_r _ [39, 31, 40, 121, 122, 123] (by decide +kernel) (by decide +kernel)
set_option maxRecDepth 20000 in
theorem gX8_answers_X5_at : GoodIn wsX8_answers (wsV RX8 119 RX5 yX5_at wsX5_at) := goodIn_app (goodIn_of _ (by decide +kernel)) ggX8_answers_X5_at
set_option maxRecDepth 20000 in
theorem ggX8_answers_X8_isTask : GoodIn wsX8_answers wsX8_isTask := goodIn_r _ [43, 44, 45, 6, 46, 10, 11, 12] (by decide +kernel) (by decide +kernel)
set_option maxRecDepth 20000 in
theorem gX8_answers_X8_isTask : GoodIn wsX8_answers (va_wsS RX8 77 yX8_isTask wsX8_isTask) := goodIn_app (goodIn_of _ (by decide +kernel)) ggX8_answers_X8_isTask
set_option maxRecDepth 20000 in
theorem ggX8_answers_X8_isNumber : GoodIn wsX8_answers wsX8_isNumber := goodIn_r _ [46, 10, 11, 6, 12] (by decide +kernel) (by decide +kernel)
set_option maxRecDepth 20000 in
theorem gX8_answers_X8_isNumber : GoodIn wsX8_answers (va_wsS RX8 99 yX8_isNumber wsX8_isNumber) := goodIn_app (goodIn_of _ (by decide +kernel)) ggX8_answers_X8_isNumber
set_option maxRecDepth 20000 in
theorem ggX8_answers_X1_take : GoodIn wsX8_answers wsX1_take := goodIn_r _ [51, 52, 53, 54, 55, 56, 57, 6, 58, 59, 60, 61, 62, 63, 64, 50, 65, 66, 67, 68, 69, 70, 71, 72, 73, 74, 75, 76, 77, 78, 79, 80, 81, 82, 83, 84, 85, 86, 87, 88, 89, 90, 91, 92, 93, 94, 95, 96, 97, 98, 99, 100, 101, 102, 103, 104, 105, 106, 107, 124, 125, 126] (by decide +kernel) (by decide +kernel)
set_option maxRecDepth 20000 in
theorem gX8_answers_X1_take : GoodIn wsX8_answers (wsV RX8 134 RX1 yX1_take wsX1_take) := goodIn_app (goodIn_of _ (by decide +kernel)) ggX8_answers_X1_take
theorem dX8_answers_0 : decode cX8_answers 0 = .ok (.aload_n 0, 1) := by decide +kernel
theorem dX8_answers_1 : decode cX8_answers 1 = .ok (.iload_n 1, 1) := by decide +kernel
theorem dX8_answers_2 : decode cX8_answers 2 = .ok (.invokevirtual 130, 3) := by decide +kernel
theorem dX8_answers_5 : decode cX8_answers 5 = .ok (.astore 6, 2) := by decide +kernel
theorem dX8_answers_7 : decode cX8_answers 7 = .ok (.aload_n 0, 1) := by decide +kernel
theorem dX8_answers_8 : decode cX8_answers 8 = .ok (.iload_n 2, 1) := by decide +kernel
theorem dX8_answers_9 : decode cX8_answers 9 = .ok (.invokevirtual 109, 3) := by decide +kernel
theorem dX8_answers_12 : decode cX8_answers 12 = .ok (.astore 7, 2) := by decide +kernel
theorem dX8_answers_14 : decode cX8_answers 14 = .ok (.aload 6, 2) := by decide +kernel
theorem dX8_answers_16 : decode cX8_answers 16 = .ok (.ifnull 26, 3) := by decide +kernel
theorem dX8_answers_19 : decode cX8_answers 19 = .ok (.aload 7, 2) := by decide +kernel
theorem dX8_answers_21 : decode cX8_answers 21 = .ok (.ifnull 21, 3) := by decide +kernel
theorem dX8_answers_24 : decode cX8_answers 24 = .ok (.iload_n 3, 1) := by decide +kernel
theorem dX8_answers_25 : decode cX8_answers 25 = .ok (.invokestatic 113, 3) := by decide +kernel
theorem dX8_answers_28 : decode cX8_answers 28 = .ok (.ifCond .eq 14, 3) := by decide +kernel
theorem dX8_answers_31 : decode cX8_answers 31 = .ok (.iload 5, 2) := by decide +kernel
theorem dX8_answers_33 : decode cX8_answers 33 = .ok (.iconst 0, 1) := by decide +kernel
theorem dX8_answers_34 : decode cX8_answers 34 = .ok (.bipush 13, 2) := by decide +kernel
theorem dX8_answers_36 : decode cX8_answers 36 = .ok (.invokestatic 89, 3) := by decide +kernel
theorem dX8_answers_39 : decode cX8_answers 39 = .ok (.ifCond .ne 5, 3) := by decide +kernel
theorem dX8_answers_42 : decode cX8_answers 42 = .ok (.iconst (-1), 1) := by decide +kernel
theorem dX8_answers_43 : decode cX8_answers 43 = .ok (.ireturn, 1) := by decide +kernel
theorem dX8_answers_44 : decode cX8_answers 44 = .ok (.aload 7, 2) := by decide +kernel
theorem dX8_answers_46 : decode cX8_answers 46 = .ok (.iload_n 3, 1) := by decide +kernel
theorem dX8_answers_47 : decode cX8_answers 47 = .ok (.iload 4, 2) := by decide +kernel
theorem dX8_answers_49 : decode cX8_answers 49 = .ok (.iconst 3, 1) := by decide +kernel
theorem dX8_answers_50 : decode cX8_answers 50 = .ok (.iload 5, 2) := by decide +kernel
theorem dX8_answers_52 : decode cX8_answers 52 = .ok (.imul, 1) := by decide +kernel
theorem dX8_answers_53 : decode cX8_answers 53 = .ok (.invokevirtual 116, 3) := by decide +kernel
theorem dX8_answers_56 : decode cX8_answers 56 = .ok (.istore 8, 2) := by decide +kernel
theorem dX8_answers_58 : decode cX8_answers 58 = .ok (.iload 8, 2) := by decide +kernel
theorem dX8_answers_60 : decode cX8_answers 60 = .ok (.ifCond .ge 6, 3) := by decide +kernel
theorem dX8_answers_63 : decode cX8_answers 63 = .ok (.iload 8, 2) := by decide +kernel
theorem dX8_answers_65 : decode cX8_answers 65 = .ok (.ireturn, 1) := by decide +kernel
theorem dX8_answers_66 : decode cX8_answers 66 = .ok (.iconst 0, 1) := by decide +kernel
theorem dX8_answers_67 : decode cX8_answers 67 = .ok (.istore 9, 2) := by decide +kernel
theorem dX8_answers_69 : decode cX8_answers 69 = .ok (.iload 9, 2) := by decide +kernel
theorem dX8_answers_71 : decode cX8_answers 71 = .ok (.iload 5, 2) := by decide +kernel
theorem dX8_answers_73 : decode cX8_answers 73 = .ok (.if_icmp .ge 58, 3) := by decide +kernel
theorem dX8_answers_76 : decode cX8_answers 76 = .ok (.iload 4, 2) := by decide +kernel
theorem dX8_answers_78 : decode cX8_answers 78 = .ok (.iconst 3, 1) := by decide +kernel
theorem dX8_answers_79 : decode cX8_answers 79 = .ok (.iload 9, 2) := by decide +kernel
theorem dX8_answers_81 : decode cX8_answers 81 = .ok (.imul, 1) := by decide +kernel
theorem dX8_answers_82 : decode cX8_answers 82 = .ok (.iadd, 1) := by decide +kernel
theorem dX8_answers_83 : decode cX8_answers 83 = .ok (.istore 10, 2) := by decide +kernel
theorem dX8_answers_85 : decode cX8_answers 85 = .ok (.aload 7, 2) := by decide +kernel
theorem dX8_answers_87 : decode cX8_answers 87 = .ok (.iload 10, 2) := by decide +kernel
theorem dX8_answers_89 : decode cX8_answers 89 = .ok (.invokevirtual 119, 3) := by decide +kernel
theorem dX8_answers_92 : decode cX8_answers 92 = .ok (.aload 7, 2) := by decide +kernel
theorem dX8_answers_94 : decode cX8_answers 94 = .ok (.iload 10, 2) := by decide +kernel
theorem dX8_answers_96 : decode cX8_answers 96 = .ok (.iconst 1, 1) := by decide +kernel
theorem dX8_answers_97 : decode cX8_answers 97 = .ok (.iadd, 1) := by decide +kernel
theorem dX8_answers_98 : decode cX8_answers 98 = .ok (.invokevirtual 119, 3) := by decide +kernel
theorem dX8_answers_101 : decode cX8_answers 101 = .ok (.invokestatic 77, 3) := by decide +kernel
theorem dX8_answers_104 : decode cX8_answers 104 = .ok (.ifCond .eq 18, 3) := by decide +kernel
theorem dX8_answers_107 : decode cX8_answers 107 = .ok (.aload 7, 2) := by decide +kernel
theorem dX8_answers_109 : decode cX8_answers 109 = .ok (.iload 10, 2) := by decide +kernel
theorem dX8_answers_111 : decode cX8_answers 111 = .ok (.iconst 2, 1) := by decide +kernel
theorem dX8_answers_112 : decode cX8_answers 112 = .ok (.iadd, 1) := by decide +kernel
theorem dX8_answers_113 : decode cX8_answers 113 = .ok (.invokevirtual 119, 3) := by decide +kernel
theorem dX8_answers_116 : decode cX8_answers 116 = .ok (.invokestatic 99, 3) := by decide +kernel
theorem dX8_answers_119 : decode cX8_answers 119 = .ok (.ifCond .ne 6, 3) := by decide +kernel
theorem dX8_answers_122 : decode cX8_answers 122 = .ok (.bipush (-2), 2) := by decide +kernel
theorem dX8_answers_124 : decode cX8_answers 124 = .ok (.ireturn, 1) := by decide +kernel
theorem dX8_answers_125 : decode cX8_answers 125 = .ok (.iinc 9 1, 3) := by decide +kernel
theorem dX8_answers_128 : decode cX8_answers 128 = .ok (.goto (-59), 3) := by decide +kernel
theorem dX8_answers_131 : decode cX8_answers 131 = .ok (.aload 6, 2) := by decide +kernel
theorem dX8_answers_133 : decode cX8_answers 133 = .ok (.getfield 138, 3) := by decide +kernel
theorem dX8_answers_136 : decode cX8_answers 136 = .ok (.iload 5, 2) := by decide +kernel
theorem dX8_answers_138 : decode cX8_answers 138 = .ok (.iadd, 1) := by decide +kernel
theorem dX8_answers_139 : decode cX8_answers 139 = .ok (.bipush 40, 2) := by decide +kernel
theorem dX8_answers_141 : decode cX8_answers 141 = .ok (.if_icmp .le 6, 3) := by decide +kernel
theorem dX8_answers_144 : decode cX8_answers 144 = .ok (.bipush (-3), 2) := by decide +kernel
theorem dX8_answers_146 : decode cX8_answers 146 = .ok (.ireturn, 1) := by decide +kernel
theorem dX8_answers_147 : decode cX8_answers 147 = .ok (.iconst 0, 1) := by decide +kernel
theorem dX8_answers_148 : decode cX8_answers 148 = .ok (.istore 9, 2) := by decide +kernel
theorem dX8_answers_150 : decode cX8_answers 150 = .ok (.iload 9, 2) := by decide +kernel
theorem dX8_answers_152 : decode cX8_answers 152 = .ok (.iload 5, 2) := by decide +kernel
theorem dX8_answers_154 : decode cX8_answers 154 = .ok (.if_icmp .ge 53, 3) := by decide +kernel
theorem dX8_answers_157 : decode cX8_answers 157 = .ok (.iload 4, 2) := by decide +kernel
theorem dX8_answers_159 : decode cX8_answers 159 = .ok (.iconst 3, 1) := by decide +kernel
theorem dX8_answers_160 : decode cX8_answers 160 = .ok (.iload 9, 2) := by decide +kernel
theorem dX8_answers_162 : decode cX8_answers 162 = .ok (.imul, 1) := by decide +kernel
theorem dX8_answers_163 : decode cX8_answers 163 = .ok (.iadd, 1) := by decide +kernel
theorem dX8_answers_164 : decode cX8_answers 164 = .ok (.istore 10, 2) := by decide +kernel
theorem dX8_answers_166 : decode cX8_answers 166 = .ok (.aload 6, 2) := by decide +kernel
theorem dX8_answers_168 : decode cX8_answers 168 = .ok (.aload 7, 2) := by decide +kernel
theorem dX8_answers_170 : decode cX8_answers 170 = .ok (.iload 10, 2) := by decide +kernel
theorem dX8_answers_172 : decode cX8_answers 172 = .ok (.invokevirtual 119, 3) := by decide +kernel
theorem dX8_answers_175 : decode cX8_answers 175 = .ok (.aload 7, 2) := by decide +kernel
theorem dX8_answers_177 : decode cX8_answers 177 = .ok (.iload 10, 2) := by decide +kernel
theorem dX8_answers_179 : decode cX8_answers 179 = .ok (.iconst 1, 1) := by decide +kernel
theorem dX8_answers_180 : decode cX8_answers 180 = .ok (.iadd, 1) := by decide +kernel
theorem dX8_answers_181 : decode cX8_answers 181 = .ok (.invokevirtual 119, 3) := by decide +kernel
theorem dX8_answers_184 : decode cX8_answers 184 = .ok (.aload 7, 2) := by decide +kernel
theorem dX8_answers_186 : decode cX8_answers 186 = .ok (.iload 10, 2) := by decide +kernel
theorem dX8_answers_188 : decode cX8_answers 188 = .ok (.iconst 2, 1) := by decide +kernel
theorem dX8_answers_189 : decode cX8_answers 189 = .ok (.iadd, 1) := by decide +kernel
theorem dX8_answers_190 : decode cX8_answers 190 = .ok (.invokevirtual 119, 3) := by decide +kernel
theorem dX8_answers_193 : decode cX8_answers 193 = .ok (.aload_n 0, 1) := by decide +kernel
theorem dX8_answers_194 : decode cX8_answers 194 = .ok (.getfield 10, 3) := by decide +kernel
theorem dX8_answers_197 : decode cX8_answers 197 = .ok (.invokevirtual 134, 3) := by decide +kernel
theorem dX8_answers_200 : decode cX8_answers 200 = .ok (.pop, 1) := by decide +kernel
theorem dX8_answers_201 : decode cX8_answers 201 = .ok (.iinc 9 1, 3) := by decide +kernel
theorem dX8_answers_204 : decode cX8_answers 204 = .ok (.goto (-54), 3) := by decide +kernel
theorem dX8_answers_207 : decode cX8_answers 207 = .ok (.aload 6, 2) := by decide +kernel
theorem dX8_answers_209 : decode cX8_answers 209 = .ok (.getfield 138, 3) := by decide +kernel
theorem dX8_answers_212 : decode cX8_answers 212 = .ok (.ireturn, 1) := by decide +kernel
set_option maxRecDepth 20000 in
theorem ggX8_aside_X8_learnerAt : GoodIn wsX8_aside wsX8_learnerAt := goodIn_r _ [7, 8, 9, 10, 11, 6, 12, 67, 68, 69, 70, 71, 72, 73, 74, 75, 76, 77, 78, 79] (by decide +kernel) (by decide +kernel)
set_option maxRecDepth 20000 in
theorem gX8_aside_X8_learnerAt : GoodIn wsX8_aside (wsV RX8 130 RX8 yX8_learnerAt wsX8_learnerAt) := goodIn_app (goodIn_of _ (by decide +kernel)) ggX8_aside_X8_learnerAt
set_option maxRecDepth 20000 in
theorem ggX8_aside_X8_within : GoodIn wsX8_aside wsX8_within := goodIn_r _ [12] (by decide +kernel) (by decide +kernel)
set_option maxRecDepth 20000 in
theorem gX8_aside_X8_within : GoodIn wsX8_aside (va_wsS RX8 89 yX8_within wsX8_within) := goodIn_app (goodIn_of _ (by decide +kernel)) ggX8_aside_X8_within
set_option maxRecDepth 20000 in
theorem ggX8_aside_X1_put : GoodIn wsX8_aside wsX1_put := goodIn_r _ [17, 18, 19, 20, 21, 22, 16, 23, 24, 25, 26, 6, 27, 28, 29, 30, 31, 32, 33, 34, 35, 36, 37, 38, 39, 40, 41, 42, 43, 44, 45, 46, 47, 48, 49, 50, 51, 52, 53, 54, 55, 56, 57, 58, 59, 60, 61, 62, 63, 64, 65, 66, 80, 81, 82] (by decide +kernel) (by decide +kernel)
set_option maxRecDepth 20000 in
theorem gX8_aside_X1_put : GoodIn wsX8_aside (wsV RX8 141 RX1 yX1_put wsX1_put) := goodIn_app (goodIn_of _ (by decide +kernel)) ggX8_aside_X1_put
theorem dX8_aside_0 : decode cX8_aside 0 = .ok (.aload_n 0, 1) := by decide +kernel
theorem dX8_aside_1 : decode cX8_aside 1 = .ok (.iload_n 1, 1) := by decide +kernel
theorem dX8_aside_2 : decode cX8_aside 2 = .ok (.invokevirtual 130, 3) := by decide +kernel
theorem dX8_aside_5 : decode cX8_aside 5 = .ok (.astore 4, 2) := by decide +kernel
theorem dX8_aside_7 : decode cX8_aside 7 = .ok (.aload 4, 2) := by decide +kernel
theorem dX8_aside_9 : decode cX8_aside 9 = .ok (.ifnull 18, 3) := by decide +kernel
theorem dX8_aside_12 : decode cX8_aside 12 = .ok (.iload_n 2, 1) := by decide +kernel
theorem dX8_aside_13 : decode cX8_aside 13 = .ok (.iconst 0, 1) := by decide +kernel
theorem dX8_aside_14 : decode cX8_aside 14 = .ok (.aload 4, 2) := by decide +kernel
theorem dX8_aside_16 : decode cX8_aside 16 = .ok (.getfield 138, 3) := by decide +kernel
theorem dX8_aside_19 : decode cX8_aside 19 = .ok (.iconst 1, 1) := by decide +kernel
theorem dX8_aside_20 : decode cX8_aside 20 = .ok (.isub, 1) := by decide +kernel
theorem dX8_aside_21 : decode cX8_aside 21 = .ok (.invokestatic 89, 3) := by decide +kernel
theorem dX8_aside_24 : decode cX8_aside 24 = .ok (.ifCond .ne 5, 3) := by decide +kernel
theorem dX8_aside_27 : decode cX8_aside 27 = .ok (.iconst (-1), 1) := by decide +kernel
theorem dX8_aside_28 : decode cX8_aside 28 = .ok (.ireturn, 1) := by decide +kernel
theorem dX8_aside_29 : decode cX8_aside 29 = .ok (.aload 4, 2) := by decide +kernel
theorem dX8_aside_31 : decode cX8_aside 31 = .ok (.iload_n 2, 1) := by decide +kernel
theorem dX8_aside_32 : decode cX8_aside 32 = .ok (.iload_n 3, 1) := by decide +kernel
theorem dX8_aside_33 : decode cX8_aside 33 = .ok (.aload_n 0, 1) := by decide +kernel
theorem dX8_aside_34 : decode cX8_aside 34 = .ok (.getfield 10, 3) := by decide +kernel
theorem dX8_aside_37 : decode cX8_aside 37 = .ok (.invokevirtual 141, 3) := by decide +kernel
theorem dX8_aside_40 : decode cX8_aside 40 = .ok (.ifCond .eq 7, 3) := by decide +kernel
theorem dX8_aside_43 : decode cX8_aside 43 = .ok (.iconst 1, 1) := by decide +kernel
theorem dX8_aside_44 : decode cX8_aside 44 = .ok (.goto 4, 3) := by decide +kernel
theorem dX8_aside_47 : decode cX8_aside 47 = .ok (.iconst 0, 1) := by decide +kernel
theorem dX8_aside_48 : decode cX8_aside 48 = .ok (.ireturn, 1) := by decide +kernel
set_option maxRecDepth 20000 in
theorem ggX8_set_X8_within : GoodIn wsX8_set wsX8_within := goodIn_r _ [7] (by decide +kernel) (by decide +kernel)
set_option maxRecDepth 20000 in
theorem gX8_set_X8_within : GoodIn wsX8_set (va_wsS RX8 89 yX8_within wsX8_within) := goodIn_app (goodIn_of _ (by decide +kernel)) ggX8_set_X8_within
theorem dX8_set_0 : decode cX8_set 0 = .ok (.iload_n 1, 1) := by decide +kernel
theorem dX8_set_1 : decode cX8_set 1 = .ok (.iconst 0, 1) := by decide +kernel
theorem dX8_set_2 : decode cX8_set 2 = .ok (.aload_n 0, 1) := by decide +kernel
theorem dX8_set_3 : decode cX8_set 3 = .ok (.getfield 33, 3) := by decide +kernel
theorem dX8_set_6 : decode cX8_set 6 = .ok (.arraylength, 1) := by decide +kernel
theorem dX8_set_7 : decode cX8_set 7 = .ok (.iconst 1, 1) := by decide +kernel
theorem dX8_set_8 : decode cX8_set 8 = .ok (.isub, 1) := by decide +kernel
theorem dX8_set_9 : decode cX8_set 9 = .ok (.invokestatic 89, 3) := by decide +kernel
theorem dX8_set_12 : decode cX8_set 12 = .ok (.ifCond .eq 20, 3) := by decide +kernel
theorem dX8_set_15 : decode cX8_set 15 = .ok (.iload_n 2, 1) := by decide +kernel
theorem dX8_set_16 : decode cX8_set 16 = .ok (.getstatic 145, 3) := by decide +kernel
theorem dX8_set_19 : decode cX8_set 19 = .ok (.iload_n 1, 1) := by decide +kernel
theorem dX8_set_20 : decode cX8_set 20 = .ok (.iaload, 1) := by decide +kernel
theorem dX8_set_21 : decode cX8_set 21 = .ok (.getstatic 148, 3) := by decide +kernel
theorem dX8_set_24 : decode cX8_set 24 = .ok (.iload_n 1, 1) := by decide +kernel
theorem dX8_set_25 : decode cX8_set 25 = .ok (.iaload, 1) := by decide +kernel
theorem dX8_set_26 : decode cX8_set 26 = .ok (.invokestatic 89, 3) := by decide +kernel
theorem dX8_set_29 : decode cX8_set 29 = .ok (.ifCond .ne 5, 3) := by decide +kernel
theorem dX8_set_32 : decode cX8_set 32 = .ok (.iconst (-1), 1) := by decide +kernel
theorem dX8_set_33 : decode cX8_set 33 = .ok (.ireturn, 1) := by decide +kernel
theorem dX8_set_34 : decode cX8_set 34 = .ok (.aload_n 0, 1) := by decide +kernel
theorem dX8_set_35 : decode cX8_set 35 = .ok (.getfield 33, 3) := by decide +kernel
theorem dX8_set_38 : decode cX8_set 38 = .ok (.iload_n 1, 1) := by decide +kernel
theorem dX8_set_39 : decode cX8_set 39 = .ok (.iaload, 1) := by decide +kernel
theorem dX8_set_40 : decode cX8_set 40 = .ok (.istore_n 3, 1) := by decide +kernel
theorem dX8_set_41 : decode cX8_set 41 = .ok (.aload_n 0, 1) := by decide +kernel
theorem dX8_set_42 : decode cX8_set 42 = .ok (.getfield 33, 3) := by decide +kernel
theorem dX8_set_45 : decode cX8_set 45 = .ok (.iload_n 1, 1) := by decide +kernel
theorem dX8_set_46 : decode cX8_set 46 = .ok (.iload_n 2, 1) := by decide +kernel
theorem dX8_set_47 : decode cX8_set 47 = .ok (.iastore, 1) := by decide +kernel
theorem dX8_set_48 : decode cX8_set 48 = .ok (.iload_n 3, 1) := by decide +kernel
theorem dX8_set_49 : decode cX8_set 49 = .ok (.ireturn, 1) := by decide +kernel
set_option maxRecDepth 20000 in
theorem ggX8_points_X8_learnerAt : GoodIn wsX8_points wsX8_learnerAt := goodIn_r _ [7, 8, 9, 10, 11, 6, 12, 31, 32, 33, 34, 35, 36, 37, 38, 39, 40, 41, 42, 43] (by decide +kernel) (by decide +kernel)
set_option maxRecDepth 20000 in
theorem gX8_points_X8_learnerAt : GoodIn wsX8_points (wsV RX8 130 RX8 yX8_learnerAt wsX8_learnerAt) := goodIn_app (goodIn_of _ (by decide +kernel)) ggX8_points_X8_learnerAt
set_option maxRecDepth 20000 in
theorem ggX8_points_X8_placeInOrder : GoodIn wsX8_points wsX8_placeInOrder := goodIn_r _ [15, 16] (by decide +kernel) (by decide +kernel)
set_option maxRecDepth 20000 in
theorem gX8_points_X8_placeInOrder : GoodIn wsX8_points (va_wsS RX8 151 yX8_placeInOrder wsX8_placeInOrder) := goodIn_app (goodIn_of _ (by decide +kernel)) ggX8_points_X8_placeInOrder
set_option maxRecDepth 20000 in
theorem ggX8_points_X1_pointsAt : GoodIn wsX8_points wsX1_pointsAt := goodIn_r _ [21, 22, 23, 24, 25, 26, 27, 28, 29, 30, 44, 45, 46, 47, 48, 49, 50] (by decide +kernel) (by decide +kernel)
set_option maxRecDepth 20000 in
theorem gX8_points_X1_pointsAt : GoodIn wsX8_points (wsV RX8 155 RX1 yX1_pointsAt wsX1_pointsAt) := goodIn_app (goodIn_of _ (by decide +kernel)) ggX8_points_X1_pointsAt
theorem dX8_points_0 : decode cX8_points 0 = .ok (.aload_n 0, 1) := by decide +kernel
theorem dX8_points_1 : decode cX8_points 1 = .ok (.iload_n 1, 1) := by decide +kernel
theorem dX8_points_2 : decode cX8_points 2 = .ok (.invokevirtual 130, 3) := by decide +kernel
theorem dX8_points_5 : decode cX8_points 5 = .ok (.astore_n 3, 1) := by decide +kernel
theorem dX8_points_6 : decode cX8_points 6 = .ok (.iload_n 2, 1) := by decide +kernel
theorem dX8_points_7 : decode cX8_points 7 = .ok (.invokestatic 151, 3) := by decide +kernel
theorem dX8_points_10 : decode cX8_points 10 = .ok (.istore 4, 2) := by decide +kernel
theorem dX8_points_12 : decode cX8_points 12 = .ok (.aload_n 3, 1) := by decide +kernel
theorem dX8_points_13 : decode cX8_points 13 = .ok (.ifnull 8, 3) := by decide +kernel
theorem dX8_points_16 : decode cX8_points 16 = .ok (.iload 4, 2) := by decide +kernel
theorem dX8_points_18 : decode cX8_points 18 = .ok (.ifCond .ge 6, 3) := by decide +kernel
theorem dX8_points_21 : decode cX8_points 21 = .ok (.ldc 154, 2) := by decide +kernel
theorem dX8_points_23 : decode cX8_points 23 = .ok (.ireturn, 1) := by decide +kernel
theorem dX8_points_24 : decode cX8_points 24 = .ok (.aload_n 3, 1) := by decide +kernel
theorem dX8_points_25 : decode cX8_points 25 = .ok (.iload 4, 2) := by decide +kernel
theorem dX8_points_27 : decode cX8_points 27 = .ok (.aload_n 0, 1) := by decide +kernel
theorem dX8_points_28 : decode cX8_points 28 = .ok (.getfield 33, 3) := by decide +kernel
theorem dX8_points_31 : decode cX8_points 31 = .ok (.invokevirtual 155, 3) := by decide +kernel
theorem dX8_points_34 : decode cX8_points 34 = .ok (.ireturn, 1) := by decide +kernel
set_option maxRecDepth 20000 in
theorem ggX8_guess_X8_learnerAt : GoodIn wsX8_guess wsX8_learnerAt := goodIn_r _ [7, 8, 9, 10, 11, 6, 12, 39, 40, 41, 42, 43, 44, 45, 46, 47, 48, 49, 50, 51] (by decide +kernel) (by decide +kernel)
set_option maxRecDepth 20000 in
theorem gX8_guess_X8_learnerAt : GoodIn wsX8_guess (wsV RX8 130 RX8 yX8_learnerAt wsX8_learnerAt) := goodIn_app (goodIn_of _ (by decide +kernel)) ggX8_guess_X8_learnerAt
set_option maxRecDepth 20000 in
theorem ggX8_guess_X1_bestPlace : GoodIn wsX8_guess wsX1_bestPlace := goodIn_r _ [17, 18, 19, 20, 16, 21, 22, 23, 24, 25, 26, 27, 28, 29, 30, 52, 53, 54, 55, 56, 57, 58] (by decide +kernel) (by decide +kernel)
set_option maxRecDepth 20000 in
theorem gX8_guess_X1_bestPlace : GoodIn wsX8_guess (wsV RX8 159 RX1 yX1_bestPlace wsX1_bestPlace) := goodIn_app (goodIn_of _ (by decide +kernel)) ggX8_guess_X1_bestPlace
set_option maxRecDepth 20000 in
theorem ggX8_guess_X1_leadOf : GoodIn wsX8_guess wsX1_leadOf := goodIn_r _ [34, 35, 36, 37, 38, 18, 19, 20, 16, 21, 22, 23, 24, 25, 26, 27, 28, 29, 30, 52, 53, 54, 55, 56, 57, 58] (by decide +kernel) (by decide +kernel)
set_option maxRecDepth 20000 in
theorem gX8_guess_X1_leadOf : GoodIn wsX8_guess (wsV RX8 163 RX1 yX1_leadOf wsX1_leadOf) := goodIn_app (goodIn_of _ (by decide +kernel)) ggX8_guess_X1_leadOf
theorem dX8_guess_0 : decode cX8_guess 0 = .ok (.aload_n 0, 1) := by decide +kernel
theorem dX8_guess_1 : decode cX8_guess 1 = .ok (.iload_n 1, 1) := by decide +kernel
theorem dX8_guess_2 : decode cX8_guess 2 = .ok (.invokevirtual 130, 3) := by decide +kernel
theorem dX8_guess_5 : decode cX8_guess 5 = .ok (.astore_n 2, 1) := by decide +kernel
theorem dX8_guess_6 : decode cX8_guess 6 = .ok (.aload_n 2, 1) := by decide +kernel
theorem dX8_guess_7 : decode cX8_guess 7 = .ok (.ifnonnull 5, 3) := by decide +kernel
theorem dX8_guess_10 : decode cX8_guess 10 = .ok (.iconst (-1), 1) := by decide +kernel
theorem dX8_guess_11 : decode cX8_guess 11 = .ok (.ireturn, 1) := by decide +kernel
theorem dX8_guess_12 : decode cX8_guess 12 = .ok (.aload_n 2, 1) := by decide +kernel
theorem dX8_guess_13 : decode cX8_guess 13 = .ok (.aload_n 0, 1) := by decide +kernel
theorem dX8_guess_14 : decode cX8_guess 14 = .ok (.getfield 33, 3) := by decide +kernel
theorem dX8_guess_17 : decode cX8_guess 17 = .ok (.invokevirtual 159, 3) := by decide +kernel
theorem dX8_guess_20 : decode cX8_guess 20 = .ok (.istore_n 3, 1) := by decide +kernel
theorem dX8_guess_21 : decode cX8_guess 21 = .ok (.aload_n 2, 1) := by decide +kernel
theorem dX8_guess_22 : decode cX8_guess 22 = .ok (.iload_n 3, 1) := by decide +kernel
theorem dX8_guess_23 : decode cX8_guess 23 = .ok (.aload_n 0, 1) := by decide +kernel
theorem dX8_guess_24 : decode cX8_guess 24 = .ok (.getfield 33, 3) := by decide +kernel
theorem dX8_guess_27 : decode cX8_guess 27 = .ok (.invokevirtual 163, 3) := by decide +kernel
theorem dX8_guess_30 : decode cX8_guess 30 = .ok (.aload_n 0, 1) := by decide +kernel
theorem dX8_guess_31 : decode cX8_guess 31 = .ok (.getfield 33, 3) := by decide +kernel
theorem dX8_guess_34 : decode cX8_guess 34 = .ok (.iconst 3, 1) := by decide +kernel
theorem dX8_guess_35 : decode cX8_guess 35 = .ok (.iaload, 1) := by decide +kernel
theorem dX8_guess_36 : decode cX8_guess 36 = .ok (.if_icmp .lt 11, 3) := by decide +kernel
theorem dX8_guess_39 : decode cX8_guess 39 = .ok (.getstatic 102, 3) := by decide +kernel
theorem dX8_guess_42 : decode cX8_guess 42 = .ok (.iload_n 3, 1) := by decide +kernel
theorem dX8_guess_43 : decode cX8_guess 43 = .ok (.iaload, 1) := by decide +kernel
theorem dX8_guess_44 : decode cX8_guess 44 = .ok (.goto 5, 3) := by decide +kernel
theorem dX8_guess_47 : decode cX8_guess 47 = .ok (.bipush (-5), 2) := by decide +kernel
theorem dX8_guess_49 : decode cX8_guess 49 = .ok (.ireturn, 1) := by decide +kernel
set_option maxRecDepth 20000 in
theorem ggX8_lead_X8_learnerAt : GoodIn wsX8_lead wsX8_learnerAt := goodIn_r _ [6, 7, 8, 9, 10, 5, 11, 38, 39, 40, 41, 42, 43, 44, 45, 46, 47, 48, 49, 50] (by decide +kernel) (by decide +kernel)
set_option maxRecDepth 20000 in
theorem gX8_lead_X8_learnerAt : GoodIn wsX8_lead (wsV RX8 130 RX8 yX8_learnerAt wsX8_learnerAt) := goodIn_app (goodIn_of _ (by decide +kernel)) ggX8_lead_X8_learnerAt
set_option maxRecDepth 20000 in
theorem ggX8_lead_X1_bestPlace : GoodIn wsX8_lead wsX1_bestPlace := goodIn_r _ [16, 17, 18, 19, 15, 20, 21, 22, 23, 24, 25, 26, 27, 28, 29, 51, 52, 53, 54, 55, 56, 57] (by decide +kernel) (by decide +kernel)
set_option maxRecDepth 20000 in
theorem gX8_lead_X1_bestPlace : GoodIn wsX8_lead (wsV RX8 159 RX1 yX1_bestPlace wsX1_bestPlace) := goodIn_app (goodIn_of _ (by decide +kernel)) ggX8_lead_X1_bestPlace
set_option maxRecDepth 20000 in
theorem ggX8_lead_X1_leadOf : GoodIn wsX8_lead wsX1_leadOf := goodIn_r _ [33, 34, 35, 36, 37, 17, 18, 19, 15, 20, 21, 22, 23, 24, 25, 26, 27, 28, 29, 51, 52, 53, 54, 55, 56, 57] (by decide +kernel) (by decide +kernel)
set_option maxRecDepth 20000 in
theorem gX8_lead_X1_leadOf : GoodIn wsX8_lead (wsV RX8 163 RX1 yX1_leadOf wsX1_leadOf) := goodIn_app (goodIn_of _ (by decide +kernel)) ggX8_lead_X1_leadOf
theorem dX8_lead_0 : decode cX8_lead 0 = .ok (.aload_n 0, 1) := by decide +kernel
theorem dX8_lead_1 : decode cX8_lead 1 = .ok (.iload_n 1, 1) := by decide +kernel
theorem dX8_lead_2 : decode cX8_lead 2 = .ok (.invokevirtual 130, 3) := by decide +kernel
theorem dX8_lead_5 : decode cX8_lead 5 = .ok (.astore_n 2, 1) := by decide +kernel
theorem dX8_lead_6 : decode cX8_lead 6 = .ok (.aload_n 2, 1) := by decide +kernel
theorem dX8_lead_7 : decode cX8_lead 7 = .ok (.ifnonnull 5, 3) := by decide +kernel
theorem dX8_lead_10 : decode cX8_lead 10 = .ok (.iconst (-1), 1) := by decide +kernel
theorem dX8_lead_11 : decode cX8_lead 11 = .ok (.ireturn, 1) := by decide +kernel
theorem dX8_lead_12 : decode cX8_lead 12 = .ok (.aload_n 2, 1) := by decide +kernel
theorem dX8_lead_13 : decode cX8_lead 13 = .ok (.aload_n 2, 1) := by decide +kernel
theorem dX8_lead_14 : decode cX8_lead 14 = .ok (.aload_n 0, 1) := by decide +kernel
theorem dX8_lead_15 : decode cX8_lead 15 = .ok (.getfield 33, 3) := by decide +kernel
theorem dX8_lead_18 : decode cX8_lead 18 = .ok (.invokevirtual 159, 3) := by decide +kernel
theorem dX8_lead_21 : decode cX8_lead 21 = .ok (.aload_n 0, 1) := by decide +kernel
theorem dX8_lead_22 : decode cX8_lead 22 = .ok (.getfield 33, 3) := by decide +kernel
theorem dX8_lead_25 : decode cX8_lead 25 = .ok (.invokevirtual 163, 3) := by decide +kernel
theorem dX8_lead_28 : decode cX8_lead 28 = .ok (.ireturn, 1) := by decide +kernel
set_option maxRecDepth 20000 in
theorem ggX8_count_X8_learnerAt : GoodIn wsX8_count wsX8_learnerAt := goodIn_r _ [7, 8, 9, 10, 11, 6, 12, 33, 34, 35, 36, 37, 38, 39, 40, 41, 42, 43, 44, 45] (by decide +kernel) (by decide +kernel)
set_option maxRecDepth 20000 in
theorem gX8_count_X8_learnerAt : GoodIn wsX8_count (wsV RX8 130 RX8 yX8_learnerAt wsX8_learnerAt) := goodIn_app (goodIn_of _ (by decide +kernel)) ggX8_count_X8_learnerAt
set_option maxRecDepth 20000 in
theorem ggX8_count_X8_within : GoodIn wsX8_count wsX8_within := goodIn_r _ [12] (by decide +kernel) (by decide +kernel)
set_option maxRecDepth 20000 in
theorem gX8_count_X8_within : GoodIn wsX8_count (va_wsS RX8 89 yX8_within wsX8_within) := goodIn_app (goodIn_of _ (by decide +kernel)) ggX8_count_X8_within
set_option maxRecDepth 20000 in
theorem ggX8_count_X1_rightOnes : GoodIn wsX8_count wsX1_rightOnes := goodIn_r _ [17, 18, 26, 27, 28, 29, 30, 31, 32] (by decide +kernel) (by decide +kernel)
set_option maxRecDepth 20000 in
theorem gX8_count_X1_rightOnes : GoodIn wsX8_count (wsV RX8 169 RX1 yX1_rightOnes wsX1_rightOnes) := goodIn_app (goodIn_of _ (by decide +kernel)) ggX8_count_X1_rightOnes
set_option maxRecDepth 20000 in
theorem ggX8_count_X1_strangeOnes : GoodIn wsX8_count wsX1_strangeOnes := goodIn_r _ [22, 23, 24, 25, 26, 27, 28, 29, 30, 31, 32] (by decide +kernel) (by decide +kernel)
set_option maxRecDepth 20000 in
theorem gX8_count_X1_strangeOnes : GoodIn wsX8_count (wsV RX8 173 RX1 yX1_strangeOnes wsX1_strangeOnes) := goodIn_app (goodIn_of _ (by decide +kernel)) ggX8_count_X1_strangeOnes
theorem dX8_count_0 : decode cX8_count 0 = .ok (.aload_n 0, 1) := by decide +kernel
theorem dX8_count_1 : decode cX8_count 1 = .ok (.iload_n 1, 1) := by decide +kernel
theorem dX8_count_2 : decode cX8_count 2 = .ok (.invokevirtual 130, 3) := by decide +kernel
theorem dX8_count_5 : decode cX8_count 5 = .ok (.astore_n 3, 1) := by decide +kernel
theorem dX8_count_6 : decode cX8_count 6 = .ok (.aload_n 3, 1) := by decide +kernel
theorem dX8_count_7 : decode cX8_count 7 = .ok (.ifnull 12, 3) := by decide +kernel
theorem dX8_count_10 : decode cX8_count 10 = .ok (.iload_n 2, 1) := by decide +kernel
theorem dX8_count_11 : decode cX8_count 11 = .ok (.iconst 0, 1) := by decide +kernel
theorem dX8_count_12 : decode cX8_count 12 = .ok (.iconst 3, 1) := by decide +kernel
theorem dX8_count_13 : decode cX8_count 13 = .ok (.invokestatic 89, 3) := by decide +kernel
theorem dX8_count_16 : decode cX8_count 16 = .ok (.ifCond .ne 5, 3) := by decide +kernel
theorem dX8_count_19 : decode cX8_count 19 = .ok (.iconst (-1), 1) := by decide +kernel
theorem dX8_count_20 : decode cX8_count 20 = .ok (.ireturn, 1) := by decide +kernel
theorem dX8_count_21 : decode cX8_count 21 = .ok (.iload_n 2, 1) := by decide +kernel
theorem dX8_count_22 : decode cX8_count 22 = .ok (.tableswitch 46 0 2 #[26, 31, 41], 26) := by decide +kernel
theorem dX8_count_48 : decode cX8_count 48 = .ok (.aload_n 3, 1) := by decide +kernel
theorem dX8_count_49 : decode cX8_count 49 = .ok (.getfield 138, 3) := by decide +kernel
theorem dX8_count_52 : decode cX8_count 52 = .ok (.ireturn, 1) := by decide +kernel
theorem dX8_count_53 : decode cX8_count 53 = .ok (.aload_n 3, 1) := by decide +kernel
theorem dX8_count_54 : decode cX8_count 54 = .ok (.getfield 138, 3) := by decide +kernel
theorem dX8_count_57 : decode cX8_count 57 = .ok (.aload_n 3, 1) := by decide +kernel
theorem dX8_count_58 : decode cX8_count 58 = .ok (.getfield 166, 3) := by decide +kernel
theorem dX8_count_61 : decode cX8_count 61 = .ok (.isub, 1) := by decide +kernel
theorem dX8_count_62 : decode cX8_count 62 = .ok (.ireturn, 1) := by decide +kernel
theorem dX8_count_63 : decode cX8_count 63 = .ok (.aload_n 3, 1) := by decide +kernel
theorem dX8_count_64 : decode cX8_count 64 = .ok (.invokevirtual 169, 3) := by decide +kernel
theorem dX8_count_67 : decode cX8_count 67 = .ok (.ireturn, 1) := by decide +kernel
theorem dX8_count_68 : decode cX8_count 68 = .ok (.aload_n 3, 1) := by decide +kernel
theorem dX8_count_69 : decode cX8_count 69 = .ok (.invokevirtual 173, 3) := by decide +kernel
theorem dX8_count_72 : decode cX8_count 72 = .ok (.ireturn, 1) := by decide +kernel
set_option maxRecDepth 20000 in
theorem ggX8_strange_X8_within : GoodIn wsX8_strange wsX8_within := goodIn_r _ [8] (by decide +kernel) (by decide +kernel)
set_option maxRecDepth 20000 in
theorem gX8_strange_X8_within : GoodIn wsX8_strange (va_wsS RX8 89 yX8_within wsX8_within) := goodIn_app (goodIn_of _ (by decide +kernel)) ggX8_strange_X8_within
set_option maxRecDepth 20000 in
theorem ggX8_strange_X3_clear : GoodIn wsX8_strange wsX3_clear := goodIn_r _ [13, 14, 57, 58, 59] (by decide +kernel) (by decide +kernel)
set_option maxRecDepth 20000 in
theorem gX8_strange_X3_clear : GoodIn wsX8_strange (wsV RX8 176 RX3 yX3_clear wsX3_clear) := goodIn_app (goodIn_of _ (by decide +kernel)) ggX8_strange_X3_clear
set_option maxRecDepth 20000 in
theorem ggX8_strange_X1_tellStrange : GoodIn wsX8_strange wsX1_tellStrange := goodIn_r _ [19, 20, 21, 22, 23, 24, 25, 26, 12, 27, 14, 28, 60, 61, 62, 63, 64, 65, 66, 57, 58, 59] (by decide +kernel) (by decide +kernel)
set_option maxRecDepth 20000 in
theorem gX8_strange_X1_tellStrange : GoodIn wsX8_strange (wsV RX8 179 RX1 yX1_tellStrange wsX1_tellStrange) := goodIn_app (goodIn_of _ (by decide +kernel)) ggX8_strange_X1_tellStrange
set_option maxRecDepth 20000 in
theorem ggX8_strange_X3_mostGiven : GoodIn wsX8_strange wsX3_mostGiven := goodIn_r _ [32, 14, 28, 33, 57, 58, 59] (by decide +kernel) (by decide +kernel)
set_option maxRecDepth 20000 in
theorem gX8_strange_X3_mostGiven : GoodIn wsX8_strange (wsV RX8 183 RX3 yX3_mostGiven wsX3_mostGiven) := goodIn_app (goodIn_of _ (by decide +kernel)) ggX8_strange_X3_mostGiven
set_option maxRecDepth 20000 in
theorem ggX8_strange_X8_muchOf : GoodIn wsX8_strange wsX8_muchOf := goodIn_r _ [36, 37] (by decide +kernel) (by decide +kernel)
set_option maxRecDepth 20000 in
theorem gX8_strange_X8_muchOf : GoodIn wsX8_strange (va_wsS RX8 189 yX8_muchOf wsX8_muchOf) := goodIn_app (goodIn_of _ (by decide +kernel)) ggX8_strange_X8_muchOf
set_option maxRecDepth 20000 in
theorem ggX8_strange_X8_lessOf : GoodIn wsX8_strange wsX8_lessOf := goodIn_r _ [40] (by decide +kernel) (by decide +kernel)
set_option maxRecDepth 20000 in
theorem gX8_strange_X8_lessOf : GoodIn wsX8_strange (va_wsS RX8 192 yX8_lessOf wsX8_lessOf) := goodIn_app (goodIn_of _ (by decide +kernel)) ggX8_strange_X8_lessOf
set_option maxRecDepth 20000 in
theorem ggX8_strange_X8_answerOf : GoodIn wsX8_strange wsX8_answerOf := goodIn_r _ [43] (by decide +kernel) (by decide +kernel)
set_option maxRecDepth 20000 in
theorem gX8_strange_X8_answerOf : GoodIn wsX8_strange (va_wsS RX8 195 yX8_answerOf wsX8_answerOf) := goodIn_app (goodIn_of _ (by decide +kernel)) ggX8_strange_X8_answerOf
theorem dX8_strange_0 : decode cX8_strange 0 = .ok (.iload_n 1, 1) := by decide +kernel
theorem dX8_strange_1 : decode cX8_strange 1 = .ok (.iconst 0, 1) := by decide +kernel
theorem dX8_strange_2 : decode cX8_strange 2 = .ok (.iconst 3, 1) := by decide +kernel
theorem dX8_strange_3 : decode cX8_strange 3 = .ok (.invokestatic 89, 3) := by decide +kernel
theorem dX8_strange_6 : decode cX8_strange 6 = .ok (.ifCond .ne 5, 3) := by decide +kernel
theorem dX8_strange_9 : decode cX8_strange 9 = .ok (.iconst (-1), 1) := by decide +kernel
theorem dX8_strange_10 : decode cX8_strange 10 = .ok (.ireturn, 1) := by decide +kernel
theorem dX8_strange_11 : decode cX8_strange 11 = .ok (.aload_n 0, 1) := by decide +kernel
theorem dX8_strange_12 : decode cX8_strange 12 = .ok (.getfield 39, 3) := by decide +kernel
theorem dX8_strange_15 : decode cX8_strange 15 = .ok (.invokevirtual 176, 3) := by decide +kernel
theorem dX8_strange_18 : decode cX8_strange 18 = .ok (.iconst 0, 1) := by decide +kernel
theorem dX8_strange_19 : decode cX8_strange 19 = .ok (.istore_n 2, 1) := by decide +kernel
theorem dX8_strange_20 : decode cX8_strange 20 = .ok (.iload_n 2, 1) := by decide +kernel
theorem dX8_strange_21 : decode cX8_strange 21 = .ok (.aload_n 0, 1) := by decide +kernel
theorem dX8_strange_22 : decode cX8_strange 22 = .ok (.getfield 29, 3) := by decide +kernel
theorem dX8_strange_25 : decode cX8_strange 25 = .ok (.if_icmp .ge 28, 3) := by decide +kernel
theorem dX8_strange_28 : decode cX8_strange 28 = .ok (.aload_n 0, 1) := by decide +kernel
theorem dX8_strange_29 : decode cX8_strange 29 = .ok (.getfield 25, 3) := by decide +kernel
theorem dX8_strange_32 : decode cX8_strange 32 = .ok (.iload_n 2, 1) := by decide +kernel
theorem dX8_strange_33 : decode cX8_strange 33 = .ok (.aaload, 1) := by decide +kernel
theorem dX8_strange_34 : decode cX8_strange 34 = .ok (.astore_n 3, 1) := by decide +kernel
theorem dX8_strange_35 : decode cX8_strange 35 = .ok (.aload_n 3, 1) := by decide +kernel
theorem dX8_strange_36 : decode cX8_strange 36 = .ok (.ifnull 11, 3) := by decide +kernel
theorem dX8_strange_39 : decode cX8_strange 39 = .ok (.aload_n 3, 1) := by decide +kernel
theorem dX8_strange_40 : decode cX8_strange 40 = .ok (.aload_n 0, 1) := by decide +kernel
theorem dX8_strange_41 : decode cX8_strange 41 = .ok (.getfield 39, 3) := by decide +kernel
theorem dX8_strange_44 : decode cX8_strange 44 = .ok (.invokevirtual 179, 3) := by decide +kernel
theorem dX8_strange_47 : decode cX8_strange 47 = .ok (.iinc 2 1, 3) := by decide +kernel
theorem dX8_strange_50 : decode cX8_strange 50 = .ok (.goto (-30), 3) := by decide +kernel
theorem dX8_strange_53 : decode cX8_strange 53 = .ok (.aload_n 0, 1) := by decide +kernel
theorem dX8_strange_54 : decode cX8_strange 54 = .ok (.getfield 39, 3) := by decide +kernel
theorem dX8_strange_57 : decode cX8_strange 57 = .ok (.invokevirtual 183, 3) := by decide +kernel
theorem dX8_strange_60 : decode cX8_strange 60 = .ok (.istore_n 2, 1) := by decide +kernel
theorem dX8_strange_61 : decode cX8_strange 61 = .ok (.iload_n 2, 1) := by decide +kernel
theorem dX8_strange_62 : decode cX8_strange 62 = .ok (.ifCond .ne 6, 3) := by decide +kernel
theorem dX8_strange_65 : decode cX8_strange 65 = .ok (.bipush (-4), 2) := by decide +kernel
theorem dX8_strange_67 : decode cX8_strange 67 = .ok (.ireturn, 1) := by decide +kernel
theorem dX8_strange_68 : decode cX8_strange 68 = .ok (.iload_n 1, 1) := by decide +kernel
theorem dX8_strange_69 : decode cX8_strange 69 = .ok (.tableswitch 51 0 2 #[27, 29, 40], 27) := by decide +kernel
theorem dX8_strange_96 : decode cX8_strange 96 = .ok (.iload_n 2, 1) := by decide +kernel
theorem dX8_strange_97 : decode cX8_strange 97 = .ok (.ireturn, 1) := by decide +kernel
theorem dX8_strange_98 : decode cX8_strange 98 = .ok (.aload_n 0, 1) := by decide +kernel
theorem dX8_strange_99 : decode cX8_strange 99 = .ok (.getfield 39, 3) := by decide +kernel
theorem dX8_strange_102 : decode cX8_strange 102 = .ok (.getfield 186, 3) := by decide +kernel
theorem dX8_strange_105 : decode cX8_strange 105 = .ok (.invokestatic 189, 3) := by decide +kernel
theorem dX8_strange_108 : decode cX8_strange 108 = .ok (.ireturn, 1) := by decide +kernel
theorem dX8_strange_109 : decode cX8_strange 109 = .ok (.aload_n 0, 1) := by decide +kernel
theorem dX8_strange_110 : decode cX8_strange 110 = .ok (.getfield 39, 3) := by decide +kernel
theorem dX8_strange_113 : decode cX8_strange 113 = .ok (.getfield 186, 3) := by decide +kernel
theorem dX8_strange_116 : decode cX8_strange 116 = .ok (.invokestatic 192, 3) := by decide +kernel
theorem dX8_strange_119 : decode cX8_strange 119 = .ok (.ireturn, 1) := by decide +kernel
theorem dX8_strange_120 : decode cX8_strange 120 = .ok (.aload_n 0, 1) := by decide +kernel
theorem dX8_strange_121 : decode cX8_strange 121 = .ok (.getfield 39, 3) := by decide +kernel
theorem dX8_strange_124 : decode cX8_strange 124 = .ok (.getfield 186, 3) := by decide +kernel
theorem dX8_strange_127 : decode cX8_strange 127 = .ok (.invokestatic 195, 3) := by decide +kernel
theorem dX8_strange_130 : decode cX8_strange 130 = .ok (.ireturn, 1) := by decide +kernel
set_option maxRecDepth 20000 in
theorem ggX8_hint_X8_isTask : GoodIn wsX8_hint wsX8_isTask := goodIn_r _ [6, 7, 8, 5, 9, 10, 11, 12] (by decide +kernel) (by decide +kernel)
set_option maxRecDepth 20000 in
theorem gX8_hint_X8_isTask : GoodIn wsX8_hint (va_wsS RX8 77 yX8_isTask wsX8_isTask) := goodIn_app (goodIn_of _ (by decide +kernel)) ggX8_hint_X8_isTask
set_option maxRecDepth 20000 in
theorem ggX8_hint_X8_within : GoodIn wsX8_hint wsX8_within := goodIn_r _ [12] (by decide +kernel) (by decide +kernel)
set_option maxRecDepth 20000 in
theorem gX8_hint_X8_within : GoodIn wsX8_hint (va_wsS RX8 89 yX8_within wsX8_within) := goodIn_app (goodIn_of _ (by decide +kernel)) ggX8_hint_X8_within
set_option maxRecDepth 20000 in
theorem ggX8_hint_X8_taskNumber : GoodIn wsX8_hint wsX8_taskNumber := goodIn_r _ [15] (by decide +kernel) (by decide +kernel)
set_option maxRecDepth 20000 in
theorem gX8_hint_X8_taskNumber : GoodIn wsX8_hint (va_wsS RX8 105 yX8_taskNumber wsX8_taskNumber) := goodIn_app (goodIn_of _ (by decide +kernel)) ggX8_hint_X8_taskNumber
set_option maxRecDepth 20000 in
theorem ggX8_hint_X8_digitOf : GoodIn wsX8_hint wsX8_digitOf := goodIn_r _ [18] (by decide +kernel) (by decide +kernel)
set_option maxRecDepth 20000 in
theorem gX8_hint_X8_digitOf : GoodIn wsX8_hint (va_wsS RX8 201 yX8_digitOf wsX8_digitOf) := goodIn_app (goodIn_of _ (by decide +kernel)) ggX8_hint_X8_digitOf
theorem dX8_hint_0 : decode cX8_hint 0 = .ok (.iload_n 1, 1) := by decide +kernel
theorem dX8_hint_1 : decode cX8_hint 1 = .ok (.iload_n 2, 1) := by decide +kernel
theorem dX8_hint_2 : decode cX8_hint 2 = .ok (.invokestatic 77, 3) := by decide +kernel
theorem dX8_hint_5 : decode cX8_hint 5 = .ok (.ifCond .eq 29, 3) := by decide +kernel
theorem dX8_hint_8 : decode cX8_hint 8 = .ok (.iload 4, 2) := by decide +kernel
theorem dX8_hint_10 : decode cX8_hint 10 = .ok (.iconst 0, 1) := by decide +kernel
theorem dX8_hint_11 : decode cX8_hint 11 = .ok (.iconst 2, 1) := by decide +kernel
theorem dX8_hint_12 : decode cX8_hint 12 = .ok (.invokestatic 89, 3) := by decide +kernel
theorem dX8_hint_15 : decode cX8_hint 15 = .ok (.ifCond .eq 19, 3) := by decide +kernel
theorem dX8_hint_18 : decode cX8_hint 18 = .ok (.iload_n 3, 1) := by decide +kernel
theorem dX8_hint_19 : decode cX8_hint 19 = .ok (.iconst 0, 1) := by decide +kernel
theorem dX8_hint_20 : decode cX8_hint 20 = .ok (.getstatic 198, 3) := by decide +kernel
theorem dX8_hint_23 : decode cX8_hint 23 = .ok (.iload 4, 2) := by decide +kernel
theorem dX8_hint_25 : decode cX8_hint 25 = .ok (.iaload, 1) := by decide +kernel
theorem dX8_hint_26 : decode cX8_hint 26 = .ok (.iconst 1, 1) := by decide +kernel
theorem dX8_hint_27 : decode cX8_hint 27 = .ok (.isub, 1) := by decide +kernel
theorem dX8_hint_28 : decode cX8_hint 28 = .ok (.invokestatic 89, 3) := by decide +kernel
theorem dX8_hint_31 : decode cX8_hint 31 = .ok (.ifCond .ne 5, 3) := by decide +kernel
theorem dX8_hint_34 : decode cX8_hint 34 = .ok (.iconst (-1), 1) := by decide +kernel
theorem dX8_hint_35 : decode cX8_hint 35 = .ok (.ireturn, 1) := by decide +kernel
theorem dX8_hint_36 : decode cX8_hint 36 = .ok (.iload_n 1, 1) := by decide +kernel
theorem dX8_hint_37 : decode cX8_hint 37 = .ok (.iload_n 2, 1) := by decide +kernel
theorem dX8_hint_38 : decode cX8_hint 38 = .ok (.invokestatic 105, 3) := by decide +kernel
theorem dX8_hint_41 : decode cX8_hint 41 = .ok (.istore 5, 2) := by decide +kernel
theorem dX8_hint_43 : decode cX8_hint 43 = .ok (.aload_n 0, 1) := by decide +kernel
theorem dX8_hint_44 : decode cX8_hint 44 = .ok (.getfield 43, 3) := by decide +kernel
theorem dX8_hint_47 : decode cX8_hint 47 = .ok (.iload 5, 2) := by decide +kernel
theorem dX8_hint_49 : decode cX8_hint 49 = .ok (.if_icmp .ne 7, 3) := by decide +kernel
theorem dX8_hint_52 : decode cX8_hint 52 = .ok (.iconst 1, 1) := by decide +kernel
theorem dX8_hint_53 : decode cX8_hint 53 = .ok (.goto 4, 3) := by decide +kernel
theorem dX8_hint_56 : decode cX8_hint 56 = .ok (.iconst 0, 1) := by decide +kernel
theorem dX8_hint_57 : decode cX8_hint 57 = .ok (.istore 6, 2) := by decide +kernel
theorem dX8_hint_59 : decode cX8_hint 59 = .ok (.aload_n 0, 1) := by decide +kernel
theorem dX8_hint_60 : decode cX8_hint 60 = .ok (.iload 5, 2) := by decide +kernel
theorem dX8_hint_62 : decode cX8_hint 62 = .ok (.putfield 43, 3) := by decide +kernel
theorem dX8_hint_65 : decode cX8_hint 65 = .ok (.iload_n 1, 1) := by decide +kernel
theorem dX8_hint_66 : decode cX8_hint 66 = .ok (.iload_n 2, 1) := by decide +kernel
theorem dX8_hint_67 : decode cX8_hint 67 = .ok (.isub, 1) := by decide +kernel
theorem dX8_hint_68 : decode cX8_hint 68 = .ok (.istore 7, 2) := by decide +kernel
theorem dX8_hint_70 : decode cX8_hint 70 = .ok (.iconst 0, 1) := by decide +kernel
theorem dX8_hint_71 : decode cX8_hint 71 = .ok (.istore 8, 2) := by decide +kernel
theorem dX8_hint_73 : decode cX8_hint 73 = .ok (.iload 8, 2) := by decide +kernel
theorem dX8_hint_75 : decode cX8_hint 75 = .ok (.iload 4, 2) := by decide +kernel
theorem dX8_hint_77 : decode cX8_hint 77 = .ok (.if_icmp .ge 28, 3) := by decide +kernel
theorem dX8_hint_80 : decode cX8_hint 80 = .ok (.iload_n 3, 1) := by decide +kernel
theorem dX8_hint_81 : decode cX8_hint 81 = .ok (.iload 8, 2) := by decide +kernel
theorem dX8_hint_83 : decode cX8_hint 83 = .ok (.invokestatic 201, 3) := by decide +kernel
theorem dX8_hint_86 : decode cX8_hint 86 = .ok (.iload 7, 2) := by decide +kernel
theorem dX8_hint_88 : decode cX8_hint 88 = .ok (.iload 8, 2) := by decide +kernel
theorem dX8_hint_90 : decode cX8_hint 90 = .ok (.invokestatic 201, 3) := by decide +kernel
theorem dX8_hint_93 : decode cX8_hint 93 = .ok (.if_icmp .eq 6, 3) := by decide +kernel
theorem dX8_hint_96 : decode cX8_hint 96 = .ok (.bipush (-2), 2) := by decide +kernel
theorem dX8_hint_98 : decode cX8_hint 98 = .ok (.ireturn, 1) := by decide +kernel
theorem dX8_hint_99 : decode cX8_hint 99 = .ok (.iinc 8 1, 3) := by decide +kernel
theorem dX8_hint_102 : decode cX8_hint 102 = .ok (.goto (-29), 3) := by decide +kernel
theorem dX8_hint_105 : decode cX8_hint 105 = .ok (.iload 6, 2) := by decide +kernel
theorem dX8_hint_107 : decode cX8_hint 107 = .ok (.ifCond .eq 13, 3) := by decide +kernel
theorem dX8_hint_110 : decode cX8_hint 110 = .ok (.iload 7, 2) := by decide +kernel
theorem dX8_hint_112 : decode cX8_hint 112 = .ok (.iload 4, 2) := by decide +kernel
theorem dX8_hint_114 : decode cX8_hint 114 = .ok (.invokestatic 201, 3) := by decide +kernel
theorem dX8_hint_117 : decode cX8_hint 117 = .ok (.goto 5, 3) := by decide +kernel
theorem dX8_hint_120 : decode cX8_hint 120 = .ok (.bipush (-5), 2) := by decide +kernel
theorem dX8_hint_122 : decode cX8_hint 122 = .ok (.ireturn, 1) := by decide +kernel
set_option maxRecDepth 20000 in
theorem ggX8_type_X8_within : GoodIn wsX8_type wsX8_within := goodIn_r _ [6] (by decide +kernel) (by decide +kernel)
set_option maxRecDepth 20000 in
theorem gX8_type_X8_within : GoodIn wsX8_type (va_wsS RX8 89 yX8_within wsX8_within) := goodIn_app (goodIn_of _ (by decide +kernel)) ggX8_type_X8_within
set_option maxRecDepth 20000 in
theorem ggX8_type_X8_byteOf : GoodIn wsX8_type wsX8_byteOf := goodIn_r _ [9] (by decide +kernel) (by decide +kernel)
set_option maxRecDepth 20000 in
theorem gX8_type_X8_byteOf : GoodIn wsX8_type (va_wsS RX8 204 yX8_byteOf wsX8_byteOf) := goodIn_app (goodIn_of _ (by decide +kernel)) ggX8_type_X8_byteOf
set_option maxRecDepth 20000 in
theorem ggX8_type_X6_append : GoodIn wsX8_type wsX6_append := goodIn_r _ [14, 15, 16, 30, 31, 32] (by decide +kernel) (by decide +kernel)
set_option maxRecDepth 20000 in
theorem gX8_type_X6_append : GoodIn wsX8_type (wsV RX8 211 RX6 yX6_append wsX6_append) := goodIn_app (goodIn_of _ (by decide +kernel)) ggX8_type_X6_append
theorem dX8_type_0 : decode cX8_type 0 = .ok (.iload_n 3, 1) := by decide +kernel
theorem dX8_type_1 : decode cX8_type 1 = .ok (.iconst 1, 1) := by decide +kernel
theorem dX8_type_2 : decode cX8_type 2 = .ok (.bipush 8, 2) := by decide +kernel
theorem dX8_type_4 : decode cX8_type 4 = .ok (.invokestatic 89, 3) := by decide +kernel
theorem dX8_type_7 : decode cX8_type 7 = .ok (.ifCond .ne 5, 3) := by decide +kernel
theorem dX8_type_10 : decode cX8_type 10 = .ok (.iconst (-1), 1) := by decide +kernel
theorem dX8_type_11 : decode cX8_type 11 = .ok (.ireturn, 1) := by decide +kernel
theorem dX8_type_12 : decode cX8_type 12 = .ok (.iconst 0, 1) := by decide +kernel
theorem dX8_type_13 : decode cX8_type 13 = .ok (.istore 4, 2) := by decide +kernel
theorem dX8_type_15 : decode cX8_type 15 = .ok (.iload 4, 2) := by decide +kernel
theorem dX8_type_17 : decode cX8_type 17 = .ok (.iload_n 3, 1) := by decide +kernel
theorem dX8_type_18 : decode cX8_type 18 = .ok (.if_icmp .ge 27, 3) := by decide +kernel
theorem dX8_type_21 : decode cX8_type 21 = .ok (.lload_n 1, 1) := by decide +kernel
theorem dX8_type_22 : decode cX8_type 22 = .ok (.iload 4, 2) := by decide +kernel
theorem dX8_type_24 : decode cX8_type 24 = .ok (.invokestatic 204, 3) := by decide +kernel
theorem dX8_type_27 : decode cX8_type 27 = .ok (.bipush 32, 2) := by decide +kernel
theorem dX8_type_29 : decode cX8_type 29 = .ok (.bipush 126, 2) := by decide +kernel
theorem dX8_type_31 : decode cX8_type 31 = .ok (.invokestatic 89, 3) := by decide +kernel
theorem dX8_type_34 : decode cX8_type 34 = .ok (.ifCond .ne 5, 3) := by decide +kernel
theorem dX8_type_37 : decode cX8_type 37 = .ok (.iconst (-1), 1) := by decide +kernel
theorem dX8_type_38 : decode cX8_type 38 = .ok (.ireturn, 1) := by decide +kernel
theorem dX8_type_39 : decode cX8_type 39 = .ok (.iinc 4 1, 3) := by decide +kernel
theorem dX8_type_42 : decode cX8_type 42 = .ok (.goto (-27), 3) := by decide +kernel
theorem dX8_type_45 : decode cX8_type 45 = .ok (.aload_n 0, 1) := by decide +kernel
theorem dX8_type_46 : decode cX8_type 46 = .ok (.getfield 49, 3) := by decide +kernel
theorem dX8_type_49 : decode cX8_type 49 = .ok (.getfield 208, 3) := by decide +kernel
theorem dX8_type_52 : decode cX8_type 52 = .ok (.iload_n 3, 1) := by decide +kernel
theorem dX8_type_53 : decode cX8_type 53 = .ok (.iadd, 1) := by decide +kernel
theorem dX8_type_54 : decode cX8_type 54 = .ok (.bipush 100, 2) := by decide +kernel
theorem dX8_type_56 : decode cX8_type 56 = .ok (.if_icmp .le 6, 3) := by decide +kernel
theorem dX8_type_59 : decode cX8_type 59 = .ok (.bipush (-3), 2) := by decide +kernel
theorem dX8_type_61 : decode cX8_type 61 = .ok (.ireturn, 1) := by decide +kernel
theorem dX8_type_62 : decode cX8_type 62 = .ok (.iload_n 3, 1) := by decide +kernel
theorem dX8_type_63 : decode cX8_type 63 = .ok (.iconst 1, 1) := by decide +kernel
theorem dX8_type_64 : decode cX8_type 64 = .ok (.isub, 1) := by decide +kernel
theorem dX8_type_65 : decode cX8_type 65 = .ok (.istore 4, 2) := by decide +kernel
theorem dX8_type_67 : decode cX8_type 67 = .ok (.iload 4, 2) := by decide +kernel
theorem dX8_type_69 : decode cX8_type 69 = .ok (.ifCond .lt 22, 3) := by decide +kernel
theorem dX8_type_72 : decode cX8_type 72 = .ok (.aload_n 0, 1) := by decide +kernel
theorem dX8_type_73 : decode cX8_type 73 = .ok (.getfield 49, 3) := by decide +kernel
theorem dX8_type_76 : decode cX8_type 76 = .ok (.lload_n 1, 1) := by decide +kernel
theorem dX8_type_77 : decode cX8_type 77 = .ok (.iload 4, 2) := by decide +kernel
theorem dX8_type_79 : decode cX8_type 79 = .ok (.invokestatic 204, 3) := by decide +kernel
theorem dX8_type_82 : decode cX8_type 82 = .ok (.invokevirtual 211, 3) := by decide +kernel
theorem dX8_type_85 : decode cX8_type 85 = .ok (.iinc 4 (-1), 3) := by decide +kernel
theorem dX8_type_88 : decode cX8_type 88 = .ok (.goto (-21), 3) := by decide +kernel
theorem dX8_type_91 : decode cX8_type 91 = .ok (.aload_n 0, 1) := by decide +kernel
theorem dX8_type_92 : decode cX8_type 92 = .ok (.getfield 49, 3) := by decide +kernel
theorem dX8_type_95 : decode cX8_type 95 = .ok (.getfield 208, 3) := by decide +kernel
theorem dX8_type_98 : decode cX8_type 98 = .ok (.ireturn, 1) := by decide +kernel
set_option maxRecDepth 20000 in
theorem ggX8_skills_X6_readInto : GoodIn wsX8_skills wsX6_readInto := goodIn_r _ [12, 13, 14, 15, 16, 17, 18, 19, 20, 21, 22, 23, 24, 11, 25, 26, 27, 28, 29, 30, 31, 32, 33, 34, 35, 36, 37, 38, 39, 40, 41, 42, 43, 44, 45, 46, 47, 48, 49, 50, 51, 52, 53, 54, 55, 56, 57, 58, 59, 60, 61, 82, 83, 84, 92, 93, 94] (by decide +kernel) (by decide +kernel)
set_option maxRecDepth 20000 in
theorem gX8_skills_X6_readInto : GoodIn wsX8_skills (wsV RX8 215 RX6 yX6_readInto wsX6_readInto) := goodIn_app (goodIn_of _ (by decide +kernel)) ggX8_skills_X6_readInto
set_option maxRecDepth 20000 in
theorem ggX8_skills_X2_forget : GoodIn wsX8_skills wsX2_forget := goodIn_r _ [65, 66, 67, 68, 95, 96, 97] (by decide +kernel) (by decide +kernel)
set_option maxRecDepth 20000 in
theorem gX8_skills_X2_forget_n223 : GoodIn wsX8_skills (wsX2_forget) := ggX8_skills_X2_forget
theorem dX8_skills_0 : decode cX8_skills 0 = .ok (.aload_n 0, 1) := by decide +kernel
theorem dX8_skills_1 : decode cX8_skills 1 = .ok (.getfield 49, 3) := by decide +kernel
theorem dX8_skills_4 : decode cX8_skills 4 = .ok (.aload_n 0, 1) := by decide +kernel
theorem dX8_skills_5 : decode cX8_skills 5 = .ok (.getfield 60, 3) := by decide +kernel
theorem dX8_skills_8 : decode cX8_skills 8 = .ok (.invokevirtual 215, 3) := by decide +kernel
theorem dX8_skills_11 : decode cX8_skills 11 = .ok (.istore_n 1, 1) := by decide +kernel
theorem dX8_skills_12 : decode cX8_skills 12 = .ok (.aload_n 0, 1) := by decide +kernel
theorem dX8_skills_13 : decode cX8_skills 13 = .ok (.getfield 49, 3) := by decide +kernel
theorem dX8_skills_16 : decode cX8_skills 16 = .ok (.iconst 0, 1) := by decide +kernel
theorem dX8_skills_17 : decode cX8_skills 17 = .ok (.putfield 208, 3) := by decide +kernel
theorem dX8_skills_20 : decode cX8_skills 20 = .ok (.iload_n 1, 1) := by decide +kernel
theorem dX8_skills_21 : decode cX8_skills 21 = .ok (.ifCond .ge 5, 3) := by decide +kernel
theorem dX8_skills_24 : decode cX8_skills 24 = .ok (.iload_n 1, 1) := by decide +kernel
theorem dX8_skills_25 : decode cX8_skills 25 = .ok (.ireturn, 1) := by decide +kernel
theorem dX8_skills_26 : decode cX8_skills 26 = .ok (.aload_n 0, 1) := by decide +kernel
theorem dX8_skills_27 : decode cX8_skills 27 = .ok (.getfield 56, 3) := by decide +kernel
theorem dX8_skills_30 : decode cX8_skills 30 = .ok (.astore_n 2, 1) := by decide +kernel
theorem dX8_skills_31 : decode cX8_skills 31 = .ok (.aload_n 0, 1) := by decide +kernel
theorem dX8_skills_32 : decode cX8_skills 32 = .ok (.aload_n 0, 1) := by decide +kernel
theorem dX8_skills_33 : decode cX8_skills 33 = .ok (.getfield 60, 3) := by decide +kernel
theorem dX8_skills_36 : decode cX8_skills 36 = .ok (.putfield 56, 3) := by decide +kernel
theorem dX8_skills_39 : decode cX8_skills 39 = .ok (.aload_n 0, 1) := by decide +kernel
theorem dX8_skills_40 : decode cX8_skills 40 = .ok (.aload_n 2, 1) := by decide +kernel
theorem dX8_skills_41 : decode cX8_skills 41 = .ok (.putfield 60, 3) := by decide +kernel
theorem dX8_skills_44 : decode cX8_skills 44 = .ok (.iconst 0, 1) := by decide +kernel
theorem dX8_skills_45 : decode cX8_skills 45 = .ok (.istore_n 3, 1) := by decide +kernel
theorem dX8_skills_46 : decode cX8_skills 46 = .ok (.iload_n 3, 1) := by decide +kernel
theorem dX8_skills_47 : decode cX8_skills 47 = .ok (.aload_n 0, 1) := by decide +kernel
theorem dX8_skills_48 : decode cX8_skills 48 = .ok (.getfield 29, 3) := by decide +kernel
theorem dX8_skills_51 : decode cX8_skills 51 = .ok (.if_icmp .ge 30, 3) := by decide +kernel
theorem dX8_skills_54 : decode cX8_skills 54 = .ok (.aload_n 0, 1) := by decide +kernel
theorem dX8_skills_55 : decode cX8_skills 55 = .ok (.getfield 25, 3) := by decide +kernel
theorem dX8_skills_58 : decode cX8_skills 58 = .ok (.iload_n 3, 1) := by decide +kernel
theorem dX8_skills_59 : decode cX8_skills 59 = .ok (.aaload, 1) := by decide +kernel
theorem dX8_skills_60 : decode cX8_skills 60 = .ok (.astore 4, 2) := by decide +kernel
theorem dX8_skills_62 : decode cX8_skills 62 = .ok (.aload 4, 2) := by decide +kernel
theorem dX8_skills_64 : decode cX8_skills 64 = .ok (.ifnull 11, 3) := by decide +kernel
theorem dX8_skills_67 : decode cX8_skills 67 = .ok (.aload 4, 2) := by decide +kernel
theorem dX8_skills_69 : decode cX8_skills 69 = .ok (.getfield 219, 3) := by decide +kernel
theorem dX8_skills_72 : decode cX8_skills 72 = .ok (.invokevirtual 223, 3) := by decide +kernel
theorem dX8_skills_75 : decode cX8_skills 75 = .ok (.iinc 3 1, 3) := by decide +kernel
theorem dX8_skills_78 : decode cX8_skills 78 = .ok (.goto (-32), 3) := by decide +kernel
theorem dX8_skills_81 : decode cX8_skills 81 = .ok (.iload_n 1, 1) := by decide +kernel
theorem dX8_skills_82 : decode cX8_skills 82 = .ok (.ireturn, 1) := by decide +kernel
set_option maxRecDepth 20000 in
theorem ggX8_skill_X0_has : GoodIn wsX8_skill wsX0_has := goodIn_r _ [9, 10, 11, 12, 13, 28, 29, 30] (by decide +kernel) (by decide +kernel)
set_option maxRecDepth 20000 in
theorem gX8_skill_X0_has : GoodIn wsX8_skill (wsV RX8 228 RX0 yX0_has wsX0_has) := goodIn_app (goodIn_of _ (by decide +kernel)) ggX8_skill_X0_has
set_option maxRecDepth 20000 in
theorem ggX8_skill_X8_within : GoodIn wsX8_skill wsX8_within := goodIn_r _ [13] (by decide +kernel) (by decide +kernel)
set_option maxRecDepth 20000 in
theorem gX8_skill_X8_within : GoodIn wsX8_skill (va_wsS RX8 89 yX8_within wsX8_within) := goodIn_app (goodIn_of _ (by decide +kernel)) ggX8_skill_X8_within
theorem dX8_skill_0 : decode cX8_skill 0 = .ok (.aload_n 0, 1) := by decide +kernel
theorem dX8_skill_1 : decode cX8_skill 1 = .ok (.getfield 56, 3) := by decide +kernel
theorem dX8_skill_4 : decode cX8_skill 4 = .ok (.iload_n 1, 1) := by decide +kernel
theorem dX8_skill_5 : decode cX8_skill 5 = .ok (.invokevirtual 228, 3) := by decide +kernel
theorem dX8_skill_8 : decode cX8_skill 8 = .ok (.ifCond .eq 12, 3) := by decide +kernel
theorem dX8_skill_11 : decode cX8_skill 11 = .ok (.iload_n 2, 1) := by decide +kernel
theorem dX8_skill_12 : decode cX8_skill 12 = .ok (.iconst 0, 1) := by decide +kernel
theorem dX8_skill_13 : decode cX8_skill 13 = .ok (.iconst 2, 1) := by decide +kernel
theorem dX8_skill_14 : decode cX8_skill 14 = .ok (.invokestatic 89, 3) := by decide +kernel
theorem dX8_skill_17 : decode cX8_skill 17 = .ok (.ifCond .ne 5, 3) := by decide +kernel
theorem dX8_skill_20 : decode cX8_skill 20 = .ok (.iconst (-1), 1) := by decide +kernel
theorem dX8_skill_21 : decode cX8_skill 21 = .ok (.ireturn, 1) := by decide +kernel
theorem dX8_skill_22 : decode cX8_skill 22 = .ok (.iload_n 2, 1) := by decide +kernel
theorem dX8_skill_23 : decode cX8_skill 23 = .ok (.lookupswitch 45 #[(0, 25), (1, 35)], 25) := by decide +kernel
theorem dX8_skill_48 : decode cX8_skill 48 = .ok (.aload_n 0, 1) := by decide +kernel
theorem dX8_skill_49 : decode cX8_skill 49 = .ok (.getfield 56, 3) := by decide +kernel
theorem dX8_skill_52 : decode cX8_skill 52 = .ok (.getfield 231, 3) := by decide +kernel
theorem dX8_skill_55 : decode cX8_skill 55 = .ok (.iload_n 1, 1) := by decide +kernel
theorem dX8_skill_56 : decode cX8_skill 56 = .ok (.iaload, 1) := by decide +kernel
theorem dX8_skill_57 : decode cX8_skill 57 = .ok (.ireturn, 1) := by decide +kernel
theorem dX8_skill_58 : decode cX8_skill 58 = .ok (.aload_n 0, 1) := by decide +kernel
theorem dX8_skill_59 : decode cX8_skill 59 = .ok (.getfield 56, 3) := by decide +kernel
theorem dX8_skill_62 : decode cX8_skill 62 = .ok (.getfield 234, 3) := by decide +kernel
theorem dX8_skill_65 : decode cX8_skill 65 = .ok (.iload_n 1, 1) := by decide +kernel
theorem dX8_skill_66 : decode cX8_skill 66 = .ok (.iaload, 1) := by decide +kernel
theorem dX8_skill_67 : decode cX8_skill 67 = .ok (.ireturn, 1) := by decide +kernel
theorem dX8_skill_68 : decode cX8_skill 68 = .ok (.aload_n 0, 1) := by decide +kernel
theorem dX8_skill_69 : decode cX8_skill 69 = .ok (.getfield 56, 3) := by decide +kernel
theorem dX8_skill_72 : decode cX8_skill 72 = .ok (.getfield 237, 3) := by decide +kernel
theorem dX8_skill_75 : decode cX8_skill 75 = .ok (.iload_n 1, 1) := by decide +kernel
theorem dX8_skill_76 : decode cX8_skill 76 = .ok (.iaload, 1) := by decide +kernel
theorem dX8_skill_77 : decode cX8_skill 77 = .ok (.ireturn, 1) := by decide +kernel
set_option maxRecDepth 20000 in
theorem ggX8_exercise_X8_learnerAt : GoodIn wsX8_exercise wsX8_learnerAt := goodIn_r _ [8, 9, 10, 11, 12, 7, 13, 38, 39, 40, 41, 42, 43, 44, 45, 46, 47, 48, 49, 50] (by decide +kernel) (by decide +kernel)
set_option maxRecDepth 20000 in
theorem gX8_exercise_X8_learnerAt : GoodIn wsX8_exercise (wsV RX8 130 RX8 yX8_learnerAt wsX8_learnerAt) := goodIn_app (goodIn_of _ (by decide +kernel)) ggX8_exercise_X8_learnerAt
set_option maxRecDepth 20000 in
theorem ggX8_exercise_X0_has : GoodIn wsX8_exercise wsX0_has := goodIn_r _ [18, 19, 12, 7, 13, 61, 62, 63] (by decide +kernel) (by decide +kernel)
set_option maxRecDepth 20000 in
theorem gX8_exercise_X0_has : GoodIn wsX8_exercise (wsV RX8 228 RX0 yX0_has wsX0_has) := goodIn_app (goodIn_of _ (by decide +kernel)) ggX8_exercise_X0_has
set_option maxRecDepth 20000 in
theorem ggX8_exercise_X8_isDay : GoodIn wsX8_exercise wsX8_isDay := goodIn_r _ [22, 11, 12, 7, 13] (by decide +kernel) (by decide +kernel)
set_option maxRecDepth 20000 in
theorem gX8_exercise_X8_isDay : GoodIn wsX8_exercise (va_wsS RX8 240 yX8_isDay wsX8_isDay) := goodIn_app (goodIn_of _ (by decide +kernel)) ggX8_exercise_X8_isDay
set_option maxRecDepth 20000 in
theorem ggX8_exercise_X2_practise : GoodIn wsX8_exercise wsX2_practise := goodIn_r _ [27, 28, 29, 30, 31, 32, 33, 34, 35, 36, 37, 58, 59, 60] (by decide +kernel) (by decide +kernel)
set_option maxRecDepth 20000 in
theorem gX8_exercise_X2_practise : GoodIn wsX8_exercise (wsV RX8 246 RX2 yX2_practise wsX2_practise) := goodIn_app (goodIn_of _ (by decide +kernel)) ggX8_exercise_X2_practise
theorem dX8_exercise_0 : decode cX8_exercise 0 = .ok (.aload_n 0, 1) := by decide +kernel
theorem dX8_exercise_1 : decode cX8_exercise 1 = .ok (.iload_n 1, 1) := by decide +kernel
theorem dX8_exercise_2 : decode cX8_exercise 2 = .ok (.invokevirtual 130, 3) := by decide +kernel
theorem dX8_exercise_5 : decode cX8_exercise 5 = .ok (.astore 5, 2) := by decide +kernel
theorem dX8_exercise_7 : decode cX8_exercise 7 = .ok (.aload 5, 2) := by decide +kernel
theorem dX8_exercise_9 : decode cX8_exercise 9 = .ok (.ifnull 21, 3) := by decide +kernel
theorem dX8_exercise_12 : decode cX8_exercise 12 = .ok (.aload_n 0, 1) := by decide +kernel
theorem dX8_exercise_13 : decode cX8_exercise 13 = .ok (.getfield 56, 3) := by decide +kernel
theorem dX8_exercise_16 : decode cX8_exercise 16 = .ok (.iload_n 2, 1) := by decide +kernel
theorem dX8_exercise_17 : decode cX8_exercise 17 = .ok (.invokevirtual 228, 3) := by decide +kernel
theorem dX8_exercise_20 : decode cX8_exercise 20 = .ok (.ifCond .eq 10, 3) := by decide +kernel
theorem dX8_exercise_23 : decode cX8_exercise 23 = .ok (.iload_n 3, 1) := by decide +kernel
theorem dX8_exercise_24 : decode cX8_exercise 24 = .ok (.invokestatic 240, 3) := by decide +kernel
theorem dX8_exercise_27 : decode cX8_exercise 27 = .ok (.ifCond .ne 5, 3) := by decide +kernel
theorem dX8_exercise_30 : decode cX8_exercise 30 = .ok (.iconst (-1), 1) := by decide +kernel
theorem dX8_exercise_31 : decode cX8_exercise 31 = .ok (.ireturn, 1) := by decide +kernel
theorem dX8_exercise_32 : decode cX8_exercise 32 = .ok (.iload_n 3, 1) := by decide +kernel
theorem dX8_exercise_33 : decode cX8_exercise 33 = .ok (.aload 5, 2) := by decide +kernel
theorem dX8_exercise_35 : decode cX8_exercise 35 = .ok (.getfield 219, 3) := by decide +kernel
theorem dX8_exercise_38 : decode cX8_exercise 38 = .ok (.getfield 243, 3) := by decide +kernel
theorem dX8_exercise_41 : decode cX8_exercise 41 = .ok (.iload_n 2, 1) := by decide +kernel
theorem dX8_exercise_42 : decode cX8_exercise 42 = .ok (.iaload, 1) := by decide +kernel
theorem dX8_exercise_43 : decode cX8_exercise 43 = .ok (.if_icmp .ge 6, 3) := by decide +kernel
theorem dX8_exercise_46 : decode cX8_exercise 46 = .ok (.bipush (-2), 2) := by decide +kernel
theorem dX8_exercise_48 : decode cX8_exercise 48 = .ok (.ireturn, 1) := by decide +kernel
theorem dX8_exercise_49 : decode cX8_exercise 49 = .ok (.aload 5, 2) := by decide +kernel
theorem dX8_exercise_51 : decode cX8_exercise 51 = .ok (.getfield 219, 3) := by decide +kernel
theorem dX8_exercise_54 : decode cX8_exercise 54 = .ok (.iload_n 2, 1) := by decide +kernel
theorem dX8_exercise_55 : decode cX8_exercise 55 = .ok (.iload_n 3, 1) := by decide +kernel
theorem dX8_exercise_56 : decode cX8_exercise 56 = .ok (.iload 4, 2) := by decide +kernel
theorem dX8_exercise_58 : decode cX8_exercise 58 = .ok (.invokevirtual 246, 3) := by decide +kernel
theorem dX8_exercise_61 : decode cX8_exercise 61 = .ok (.ireturn, 1) := by decide +kernel
set_option maxRecDepth 20000 in
theorem ggX8_odds_X8_learnerAt : GoodIn wsX8_odds wsX8_learnerAt := goodIn_r _ [8, 9, 10, 11, 12, 7, 13, 31, 32, 33, 34, 35, 36, 37, 38, 39, 40, 41, 42, 43] (by decide +kernel) (by decide +kernel)
set_option maxRecDepth 20000 in
theorem gX8_odds_X8_learnerAt : GoodIn wsX8_odds (wsV RX8 130 RX8 yX8_learnerAt wsX8_learnerAt) := goodIn_app (goodIn_of _ (by decide +kernel)) ggX8_odds_X8_learnerAt
set_option maxRecDepth 20000 in
theorem ggX8_odds_X0_has : GoodIn wsX8_odds wsX0_has := goodIn_r _ [18, 19, 12, 7, 13, 54, 55, 56] (by decide +kernel) (by decide +kernel)
set_option maxRecDepth 20000 in
theorem gX8_odds_X0_has : GoodIn wsX8_odds (wsV RX8 228 RX0 yX0_has wsX0_has) := goodIn_app (goodIn_of _ (by decide +kernel)) ggX8_odds_X0_has
set_option maxRecDepth 20000 in
theorem ggX8_odds_X8_isDay : GoodIn wsX8_odds wsX8_isDay := goodIn_r _ [22, 11, 12, 7, 13] (by decide +kernel) (by decide +kernel)
set_option maxRecDepth 20000 in
theorem gX8_odds_X8_isDay : GoodIn wsX8_odds (va_wsS RX8 240 yX8_isDay wsX8_isDay) := goodIn_app (goodIn_of _ (by decide +kernel)) ggX8_odds_X8_isDay
set_option maxRecDepth 20000 in
theorem ggX8_odds_X2_oddsOn : GoodIn wsX8_odds wsX2_oddsOn := goodIn_r _ [27, 28, 29, 30, 51, 52, 53] (by decide +kernel) (by decide +kernel)
set_option maxRecDepth 20000 in
theorem gX8_odds_X2_oddsOn : GoodIn wsX8_odds (wsV RX8 250 RX2 yX2_oddsOn wsX2_oddsOn) := goodIn_app (goodIn_of _ (by decide +kernel)) ggX8_odds_X2_oddsOn
theorem dX8_odds_0 : decode cX8_odds 0 = .ok (.aload_n 0, 1) := by decide +kernel
theorem dX8_odds_1 : decode cX8_odds 1 = .ok (.iload_n 1, 1) := by decide +kernel
theorem dX8_odds_2 : decode cX8_odds 2 = .ok (.invokevirtual 130, 3) := by decide +kernel
theorem dX8_odds_5 : decode cX8_odds 5 = .ok (.astore 4, 2) := by decide +kernel
theorem dX8_odds_7 : decode cX8_odds 7 = .ok (.aload 4, 2) := by decide +kernel
theorem dX8_odds_9 : decode cX8_odds 9 = .ok (.ifnull 21, 3) := by decide +kernel
theorem dX8_odds_12 : decode cX8_odds 12 = .ok (.aload_n 0, 1) := by decide +kernel
theorem dX8_odds_13 : decode cX8_odds 13 = .ok (.getfield 56, 3) := by decide +kernel
theorem dX8_odds_16 : decode cX8_odds 16 = .ok (.iload_n 2, 1) := by decide +kernel
theorem dX8_odds_17 : decode cX8_odds 17 = .ok (.invokevirtual 228, 3) := by decide +kernel
theorem dX8_odds_20 : decode cX8_odds 20 = .ok (.ifCond .eq 10, 3) := by decide +kernel
theorem dX8_odds_23 : decode cX8_odds 23 = .ok (.iload_n 3, 1) := by decide +kernel
theorem dX8_odds_24 : decode cX8_odds 24 = .ok (.invokestatic 240, 3) := by decide +kernel
theorem dX8_odds_27 : decode cX8_odds 27 = .ok (.ifCond .ne 5, 3) := by decide +kernel
theorem dX8_odds_30 : decode cX8_odds 30 = .ok (.iconst (-1), 1) := by decide +kernel
theorem dX8_odds_31 : decode cX8_odds 31 = .ok (.ireturn, 1) := by decide +kernel
theorem dX8_odds_32 : decode cX8_odds 32 = .ok (.iload_n 3, 1) := by decide +kernel
theorem dX8_odds_33 : decode cX8_odds 33 = .ok (.aload 4, 2) := by decide +kernel
theorem dX8_odds_35 : decode cX8_odds 35 = .ok (.getfield 219, 3) := by decide +kernel
theorem dX8_odds_38 : decode cX8_odds 38 = .ok (.getfield 243, 3) := by decide +kernel
theorem dX8_odds_41 : decode cX8_odds 41 = .ok (.iload_n 2, 1) := by decide +kernel
theorem dX8_odds_42 : decode cX8_odds 42 = .ok (.iaload, 1) := by decide +kernel
theorem dX8_odds_43 : decode cX8_odds 43 = .ok (.if_icmp .ge 6, 3) := by decide +kernel
theorem dX8_odds_46 : decode cX8_odds 46 = .ok (.bipush (-2), 2) := by decide +kernel
theorem dX8_odds_48 : decode cX8_odds 48 = .ok (.ireturn, 1) := by decide +kernel
theorem dX8_odds_49 : decode cX8_odds 49 = .ok (.aload 4, 2) := by decide +kernel
theorem dX8_odds_51 : decode cX8_odds 51 = .ok (.getfield 219, 3) := by decide +kernel
theorem dX8_odds_54 : decode cX8_odds 54 = .ok (.iload_n 2, 1) := by decide +kernel
theorem dX8_odds_55 : decode cX8_odds 55 = .ok (.iload_n 3, 1) := by decide +kernel
theorem dX8_odds_56 : decode cX8_odds 56 = .ok (.invokevirtual 250, 3) := by decide +kernel
theorem dX8_odds_59 : decode cX8_odds 59 = .ok (.ireturn, 1) := by decide +kernel
set_option maxRecDepth 20000 in
theorem ggX8_again_X8_learnerAt : GoodIn wsX8_again wsX8_learnerAt := goodIn_r _ [8, 9, 10, 11, 12, 7, 13, 27, 28, 29, 30, 31, 32, 33, 34, 35, 36, 37, 38, 39] (by decide +kernel) (by decide +kernel)
set_option maxRecDepth 20000 in
theorem gX8_again_X8_learnerAt : GoodIn wsX8_again (wsV RX8 130 RX8 yX8_learnerAt wsX8_learnerAt) := goodIn_app (goodIn_of _ (by decide +kernel)) ggX8_again_X8_learnerAt
set_option maxRecDepth 20000 in
theorem ggX8_again_X0_has : GoodIn wsX8_again wsX0_has := goodIn_r _ [18, 19, 12, 7, 13, 50, 51, 52] (by decide +kernel) (by decide +kernel)
set_option maxRecDepth 20000 in
theorem gX8_again_X0_has : GoodIn wsX8_again (wsV RX8 228 RX0 yX0_has wsX0_has) := goodIn_app (goodIn_of _ (by decide +kernel)) ggX8_again_X0_has
set_option maxRecDepth 20000 in
theorem ggX8_again_X8_within : GoodIn wsX8_again wsX8_within := goodIn_r _ [13] (by decide +kernel) (by decide +kernel)
set_option maxRecDepth 20000 in
theorem gX8_again_X8_within : GoodIn wsX8_again (va_wsS RX8 89 yX8_within wsX8_within) := goodIn_app (goodIn_of _ (by decide +kernel)) ggX8_again_X8_within
set_option maxRecDepth 20000 in
theorem ggX8_again_X2_firstFaded : GoodIn wsX8_again wsX2_firstFaded := goodIn_r _ [24, 25, 26, 47, 48, 49] (by decide +kernel) (by decide +kernel)
set_option maxRecDepth 20000 in
theorem gX8_again_X2_firstFaded : GoodIn wsX8_again (wsV RX8 257 RX2 yX2_firstFaded wsX2_firstFaded) := goodIn_app (goodIn_of _ (by decide +kernel)) ggX8_again_X2_firstFaded
theorem dX8_again_0 : decode cX8_again 0 = .ok (.aload_n 0, 1) := by decide +kernel
theorem dX8_again_1 : decode cX8_again 1 = .ok (.iload_n 1, 1) := by decide +kernel
theorem dX8_again_2 : decode cX8_again 2 = .ok (.invokevirtual 130, 3) := by decide +kernel
theorem dX8_again_5 : decode cX8_again 5 = .ok (.astore 4, 2) := by decide +kernel
theorem dX8_again_7 : decode cX8_again 7 = .ok (.aload 4, 2) := by decide +kernel
theorem dX8_again_9 : decode cX8_again 9 = .ok (.ifnull 25, 3) := by decide +kernel
theorem dX8_again_12 : decode cX8_again 12 = .ok (.aload_n 0, 1) := by decide +kernel
theorem dX8_again_13 : decode cX8_again 13 = .ok (.getfield 56, 3) := by decide +kernel
theorem dX8_again_16 : decode cX8_again 16 = .ok (.iload_n 2, 1) := by decide +kernel
theorem dX8_again_17 : decode cX8_again 17 = .ok (.invokevirtual 228, 3) := by decide +kernel
theorem dX8_again_20 : decode cX8_again 20 = .ok (.ifCond .eq 14, 3) := by decide +kernel
theorem dX8_again_23 : decode cX8_again 23 = .ok (.iload_n 3, 1) := by decide +kernel
theorem dX8_again_24 : decode cX8_again 24 = .ok (.iconst 1, 1) := by decide +kernel
theorem dX8_again_25 : decode cX8_again 25 = .ok (.sipush 1000, 3) := by decide +kernel
theorem dX8_again_28 : decode cX8_again 28 = .ok (.invokestatic 89, 3) := by decide +kernel
theorem dX8_again_31 : decode cX8_again 31 = .ok (.ifCond .ne 5, 3) := by decide +kernel
theorem dX8_again_34 : decode cX8_again 34 = .ok (.iconst (-1), 1) := by decide +kernel
theorem dX8_again_35 : decode cX8_again 35 = .ok (.ireturn, 1) := by decide +kernel
theorem dX8_again_36 : decode cX8_again 36 = .ok (.aload 4, 2) := by decide +kernel
theorem dX8_again_38 : decode cX8_again 38 = .ok (.getfield 219, 3) := by decide +kernel
theorem dX8_again_41 : decode cX8_again 41 = .ok (.getfield 253, 3) := by decide +kernel
theorem dX8_again_44 : decode cX8_again 44 = .ok (.iload_n 2, 1) := by decide +kernel
theorem dX8_again_45 : decode cX8_again 45 = .ok (.baload, 1) := by decide +kernel
theorem dX8_again_46 : decode cX8_again 46 = .ok (.ifCond .ne 6, 3) := by decide +kernel
theorem dX8_again_49 : decode cX8_again 49 = .ok (.bipush (-4), 2) := by decide +kernel
theorem dX8_again_51 : decode cX8_again 51 = .ok (.ireturn, 1) := by decide +kernel
theorem dX8_again_52 : decode cX8_again 52 = .ok (.aload 4, 2) := by decide +kernel
theorem dX8_again_54 : decode cX8_again 54 = .ok (.getfield 219, 3) := by decide +kernel
theorem dX8_again_57 : decode cX8_again 57 = .ok (.iload_n 2, 1) := by decide +kernel
theorem dX8_again_58 : decode cX8_again 58 = .ok (.iload_n 3, 1) := by decide +kernel
theorem dX8_again_59 : decode cX8_again 59 = .ok (.invokevirtual 257, 3) := by decide +kernel
theorem dX8_again_62 : decode cX8_again 62 = .ok (.ireturn, 1) := by decide +kernel
set_option maxRecDepth 20000 in
theorem ggX8_way_X8_learnerAt : GoodIn wsX8_way wsX8_learnerAt := goodIn_r _ [9, 10, 11, 12, 13, 8, 14, 64, 65, 66, 67, 68, 69, 70, 71, 72, 73, 74, 75, 76] (by decide +kernel) (by decide +kernel)
set_option maxRecDepth 20000 in
theorem gX8_way_X8_learnerAt : GoodIn wsX8_way (wsV RX8 130 RX8 yX8_learnerAt wsX8_learnerAt) := goodIn_app (goodIn_of _ (by decide +kernel)) ggX8_way_X8_learnerAt
set_option maxRecDepth 20000 in
theorem ggX8_way_X8_isDay : GoodIn wsX8_way wsX8_isDay := goodIn_r _ [17, 12, 13, 8, 14] (by decide +kernel) (by decide +kernel)
set_option maxRecDepth 20000 in
theorem gX8_way_X8_isDay : GoodIn wsX8_way (va_wsS RX8 240 yX8_isDay wsX8_isDay) := goodIn_app (goodIn_of _ (by decide +kernel)) ggX8_way_X8_isDay
set_option maxRecDepth 20000 in
theorem ggX8_way_X8_within : GoodIn wsX8_way wsX8_within := goodIn_r _ [14] (by decide +kernel) (by decide +kernel)
set_option maxRecDepth 20000 in
theorem gX8_way_X8_within : GoodIn wsX8_way (va_wsS RX8 89 yX8_within wsX8_within) := goodIn_app (goodIn_of _ (by decide +kernel)) ggX8_way_X8_within
set_option maxRecDepth 20000 in
theorem ggX8_way_X2_latestOfAll : GoodIn wsX8_way wsX2_latestOfAll := goodIn_r _ [22, 23, 24, 25, 26, 27, 80, 81, 82] (by decide +kernel) (by decide +kernel)
set_option maxRecDepth 20000 in
theorem gX8_way_X2_latestOfAll : GoodIn wsX8_way (wsV RX8 260 RX2 yX2_latestOfAll wsX2_latestOfAll) := goodIn_app (goodIn_of _ (by decide +kernel)) ggX8_way_X2_latestOfAll
set_option maxRecDepth 20000 in
theorem ggX8_way_X2_heldOn : GoodIn wsX8_way wsX2_heldOn := goodIn_r _ [31, 32, 33, 34, 21, 35, 36, 23, 37, 80, 81, 82] (by decide +kernel) (by decide +kernel)
set_option maxRecDepth 20000 in
theorem gX8_way_X2_heldOn : GoodIn wsX8_way (wsV RX8 263 RX2 yX2_heldOn wsX2_heldOn) := goodIn_app (goodIn_of _ (by decide +kernel)) ggX8_way_X2_heldOn
set_option maxRecDepth 20000 in
theorem ggX8_way_X0_bestWay : GoodIn wsX8_way wsX0_bestWay := goodIn_r _ [42, 43, 44, 45, 46, 47, 41, 48, 49, 50, 51, 52, 53, 13, 8, 14, 54, 55, 77, 78, 79] (by decide +kernel) (by decide +kernel)
set_option maxRecDepth 20000 in
theorem gX8_way_X0_bestWay : GoodIn wsX8_way (wsV RX8 266 RX0 yX0_bestWay wsX0_bestWay) := goodIn_app (goodIn_of _ (by decide +kernel)) ggX8_way_X0_bestWay
set_option maxRecDepth 20000 in
theorem ggX8_way_X8_total : GoodIn wsX8_way wsX8_total := goodIn_r _ [55] (by decide +kernel) (by decide +kernel)
set_option maxRecDepth 20000 in
theorem gX8_way_X8_total : GoodIn wsX8_way (va_wsS RX8 269 yX8_total wsX8_total) := goodIn_app (goodIn_of _ (by decide +kernel)) ggX8_way_X8_total
theorem dX8_way_0 : decode cX8_way 0 = .ok (.aload_n 0, 1) := by decide +kernel
theorem dX8_way_1 : decode cX8_way 1 = .ok (.iload_n 1, 1) := by decide +kernel
theorem dX8_way_2 : decode cX8_way 2 = .ok (.invokevirtual 130, 3) := by decide +kernel
theorem dX8_way_5 : decode cX8_way 5 = .ok (.astore 5, 2) := by decide +kernel
theorem dX8_way_7 : decode cX8_way 7 = .ok (.aload 5, 2) := by decide +kernel
theorem dX8_way_9 : decode cX8_way 9 = .ok (.ifnull 31, 3) := by decide +kernel
theorem dX8_way_12 : decode cX8_way 12 = .ok (.iload_n 2, 1) := by decide +kernel
theorem dX8_way_13 : decode cX8_way 13 = .ok (.invokestatic 240, 3) := by decide +kernel
theorem dX8_way_16 : decode cX8_way 16 = .ok (.ifCond .eq 24, 3) := by decide +kernel
theorem dX8_way_19 : decode cX8_way 19 = .ok (.iload_n 3, 1) := by decide +kernel
theorem dX8_way_20 : decode cX8_way 20 = .ok (.iconst 0, 1) := by decide +kernel
theorem dX8_way_21 : decode cX8_way 21 = .ok (.sipush 160, 3) := by decide +kernel
theorem dX8_way_24 : decode cX8_way 24 = .ok (.invokestatic 89, 3) := by decide +kernel
theorem dX8_way_27 : decode cX8_way 27 = .ok (.ifCond .eq 13, 3) := by decide +kernel
theorem dX8_way_30 : decode cX8_way 30 = .ok (.iload 4, 2) := by decide +kernel
theorem dX8_way_32 : decode cX8_way 32 = .ok (.iconst 0, 1) := by decide +kernel
theorem dX8_way_33 : decode cX8_way 33 = .ok (.iconst 2, 1) := by decide +kernel
theorem dX8_way_34 : decode cX8_way 34 = .ok (.invokestatic 89, 3) := by decide +kernel
theorem dX8_way_37 : decode cX8_way 37 = .ok (.ifCond .ne 5, 3) := by decide +kernel
theorem dX8_way_40 : decode cX8_way 40 = .ok (.iconst (-1), 1) := by decide +kernel
theorem dX8_way_41 : decode cX8_way 41 = .ok (.ireturn, 1) := by decide +kernel
theorem dX8_way_42 : decode cX8_way 42 = .ok (.iload_n 2, 1) := by decide +kernel
theorem dX8_way_43 : decode cX8_way 43 = .ok (.aload 5, 2) := by decide +kernel
theorem dX8_way_45 : decode cX8_way 45 = .ok (.getfield 219, 3) := by decide +kernel
theorem dX8_way_48 : decode cX8_way 48 = .ok (.invokevirtual 260, 3) := by decide +kernel
theorem dX8_way_51 : decode cX8_way 51 = .ok (.if_icmp .ge 6, 3) := by decide +kernel
theorem dX8_way_54 : decode cX8_way 54 = .ok (.bipush (-2), 2) := by decide +kernel
theorem dX8_way_56 : decode cX8_way 56 = .ok (.ireturn, 1) := by decide +kernel
theorem dX8_way_57 : decode cX8_way 57 = .ok (.aload_n 0, 1) := by decide +kernel
theorem dX8_way_58 : decode cX8_way 58 = .ok (.getfield 56, 3) := by decide +kernel
theorem dX8_way_61 : decode cX8_way 61 = .ok (.aload 5, 2) := by decide +kernel
theorem dX8_way_63 : decode cX8_way 63 = .ok (.getfield 219, 3) := by decide +kernel
theorem dX8_way_66 : decode cX8_way 66 = .ok (.iload_n 2, 1) := by decide +kernel
theorem dX8_way_67 : decode cX8_way 67 = .ok (.invokevirtual 263, 3) := by decide +kernel
theorem dX8_way_70 : decode cX8_way 70 = .ok (.iload_n 3, 1) := by decide +kernel
theorem dX8_way_71 : decode cX8_way 71 = .ok (.invokevirtual 266, 3) := by decide +kernel
theorem dX8_way_74 : decode cX8_way 74 = .ok (.istore 6, 2) := by decide +kernel
theorem dX8_way_76 : decode cX8_way 76 = .ok (.iload 4, 2) := by decide +kernel
theorem dX8_way_78 : decode cX8_way 78 = .ok (.lookupswitch 42 #[(0, 26), (1, 29)], 26) := by decide +kernel
theorem dX8_way_104 : decode cX8_way 104 = .ok (.iload 6, 2) := by decide +kernel
theorem dX8_way_106 : decode cX8_way 106 = .ok (.ireturn, 1) := by decide +kernel
theorem dX8_way_107 : decode cX8_way 107 = .ok (.aload_n 0, 1) := by decide +kernel
theorem dX8_way_108 : decode cX8_way 108 = .ok (.getfield 56, 3) := by decide +kernel
theorem dX8_way_111 : decode cX8_way 111 = .ok (.getfield 234, 3) := by decide +kernel
theorem dX8_way_114 : decode cX8_way 114 = .ok (.iload 6, 2) := by decide +kernel
theorem dX8_way_116 : decode cX8_way 116 = .ok (.invokestatic 269, 3) := by decide +kernel
theorem dX8_way_119 : decode cX8_way 119 = .ok (.ireturn, 1) := by decide +kernel
theorem dX8_way_120 : decode cX8_way 120 = .ok (.aload_n 0, 1) := by decide +kernel
theorem dX8_way_121 : decode cX8_way 121 = .ok (.getfield 56, 3) := by decide +kernel
theorem dX8_way_124 : decode cX8_way 124 = .ok (.getfield 231, 3) := by decide +kernel
theorem dX8_way_127 : decode cX8_way 127 = .ok (.iload 6, 2) := by decide +kernel
theorem dX8_way_129 : decode cX8_way 129 = .ok (.invokestatic 269, 3) := by decide +kernel
theorem dX8_way_132 : decode cX8_way 132 = .ok (.ireturn, 1) := by decide +kernel
set_option maxRecDepth 20000 in
theorem ggX8_deal_X8_within : GoodIn wsX8_deal wsX8_within := goodIn_r _ [5] (by decide +kernel) (by decide +kernel)
set_option maxRecDepth 20000 in
theorem gX8_deal_X8_within : GoodIn wsX8_deal (va_wsS RX8 89 yX8_within wsX8_within) := goodIn_app (goodIn_of _ (by decide +kernel)) ggX8_deal_X8_within
set_option maxRecDepth 20000 in
theorem ggX8_deal_X7_add : GoodIn wsX8_deal wsX7_add := goodIn_r _ [10, 11, 12, 13, 27, 28, 29] (by decide +kernel) (by decide +kernel)
set_option maxRecDepth 20000 in
theorem gX8_deal_X7_add : GoodIn wsX8_deal (wsV RX8 273 RX7 yX7_add wsX7_add) := goodIn_app (goodIn_of _ (by decide +kernel)) ggX8_deal_X7_add
theorem dX8_deal_0 : decode cX8_deal 0 = .ok (.iload_n 1, 1) := by decide +kernel
theorem dX8_deal_1 : decode cX8_deal 1 = .ok (.iconst 0, 1) := by decide +kernel
theorem dX8_deal_2 : decode cX8_deal 2 = .ok (.iconst 1, 1) := by decide +kernel
theorem dX8_deal_3 : decode cX8_deal 3 = .ok (.invokestatic 89, 3) := by decide +kernel
theorem dX8_deal_6 : decode cX8_deal 6 = .ok (.ifCond .eq 16, 3) := by decide +kernel
theorem dX8_deal_9 : decode cX8_deal 9 = .ok (.iload_n 2, 1) := by decide +kernel
theorem dX8_deal_10 : decode cX8_deal 10 = .ok (.sipush (-999), 3) := by decide +kernel
theorem dX8_deal_13 : decode cX8_deal 13 = .ok (.sipush 999, 3) := by decide +kernel
theorem dX8_deal_16 : decode cX8_deal 16 = .ok (.invokestatic 89, 3) := by decide +kernel
theorem dX8_deal_19 : decode cX8_deal 19 = .ok (.ifCond .ne 5, 3) := by decide +kernel
theorem dX8_deal_22 : decode cX8_deal 22 = .ok (.iconst (-1), 1) := by decide +kernel
theorem dX8_deal_23 : decode cX8_deal 23 = .ok (.ireturn, 1) := by decide +kernel
theorem dX8_deal_24 : decode cX8_deal 24 = .ok (.aload_n 0, 1) := by decide +kernel
theorem dX8_deal_25 : decode cX8_deal 25 = .ok (.getfield 66, 3) := by decide +kernel
theorem dX8_deal_28 : decode cX8_deal 28 = .ok (.iload_n 1, 1) := by decide +kernel
theorem dX8_deal_29 : decode cX8_deal 29 = .ok (.iload_n 2, 1) := by decide +kernel
theorem dX8_deal_30 : decode cX8_deal 30 = .ok (.invokevirtual 273, 3) := by decide +kernel
theorem dX8_deal_33 : decode cX8_deal 33 = .ok (.ireturn, 1) := by decide +kernel
theorem dX8_ends_0 : decode cX8_ends 0 = .ok (.aload_n 0, 1) := by decide +kernel
theorem dX8_ends_1 : decode cX8_ends 1 = .ok (.getfield 66, 3) := by decide +kernel
theorem dX8_ends_4 : decode cX8_ends 4 = .ok (.getfield 276, 3) := by decide +kernel
theorem dX8_ends_7 : decode cX8_ends 7 = .ok (.istore_n 1, 1) := by decide +kernel
theorem dX8_ends_8 : decode cX8_ends 8 = .ok (.aload_n 0, 1) := by decide +kernel
theorem dX8_ends_9 : decode cX8_ends 9 = .ok (.getfield 66, 3) := by decide +kernel
theorem dX8_ends_12 : decode cX8_ends 12 = .ok (.iconst 0, 1) := by decide +kernel
theorem dX8_ends_13 : decode cX8_ends 13 = .ok (.putfield 276, 3) := by decide +kernel
theorem dX8_ends_16 : decode cX8_ends 16 = .ok (.iload_n 1, 1) := by decide +kernel
theorem dX8_ends_17 : decode cX8_ends 17 = .ok (.ireturn, 1) := by decide +kernel
set_option maxRecDepth 20000 in
theorem ggX8_by_X8_within : GoodIn wsX8_by wsX8_within := goodIn_r _ [11] (by decide +kernel) (by decide +kernel)
set_option maxRecDepth 20000 in
theorem gX8_by_X8_within : GoodIn wsX8_by (va_wsS RX8 89 yX8_within wsX8_within) := goodIn_app (goodIn_of _ (by decide +kernel)) ggX8_by_X8_within
set_option maxRecDepth 20000 in
theorem ggX8_by_X7_lacksWay : GoodIn wsX8_by wsX7_lacksWay := goodIn_r _ [16, 17, 18, 19, 15, 20, 21, 22, 45, 46, 47] (by decide +kernel) (by decide +kernel)
set_option maxRecDepth 20000 in
theorem gX8_by_X7_lacksWay : GoodIn wsX8_by (wsV RX8 277 RX7 yX7_lacksWay wsX7_lacksWay) := goodIn_app (goodIn_of _ (by decide +kernel)) ggX8_by_X7_lacksWay
set_option maxRecDepth 20000 in
theorem ggX8_by_X7_manyOf : GoodIn wsX8_by wsX7_manyOf := goodIn_r _ [20, 21, 22, 45, 46, 47] (by decide +kernel) (by decide +kernel)
set_option maxRecDepth 20000 in
theorem gX8_by_X7_manyOf : GoodIn wsX8_by (wsV RX8 282 RX7 yX7_manyOf wsX7_manyOf) := goodIn_app (goodIn_of _ (by decide +kernel)) ggX8_by_X7_manyOf
set_option maxRecDepth 20000 in
theorem ggX8_by_X7_sumOf : GoodIn wsX8_by wsX7_sumOf := goodIn_r _ [27, 21, 22, 28, 45, 46, 47] (by decide +kernel) (by decide +kernel)
set_option maxRecDepth 20000 in
theorem gX8_by_X7_sumOf : GoodIn wsX8_by (wsV RX8 285 RX7 yX7_sumOf wsX7_sumOf) := goodIn_app (goodIn_of _ (by decide +kernel)) ggX8_by_X7_sumOf
set_option maxRecDepth 20000 in
theorem ggX8_by_X8_commonDivisor : GoodIn wsX8_by wsX8_commonDivisor := goodIn_r _ [31] (by decide +kernel) (by decide +kernel)
set_option maxRecDepth 20000 in
theorem gX8_by_X8_commonDivisor : GoodIn wsX8_by (va_wsS RX8 293 yX8_commonDivisor wsX8_commonDivisor) := goodIn_app (goodIn_of _ (by decide +kernel)) ggX8_by_X8_commonDivisor
theorem dX8_by_0 : decode cX8_by 0 = .ok (.iload_n 1, 1) := by decide +kernel
theorem dX8_by_1 : decode cX8_by 1 = .ok (.iconst 0, 1) := by decide +kernel
theorem dX8_by_2 : decode cX8_by 2 = .ok (.iconst 1, 1) := by decide +kernel
theorem dX8_by_3 : decode cX8_by 3 = .ok (.invokestatic 89, 3) := by decide +kernel
theorem dX8_by_6 : decode cX8_by 6 = .ok (.ifCond .ne 6, 3) := by decide +kernel
theorem dX8_by_9 : decode cX8_by 9 = .ok (.ldc 154, 2) := by decide +kernel
theorem dX8_by_11 : decode cX8_by 11 = .ok (.ireturn, 1) := by decide +kernel
theorem dX8_by_12 : decode cX8_by 12 = .ok (.aload_n 0, 1) := by decide +kernel
theorem dX8_by_13 : decode cX8_by 13 = .ok (.getfield 66, 3) := by decide +kernel
theorem dX8_by_16 : decode cX8_by 16 = .ok (.invokevirtual 277, 3) := by decide +kernel
theorem dX8_by_19 : decode cX8_by 19 = .ok (.ifCond .eq 7, 3) := by decide +kernel
theorem dX8_by_22 : decode cX8_by 22 = .ok (.ldc_w 281, 3) := by decide +kernel
theorem dX8_by_25 : decode cX8_by 25 = .ok (.ireturn, 1) := by decide +kernel
theorem dX8_by_26 : decode cX8_by 26 = .ok (.aload_n 0, 1) := by decide +kernel
theorem dX8_by_27 : decode cX8_by 27 = .ok (.getfield 66, 3) := by decide +kernel
theorem dX8_by_30 : decode cX8_by 30 = .ok (.iconst 1, 1) := by decide +kernel
theorem dX8_by_31 : decode cX8_by 31 = .ok (.invokevirtual 282, 3) := by decide +kernel
theorem dX8_by_34 : decode cX8_by 34 = .ok (.istore_n 2, 1) := by decide +kernel
theorem dX8_by_35 : decode cX8_by 35 = .ok (.aload_n 0, 1) := by decide +kernel
theorem dX8_by_36 : decode cX8_by 36 = .ok (.getfield 66, 3) := by decide +kernel
theorem dX8_by_39 : decode cX8_by 39 = .ok (.iconst 0, 1) := by decide +kernel
theorem dX8_by_40 : decode cX8_by 40 = .ok (.invokevirtual 282, 3) := by decide +kernel
theorem dX8_by_43 : decode cX8_by 43 = .ok (.istore_n 3, 1) := by decide +kernel
theorem dX8_by_44 : decode cX8_by 44 = .ok (.aload_n 0, 1) := by decide +kernel
theorem dX8_by_45 : decode cX8_by 45 = .ok (.getfield 66, 3) := by decide +kernel
theorem dX8_by_48 : decode cX8_by 48 = .ok (.iconst 1, 1) := by decide +kernel
theorem dX8_by_49 : decode cX8_by 49 = .ok (.invokevirtual 285, 3) := by decide +kernel
theorem dX8_by_52 : decode cX8_by 52 = .ok (.iload_n 3, 1) := by decide +kernel
theorem dX8_by_53 : decode cX8_by 53 = .ok (.imul, 1) := by decide +kernel
theorem dX8_by_54 : decode cX8_by 54 = .ok (.aload_n 0, 1) := by decide +kernel
theorem dX8_by_55 : decode cX8_by 55 = .ok (.getfield 66, 3) := by decide +kernel
theorem dX8_by_58 : decode cX8_by 58 = .ok (.iconst 0, 1) := by decide +kernel
theorem dX8_by_59 : decode cX8_by 59 = .ok (.invokevirtual 285, 3) := by decide +kernel
theorem dX8_by_62 : decode cX8_by 62 = .ok (.iload_n 2, 1) := by decide +kernel
theorem dX8_by_63 : decode cX8_by 63 = .ok (.imul, 1) := by decide +kernel
theorem dX8_by_64 : decode cX8_by 64 = .ok (.isub, 1) := by decide +kernel
theorem dX8_by_65 : decode cX8_by 65 = .ok (.istore 4, 2) := by decide +kernel
theorem dX8_by_67 : decode cX8_by 67 = .ok (.iload_n 2, 1) := by decide +kernel
theorem dX8_by_68 : decode cX8_by 68 = .ok (.iload_n 3, 1) := by decide +kernel
theorem dX8_by_69 : decode cX8_by 69 = .ok (.imul, 1) := by decide +kernel
theorem dX8_by_70 : decode cX8_by 70 = .ok (.istore 5, 2) := by decide +kernel
theorem dX8_by_72 : decode cX8_by 72 = .ok (.iload 4, 2) := by decide +kernel
theorem dX8_by_74 : decode cX8_by 74 = .ok (.invokestatic 288, 3) := by decide +kernel
theorem dX8_by_77 : decode cX8_by 77 = .ok (.iload 5, 2) := by decide +kernel
theorem dX8_by_79 : decode cX8_by 79 = .ok (.invokestatic 293, 3) := by decide +kernel
theorem dX8_by_82 : decode cX8_by 82 = .ok (.istore 6, 2) := by decide +kernel
theorem dX8_by_84 : decode cX8_by 84 = .ok (.iload 6, 2) := by decide +kernel
theorem dX8_by_86 : decode cX8_by 86 = .ok (.ifCond .gt 7, 3) := by decide +kernel
theorem dX8_by_89 : decode cX8_by 89 = .ok (.ldc_w 281, 3) := by decide +kernel
theorem dX8_by_92 : decode cX8_by 92 = .ok (.ireturn, 1) := by decide +kernel
theorem dX8_by_93 : decode cX8_by 93 = .ok (.iload_n 1, 1) := by decide +kernel
theorem dX8_by_94 : decode cX8_by 94 = .ok (.ifCond .ne 8, 3) := by decide +kernel
theorem dX8_by_97 : decode cX8_by 97 = .ok (.iload 4, 2) := by decide +kernel
theorem dX8_by_99 : decode cX8_by 99 = .ok (.goto 5, 3) := by decide +kernel
theorem dX8_by_102 : decode cX8_by 102 = .ok (.iload 5, 2) := by decide +kernel
theorem dX8_by_104 : decode cX8_by 104 = .ok (.iload 6, 2) := by decide +kernel
theorem dX8_by_106 : decode cX8_by 106 = .ok (.idiv, 1) := by decide +kernel
theorem dX8_by_107 : decode cX8_by 107 = .ok (.ireturn, 1) := by decide +kernel
set_option maxRecDepth 20000 in
theorem ggX8_share_X7_lacksWay : GoodIn wsX8_share wsX7_lacksWay := goodIn_r _ [6, 7, 8, 9, 5, 10, 11, 12, 46, 47, 48] (by decide +kernel) (by decide +kernel)
set_option maxRecDepth 20000 in
theorem gX8_share_X7_lacksWay : GoodIn wsX8_share (wsV RX8 277 RX7 yX7_lacksWay wsX7_lacksWay) := goodIn_app (goodIn_of _ (by decide +kernel)) ggX8_share_X7_lacksWay
set_option maxRecDepth 20000 in
theorem ggX8_share_X7_thousandthsAsGood : GoodIn wsX8_share wsX7_thousandthsAsGood := goodIn_r _ [16, 11, 7, 8, 9, 5, 10, 12, 17, 18, 19, 20, 21, 22, 23, 24, 25, 26, 27, 28, 29, 30, 31, 32, 46, 47, 48] (by decide +kernel) (by decide +kernel)
set_option maxRecDepth 20000 in
theorem gX8_share_X7_thousandthsAsGood : GoodIn wsX8_share (wsV RX8 296 RX7 yX7_thousandthsAsGood wsX7_thousandthsAsGood) := goodIn_app (goodIn_of _ (by decide +kernel)) ggX8_share_X7_thousandthsAsGood
theorem dX8_share_0 : decode cX8_share 0 = .ok (.aload_n 0, 1) := by decide +kernel
theorem dX8_share_1 : decode cX8_share 1 = .ok (.getfield 66, 3) := by decide +kernel
theorem dX8_share_4 : decode cX8_share 4 = .ok (.invokevirtual 277, 3) := by decide +kernel
theorem dX8_share_7 : decode cX8_share 7 = .ok (.ifCond .eq 8, 3) := by decide +kernel
theorem dX8_share_10 : decode cX8_share 10 = .ok (.bipush (-2), 2) := by decide +kernel
theorem dX8_share_12 : decode cX8_share 12 = .ok (.goto 10, 3) := by decide +kernel
theorem dX8_share_15 : decode cX8_share 15 = .ok (.aload_n 0, 1) := by decide +kernel
theorem dX8_share_16 : decode cX8_share 16 = .ok (.getfield 66, 3) := by decide +kernel
theorem dX8_share_19 : decode cX8_share 19 = .ok (.invokevirtual 296, 3) := by decide +kernel
theorem dX8_share_22 : decode cX8_share 22 = .ok (.ireturn, 1) := by decide +kernel
set_option maxRecDepth 20000 in
theorem ggX8_verdict_X7_lacksWay : GoodIn wsX8_verdict wsX7_lacksWay := goodIn_r _ [7, 8, 9, 10, 6, 11, 12, 13, 47, 48, 49] (by decide +kernel) (by decide +kernel)
set_option maxRecDepth 20000 in
theorem gX8_verdict_X7_lacksWay : GoodIn wsX8_verdict (wsV RX8 277 RX7 yX7_lacksWay wsX7_lacksWay) := goodIn_app (goodIn_of _ (by decide +kernel)) ggX8_verdict_X7_lacksWay
set_option maxRecDepth 20000 in
theorem ggX8_verdict_X7_thousandthsAsGood : GoodIn wsX8_verdict wsX7_thousandthsAsGood := goodIn_r _ [17, 12, 8, 9, 10, 6, 11, 13, 18, 19, 20, 21, 22, 23, 24, 25, 26, 27, 28, 29, 30, 31, 32, 33, 47, 48, 49] (by decide +kernel) (by decide +kernel)
set_option maxRecDepth 20000 in
theorem gX8_verdict_X7_thousandthsAsGood : GoodIn wsX8_verdict (wsV RX8 296 RX7 yX7_thousandthsAsGood wsX7_thousandthsAsGood) := goodIn_app (goodIn_of _ (by decide +kernel)) ggX8_verdict_X7_thousandthsAsGood
theorem dX8_verdict_0 : decode cX8_verdict 0 = .ok (.aload_n 0, 1) := by decide +kernel
theorem dX8_verdict_1 : decode cX8_verdict 1 = .ok (.getfield 66, 3) := by decide +kernel
theorem dX8_verdict_4 : decode cX8_verdict 4 = .ok (.invokevirtual 277, 3) := by decide +kernel
theorem dX8_verdict_7 : decode cX8_verdict 7 = .ok (.ifCond .eq 6, 3) := by decide +kernel
theorem dX8_verdict_10 : decode cX8_verdict 10 = .ok (.bipush (-2), 2) := by decide +kernel
theorem dX8_verdict_12 : decode cX8_verdict 12 = .ok (.ireturn, 1) := by decide +kernel
theorem dX8_verdict_13 : decode cX8_verdict 13 = .ok (.aload_n 0, 1) := by decide +kernel
theorem dX8_verdict_14 : decode cX8_verdict 14 = .ok (.getfield 66, 3) := by decide +kernel
theorem dX8_verdict_17 : decode cX8_verdict 17 = .ok (.invokevirtual 296, 3) := by decide +kernel
theorem dX8_verdict_20 : decode cX8_verdict 20 = .ok (.istore_n 1, 1) := by decide +kernel
theorem dX8_verdict_21 : decode cX8_verdict 21 = .ok (.iload_n 1, 1) := by decide +kernel
theorem dX8_verdict_22 : decode cX8_verdict 22 = .ok (.aload_n 0, 1) := by decide +kernel
theorem dX8_verdict_23 : decode cX8_verdict 23 = .ok (.getfield 33, 3) := by decide +kernel
theorem dX8_verdict_26 : decode cX8_verdict 26 = .ok (.iconst 4, 1) := by decide +kernel
theorem dX8_verdict_27 : decode cX8_verdict 27 = .ok (.iaload, 1) := by decide +kernel
theorem dX8_verdict_28 : decode cX8_verdict 28 = .ok (.if_icmp .ge 5, 3) := by decide +kernel
theorem dX8_verdict_31 : decode cX8_verdict 31 = .ok (.iconst 1, 1) := by decide +kernel
theorem dX8_verdict_32 : decode cX8_verdict 32 = .ok (.ireturn, 1) := by decide +kernel
theorem dX8_verdict_33 : decode cX8_verdict 33 = .ok (.iload_n 1, 1) := by decide +kernel
theorem dX8_verdict_34 : decode cX8_verdict 34 = .ok (.sipush 500, 3) := by decide +kernel
theorem dX8_verdict_37 : decode cX8_verdict 37 = .ok (.if_icmp .lt 7, 3) := by decide +kernel
theorem dX8_verdict_40 : decode cX8_verdict 40 = .ok (.iconst 0, 1) := by decide +kernel
theorem dX8_verdict_41 : decode cX8_verdict 41 = .ok (.goto 5, 3) := by decide +kernel
theorem dX8_verdict_44 : decode cX8_verdict 44 = .ok (.bipush (-5), 2) := by decide +kernel
theorem dX8_verdict_46 : decode cX8_verdict 46 = .ok (.ireturn, 1) := by decide +kernel
set_option maxRecDepth 20000 in
theorem ggX8_sheet_X8_sheetAt : GoodIn wsX8_sheet wsX8_sheetAt := goodIn_r _ [5, 6, 7, 8, 4, 9, 25, 26, 27, 28, 29, 30, 31, 32, 33, 34, 35, 36, 37] (by decide +kernel) (by decide +kernel)
set_option maxRecDepth 20000 in
theorem gX8_sheet_X8_sheetAt : GoodIn wsX8_sheet (wsV RX8 109 RX8 yX8_sheetAt wsX8_sheetAt) := goodIn_app (goodIn_of _ (by decide +kernel)) ggX8_sheet_X8_sheetAt
set_option maxRecDepth 20000 in
theorem ggX8_sheet_X8_isLane : GoodIn wsX8_sheet wsX8_isLane := goodIn_r _ [12, 7, 8, 4, 9] (by decide +kernel) (by decide +kernel)
set_option maxRecDepth 20000 in
theorem gX8_sheet_X8_isLane : GoodIn wsX8_sheet (va_wsS RX8 113 yX8_isLane wsX8_isLane) := goodIn_app (goodIn_of _ (by decide +kernel)) ggX8_sheet_X8_isLane
set_option maxRecDepth 20000 in
theorem ggX8_sheet_X5_renew : GoodIn wsX8_sheet wsX5_renew := goodIn_r _ [17, 18, 19, 20, 21, 22, 23, 24, 38, 39, 40] (by decide +kernel) (by decide +kernel)
set_option maxRecDepth 20000 in
theorem gX8_sheet_X5_renew : GoodIn wsX8_sheet (wsV RX8 299 RX5 yX5_renew wsX5_renew) := goodIn_app (goodIn_of _ (by decide +kernel)) ggX8_sheet_X5_renew
theorem dX8_sheet_0 : decode cX8_sheet 0 = .ok (.aload_n 0, 1) := by decide +kernel
theorem dX8_sheet_1 : decode cX8_sheet 1 = .ok (.iload_n 1, 1) := by decide +kernel
theorem dX8_sheet_2 : decode cX8_sheet 2 = .ok (.invokevirtual 109, 3) := by decide +kernel
theorem dX8_sheet_5 : decode cX8_sheet 5 = .ok (.astore 4, 2) := by decide +kernel
theorem dX8_sheet_7 : decode cX8_sheet 7 = .ok (.aload 4, 2) := by decide +kernel
theorem dX8_sheet_9 : decode cX8_sheet 9 = .ok (.ifnull 16, 3) := by decide +kernel
theorem dX8_sheet_12 : decode cX8_sheet 12 = .ok (.iload_n 2, 1) := by decide +kernel
theorem dX8_sheet_13 : decode cX8_sheet 13 = .ok (.invokestatic 113, 3) := by decide +kernel
theorem dX8_sheet_16 : decode cX8_sheet 16 = .ok (.ifCond .eq 9, 3) := by decide +kernel
theorem dX8_sheet_19 : decode cX8_sheet 19 = .ok (.iload_n 3, 1) := by decide +kernel
theorem dX8_sheet_20 : decode cX8_sheet 20 = .ok (.bipush 40, 2) := by decide +kernel
theorem dX8_sheet_22 : decode cX8_sheet 22 = .ok (.if_icmp .le 5, 3) := by decide +kernel
theorem dX8_sheet_25 : decode cX8_sheet 25 = .ok (.iconst (-1), 1) := by decide +kernel
theorem dX8_sheet_26 : decode cX8_sheet 26 = .ok (.ireturn, 1) := by decide +kernel
theorem dX8_sheet_27 : decode cX8_sheet 27 = .ok (.iload_n 3, 1) := by decide +kernel
theorem dX8_sheet_28 : decode cX8_sheet 28 = .ok (.ifCond .ge 6, 3) := by decide +kernel
theorem dX8_sheet_31 : decode cX8_sheet 31 = .ok (.bipush (-14), 2) := by decide +kernel
theorem dX8_sheet_33 : decode cX8_sheet 33 = .ok (.ireturn, 1) := by decide +kernel
theorem dX8_sheet_34 : decode cX8_sheet 34 = .ok (.aload 4, 2) := by decide +kernel
theorem dX8_sheet_36 : decode cX8_sheet 36 = .ok (.iload_n 2, 1) := by decide +kernel
theorem dX8_sheet_37 : decode cX8_sheet 37 = .ok (.iload_n 3, 1) := by decide +kernel
theorem dX8_sheet_38 : decode cX8_sheet 38 = .ok (.invokevirtual 299, 3) := by decide +kernel
theorem dX8_sheet_41 : decode cX8_sheet 41 = .ok (.iload_n 3, 1) := by decide +kernel
theorem dX8_sheet_42 : decode cX8_sheet 42 = .ok (.ireturn, 1) := by decide +kernel
set_option maxRecDepth 20000 in
theorem ggX8_drop_X8_sheetAt : GoodIn wsX8_drop wsX8_sheetAt := goodIn_r _ [6, 7, 8, 9, 5, 10, 20, 21, 22, 23, 24, 25, 26, 27, 28, 29, 30, 31, 32] (by decide +kernel) (by decide +kernel)
set_option maxRecDepth 20000 in
theorem gX8_drop_X8_sheetAt : GoodIn wsX8_drop (wsV RX8 109 RX8 yX8_sheetAt wsX8_sheetAt) := goodIn_app (goodIn_of _ (by decide +kernel)) ggX8_drop_X8_sheetAt
set_option maxRecDepth 20000 in
theorem ggX8_drop_X5_isMissing : GoodIn wsX8_drop wsX5_isMissing := goodIn_r _ [15, 16, 17, 18, 19] (by decide +kernel) (by decide +kernel)
set_option maxRecDepth 20000 in
theorem gX8_drop_X5_isMissing : GoodIn wsX8_drop (wsV RX8 303 RX5 yX5_isMissing wsX5_isMissing) := goodIn_app (goodIn_of _ (by decide +kernel)) ggX8_drop_X5_isMissing
theorem dX8_drop_0 : decode cX8_drop 0 = .ok (.aload_n 0, 1) := by decide +kernel
theorem dX8_drop_1 : decode cX8_drop 1 = .ok (.iload_n 1, 1) := by decide +kernel
theorem dX8_drop_2 : decode cX8_drop 2 = .ok (.invokevirtual 109, 3) := by decide +kernel
theorem dX8_drop_5 : decode cX8_drop 5 = .ok (.astore_n 2, 1) := by decide +kernel
theorem dX8_drop_6 : decode cX8_drop 6 = .ok (.aload_n 2, 1) := by decide +kernel
theorem dX8_drop_7 : decode cX8_drop 7 = .ok (.ifnonnull 5, 3) := by decide +kernel
theorem dX8_drop_10 : decode cX8_drop 10 = .ok (.iconst (-1), 1) := by decide +kernel
theorem dX8_drop_11 : decode cX8_drop 11 = .ok (.ireturn, 1) := by decide +kernel
theorem dX8_drop_12 : decode cX8_drop 12 = .ok (.aload_n 2, 1) := by decide +kernel
theorem dX8_drop_13 : decode cX8_drop 13 = .ok (.invokevirtual 303, 3) := by decide +kernel
theorem dX8_drop_16 : decode cX8_drop 16 = .ok (.ifCond .eq 6, 3) := by decide +kernel
theorem dX8_drop_19 : decode cX8_drop 19 = .ok (.bipush (-11), 2) := by decide +kernel
theorem dX8_drop_21 : decode cX8_drop 21 = .ok (.ireturn, 1) := by decide +kernel
theorem dX8_drop_22 : decode cX8_drop 22 = .ok (.aload_n 2, 1) := by decide +kernel
theorem dX8_drop_23 : decode cX8_drop 23 = .ok (.getfield 306, 3) := by decide +kernel
theorem dX8_drop_26 : decode cX8_drop 26 = .ok (.istore_n 3, 1) := by decide +kernel
theorem dX8_drop_27 : decode cX8_drop 27 = .ok (.aload_n 2, 1) := by decide +kernel
theorem dX8_drop_28 : decode cX8_drop 28 = .ok (.iconst (-1), 1) := by decide +kernel
theorem dX8_drop_29 : decode cX8_drop 29 = .ok (.putfield 306, 3) := by decide +kernel
theorem dX8_drop_32 : decode cX8_drop 32 = .ok (.iload_n 3, 1) := by decide +kernel
theorem dX8_drop_33 : decode cX8_drop 33 = .ok (.ireturn, 1) := by decide +kernel
set_option maxRecDepth 20000 in
theorem ggX8_item_X8_sheetAt : GoodIn wsX8_item wsX8_sheetAt := goodIn_r _ [5, 6, 7, 8, 4, 9, 37, 38, 39, 40, 41, 42, 43, 44, 45, 46, 47, 48, 49] (by decide +kernel) (by decide +kernel)
set_option maxRecDepth 20000 in
theorem gX8_item_X8_sheetAt : GoodIn wsX8_item (wsV RX8 109 RX8 yX8_sheetAt wsX8_sheetAt) := goodIn_app (goodIn_of _ (by decide +kernel)) ggX8_item_X8_sheetAt
set_option maxRecDepth 20000 in
theorem ggX8_item_X8_isLane : GoodIn wsX8_item wsX8_isLane := goodIn_r _ [12, 7, 8, 4, 9] (by decide +kernel) (by decide +kernel)
set_option maxRecDepth 20000 in
theorem gX8_item_X8_isLane : GoodIn wsX8_item (va_wsS RX8 113 yX8_isLane wsX8_isLane) := goodIn_app (goodIn_of _ (by decide +kernel)) ggX8_item_X8_isLane
set_option maxRecDepth 20000 in
theorem ggX8_item_X5_refusal : GoodIn wsX8_item wsX5_refusal := goodIn_r _ [17, 18, 19, 20, 21, 16, 22, 23, 24, 25, 26, 27, 50, 51, 52] (by decide +kernel) (by decide +kernel)
set_option maxRecDepth 20000 in
theorem gX8_item_X5_refusal : GoodIn wsX8_item (wsV RX8 116 RX5 yX5_refusal wsX5_refusal) := goodIn_app (goodIn_of _ (by decide +kernel)) ggX8_item_X5_refusal
set_option maxRecDepth 20000 in
theorem ggX8_item_X5_write : GoodIn wsX8_item wsX5_write := goodIn_r _ [31, 23, 32, 33, 34, 35, 16, 36, 18, 50, 51, 52] (by decide +kernel) (by decide +kernel)
set_option maxRecDepth 20000 in
theorem gX8_item_X5_write : GoodIn wsX8_item (wsV RX8 307 RX5 yX5_write wsX5_write) := goodIn_app (goodIn_of _ (by decide +kernel)) ggX8_item_X5_write
theorem dX8_item_0 : decode cX8_item 0 = .ok (.aload_n 0, 1) := by decide +kernel
theorem dX8_item_1 : decode cX8_item 1 = .ok (.iload_n 1, 1) := by decide +kernel
theorem dX8_item_2 : decode cX8_item 2 = .ok (.invokevirtual 109, 3) := by decide +kernel
theorem dX8_item_5 : decode cX8_item 5 = .ok (.astore 5, 2) := by decide +kernel
theorem dX8_item_7 : decode cX8_item 7 = .ok (.aload 5, 2) := by decide +kernel
theorem dX8_item_9 : decode cX8_item 9 = .ok (.ifnull 10, 3) := by decide +kernel
theorem dX8_item_12 : decode cX8_item 12 = .ok (.iload_n 2, 1) := by decide +kernel
theorem dX8_item_13 : decode cX8_item 13 = .ok (.invokestatic 113, 3) := by decide +kernel
theorem dX8_item_16 : decode cX8_item 16 = .ok (.ifCond .ne 5, 3) := by decide +kernel
theorem dX8_item_19 : decode cX8_item 19 = .ok (.iconst (-1), 1) := by decide +kernel
theorem dX8_item_20 : decode cX8_item 20 = .ok (.ireturn, 1) := by decide +kernel
theorem dX8_item_21 : decode cX8_item 21 = .ok (.aload 5, 2) := by decide +kernel
theorem dX8_item_23 : decode cX8_item 23 = .ok (.iload_n 2, 1) := by decide +kernel
theorem dX8_item_24 : decode cX8_item 24 = .ok (.iload_n 3, 1) := by decide +kernel
theorem dX8_item_25 : decode cX8_item 25 = .ok (.iconst 1, 1) := by decide +kernel
theorem dX8_item_26 : decode cX8_item 26 = .ok (.invokevirtual 116, 3) := by decide +kernel
theorem dX8_item_29 : decode cX8_item 29 = .ok (.istore 6, 2) := by decide +kernel
theorem dX8_item_31 : decode cX8_item 31 = .ok (.iload 6, 2) := by decide +kernel
theorem dX8_item_33 : decode cX8_item 33 = .ok (.ifCond .ge 6, 3) := by decide +kernel
theorem dX8_item_36 : decode cX8_item 36 = .ok (.iload 6, 2) := by decide +kernel
theorem dX8_item_38 : decode cX8_item 38 = .ok (.ireturn, 1) := by decide +kernel
theorem dX8_item_39 : decode cX8_item 39 = .ok (.aload 5, 2) := by decide +kernel
theorem dX8_item_41 : decode cX8_item 41 = .ok (.iload_n 3, 1) := by decide +kernel
theorem dX8_item_42 : decode cX8_item 42 = .ok (.iload 4, 2) := by decide +kernel
theorem dX8_item_44 : decode cX8_item 44 = .ok (.invokevirtual 307, 3) := by decide +kernel
theorem dX8_item_47 : decode cX8_item 47 = .ok (.iconst 1, 1) := by decide +kernel
theorem dX8_item_48 : decode cX8_item 48 = .ok (.ireturn, 1) := by decide +kernel
set_option maxRecDepth 20000 in
theorem ggX8_copy_X8_sheetAt : GoodIn wsX8_copy wsX8_sheetAt := goodIn_r _ [11, 12, 13, 14, 10, 15, 29, 30, 31, 32, 33, 34, 35, 36, 37, 38, 39, 40, 41] (by decide +kernel) (by decide +kernel)
set_option maxRecDepth 20000 in
theorem gX8_copy_X8_sheetAt : GoodIn wsX8_copy (wsV RX8 109 RX8 yX8_sheetAt wsX8_sheetAt) := goodIn_app (goodIn_of _ (by decide +kernel)) ggX8_copy_X8_sheetAt
set_option maxRecDepth 20000 in
theorem ggX8_copy_X5_isMissing : GoodIn wsX8_copy wsX5_isMissing := goodIn_r _ [20, 21, 26, 27, 28] (by decide +kernel) (by decide +kernel)
set_option maxRecDepth 20000 in
theorem gX8_copy_X5_isMissing : GoodIn wsX8_copy (wsV RX8 303 RX5 yX5_isMissing wsX5_isMissing) := goodIn_app (goodIn_of _ (by decide +kernel)) ggX8_copy_X5_isMissing
set_option maxRecDepth 20000 in
theorem ggX8_copy_X5_holds : GoodIn wsX8_copy wsX5_holds := goodIn_r _ [25, 21, 26, 27, 28] (by decide +kernel) (by decide +kernel)
set_option maxRecDepth 20000 in
theorem gX8_copy_X5_holds : GoodIn wsX8_copy (wsV RX8 313 RX5 yX5_holds wsX5_holds) := goodIn_app (goodIn_of _ (by decide +kernel)) ggX8_copy_X5_holds
theorem dX8_copy_0 : decode cX8_copy 0 = .ok (.aload_n 0, 1) := by decide +kernel
theorem dX8_copy_1 : decode cX8_copy 1 = .ok (.iload_n 1, 1) := by decide +kernel
theorem dX8_copy_2 : decode cX8_copy 2 = .ok (.invokevirtual 109, 3) := by decide +kernel
theorem dX8_copy_5 : decode cX8_copy 5 = .ok (.astore 6, 2) := by decide +kernel
theorem dX8_copy_7 : decode cX8_copy 7 = .ok (.aload_n 0, 1) := by decide +kernel
theorem dX8_copy_8 : decode cX8_copy 8 = .ok (.iload_n 3, 1) := by decide +kernel
theorem dX8_copy_9 : decode cX8_copy 9 = .ok (.invokevirtual 109, 3) := by decide +kernel
theorem dX8_copy_12 : decode cX8_copy 12 = .ok (.astore 7, 2) := by decide +kernel
theorem dX8_copy_14 : decode cX8_copy 14 = .ok (.aload 6, 2) := by decide +kernel
theorem dX8_copy_16 : decode cX8_copy 16 = .ok (.ifnull 8, 3) := by decide +kernel
theorem dX8_copy_19 : decode cX8_copy 19 = .ok (.aload 7, 2) := by decide +kernel
theorem dX8_copy_21 : decode cX8_copy 21 = .ok (.ifnonnull 5, 3) := by decide +kernel
theorem dX8_copy_24 : decode cX8_copy 24 = .ok (.iconst (-1), 1) := by decide +kernel
theorem dX8_copy_25 : decode cX8_copy 25 = .ok (.ireturn, 1) := by decide +kernel
theorem dX8_copy_26 : decode cX8_copy 26 = .ok (.aload 6, 2) := by decide +kernel
theorem dX8_copy_28 : decode cX8_copy 28 = .ok (.invokevirtual 303, 3) := by decide +kernel
theorem dX8_copy_31 : decode cX8_copy 31 = .ok (.ifCond .ne 11, 3) := by decide +kernel
theorem dX8_copy_34 : decode cX8_copy 34 = .ok (.aload 7, 2) := by decide +kernel
theorem dX8_copy_36 : decode cX8_copy 36 = .ok (.invokevirtual 303, 3) := by decide +kernel
theorem dX8_copy_39 : decode cX8_copy 39 = .ok (.ifCond .eq 6, 3) := by decide +kernel
theorem dX8_copy_42 : decode cX8_copy 42 = .ok (.bipush (-11), 2) := by decide +kernel
theorem dX8_copy_44 : decode cX8_copy 44 = .ok (.ireturn, 1) := by decide +kernel
theorem dX8_copy_45 : decode cX8_copy 45 = .ok (.aload 6, 2) := by decide +kernel
theorem dX8_copy_47 : decode cX8_copy 47 = .ok (.getfield 310, 3) := by decide +kernel
theorem dX8_copy_50 : decode cX8_copy 50 = .ok (.aload 7, 2) := by decide +kernel
theorem dX8_copy_52 : decode cX8_copy 52 = .ok (.getfield 310, 3) := by decide +kernel
theorem dX8_copy_55 : decode cX8_copy 55 = .ok (.if_icmp .eq 6, 3) := by decide +kernel
theorem dX8_copy_58 : decode cX8_copy 58 = .ok (.bipush (-12), 2) := by decide +kernel
theorem dX8_copy_60 : decode cX8_copy 60 = .ok (.ireturn, 1) := by decide +kernel
theorem dX8_copy_61 : decode cX8_copy 61 = .ok (.aload 6, 2) := by decide +kernel
theorem dX8_copy_63 : decode cX8_copy 63 = .ok (.iload_n 2, 1) := by decide +kernel
theorem dX8_copy_64 : decode cX8_copy 64 = .ok (.iload 5, 2) := by decide +kernel
theorem dX8_copy_66 : decode cX8_copy 66 = .ok (.invokevirtual 313, 3) := by decide +kernel
theorem dX8_copy_69 : decode cX8_copy 69 = .ok (.ifCond .eq 15, 3) := by decide +kernel
theorem dX8_copy_72 : decode cX8_copy 72 = .ok (.aload 7, 2) := by decide +kernel
theorem dX8_copy_74 : decode cX8_copy 74 = .ok (.iload 4, 2) := by decide +kernel
theorem dX8_copy_76 : decode cX8_copy 76 = .ok (.iload 5, 2) := by decide +kernel
theorem dX8_copy_78 : decode cX8_copy 78 = .ok (.invokevirtual 313, 3) := by decide +kernel
theorem dX8_copy_81 : decode cX8_copy 81 = .ok (.ifCond .ne 6, 3) := by decide +kernel
theorem dX8_copy_84 : decode cX8_copy 84 = .ok (.bipush (-13), 2) := by decide +kernel
theorem dX8_copy_86 : decode cX8_copy 86 = .ok (.ireturn, 1) := by decide +kernel
theorem dX8_copy_87 : decode cX8_copy 87 = .ok (.aload 6, 2) := by decide +kernel
theorem dX8_copy_89 : decode cX8_copy 89 = .ok (.getfield 316, 3) := by decide +kernel
theorem dX8_copy_92 : decode cX8_copy 92 = .ok (.iload_n 2, 1) := by decide +kernel
theorem dX8_copy_93 : decode cX8_copy 93 = .ok (.aload 7, 2) := by decide +kernel
theorem dX8_copy_95 : decode cX8_copy 95 = .ok (.getfield 316, 3) := by decide +kernel
theorem dX8_copy_98 : decode cX8_copy 98 = .ok (.iload 4, 2) := by decide +kernel
theorem dX8_copy_100 : decode cX8_copy 100 = .ok (.iload 5, 2) := by decide +kernel
theorem dX8_copy_102 : decode cX8_copy 102 = .ok (.invokestatic 319, 3) := by decide +kernel
theorem dX8_copy_105 : decode cX8_copy 105 = .ok (.iload 5, 2) := by decide +kernel
theorem dX8_copy_107 : decode cX8_copy 107 = .ok (.ireturn, 1) := by decide +kernel
set_option maxRecDepth 20000 in
theorem ggX8_learnerAt_X8_within : GoodIn wsX8_learnerAt wsX8_within := goodIn_r _ [6] (by decide +kernel) (by decide +kernel)
set_option maxRecDepth 20000 in
theorem gX8_learnerAt_X8_within : GoodIn wsX8_learnerAt (va_wsS RX8 89 yX8_within wsX8_within) := goodIn_app (goodIn_of _ (by decide +kernel)) ggX8_learnerAt_X8_within
theorem dX8_learnerAt_0 : decode cX8_learnerAt 0 = .ok (.iload_n 1, 1) := by decide +kernel
theorem dX8_learnerAt_1 : decode cX8_learnerAt 1 = .ok (.iconst 0, 1) := by decide +kernel
theorem dX8_learnerAt_2 : decode cX8_learnerAt 2 = .ok (.aload_n 0, 1) := by decide +kernel
theorem dX8_learnerAt_3 : decode cX8_learnerAt 3 = .ok (.getfield 29, 3) := by decide +kernel
theorem dX8_learnerAt_6 : decode cX8_learnerAt 6 = .ok (.iconst 1, 1) := by decide +kernel
theorem dX8_learnerAt_7 : decode cX8_learnerAt 7 = .ok (.isub, 1) := by decide +kernel
theorem dX8_learnerAt_8 : decode cX8_learnerAt 8 = .ok (.invokestatic 89, 3) := by decide +kernel
theorem dX8_learnerAt_11 : decode cX8_learnerAt 11 = .ok (.ifCond .eq 12, 3) := by decide +kernel
theorem dX8_learnerAt_14 : decode cX8_learnerAt 14 = .ok (.aload_n 0, 1) := by decide +kernel
theorem dX8_learnerAt_15 : decode cX8_learnerAt 15 = .ok (.getfield 25, 3) := by decide +kernel
theorem dX8_learnerAt_18 : decode cX8_learnerAt 18 = .ok (.iload_n 1, 1) := by decide +kernel
theorem dX8_learnerAt_19 : decode cX8_learnerAt 19 = .ok (.aaload, 1) := by decide +kernel
theorem dX8_learnerAt_20 : decode cX8_learnerAt 20 = .ok (.goto 4, 3) := by decide +kernel
theorem dX8_learnerAt_23 : decode cX8_learnerAt 23 = .ok (.aconst_null, 1) := by decide +kernel
theorem dX8_learnerAt_24 : decode cX8_learnerAt 24 = .ok (.areturn, 1) := by decide +kernel
set_option maxRecDepth 20000 in
theorem ggX8_sheetAt_X8_within : GoodIn wsX8_sheetAt wsX8_within := goodIn_r _ [5] (by decide +kernel) (by decide +kernel)
set_option maxRecDepth 20000 in
theorem gX8_sheetAt_X8_within : GoodIn wsX8_sheetAt (va_wsS RX8 89 yX8_within wsX8_within) := goodIn_app (goodIn_of _ (by decide +kernel)) ggX8_sheetAt_X8_within
theorem dX8_sheetAt_0 : decode cX8_sheetAt 0 = .ok (.iload_n 1, 1) := by decide +kernel
theorem dX8_sheetAt_1 : decode cX8_sheetAt 1 = .ok (.iconst 0, 1) := by decide +kernel
theorem dX8_sheetAt_2 : decode cX8_sheetAt 2 = .ok (.iconst 3, 1) := by decide +kernel
theorem dX8_sheetAt_3 : decode cX8_sheetAt 3 = .ok (.invokestatic 89, 3) := by decide +kernel
theorem dX8_sheetAt_6 : decode cX8_sheetAt 6 = .ok (.ifCond .eq 12, 3) := by decide +kernel
theorem dX8_sheetAt_9 : decode cX8_sheetAt 9 = .ok (.aload_n 0, 1) := by decide +kernel
theorem dX8_sheetAt_10 : decode cX8_sheetAt 10 = .ok (.getfield 73, 3) := by decide +kernel
theorem dX8_sheetAt_13 : decode cX8_sheetAt 13 = .ok (.iload_n 1, 1) := by decide +kernel
theorem dX8_sheetAt_14 : decode cX8_sheetAt 14 = .ok (.aaload, 1) := by decide +kernel
theorem dX8_sheetAt_15 : decode cX8_sheetAt 15 = .ok (.goto 4, 3) := by decide +kernel
theorem dX8_sheetAt_18 : decode cX8_sheetAt 18 = .ok (.aconst_null, 1) := by decide +kernel
theorem dX8_sheetAt_19 : decode cX8_sheetAt 19 = .ok (.areturn, 1) := by decide +kernel
theorem dX8_within_0 : decode cX8_within 0 = .ok (.iload_n 0, 1) := by decide +kernel
theorem dX8_within_1 : decode cX8_within 1 = .ok (.iload_n 1, 1) := by decide +kernel
theorem dX8_within_2 : decode cX8_within 2 = .ok (.if_icmp .lt 12, 3) := by decide +kernel
theorem dX8_within_5 : decode cX8_within 5 = .ok (.iload_n 0, 1) := by decide +kernel
theorem dX8_within_6 : decode cX8_within 6 = .ok (.iload_n 2, 1) := by decide +kernel
theorem dX8_within_7 : decode cX8_within 7 = .ok (.if_icmp .gt 7, 3) := by decide +kernel
theorem dX8_within_10 : decode cX8_within 10 = .ok (.iconst 1, 1) := by decide +kernel
theorem dX8_within_11 : decode cX8_within 11 = .ok (.goto 4, 3) := by decide +kernel
theorem dX8_within_14 : decode cX8_within 14 = .ok (.iconst 0, 1) := by decide +kernel
theorem dX8_within_15 : decode cX8_within 15 = .ok (.ireturn, 1) := by decide +kernel
set_option maxRecDepth 20000 in
theorem ggX8_isNumber_X8_within : GoodIn wsX8_isNumber wsX8_within := goodIn_r _ [4] (by decide +kernel) (by decide +kernel)
set_option maxRecDepth 20000 in
theorem gX8_isNumber_X8_within : GoodIn wsX8_isNumber (va_wsS RX8 89 yX8_within wsX8_within) := goodIn_app (goodIn_of _ (by decide +kernel)) ggX8_isNumber_X8_within
theorem dX8_isNumber_0 : decode cX8_isNumber 0 = .ok (.iload_n 0, 1) := by decide +kernel
theorem dX8_isNumber_1 : decode cX8_isNumber 1 = .ok (.iconst 0, 1) := by decide +kernel
theorem dX8_isNumber_2 : decode cX8_isNumber 2 = .ok (.sipush 999, 3) := by decide +kernel
theorem dX8_isNumber_5 : decode cX8_isNumber 5 = .ok (.invokestatic 89, 3) := by decide +kernel
theorem dX8_isNumber_8 : decode cX8_isNumber 8 = .ok (.ireturn, 1) := by decide +kernel
set_option maxRecDepth 20000 in
theorem ggX8_isTask_X8_isNumber : GoodIn wsX8_isTask wsX8_isNumber := goodIn_r _ [4, 5, 6, 3, 7] (by decide +kernel) (by decide +kernel)
set_option maxRecDepth 20000 in
theorem gX8_isTask_X8_isNumber : GoodIn wsX8_isTask (va_wsS RX8 99 yX8_isNumber wsX8_isNumber) := goodIn_app (goodIn_of _ (by decide +kernel)) ggX8_isTask_X8_isNumber
set_option maxRecDepth 20000 in
theorem ggX8_isTask_X8_within : GoodIn wsX8_isTask wsX8_within := goodIn_r _ [7] (by decide +kernel) (by decide +kernel)
set_option maxRecDepth 20000 in
theorem gX8_isTask_X8_within : GoodIn wsX8_isTask (va_wsS RX8 89 yX8_within wsX8_within) := goodIn_app (goodIn_of _ (by decide +kernel)) ggX8_isTask_X8_within
theorem dX8_isTask_0 : decode cX8_isTask 0 = .ok (.iload_n 1, 1) := by decide +kernel
theorem dX8_isTask_1 : decode cX8_isTask 1 = .ok (.invokestatic 99, 3) := by decide +kernel
theorem dX8_isTask_4 : decode cX8_isTask 4 = .ok (.ifCond .eq 18, 3) := by decide +kernel
theorem dX8_isTask_7 : decode cX8_isTask 7 = .ok (.iload_n 0, 1) := by decide +kernel
theorem dX8_isTask_8 : decode cX8_isTask 8 = .ok (.iload_n 1, 1) := by decide +kernel
theorem dX8_isTask_9 : decode cX8_isTask 9 = .ok (.sipush 999, 3) := by decide +kernel
theorem dX8_isTask_12 : decode cX8_isTask 12 = .ok (.invokestatic 89, 3) := by decide +kernel
theorem dX8_isTask_15 : decode cX8_isTask 15 = .ok (.ifCond .eq 7, 3) := by decide +kernel
theorem dX8_isTask_18 : decode cX8_isTask 18 = .ok (.iconst 1, 1) := by decide +kernel
theorem dX8_isTask_19 : decode cX8_isTask 19 = .ok (.goto 4, 3) := by decide +kernel
theorem dX8_isTask_22 : decode cX8_isTask 22 = .ok (.iconst 0, 1) := by decide +kernel
theorem dX8_isTask_23 : decode cX8_isTask 23 = .ok (.ireturn, 1) := by decide +kernel
set_option maxRecDepth 20000 in
theorem ggX8_isSet_X8_within : GoodIn wsX8_isSet wsX8_within := goodIn_r _ [4] (by decide +kernel) (by decide +kernel)
set_option maxRecDepth 20000 in
theorem gX8_isSet_X8_within : GoodIn wsX8_isSet (va_wsS RX8 89 yX8_within wsX8_within) := goodIn_app (goodIn_of _ (by decide +kernel)) ggX8_isSet_X8_within
theorem dX8_isSet_0 : decode cX8_isSet 0 = .ok (.iload_n 0, 1) := by decide +kernel
theorem dX8_isSet_1 : decode cX8_isSet 1 = .ok (.iconst 0, 1) := by decide +kernel
theorem dX8_isSet_2 : decode cX8_isSet 2 = .ok (.sipush 255, 3) := by decide +kernel
theorem dX8_isSet_5 : decode cX8_isSet 5 = .ok (.invokestatic 89, 3) := by decide +kernel
theorem dX8_isSet_8 : decode cX8_isSet 8 = .ok (.ireturn, 1) := by decide +kernel
set_option maxRecDepth 20000 in
theorem ggX8_isLane_X8_within : GoodIn wsX8_isLane wsX8_within := goodIn_r _ [4] (by decide +kernel) (by decide +kernel)
set_option maxRecDepth 20000 in
theorem gX8_isLane_X8_within : GoodIn wsX8_isLane (va_wsS RX8 89 yX8_within wsX8_within) := goodIn_app (goodIn_of _ (by decide +kernel)) ggX8_isLane_X8_within
theorem dX8_isLane_0 : decode cX8_isLane 0 = .ok (.iload_n 0, 1) := by decide +kernel
theorem dX8_isLane_1 : decode cX8_isLane 1 = .ok (.iconst 0, 1) := by decide +kernel
theorem dX8_isLane_2 : decode cX8_isLane 2 = .ok (.iconst 2, 1) := by decide +kernel
theorem dX8_isLane_3 : decode cX8_isLane 3 = .ok (.invokestatic 89, 3) := by decide +kernel
theorem dX8_isLane_6 : decode cX8_isLane 6 = .ok (.ireturn, 1) := by decide +kernel
set_option maxRecDepth 20000 in
theorem ggX8_isDay_X8_within : GoodIn wsX8_isDay wsX8_within := goodIn_r _ [4] (by decide +kernel) (by decide +kernel)
set_option maxRecDepth 20000 in
theorem gX8_isDay_X8_within : GoodIn wsX8_isDay (va_wsS RX8 89 yX8_within wsX8_within) := goodIn_app (goodIn_of _ (by decide +kernel)) ggX8_isDay_X8_within
theorem dX8_isDay_0 : decode cX8_isDay 0 = .ok (.iload_n 0, 1) := by decide +kernel
theorem dX8_isDay_1 : decode cX8_isDay 1 = .ok (.iconst 0, 1) := by decide +kernel
theorem dX8_isDay_2 : decode cX8_isDay 2 = .ok (.sipush 9999, 3) := by decide +kernel
theorem dX8_isDay_5 : decode cX8_isDay 5 = .ok (.invokestatic 89, 3) := by decide +kernel
theorem dX8_isDay_8 : decode cX8_isDay 8 = .ok (.ireturn, 1) := by decide +kernel
theorem dX8_placeInOrder_0 : decode cX8_placeInOrder 0 = .ok (.iconst 0, 1) := by decide +kernel
theorem dX8_placeInOrder_1 : decode cX8_placeInOrder 1 = .ok (.istore_n 1, 1) := by decide +kernel
theorem dX8_placeInOrder_2 : decode cX8_placeInOrder 2 = .ok (.iload_n 1, 1) := by decide +kernel
theorem dX8_placeInOrder_3 : decode cX8_placeInOrder 3 = .ok (.getstatic 102, 3) := by decide +kernel
theorem dX8_placeInOrder_6 : decode cX8_placeInOrder 6 = .ok (.arraylength, 1) := by decide +kernel
theorem dX8_placeInOrder_7 : decode cX8_placeInOrder 7 = .ok (.if_icmp .ge 20, 3) := by decide +kernel
theorem dX8_placeInOrder_10 : decode cX8_placeInOrder 10 = .ok (.getstatic 102, 3) := by decide +kernel
theorem dX8_placeInOrder_13 : decode cX8_placeInOrder 13 = .ok (.iload_n 1, 1) := by decide +kernel
theorem dX8_placeInOrder_14 : decode cX8_placeInOrder 14 = .ok (.iaload, 1) := by decide +kernel
theorem dX8_placeInOrder_15 : decode cX8_placeInOrder 15 = .ok (.iload_n 0, 1) := by decide +kernel
theorem dX8_placeInOrder_16 : decode cX8_placeInOrder 16 = .ok (.if_icmp .ne 5, 3) := by decide +kernel
theorem dX8_placeInOrder_19 : decode cX8_placeInOrder 19 = .ok (.iload_n 1, 1) := by decide +kernel
theorem dX8_placeInOrder_20 : decode cX8_placeInOrder 20 = .ok (.ireturn, 1) := by decide +kernel
theorem dX8_placeInOrder_21 : decode cX8_placeInOrder 21 = .ok (.iinc 1 1, 3) := by decide +kernel
theorem dX8_placeInOrder_24 : decode cX8_placeInOrder 24 = .ok (.goto (-22), 3) := by decide +kernel
theorem dX8_placeInOrder_27 : decode cX8_placeInOrder 27 = .ok (.iconst (-1), 1) := by decide +kernel
theorem dX8_placeInOrder_28 : decode cX8_placeInOrder 28 = .ok (.ireturn, 1) := by decide +kernel
theorem dX8_taskNumber_0 : decode cX8_taskNumber 0 = .ok (.sipush 1000, 3) := by decide +kernel
theorem dX8_taskNumber_3 : decode cX8_taskNumber 3 = .ok (.iload_n 0, 1) := by decide +kernel
theorem dX8_taskNumber_4 : decode cX8_taskNumber 4 = .ok (.imul, 1) := by decide +kernel
theorem dX8_taskNumber_5 : decode cX8_taskNumber 5 = .ok (.iload_n 1, 1) := by decide +kernel
theorem dX8_taskNumber_6 : decode cX8_taskNumber 6 = .ok (.iadd, 1) := by decide +kernel
theorem dX8_taskNumber_7 : decode cX8_taskNumber 7 = .ok (.ireturn, 1) := by decide +kernel
set_option maxRecDepth 20000 in
theorem ggX8_caseNumber_X8_taskNumber : GoodIn wsX8_caseNumber wsX8_taskNumber := goodIn_r _ [4] (by decide +kernel) (by decide +kernel)
set_option maxRecDepth 20000 in
theorem gX8_caseNumber_X8_taskNumber : GoodIn wsX8_caseNumber (va_wsS RX8 105 yX8_taskNumber wsX8_taskNumber) := goodIn_app (goodIn_of _ (by decide +kernel)) ggX8_caseNumber_X8_taskNumber
theorem dX8_caseNumber_0 : decode cX8_caseNumber 0 = .ok (.sipush 1000, 3) := by decide +kernel
theorem dX8_caseNumber_3 : decode cX8_caseNumber 3 = .ok (.iload_n 0, 1) := by decide +kernel
theorem dX8_caseNumber_4 : decode cX8_caseNumber 4 = .ok (.iload_n 1, 1) := by decide +kernel
theorem dX8_caseNumber_5 : decode cX8_caseNumber 5 = .ok (.invokestatic 105, 3) := by decide +kernel
theorem dX8_caseNumber_8 : decode cX8_caseNumber 8 = .ok (.imul, 1) := by decide +kernel
theorem dX8_caseNumber_9 : decode cX8_caseNumber 9 = .ok (.iload_n 2, 1) := by decide +kernel
theorem dX8_caseNumber_10 : decode cX8_caseNumber 10 = .ok (.iadd, 1) := by decide +kernel
theorem dX8_caseNumber_11 : decode cX8_caseNumber 11 = .ok (.ireturn, 1) := by decide +kernel
theorem dX8_muchOf_0 : decode cX8_muchOf 0 = .ok (.iload_n 0, 1) := by decide +kernel
theorem dX8_muchOf_1 : decode cX8_muchOf 1 = .ok (.ldc_w 325, 3) := by decide +kernel
theorem dX8_muchOf_4 : decode cX8_muchOf 4 = .ok (.idiv, 1) := by decide +kernel
theorem dX8_muchOf_5 : decode cX8_muchOf 5 = .ok (.ireturn, 1) := by decide +kernel
theorem dX8_lessOf_0 : decode cX8_lessOf 0 = .ok (.iload_n 0, 1) := by decide +kernel
theorem dX8_lessOf_1 : decode cX8_lessOf 1 = .ok (.sipush 1000, 3) := by decide +kernel
theorem dX8_lessOf_4 : decode cX8_lessOf 4 = .ok (.idiv, 1) := by decide +kernel
theorem dX8_lessOf_5 : decode cX8_lessOf 5 = .ok (.sipush 1000, 3) := by decide +kernel
theorem dX8_lessOf_8 : decode cX8_lessOf 8 = .ok (.irem, 1) := by decide +kernel
theorem dX8_lessOf_9 : decode cX8_lessOf 9 = .ok (.ireturn, 1) := by decide +kernel
theorem dX8_answerOf_0 : decode cX8_answerOf 0 = .ok (.iload_n 0, 1) := by decide +kernel
theorem dX8_answerOf_1 : decode cX8_answerOf 1 = .ok (.sipush 1000, 3) := by decide +kernel
theorem dX8_answerOf_4 : decode cX8_answerOf 4 = .ok (.irem, 1) := by decide +kernel
theorem dX8_answerOf_5 : decode cX8_answerOf 5 = .ok (.ireturn, 1) := by decide +kernel
theorem dX8_digitOf_0 : decode cX8_digitOf 0 = .ok (.iload_n 1, 1) := by decide +kernel
theorem dX8_digitOf_1 : decode cX8_digitOf 1 = .ok (.lookupswitch 40 #[(0, 27), (1, 32)], 27) := by decide +kernel
theorem dX8_digitOf_28 : decode cX8_digitOf 28 = .ok (.iload_n 0, 1) := by decide +kernel
theorem dX8_digitOf_29 : decode cX8_digitOf 29 = .ok (.bipush 10, 2) := by decide +kernel
theorem dX8_digitOf_31 : decode cX8_digitOf 31 = .ok (.irem, 1) := by decide +kernel
theorem dX8_digitOf_32 : decode cX8_digitOf 32 = .ok (.ireturn, 1) := by decide +kernel
theorem dX8_digitOf_33 : decode cX8_digitOf 33 = .ok (.iload_n 0, 1) := by decide +kernel
theorem dX8_digitOf_34 : decode cX8_digitOf 34 = .ok (.bipush 10, 2) := by decide +kernel
theorem dX8_digitOf_36 : decode cX8_digitOf 36 = .ok (.idiv, 1) := by decide +kernel
theorem dX8_digitOf_37 : decode cX8_digitOf 37 = .ok (.bipush 10, 2) := by decide +kernel
theorem dX8_digitOf_39 : decode cX8_digitOf 39 = .ok (.irem, 1) := by decide +kernel
theorem dX8_digitOf_40 : decode cX8_digitOf 40 = .ok (.ireturn, 1) := by decide +kernel
theorem dX8_digitOf_41 : decode cX8_digitOf 41 = .ok (.iload_n 0, 1) := by decide +kernel
theorem dX8_digitOf_42 : decode cX8_digitOf 42 = .ok (.bipush 100, 2) := by decide +kernel
theorem dX8_digitOf_44 : decode cX8_digitOf 44 = .ok (.idiv, 1) := by decide +kernel
theorem dX8_digitOf_45 : decode cX8_digitOf 45 = .ok (.bipush 10, 2) := by decide +kernel
theorem dX8_digitOf_47 : decode cX8_digitOf 47 = .ok (.irem, 1) := by decide +kernel
theorem dX8_digitOf_48 : decode cX8_digitOf 48 = .ok (.ireturn, 1) := by decide +kernel
theorem dX8_byteOf_0 : decode cX8_byteOf 0 = .ok (.lload_n 0, 1) := by decide +kernel
theorem dX8_byteOf_1 : decode cX8_byteOf 1 = .ok (.bipush 8, 2) := by decide +kernel
theorem dX8_byteOf_3 : decode cX8_byteOf 3 = .ok (.iload_n 2, 1) := by decide +kernel
theorem dX8_byteOf_4 : decode cX8_byteOf 4 = .ok (.imul, 1) := by decide +kernel
theorem dX8_byteOf_5 : decode cX8_byteOf 5 = .ok (.lushr, 1) := by decide +kernel
theorem dX8_byteOf_6 : decode cX8_byteOf 6 = .ok (.l2i, 1) := by decide +kernel
theorem dX8_byteOf_7 : decode cX8_byteOf 7 = .ok (.sipush 255, 3) := by decide +kernel
theorem dX8_byteOf_10 : decode cX8_byteOf 10 = .ok (.iand, 1) := by decide +kernel
theorem dX8_byteOf_11 : decode cX8_byteOf 11 = .ok (.ireturn, 1) := by decide +kernel
theorem dX8_total_0 : decode cX8_total 0 = .ok (.iconst 0, 1) := by decide +kernel
theorem dX8_total_1 : decode cX8_total 1 = .ok (.istore_n 2, 1) := by decide +kernel
theorem dX8_total_2 : decode cX8_total 2 = .ok (.iconst 0, 1) := by decide +kernel
theorem dX8_total_3 : decode cX8_total 3 = .ok (.istore_n 3, 1) := by decide +kernel
theorem dX8_total_4 : decode cX8_total 4 = .ok (.iload_n 3, 1) := by decide +kernel
theorem dX8_total_5 : decode cX8_total 5 = .ok (.bipush 8, 2) := by decide +kernel
theorem dX8_total_7 : decode cX8_total 7 = .ok (.if_icmp .ge 30, 3) := by decide +kernel
theorem dX8_total_10 : decode cX8_total 10 = .ok (.iload_n 3, 1) := by decide +kernel
theorem dX8_total_11 : decode cX8_total 11 = .ok (.aload_n 0, 1) := by decide +kernel
theorem dX8_total_12 : decode cX8_total 12 = .ok (.arraylength, 1) := by decide +kernel
theorem dX8_total_13 : decode cX8_total 13 = .ok (.if_icmp .ge 24, 3) := by decide +kernel
theorem dX8_total_16 : decode cX8_total 16 = .ok (.iload_n 1, 1) := by decide +kernel
theorem dX8_total_17 : decode cX8_total 17 = .ok (.iload_n 3, 1) := by decide +kernel
theorem dX8_total_18 : decode cX8_total 18 = .ok (.ishr, 1) := by decide +kernel
theorem dX8_total_19 : decode cX8_total 19 = .ok (.iconst 1, 1) := by decide +kernel
theorem dX8_total_20 : decode cX8_total 20 = .ok (.iand, 1) := by decide +kernel
theorem dX8_total_21 : decode cX8_total 21 = .ok (.iconst 1, 1) := by decide +kernel
theorem dX8_total_22 : decode cX8_total 22 = .ok (.if_icmp .ne 9, 3) := by decide +kernel
theorem dX8_total_25 : decode cX8_total 25 = .ok (.iload_n 2, 1) := by decide +kernel
theorem dX8_total_26 : decode cX8_total 26 = .ok (.aload_n 0, 1) := by decide +kernel
theorem dX8_total_27 : decode cX8_total 27 = .ok (.iload_n 3, 1) := by decide +kernel
theorem dX8_total_28 : decode cX8_total 28 = .ok (.iaload, 1) := by decide +kernel
theorem dX8_total_29 : decode cX8_total 29 = .ok (.iadd, 1) := by decide +kernel
theorem dX8_total_30 : decode cX8_total 30 = .ok (.istore_n 2, 1) := by decide +kernel
theorem dX8_total_31 : decode cX8_total 31 = .ok (.iinc 3 1, 3) := by decide +kernel
theorem dX8_total_34 : decode cX8_total 34 = .ok (.goto (-30), 3) := by decide +kernel
theorem dX8_total_37 : decode cX8_total 37 = .ok (.iload_n 2, 1) := by decide +kernel
theorem dX8_total_38 : decode cX8_total 38 = .ok (.ireturn, 1) := by decide +kernel
theorem dX8_commonDivisor_0 : decode cX8_commonDivisor 0 = .ok (.iload_n 0, 1) := by decide +kernel
theorem dX8_commonDivisor_1 : decode cX8_commonDivisor 1 = .ok (.istore_n 2, 1) := by decide +kernel
theorem dX8_commonDivisor_2 : decode cX8_commonDivisor 2 = .ok (.iload_n 1, 1) := by decide +kernel
theorem dX8_commonDivisor_3 : decode cX8_commonDivisor 3 = .ok (.istore_n 3, 1) := by decide +kernel
theorem dX8_commonDivisor_4 : decode cX8_commonDivisor 4 = .ok (.iconst 0, 1) := by decide +kernel
theorem dX8_commonDivisor_5 : decode cX8_commonDivisor 5 = .ok (.istore 4, 2) := by decide +kernel
theorem dX8_commonDivisor_7 : decode cX8_commonDivisor 7 = .ok (.iload 4, 2) := by decide +kernel
theorem dX8_commonDivisor_9 : decode cX8_commonDivisor 9 = .ok (.bipush 100, 2) := by decide +kernel
theorem dX8_commonDivisor_11 : decode cX8_commonDivisor 11 = .ok (.if_icmp .ge 23, 3) := by decide +kernel
theorem dX8_commonDivisor_14 : decode cX8_commonDivisor 14 = .ok (.iload_n 3, 1) := by decide +kernel
theorem dX8_commonDivisor_15 : decode cX8_commonDivisor 15 = .ok (.ifCond .eq 19, 3) := by decide +kernel
theorem dX8_commonDivisor_18 : decode cX8_commonDivisor 18 = .ok (.iload_n 2, 1) := by decide +kernel
theorem dX8_commonDivisor_19 : decode cX8_commonDivisor 19 = .ok (.iload_n 3, 1) := by decide +kernel
theorem dX8_commonDivisor_20 : decode cX8_commonDivisor 20 = .ok (.irem, 1) := by decide +kernel
theorem dX8_commonDivisor_21 : decode cX8_commonDivisor 21 = .ok (.istore 5, 2) := by decide +kernel
theorem dX8_commonDivisor_23 : decode cX8_commonDivisor 23 = .ok (.iload_n 3, 1) := by decide +kernel
theorem dX8_commonDivisor_24 : decode cX8_commonDivisor 24 = .ok (.istore_n 2, 1) := by decide +kernel
theorem dX8_commonDivisor_25 : decode cX8_commonDivisor 25 = .ok (.iload 5, 2) := by decide +kernel
theorem dX8_commonDivisor_27 : decode cX8_commonDivisor 27 = .ok (.istore_n 3, 1) := by decide +kernel
theorem dX8_commonDivisor_28 : decode cX8_commonDivisor 28 = .ok (.iinc 4 1, 3) := by decide +kernel
theorem dX8_commonDivisor_31 : decode cX8_commonDivisor 31 = .ok (.goto (-24), 3) := by decide +kernel
theorem dX8_commonDivisor_34 : decode cX8_commonDivisor 34 = .ok (.iload_n 2, 1) := by decide +kernel
theorem dX8_commonDivisor_35 : decode cX8_commonDivisor 35 = .ok (.ireturn, 1) := by decide +kernel
theorem dX9_in_0 : decode cX9_in 0 = .ok (.lload_n 0, 1) := by decide +kernel
theorem dX9_in_1 : decode cX9_in 1 = .ok (.lload_n 2, 1) := by decide +kernel
theorem dX9_in_2 : decode cX9_in 2 = .ok (.lcmp, 1) := by decide +kernel
theorem dX9_in_3 : decode cX9_in 3 = .ok (.ifCond .lt 14, 3) := by decide +kernel
theorem dX9_in_6 : decode cX9_in 6 = .ok (.lload_n 0, 1) := by decide +kernel
theorem dX9_in_7 : decode cX9_in 7 = .ok (.lload 4, 2) := by decide +kernel
theorem dX9_in_9 : decode cX9_in 9 = .ok (.lcmp, 1) := by decide +kernel
theorem dX9_in_10 : decode cX9_in 10 = .ok (.ifCond .gt 7, 3) := by decide +kernel
theorem dX9_in_13 : decode cX9_in 13 = .ok (.iconst 1, 1) := by decide +kernel
theorem dX9_in_14 : decode cX9_in 14 = .ok (.goto 4, 3) := by decide +kernel
theorem dX9_in_17 : decode cX9_in 17 = .ok (.iconst 0, 1) := by decide +kernel
theorem dX9_in_18 : decode cX9_in 18 = .ok (.ireturn, 1) := by decide +kernel
set_option maxRecDepth 20000 in
theorem ggX9_init_X9_sizeOf : GoodIn wsX9_init wsX9_sizeOf := goodIn_r _ [37] (by decide +kernel) (by decide +kernel)
set_option maxRecDepth 20000 in
theorem gX9_init_X9_sizeOf : GoodIn wsX9_init (va_wsS RX9 92 yX9_sizeOf wsX9_sizeOf) := goodIn_app (goodIn_of _ (by decide +kernel)) ggX9_init_X9_sizeOf
