theorem inlX0 : ∀ w ∈ wsX00, w ∈ wsL_law := fun _ h => List.mem_append_left _ (List.mem_append_left _ (List.mem_append_left _ (List.mem_append_left _ (List.mem_append_left _ (List.mem_append_right _ h)))))
theorem inX0 : ∀ w ∈ wsX00, w ∈ lw_tbl := fun w h => wsL_law_in w (inlX0 w h)
theorem inlX1 : ∀ w ∈ wsX10, w ∈ wsL_law := fun _ h => List.mem_append_left _ (List.mem_append_left _ (List.mem_append_right _ h))
theorem inX1 : ∀ w ∈ wsX10, w ∈ lw_tbl := fun w h => wsL_law_in w (inlX1 w h)
theorem inlX2 : ∀ w ∈ wsX20, w ∈ wsL_law := fun _ h => List.mem_append_left _ (List.mem_append_right _ h)
theorem inX2 : ∀ w ∈ wsX20, w ∈ lw_tbl := fun w h => wsL_law_in w (inlX2 w h)
theorem inlX3 : ∀ w ∈ wsX30, w ∈ wsL_law := fun _ h => List.mem_append_left _ (List.mem_append_left _ (List.mem_append_left _ (List.mem_append_left _ (List.mem_append_left _ (List.mem_append_left _ (List.mem_append_left _ (List.mem_append_right _ h)))))))
theorem inX3 : ∀ w ∈ wsX30, w ∈ lw_tbl := fun w h => wsL_law_in w (inlX3 w h)
theorem inlX4 : ∀ w ∈ wsX40, w ∈ wsL_law := fun _ h => List.mem_append_left _ (List.mem_append_left _ (List.mem_append_left _ (List.mem_append_left _ (List.mem_append_left _ (List.mem_append_left _ (List.mem_append_left _ (List.mem_append_left _ (List.mem_append_right _ h))))))))
theorem inX4 : ∀ w ∈ wsX40, w ∈ lw_tbl := fun w h => wsL_law_in w (inlX4 w h)
theorem inlX5 : ∀ w ∈ wsX50, w ∈ wsL_law := fun _ h => List.mem_append_left _ (List.mem_append_left _ (List.mem_append_left _ (List.mem_append_right _ h)))
theorem inX5 : ∀ w ∈ wsX50, w ∈ lw_tbl := fun w h => wsL_law_in w (inlX5 w h)
theorem inlX6 : ∀ w ∈ wsX60, w ∈ wsL_law := fun _ h => List.mem_append_left _ (List.mem_append_left _ (List.mem_append_left _ (List.mem_append_left _ (List.mem_append_left _ (List.mem_append_left _ (List.mem_append_right _ h))))))
theorem inX6 : ∀ w ∈ wsX60, w ∈ lw_tbl := fun w h => wsL_law_in w (inlX6 w h)
theorem inlX7 : ∀ w ∈ wsX70, w ∈ wsL_law := fun _ h => List.mem_append_left _ (List.mem_append_left _ (List.mem_append_left _ (List.mem_append_left _ (List.mem_append_right _ h))))
theorem inX7 : ∀ w ∈ wsX70, w ∈ lw_tbl := fun w h => wsL_law_in w (inlX7 w h)
theorem inlX8 : ∀ w ∈ wsX80, w ∈ wsL_law := fun _ h => List.mem_append_left _ (List.mem_append_left _ (List.mem_append_left _ (List.mem_append_left _ (List.mem_append_left _ (List.mem_append_left _ (List.mem_append_left _ (List.mem_append_left _ (List.mem_append_left _ (List.mem_append_left _ (List.mem_append_right _ h))))))))))
theorem inX8 : ∀ w ∈ wsX80, w ∈ lw_tbl := fun w h => wsL_law_in w (inlX8 w h)
theorem inlX9 : ∀ w ∈ wsX90, w ∈ wsL_law := fun _ h => List.mem_append_left _ (List.mem_append_left _ (List.mem_append_left _ (List.mem_append_left _ (List.mem_append_left _ (List.mem_append_left _ (List.mem_append_left _ (List.mem_append_left _ (List.mem_append_left _ (List.mem_append_right _ h)))))))))
theorem inX9 : ∀ w ∈ wsX90, w ∈ lw_tbl := fun w h => wsL_law_in w (inlX9 w h)
theorem inJ6 : ∀ w ∈ wsJ60, w ∈ lw_tbl := by decide +kernel
theorem inJ9 : ∀ w ∈ wsJ90, w ∈ lw_tbl := by decide +kernel
theorem inJ10 : ∀ w ∈ wsJ100, w ∈ lw_tbl := by decide +kernel
theorem dX0_init_0 : decode cX0_init 0 = .ok (.aload_n 0, 1) := by decide +kernel
theorem dX0_init_1 : decode cX0_init 1 = .ok (.invokespecial 3, 3) := by decide +kernel
theorem dX0_init_4 : decode cX0_init 4 = .ok (.aload_n 0, 1) := by decide +kernel
theorem dX0_init_5 : decode cX0_init 5 = .ok (.bipush 8, 2) := by decide +kernel
theorem dX0_init_7 : decode cX0_init 7 = .ok (.newarray .int, 2) := by decide +kernel
theorem dX0_init_9 : decode cX0_init 9 = .ok (.putfield 9, 3) := by decide +kernel
theorem dX0_init_12 : decode cX0_init 12 = .ok (.aload_n 0, 1) := by decide +kernel
theorem dX0_init_13 : decode cX0_init 13 = .ok (.bipush 8, 2) := by decide +kernel
theorem dX0_init_15 : decode cX0_init 15 = .ok (.newarray .int, 2) := by decide +kernel
theorem dX0_init_17 : decode cX0_init 17 = .ok (.putfield 15, 3) := by decide +kernel
theorem dX0_init_20 : decode cX0_init 20 = .ok (.aload_n 0, 1) := by decide +kernel
theorem dX0_init_21 : decode cX0_init 21 = .ok (.bipush 8, 2) := by decide +kernel
theorem dX0_init_23 : decode cX0_init 23 = .ok (.newarray .int, 2) := by decide +kernel
theorem dX0_init_25 : decode cX0_init 25 = .ok (.putfield 18, 3) := by decide +kernel
theorem dX0_init_28 : decode cX0_init 28 = .ok (.return_, 1) := by decide +kernel
theorem dX0_clear_0 : decode cX0_clear 0 = .ok (.iconst 0, 1) := by decide +kernel
theorem dX0_clear_1 : decode cX0_clear 1 = .ok (.istore_n 1, 1) := by decide +kernel
theorem dX0_clear_2 : decode cX0_clear 2 = .ok (.iload_n 1, 1) := by decide +kernel
theorem dX0_clear_3 : decode cX0_clear 3 = .ok (.bipush 8, 2) := by decide +kernel
theorem dX0_clear_5 : decode cX0_clear 5 = .ok (.if_icmp .ge 30, 3) := by decide +kernel
theorem dX0_clear_8 : decode cX0_clear 8 = .ok (.aload_n 0, 1) := by decide +kernel
theorem dX0_clear_9 : decode cX0_clear 9 = .ok (.getfield 9, 3) := by decide +kernel
theorem dX0_clear_12 : decode cX0_clear 12 = .ok (.iload_n 1, 1) := by decide +kernel
theorem dX0_clear_13 : decode cX0_clear 13 = .ok (.iconst 0, 1) := by decide +kernel
theorem dX0_clear_14 : decode cX0_clear 14 = .ok (.iastore, 1) := by decide +kernel
theorem dX0_clear_15 : decode cX0_clear 15 = .ok (.aload_n 0, 1) := by decide +kernel
theorem dX0_clear_16 : decode cX0_clear 16 = .ok (.getfield 15, 3) := by decide +kernel
theorem dX0_clear_19 : decode cX0_clear 19 = .ok (.iload_n 1, 1) := by decide +kernel
theorem dX0_clear_20 : decode cX0_clear 20 = .ok (.iconst 0, 1) := by decide +kernel
theorem dX0_clear_21 : decode cX0_clear 21 = .ok (.iastore, 1) := by decide +kernel
theorem dX0_clear_22 : decode cX0_clear 22 = .ok (.aload_n 0, 1) := by decide +kernel
theorem dX0_clear_23 : decode cX0_clear 23 = .ok (.getfield 18, 3) := by decide +kernel
theorem dX0_clear_26 : decode cX0_clear 26 = .ok (.iload_n 1, 1) := by decide +kernel
theorem dX0_clear_27 : decode cX0_clear 27 = .ok (.iconst 0, 1) := by decide +kernel
theorem dX0_clear_28 : decode cX0_clear 28 = .ok (.iastore, 1) := by decide +kernel
theorem dX0_clear_29 : decode cX0_clear 29 = .ok (.iinc 1 1, 3) := by decide +kernel
theorem dX0_clear_32 : decode cX0_clear 32 = .ok (.goto (-30), 3) := by decide +kernel
theorem dX0_clear_35 : decode cX0_clear 35 = .ok (.return_, 1) := by decide +kernel
set_option maxRecDepth 20000 in
theorem ggX0_has_X8_within : GoodIn wsX0_has wsX8_within := goodIn_r _ [4] (by decide +kernel) (by decide +kernel)
set_option maxRecDepth 20000 in
theorem gX0_has_X8_within_n21 : GoodIn wsX0_has (wsX8_within) := ggX0_has_X8_within
theorem dX0_has_0 : decode cX0_has 0 = .ok (.iload_n 1, 1) := by decide +kernel
theorem dX0_has_1 : decode cX0_has 1 = .ok (.iconst 0, 1) := by decide +kernel
theorem dX0_has_2 : decode cX0_has 2 = .ok (.bipush 7, 2) := by decide +kernel
theorem dX0_has_4 : decode cX0_has 4 = .ok (.invokestatic 21, 3) := by decide +kernel
theorem dX0_has_7 : decode cX0_has 7 = .ok (.ifCond .eq 16, 3) := by decide +kernel
theorem dX0_has_10 : decode cX0_has 10 = .ok (.aload_n 0, 1) := by decide +kernel
theorem dX0_has_11 : decode cX0_has 11 = .ok (.getfield 9, 3) := by decide +kernel
theorem dX0_has_14 : decode cX0_has 14 = .ok (.iload_n 1, 1) := by decide +kernel
theorem dX0_has_15 : decode cX0_has 15 = .ok (.iaload, 1) := by decide +kernel
theorem dX0_has_16 : decode cX0_has 16 = .ok (.ifCond .le 7, 3) := by decide +kernel
theorem dX0_has_19 : decode cX0_has 19 = .ok (.iconst 1, 1) := by decide +kernel
theorem dX0_has_20 : decode cX0_has 20 = .ok (.goto 4, 3) := by decide +kernel
theorem dX0_has_23 : decode cX0_has 23 = .ok (.iconst 0, 1) := by decide +kernel
theorem dX0_has_24 : decode cX0_has 24 = .ok (.ireturn, 1) := by decide +kernel
set_option maxRecDepth 20000 in
theorem ggX0_bestWay_X0_stands : GoodIn wsX0_bestWay wsX0_stands := goodIn_r _ [7, 8, 9, 10, 11, 6, 12, 1, 13, 14, 15, 18, 19, 20] (by decide +kernel) (by decide +kernel)
set_option maxRecDepth 20000 in
theorem gX0_bestWay_X0_stands : GoodIn wsX0_bestWay (wsV RX0 25 RX0 yX0_stands wsX0_stands) := goodIn_app (goodIn_of _ (by decide +kernel)) ggX0_bestWay_X0_stands
set_option maxRecDepth 20000 in
theorem ggX0_bestWay_X8_total : GoodIn wsX0_bestWay wsX8_total := goodIn_r _ [17] (by decide +kernel) (by decide +kernel)
set_option maxRecDepth 20000 in
theorem gX0_bestWay_X8_total_n29 : GoodIn wsX0_bestWay (wsX8_total) := ggX0_bestWay_X8_total
theorem dX0_bestWay_0 : decode cX0_bestWay 0 = .ok (.iconst 0, 1) := by decide +kernel
theorem dX0_bestWay_1 : decode cX0_bestWay 1 = .ok (.istore_n 3, 1) := by decide +kernel
theorem dX0_bestWay_2 : decode cX0_bestWay 2 = .ok (.iconst 0, 1) := by decide +kernel
theorem dX0_bestWay_3 : decode cX0_bestWay 3 = .ok (.istore 4, 2) := by decide +kernel
theorem dX0_bestWay_5 : decode cX0_bestWay 5 = .ok (.iconst 0, 1) := by decide +kernel
theorem dX0_bestWay_6 : decode cX0_bestWay 6 = .ok (.istore 5, 2) := by decide +kernel
theorem dX0_bestWay_8 : decode cX0_bestWay 8 = .ok (.iconst 1, 1) := by decide +kernel
theorem dX0_bestWay_9 : decode cX0_bestWay 9 = .ok (.istore 6, 2) := by decide +kernel
theorem dX0_bestWay_11 : decode cX0_bestWay 11 = .ok (.iload 6, 2) := by decide +kernel
theorem dX0_bestWay_13 : decode cX0_bestWay 13 = .ok (.sipush 256, 3) := by decide +kernel
theorem dX0_bestWay_16 : decode cX0_bestWay 16 = .ok (.if_icmp .ge 89, 3) := by decide +kernel
theorem dX0_bestWay_19 : decode cX0_bestWay 19 = .ok (.iload 6, 2) := by decide +kernel
theorem dX0_bestWay_21 : decode cX0_bestWay 21 = .ok (.iload_n 1, 1) := by decide +kernel
theorem dX0_bestWay_22 : decode cX0_bestWay 22 = .ok (.iand, 1) := by decide +kernel
theorem dX0_bestWay_23 : decode cX0_bestWay 23 = .ok (.ifCond .ne 76, 3) := by decide +kernel
theorem dX0_bestWay_26 : decode cX0_bestWay 26 = .ok (.aload_n 0, 1) := by decide +kernel
theorem dX0_bestWay_27 : decode cX0_bestWay 27 = .ok (.iload 6, 2) := by decide +kernel
theorem dX0_bestWay_29 : decode cX0_bestWay 29 = .ok (.iload_n 1, 1) := by decide +kernel
theorem dX0_bestWay_30 : decode cX0_bestWay 30 = .ok (.invokevirtual 25, 3) := by decide +kernel
theorem dX0_bestWay_33 : decode cX0_bestWay 33 = .ok (.ifCond .ne 6, 3) := by decide +kernel
theorem dX0_bestWay_36 : decode cX0_bestWay 36 = .ok (.goto 63, 3) := by decide +kernel
theorem dX0_bestWay_39 : decode cX0_bestWay 39 = .ok (.aload_n 0, 1) := by decide +kernel
theorem dX0_bestWay_40 : decode cX0_bestWay 40 = .ok (.getfield 9, 3) := by decide +kernel
theorem dX0_bestWay_43 : decode cX0_bestWay 43 = .ok (.iload 6, 2) := by decide +kernel
theorem dX0_bestWay_45 : decode cX0_bestWay 45 = .ok (.invokestatic 29, 3) := by decide +kernel
theorem dX0_bestWay_48 : decode cX0_bestWay 48 = .ok (.istore 7, 2) := by decide +kernel
theorem dX0_bestWay_50 : decode cX0_bestWay 50 = .ok (.aload_n 0, 1) := by decide +kernel
theorem dX0_bestWay_51 : decode cX0_bestWay 51 = .ok (.getfield 15, 3) := by decide +kernel
theorem dX0_bestWay_54 : decode cX0_bestWay 54 = .ok (.iload 6, 2) := by decide +kernel
theorem dX0_bestWay_56 : decode cX0_bestWay 56 = .ok (.invokestatic 29, 3) := by decide +kernel
theorem dX0_bestWay_59 : decode cX0_bestWay 59 = .ok (.istore 8, 2) := by decide +kernel
theorem dX0_bestWay_61 : decode cX0_bestWay 61 = .ok (.iload 7, 2) := by decide +kernel
theorem dX0_bestWay_63 : decode cX0_bestWay 63 = .ok (.iload_n 2, 1) := by decide +kernel
theorem dX0_bestWay_64 : decode cX0_bestWay 64 = .ok (.if_icmp .gt 35, 3) := by decide +kernel
theorem dX0_bestWay_67 : decode cX0_bestWay 67 = .ok (.iload 8, 2) := by decide +kernel
theorem dX0_bestWay_69 : decode cX0_bestWay 69 = .ok (.iload 4, 2) := by decide +kernel
theorem dX0_bestWay_71 : decode cX0_bestWay 71 = .ok (.if_icmp .gt 17, 3) := by decide +kernel
theorem dX0_bestWay_74 : decode cX0_bestWay 74 = .ok (.iload 8, 2) := by decide +kernel
theorem dX0_bestWay_76 : decode cX0_bestWay 76 = .ok (.iload 4, 2) := by decide +kernel
theorem dX0_bestWay_78 : decode cX0_bestWay 78 = .ok (.if_icmp .ne 21, 3) := by decide +kernel
theorem dX0_bestWay_81 : decode cX0_bestWay 81 = .ok (.iload 7, 2) := by decide +kernel
theorem dX0_bestWay_83 : decode cX0_bestWay 83 = .ok (.iload 5, 2) := by decide +kernel
theorem dX0_bestWay_85 : decode cX0_bestWay 85 = .ok (.if_icmp .ge 14, 3) := by decide +kernel
theorem dX0_bestWay_88 : decode cX0_bestWay 88 = .ok (.iload 6, 2) := by decide +kernel
theorem dX0_bestWay_90 : decode cX0_bestWay 90 = .ok (.istore_n 3, 1) := by decide +kernel
theorem dX0_bestWay_91 : decode cX0_bestWay 91 = .ok (.iload 8, 2) := by decide +kernel
theorem dX0_bestWay_93 : decode cX0_bestWay 93 = .ok (.istore 4, 2) := by decide +kernel
theorem dX0_bestWay_95 : decode cX0_bestWay 95 = .ok (.iload 7, 2) := by decide +kernel
theorem dX0_bestWay_97 : decode cX0_bestWay 97 = .ok (.istore 5, 2) := by decide +kernel
theorem dX0_bestWay_99 : decode cX0_bestWay 99 = .ok (.iinc 6 1, 3) := by decide +kernel
theorem dX0_bestWay_102 : decode cX0_bestWay 102 = .ok (.goto (-91), 3) := by decide +kernel
theorem dX0_bestWay_105 : decode cX0_bestWay 105 = .ok (.iload_n 3, 1) := by decide +kernel
theorem dX0_bestWay_106 : decode cX0_bestWay 106 = .ok (.ireturn, 1) := by decide +kernel
set_option maxRecDepth 20000 in
theorem ggX0_stands_X0_has : GoodIn wsX0_stands wsX0_has := goodIn_r _ [6, 7, 8, 9, 10, 11, 12, 13] (by decide +kernel) (by decide +kernel)
set_option maxRecDepth 20000 in
theorem gX0_stands_X0_has : GoodIn wsX0_stands (wsV RX0 33 RX0 yX0_has wsX0_has) := goodIn_app (goodIn_of _ (by decide +kernel)) ggX0_stands_X0_has
theorem dX0_stands_0 : decode cX0_stands 0 = .ok (.iconst 0, 1) := by decide +kernel
theorem dX0_stands_1 : decode cX0_stands 1 = .ok (.istore_n 3, 1) := by decide +kernel
theorem dX0_stands_2 : decode cX0_stands 2 = .ok (.iload_n 3, 1) := by decide +kernel
theorem dX0_stands_3 : decode cX0_stands 3 = .ok (.bipush 8, 2) := by decide +kernel
theorem dX0_stands_5 : decode cX0_stands 5 = .ok (.if_icmp .ge 55, 3) := by decide +kernel
theorem dX0_stands_8 : decode cX0_stands 8 = .ok (.iload_n 1, 1) := by decide +kernel
theorem dX0_stands_9 : decode cX0_stands 9 = .ok (.iload_n 3, 1) := by decide +kernel
theorem dX0_stands_10 : decode cX0_stands 10 = .ok (.ishr, 1) := by decide +kernel
theorem dX0_stands_11 : decode cX0_stands 11 = .ok (.iconst 1, 1) := by decide +kernel
theorem dX0_stands_12 : decode cX0_stands 12 = .ok (.iand, 1) := by decide +kernel
theorem dX0_stands_13 : decode cX0_stands 13 = .ok (.iconst 1, 1) := by decide +kernel
theorem dX0_stands_14 : decode cX0_stands 14 = .ok (.if_icmp .ne 7, 3) := by decide +kernel
theorem dX0_stands_17 : decode cX0_stands 17 = .ok (.iconst 1, 1) := by decide +kernel
theorem dX0_stands_18 : decode cX0_stands 18 = .ok (.goto 4, 3) := by decide +kernel
theorem dX0_stands_21 : decode cX0_stands 21 = .ok (.iconst 0, 1) := by decide +kernel
theorem dX0_stands_22 : decode cX0_stands 22 = .ok (.istore 4, 2) := by decide +kernel
theorem dX0_stands_24 : decode cX0_stands 24 = .ok (.iload 4, 2) := by decide +kernel
theorem dX0_stands_26 : decode cX0_stands 26 = .ok (.ifCond .eq 28, 3) := by decide +kernel
theorem dX0_stands_29 : decode cX0_stands 29 = .ok (.aload_n 0, 1) := by decide +kernel
theorem dX0_stands_30 : decode cX0_stands 30 = .ok (.iload_n 3, 1) := by decide +kernel
theorem dX0_stands_31 : decode cX0_stands 31 = .ok (.invokevirtual 33, 3) := by decide +kernel
theorem dX0_stands_34 : decode cX0_stands 34 = .ok (.ifCond .eq 18, 3) := by decide +kernel
theorem dX0_stands_37 : decode cX0_stands 37 = .ok (.aload_n 0, 1) := by decide +kernel
theorem dX0_stands_38 : decode cX0_stands 38 = .ok (.getfield 18, 3) := by decide +kernel
theorem dX0_stands_41 : decode cX0_stands 41 = .ok (.iload_n 3, 1) := by decide +kernel
theorem dX0_stands_42 : decode cX0_stands 42 = .ok (.iaload, 1) := by decide +kernel
theorem dX0_stands_43 : decode cX0_stands 43 = .ok (.iload_n 1, 1) := by decide +kernel
theorem dX0_stands_44 : decode cX0_stands 44 = .ok (.iload_n 2, 1) := by decide +kernel
theorem dX0_stands_45 : decode cX0_stands 45 = .ok (.ior, 1) := by decide +kernel
theorem dX0_stands_46 : decode cX0_stands 46 = .ok (.iconst (-1), 1) := by decide +kernel
theorem dX0_stands_47 : decode cX0_stands 47 = .ok (.ixor, 1) := by decide +kernel
theorem dX0_stands_48 : decode cX0_stands 48 = .ok (.iand, 1) := by decide +kernel
theorem dX0_stands_49 : decode cX0_stands 49 = .ok (.ifCond .eq 5, 3) := by decide +kernel
theorem dX0_stands_52 : decode cX0_stands 52 = .ok (.iconst 0, 1) := by decide +kernel
theorem dX0_stands_53 : decode cX0_stands 53 = .ok (.ireturn, 1) := by decide +kernel
theorem dX0_stands_54 : decode cX0_stands 54 = .ok (.iinc 3 1, 3) := by decide +kernel
theorem dX0_stands_57 : decode cX0_stands 57 = .ok (.goto (-55), 3) := by decide +kernel
theorem dX0_stands_60 : decode cX0_stands 60 = .ok (.iconst 1, 1) := by decide +kernel
theorem dX0_stands_61 : decode cX0_stands 61 = .ok (.ireturn, 1) := by decide +kernel
set_option maxRecDepth 20000 in
theorem ggX1_init_X2_init : GoodIn wsX1_init wsX2_init := goodIn_r _ [18, 19, 2, 3, 10, 20, 12, 21, 22, 23, 24, 25, 8, 26, 34, 35, 36] (by decide +kernel) (by decide +kernel)
set_option maxRecDepth 20000 in
theorem gX1_init_X2_init : GoodIn wsX1_init (wsX2_init) := ggX1_init_X2_init
theorem dX1_init_0 : decode cX1_init 0 = .ok (.aload_n 0, 1) := by decide +kernel
theorem dX1_init_1 : decode cX1_init 1 = .ok (.invokespecial 3, 3) := by decide +kernel
theorem dX1_init_4 : decode cX1_init 4 = .ok (.aload_n 0, 1) := by decide +kernel
theorem dX1_init_5 : decode cX1_init 5 = .ok (.iconst 0, 1) := by decide +kernel
theorem dX1_init_6 : decode cX1_init 6 = .ok (.putfield 9, 3) := by decide +kernel
theorem dX1_init_9 : decode cX1_init 9 = .ok (.aload_n 0, 1) := by decide +kernel
theorem dX1_init_10 : decode cX1_init 10 = .ok (.iconst 0, 1) := by decide +kernel
theorem dX1_init_11 : decode cX1_init 11 = .ok (.putfield 15, 3) := by decide +kernel
theorem dX1_init_14 : decode cX1_init 14 = .ok (.aload_n 0, 1) := by decide +kernel
theorem dX1_init_15 : decode cX1_init 15 = .ok (.new 18, 3) := by decide +kernel
theorem dX1_init_18 : decode cX1_init 18 = .ok (.dup, 1) := by decide +kernel
theorem dX1_init_19 : decode cX1_init 19 = .ok (.invokespecial 20, 3) := by decide +kernel
theorem dX1_init_22 : decode cX1_init 22 = .ok (.putfield 21, 3) := by decide +kernel
theorem dX1_init_25 : decode cX1_init 25 = .ok (.aload_n 0, 1) := by decide +kernel
theorem dX1_init_26 : decode cX1_init 26 = .ok (.bipush 40, 2) := by decide +kernel
theorem dX1_init_28 : decode cX1_init 28 = .ok (.newarray .int, 2) := by decide +kernel
theorem dX1_init_30 : decode cX1_init 30 = .ok (.putfield 25, 3) := by decide +kernel
theorem dX1_init_33 : decode cX1_init 33 = .ok (.aload_n 0, 1) := by decide +kernel
theorem dX1_init_34 : decode cX1_init 34 = .ok (.bipush 40, 2) := by decide +kernel
theorem dX1_init_36 : decode cX1_init 36 = .ok (.newarray .boolean, 2) := by decide +kernel
theorem dX1_init_38 : decode cX1_init 38 = .ok (.putfield 29, 3) := by decide +kernel
theorem dX1_init_41 : decode cX1_init 41 = .ok (.aload_n 0, 1) := by decide +kernel
theorem dX1_init_42 : decode cX1_init 42 = .ok (.bipush 40, 2) := by decide +kernel
theorem dX1_init_44 : decode cX1_init 44 = .ok (.newarray .boolean, 2) := by decide +kernel
theorem dX1_init_46 : decode cX1_init 46 = .ok (.putfield 33, 3) := by decide +kernel
theorem dX1_init_49 : decode cX1_init 49 = .ok (.aload_n 0, 1) := by decide +kernel
theorem dX1_init_50 : decode cX1_init 50 = .ok (.getstatic 36, 3) := by decide +kernel
theorem dX1_init_53 : decode cX1_init 53 = .ok (.arraylength, 1) := by decide +kernel
theorem dX1_init_54 : decode cX1_init 54 = .ok (.newarray .int, 2) := by decide +kernel
theorem dX1_init_56 : decode cX1_init 56 = .ok (.putfield 39, 3) := by decide +kernel
theorem dX1_init_59 : decode cX1_init 59 = .ok (.return_, 1) := by decide +kernel
set_option maxRecDepth 20000 in
theorem ggX1_take_X8_caseNumber : GoodIn wsX1_take wsX8_caseNumber := goodIn_r _ [8, 9, 10, 7, 11] (by decide +kernel) (by decide +kernel)
set_option maxRecDepth 20000 in
theorem gX1_take_X8_caseNumber_n42 : GoodIn wsX1_take (wsX8_caseNumber) := ggX1_take_X8_caseNumber
set_option maxRecDepth 20000 in
theorem ggX1_take_X1_weigh : GoodIn wsX1_take wsX1_weigh := goodIn_r _ [16, 2, 17, 18, 7, 19, 20, 21, 22, 23, 24, 25, 26, 27, 28, 29, 30, 31, 32, 33, 34, 35, 36, 37, 38, 39, 40, 41, 42, 43, 44, 45, 46, 47, 48, 49, 50, 51, 52, 53, 54, 55, 56, 57, 58, 59, 60, 61] (by decide +kernel) (by decide +kernel)
set_option maxRecDepth 20000 in
theorem gX1_take_X1_weigh : GoodIn wsX1_take (wsV RX1 46 RX1 yX1_weigh wsX1_weigh) := goodIn_app (goodIn_of _ (by decide +kernel)) ggX1_take_X1_weigh
theorem dX1_take_0 : decode cX1_take 0 = .ok (.aload_n 0, 1) := by decide +kernel
theorem dX1_take_1 : decode cX1_take 1 = .ok (.getfield 9, 3) := by decide +kernel
theorem dX1_take_4 : decode cX1_take 4 = .ok (.bipush 40, 2) := by decide +kernel
theorem dX1_take_6 : decode cX1_take 6 = .ok (.if_icmp .lt 6, 3) := by decide +kernel
theorem dX1_take_9 : decode cX1_take 9 = .ok (.bipush (-3), 2) := by decide +kernel
theorem dX1_take_11 : decode cX1_take 11 = .ok (.ireturn, 1) := by decide +kernel
theorem dX1_take_12 : decode cX1_take 12 = .ok (.aload_n 0, 1) := by decide +kernel
theorem dX1_take_13 : decode cX1_take 13 = .ok (.getfield 9, 3) := by decide +kernel
theorem dX1_take_16 : decode cX1_take 16 = .ok (.istore 5, 2) := by decide +kernel
theorem dX1_take_18 : decode cX1_take 18 = .ok (.aload_n 0, 1) := by decide +kernel
theorem dX1_take_19 : decode cX1_take 19 = .ok (.getfield 25, 3) := by decide +kernel
theorem dX1_take_22 : decode cX1_take 22 = .ok (.iload 5, 2) := by decide +kernel
theorem dX1_take_24 : decode cX1_take 24 = .ok (.iload_n 1, 1) := by decide +kernel
theorem dX1_take_25 : decode cX1_take 25 = .ok (.iload_n 2, 1) := by decide +kernel
theorem dX1_take_26 : decode cX1_take 26 = .ok (.iload_n 3, 1) := by decide +kernel
theorem dX1_take_27 : decode cX1_take 27 = .ok (.invokestatic 42, 3) := by decide +kernel
theorem dX1_take_30 : decode cX1_take 30 = .ok (.iastore, 1) := by decide +kernel
theorem dX1_take_31 : decode cX1_take 31 = .ok (.aload_n 0, 1) := by decide +kernel
theorem dX1_take_32 : decode cX1_take 32 = .ok (.getfield 29, 3) := by decide +kernel
theorem dX1_take_35 : decode cX1_take 35 = .ok (.iload 5, 2) := by decide +kernel
theorem dX1_take_37 : decode cX1_take 37 = .ok (.iconst 0, 1) := by decide +kernel
theorem dX1_take_38 : decode cX1_take 38 = .ok (.bastore, 1) := by decide +kernel
theorem dX1_take_39 : decode cX1_take 39 = .ok (.aload_n 0, 1) := by decide +kernel
theorem dX1_take_40 : decode cX1_take 40 = .ok (.getfield 33, 3) := by decide +kernel
theorem dX1_take_43 : decode cX1_take 43 = .ok (.iload 5, 2) := by decide +kernel
theorem dX1_take_45 : decode cX1_take 45 = .ok (.aload_n 0, 1) := by decide +kernel
theorem dX1_take_46 : decode cX1_take 46 = .ok (.iload 5, 2) := by decide +kernel
theorem dX1_take_48 : decode cX1_take 48 = .ok (.iconst 1, 1) := by decide +kernel
theorem dX1_take_49 : decode cX1_take 49 = .ok (.aload 4, 2) := by decide +kernel
theorem dX1_take_51 : decode cX1_take 51 = .ok (.invokevirtual 46, 3) := by decide +kernel
theorem dX1_take_54 : decode cX1_take 54 = .ok (.ifCond .ne 7, 3) := by decide +kernel
theorem dX1_take_57 : decode cX1_take 57 = .ok (.iconst 1, 1) := by decide +kernel
theorem dX1_take_58 : decode cX1_take 58 = .ok (.goto 4, 3) := by decide +kernel
theorem dX1_take_61 : decode cX1_take 61 = .ok (.iconst 0, 1) := by decide +kernel
theorem dX1_take_62 : decode cX1_take 62 = .ok (.bastore, 1) := by decide +kernel
theorem dX1_take_63 : decode cX1_take 63 = .ok (.aload_n 0, 1) := by decide +kernel
theorem dX1_take_64 : decode cX1_take 64 = .ok (.dup, 1) := by decide +kernel
theorem dX1_take_65 : decode cX1_take 65 = .ok (.getfield 9, 3) := by decide +kernel
theorem dX1_take_68 : decode cX1_take 68 = .ok (.iconst 1, 1) := by decide +kernel
theorem dX1_take_69 : decode cX1_take 69 = .ok (.iadd, 1) := by decide +kernel
theorem dX1_take_70 : decode cX1_take 70 = .ok (.putfield 9, 3) := by decide +kernel
theorem dX1_take_73 : decode cX1_take 73 = .ok (.aload_n 0, 1) := by decide +kernel
theorem dX1_take_74 : decode cX1_take 74 = .ok (.dup, 1) := by decide +kernel
theorem dX1_take_75 : decode cX1_take 75 = .ok (.getfield 15, 3) := by decide +kernel
theorem dX1_take_78 : decode cX1_take 78 = .ok (.iconst 1, 1) := by decide +kernel
theorem dX1_take_79 : decode cX1_take 79 = .ok (.iadd, 1) := by decide +kernel
theorem dX1_take_80 : decode cX1_take 80 = .ok (.putfield 15, 3) := by decide +kernel
theorem dX1_take_83 : decode cX1_take 83 = .ok (.iload 5, 2) := by decide +kernel
theorem dX1_take_85 : decode cX1_take 85 = .ok (.ireturn, 1) := by decide +kernel
set_option maxRecDepth 20000 in
theorem ggX1_weigh_X8_muchOf : GoodIn wsX1_weigh wsX8_muchOf := goodIn_r _ [5, 6] (by decide +kernel) (by decide +kernel)
set_option maxRecDepth 20000 in
theorem gX1_weigh_X8_muchOf_n50 : GoodIn wsX1_weigh (wsX8_muchOf) := ggX1_weigh_X8_muchOf
set_option maxRecDepth 20000 in
theorem ggX1_weigh_X8_lessOf : GoodIn wsX1_weigh wsX8_lessOf := goodIn_r _ [8] (by decide +kernel) (by decide +kernel)
set_option maxRecDepth 20000 in
theorem gX1_weigh_X8_lessOf_n54 : GoodIn wsX1_weigh (wsX8_lessOf) := ggX1_weigh_X8_lessOf
set_option maxRecDepth 20000 in
theorem ggX1_weigh_X8_answerOf : GoodIn wsX1_weigh wsX8_answerOf := goodIn_r _ [10] (by decide +kernel) (by decide +kernel)
set_option maxRecDepth 20000 in
theorem gX1_weigh_X8_answerOf_n57 : GoodIn wsX1_weigh (wsX8_answerOf) := ggX1_weigh_X8_answerOf
set_option maxRecDepth 20000 in
theorem ggX1_weigh_X4_fill : GoodIn wsX1_weigh wsX4_fill := goodIn_r _ [15, 16, 17, 18, 19, 20, 14, 21, 22, 23, 24, 25, 26, 27, 28, 29, 30, 31, 32, 33, 34, 35, 36, 37, 45, 46, 47] (by decide +kernel) (by decide +kernel)
set_option maxRecDepth 20000 in
theorem gX1_weigh_X4_fill : GoodIn wsX1_weigh (wsV RX1 60 RX4 yX4_fill wsX4_fill) := goodIn_app (goodIn_of _ (by decide +kernel)) ggX1_weigh_X4_fill
theorem dX1_weigh_0 : decode cX1_weigh 0 = .ok (.aload_n 0, 1) := by decide +kernel
theorem dX1_weigh_1 : decode cX1_weigh 1 = .ok (.getfield 25, 3) := by decide +kernel
theorem dX1_weigh_4 : decode cX1_weigh 4 = .ok (.iload_n 1, 1) := by decide +kernel
theorem dX1_weigh_5 : decode cX1_weigh 5 = .ok (.iaload, 1) := by decide +kernel
theorem dX1_weigh_6 : decode cX1_weigh 6 = .ok (.invokestatic 50, 3) := by decide +kernel
theorem dX1_weigh_9 : decode cX1_weigh 9 = .ok (.istore 4, 2) := by decide +kernel
theorem dX1_weigh_11 : decode cX1_weigh 11 = .ok (.aload_n 0, 1) := by decide +kernel
theorem dX1_weigh_12 : decode cX1_weigh 12 = .ok (.getfield 25, 3) := by decide +kernel
theorem dX1_weigh_15 : decode cX1_weigh 15 = .ok (.iload_n 1, 1) := by decide +kernel
theorem dX1_weigh_16 : decode cX1_weigh 16 = .ok (.iaload, 1) := by decide +kernel
theorem dX1_weigh_17 : decode cX1_weigh 17 = .ok (.invokestatic 54, 3) := by decide +kernel
theorem dX1_weigh_20 : decode cX1_weigh 20 = .ok (.istore 5, 2) := by decide +kernel
theorem dX1_weigh_22 : decode cX1_weigh 22 = .ok (.aload_n 0, 1) := by decide +kernel
theorem dX1_weigh_23 : decode cX1_weigh 23 = .ok (.getfield 25, 3) := by decide +kernel
theorem dX1_weigh_26 : decode cX1_weigh 26 = .ok (.iload_n 1, 1) := by decide +kernel
theorem dX1_weigh_27 : decode cX1_weigh 27 = .ok (.iaload, 1) := by decide +kernel
theorem dX1_weigh_28 : decode cX1_weigh 28 = .ok (.invokestatic 57, 3) := by decide +kernel
theorem dX1_weigh_31 : decode cX1_weigh 31 = .ok (.istore 6, 2) := by decide +kernel
theorem dX1_weigh_33 : decode cX1_weigh 33 = .ok (.iconst 0, 1) := by decide +kernel
theorem dX1_weigh_34 : decode cX1_weigh 34 = .ok (.istore 7, 2) := by decide +kernel
theorem dX1_weigh_36 : decode cX1_weigh 36 = .ok (.iconst 0, 1) := by decide +kernel
theorem dX1_weigh_37 : decode cX1_weigh 37 = .ok (.istore 8, 2) := by decide +kernel
theorem dX1_weigh_39 : decode cX1_weigh 39 = .ok (.iload 8, 2) := by decide +kernel
theorem dX1_weigh_41 : decode cX1_weigh 41 = .ok (.getstatic 36, 3) := by decide +kernel
theorem dX1_weigh_44 : decode cX1_weigh 44 = .ok (.arraylength, 1) := by decide +kernel
theorem dX1_weigh_45 : decode cX1_weigh 45 = .ok (.if_icmp .ge 42, 3) := by decide +kernel
theorem dX1_weigh_48 : decode cX1_weigh 48 = .ok (.aload_n 3, 1) := by decide +kernel
theorem dX1_weigh_49 : decode cX1_weigh 49 = .ok (.iload 4, 2) := by decide +kernel
theorem dX1_weigh_51 : decode cX1_weigh 51 = .ok (.iload 5, 2) := by decide +kernel
theorem dX1_weigh_53 : decode cX1_weigh 53 = .ok (.getstatic 36, 3) := by decide +kernel
theorem dX1_weigh_56 : decode cX1_weigh 56 = .ok (.iload 8, 2) := by decide +kernel
theorem dX1_weigh_58 : decode cX1_weigh 58 = .ok (.iaload, 1) := by decide +kernel
theorem dX1_weigh_59 : decode cX1_weigh 59 = .ok (.invokevirtual 60, 3) := by decide +kernel
theorem dX1_weigh_62 : decode cX1_weigh 62 = .ok (.iload 6, 2) := by decide +kernel
theorem dX1_weigh_64 : decode cX1_weigh 64 = .ok (.if_icmp .ne 17, 3) := by decide +kernel
theorem dX1_weigh_67 : decode cX1_weigh 67 = .ok (.aload_n 0, 1) := by decide +kernel
theorem dX1_weigh_68 : decode cX1_weigh 68 = .ok (.getfield 39, 3) := by decide +kernel
theorem dX1_weigh_71 : decode cX1_weigh 71 = .ok (.iload 8, 2) := by decide +kernel
theorem dX1_weigh_73 : decode cX1_weigh 73 = .ok (.dup2, 1) := by decide +kernel
theorem dX1_weigh_74 : decode cX1_weigh 74 = .ok (.iaload, 1) := by decide +kernel
theorem dX1_weigh_75 : decode cX1_weigh 75 = .ok (.iload_n 2, 1) := by decide +kernel
theorem dX1_weigh_76 : decode cX1_weigh 76 = .ok (.iadd, 1) := by decide +kernel
theorem dX1_weigh_77 : decode cX1_weigh 77 = .ok (.iastore, 1) := by decide +kernel
theorem dX1_weigh_78 : decode cX1_weigh 78 = .ok (.iconst 1, 1) := by decide +kernel
theorem dX1_weigh_79 : decode cX1_weigh 79 = .ok (.istore 7, 2) := by decide +kernel
theorem dX1_weigh_81 : decode cX1_weigh 81 = .ok (.iinc 8 1, 3) := by decide +kernel
theorem dX1_weigh_84 : decode cX1_weigh 84 = .ok (.goto (-45), 3) := by decide +kernel
theorem dX1_weigh_87 : decode cX1_weigh 87 = .ok (.iload 7, 2) := by decide +kernel
theorem dX1_weigh_89 : decode cX1_weigh 89 = .ok (.ireturn, 1) := by decide +kernel
set_option maxRecDepth 20000 in
theorem ggX1_put_X1_weigh : GoodIn wsX1_put wsX1_weigh := goodIn_r _ [7, 8, 9, 10, 11, 12, 13, 14, 15, 16, 17, 18, 19, 20, 21, 22, 23, 24, 25, 26, 27, 28, 29, 30, 31, 32, 33, 34, 35, 36, 37, 38, 39, 40, 41, 42, 43, 44, 45, 46, 47, 48, 49, 50, 51, 52, 53, 54] (by decide +kernel) (by decide +kernel)
set_option maxRecDepth 20000 in
theorem gX1_put_X1_weigh : GoodIn wsX1_put (wsV RX1 46 RX1 yX1_weigh wsX1_weigh) := goodIn_app (goodIn_of _ (by decide +kernel)) ggX1_put_X1_weigh
theorem dX1_put_0 : decode cX1_put 0 = .ok (.aload_n 0, 1) := by decide +kernel
theorem dX1_put_1 : decode cX1_put 1 = .ok (.getfield 29, 3) := by decide +kernel
theorem dX1_put_4 : decode cX1_put 4 = .ok (.iload_n 1, 1) := by decide +kernel
theorem dX1_put_5 : decode cX1_put 5 = .ok (.baload, 1) := by decide +kernel
theorem dX1_put_6 : decode cX1_put 6 = .ok (.istore 4, 2) := by decide +kernel
theorem dX1_put_8 : decode cX1_put 8 = .ok (.iload 4, 2) := by decide +kernel
theorem dX1_put_10 : decode cX1_put 10 = .ok (.iload_n 2, 1) := by decide +kernel
theorem dX1_put_11 : decode cX1_put 11 = .ok (.if_icmp .eq 41, 3) := by decide +kernel
theorem dX1_put_14 : decode cX1_put 14 = .ok (.aload_n 0, 1) := by decide +kernel
theorem dX1_put_15 : decode cX1_put 15 = .ok (.getfield 29, 3) := by decide +kernel
theorem dX1_put_18 : decode cX1_put 18 = .ok (.iload_n 1, 1) := by decide +kernel
theorem dX1_put_19 : decode cX1_put 19 = .ok (.iload_n 2, 1) := by decide +kernel
theorem dX1_put_20 : decode cX1_put 20 = .ok (.bastore, 1) := by decide +kernel
theorem dX1_put_21 : decode cX1_put 21 = .ok (.iload_n 2, 1) := by decide +kernel
theorem dX1_put_22 : decode cX1_put 22 = .ok (.ifCond .eq 7, 3) := by decide +kernel
theorem dX1_put_25 : decode cX1_put 25 = .ok (.iconst (-1), 1) := by decide +kernel
theorem dX1_put_26 : decode cX1_put 26 = .ok (.goto 4, 3) := by decide +kernel
theorem dX1_put_29 : decode cX1_put 29 = .ok (.iconst 1, 1) := by decide +kernel
theorem dX1_put_30 : decode cX1_put 30 = .ok (.istore 5, 2) := by decide +kernel
theorem dX1_put_32 : decode cX1_put 32 = .ok (.aload_n 0, 1) := by decide +kernel
theorem dX1_put_33 : decode cX1_put 33 = .ok (.dup, 1) := by decide +kernel
theorem dX1_put_34 : decode cX1_put 34 = .ok (.getfield 15, 3) := by decide +kernel
theorem dX1_put_37 : decode cX1_put 37 = .ok (.iload 5, 2) := by decide +kernel
theorem dX1_put_39 : decode cX1_put 39 = .ok (.iadd, 1) := by decide +kernel
theorem dX1_put_40 : decode cX1_put 40 = .ok (.putfield 15, 3) := by decide +kernel
theorem dX1_put_43 : decode cX1_put 43 = .ok (.aload_n 0, 1) := by decide +kernel
theorem dX1_put_44 : decode cX1_put 44 = .ok (.iload_n 1, 1) := by decide +kernel
theorem dX1_put_45 : decode cX1_put 45 = .ok (.iload 5, 2) := by decide +kernel
theorem dX1_put_47 : decode cX1_put 47 = .ok (.aload_n 3, 1) := by decide +kernel
theorem dX1_put_48 : decode cX1_put 48 = .ok (.invokevirtual 46, 3) := by decide +kernel
theorem dX1_put_51 : decode cX1_put 51 = .ok (.pop, 1) := by decide +kernel
theorem dX1_put_52 : decode cX1_put 52 = .ok (.iload 4, 2) := by decide +kernel
theorem dX1_put_54 : decode cX1_put 54 = .ok (.ireturn, 1) := by decide +kernel
set_option maxRecDepth 20000 in
theorem ggX1_pointsAt_J6_bitCount_0f7a4 : GoodIn wsX1_pointsAt wsJ6_bitCount_0f7a4 := goodIn_r _ [6, 7, 8, 9] (by decide +kernel) (by decide +kernel)
set_option maxRecDepth 20000 in
theorem gX1_pointsAt_J6_bitCount_0f7a4 : GoodIn wsX1_pointsAt (va_wsS RX1 65 yJ6_bitCount_0f7a4 wsJ6_bitCount_0f7a4) := goodIn_app (goodIn_of _ (by decide +kernel)) ggX1_pointsAt_J6_bitCount_0f7a4
theorem dX1_pointsAt_0 : decode cX1_pointsAt 0 = .ok (.aload_n 0, 1) := by decide +kernel
theorem dX1_pointsAt_1 : decode cX1_pointsAt 1 = .ok (.getfield 39, 3) := by decide +kernel
theorem dX1_pointsAt_4 : decode cX1_pointsAt 4 = .ok (.iload_n 1, 1) := by decide +kernel
theorem dX1_pointsAt_5 : decode cX1_pointsAt 5 = .ok (.iaload, 1) := by decide +kernel
theorem dX1_pointsAt_6 : decode cX1_pointsAt 6 = .ok (.istore_n 3, 1) := by decide +kernel
theorem dX1_pointsAt_7 : decode cX1_pointsAt 7 = .ok (.iload_n 3, 1) := by decide +kernel
theorem dX1_pointsAt_8 : decode cX1_pointsAt 8 = .ok (.aload_n 2, 1) := by decide +kernel
theorem dX1_pointsAt_9 : decode cX1_pointsAt 9 = .ok (.iconst 0, 1) := by decide +kernel
theorem dX1_pointsAt_10 : decode cX1_pointsAt 10 = .ok (.iaload, 1) := by decide +kernel
theorem dX1_pointsAt_11 : decode cX1_pointsAt 11 = .ok (.imul, 1) := by decide +kernel
theorem dX1_pointsAt_12 : decode cX1_pointsAt 12 = .ok (.aload_n 0, 1) := by decide +kernel
theorem dX1_pointsAt_13 : decode cX1_pointsAt 13 = .ok (.getfield 15, 3) := by decide +kernel
theorem dX1_pointsAt_16 : decode cX1_pointsAt 16 = .ok (.iload_n 3, 1) := by decide +kernel
theorem dX1_pointsAt_17 : decode cX1_pointsAt 17 = .ok (.isub, 1) := by decide +kernel
theorem dX1_pointsAt_18 : decode cX1_pointsAt 18 = .ok (.aload_n 2, 1) := by decide +kernel
theorem dX1_pointsAt_19 : decode cX1_pointsAt 19 = .ok (.iconst 1, 1) := by decide +kernel
theorem dX1_pointsAt_20 : decode cX1_pointsAt 20 = .ok (.iaload, 1) := by decide +kernel
theorem dX1_pointsAt_21 : decode cX1_pointsAt 21 = .ok (.imul, 1) := by decide +kernel
theorem dX1_pointsAt_22 : decode cX1_pointsAt 22 = .ok (.isub, 1) := by decide +kernel
theorem dX1_pointsAt_23 : decode cX1_pointsAt 23 = .ok (.getstatic 36, 3) := by decide +kernel
theorem dX1_pointsAt_26 : decode cX1_pointsAt 26 = .ok (.iload_n 1, 1) := by decide +kernel
theorem dX1_pointsAt_27 : decode cX1_pointsAt 27 = .ok (.iaload, 1) := by decide +kernel
theorem dX1_pointsAt_28 : decode cX1_pointsAt 28 = .ok (.invokestatic 65, 3) := by decide +kernel
theorem dX1_pointsAt_31 : decode cX1_pointsAt 31 = .ok (.aload_n 2, 1) := by decide +kernel
theorem dX1_pointsAt_32 : decode cX1_pointsAt 32 = .ok (.iconst 2, 1) := by decide +kernel
theorem dX1_pointsAt_33 : decode cX1_pointsAt 33 = .ok (.iaload, 1) := by decide +kernel
theorem dX1_pointsAt_34 : decode cX1_pointsAt 34 = .ok (.imul, 1) := by decide +kernel
theorem dX1_pointsAt_35 : decode cX1_pointsAt 35 = .ok (.isub, 1) := by decide +kernel
theorem dX1_pointsAt_36 : decode cX1_pointsAt 36 = .ok (.ireturn, 1) := by decide +kernel
set_option maxRecDepth 20000 in
theorem ggX1_bestPlace_X1_pointsAt : GoodIn wsX1_bestPlace wsX1_pointsAt := goodIn_r _ [5, 6, 7, 8, 9, 10, 11, 12, 13, 14, 15, 16, 17, 18, 19, 20, 21] (by decide +kernel) (by decide +kernel)
set_option maxRecDepth 20000 in
theorem gX1_bestPlace_X1_pointsAt : GoodIn wsX1_bestPlace (wsV RX1 70 RX1 yX1_pointsAt wsX1_pointsAt) := goodIn_app (goodIn_of _ (by decide +kernel)) ggX1_bestPlace_X1_pointsAt
theorem dX1_bestPlace_0 : decode cX1_bestPlace 0 = .ok (.iconst 0, 1) := by decide +kernel
theorem dX1_bestPlace_1 : decode cX1_bestPlace 1 = .ok (.istore_n 2, 1) := by decide +kernel
theorem dX1_bestPlace_2 : decode cX1_bestPlace 2 = .ok (.aload_n 0, 1) := by decide +kernel
theorem dX1_bestPlace_3 : decode cX1_bestPlace 3 = .ok (.iconst 0, 1) := by decide +kernel
theorem dX1_bestPlace_4 : decode cX1_bestPlace 4 = .ok (.aload_n 1, 1) := by decide +kernel
theorem dX1_bestPlace_5 : decode cX1_bestPlace 5 = .ok (.invokevirtual 70, 3) := by decide +kernel
theorem dX1_bestPlace_8 : decode cX1_bestPlace 8 = .ok (.istore_n 3, 1) := by decide +kernel
theorem dX1_bestPlace_9 : decode cX1_bestPlace 9 = .ok (.iconst 1, 1) := by decide +kernel
theorem dX1_bestPlace_10 : decode cX1_bestPlace 10 = .ok (.istore 4, 2) := by decide +kernel
theorem dX1_bestPlace_12 : decode cX1_bestPlace 12 = .ok (.iload 4, 2) := by decide +kernel
theorem dX1_bestPlace_14 : decode cX1_bestPlace 14 = .ok (.getstatic 36, 3) := by decide +kernel
theorem dX1_bestPlace_17 : decode cX1_bestPlace 17 = .ok (.arraylength, 1) := by decide +kernel
theorem dX1_bestPlace_18 : decode cX1_bestPlace 18 = .ok (.if_icmp .ge 30, 3) := by decide +kernel
theorem dX1_bestPlace_21 : decode cX1_bestPlace 21 = .ok (.aload_n 0, 1) := by decide +kernel
theorem dX1_bestPlace_22 : decode cX1_bestPlace 22 = .ok (.iload 4, 2) := by decide +kernel
theorem dX1_bestPlace_24 : decode cX1_bestPlace 24 = .ok (.aload_n 1, 1) := by decide +kernel
theorem dX1_bestPlace_25 : decode cX1_bestPlace 25 = .ok (.invokevirtual 70, 3) := by decide +kernel
theorem dX1_bestPlace_28 : decode cX1_bestPlace 28 = .ok (.istore 5, 2) := by decide +kernel
theorem dX1_bestPlace_30 : decode cX1_bestPlace 30 = .ok (.iload 5, 2) := by decide +kernel
theorem dX1_bestPlace_32 : decode cX1_bestPlace 32 = .ok (.iload_n 3, 1) := by decide +kernel
theorem dX1_bestPlace_33 : decode cX1_bestPlace 33 = .ok (.if_icmp .le 9, 3) := by decide +kernel
theorem dX1_bestPlace_36 : decode cX1_bestPlace 36 = .ok (.iload 5, 2) := by decide +kernel
theorem dX1_bestPlace_38 : decode cX1_bestPlace 38 = .ok (.istore_n 3, 1) := by decide +kernel
theorem dX1_bestPlace_39 : decode cX1_bestPlace 39 = .ok (.iload 4, 2) := by decide +kernel
theorem dX1_bestPlace_41 : decode cX1_bestPlace 41 = .ok (.istore_n 2, 1) := by decide +kernel
theorem dX1_bestPlace_42 : decode cX1_bestPlace 42 = .ok (.iinc 4 1, 3) := by decide +kernel
theorem dX1_bestPlace_45 : decode cX1_bestPlace 45 = .ok (.goto (-33), 3) := by decide +kernel
theorem dX1_bestPlace_48 : decode cX1_bestPlace 48 = .ok (.iload_n 2, 1) := by decide +kernel
theorem dX1_bestPlace_49 : decode cX1_bestPlace 49 = .ok (.ireturn, 1) := by decide +kernel
set_option maxRecDepth 20000 in
theorem ggX1_leadOf_X1_pointsAt : GoodIn wsX1_leadOf wsX1_pointsAt := goodIn_r _ [9, 10, 11, 12, 13, 14, 15, 16, 17, 18, 19, 20, 21, 22, 23, 24, 25] (by decide +kernel) (by decide +kernel)
set_option maxRecDepth 20000 in
theorem gX1_leadOf_X1_pointsAt : GoodIn wsX1_leadOf (wsV RX1 70 RX1 yX1_pointsAt wsX1_pointsAt) := goodIn_app (goodIn_of _ (by decide +kernel)) ggX1_leadOf_X1_pointsAt
theorem dX1_leadOf_0 : decode cX1_leadOf 0 = .ok (.aload_n 0, 1) := by decide +kernel
theorem dX1_leadOf_1 : decode cX1_leadOf 1 = .ok (.iload_n 1, 1) := by decide +kernel
theorem dX1_leadOf_2 : decode cX1_leadOf 2 = .ok (.ifCond .ne 7, 3) := by decide +kernel
theorem dX1_leadOf_5 : decode cX1_leadOf 5 = .ok (.iconst 1, 1) := by decide +kernel
theorem dX1_leadOf_6 : decode cX1_leadOf 6 = .ok (.goto 4, 3) := by decide +kernel
theorem dX1_leadOf_9 : decode cX1_leadOf 9 = .ok (.iconst 0, 1) := by decide +kernel
theorem dX1_leadOf_10 : decode cX1_leadOf 10 = .ok (.aload_n 2, 1) := by decide +kernel
theorem dX1_leadOf_11 : decode cX1_leadOf 11 = .ok (.invokevirtual 70, 3) := by decide +kernel
theorem dX1_leadOf_14 : decode cX1_leadOf 14 = .ok (.istore_n 3, 1) := by decide +kernel
theorem dX1_leadOf_15 : decode cX1_leadOf 15 = .ok (.iconst 0, 1) := by decide +kernel
theorem dX1_leadOf_16 : decode cX1_leadOf 16 = .ok (.istore 4, 2) := by decide +kernel
theorem dX1_leadOf_18 : decode cX1_leadOf 18 = .ok (.iload 4, 2) := by decide +kernel
theorem dX1_leadOf_20 : decode cX1_leadOf 20 = .ok (.getstatic 36, 3) := by decide +kernel
theorem dX1_leadOf_23 : decode cX1_leadOf 23 = .ok (.arraylength, 1) := by decide +kernel
theorem dX1_leadOf_24 : decode cX1_leadOf 24 = .ok (.if_icmp .ge 27, 3) := by decide +kernel
theorem dX1_leadOf_27 : decode cX1_leadOf 27 = .ok (.iload 4, 2) := by decide +kernel
theorem dX1_leadOf_29 : decode cX1_leadOf 29 = .ok (.iload_n 1, 1) := by decide +kernel
theorem dX1_leadOf_30 : decode cX1_leadOf 30 = .ok (.if_icmp .eq 15, 3) := by decide +kernel
theorem dX1_leadOf_33 : decode cX1_leadOf 33 = .ok (.iload_n 3, 1) := by decide +kernel
theorem dX1_leadOf_34 : decode cX1_leadOf 34 = .ok (.aload_n 0, 1) := by decide +kernel
theorem dX1_leadOf_35 : decode cX1_leadOf 35 = .ok (.iload 4, 2) := by decide +kernel
theorem dX1_leadOf_37 : decode cX1_leadOf 37 = .ok (.aload_n 2, 1) := by decide +kernel
theorem dX1_leadOf_38 : decode cX1_leadOf 38 = .ok (.invokevirtual 70, 3) := by decide +kernel
theorem dX1_leadOf_41 : decode cX1_leadOf 41 = .ok (.invokestatic 74, 3) := by decide +kernel
theorem dX1_leadOf_44 : decode cX1_leadOf 44 = .ok (.istore_n 3, 1) := by decide +kernel
theorem dX1_leadOf_45 : decode cX1_leadOf 45 = .ok (.iinc 4 1, 3) := by decide +kernel
theorem dX1_leadOf_48 : decode cX1_leadOf 48 = .ok (.goto (-30), 3) := by decide +kernel
theorem dX1_leadOf_51 : decode cX1_leadOf 51 = .ok (.aload_n 0, 1) := by decide +kernel
theorem dX1_leadOf_52 : decode cX1_leadOf 52 = .ok (.iload_n 1, 1) := by decide +kernel
theorem dX1_leadOf_53 : decode cX1_leadOf 53 = .ok (.aload_n 2, 1) := by decide +kernel
theorem dX1_leadOf_54 : decode cX1_leadOf 54 = .ok (.invokevirtual 70, 3) := by decide +kernel
theorem dX1_leadOf_57 : decode cX1_leadOf 57 = .ok (.iload_n 3, 1) := by decide +kernel
theorem dX1_leadOf_58 : decode cX1_leadOf 58 = .ok (.isub, 1) := by decide +kernel
theorem dX1_leadOf_59 : decode cX1_leadOf 59 = .ok (.ireturn, 1) := by decide +kernel
theorem dX1_rightOnes_0 : decode cX1_rightOnes 0 = .ok (.aload_n 0, 1) := by decide +kernel
theorem dX1_rightOnes_1 : decode cX1_rightOnes 1 = .ok (.getfield 39, 3) := by decide +kernel
theorem dX1_rightOnes_4 : decode cX1_rightOnes 4 = .ok (.iconst 0, 1) := by decide +kernel
theorem dX1_rightOnes_5 : decode cX1_rightOnes 5 = .ok (.iaload, 1) := by decide +kernel
theorem dX1_rightOnes_6 : decode cX1_rightOnes 6 = .ok (.ireturn, 1) := by decide +kernel
theorem dX1_strangeOnes_0 : decode cX1_strangeOnes 0 = .ok (.iconst 0, 1) := by decide +kernel
theorem dX1_strangeOnes_1 : decode cX1_strangeOnes 1 = .ok (.istore_n 1, 1) := by decide +kernel
theorem dX1_strangeOnes_2 : decode cX1_strangeOnes 2 = .ok (.iconst 0, 1) := by decide +kernel
theorem dX1_strangeOnes_3 : decode cX1_strangeOnes 3 = .ok (.istore_n 2, 1) := by decide +kernel
theorem dX1_strangeOnes_4 : decode cX1_strangeOnes 4 = .ok (.iload_n 2, 1) := by decide +kernel
theorem dX1_strangeOnes_5 : decode cX1_strangeOnes 5 = .ok (.aload_n 0, 1) := by decide +kernel
theorem dX1_strangeOnes_6 : decode cX1_strangeOnes 6 = .ok (.getfield 9, 3) := by decide +kernel
theorem dX1_strangeOnes_9 : decode cX1_strangeOnes 9 = .ok (.if_icmp .ge 30, 3) := by decide +kernel
theorem dX1_strangeOnes_12 : decode cX1_strangeOnes 12 = .ok (.aload_n 0, 1) := by decide +kernel
theorem dX1_strangeOnes_13 : decode cX1_strangeOnes 13 = .ok (.getfield 33, 3) := by decide +kernel
theorem dX1_strangeOnes_16 : decode cX1_strangeOnes 16 = .ok (.iload_n 2, 1) := by decide +kernel
theorem dX1_strangeOnes_17 : decode cX1_strangeOnes 17 = .ok (.baload, 1) := by decide +kernel
theorem dX1_strangeOnes_18 : decode cX1_strangeOnes 18 = .ok (.ifCond .eq 15, 3) := by decide +kernel
theorem dX1_strangeOnes_21 : decode cX1_strangeOnes 21 = .ok (.aload_n 0, 1) := by decide +kernel
theorem dX1_strangeOnes_22 : decode cX1_strangeOnes 22 = .ok (.getfield 29, 3) := by decide +kernel
theorem dX1_strangeOnes_25 : decode cX1_strangeOnes 25 = .ok (.iload_n 2, 1) := by decide +kernel
theorem dX1_strangeOnes_26 : decode cX1_strangeOnes 26 = .ok (.baload, 1) := by decide +kernel
theorem dX1_strangeOnes_27 : decode cX1_strangeOnes 27 = .ok (.ifCond .ne 6, 3) := by decide +kernel
theorem dX1_strangeOnes_30 : decode cX1_strangeOnes 30 = .ok (.iinc 1 1, 3) := by decide +kernel
theorem dX1_strangeOnes_33 : decode cX1_strangeOnes 33 = .ok (.iinc 2 1, 3) := by decide +kernel
theorem dX1_strangeOnes_36 : decode cX1_strangeOnes 36 = .ok (.goto (-32), 3) := by decide +kernel
theorem dX1_strangeOnes_39 : decode cX1_strangeOnes 39 = .ok (.iload_n 1, 1) := by decide +kernel
theorem dX1_strangeOnes_40 : decode cX1_strangeOnes 40 = .ok (.ireturn, 1) := by decide +kernel
set_option maxRecDepth 20000 in
theorem ggX1_tellStrange_X3_add : GoodIn wsX1_tellStrange wsX3_add := goodIn_r _ [9, 10, 11, 19, 20, 21] (by decide +kernel) (by decide +kernel)
set_option maxRecDepth 20000 in
theorem gX1_tellStrange_X3_add : GoodIn wsX1_tellStrange (wsV RX1 80 RX3 yX3_add wsX3_add) := goodIn_app (goodIn_of _ (by decide +kernel)) ggX1_tellStrange_X3_add
theorem dX1_tellStrange_0 : decode cX1_tellStrange 0 = .ok (.iconst 0, 1) := by decide +kernel
theorem dX1_tellStrange_1 : decode cX1_tellStrange 1 = .ok (.istore_n 2, 1) := by decide +kernel
theorem dX1_tellStrange_2 : decode cX1_tellStrange 2 = .ok (.iload_n 2, 1) := by decide +kernel
theorem dX1_tellStrange_3 : decode cX1_tellStrange 3 = .ok (.aload_n 0, 1) := by decide +kernel
theorem dX1_tellStrange_4 : decode cX1_tellStrange 4 = .ok (.getfield 9, 3) := by decide +kernel
theorem dX1_tellStrange_7 : decode cX1_tellStrange 7 = .ok (.if_icmp .ge 37, 3) := by decide +kernel
theorem dX1_tellStrange_10 : decode cX1_tellStrange 10 = .ok (.aload_n 0, 1) := by decide +kernel
theorem dX1_tellStrange_11 : decode cX1_tellStrange 11 = .ok (.getfield 33, 3) := by decide +kernel
theorem dX1_tellStrange_14 : decode cX1_tellStrange 14 = .ok (.iload_n 2, 1) := by decide +kernel
theorem dX1_tellStrange_15 : decode cX1_tellStrange 15 = .ok (.baload, 1) := by decide +kernel
theorem dX1_tellStrange_16 : decode cX1_tellStrange 16 = .ok (.ifCond .eq 22, 3) := by decide +kernel
theorem dX1_tellStrange_19 : decode cX1_tellStrange 19 = .ok (.aload_n 0, 1) := by decide +kernel
theorem dX1_tellStrange_20 : decode cX1_tellStrange 20 = .ok (.getfield 29, 3) := by decide +kernel
theorem dX1_tellStrange_23 : decode cX1_tellStrange 23 = .ok (.iload_n 2, 1) := by decide +kernel
theorem dX1_tellStrange_24 : decode cX1_tellStrange 24 = .ok (.baload, 1) := by decide +kernel
theorem dX1_tellStrange_25 : decode cX1_tellStrange 25 = .ok (.ifCond .ne 13, 3) := by decide +kernel
theorem dX1_tellStrange_28 : decode cX1_tellStrange 28 = .ok (.aload_n 1, 1) := by decide +kernel
theorem dX1_tellStrange_29 : decode cX1_tellStrange 29 = .ok (.aload_n 0, 1) := by decide +kernel
theorem dX1_tellStrange_30 : decode cX1_tellStrange 30 = .ok (.getfield 25, 3) := by decide +kernel
theorem dX1_tellStrange_33 : decode cX1_tellStrange 33 = .ok (.iload_n 2, 1) := by decide +kernel
theorem dX1_tellStrange_34 : decode cX1_tellStrange 34 = .ok (.iaload, 1) := by decide +kernel
theorem dX1_tellStrange_35 : decode cX1_tellStrange 35 = .ok (.invokevirtual 80, 3) := by decide +kernel
theorem dX1_tellStrange_38 : decode cX1_tellStrange 38 = .ok (.iinc 2 1, 3) := by decide +kernel
theorem dX1_tellStrange_41 : decode cX1_tellStrange 41 = .ok (.goto (-39), 3) := by decide +kernel
theorem dX1_tellStrange_44 : decode cX1_tellStrange 44 = .ok (.return_, 1) := by decide +kernel
set_option maxRecDepth 20000 in
theorem ggX2_init_X2_forget : GoodIn wsX2_init wsX2_forget := goodIn_r _ [13, 5, 7, 8, 14, 15, 16] (by decide +kernel) (by decide +kernel)
set_option maxRecDepth 20000 in
theorem gX2_init_X2_forget : GoodIn wsX2_init (wsV RX2 22 RX2 yX2_forget wsX2_forget) := goodIn_app (goodIn_of _ (by decide +kernel)) ggX2_init_X2_forget
theorem dX2_init_0 : decode cX2_init 0 = .ok (.aload_n 0, 1) := by decide +kernel
theorem dX2_init_1 : decode cX2_init 1 = .ok (.invokespecial 3, 3) := by decide +kernel
theorem dX2_init_4 : decode cX2_init 4 = .ok (.aload_n 0, 1) := by decide +kernel
theorem dX2_init_5 : decode cX2_init 5 = .ok (.bipush 8, 2) := by decide +kernel
theorem dX2_init_7 : decode cX2_init 7 = .ok (.newarray .int, 2) := by decide +kernel
theorem dX2_init_9 : decode cX2_init 9 = .ok (.putfield 9, 3) := by decide +kernel
theorem dX2_init_12 : decode cX2_init 12 = .ok (.aload_n 0, 1) := by decide +kernel
theorem dX2_init_13 : decode cX2_init 13 = .ok (.bipush 8, 2) := by decide +kernel
theorem dX2_init_15 : decode cX2_init 15 = .ok (.newarray .boolean, 2) := by decide +kernel
theorem dX2_init_17 : decode cX2_init 17 = .ok (.putfield 15, 3) := by decide +kernel
theorem dX2_init_20 : decode cX2_init 20 = .ok (.aload_n 0, 1) := by decide +kernel
theorem dX2_init_21 : decode cX2_init 21 = .ok (.bipush 8, 2) := by decide +kernel
theorem dX2_init_23 : decode cX2_init 23 = .ok (.newarray .int, 2) := by decide +kernel
theorem dX2_init_25 : decode cX2_init 25 = .ok (.putfield 19, 3) := by decide +kernel
theorem dX2_init_28 : decode cX2_init 28 = .ok (.aload_n 0, 1) := by decide +kernel
theorem dX2_init_29 : decode cX2_init 29 = .ok (.invokevirtual 22, 3) := by decide +kernel
theorem dX2_init_32 : decode cX2_init 32 = .ok (.return_, 1) := by decide +kernel
theorem dX2_forget_0 : decode cX2_forget 0 = .ok (.iconst 0, 1) := by decide +kernel
theorem dX2_forget_1 : decode cX2_forget 1 = .ok (.istore_n 1, 1) := by decide +kernel
theorem dX2_forget_2 : decode cX2_forget 2 = .ok (.iload_n 1, 1) := by decide +kernel
theorem dX2_forget_3 : decode cX2_forget 3 = .ok (.bipush 8, 2) := by decide +kernel
theorem dX2_forget_5 : decode cX2_forget 5 = .ok (.if_icmp .ge 31, 3) := by decide +kernel
theorem dX2_forget_8 : decode cX2_forget 8 = .ok (.aload_n 0, 1) := by decide +kernel
theorem dX2_forget_9 : decode cX2_forget 9 = .ok (.getfield 9, 3) := by decide +kernel
theorem dX2_forget_12 : decode cX2_forget 12 = .ok (.iload_n 1, 1) := by decide +kernel
theorem dX2_forget_13 : decode cX2_forget 13 = .ok (.iconst (-1), 1) := by decide +kernel
theorem dX2_forget_14 : decode cX2_forget 14 = .ok (.iastore, 1) := by decide +kernel
theorem dX2_forget_15 : decode cX2_forget 15 = .ok (.aload_n 0, 1) := by decide +kernel
theorem dX2_forget_16 : decode cX2_forget 16 = .ok (.getfield 15, 3) := by decide +kernel
theorem dX2_forget_19 : decode cX2_forget 19 = .ok (.iload_n 1, 1) := by decide +kernel
theorem dX2_forget_20 : decode cX2_forget 20 = .ok (.iconst 0, 1) := by decide +kernel
theorem dX2_forget_21 : decode cX2_forget 21 = .ok (.bastore, 1) := by decide +kernel
theorem dX2_forget_22 : decode cX2_forget 22 = .ok (.aload_n 0, 1) := by decide +kernel
theorem dX2_forget_23 : decode cX2_forget 23 = .ok (.getfield 19, 3) := by decide +kernel
theorem dX2_forget_26 : decode cX2_forget 26 = .ok (.iload_n 1, 1) := by decide +kernel
theorem dX2_forget_27 : decode cX2_forget 27 = .ok (.bipush 8, 2) := by decide +kernel
theorem dX2_forget_29 : decode cX2_forget 29 = .ok (.iastore, 1) := by decide +kernel
theorem dX2_forget_30 : decode cX2_forget 30 = .ok (.iinc 1 1, 3) := by decide +kernel
theorem dX2_forget_33 : decode cX2_forget 33 = .ok (.goto (-31), 3) := by decide +kernel
theorem dX2_forget_36 : decode cX2_forget 36 = .ok (.return_, 1) := by decide +kernel
theorem dX2_practise_0 : decode cX2_practise 0 = .ok (.aload_n 0, 1) := by decide +kernel
theorem dX2_practise_1 : decode cX2_practise 1 = .ok (.getfield 9, 3) := by decide +kernel
theorem dX2_practise_4 : decode cX2_practise 4 = .ok (.iload_n 1, 1) := by decide +kernel
theorem dX2_practise_5 : decode cX2_practise 5 = .ok (.iload_n 2, 1) := by decide +kernel
theorem dX2_practise_6 : decode cX2_practise 6 = .ok (.iastore, 1) := by decide +kernel
theorem dX2_practise_7 : decode cX2_practise 7 = .ok (.iload_n 3, 1) := by decide +kernel
theorem dX2_practise_8 : decode cX2_practise 8 = .ok (.ifCond .eq 33, 3) := by decide +kernel
theorem dX2_practise_11 : decode cX2_practise 11 = .ok (.aload_n 0, 1) := by decide +kernel
theorem dX2_practise_12 : decode cX2_practise 12 = .ok (.getfield 15, 3) := by decide +kernel
theorem dX2_practise_15 : decode cX2_practise 15 = .ok (.iload_n 1, 1) := by decide +kernel
theorem dX2_practise_16 : decode cX2_practise 16 = .ok (.iconst 1, 1) := by decide +kernel
theorem dX2_practise_17 : decode cX2_practise 17 = .ok (.bastore, 1) := by decide +kernel
theorem dX2_practise_18 : decode cX2_practise 18 = .ok (.aload_n 0, 1) := by decide +kernel
theorem dX2_practise_19 : decode cX2_practise 19 = .ok (.getfield 19, 3) := by decide +kernel
theorem dX2_practise_22 : decode cX2_practise 22 = .ok (.iload_n 1, 1) := by decide +kernel
theorem dX2_practise_23 : decode cX2_practise 23 = .ok (.sipush 512, 3) := by decide +kernel
theorem dX2_practise_26 : decode cX2_practise 26 = .ok (.iconst 2, 1) := by decide +kernel
theorem dX2_practise_27 : decode cX2_practise 27 = .ok (.aload_n 0, 1) := by decide +kernel
theorem dX2_practise_28 : decode cX2_practise 28 = .ok (.getfield 19, 3) := by decide +kernel
theorem dX2_practise_31 : decode cX2_practise 31 = .ok (.iload_n 1, 1) := by decide +kernel
theorem dX2_practise_32 : decode cX2_practise 32 = .ok (.iaload, 1) := by decide +kernel
theorem dX2_practise_33 : decode cX2_practise 33 = .ok (.imul, 1) := by decide +kernel
theorem dX2_practise_34 : decode cX2_practise 34 = .ok (.invokestatic 25, 3) := by decide +kernel
theorem dX2_practise_37 : decode cX2_practise 37 = .ok (.iastore, 1) := by decide +kernel
theorem dX2_practise_38 : decode cX2_practise 38 = .ok (.goto 21, 3) := by decide +kernel
theorem dX2_practise_41 : decode cX2_practise 41 = .ok (.aload_n 0, 1) := by decide +kernel
theorem dX2_practise_42 : decode cX2_practise 42 = .ok (.getfield 19, 3) := by decide +kernel
theorem dX2_practise_45 : decode cX2_practise 45 = .ok (.iload_n 1, 1) := by decide +kernel
theorem dX2_practise_46 : decode cX2_practise 46 = .ok (.iconst 1, 1) := by decide +kernel
theorem dX2_practise_47 : decode cX2_practise 47 = .ok (.aload_n 0, 1) := by decide +kernel
theorem dX2_practise_48 : decode cX2_practise 48 = .ok (.getfield 19, 3) := by decide +kernel
theorem dX2_practise_51 : decode cX2_practise 51 = .ok (.iload_n 1, 1) := by decide +kernel
theorem dX2_practise_52 : decode cX2_practise 52 = .ok (.iaload, 1) := by decide +kernel
theorem dX2_practise_53 : decode cX2_practise 53 = .ok (.iconst 2, 1) := by decide +kernel
theorem dX2_practise_54 : decode cX2_practise 54 = .ok (.idiv, 1) := by decide +kernel
theorem dX2_practise_55 : decode cX2_practise 55 = .ok (.invokestatic 31, 3) := by decide +kernel
theorem dX2_practise_58 : decode cX2_practise 58 = .ok (.iastore, 1) := by decide +kernel
theorem dX2_practise_59 : decode cX2_practise 59 = .ok (.aload_n 0, 1) := by decide +kernel
theorem dX2_practise_60 : decode cX2_practise 60 = .ok (.getfield 19, 3) := by decide +kernel
theorem dX2_practise_63 : decode cX2_practise 63 = .ok (.iload_n 1, 1) := by decide +kernel
theorem dX2_practise_64 : decode cX2_practise 64 = .ok (.iaload, 1) := by decide +kernel
theorem dX2_practise_65 : decode cX2_practise 65 = .ok (.ireturn, 1) := by decide +kernel
theorem dX2_oddsOn_0 : decode cX2_oddsOn 0 = .ok (.aload_n 0, 1) := by decide +kernel
theorem dX2_oddsOn_1 : decode cX2_oddsOn 1 = .ok (.getfield 19, 3) := by decide +kernel
theorem dX2_oddsOn_4 : decode cX2_oddsOn 4 = .ok (.iload_n 1, 1) := by decide +kernel
theorem dX2_oddsOn_5 : decode cX2_oddsOn 5 = .ok (.iaload, 1) := by decide +kernel
theorem dX2_oddsOn_6 : decode cX2_oddsOn 6 = .ok (.iload_n 2, 1) := by decide +kernel
theorem dX2_oddsOn_7 : decode cX2_oddsOn 7 = .ok (.iadd, 1) := by decide +kernel
theorem dX2_oddsOn_8 : decode cX2_oddsOn 8 = .ok (.aload_n 0, 1) := by decide +kernel
theorem dX2_oddsOn_9 : decode cX2_oddsOn 9 = .ok (.getfield 9, 3) := by decide +kernel
theorem dX2_oddsOn_12 : decode cX2_oddsOn 12 = .ok (.iload_n 1, 1) := by decide +kernel
theorem dX2_oddsOn_13 : decode cX2_oddsOn 13 = .ok (.iaload, 1) := by decide +kernel
theorem dX2_oddsOn_14 : decode cX2_oddsOn 14 = .ok (.isub, 1) := by decide +kernel
theorem dX2_oddsOn_15 : decode cX2_oddsOn 15 = .ok (.istore_n 3, 1) := by decide +kernel
theorem dX2_oddsOn_16 : decode cX2_oddsOn 16 = .ok (.aload_n 0, 1) := by decide +kernel
theorem dX2_oddsOn_17 : decode cX2_oddsOn 17 = .ok (.getfield 15, 3) := by decide +kernel
theorem dX2_oddsOn_20 : decode cX2_oddsOn 20 = .ok (.iload_n 1, 1) := by decide +kernel
theorem dX2_oddsOn_21 : decode cX2_oddsOn 21 = .ok (.baload, 1) := by decide +kernel
theorem dX2_oddsOn_22 : decode cX2_oddsOn 22 = .ok (.ifCond .eq 7, 3) := by decide +kernel
theorem dX2_oddsOn_25 : decode cX2_oddsOn 25 = .ok (.iload_n 3, 1) := by decide +kernel
theorem dX2_oddsOn_26 : decode cX2_oddsOn 26 = .ok (.ifCond .gt 5, 3) := by decide +kernel
theorem dX2_oddsOn_29 : decode cX2_oddsOn 29 = .ok (.iconst 0, 1) := by decide +kernel
theorem dX2_oddsOn_30 : decode cX2_oddsOn 30 = .ok (.ireturn, 1) := by decide +kernel
theorem dX2_oddsOn_31 : decode cX2_oddsOn 31 = .ok (.sipush 1000, 3) := by decide +kernel
theorem dX2_oddsOn_34 : decode cX2_oddsOn 34 = .ok (.aload_n 0, 1) := by decide +kernel
theorem dX2_oddsOn_35 : decode cX2_oddsOn 35 = .ok (.getfield 19, 3) := by decide +kernel
theorem dX2_oddsOn_38 : decode cX2_oddsOn 38 = .ok (.iload_n 1, 1) := by decide +kernel
theorem dX2_oddsOn_39 : decode cX2_oddsOn 39 = .ok (.iaload, 1) := by decide +kernel
theorem dX2_oddsOn_40 : decode cX2_oddsOn 40 = .ok (.imul, 1) := by decide +kernel
theorem dX2_oddsOn_41 : decode cX2_oddsOn 41 = .ok (.iload_n 3, 1) := by decide +kernel
theorem dX2_oddsOn_42 : decode cX2_oddsOn 42 = .ok (.idiv, 1) := by decide +kernel
theorem dX2_oddsOn_43 : decode cX2_oddsOn 43 = .ok (.ireturn, 1) := by decide +kernel
theorem dX2_firstFaded_0 : decode cX2_firstFaded 0 = .ok (.iload_n 2, 1) := by decide +kernel
theorem dX2_firstFaded_1 : decode cX2_firstFaded 1 = .ok (.ifCond .gt 6, 3) := by decide +kernel
theorem dX2_firstFaded_4 : decode cX2_firstFaded 4 = .ok (.bipush (-4), 2) := by decide +kernel
theorem dX2_firstFaded_6 : decode cX2_firstFaded 6 = .ok (.ireturn, 1) := by decide +kernel
theorem dX2_firstFaded_7 : decode cX2_firstFaded 7 = .ok (.aload_n 0, 1) := by decide +kernel
theorem dX2_firstFaded_8 : decode cX2_firstFaded 8 = .ok (.getfield 9, 3) := by decide +kernel
theorem dX2_firstFaded_11 : decode cX2_firstFaded 11 = .ok (.iload_n 1, 1) := by decide +kernel
theorem dX2_firstFaded_12 : decode cX2_firstFaded 12 = .ok (.iaload, 1) := by decide +kernel
theorem dX2_firstFaded_13 : decode cX2_firstFaded 13 = .ok (.sipush 1000, 3) := by decide +kernel
theorem dX2_firstFaded_16 : decode cX2_firstFaded 16 = .ok (.iload_n 2, 1) := by decide +kernel
theorem dX2_firstFaded_17 : decode cX2_firstFaded 17 = .ok (.isub, 1) := by decide +kernel
theorem dX2_firstFaded_18 : decode cX2_firstFaded 18 = .ok (.aload_n 0, 1) := by decide +kernel
theorem dX2_firstFaded_19 : decode cX2_firstFaded 19 = .ok (.getfield 19, 3) := by decide +kernel
theorem dX2_firstFaded_22 : decode cX2_firstFaded 22 = .ok (.iload_n 1, 1) := by decide +kernel
theorem dX2_firstFaded_23 : decode cX2_firstFaded 23 = .ok (.iaload, 1) := by decide +kernel
theorem dX2_firstFaded_24 : decode cX2_firstFaded 24 = .ok (.imul, 1) := by decide +kernel
theorem dX2_firstFaded_25 : decode cX2_firstFaded 25 = .ok (.iload_n 2, 1) := by decide +kernel
theorem dX2_firstFaded_26 : decode cX2_firstFaded 26 = .ok (.idiv, 1) := by decide +kernel
theorem dX2_firstFaded_27 : decode cX2_firstFaded 27 = .ok (.iadd, 1) := by decide +kernel
theorem dX2_firstFaded_28 : decode cX2_firstFaded 28 = .ok (.iconst 1, 1) := by decide +kernel
theorem dX2_firstFaded_29 : decode cX2_firstFaded 29 = .ok (.iadd, 1) := by decide +kernel
theorem dX2_firstFaded_30 : decode cX2_firstFaded 30 = .ok (.ireturn, 1) := by decide +kernel
theorem dX2_latestOfAll_0 : decode cX2_latestOfAll 0 = .ok (.iconst (-1), 1) := by decide +kernel
theorem dX2_latestOfAll_1 : decode cX2_latestOfAll 1 = .ok (.istore_n 1, 1) := by decide +kernel
theorem dX2_latestOfAll_2 : decode cX2_latestOfAll 2 = .ok (.iconst 0, 1) := by decide +kernel
theorem dX2_latestOfAll_3 : decode cX2_latestOfAll 3 = .ok (.istore_n 2, 1) := by decide +kernel
theorem dX2_latestOfAll_4 : decode cX2_latestOfAll 4 = .ok (.iload_n 2, 1) := by decide +kernel
theorem dX2_latestOfAll_5 : decode cX2_latestOfAll 5 = .ok (.bipush 8, 2) := by decide +kernel
theorem dX2_latestOfAll_7 : decode cX2_latestOfAll 7 = .ok (.if_icmp .ge 20, 3) := by decide +kernel
theorem dX2_latestOfAll_10 : decode cX2_latestOfAll 10 = .ok (.iload_n 1, 1) := by decide +kernel
theorem dX2_latestOfAll_11 : decode cX2_latestOfAll 11 = .ok (.aload_n 0, 1) := by decide +kernel
theorem dX2_latestOfAll_12 : decode cX2_latestOfAll 12 = .ok (.getfield 9, 3) := by decide +kernel
theorem dX2_latestOfAll_15 : decode cX2_latestOfAll 15 = .ok (.iload_n 2, 1) := by decide +kernel
theorem dX2_latestOfAll_16 : decode cX2_latestOfAll 16 = .ok (.iaload, 1) := by decide +kernel
theorem dX2_latestOfAll_17 : decode cX2_latestOfAll 17 = .ok (.invokestatic 31, 3) := by decide +kernel
theorem dX2_latestOfAll_20 : decode cX2_latestOfAll 20 = .ok (.istore_n 1, 1) := by decide +kernel
theorem dX2_latestOfAll_21 : decode cX2_latestOfAll 21 = .ok (.iinc 2 1, 3) := by decide +kernel
theorem dX2_latestOfAll_24 : decode cX2_latestOfAll 24 = .ok (.goto (-20), 3) := by decide +kernel
theorem dX2_latestOfAll_27 : decode cX2_latestOfAll 27 = .ok (.iload_n 1, 1) := by decide +kernel
theorem dX2_latestOfAll_28 : decode cX2_latestOfAll 28 = .ok (.ireturn, 1) := by decide +kernel
set_option maxRecDepth 20000 in
theorem ggX2_heldOn_X2_oddsOn : GoodIn wsX2_heldOn wsX2_oddsOn := goodIn_r _ [5, 6, 7, 8, 9, 10, 11] (by decide +kernel) (by decide +kernel)
set_option maxRecDepth 20000 in
theorem gX2_heldOn_X2_oddsOn : GoodIn wsX2_heldOn (wsV RX2 34 RX2 yX2_oddsOn wsX2_oddsOn) := goodIn_app (goodIn_of _ (by decide +kernel)) ggX2_heldOn_X2_oddsOn
theorem dX2_heldOn_0 : decode cX2_heldOn 0 = .ok (.iconst 0, 1) := by decide +kernel
theorem dX2_heldOn_1 : decode cX2_heldOn 1 = .ok (.istore_n 2, 1) := by decide +kernel
theorem dX2_heldOn_2 : decode cX2_heldOn 2 = .ok (.iconst 0, 1) := by decide +kernel
theorem dX2_heldOn_3 : decode cX2_heldOn 3 = .ok (.istore_n 3, 1) := by decide +kernel
theorem dX2_heldOn_4 : decode cX2_heldOn 4 = .ok (.iload_n 3, 1) := by decide +kernel
theorem dX2_heldOn_5 : decode cX2_heldOn 5 = .ok (.bipush 8, 2) := by decide +kernel
theorem dX2_heldOn_7 : decode cX2_heldOn 7 = .ok (.if_icmp .ge 27, 3) := by decide +kernel
theorem dX2_heldOn_10 : decode cX2_heldOn 10 = .ok (.aload_n 0, 1) := by decide +kernel
theorem dX2_heldOn_11 : decode cX2_heldOn 11 = .ok (.iload_n 3, 1) := by decide +kernel
theorem dX2_heldOn_12 : decode cX2_heldOn 12 = .ok (.iload_n 1, 1) := by decide +kernel
theorem dX2_heldOn_13 : decode cX2_heldOn 13 = .ok (.invokevirtual 34, 3) := by decide +kernel
theorem dX2_heldOn_16 : decode cX2_heldOn 16 = .ok (.sipush 500, 3) := by decide +kernel
theorem dX2_heldOn_19 : decode cX2_heldOn 19 = .ok (.if_icmp .lt 9, 3) := by decide +kernel
theorem dX2_heldOn_22 : decode cX2_heldOn 22 = .ok (.iload_n 2, 1) := by decide +kernel
theorem dX2_heldOn_23 : decode cX2_heldOn 23 = .ok (.iconst 1, 1) := by decide +kernel
theorem dX2_heldOn_24 : decode cX2_heldOn 24 = .ok (.iload_n 3, 1) := by decide +kernel
theorem dX2_heldOn_25 : decode cX2_heldOn 25 = .ok (.ishl, 1) := by decide +kernel
theorem dX2_heldOn_26 : decode cX2_heldOn 26 = .ok (.ior, 1) := by decide +kernel
theorem dX2_heldOn_27 : decode cX2_heldOn 27 = .ok (.istore_n 2, 1) := by decide +kernel
theorem dX2_heldOn_28 : decode cX2_heldOn 28 = .ok (.iinc 3 1, 3) := by decide +kernel
theorem dX2_heldOn_31 : decode cX2_heldOn 31 = .ok (.goto (-27), 3) := by decide +kernel
theorem dX2_heldOn_34 : decode cX2_heldOn 34 = .ok (.iload_n 2, 1) := by decide +kernel
theorem dX2_heldOn_35 : decode cX2_heldOn 35 = .ok (.ireturn, 1) := by decide +kernel
theorem dX3_init_0 : decode cX3_init 0 = .ok (.aload_n 0, 1) := by decide +kernel
theorem dX3_init_1 : decode cX3_init 1 = .ok (.invokespecial 3, 3) := by decide +kernel
theorem dX3_init_4 : decode cX3_init 4 = .ok (.aload_n 0, 1) := by decide +kernel
theorem dX3_init_5 : decode cX3_init 5 = .ok (.iconst 0, 1) := by decide +kernel
theorem dX3_init_6 : decode cX3_init 6 = .ok (.putfield 9, 3) := by decide +kernel
theorem dX3_init_9 : decode cX3_init 9 = .ok (.aload_n 0, 1) := by decide +kernel
theorem dX3_init_10 : decode cX3_init 10 = .ok (.sipush 480, 3) := by decide +kernel
theorem dX3_init_13 : decode cX3_init 13 = .ok (.newarray .int, 2) := by decide +kernel
theorem dX3_init_15 : decode cX3_init 15 = .ok (.putfield 15, 3) := by decide +kernel
theorem dX3_init_18 : decode cX3_init 18 = .ok (.aload_n 0, 1) := by decide +kernel
theorem dX3_init_19 : decode cX3_init 19 = .ok (.iconst 0, 1) := by decide +kernel
theorem dX3_init_20 : decode cX3_init 20 = .ok (.putfield 19, 3) := by decide +kernel
theorem dX3_init_23 : decode cX3_init 23 = .ok (.return_, 1) := by decide +kernel
theorem dX3_clear_0 : decode cX3_clear 0 = .ok (.aload_n 0, 1) := by decide +kernel
theorem dX3_clear_1 : decode cX3_clear 1 = .ok (.iconst 0, 1) := by decide +kernel
theorem dX3_clear_2 : decode cX3_clear 2 = .ok (.putfield 19, 3) := by decide +kernel
theorem dX3_clear_5 : decode cX3_clear 5 = .ok (.return_, 1) := by decide +kernel
theorem dX3_add_0 : decode cX3_add 0 = .ok (.aload_n 0, 1) := by decide +kernel
theorem dX3_add_1 : decode cX3_add 1 = .ok (.getfield 19, 3) := by decide +kernel
theorem dX3_add_4 : decode cX3_add 4 = .ok (.aload_n 0, 1) := by decide +kernel
theorem dX3_add_5 : decode cX3_add 5 = .ok (.getfield 15, 3) := by decide +kernel
theorem dX3_add_8 : decode cX3_add 8 = .ok (.arraylength, 1) := by decide +kernel
theorem dX3_add_9 : decode cX3_add 9 = .ok (.if_icmp .ge 23, 3) := by decide +kernel
theorem dX3_add_12 : decode cX3_add 12 = .ok (.aload_n 0, 1) := by decide +kernel
theorem dX3_add_13 : decode cX3_add 13 = .ok (.getfield 15, 3) := by decide +kernel
theorem dX3_add_16 : decode cX3_add 16 = .ok (.aload_n 0, 1) := by decide +kernel
theorem dX3_add_17 : decode cX3_add 17 = .ok (.getfield 19, 3) := by decide +kernel
theorem dX3_add_20 : decode cX3_add 20 = .ok (.iload_n 1, 1) := by decide +kernel
theorem dX3_add_21 : decode cX3_add 21 = .ok (.iastore, 1) := by decide +kernel
theorem dX3_add_22 : decode cX3_add 22 = .ok (.aload_n 0, 1) := by decide +kernel
theorem dX3_add_23 : decode cX3_add 23 = .ok (.dup, 1) := by decide +kernel
theorem dX3_add_24 : decode cX3_add 24 = .ok (.getfield 19, 3) := by decide +kernel
theorem dX3_add_27 : decode cX3_add 27 = .ok (.iconst 1, 1) := by decide +kernel
theorem dX3_add_28 : decode cX3_add 28 = .ok (.iadd, 1) := by decide +kernel
theorem dX3_add_29 : decode cX3_add 29 = .ok (.putfield 19, 3) := by decide +kernel
theorem dX3_add_32 : decode cX3_add 32 = .ok (.return_, 1) := by decide +kernel
theorem dX3_mostGiven_0 : decode cX3_mostGiven 0 = .ok (.iconst 0, 1) := by decide +kernel
theorem dX3_mostGiven_1 : decode cX3_mostGiven 1 = .ok (.istore_n 1, 1) := by decide +kernel
theorem dX3_mostGiven_2 : decode cX3_mostGiven 2 = .ok (.iconst 0, 1) := by decide +kernel
theorem dX3_mostGiven_3 : decode cX3_mostGiven 3 = .ok (.istore_n 2, 1) := by decide +kernel
theorem dX3_mostGiven_4 : decode cX3_mostGiven 4 = .ok (.iload_n 2, 1) := by decide +kernel
theorem dX3_mostGiven_5 : decode cX3_mostGiven 5 = .ok (.aload_n 0, 1) := by decide +kernel
theorem dX3_mostGiven_6 : decode cX3_mostGiven 6 = .ok (.getfield 19, 3) := by decide +kernel
theorem dX3_mostGiven_9 : decode cX3_mostGiven 9 = .ok (.if_icmp .ge 83, 3) := by decide +kernel
theorem dX3_mostGiven_12 : decode cX3_mostGiven 12 = .ok (.iconst 0, 1) := by decide +kernel
theorem dX3_mostGiven_13 : decode cX3_mostGiven 13 = .ok (.istore_n 3, 1) := by decide +kernel
theorem dX3_mostGiven_14 : decode cX3_mostGiven 14 = .ok (.iconst 0, 1) := by decide +kernel
theorem dX3_mostGiven_15 : decode cX3_mostGiven 15 = .ok (.istore 4, 2) := by decide +kernel
theorem dX3_mostGiven_17 : decode cX3_mostGiven 17 = .ok (.iload 4, 2) := by decide +kernel
theorem dX3_mostGiven_19 : decode cX3_mostGiven 19 = .ok (.aload_n 0, 1) := by decide +kernel
theorem dX3_mostGiven_20 : decode cX3_mostGiven 20 = .ok (.getfield 19, 3) := by decide +kernel
theorem dX3_mostGiven_23 : decode cX3_mostGiven 23 = .ok (.if_icmp .ge 28, 3) := by decide +kernel
theorem dX3_mostGiven_26 : decode cX3_mostGiven 26 = .ok (.aload_n 0, 1) := by decide +kernel
theorem dX3_mostGiven_27 : decode cX3_mostGiven 27 = .ok (.getfield 15, 3) := by decide +kernel
theorem dX3_mostGiven_30 : decode cX3_mostGiven 30 = .ok (.iload 4, 2) := by decide +kernel
theorem dX3_mostGiven_32 : decode cX3_mostGiven 32 = .ok (.iaload, 1) := by decide +kernel
theorem dX3_mostGiven_33 : decode cX3_mostGiven 33 = .ok (.aload_n 0, 1) := by decide +kernel
theorem dX3_mostGiven_34 : decode cX3_mostGiven 34 = .ok (.getfield 15, 3) := by decide +kernel
theorem dX3_mostGiven_37 : decode cX3_mostGiven 37 = .ok (.iload_n 2, 1) := by decide +kernel
theorem dX3_mostGiven_38 : decode cX3_mostGiven 38 = .ok (.iaload, 1) := by decide +kernel
theorem dX3_mostGiven_39 : decode cX3_mostGiven 39 = .ok (.if_icmp .ne 6, 3) := by decide +kernel
theorem dX3_mostGiven_42 : decode cX3_mostGiven 42 = .ok (.iinc 3 1, 3) := by decide +kernel
theorem dX3_mostGiven_45 : decode cX3_mostGiven 45 = .ok (.iinc 4 1, 3) := by decide +kernel
theorem dX3_mostGiven_48 : decode cX3_mostGiven 48 = .ok (.goto (-31), 3) := by decide +kernel
theorem dX3_mostGiven_51 : decode cX3_mostGiven 51 = .ok (.iload_n 3, 1) := by decide +kernel
theorem dX3_mostGiven_52 : decode cX3_mostGiven 52 = .ok (.iload_n 1, 1) := by decide +kernel
theorem dX3_mostGiven_53 : decode cX3_mostGiven 53 = .ok (.if_icmp .gt 21, 3) := by decide +kernel
theorem dX3_mostGiven_56 : decode cX3_mostGiven 56 = .ok (.iload_n 3, 1) := by decide +kernel
theorem dX3_mostGiven_57 : decode cX3_mostGiven 57 = .ok (.iload_n 1, 1) := by decide +kernel
theorem dX3_mostGiven_58 : decode cX3_mostGiven 58 = .ok (.if_icmp .ne 28, 3) := by decide +kernel
theorem dX3_mostGiven_61 : decode cX3_mostGiven 61 = .ok (.aload_n 0, 1) := by decide +kernel
theorem dX3_mostGiven_62 : decode cX3_mostGiven 62 = .ok (.getfield 15, 3) := by decide +kernel
theorem dX3_mostGiven_65 : decode cX3_mostGiven 65 = .ok (.iload_n 2, 1) := by decide +kernel
theorem dX3_mostGiven_66 : decode cX3_mostGiven 66 = .ok (.iaload, 1) := by decide +kernel
theorem dX3_mostGiven_67 : decode cX3_mostGiven 67 = .ok (.aload_n 0, 1) := by decide +kernel
theorem dX3_mostGiven_68 : decode cX3_mostGiven 68 = .ok (.getfield 9, 3) := by decide +kernel
theorem dX3_mostGiven_71 : decode cX3_mostGiven 71 = .ok (.if_icmp .ge 15, 3) := by decide +kernel
theorem dX3_mostGiven_74 : decode cX3_mostGiven 74 = .ok (.iload_n 3, 1) := by decide +kernel
theorem dX3_mostGiven_75 : decode cX3_mostGiven 75 = .ok (.istore_n 1, 1) := by decide +kernel
theorem dX3_mostGiven_76 : decode cX3_mostGiven 76 = .ok (.aload_n 0, 1) := by decide +kernel
theorem dX3_mostGiven_77 : decode cX3_mostGiven 77 = .ok (.aload_n 0, 1) := by decide +kernel
theorem dX3_mostGiven_78 : decode cX3_mostGiven 78 = .ok (.getfield 15, 3) := by decide +kernel
theorem dX3_mostGiven_81 : decode cX3_mostGiven 81 = .ok (.iload_n 2, 1) := by decide +kernel
theorem dX3_mostGiven_82 : decode cX3_mostGiven 82 = .ok (.iaload, 1) := by decide +kernel
theorem dX3_mostGiven_83 : decode cX3_mostGiven 83 = .ok (.putfield 9, 3) := by decide +kernel
theorem dX3_mostGiven_86 : decode cX3_mostGiven 86 = .ok (.iinc 2 1, 3) := by decide +kernel
theorem dX3_mostGiven_89 : decode cX3_mostGiven 89 = .ok (.goto (-85), 3) := by decide +kernel
theorem dX3_mostGiven_92 : decode cX3_mostGiven 92 = .ok (.iload_n 1, 1) := by decide +kernel
theorem dX3_mostGiven_93 : decode cX3_mostGiven 93 = .ok (.ireturn, 1) := by decide +kernel
theorem dX4_init_0 : decode cX4_init 0 = .ok (.aload_n 0, 1) := by decide +kernel
theorem dX4_init_1 : decode cX4_init 1 = .ok (.invokespecial 3, 3) := by decide +kernel
theorem dX4_init_4 : decode cX4_init 4 = .ok (.aload_n 0, 1) := by decide +kernel
theorem dX4_init_5 : decode cX4_init 5 = .ok (.iconst 3, 1) := by decide +kernel
theorem dX4_init_6 : decode cX4_init 6 = .ok (.newarray .int, 2) := by decide +kernel
theorem dX4_init_8 : decode cX4_init 8 = .ok (.putfield 9, 3) := by decide +kernel
theorem dX4_init_11 : decode cX4_init 11 = .ok (.aload_n 0, 1) := by decide +kernel
theorem dX4_init_12 : decode cX4_init 12 = .ok (.iconst 3, 1) := by decide +kernel
theorem dX4_init_13 : decode cX4_init 13 = .ok (.newarray .int, 2) := by decide +kernel
theorem dX4_init_15 : decode cX4_init 15 = .ok (.putfield 15, 3) := by decide +kernel
theorem dX4_init_18 : decode cX4_init 18 = .ok (.aload_n 0, 1) := by decide +kernel
theorem dX4_init_19 : decode cX4_init 19 = .ok (.iconst 3, 1) := by decide +kernel
theorem dX4_init_20 : decode cX4_init 20 = .ok (.newarray .int, 2) := by decide +kernel
theorem dX4_init_22 : decode cX4_init 22 = .ok (.putfield 18, 3) := by decide +kernel
theorem dX4_init_25 : decode cX4_init 25 = .ok (.return_, 1) := by decide +kernel
set_option maxRecDepth 20000 in
theorem ggX4_fill_X4_fillColumn : GoodIn wsX4_fill wsX4_fillColumn := goodIn_r _ [7, 1, 8, 9, 6, 10, 11, 12, 13, 14, 15, 2, 16, 17, 18, 19, 20, 21, 22, 23, 24, 25, 26] (by decide +kernel) (by decide +kernel)
set_option maxRecDepth 20000 in
theorem gX4_fill_X4_fillColumn : GoodIn wsX4_fill (wsV RX4 21 RX4 yX4_fillColumn wsX4_fillColumn) := goodIn_app (goodIn_of _ (by decide +kernel)) ggX4_fill_X4_fillColumn
theorem dX4_fill_0 : decode cX4_fill 0 = .ok (.aload_n 0, 1) := by decide +kernel
theorem dX4_fill_1 : decode cX4_fill 1 = .ok (.getfield 18, 3) := by decide +kernel
theorem dX4_fill_4 : decode cX4_fill 4 = .ok (.iconst 0, 1) := by decide +kernel
theorem dX4_fill_5 : decode cX4_fill 5 = .ok (.iload_n 1, 1) := by decide +kernel
theorem dX4_fill_6 : decode cX4_fill 6 = .ok (.bipush 10, 2) := by decide +kernel
theorem dX4_fill_8 : decode cX4_fill 8 = .ok (.irem, 1) := by decide +kernel
theorem dX4_fill_9 : decode cX4_fill 9 = .ok (.iastore, 1) := by decide +kernel
theorem dX4_fill_10 : decode cX4_fill 10 = .ok (.aload_n 0, 1) := by decide +kernel
theorem dX4_fill_11 : decode cX4_fill 11 = .ok (.getfield 18, 3) := by decide +kernel
theorem dX4_fill_14 : decode cX4_fill 14 = .ok (.iconst 1, 1) := by decide +kernel
theorem dX4_fill_15 : decode cX4_fill 15 = .ok (.iload_n 1, 1) := by decide +kernel
theorem dX4_fill_16 : decode cX4_fill 16 = .ok (.bipush 10, 2) := by decide +kernel
theorem dX4_fill_18 : decode cX4_fill 18 = .ok (.idiv, 1) := by decide +kernel
theorem dX4_fill_19 : decode cX4_fill 19 = .ok (.bipush 10, 2) := by decide +kernel
theorem dX4_fill_21 : decode cX4_fill 21 = .ok (.irem, 1) := by decide +kernel
theorem dX4_fill_22 : decode cX4_fill 22 = .ok (.iastore, 1) := by decide +kernel
theorem dX4_fill_23 : decode cX4_fill 23 = .ok (.aload_n 0, 1) := by decide +kernel
theorem dX4_fill_24 : decode cX4_fill 24 = .ok (.getfield 18, 3) := by decide +kernel
theorem dX4_fill_27 : decode cX4_fill 27 = .ok (.iconst 2, 1) := by decide +kernel
theorem dX4_fill_28 : decode cX4_fill 28 = .ok (.iload_n 1, 1) := by decide +kernel
theorem dX4_fill_29 : decode cX4_fill 29 = .ok (.bipush 100, 2) := by decide +kernel
theorem dX4_fill_31 : decode cX4_fill 31 = .ok (.idiv, 1) := by decide +kernel
theorem dX4_fill_32 : decode cX4_fill 32 = .ok (.bipush 10, 2) := by decide +kernel
theorem dX4_fill_34 : decode cX4_fill 34 = .ok (.irem, 1) := by decide +kernel
theorem dX4_fill_35 : decode cX4_fill 35 = .ok (.iastore, 1) := by decide +kernel
theorem dX4_fill_36 : decode cX4_fill 36 = .ok (.iload_n 2, 1) := by decide +kernel
theorem dX4_fill_37 : decode cX4_fill 37 = .ok (.istore 4, 2) := by decide +kernel
theorem dX4_fill_39 : decode cX4_fill 39 = .ok (.iconst 0, 1) := by decide +kernel
theorem dX4_fill_40 : decode cX4_fill 40 = .ok (.istore 5, 2) := by decide +kernel
theorem dX4_fill_42 : decode cX4_fill 42 = .ok (.iload 5, 2) := by decide +kernel
theorem dX4_fill_44 : decode cX4_fill 44 = .ok (.iconst 3, 1) := by decide +kernel
theorem dX4_fill_45 : decode cX4_fill 45 = .ok (.if_icmp .ge 47, 3) := by decide +kernel
theorem dX4_fill_48 : decode cX4_fill 48 = .ok (.iload 5, 2) := by decide +kernel
theorem dX4_fill_50 : decode cX4_fill 50 = .ok (.ifCond .le 12, 3) := by decide +kernel
theorem dX4_fill_53 : decode cX4_fill 53 = .ok (.iload 4, 2) := by decide +kernel
theorem dX4_fill_55 : decode cX4_fill 55 = .ok (.ifCond .ne 7, 3) := by decide +kernel
theorem dX4_fill_58 : decode cX4_fill 58 = .ok (.iconst 1, 1) := by decide +kernel
theorem dX4_fill_59 : decode cX4_fill 59 = .ok (.goto 4, 3) := by decide +kernel
theorem dX4_fill_62 : decode cX4_fill 62 = .ok (.iconst 0, 1) := by decide +kernel
theorem dX4_fill_63 : decode cX4_fill 63 = .ok (.istore 6, 2) := by decide +kernel
theorem dX4_fill_65 : decode cX4_fill 65 = .ok (.aload_n 0, 1) := by decide +kernel
theorem dX4_fill_66 : decode cX4_fill 66 = .ok (.iload 5, 2) := by decide +kernel
theorem dX4_fill_68 : decode cX4_fill 68 = .ok (.iload 4, 2) := by decide +kernel
theorem dX4_fill_70 : decode cX4_fill 70 = .ok (.bipush 10, 2) := by decide +kernel
theorem dX4_fill_72 : decode cX4_fill 72 = .ok (.irem, 1) := by decide +kernel
theorem dX4_fill_73 : decode cX4_fill 73 = .ok (.iload 6, 2) := by decide +kernel
theorem dX4_fill_75 : decode cX4_fill 75 = .ok (.iload_n 3, 1) := by decide +kernel
theorem dX4_fill_76 : decode cX4_fill 76 = .ok (.invokevirtual 21, 3) := by decide +kernel
theorem dX4_fill_79 : decode cX4_fill 79 = .ok (.iload 4, 2) := by decide +kernel
theorem dX4_fill_81 : decode cX4_fill 81 = .ok (.bipush 10, 2) := by decide +kernel
theorem dX4_fill_83 : decode cX4_fill 83 = .ok (.idiv, 1) := by decide +kernel
theorem dX4_fill_84 : decode cX4_fill 84 = .ok (.istore 4, 2) := by decide +kernel
theorem dX4_fill_86 : decode cX4_fill 86 = .ok (.iinc 5 1, 3) := by decide +kernel
theorem dX4_fill_89 : decode cX4_fill 89 = .ok (.goto (-47), 3) := by decide +kernel
theorem dX4_fill_92 : decode cX4_fill 92 = .ok (.bipush 100, 2) := by decide +kernel
theorem dX4_fill_94 : decode cX4_fill 94 = .ok (.aload_n 0, 1) := by decide +kernel
theorem dX4_fill_95 : decode cX4_fill 95 = .ok (.getfield 9, 3) := by decide +kernel
theorem dX4_fill_98 : decode cX4_fill 98 = .ok (.iconst 2, 1) := by decide +kernel
theorem dX4_fill_99 : decode cX4_fill 99 = .ok (.iaload, 1) := by decide +kernel
theorem dX4_fill_100 : decode cX4_fill 100 = .ok (.imul, 1) := by decide +kernel
theorem dX4_fill_101 : decode cX4_fill 101 = .ok (.bipush 10, 2) := by decide +kernel
theorem dX4_fill_103 : decode cX4_fill 103 = .ok (.aload_n 0, 1) := by decide +kernel
theorem dX4_fill_104 : decode cX4_fill 104 = .ok (.getfield 9, 3) := by decide +kernel
theorem dX4_fill_107 : decode cX4_fill 107 = .ok (.iconst 1, 1) := by decide +kernel
theorem dX4_fill_108 : decode cX4_fill 108 = .ok (.iaload, 1) := by decide +kernel
theorem dX4_fill_109 : decode cX4_fill 109 = .ok (.imul, 1) := by decide +kernel
theorem dX4_fill_110 : decode cX4_fill 110 = .ok (.iadd, 1) := by decide +kernel
theorem dX4_fill_111 : decode cX4_fill 111 = .ok (.aload_n 0, 1) := by decide +kernel
theorem dX4_fill_112 : decode cX4_fill 112 = .ok (.getfield 9, 3) := by decide +kernel
theorem dX4_fill_115 : decode cX4_fill 115 = .ok (.iconst 0, 1) := by decide +kernel
theorem dX4_fill_116 : decode cX4_fill 116 = .ok (.iaload, 1) := by decide +kernel
theorem dX4_fill_117 : decode cX4_fill 117 = .ok (.iadd, 1) := by decide +kernel
theorem dX4_fill_118 : decode cX4_fill 118 = .ok (.ireturn, 1) := by decide +kernel
set_option maxRecDepth 20000 in
theorem ggX4_fillColumn_X4_has : GoodIn wsX4_fillColumn wsX4_has := goodIn_r _ [5] (by decide +kernel) (by decide +kernel)
set_option maxRecDepth 20000 in
theorem gX4_fillColumn_X4_has : GoodIn wsX4_fillColumn (va_wsS RX4 25 yX4_has wsX4_has) := goodIn_app (goodIn_of _ (by decide +kernel)) ggX4_fillColumn_X4_has
set_option maxRecDepth 20000 in
theorem ggX4_fillColumn_X4_note : GoodIn wsX4_fillColumn wsX4_note := goodIn_r _ [9, 10, 11, 20, 21, 22] (by decide +kernel) (by decide +kernel)
set_option maxRecDepth 20000 in
theorem gX4_fillColumn_X4_note : GoodIn wsX4_fillColumn (wsV RX4 29 RX4 yX4_note wsX4_note) := goodIn_app (goodIn_of _ (by decide +kernel)) ggX4_fillColumn_X4_note
set_option maxRecDepth 20000 in
theorem ggX4_fillColumn_X4_pay : GoodIn wsX4_fillColumn wsX4_pay := goodIn_r _ [15, 1, 16, 17, 18, 19, 2, 3, 4, 5, 20, 21, 22] (by decide +kernel) (by decide +kernel)
set_option maxRecDepth 20000 in
theorem gX4_fillColumn_X4_pay : GoodIn wsX4_fillColumn (wsV RX4 33 RX4 yX4_pay wsX4_pay) := goodIn_app (goodIn_of _ (by decide +kernel)) ggX4_fillColumn_X4_pay
theorem dX4_fillColumn_0 : decode cX4_fillColumn 0 = .ok (.aload_n 0, 1) := by decide +kernel
theorem dX4_fillColumn_1 : decode cX4_fillColumn 1 = .ok (.getfield 18, 3) := by decide +kernel
theorem dX4_fillColumn_4 : decode cX4_fillColumn 4 = .ok (.iload_n 1, 1) := by decide +kernel
theorem dX4_fillColumn_5 : decode cX4_fillColumn 5 = .ok (.iaload, 1) := by decide +kernel
theorem dX4_fillColumn_6 : decode cX4_fillColumn 6 = .ok (.istore 5, 2) := by decide +kernel
theorem dX4_fillColumn_8 : decode cX4_fillColumn 8 = .ok (.iload_n 3, 1) := by decide +kernel
theorem dX4_fillColumn_9 : decode cX4_fillColumn 9 = .ok (.ifCond .eq 23, 3) := by decide +kernel
theorem dX4_fillColumn_12 : decode cX4_fillColumn 12 = .ok (.iload 4, 2) := by decide +kernel
theorem dX4_fillColumn_14 : decode cX4_fillColumn 14 = .ok (.bipush 6, 2) := by decide +kernel
theorem dX4_fillColumn_16 : decode cX4_fillColumn 16 = .ok (.invokestatic 25, 3) := by decide +kernel
theorem dX4_fillColumn_19 : decode cX4_fillColumn 19 = .ok (.ifCond .eq 13, 3) := by decide +kernel
theorem dX4_fillColumn_22 : decode cX4_fillColumn 22 = .ok (.aload_n 0, 1) := by decide +kernel
theorem dX4_fillColumn_23 : decode cX4_fillColumn 23 = .ok (.iload_n 1, 1) := by decide +kernel
theorem dX4_fillColumn_24 : decode cX4_fillColumn 24 = .ok (.iconst 0, 1) := by decide +kernel
theorem dX4_fillColumn_25 : decode cX4_fillColumn 25 = .ok (.iconst 0, 1) := by decide +kernel
theorem dX4_fillColumn_26 : decode cX4_fillColumn 26 = .ok (.invokevirtual 29, 3) := by decide +kernel
theorem dX4_fillColumn_29 : decode cX4_fillColumn 29 = .ok (.goto 126, 3) := by decide +kernel
theorem dX4_fillColumn_32 : decode cX4_fillColumn 32 = .ok (.iload_n 2, 1) := by decide +kernel
theorem dX4_fillColumn_33 : decode cX4_fillColumn 33 = .ok (.ifCond .ne 22, 3) := by decide +kernel
theorem dX4_fillColumn_36 : decode cX4_fillColumn 36 = .ok (.iload 4, 2) := by decide +kernel
theorem dX4_fillColumn_38 : decode cX4_fillColumn 38 = .ok (.iconst 5, 1) := by decide +kernel
theorem dX4_fillColumn_39 : decode cX4_fillColumn 39 = .ok (.invokestatic 25, 3) := by decide +kernel
theorem dX4_fillColumn_42 : decode cX4_fillColumn 42 = .ok (.ifCond .eq 13, 3) := by decide +kernel
theorem dX4_fillColumn_45 : decode cX4_fillColumn 45 = .ok (.aload_n 0, 1) := by decide +kernel
theorem dX4_fillColumn_46 : decode cX4_fillColumn 46 = .ok (.iload_n 1, 1) := by decide +kernel
theorem dX4_fillColumn_47 : decode cX4_fillColumn 47 = .ok (.iconst 1, 1) := by decide +kernel
theorem dX4_fillColumn_48 : decode cX4_fillColumn 48 = .ok (.iconst 0, 1) := by decide +kernel
theorem dX4_fillColumn_49 : decode cX4_fillColumn 49 = .ok (.invokevirtual 29, 3) := by decide +kernel
theorem dX4_fillColumn_52 : decode cX4_fillColumn 52 = .ok (.goto 103, 3) := by decide +kernel
theorem dX4_fillColumn_55 : decode cX4_fillColumn 55 = .ok (.iload 5, 2) := by decide +kernel
theorem dX4_fillColumn_57 : decode cX4_fillColumn 57 = .ok (.ifCond .ne 26, 3) := by decide +kernel
theorem dX4_fillColumn_60 : decode cX4_fillColumn 60 = .ok (.iload_n 2, 1) := by decide +kernel
theorem dX4_fillColumn_61 : decode cX4_fillColumn 61 = .ok (.ifCond .le 22, 3) := by decide +kernel
theorem dX4_fillColumn_64 : decode cX4_fillColumn 64 = .ok (.iload 4, 2) := by decide +kernel
theorem dX4_fillColumn_66 : decode cX4_fillColumn 66 = .ok (.iconst 2, 1) := by decide +kernel
theorem dX4_fillColumn_67 : decode cX4_fillColumn 67 = .ok (.invokestatic 25, 3) := by decide +kernel
theorem dX4_fillColumn_70 : decode cX4_fillColumn 70 = .ok (.ifCond .eq 13, 3) := by decide +kernel
theorem dX4_fillColumn_73 : decode cX4_fillColumn 73 = .ok (.aload_n 0, 1) := by decide +kernel
theorem dX4_fillColumn_74 : decode cX4_fillColumn 74 = .ok (.iload_n 1, 1) := by decide +kernel
theorem dX4_fillColumn_75 : decode cX4_fillColumn 75 = .ok (.iconst 2, 1) := by decide +kernel
theorem dX4_fillColumn_76 : decode cX4_fillColumn 76 = .ok (.iload_n 2, 1) := by decide +kernel
theorem dX4_fillColumn_77 : decode cX4_fillColumn 77 = .ok (.invokevirtual 29, 3) := by decide +kernel
theorem dX4_fillColumn_80 : decode cX4_fillColumn 80 = .ok (.goto 75, 3) := by decide +kernel
theorem dX4_fillColumn_83 : decode cX4_fillColumn 83 = .ok (.iload 5, 2) := by decide +kernel
theorem dX4_fillColumn_85 : decode cX4_fillColumn 85 = .ok (.iload_n 2, 1) := by decide +kernel
theorem dX4_fillColumn_86 : decode cX4_fillColumn 86 = .ok (.if_icmp .lt 16, 3) := by decide +kernel
theorem dX4_fillColumn_89 : decode cX4_fillColumn 89 = .ok (.aload_n 0, 1) := by decide +kernel
theorem dX4_fillColumn_90 : decode cX4_fillColumn 90 = .ok (.iload_n 1, 1) := by decide +kernel
theorem dX4_fillColumn_91 : decode cX4_fillColumn 91 = .ok (.iconst 3, 1) := by decide +kernel
theorem dX4_fillColumn_92 : decode cX4_fillColumn 92 = .ok (.iload 5, 2) := by decide +kernel
theorem dX4_fillColumn_94 : decode cX4_fillColumn 94 = .ok (.iload_n 2, 1) := by decide +kernel
theorem dX4_fillColumn_95 : decode cX4_fillColumn 95 = .ok (.isub, 1) := by decide +kernel
theorem dX4_fillColumn_96 : decode cX4_fillColumn 96 = .ok (.invokevirtual 29, 3) := by decide +kernel
theorem dX4_fillColumn_99 : decode cX4_fillColumn 99 = .ok (.goto 56, 3) := by decide +kernel
theorem dX4_fillColumn_102 : decode cX4_fillColumn 102 = .ok (.iload 4, 2) := by decide +kernel
theorem dX4_fillColumn_104 : decode cX4_fillColumn 104 = .ok (.iconst 0, 1) := by decide +kernel
theorem dX4_fillColumn_105 : decode cX4_fillColumn 105 = .ok (.invokestatic 25, 3) := by decide +kernel
theorem dX4_fillColumn_108 : decode cX4_fillColumn 108 = .ok (.ifCond .eq 16, 3) := by decide +kernel
theorem dX4_fillColumn_111 : decode cX4_fillColumn 111 = .ok (.aload_n 0, 1) := by decide +kernel
theorem dX4_fillColumn_112 : decode cX4_fillColumn 112 = .ok (.iload_n 1, 1) := by decide +kernel
theorem dX4_fillColumn_113 : decode cX4_fillColumn 113 = .ok (.iconst 4, 1) := by decide +kernel
theorem dX4_fillColumn_114 : decode cX4_fillColumn 114 = .ok (.iload_n 2, 1) := by decide +kernel
theorem dX4_fillColumn_115 : decode cX4_fillColumn 115 = .ok (.iload 5, 2) := by decide +kernel
theorem dX4_fillColumn_117 : decode cX4_fillColumn 117 = .ok (.isub, 1) := by decide +kernel
theorem dX4_fillColumn_118 : decode cX4_fillColumn 118 = .ok (.invokevirtual 29, 3) := by decide +kernel
theorem dX4_fillColumn_121 : decode cX4_fillColumn 121 = .ok (.goto 34, 3) := by decide +kernel
theorem dX4_fillColumn_124 : decode cX4_fillColumn 124 = .ok (.aload_n 0, 1) := by decide +kernel
theorem dX4_fillColumn_125 : decode cX4_fillColumn 125 = .ok (.iload_n 1, 1) := by decide +kernel
theorem dX4_fillColumn_126 : decode cX4_fillColumn 126 = .ok (.iconst 5, 1) := by decide +kernel
theorem dX4_fillColumn_127 : decode cX4_fillColumn 127 = .ok (.bipush 10, 2) := by decide +kernel
theorem dX4_fillColumn_129 : decode cX4_fillColumn 129 = .ok (.iload 5, 2) := by decide +kernel
theorem dX4_fillColumn_131 : decode cX4_fillColumn 131 = .ok (.iadd, 1) := by decide +kernel
theorem dX4_fillColumn_132 : decode cX4_fillColumn 132 = .ok (.iload_n 2, 1) := by decide +kernel
theorem dX4_fillColumn_133 : decode cX4_fillColumn 133 = .ok (.isub, 1) := by decide +kernel
theorem dX4_fillColumn_134 : decode cX4_fillColumn 134 = .ok (.invokevirtual 29, 3) := by decide +kernel
theorem dX4_fillColumn_137 : decode cX4_fillColumn 137 = .ok (.iload 4, 2) := by decide +kernel
theorem dX4_fillColumn_139 : decode cX4_fillColumn 139 = .ok (.iconst 1, 1) := by decide +kernel
theorem dX4_fillColumn_140 : decode cX4_fillColumn 140 = .ok (.invokestatic 25, 3) := by decide +kernel
theorem dX4_fillColumn_143 : decode cX4_fillColumn 143 = .ok (.ifCond .ne 12, 3) := by decide +kernel
theorem dX4_fillColumn_146 : decode cX4_fillColumn 146 = .ok (.aload_n 0, 1) := by decide +kernel
theorem dX4_fillColumn_147 : decode cX4_fillColumn 147 = .ok (.iload_n 1, 1) := by decide +kernel
theorem dX4_fillColumn_148 : decode cX4_fillColumn 148 = .ok (.iconst 1, 1) := by decide +kernel
theorem dX4_fillColumn_149 : decode cX4_fillColumn 149 = .ok (.iadd, 1) := by decide +kernel
theorem dX4_fillColumn_150 : decode cX4_fillColumn 150 = .ok (.iload 4, 2) := by decide +kernel
theorem dX4_fillColumn_152 : decode cX4_fillColumn 152 = .ok (.invokevirtual 33, 3) := by decide +kernel
theorem dX4_fillColumn_155 : decode cX4_fillColumn 155 = .ok (.return_, 1) := by decide +kernel
theorem dX4_note_0 : decode cX4_note 0 = .ok (.aload_n 0, 1) := by decide +kernel
theorem dX4_note_1 : decode cX4_note 1 = .ok (.getfield 15, 3) := by decide +kernel
theorem dX4_note_4 : decode cX4_note 4 = .ok (.iload_n 1, 1) := by decide +kernel
theorem dX4_note_5 : decode cX4_note 5 = .ok (.iload_n 2, 1) := by decide +kernel
theorem dX4_note_6 : decode cX4_note 6 = .ok (.iastore, 1) := by decide +kernel
theorem dX4_note_7 : decode cX4_note 7 = .ok (.aload_n 0, 1) := by decide +kernel
theorem dX4_note_8 : decode cX4_note 8 = .ok (.getfield 9, 3) := by decide +kernel
theorem dX4_note_11 : decode cX4_note 11 = .ok (.iload_n 1, 1) := by decide +kernel
theorem dX4_note_12 : decode cX4_note 12 = .ok (.iload_n 3, 1) := by decide +kernel
theorem dX4_note_13 : decode cX4_note 13 = .ok (.iastore, 1) := by decide +kernel
theorem dX4_note_14 : decode cX4_note 14 = .ok (.return_, 1) := by decide +kernel
set_option maxRecDepth 20000 in
theorem ggX4_pay_X4_has : GoodIn wsX4_pay wsX4_has := goodIn_r _ [9] (by decide +kernel) (by decide +kernel)
set_option maxRecDepth 20000 in
theorem gX4_pay_X4_has : GoodIn wsX4_pay (va_wsS RX4 25 yX4_has wsX4_has) := goodIn_app (goodIn_of _ (by decide +kernel)) ggX4_pay_X4_has
theorem dX4_pay_0 : decode cX4_pay 0 = .ok (.iload_n 1, 1) := by decide +kernel
theorem dX4_pay_1 : decode cX4_pay 1 = .ok (.istore_n 3, 1) := by decide +kernel
theorem dX4_pay_2 : decode cX4_pay 2 = .ok (.iload_n 3, 1) := by decide +kernel
theorem dX4_pay_3 : decode cX4_pay 3 = .ok (.iconst 3, 1) := by decide +kernel
theorem dX4_pay_4 : decode cX4_pay 4 = .ok (.if_icmp .ge 91, 3) := by decide +kernel
theorem dX4_pay_7 : decode cX4_pay 7 = .ok (.aload_n 0, 1) := by decide +kernel
theorem dX4_pay_8 : decode cX4_pay 8 = .ok (.getfield 18, 3) := by decide +kernel
theorem dX4_pay_11 : decode cX4_pay 11 = .ok (.iload_n 3, 1) := by decide +kernel
theorem dX4_pay_12 : decode cX4_pay 12 = .ok (.iaload, 1) := by decide +kernel
theorem dX4_pay_13 : decode cX4_pay 13 = .ok (.ifCond .le 43, 3) := by decide +kernel
theorem dX4_pay_16 : decode cX4_pay 16 = .ok (.aload_n 0, 1) := by decide +kernel
theorem dX4_pay_17 : decode cX4_pay 17 = .ok (.getfield 18, 3) := by decide +kernel
theorem dX4_pay_20 : decode cX4_pay 20 = .ok (.iload_n 3, 1) := by decide +kernel
theorem dX4_pay_21 : decode cX4_pay 21 = .ok (.iload_n 2, 1) := by decide +kernel
theorem dX4_pay_22 : decode cX4_pay 22 = .ok (.bipush 7, 2) := by decide +kernel
theorem dX4_pay_24 : decode cX4_pay 24 = .ok (.invokestatic 25, 3) := by decide +kernel
theorem dX4_pay_27 : decode cX4_pay 27 = .ok (.ifCond .eq 19, 3) := by decide +kernel
theorem dX4_pay_30 : decode cX4_pay 30 = .ok (.bipush 9, 2) := by decide +kernel
theorem dX4_pay_32 : decode cX4_pay 32 = .ok (.aload_n 0, 1) := by decide +kernel
theorem dX4_pay_33 : decode cX4_pay 33 = .ok (.getfield 18, 3) := by decide +kernel
theorem dX4_pay_36 : decode cX4_pay 36 = .ok (.iload_n 3, 1) := by decide +kernel
theorem dX4_pay_37 : decode cX4_pay 37 = .ok (.iaload, 1) := by decide +kernel
theorem dX4_pay_38 : decode cX4_pay 38 = .ok (.iconst 1, 1) := by decide +kernel
theorem dX4_pay_39 : decode cX4_pay 39 = .ok (.iadd, 1) := by decide +kernel
theorem dX4_pay_40 : decode cX4_pay 40 = .ok (.invokestatic 37, 3) := by decide +kernel
theorem dX4_pay_43 : decode cX4_pay 43 = .ok (.goto 11, 3) := by decide +kernel
theorem dX4_pay_46 : decode cX4_pay 46 = .ok (.aload_n 0, 1) := by decide +kernel
theorem dX4_pay_47 : decode cX4_pay 47 = .ok (.getfield 18, 3) := by decide +kernel
theorem dX4_pay_50 : decode cX4_pay 50 = .ok (.iload_n 3, 1) := by decide +kernel
theorem dX4_pay_51 : decode cX4_pay 51 = .ok (.iaload, 1) := by decide +kernel
theorem dX4_pay_52 : decode cX4_pay 52 = .ok (.iconst 1, 1) := by decide +kernel
theorem dX4_pay_53 : decode cX4_pay 53 = .ok (.isub, 1) := by decide +kernel
theorem dX4_pay_54 : decode cX4_pay 54 = .ok (.iastore, 1) := by decide +kernel
theorem dX4_pay_55 : decode cX4_pay 55 = .ok (.return_, 1) := by decide +kernel
theorem dX4_pay_56 : decode cX4_pay 56 = .ok (.iload_n 2, 1) := by decide +kernel
theorem dX4_pay_57 : decode cX4_pay 57 = .ok (.iconst 3, 1) := by decide +kernel
theorem dX4_pay_58 : decode cX4_pay 58 = .ok (.invokestatic 25, 3) := by decide +kernel
theorem dX4_pay_61 : decode cX4_pay 61 = .ok (.ifCond .eq 12, 3) := by decide +kernel
theorem dX4_pay_64 : decode cX4_pay 64 = .ok (.aload_n 0, 1) := by decide +kernel
theorem dX4_pay_65 : decode cX4_pay 65 = .ok (.getfield 18, 3) := by decide +kernel
theorem dX4_pay_68 : decode cX4_pay 68 = .ok (.iload_n 3, 1) := by decide +kernel
theorem dX4_pay_69 : decode cX4_pay 69 = .ok (.bipush 9, 2) := by decide +kernel
theorem dX4_pay_71 : decode cX4_pay 71 = .ok (.iastore, 1) := by decide +kernel
theorem dX4_pay_72 : decode cX4_pay 72 = .ok (.return_, 1) := by decide +kernel
theorem dX4_pay_73 : decode cX4_pay 73 = .ok (.iload_n 2, 1) := by decide +kernel
theorem dX4_pay_74 : decode cX4_pay 74 = .ok (.iconst 4, 1) := by decide +kernel
theorem dX4_pay_75 : decode cX4_pay 75 = .ok (.invokestatic 25, 3) := by decide +kernel
theorem dX4_pay_78 : decode cX4_pay 78 = .ok (.ifCond .ne 11, 3) := by decide +kernel
theorem dX4_pay_81 : decode cX4_pay 81 = .ok (.aload_n 0, 1) := by decide +kernel
theorem dX4_pay_82 : decode cX4_pay 82 = .ok (.getfield 18, 3) := by decide +kernel
theorem dX4_pay_85 : decode cX4_pay 85 = .ok (.iload_n 3, 1) := by decide +kernel
theorem dX4_pay_86 : decode cX4_pay 86 = .ok (.bipush 9, 2) := by decide +kernel
theorem dX4_pay_88 : decode cX4_pay 88 = .ok (.iastore, 1) := by decide +kernel
theorem dX4_pay_89 : decode cX4_pay 89 = .ok (.iinc 3 1, 3) := by decide +kernel
theorem dX4_pay_92 : decode cX4_pay 92 = .ok (.goto (-90), 3) := by decide +kernel
theorem dX4_pay_95 : decode cX4_pay 95 = .ok (.return_, 1) := by decide +kernel
theorem dX4_has_0 : decode cX4_has 0 = .ok (.iload_n 0, 1) := by decide +kernel
theorem dX4_has_1 : decode cX4_has 1 = .ok (.iload_n 1, 1) := by decide +kernel
theorem dX4_has_2 : decode cX4_has 2 = .ok (.ishr, 1) := by decide +kernel
theorem dX4_has_3 : decode cX4_has 3 = .ok (.iconst 1, 1) := by decide +kernel
theorem dX4_has_4 : decode cX4_has 4 = .ok (.iand, 1) := by decide +kernel
theorem dX4_has_5 : decode cX4_has 5 = .ok (.iconst 1, 1) := by decide +kernel
theorem dX4_has_6 : decode cX4_has 6 = .ok (.if_icmp .ne 7, 3) := by decide +kernel
theorem dX4_has_9 : decode cX4_has 9 = .ok (.iconst 1, 1) := by decide +kernel
theorem dX4_has_10 : decode cX4_has 10 = .ok (.goto 4, 3) := by decide +kernel
theorem dX4_has_13 : decode cX4_has 13 = .ok (.iconst 0, 1) := by decide +kernel
theorem dX4_has_14 : decode cX4_has 14 = .ok (.ireturn, 1) := by decide +kernel
theorem dX5_init_0 : decode cX5_init 0 = .ok (.aload_n 0, 1) := by decide +kernel
theorem dX5_init_1 : decode cX5_init 1 = .ok (.invokespecial 3, 3) := by decide +kernel
theorem dX5_init_4 : decode cX5_init 4 = .ok (.aload_n 0, 1) := by decide +kernel
theorem dX5_init_5 : decode cX5_init 5 = .ok (.iconst (-1), 1) := by decide +kernel
theorem dX5_init_6 : decode cX5_init 6 = .ok (.putfield 11, 3) := by decide +kernel
theorem dX5_init_9 : decode cX5_init 9 = .ok (.aload_n 0, 1) := by decide +kernel
theorem dX5_init_10 : decode cX5_init 10 = .ok (.iconst 0, 1) := by decide +kernel
theorem dX5_init_11 : decode cX5_init 11 = .ok (.putfield 15, 3) := by decide +kernel
theorem dX5_init_14 : decode cX5_init 14 = .ok (.aload_n 0, 1) := by decide +kernel
theorem dX5_init_15 : decode cX5_init 15 = .ok (.bipush 40, 2) := by decide +kernel
theorem dX5_init_17 : decode cX5_init 17 = .ok (.newarray .int, 2) := by decide +kernel
theorem dX5_init_19 : decode cX5_init 19 = .ok (.putfield 18, 3) := by decide +kernel
theorem dX5_init_22 : decode cX5_init 22 = .ok (.return_, 1) := by decide +kernel
theorem dX5_isMissing_0 : decode cX5_isMissing 0 = .ok (.aload_n 0, 1) := by decide +kernel
theorem dX5_isMissing_1 : decode cX5_isMissing 1 = .ok (.getfield 11, 3) := by decide +kernel
theorem dX5_isMissing_4 : decode cX5_isMissing 4 = .ok (.ifCond .ge 7, 3) := by decide +kernel
theorem dX5_isMissing_7 : decode cX5_isMissing 7 = .ok (.iconst 1, 1) := by decide +kernel
theorem dX5_isMissing_8 : decode cX5_isMissing 8 = .ok (.goto 4, 3) := by decide +kernel
theorem dX5_isMissing_11 : decode cX5_isMissing 11 = .ok (.iconst 0, 1) := by decide +kernel
theorem dX5_isMissing_12 : decode cX5_isMissing 12 = .ok (.ireturn, 1) := by decide +kernel
theorem dX5_renew_0 : decode cX5_renew 0 = .ok (.aload_n 0, 1) := by decide +kernel
theorem dX5_renew_1 : decode cX5_renew 1 = .ok (.iload_n 1, 1) := by decide +kernel
theorem dX5_renew_2 : decode cX5_renew 2 = .ok (.putfield 15, 3) := by decide +kernel
theorem dX5_renew_5 : decode cX5_renew 5 = .ok (.aload_n 0, 1) := by decide +kernel
theorem dX5_renew_6 : decode cX5_renew 6 = .ok (.iload_n 2, 1) := by decide +kernel
theorem dX5_renew_7 : decode cX5_renew 7 = .ok (.bipush 40, 2) := by decide +kernel
theorem dX5_renew_9 : decode cX5_renew 9 = .ok (.invokestatic 22, 3) := by decide +kernel
theorem dX5_renew_12 : decode cX5_renew 12 = .ok (.putfield 11, 3) := by decide +kernel
theorem dX5_renew_15 : decode cX5_renew 15 = .ok (.iconst 0, 1) := by decide +kernel
theorem dX5_renew_16 : decode cX5_renew 16 = .ok (.istore_n 3, 1) := by decide +kernel
theorem dX5_renew_17 : decode cX5_renew 17 = .ok (.iload_n 3, 1) := by decide +kernel
theorem dX5_renew_18 : decode cX5_renew 18 = .ok (.bipush 40, 2) := by decide +kernel
theorem dX5_renew_20 : decode cX5_renew 20 = .ok (.if_icmp .ge 16, 3) := by decide +kernel
theorem dX5_renew_23 : decode cX5_renew 23 = .ok (.aload_n 0, 1) := by decide +kernel
theorem dX5_renew_24 : decode cX5_renew 24 = .ok (.getfield 18, 3) := by decide +kernel
theorem dX5_renew_27 : decode cX5_renew 27 = .ok (.iload_n 3, 1) := by decide +kernel
theorem dX5_renew_28 : decode cX5_renew 28 = .ok (.iconst 0, 1) := by decide +kernel
theorem dX5_renew_29 : decode cX5_renew 29 = .ok (.iastore, 1) := by decide +kernel
theorem dX5_renew_30 : decode cX5_renew 30 = .ok (.iinc 3 1, 3) := by decide +kernel
theorem dX5_renew_33 : decode cX5_renew 33 = .ok (.goto (-16), 3) := by decide +kernel
theorem dX5_renew_36 : decode cX5_renew 36 = .ok (.return_, 1) := by decide +kernel
theorem dX5_holds_0 : decode cX5_holds 0 = .ok (.iload_n 1, 1) := by decide +kernel
theorem dX5_holds_1 : decode cX5_holds 1 = .ok (.ifCond .lt 21, 3) := by decide +kernel
theorem dX5_holds_4 : decode cX5_holds 4 = .ok (.iload_n 2, 1) := by decide +kernel
theorem dX5_holds_5 : decode cX5_holds 5 = .ok (.ifCond .lt 17, 3) := by decide +kernel
theorem dX5_holds_8 : decode cX5_holds 8 = .ok (.iload_n 2, 1) := by decide +kernel
theorem dX5_holds_9 : decode cX5_holds 9 = .ok (.aload_n 0, 1) := by decide +kernel
theorem dX5_holds_10 : decode cX5_holds 10 = .ok (.getfield 11, 3) := by decide +kernel
theorem dX5_holds_13 : decode cX5_holds 13 = .ok (.iload_n 1, 1) := by decide +kernel
theorem dX5_holds_14 : decode cX5_holds 14 = .ok (.isub, 1) := by decide +kernel
theorem dX5_holds_15 : decode cX5_holds 15 = .ok (.if_icmp .gt 7, 3) := by decide +kernel
theorem dX5_holds_18 : decode cX5_holds 18 = .ok (.iconst 1, 1) := by decide +kernel
theorem dX5_holds_19 : decode cX5_holds 19 = .ok (.goto 4, 3) := by decide +kernel
theorem dX5_holds_22 : decode cX5_holds 22 = .ok (.iconst 0, 1) := by decide +kernel
theorem dX5_holds_23 : decode cX5_holds 23 = .ok (.ireturn, 1) := by decide +kernel
set_option maxRecDepth 20000 in
theorem ggX5_refusal_X5_isMissing : GoodIn wsX5_refusal wsX5_isMissing := goodIn_r _ [6, 7, 12, 13, 14] (by decide +kernel) (by decide +kernel)
set_option maxRecDepth 20000 in
theorem gX5_refusal_X5_isMissing : GoodIn wsX5_refusal (wsV RX5 28 RX5 yX5_isMissing wsX5_isMissing) := goodIn_app (goodIn_of _ (by decide +kernel)) ggX5_refusal_X5_isMissing
set_option maxRecDepth 20000 in
theorem ggX5_refusal_X5_holds : GoodIn wsX5_refusal wsX5_holds := goodIn_r _ [11, 7, 12, 13, 14] (by decide +kernel) (by decide +kernel)
set_option maxRecDepth 20000 in
theorem gX5_refusal_X5_holds : GoodIn wsX5_refusal (wsV RX5 32 RX5 yX5_holds wsX5_holds) := goodIn_app (goodIn_of _ (by decide +kernel)) ggX5_refusal_X5_holds
theorem dX5_refusal_0 : decode cX5_refusal 0 = .ok (.aload_n 0, 1) := by decide +kernel
theorem dX5_refusal_1 : decode cX5_refusal 1 = .ok (.invokevirtual 28, 3) := by decide +kernel
theorem dX5_refusal_4 : decode cX5_refusal 4 = .ok (.ifCond .eq 6, 3) := by decide +kernel
theorem dX5_refusal_7 : decode cX5_refusal 7 = .ok (.bipush (-11), 2) := by decide +kernel
theorem dX5_refusal_9 : decode cX5_refusal 9 = .ok (.ireturn, 1) := by decide +kernel
theorem dX5_refusal_10 : decode cX5_refusal 10 = .ok (.aload_n 0, 1) := by decide +kernel
theorem dX5_refusal_11 : decode cX5_refusal 11 = .ok (.getfield 15, 3) := by decide +kernel
theorem dX5_refusal_14 : decode cX5_refusal 14 = .ok (.iload_n 1, 1) := by decide +kernel
theorem dX5_refusal_15 : decode cX5_refusal 15 = .ok (.if_icmp .eq 6, 3) := by decide +kernel
theorem dX5_refusal_18 : decode cX5_refusal 18 = .ok (.bipush (-12), 2) := by decide +kernel
theorem dX5_refusal_20 : decode cX5_refusal 20 = .ok (.ireturn, 1) := by decide +kernel
theorem dX5_refusal_21 : decode cX5_refusal 21 = .ok (.aload_n 0, 1) := by decide +kernel
theorem dX5_refusal_22 : decode cX5_refusal 22 = .ok (.iload_n 2, 1) := by decide +kernel
theorem dX5_refusal_23 : decode cX5_refusal 23 = .ok (.iload_n 3, 1) := by decide +kernel
theorem dX5_refusal_24 : decode cX5_refusal 24 = .ok (.invokevirtual 32, 3) := by decide +kernel
theorem dX5_refusal_27 : decode cX5_refusal 27 = .ok (.ifCond .eq 7, 3) := by decide +kernel
theorem dX5_refusal_30 : decode cX5_refusal 30 = .ok (.iconst 0, 1) := by decide +kernel
theorem dX5_refusal_31 : decode cX5_refusal 31 = .ok (.goto 5, 3) := by decide +kernel
theorem dX5_refusal_34 : decode cX5_refusal 34 = .ok (.bipush (-13), 2) := by decide +kernel
theorem dX5_refusal_36 : decode cX5_refusal 36 = .ok (.ireturn, 1) := by decide +kernel
theorem dX5_at_0 : decode cX5_at 0 = .ok (.iload_n 1, 1) := by decide +kernel
theorem dX5_at_1 : decode cX5_at 1 = .ok (.ifCond .lt 20, 3) := by decide +kernel
theorem dX5_at_4 : decode cX5_at 4 = .ok (.iload_n 1, 1) := by decide +kernel
theorem dX5_at_5 : decode cX5_at 5 = .ok (.aload_n 0, 1) := by decide +kernel
theorem dX5_at_6 : decode cX5_at 6 = .ok (.getfield 11, 3) := by decide +kernel
theorem dX5_at_9 : decode cX5_at 9 = .ok (.if_icmp .ge 12, 3) := by decide +kernel
theorem dX5_at_12 : decode cX5_at 12 = .ok (.aload_n 0, 1) := by decide +kernel
theorem dX5_at_13 : decode cX5_at 13 = .ok (.getfield 18, 3) := by decide +kernel
theorem dX5_at_16 : decode cX5_at 16 = .ok (.iload_n 1, 1) := by decide +kernel
theorem dX5_at_17 : decode cX5_at 17 = .ok (.iaload, 1) := by decide +kernel
theorem dX5_at_18 : decode cX5_at 18 = .ok (.goto 4, 3) := by decide +kernel
theorem dX5_at_21 : decode cX5_at 21 = .ok (.iconst 0, 1) := by decide +kernel
theorem dX5_at_22 : decode cX5_at 22 = .ok (.ireturn, 1) := by decide +kernel
set_option maxRecDepth 20000 in
theorem ggX5_write_X5_cut : GoodIn wsX5_write wsX5_cut := goodIn_r _ [7, 8, 9, 10, 11] (by decide +kernel) (by decide +kernel)
set_option maxRecDepth 20000 in
theorem gX5_write_X5_cut : GoodIn wsX5_write (wsV RX5 36 RX5 yX5_cut wsX5_cut) := goodIn_app (goodIn_of _ (by decide +kernel)) ggX5_write_X5_cut
theorem dX5_write_0 : decode cX5_write 0 = .ok (.iload_n 1, 1) := by decide +kernel
theorem dX5_write_1 : decode cX5_write 1 = .ok (.ifCond .lt 22, 3) := by decide +kernel
theorem dX5_write_4 : decode cX5_write 4 = .ok (.iload_n 1, 1) := by decide +kernel
theorem dX5_write_5 : decode cX5_write 5 = .ok (.aload_n 0, 1) := by decide +kernel
theorem dX5_write_6 : decode cX5_write 6 = .ok (.getfield 11, 3) := by decide +kernel
theorem dX5_write_9 : decode cX5_write 9 = .ok (.if_icmp .ge 14, 3) := by decide +kernel
theorem dX5_write_12 : decode cX5_write 12 = .ok (.aload_n 0, 1) := by decide +kernel
theorem dX5_write_13 : decode cX5_write 13 = .ok (.getfield 18, 3) := by decide +kernel
theorem dX5_write_16 : decode cX5_write 16 = .ok (.iload_n 1, 1) := by decide +kernel
theorem dX5_write_17 : decode cX5_write 17 = .ok (.aload_n 0, 1) := by decide +kernel
theorem dX5_write_18 : decode cX5_write 18 = .ok (.iload_n 2, 1) := by decide +kernel
theorem dX5_write_19 : decode cX5_write 19 = .ok (.invokevirtual 36, 3) := by decide +kernel
theorem dX5_write_22 : decode cX5_write 22 = .ok (.iastore, 1) := by decide +kernel
theorem dX5_write_23 : decode cX5_write 23 = .ok (.return_, 1) := by decide +kernel
theorem dX5_cut_0 : decode cX5_cut 0 = .ok (.aload_n 0, 1) := by decide +kernel
theorem dX5_cut_1 : decode cX5_cut 1 = .ok (.getfield 15, 3) := by decide +kernel
theorem dX5_cut_4 : decode cX5_cut 4 = .ok (.lookupswitch 34 #[(0, 28), (1, 31)], 28) := by decide +kernel
theorem dX5_cut_32 : decode cX5_cut 32 = .ok (.iload_n 1, 1) := by decide +kernel
theorem dX5_cut_33 : decode cX5_cut 33 = .ok (.i2b, 1) := by decide +kernel
theorem dX5_cut_34 : decode cX5_cut 34 = .ok (.ireturn, 1) := by decide +kernel
theorem dX5_cut_35 : decode cX5_cut 35 = .ok (.iload_n 1, 1) := by decide +kernel
theorem dX5_cut_36 : decode cX5_cut 36 = .ok (.i2s, 1) := by decide +kernel
theorem dX5_cut_37 : decode cX5_cut 37 = .ok (.ireturn, 1) := by decide +kernel
theorem dX5_cut_38 : decode cX5_cut 38 = .ok (.iload_n 1, 1) := by decide +kernel
theorem dX5_cut_39 : decode cX5_cut 39 = .ok (.ireturn, 1) := by decide +kernel
theorem dX6_init_0 : decode cX6_init 0 = .ok (.aload_n 0, 1) := by decide +kernel
theorem dX6_init_1 : decode cX6_init 1 = .ok (.invokespecial 3, 3) := by decide +kernel
theorem dX6_init_4 : decode cX6_init 4 = .ok (.aload_n 0, 1) := by decide +kernel
theorem dX6_init_5 : decode cX6_init 5 = .ok (.iconst 0, 1) := by decide +kernel
theorem dX6_init_6 : decode cX6_init 6 = .ok (.putfield 9, 3) := by decide +kernel
theorem dX6_init_9 : decode cX6_init 9 = .ok (.aload_n 0, 1) := by decide +kernel
theorem dX6_init_10 : decode cX6_init 10 = .ok (.bipush 100, 2) := by decide +kernel
theorem dX6_init_12 : decode cX6_init 12 = .ok (.newarray .byte, 2) := by decide +kernel
theorem dX6_init_14 : decode cX6_init 14 = .ok (.putfield 15, 3) := by decide +kernel
theorem dX6_init_17 : decode cX6_init 17 = .ok (.aload_n 0, 1) := by decide +kernel
theorem dX6_init_18 : decode cX6_init 18 = .ok (.iconst 0, 1) := by decide +kernel
theorem dX6_init_19 : decode cX6_init 19 = .ok (.putfield 19, 3) := by decide +kernel
theorem dX6_init_22 : decode cX6_init 22 = .ok (.return_, 1) := by decide +kernel
theorem dX6_append_0 : decode cX6_append 0 = .ok (.aload_n 0, 1) := by decide +kernel
theorem dX6_append_1 : decode cX6_append 1 = .ok (.getfield 9, 3) := by decide +kernel
theorem dX6_append_4 : decode cX6_append 4 = .ok (.bipush 100, 2) := by decide +kernel
theorem dX6_append_6 : decode cX6_append 6 = .ok (.if_icmp .ge 24, 3) := by decide +kernel
theorem dX6_append_9 : decode cX6_append 9 = .ok (.aload_n 0, 1) := by decide +kernel
theorem dX6_append_10 : decode cX6_append 10 = .ok (.getfield 15, 3) := by decide +kernel
theorem dX6_append_13 : decode cX6_append 13 = .ok (.aload_n 0, 1) := by decide +kernel
theorem dX6_append_14 : decode cX6_append 14 = .ok (.getfield 9, 3) := by decide +kernel
theorem dX6_append_17 : decode cX6_append 17 = .ok (.iload_n 1, 1) := by decide +kernel
theorem dX6_append_18 : decode cX6_append 18 = .ok (.i2b, 1) := by decide +kernel
theorem dX6_append_19 : decode cX6_append 19 = .ok (.bastore, 1) := by decide +kernel
theorem dX6_append_20 : decode cX6_append 20 = .ok (.aload_n 0, 1) := by decide +kernel
theorem dX6_append_21 : decode cX6_append 21 = .ok (.dup, 1) := by decide +kernel
theorem dX6_append_22 : decode cX6_append 22 = .ok (.getfield 9, 3) := by decide +kernel
theorem dX6_append_25 : decode cX6_append 25 = .ok (.iconst 1, 1) := by decide +kernel
theorem dX6_append_26 : decode cX6_append 26 = .ok (.iadd, 1) := by decide +kernel
theorem dX6_append_27 : decode cX6_append 27 = .ok (.putfield 9, 3) := by decide +kernel
theorem dX6_append_30 : decode cX6_append 30 = .ok (.return_, 1) := by decide +kernel
set_option maxRecDepth 20000 in
theorem ggX6_readInto_X0_clear : GoodIn wsX6_readInto wsX0_clear := goodIn_r _ [6, 7, 8, 9, 54, 55, 56] (by decide +kernel) (by decide +kernel)
set_option maxRecDepth 20000 in
theorem gX6_readInto_X0_clear : GoodIn wsX6_readInto (wsV RX6 22 RX0 yX0_clear wsX0_clear) := goodIn_app (goodIn_of _ (by decide +kernel)) ggX6_readInto_X0_clear
set_option maxRecDepth 20000 in
theorem ggX6_readInto_X6_readClause : GoodIn wsX6_readInto wsX6_readClause := goodIn_r _ [14, 1, 15, 16, 17, 18, 19, 20, 13, 21, 22, 23, 24, 25, 26, 27, 28, 29, 30, 31, 32, 33, 5, 34, 7, 35, 36, 37, 38, 39, 40, 41, 42, 43, 44, 45, 46, 47, 48, 49, 50, 51, 52, 53, 54, 55, 56] (by decide +kernel) (by decide +kernel)
set_option maxRecDepth 20000 in
theorem gX6_readInto_X6_readClause : GoodIn wsX6_readInto (wsV RX6 27 RX6 yX6_readClause wsX6_readClause) := goodIn_app (goodIn_of _ (by decide +kernel)) ggX6_readInto_X6_readClause
set_option maxRecDepth 20000 in
theorem ggX6_readInto_X6_next : GoodIn wsX6_readInto wsX6_next := goodIn_r _ [25, 1, 26, 27, 51, 52, 53] (by decide +kernel) (by decide +kernel)
set_option maxRecDepth 20000 in
theorem gX6_readInto_X6_next : GoodIn wsX6_readInto (wsV RX6 31 RX6 yX6_next wsX6_next) := goodIn_app (goodIn_of _ (by decide +kernel)) ggX6_readInto_X6_next
set_option maxRecDepth 20000 in
theorem ggX6_readInto_X6_pass : GoodIn wsX6_readInto wsX6_pass := goodIn_r _ [38, 1, 22, 23, 24, 13, 25, 26, 27, 51, 52, 53] (by decide +kernel) (by decide +kernel)
set_option maxRecDepth 20000 in
theorem gX6_readInto_X6_pass : GoodIn wsX6_readInto (wsV RX6 35 RX6 yX6_pass wsX6_pass) := goodIn_app (goodIn_of _ (by decide +kernel)) ggX6_readInto_X6_pass
theorem dX6_readInto_0 : decode cX6_readInto 0 = .ok (.aload_n 1, 1) := by decide +kernel
theorem dX6_readInto_1 : decode cX6_readInto 1 = .ok (.invokevirtual 22, 3) := by decide +kernel
theorem dX6_readInto_4 : decode cX6_readInto 4 = .ok (.aload_n 0, 1) := by decide +kernel
theorem dX6_readInto_5 : decode cX6_readInto 5 = .ok (.iconst 0, 1) := by decide +kernel
theorem dX6_readInto_6 : decode cX6_readInto 6 = .ok (.putfield 19, 3) := by decide +kernel
theorem dX6_readInto_9 : decode cX6_readInto 9 = .ok (.iconst 1, 1) := by decide +kernel
theorem dX6_readInto_10 : decode cX6_readInto 10 = .ok (.istore_n 2, 1) := by decide +kernel
theorem dX6_readInto_11 : decode cX6_readInto 11 = .ok (.iload_n 2, 1) := by decide +kernel
theorem dX6_readInto_12 : decode cX6_readInto 12 = .ok (.bipush 8, 2) := by decide +kernel
theorem dX6_readInto_14 : decode cX6_readInto 14 = .ok (.if_icmp .gt 47, 3) := by decide +kernel
theorem dX6_readInto_17 : decode cX6_readInto 17 = .ok (.aload_n 0, 1) := by decide +kernel
theorem dX6_readInto_18 : decode cX6_readInto 18 = .ok (.aload_n 1, 1) := by decide +kernel
theorem dX6_readInto_19 : decode cX6_readInto 19 = .ok (.invokevirtual 27, 3) := by decide +kernel
theorem dX6_readInto_22 : decode cX6_readInto 22 = .ok (.ifCond .ne 6, 3) := by decide +kernel
theorem dX6_readInto_25 : decode cX6_readInto 25 = .ok (.goto 36, 3) := by decide +kernel
theorem dX6_readInto_28 : decode cX6_readInto 28 = .ok (.aload_n 0, 1) := by decide +kernel
theorem dX6_readInto_29 : decode cX6_readInto 29 = .ok (.invokevirtual 31, 3) := by decide +kernel
theorem dX6_readInto_32 : decode cX6_readInto 32 = .ok (.ifCond .ge 5, 3) := by decide +kernel
theorem dX6_readInto_35 : decode cX6_readInto 35 = .ok (.iload_n 2, 1) := by decide +kernel
theorem dX6_readInto_36 : decode cX6_readInto 36 = .ok (.ireturn, 1) := by decide +kernel
theorem dX6_readInto_37 : decode cX6_readInto 37 = .ok (.iload_n 2, 1) := by decide +kernel
theorem dX6_readInto_38 : decode cX6_readInto 38 = .ok (.bipush 8, 2) := by decide +kernel
theorem dX6_readInto_40 : decode cX6_readInto 40 = .ok (.if_icmp .eq 21, 3) := by decide +kernel
theorem dX6_readInto_43 : decode cX6_readInto 43 = .ok (.aload_n 0, 1) := by decide +kernel
theorem dX6_readInto_44 : decode cX6_readInto 44 = .ok (.bipush 59, 2) := by decide +kernel
theorem dX6_readInto_46 : decode cX6_readInto 46 = .ok (.invokevirtual 35, 3) := by decide +kernel
theorem dX6_readInto_49 : decode cX6_readInto 49 = .ok (.ifCond .ne 6, 3) := by decide +kernel
theorem dX6_readInto_52 : decode cX6_readInto 52 = .ok (.goto 9, 3) := by decide +kernel
theorem dX6_readInto_55 : decode cX6_readInto 55 = .ok (.iinc 2 1, 3) := by decide +kernel
theorem dX6_readInto_58 : decode cX6_readInto 58 = .ok (.goto (-47), 3) := by decide +kernel
theorem dX6_readInto_61 : decode cX6_readInto 61 = .ok (.bipush (-20), 2) := by decide +kernel
theorem dX6_readInto_63 : decode cX6_readInto 63 = .ok (.aload_n 0, 1) := by decide +kernel
theorem dX6_readInto_64 : decode cX6_readInto 64 = .ok (.getfield 19, 3) := by decide +kernel
theorem dX6_readInto_67 : decode cX6_readInto 67 = .ok (.isub, 1) := by decide +kernel
theorem dX6_readInto_68 : decode cX6_readInto 68 = .ok (.ireturn, 1) := by decide +kernel
set_option maxRecDepth 20000 in
theorem ggX6_readClause_X6_nextSkill : GoodIn wsX6_readClause wsX6_nextSkill := goodIn_r _ [9, 10, 11, 12, 8, 13, 1, 14, 15, 16, 17, 18, 41, 42, 43] (by decide +kernel) (by decide +kernel)
set_option maxRecDepth 20000 in
theorem gX6_readClause_X6_nextSkill : GoodIn wsX6_readClause (wsV RX6 39 RX6 yX6_nextSkill wsX6_nextSkill) := goodIn_app (goodIn_of _ (by decide +kernel)) ggX6_readClause_X6_nextSkill
set_option maxRecDepth 20000 in
theorem ggX6_readClause_X0_has : GoodIn wsX6_readClause wsX0_has := goodIn_r _ [23, 24, 16, 17, 18, 44, 45, 46] (by decide +kernel) (by decide +kernel)
set_option maxRecDepth 20000 in
theorem gX6_readClause_X0_has : GoodIn wsX6_readClause (wsV RX6 42 RX0 yX0_has wsX0_has) := goodIn_app (goodIn_of _ (by decide +kernel)) ggX6_readClause_X0_has
set_option maxRecDepth 20000 in
theorem ggX6_readClause_X6_pass : GoodIn wsX6_readClause wsX6_pass := goodIn_r _ [28, 1, 10, 11, 12, 8, 13, 14, 15, 41, 42, 43] (by decide +kernel) (by decide +kernel)
set_option maxRecDepth 20000 in
theorem gX6_readClause_X6_pass : GoodIn wsX6_readClause (wsV RX6 35 RX6 yX6_pass wsX6_pass) := goodIn_app (goodIn_of _ (by decide +kernel)) ggX6_readClause_X6_pass
set_option maxRecDepth 20000 in
theorem ggX6_readClause_X6_readNumber : GoodIn wsX6_readClause wsX6_readNumber := goodIn_r _ [32, 1, 14, 15, 33, 34, 35, 36, 10, 11, 12, 8, 13, 16, 17, 18, 41, 42, 43] (by decide +kernel) (by decide +kernel)
set_option maxRecDepth 20000 in
theorem gX6_readClause_X6_readNumber : GoodIn wsX6_readClause (wsV RX6 45 RX6 yX6_readNumber wsX6_readNumber) := goodIn_app (goodIn_of _ (by decide +kernel)) ggX6_readClause_X6_readNumber
set_option maxRecDepth 20000 in
theorem ggX6_readClause_X6_readLeans : GoodIn wsX6_readClause wsX6_readLeans := goodIn_r _ [40, 1, 5, 6, 7, 8, 9, 10, 11, 12, 13, 14, 15, 16, 17, 18, 19, 20, 21, 22, 23, 24, 25, 26, 27, 28, 41, 42, 43, 44, 45, 46] (by decide +kernel) (by decide +kernel)
set_option maxRecDepth 20000 in
theorem gX6_readClause_X6_readLeans : GoodIn wsX6_readClause (wsV RX6 49 RX6 yX6_readLeans wsX6_readLeans) := goodIn_app (goodIn_of _ (by decide +kernel)) ggX6_readClause_X6_readLeans
theorem dX6_readClause_0 : decode cX6_readClause 0 = .ok (.aload_n 0, 1) := by decide +kernel
theorem dX6_readClause_1 : decode cX6_readClause 1 = .ok (.invokevirtual 39, 3) := by decide +kernel
theorem dX6_readClause_4 : decode cX6_readClause 4 = .ok (.istore_n 2, 1) := by decide +kernel
theorem dX6_readClause_5 : decode cX6_readClause 5 = .ok (.iload_n 2, 1) := by decide +kernel
theorem dX6_readClause_6 : decode cX6_readClause 6 = .ok (.ifCond .lt 11, 3) := by decide +kernel
theorem dX6_readClause_9 : decode cX6_readClause 9 = .ok (.aload_n 1, 1) := by decide +kernel
theorem dX6_readClause_10 : decode cX6_readClause 10 = .ok (.iload_n 2, 1) := by decide +kernel
theorem dX6_readClause_11 : decode cX6_readClause 11 = .ok (.invokevirtual 42, 3) := by decide +kernel
theorem dX6_readClause_14 : decode cX6_readClause 14 = .ok (.ifCond .eq 5, 3) := by decide +kernel
theorem dX6_readClause_17 : decode cX6_readClause 17 = .ok (.iconst 0, 1) := by decide +kernel
theorem dX6_readClause_18 : decode cX6_readClause 18 = .ok (.ireturn, 1) := by decide +kernel
theorem dX6_readClause_19 : decode cX6_readClause 19 = .ok (.aload_n 0, 1) := by decide +kernel
theorem dX6_readClause_20 : decode cX6_readClause 20 = .ok (.dup, 1) := by decide +kernel
theorem dX6_readClause_21 : decode cX6_readClause 21 = .ok (.getfield 19, 3) := by decide +kernel
theorem dX6_readClause_24 : decode cX6_readClause 24 = .ok (.iconst 1, 1) := by decide +kernel
theorem dX6_readClause_25 : decode cX6_readClause 25 = .ok (.iadd, 1) := by decide +kernel
theorem dX6_readClause_26 : decode cX6_readClause 26 = .ok (.putfield 19, 3) := by decide +kernel
theorem dX6_readClause_29 : decode cX6_readClause 29 = .ok (.aload_n 0, 1) := by decide +kernel
theorem dX6_readClause_30 : decode cX6_readClause 30 = .ok (.bipush 61, 2) := by decide +kernel
theorem dX6_readClause_32 : decode cX6_readClause 32 = .ok (.invokevirtual 35, 3) := by decide +kernel
theorem dX6_readClause_35 : decode cX6_readClause 35 = .ok (.ifCond .ne 5, 3) := by decide +kernel
theorem dX6_readClause_38 : decode cX6_readClause 38 = .ok (.iconst 0, 1) := by decide +kernel
theorem dX6_readClause_39 : decode cX6_readClause 39 = .ok (.ireturn, 1) := by decide +kernel
theorem dX6_readClause_40 : decode cX6_readClause 40 = .ok (.aload_n 0, 1) := by decide +kernel
theorem dX6_readClause_41 : decode cX6_readClause 41 = .ok (.iconst 1, 1) := by decide +kernel
theorem dX6_readClause_42 : decode cX6_readClause 42 = .ok (.bipush 20, 2) := by decide +kernel
theorem dX6_readClause_44 : decode cX6_readClause 44 = .ok (.invokevirtual 45, 3) := by decide +kernel
theorem dX6_readClause_47 : decode cX6_readClause 47 = .ok (.istore_n 3, 1) := by decide +kernel
theorem dX6_readClause_48 : decode cX6_readClause 48 = .ok (.iload_n 3, 1) := by decide +kernel
theorem dX6_readClause_49 : decode cX6_readClause 49 = .ok (.ifCond .lt 12, 3) := by decide +kernel
theorem dX6_readClause_52 : decode cX6_readClause 52 = .ok (.aload_n 0, 1) := by decide +kernel
theorem dX6_readClause_53 : decode cX6_readClause 53 = .ok (.bipush 47, 2) := by decide +kernel
theorem dX6_readClause_55 : decode cX6_readClause 55 = .ok (.invokevirtual 35, 3) := by decide +kernel
theorem dX6_readClause_58 : decode cX6_readClause 58 = .ok (.ifCond .ne 5, 3) := by decide +kernel
theorem dX6_readClause_61 : decode cX6_readClause 61 = .ok (.iconst 0, 1) := by decide +kernel
theorem dX6_readClause_62 : decode cX6_readClause 62 = .ok (.ireturn, 1) := by decide +kernel
theorem dX6_readClause_63 : decode cX6_readClause 63 = .ok (.aload_n 0, 1) := by decide +kernel
theorem dX6_readClause_64 : decode cX6_readClause 64 = .ok (.iconst 0, 1) := by decide +kernel
theorem dX6_readClause_65 : decode cX6_readClause 65 = .ok (.bipush 99, 2) := by decide +kernel
theorem dX6_readClause_67 : decode cX6_readClause 67 = .ok (.invokevirtual 45, 3) := by decide +kernel
theorem dX6_readClause_70 : decode cX6_readClause 70 = .ok (.istore 4, 2) := by decide +kernel
theorem dX6_readClause_72 : decode cX6_readClause 72 = .ok (.iload 4, 2) := by decide +kernel
theorem dX6_readClause_74 : decode cX6_readClause 74 = .ok (.ifCond .ge 5, 3) := by decide +kernel
theorem dX6_readClause_77 : decode cX6_readClause 77 = .ok (.iconst 0, 1) := by decide +kernel
theorem dX6_readClause_78 : decode cX6_readClause 78 = .ok (.ireturn, 1) := by decide +kernel
theorem dX6_readClause_79 : decode cX6_readClause 79 = .ok (.aload_n 0, 1) := by decide +kernel
theorem dX6_readClause_80 : decode cX6_readClause 80 = .ok (.bipush 58, 2) := by decide +kernel
theorem dX6_readClause_82 : decode cX6_readClause 82 = .ok (.invokevirtual 35, 3) := by decide +kernel
theorem dX6_readClause_85 : decode cX6_readClause 85 = .ok (.ifCond .eq 11, 3) := by decide +kernel
theorem dX6_readClause_88 : decode cX6_readClause 88 = .ok (.aload_n 0, 1) := by decide +kernel
theorem dX6_readClause_89 : decode cX6_readClause 89 = .ok (.aload_n 1, 1) := by decide +kernel
theorem dX6_readClause_90 : decode cX6_readClause 90 = .ok (.invokevirtual 49, 3) := by decide +kernel
theorem dX6_readClause_93 : decode cX6_readClause 93 = .ok (.goto 4, 3) := by decide +kernel
theorem dX6_readClause_96 : decode cX6_readClause 96 = .ok (.iconst 0, 1) := by decide +kernel
theorem dX6_readClause_97 : decode cX6_readClause 97 = .ok (.istore 5, 2) := by decide +kernel
theorem dX6_readClause_99 : decode cX6_readClause 99 = .ok (.iload 5, 2) := by decide +kernel
theorem dX6_readClause_101 : decode cX6_readClause 101 = .ok (.ifCond .ge 5, 3) := by decide +kernel
theorem dX6_readClause_104 : decode cX6_readClause 104 = .ok (.iconst 0, 1) := by decide +kernel
theorem dX6_readClause_105 : decode cX6_readClause 105 = .ok (.ireturn, 1) := by decide +kernel
theorem dX6_readClause_106 : decode cX6_readClause 106 = .ok (.aload_n 1, 1) := by decide +kernel
theorem dX6_readClause_107 : decode cX6_readClause 107 = .ok (.getfield 53, 3) := by decide +kernel
theorem dX6_readClause_110 : decode cX6_readClause 110 = .ok (.iload_n 2, 1) := by decide +kernel
theorem dX6_readClause_111 : decode cX6_readClause 111 = .ok (.iload_n 3, 1) := by decide +kernel
theorem dX6_readClause_112 : decode cX6_readClause 112 = .ok (.iastore, 1) := by decide +kernel
theorem dX6_readClause_113 : decode cX6_readClause 113 = .ok (.aload_n 1, 1) := by decide +kernel
theorem dX6_readClause_114 : decode cX6_readClause 114 = .ok (.getfield 57, 3) := by decide +kernel
theorem dX6_readClause_117 : decode cX6_readClause 117 = .ok (.iload_n 2, 1) := by decide +kernel
theorem dX6_readClause_118 : decode cX6_readClause 118 = .ok (.iload 4, 2) := by decide +kernel
theorem dX6_readClause_120 : decode cX6_readClause 120 = .ok (.iastore, 1) := by decide +kernel
theorem dX6_readClause_121 : decode cX6_readClause 121 = .ok (.aload_n 1, 1) := by decide +kernel
theorem dX6_readClause_122 : decode cX6_readClause 122 = .ok (.getfield 60, 3) := by decide +kernel
theorem dX6_readClause_125 : decode cX6_readClause 125 = .ok (.iload_n 2, 1) := by decide +kernel
theorem dX6_readClause_126 : decode cX6_readClause 126 = .ok (.iload 5, 2) := by decide +kernel
theorem dX6_readClause_128 : decode cX6_readClause 128 = .ok (.iastore, 1) := by decide +kernel
theorem dX6_readClause_129 : decode cX6_readClause 129 = .ok (.iconst 1, 1) := by decide +kernel
theorem dX6_readClause_130 : decode cX6_readClause 130 = .ok (.ireturn, 1) := by decide +kernel
set_option maxRecDepth 20000 in
theorem ggX6_readLeans_X6_nextSkill : GoodIn wsX6_readLeans wsX6_nextSkill := goodIn_r _ [6, 7, 8, 9, 5, 10, 1, 11, 12, 13, 14, 15, 26, 27, 28] (by decide +kernel) (by decide +kernel)
set_option maxRecDepth 20000 in
theorem gX6_readLeans_X6_nextSkill : GoodIn wsX6_readLeans (wsV RX6 39 RX6 yX6_nextSkill wsX6_nextSkill) := goodIn_app (goodIn_of _ (by decide +kernel)) ggX6_readLeans_X6_nextSkill
set_option maxRecDepth 20000 in
theorem ggX6_readLeans_X0_has : GoodIn wsX6_readLeans wsX0_has := goodIn_r _ [20, 21, 13, 14, 15, 29, 30, 31] (by decide +kernel) (by decide +kernel)
set_option maxRecDepth 20000 in
theorem gX6_readLeans_X0_has : GoodIn wsX6_readLeans (wsV RX6 42 RX0 yX0_has wsX0_has) := goodIn_app (goodIn_of _ (by decide +kernel)) ggX6_readLeans_X0_has
set_option maxRecDepth 20000 in
theorem ggX6_readLeans_X6_pass : GoodIn wsX6_readLeans wsX6_pass := goodIn_r _ [25, 1, 7, 8, 9, 5, 10, 11, 12, 26, 27, 28] (by decide +kernel) (by decide +kernel)
set_option maxRecDepth 20000 in
theorem gX6_readLeans_X6_pass : GoodIn wsX6_readLeans (wsV RX6 35 RX6 yX6_pass wsX6_pass) := goodIn_app (goodIn_of _ (by decide +kernel)) ggX6_readLeans_X6_pass
theorem dX6_readLeans_0 : decode cX6_readLeans 0 = .ok (.iconst 0, 1) := by decide +kernel
theorem dX6_readLeans_1 : decode cX6_readLeans 1 = .ok (.istore_n 2, 1) := by decide +kernel
theorem dX6_readLeans_2 : decode cX6_readLeans 2 = .ok (.iconst 0, 1) := by decide +kernel
theorem dX6_readLeans_3 : decode cX6_readLeans 3 = .ok (.istore_n 3, 1) := by decide +kernel
theorem dX6_readLeans_4 : decode cX6_readLeans 4 = .ok (.iload_n 3, 1) := by decide +kernel
theorem dX6_readLeans_5 : decode cX6_readLeans 5 = .ok (.bipush 100, 2) := by decide +kernel
theorem dX6_readLeans_7 : decode cX6_readLeans 7 = .ok (.if_icmp .ge 59, 3) := by decide +kernel
theorem dX6_readLeans_10 : decode cX6_readLeans 10 = .ok (.aload_n 0, 1) := by decide +kernel
theorem dX6_readLeans_11 : decode cX6_readLeans 11 = .ok (.invokevirtual 39, 3) := by decide +kernel
theorem dX6_readLeans_14 : decode cX6_readLeans 14 = .ok (.istore 4, 2) := by decide +kernel
theorem dX6_readLeans_16 : decode cX6_readLeans 16 = .ok (.iload 4, 2) := by decide +kernel
theorem dX6_readLeans_18 : decode cX6_readLeans 18 = .ok (.ifCond .lt 12, 3) := by decide +kernel
theorem dX6_readLeans_21 : decode cX6_readLeans 21 = .ok (.aload_n 1, 1) := by decide +kernel
theorem dX6_readLeans_22 : decode cX6_readLeans 22 = .ok (.iload 4, 2) := by decide +kernel
theorem dX6_readLeans_24 : decode cX6_readLeans 24 = .ok (.invokevirtual 42, 3) := by decide +kernel
theorem dX6_readLeans_27 : decode cX6_readLeans 27 = .ok (.ifCond .ne 5, 3) := by decide +kernel
theorem dX6_readLeans_30 : decode cX6_readLeans 30 = .ok (.iconst (-1), 1) := by decide +kernel
theorem dX6_readLeans_31 : decode cX6_readLeans 31 = .ok (.ireturn, 1) := by decide +kernel
theorem dX6_readLeans_32 : decode cX6_readLeans 32 = .ok (.aload_n 0, 1) := by decide +kernel
theorem dX6_readLeans_33 : decode cX6_readLeans 33 = .ok (.dup, 1) := by decide +kernel
theorem dX6_readLeans_34 : decode cX6_readLeans 34 = .ok (.getfield 19, 3) := by decide +kernel
theorem dX6_readLeans_37 : decode cX6_readLeans 37 = .ok (.iconst 1, 1) := by decide +kernel
theorem dX6_readLeans_38 : decode cX6_readLeans 38 = .ok (.iadd, 1) := by decide +kernel
theorem dX6_readLeans_39 : decode cX6_readLeans 39 = .ok (.putfield 19, 3) := by decide +kernel
theorem dX6_readLeans_42 : decode cX6_readLeans 42 = .ok (.iload_n 2, 1) := by decide +kernel
theorem dX6_readLeans_43 : decode cX6_readLeans 43 = .ok (.iconst 1, 1) := by decide +kernel
theorem dX6_readLeans_44 : decode cX6_readLeans 44 = .ok (.iload 4, 2) := by decide +kernel
theorem dX6_readLeans_46 : decode cX6_readLeans 46 = .ok (.ishl, 1) := by decide +kernel
theorem dX6_readLeans_47 : decode cX6_readLeans 47 = .ok (.ior, 1) := by decide +kernel
theorem dX6_readLeans_48 : decode cX6_readLeans 48 = .ok (.istore_n 2, 1) := by decide +kernel
theorem dX6_readLeans_49 : decode cX6_readLeans 49 = .ok (.aload_n 0, 1) := by decide +kernel
theorem dX6_readLeans_50 : decode cX6_readLeans 50 = .ok (.bipush 44, 2) := by decide +kernel
theorem dX6_readLeans_52 : decode cX6_readLeans 52 = .ok (.invokevirtual 35, 3) := by decide +kernel
theorem dX6_readLeans_55 : decode cX6_readLeans 55 = .ok (.ifCond .ne 5, 3) := by decide +kernel
theorem dX6_readLeans_58 : decode cX6_readLeans 58 = .ok (.iload_n 2, 1) := by decide +kernel
theorem dX6_readLeans_59 : decode cX6_readLeans 59 = .ok (.ireturn, 1) := by decide +kernel
theorem dX6_readLeans_60 : decode cX6_readLeans 60 = .ok (.iinc 3 1, 3) := by decide +kernel
theorem dX6_readLeans_63 : decode cX6_readLeans 63 = .ok (.goto (-59), 3) := by decide +kernel
theorem dX6_readLeans_66 : decode cX6_readLeans 66 = .ok (.iconst (-1), 1) := by decide +kernel
theorem dX6_readLeans_67 : decode cX6_readLeans 67 = .ok (.ireturn, 1) := by decide +kernel
set_option maxRecDepth 20000 in
theorem ggX6_readNumber_X6_next : GoodIn wsX6_readNumber wsX6_next := goodIn_r _ [12, 1, 2, 3, 16, 17, 18] (by decide +kernel) (by decide +kernel)
set_option maxRecDepth 20000 in
theorem gX6_readNumber_X6_next : GoodIn wsX6_readNumber (wsV RX6 31 RX6 yX6_next wsX6_next) := goodIn_app (goodIn_of _ (by decide +kernel)) ggX6_readNumber_X6_next
set_option maxRecDepth 20000 in
theorem ggX6_readNumber_X8_within : GoodIn wsX6_readNumber wsX8_within := goodIn_r _ [15] (by decide +kernel) (by decide +kernel)
set_option maxRecDepth 20000 in
theorem gX6_readNumber_X8_within_n63 : GoodIn wsX6_readNumber (wsX8_within) := ggX6_readNumber_X8_within
theorem dX6_readNumber_0 : decode cX6_readNumber 0 = .ok (.aload_n 0, 1) := by decide +kernel
theorem dX6_readNumber_1 : decode cX6_readNumber 1 = .ok (.invokevirtual 31, 3) := by decide +kernel
theorem dX6_readNumber_4 : decode cX6_readNumber 4 = .ok (.pop, 1) := by decide +kernel
theorem dX6_readNumber_5 : decode cX6_readNumber 5 = .ok (.aload_n 0, 1) := by decide +kernel
theorem dX6_readNumber_6 : decode cX6_readNumber 6 = .ok (.getfield 19, 3) := by decide +kernel
theorem dX6_readNumber_9 : decode cX6_readNumber 9 = .ok (.istore_n 3, 1) := by decide +kernel
theorem dX6_readNumber_10 : decode cX6_readNumber 10 = .ok (.iconst 0, 1) := by decide +kernel
theorem dX6_readNumber_11 : decode cX6_readNumber 11 = .ok (.istore 4, 2) := by decide +kernel
theorem dX6_readNumber_13 : decode cX6_readNumber 13 = .ok (.iload_n 3, 1) := by decide +kernel
theorem dX6_readNumber_14 : decode cX6_readNumber 14 = .ok (.aload_n 0, 1) := by decide +kernel
theorem dX6_readNumber_15 : decode cX6_readNumber 15 = .ok (.getfield 9, 3) := by decide +kernel
theorem dX6_readNumber_18 : decode cX6_readNumber 18 = .ok (.if_icmp .ge 48, 3) := by decide +kernel
theorem dX6_readNumber_21 : decode cX6_readNumber 21 = .ok (.aload_n 0, 1) := by decide +kernel
theorem dX6_readNumber_22 : decode cX6_readNumber 22 = .ok (.getfield 15, 3) := by decide +kernel
theorem dX6_readNumber_25 : decode cX6_readNumber 25 = .ok (.iload_n 3, 1) := by decide +kernel
theorem dX6_readNumber_26 : decode cX6_readNumber 26 = .ok (.baload, 1) := by decide +kernel
theorem dX6_readNumber_27 : decode cX6_readNumber 27 = .ok (.bipush 48, 2) := by decide +kernel
theorem dX6_readNumber_29 : decode cX6_readNumber 29 = .ok (.bipush 57, 2) := by decide +kernel
theorem dX6_readNumber_31 : decode cX6_readNumber 31 = .ok (.invokestatic 63, 3) := by decide +kernel
theorem dX6_readNumber_34 : decode cX6_readNumber 34 = .ok (.ifCond .eq 32, 3) := by decide +kernel
theorem dX6_readNumber_37 : decode cX6_readNumber 37 = .ok (.sipush 10000, 3) := by decide +kernel
theorem dX6_readNumber_40 : decode cX6_readNumber 40 = .ok (.bipush 10, 2) := by decide +kernel
theorem dX6_readNumber_42 : decode cX6_readNumber 42 = .ok (.iload 4, 2) := by decide +kernel
theorem dX6_readNumber_44 : decode cX6_readNumber 44 = .ok (.imul, 1) := by decide +kernel
theorem dX6_readNumber_45 : decode cX6_readNumber 45 = .ok (.aload_n 0, 1) := by decide +kernel
theorem dX6_readNumber_46 : decode cX6_readNumber 46 = .ok (.getfield 15, 3) := by decide +kernel
theorem dX6_readNumber_49 : decode cX6_readNumber 49 = .ok (.iload_n 3, 1) := by decide +kernel
theorem dX6_readNumber_50 : decode cX6_readNumber 50 = .ok (.baload, 1) := by decide +kernel
theorem dX6_readNumber_51 : decode cX6_readNumber 51 = .ok (.iadd, 1) := by decide +kernel
theorem dX6_readNumber_52 : decode cX6_readNumber 52 = .ok (.bipush 48, 2) := by decide +kernel
theorem dX6_readNumber_54 : decode cX6_readNumber 54 = .ok (.isub, 1) := by decide +kernel
theorem dX6_readNumber_55 : decode cX6_readNumber 55 = .ok (.invokestatic 67, 3) := by decide +kernel
theorem dX6_readNumber_58 : decode cX6_readNumber 58 = .ok (.istore 4, 2) := by decide +kernel
theorem dX6_readNumber_60 : decode cX6_readNumber 60 = .ok (.iinc 3 1, 3) := by decide +kernel
theorem dX6_readNumber_63 : decode cX6_readNumber 63 = .ok (.goto (-50), 3) := by decide +kernel
theorem dX6_readNumber_66 : decode cX6_readNumber 66 = .ok (.iload_n 3, 1) := by decide +kernel
theorem dX6_readNumber_67 : decode cX6_readNumber 67 = .ok (.aload_n 0, 1) := by decide +kernel
theorem dX6_readNumber_68 : decode cX6_readNumber 68 = .ok (.getfield 19, 3) := by decide +kernel
theorem dX6_readNumber_71 : decode cX6_readNumber 71 = .ok (.if_icmp .eq 13, 3) := by decide +kernel
theorem dX6_readNumber_74 : decode cX6_readNumber 74 = .ok (.iload 4, 2) := by decide +kernel
theorem dX6_readNumber_76 : decode cX6_readNumber 76 = .ok (.iload_n 1, 1) := by decide +kernel
theorem dX6_readNumber_77 : decode cX6_readNumber 77 = .ok (.iload_n 2, 1) := by decide +kernel
theorem dX6_readNumber_78 : decode cX6_readNumber 78 = .ok (.invokestatic 63, 3) := by decide +kernel
theorem dX6_readNumber_81 : decode cX6_readNumber 81 = .ok (.ifCond .ne 5, 3) := by decide +kernel
theorem dX6_readNumber_84 : decode cX6_readNumber 84 = .ok (.iconst (-1), 1) := by decide +kernel
theorem dX6_readNumber_85 : decode cX6_readNumber 85 = .ok (.ireturn, 1) := by decide +kernel
theorem dX6_readNumber_86 : decode cX6_readNumber 86 = .ok (.aload_n 0, 1) := by decide +kernel
theorem dX6_readNumber_87 : decode cX6_readNumber 87 = .ok (.iload_n 3, 1) := by decide +kernel
theorem dX6_readNumber_88 : decode cX6_readNumber 88 = .ok (.putfield 19, 3) := by decide +kernel
theorem dX6_readNumber_91 : decode cX6_readNumber 91 = .ok (.iload 4, 2) := by decide +kernel
theorem dX6_readNumber_93 : decode cX6_readNumber 93 = .ok (.ireturn, 1) := by decide +kernel
set_option maxRecDepth 20000 in
theorem ggX6_nextSkill_X6_next : GoodIn wsX6_nextSkill wsX6_next := goodIn_r _ [5, 6, 7, 8, 12, 13, 14] (by decide +kernel) (by decide +kernel)
set_option maxRecDepth 20000 in
theorem gX6_nextSkill_X6_next : GoodIn wsX6_nextSkill (wsV RX6 31 RX6 yX6_next wsX6_next) := goodIn_app (goodIn_of _ (by decide +kernel)) ggX6_nextSkill_X6_next
set_option maxRecDepth 20000 in
theorem ggX6_nextSkill_X8_within : GoodIn wsX6_nextSkill wsX8_within := goodIn_r _ [11] (by decide +kernel) (by decide +kernel)
set_option maxRecDepth 20000 in
theorem gX6_nextSkill_X8_within_n63 : GoodIn wsX6_nextSkill (wsX8_within) := ggX6_nextSkill_X8_within
theorem dX6_nextSkill_0 : decode cX6_nextSkill 0 = .ok (.aload_n 0, 1) := by decide +kernel
theorem dX6_nextSkill_1 : decode cX6_nextSkill 1 = .ok (.invokevirtual 31, 3) := by decide +kernel
theorem dX6_nextSkill_4 : decode cX6_nextSkill 4 = .ok (.istore_n 1, 1) := by decide +kernel
theorem dX6_nextSkill_5 : decode cX6_nextSkill 5 = .ok (.iload_n 1, 1) := by decide +kernel
theorem dX6_nextSkill_6 : decode cX6_nextSkill 6 = .ok (.bipush 97, 2) := by decide +kernel
theorem dX6_nextSkill_8 : decode cX6_nextSkill 8 = .ok (.bipush 104, 2) := by decide +kernel
theorem dX6_nextSkill_10 : decode cX6_nextSkill 10 = .ok (.invokestatic 63, 3) := by decide +kernel
theorem dX6_nextSkill_13 : decode cX6_nextSkill 13 = .ok (.ifCond .eq 10, 3) := by decide +kernel
theorem dX6_nextSkill_16 : decode cX6_nextSkill 16 = .ok (.iload_n 1, 1) := by decide +kernel
theorem dX6_nextSkill_17 : decode cX6_nextSkill 17 = .ok (.bipush 97, 2) := by decide +kernel
theorem dX6_nextSkill_19 : decode cX6_nextSkill 19 = .ok (.isub, 1) := by decide +kernel
theorem dX6_nextSkill_20 : decode cX6_nextSkill 20 = .ok (.goto 4, 3) := by decide +kernel
theorem dX6_nextSkill_23 : decode cX6_nextSkill 23 = .ok (.iconst (-1), 1) := by decide +kernel
theorem dX6_nextSkill_24 : decode cX6_nextSkill 24 = .ok (.ireturn, 1) := by decide +kernel
set_option maxRecDepth 20000 in
theorem ggX6_pass_X6_next : GoodIn wsX6_pass wsX6_next := goodIn_r _ [6, 1, 7, 8, 9, 10, 11] (by decide +kernel) (by decide +kernel)
set_option maxRecDepth 20000 in
theorem gX6_pass_X6_next : GoodIn wsX6_pass (wsV RX6 31 RX6 yX6_next wsX6_next) := goodIn_app (goodIn_of _ (by decide +kernel)) ggX6_pass_X6_next
theorem dX6_pass_0 : decode cX6_pass 0 = .ok (.aload_n 0, 1) := by decide +kernel
theorem dX6_pass_1 : decode cX6_pass 1 = .ok (.invokevirtual 31, 3) := by decide +kernel
theorem dX6_pass_4 : decode cX6_pass 4 = .ok (.iload_n 1, 1) := by decide +kernel
theorem dX6_pass_5 : decode cX6_pass 5 = .ok (.if_icmp .eq 5, 3) := by decide +kernel
theorem dX6_pass_8 : decode cX6_pass 8 = .ok (.iconst 0, 1) := by decide +kernel
theorem dX6_pass_9 : decode cX6_pass 9 = .ok (.ireturn, 1) := by decide +kernel
theorem dX6_pass_10 : decode cX6_pass 10 = .ok (.aload_n 0, 1) := by decide +kernel
theorem dX6_pass_11 : decode cX6_pass 11 = .ok (.dup, 1) := by decide +kernel
theorem dX6_pass_12 : decode cX6_pass 12 = .ok (.getfield 19, 3) := by decide +kernel
theorem dX6_pass_15 : decode cX6_pass 15 = .ok (.iconst 1, 1) := by decide +kernel
theorem dX6_pass_16 : decode cX6_pass 16 = .ok (.iadd, 1) := by decide +kernel
theorem dX6_pass_17 : decode cX6_pass 17 = .ok (.putfield 19, 3) := by decide +kernel
theorem dX6_pass_20 : decode cX6_pass 20 = .ok (.iconst 1, 1) := by decide +kernel
theorem dX6_pass_21 : decode cX6_pass 21 = .ok (.ireturn, 1) := by decide +kernel
theorem dX6_next_0 : decode cX6_next 0 = .ok (.aload_n 0, 1) := by decide +kernel
theorem dX6_next_1 : decode cX6_next 1 = .ok (.getfield 19, 3) := by decide +kernel
theorem dX6_next_4 : decode cX6_next 4 = .ok (.aload_n 0, 1) := by decide +kernel
theorem dX6_next_5 : decode cX6_next 5 = .ok (.getfield 9, 3) := by decide +kernel
theorem dX6_next_8 : decode cX6_next 8 = .ok (.if_icmp .ge 30, 3) := by decide +kernel
theorem dX6_next_11 : decode cX6_next 11 = .ok (.aload_n 0, 1) := by decide +kernel
theorem dX6_next_12 : decode cX6_next 12 = .ok (.getfield 15, 3) := by decide +kernel
theorem dX6_next_15 : decode cX6_next 15 = .ok (.aload_n 0, 1) := by decide +kernel
theorem dX6_next_16 : decode cX6_next 16 = .ok (.getfield 19, 3) := by decide +kernel
theorem dX6_next_19 : decode cX6_next 19 = .ok (.baload, 1) := by decide +kernel
theorem dX6_next_20 : decode cX6_next 20 = .ok (.bipush 32, 2) := by decide +kernel
theorem dX6_next_22 : decode cX6_next 22 = .ok (.if_icmp .ne 16, 3) := by decide +kernel
theorem dX6_next_25 : decode cX6_next 25 = .ok (.aload_n 0, 1) := by decide +kernel
theorem dX6_next_26 : decode cX6_next 26 = .ok (.dup, 1) := by decide +kernel
theorem dX6_next_27 : decode cX6_next 27 = .ok (.getfield 19, 3) := by decide +kernel
theorem dX6_next_30 : decode cX6_next 30 = .ok (.iconst 1, 1) := by decide +kernel
theorem dX6_next_31 : decode cX6_next 31 = .ok (.iadd, 1) := by decide +kernel
theorem dX6_next_32 : decode cX6_next 32 = .ok (.putfield 19, 3) := by decide +kernel
theorem dX6_next_35 : decode cX6_next 35 = .ok (.goto (-35), 3) := by decide +kernel
theorem dX6_next_38 : decode cX6_next 38 = .ok (.aload_n 0, 1) := by decide +kernel
theorem dX6_next_39 : decode cX6_next 39 = .ok (.getfield 19, 3) := by decide +kernel
theorem dX6_next_42 : decode cX6_next 42 = .ok (.aload_n 0, 1) := by decide +kernel
theorem dX6_next_43 : decode cX6_next 43 = .ok (.getfield 9, 3) := by decide +kernel
theorem dX6_next_46 : decode cX6_next 46 = .ok (.if_icmp .ge 15, 3) := by decide +kernel
theorem dX6_next_49 : decode cX6_next 49 = .ok (.aload_n 0, 1) := by decide +kernel
theorem dX6_next_50 : decode cX6_next 50 = .ok (.getfield 15, 3) := by decide +kernel
theorem dX6_next_53 : decode cX6_next 53 = .ok (.aload_n 0, 1) := by decide +kernel
theorem dX6_next_54 : decode cX6_next 54 = .ok (.getfield 19, 3) := by decide +kernel
theorem dX6_next_57 : decode cX6_next 57 = .ok (.baload, 1) := by decide +kernel
theorem dX6_next_58 : decode cX6_next 58 = .ok (.goto 4, 3) := by decide +kernel
theorem dX6_next_61 : decode cX6_next 61 = .ok (.iconst (-1), 1) := by decide +kernel
theorem dX6_next_62 : decode cX6_next 62 = .ok (.ireturn, 1) := by decide +kernel
theorem dX7_init_0 : decode cX7_init 0 = .ok (.aload_n 0, 1) := by decide +kernel
theorem dX7_init_1 : decode cX7_init 1 = .ok (.invokespecial 3, 3) := by decide +kernel
theorem dX7_init_4 : decode cX7_init 4 = .ok (.aload_n 0, 1) := by decide +kernel
theorem dX7_init_5 : decode cX7_init 5 = .ok (.iconst 0, 1) := by decide +kernel
theorem dX7_init_6 : decode cX7_init 6 = .ok (.putfield 9, 3) := by decide +kernel
theorem dX7_init_9 : decode cX7_init 9 = .ok (.aload_n 0, 1) := by decide +kernel
theorem dX7_init_10 : decode cX7_init 10 = .ok (.bipush 12, 2) := by decide +kernel
theorem dX7_init_12 : decode cX7_init 12 = .ok (.newarray .int, 2) := by decide +kernel
theorem dX7_init_14 : decode cX7_init 14 = .ok (.putfield 15, 3) := by decide +kernel
theorem dX7_init_17 : decode cX7_init 17 = .ok (.aload_n 0, 1) := by decide +kernel
theorem dX7_init_18 : decode cX7_init 18 = .ok (.bipush 12, 2) := by decide +kernel
theorem dX7_init_20 : decode cX7_init 20 = .ok (.newarray .int, 2) := by decide +kernel
theorem dX7_init_22 : decode cX7_init 22 = .ok (.putfield 19, 3) := by decide +kernel
theorem dX7_init_25 : decode cX7_init 25 = .ok (.return_, 1) := by decide +kernel
theorem dX7_add_0 : decode cX7_add 0 = .ok (.aload_n 0, 1) := by decide +kernel
theorem dX7_add_1 : decode cX7_add 1 = .ok (.getfield 9, 3) := by decide +kernel
theorem dX7_add_4 : decode cX7_add 4 = .ok (.bipush 12, 2) := by decide +kernel
theorem dX7_add_6 : decode cX7_add 6 = .ok (.if_icmp .lt 6, 3) := by decide +kernel
theorem dX7_add_9 : decode cX7_add 9 = .ok (.bipush (-3), 2) := by decide +kernel
theorem dX7_add_11 : decode cX7_add 11 = .ok (.ireturn, 1) := by decide +kernel
theorem dX7_add_12 : decode cX7_add 12 = .ok (.aload_n 0, 1) := by decide +kernel
theorem dX7_add_13 : decode cX7_add 13 = .ok (.getfield 15, 3) := by decide +kernel
theorem dX7_add_16 : decode cX7_add 16 = .ok (.aload_n 0, 1) := by decide +kernel
theorem dX7_add_17 : decode cX7_add 17 = .ok (.getfield 9, 3) := by decide +kernel
theorem dX7_add_20 : decode cX7_add 20 = .ok (.iload_n 1, 1) := by decide +kernel
theorem dX7_add_21 : decode cX7_add 21 = .ok (.iastore, 1) := by decide +kernel
theorem dX7_add_22 : decode cX7_add 22 = .ok (.aload_n 0, 1) := by decide +kernel
theorem dX7_add_23 : decode cX7_add 23 = .ok (.getfield 19, 3) := by decide +kernel
theorem dX7_add_26 : decode cX7_add 26 = .ok (.aload_n 0, 1) := by decide +kernel
theorem dX7_add_27 : decode cX7_add 27 = .ok (.getfield 9, 3) := by decide +kernel
theorem dX7_add_30 : decode cX7_add 30 = .ok (.iload_n 2, 1) := by decide +kernel
theorem dX7_add_31 : decode cX7_add 31 = .ok (.iastore, 1) := by decide +kernel
theorem dX7_add_32 : decode cX7_add 32 = .ok (.aload_n 0, 1) := by decide +kernel
theorem dX7_add_33 : decode cX7_add 33 = .ok (.dup, 1) := by decide +kernel
theorem dX7_add_34 : decode cX7_add 34 = .ok (.getfield 9, 3) := by decide +kernel
theorem dX7_add_37 : decode cX7_add 37 = .ok (.iconst 1, 1) := by decide +kernel
theorem dX7_add_38 : decode cX7_add 38 = .ok (.iadd, 1) := by decide +kernel
theorem dX7_add_39 : decode cX7_add 39 = .ok (.putfield 9, 3) := by decide +kernel
theorem dX7_add_42 : decode cX7_add 42 = .ok (.aload_n 0, 1) := by decide +kernel
theorem dX7_add_43 : decode cX7_add 43 = .ok (.getfield 9, 3) := by decide +kernel
theorem dX7_add_46 : decode cX7_add 46 = .ok (.ireturn, 1) := by decide +kernel
theorem dX7_manyOf_0 : decode cX7_manyOf 0 = .ok (.iconst 0, 1) := by decide +kernel
theorem dX7_manyOf_1 : decode cX7_manyOf 1 = .ok (.istore_n 2, 1) := by decide +kernel
theorem dX7_manyOf_2 : decode cX7_manyOf 2 = .ok (.iconst 0, 1) := by decide +kernel
theorem dX7_manyOf_3 : decode cX7_manyOf 3 = .ok (.istore_n 3, 1) := by decide +kernel
theorem dX7_manyOf_4 : decode cX7_manyOf 4 = .ok (.iload_n 3, 1) := by decide +kernel
theorem dX7_manyOf_5 : decode cX7_manyOf 5 = .ok (.aload_n 0, 1) := by decide +kernel
theorem dX7_manyOf_6 : decode cX7_manyOf 6 = .ok (.getfield 9, 3) := by decide +kernel
theorem dX7_manyOf_9 : decode cX7_manyOf 9 = .ok (.if_icmp .ge 22, 3) := by decide +kernel
theorem dX7_manyOf_12 : decode cX7_manyOf 12 = .ok (.aload_n 0, 1) := by decide +kernel
theorem dX7_manyOf_13 : decode cX7_manyOf 13 = .ok (.getfield 15, 3) := by decide +kernel
theorem dX7_manyOf_16 : decode cX7_manyOf 16 = .ok (.iload_n 3, 1) := by decide +kernel
theorem dX7_manyOf_17 : decode cX7_manyOf 17 = .ok (.iaload, 1) := by decide +kernel
theorem dX7_manyOf_18 : decode cX7_manyOf 18 = .ok (.iload_n 1, 1) := by decide +kernel
theorem dX7_manyOf_19 : decode cX7_manyOf 19 = .ok (.if_icmp .ne 6, 3) := by decide +kernel
theorem dX7_manyOf_22 : decode cX7_manyOf 22 = .ok (.iinc 2 1, 3) := by decide +kernel
theorem dX7_manyOf_25 : decode cX7_manyOf 25 = .ok (.iinc 3 1, 3) := by decide +kernel
theorem dX7_manyOf_28 : decode cX7_manyOf 28 = .ok (.goto (-24), 3) := by decide +kernel
theorem dX7_manyOf_31 : decode cX7_manyOf 31 = .ok (.iload_n 2, 1) := by decide +kernel
theorem dX7_manyOf_32 : decode cX7_manyOf 32 = .ok (.ireturn, 1) := by decide +kernel
theorem dX7_sumOf_0 : decode cX7_sumOf 0 = .ok (.iconst 0, 1) := by decide +kernel
theorem dX7_sumOf_1 : decode cX7_sumOf 1 = .ok (.istore_n 2, 1) := by decide +kernel
theorem dX7_sumOf_2 : decode cX7_sumOf 2 = .ok (.iconst 0, 1) := by decide +kernel
theorem dX7_sumOf_3 : decode cX7_sumOf 3 = .ok (.istore_n 3, 1) := by decide +kernel
theorem dX7_sumOf_4 : decode cX7_sumOf 4 = .ok (.iload_n 3, 1) := by decide +kernel
theorem dX7_sumOf_5 : decode cX7_sumOf 5 = .ok (.aload_n 0, 1) := by decide +kernel
theorem dX7_sumOf_6 : decode cX7_sumOf 6 = .ok (.getfield 9, 3) := by decide +kernel
theorem dX7_sumOf_9 : decode cX7_sumOf 9 = .ok (.if_icmp .ge 28, 3) := by decide +kernel
theorem dX7_sumOf_12 : decode cX7_sumOf 12 = .ok (.aload_n 0, 1) := by decide +kernel
theorem dX7_sumOf_13 : decode cX7_sumOf 13 = .ok (.getfield 15, 3) := by decide +kernel
theorem dX7_sumOf_16 : decode cX7_sumOf 16 = .ok (.iload_n 3, 1) := by decide +kernel
theorem dX7_sumOf_17 : decode cX7_sumOf 17 = .ok (.iaload, 1) := by decide +kernel
theorem dX7_sumOf_18 : decode cX7_sumOf 18 = .ok (.iload_n 1, 1) := by decide +kernel
theorem dX7_sumOf_19 : decode cX7_sumOf 19 = .ok (.if_icmp .ne 12, 3) := by decide +kernel
theorem dX7_sumOf_22 : decode cX7_sumOf 22 = .ok (.iload_n 2, 1) := by decide +kernel
theorem dX7_sumOf_23 : decode cX7_sumOf 23 = .ok (.aload_n 0, 1) := by decide +kernel
theorem dX7_sumOf_24 : decode cX7_sumOf 24 = .ok (.getfield 19, 3) := by decide +kernel
theorem dX7_sumOf_27 : decode cX7_sumOf 27 = .ok (.iload_n 3, 1) := by decide +kernel
theorem dX7_sumOf_28 : decode cX7_sumOf 28 = .ok (.iaload, 1) := by decide +kernel
theorem dX7_sumOf_29 : decode cX7_sumOf 29 = .ok (.iadd, 1) := by decide +kernel
theorem dX7_sumOf_30 : decode cX7_sumOf 30 = .ok (.istore_n 2, 1) := by decide +kernel
theorem dX7_sumOf_31 : decode cX7_sumOf 31 = .ok (.iinc 3 1, 3) := by decide +kernel
theorem dX7_sumOf_34 : decode cX7_sumOf 34 = .ok (.goto (-30), 3) := by decide +kernel
theorem dX7_sumOf_37 : decode cX7_sumOf 37 = .ok (.iload_n 2, 1) := by decide +kernel
theorem dX7_sumOf_38 : decode cX7_sumOf 38 = .ok (.ireturn, 1) := by decide +kernel
set_option maxRecDepth 20000 in
theorem ggX7_lacksWay_X7_manyOf : GoodIn wsX7_lacksWay wsX7_manyOf := goodIn_r _ [5, 6, 7, 8, 9, 10] (by decide +kernel) (by decide +kernel)
set_option maxRecDepth 20000 in
theorem gX7_lacksWay_X7_manyOf : GoodIn wsX7_lacksWay (wsV RX7 22 RX7 yX7_manyOf wsX7_manyOf) := goodIn_app (goodIn_of _ (by decide +kernel)) ggX7_lacksWay_X7_manyOf
theorem dX7_lacksWay_0 : decode cX7_lacksWay 0 = .ok (.aload_n 0, 1) := by decide +kernel
theorem dX7_lacksWay_1 : decode cX7_lacksWay 1 = .ok (.iconst 0, 1) := by decide +kernel
theorem dX7_lacksWay_2 : decode cX7_lacksWay 2 = .ok (.invokevirtual 22, 3) := by decide +kernel
theorem dX7_lacksWay_5 : decode cX7_lacksWay 5 = .ok (.ifCond .eq 11, 3) := by decide +kernel
theorem dX7_lacksWay_8 : decode cX7_lacksWay 8 = .ok (.aload_n 0, 1) := by decide +kernel
theorem dX7_lacksWay_9 : decode cX7_lacksWay 9 = .ok (.iconst 1, 1) := by decide +kernel
theorem dX7_lacksWay_10 : decode cX7_lacksWay 10 = .ok (.invokevirtual 22, 3) := by decide +kernel
theorem dX7_lacksWay_13 : decode cX7_lacksWay 13 = .ok (.ifCond .ne 7, 3) := by decide +kernel
theorem dX7_lacksWay_16 : decode cX7_lacksWay 16 = .ok (.iconst 1, 1) := by decide +kernel
theorem dX7_lacksWay_17 : decode cX7_lacksWay 17 = .ok (.goto 4, 3) := by decide +kernel
theorem dX7_lacksWay_20 : decode cX7_lacksWay 20 = .ok (.iconst 0, 1) := by decide +kernel
theorem dX7_lacksWay_21 : decode cX7_lacksWay 21 = .ok (.ireturn, 1) := by decide +kernel
set_option maxRecDepth 20000 in
theorem ggX7_thousandthsAsGood_X7_manyOf : GoodIn wsX7_thousandthsAsGood wsX7_manyOf := goodIn_r _ [6, 1, 7, 24, 25, 26] (by decide +kernel) (by decide +kernel)
set_option maxRecDepth 20000 in
theorem gX7_thousandthsAsGood_X7_manyOf : GoodIn wsX7_thousandthsAsGood (wsV RX7 22 RX7 yX7_manyOf wsX7_manyOf) := goodIn_app (goodIn_of _ (by decide +kernel)) ggX7_thousandthsAsGood_X7_manyOf
set_option maxRecDepth 20000 in
theorem ggX7_thousandthsAsGood_X7_sumOf : GoodIn wsX7_thousandthsAsGood wsX7_sumOf := goodIn_r _ [11, 1, 7, 12, 24, 25, 26] (by decide +kernel) (by decide +kernel)
set_option maxRecDepth 20000 in
theorem gX7_thousandthsAsGood_X7_sumOf : GoodIn wsX7_thousandthsAsGood (wsV RX7 26 RX7 yX7_sumOf wsX7_sumOf) := goodIn_app (goodIn_of _ (by decide +kernel)) ggX7_thousandthsAsGood_X7_sumOf
set_option maxRecDepth 20000 in
theorem ggX7_thousandthsAsGood_J6_bitCount_0f7a4 : GoodIn wsX7_thousandthsAsGood wsJ6_bitCount_0f7a4 := goodIn_r _ [16, 17, 18, 19] (by decide +kernel) (by decide +kernel)
set_option maxRecDepth 20000 in
theorem gX7_thousandthsAsGood_J6_bitCount_0f7a4 : GoodIn wsX7_thousandthsAsGood (va_wsS RX7 29 yJ6_bitCount_0f7a4 wsJ6_bitCount_0f7a4) := goodIn_app (goodIn_of _ (by decide +kernel)) ggX7_thousandthsAsGood_J6_bitCount_0f7a4
set_option maxRecDepth 20000 in
theorem ggX7_thousandthsAsGood_X7_sumDealt : GoodIn wsX7_thousandthsAsGood wsX7_sumDealt := goodIn_r _ [23, 1, 12, 24, 25, 26] (by decide +kernel) (by decide +kernel)
set_option maxRecDepth 20000 in
theorem gX7_thousandthsAsGood_X7_sumDealt : GoodIn wsX7_thousandthsAsGood (wsV RX7 34 RX7 yX7_sumDealt wsX7_sumDealt) := goodIn_app (goodIn_of _ (by decide +kernel)) ggX7_thousandthsAsGood_X7_sumDealt
theorem dX7_thousandthsAsGood_0 : decode cX7_thousandthsAsGood 0 = .ok (.aload_n 0, 1) := by decide +kernel
theorem dX7_thousandthsAsGood_1 : decode cX7_thousandthsAsGood 1 = .ok (.iconst 1, 1) := by decide +kernel
theorem dX7_thousandthsAsGood_2 : decode cX7_thousandthsAsGood 2 = .ok (.invokevirtual 22, 3) := by decide +kernel
theorem dX7_thousandthsAsGood_5 : decode cX7_thousandthsAsGood 5 = .ok (.istore_n 1, 1) := by decide +kernel
theorem dX7_thousandthsAsGood_6 : decode cX7_thousandthsAsGood 6 = .ok (.aload_n 0, 1) := by decide +kernel
theorem dX7_thousandthsAsGood_7 : decode cX7_thousandthsAsGood 7 = .ok (.iconst 1, 1) := by decide +kernel
theorem dX7_thousandthsAsGood_8 : decode cX7_thousandthsAsGood 8 = .ok (.invokevirtual 26, 3) := by decide +kernel
theorem dX7_thousandthsAsGood_11 : decode cX7_thousandthsAsGood 11 = .ok (.istore_n 2, 1) := by decide +kernel
theorem dX7_thousandthsAsGood_12 : decode cX7_thousandthsAsGood 12 = .ok (.iconst 0, 1) := by decide +kernel
theorem dX7_thousandthsAsGood_13 : decode cX7_thousandthsAsGood 13 = .ok (.istore_n 3, 1) := by decide +kernel
theorem dX7_thousandthsAsGood_14 : decode cX7_thousandthsAsGood 14 = .ok (.iconst 0, 1) := by decide +kernel
theorem dX7_thousandthsAsGood_15 : decode cX7_thousandthsAsGood 15 = .ok (.istore 4, 2) := by decide +kernel
theorem dX7_thousandthsAsGood_17 : decode cX7_thousandthsAsGood 17 = .ok (.iconst 0, 1) := by decide +kernel
theorem dX7_thousandthsAsGood_18 : decode cX7_thousandthsAsGood 18 = .ok (.istore 5, 2) := by decide +kernel
theorem dX7_thousandthsAsGood_20 : decode cX7_thousandthsAsGood 20 = .ok (.iload 5, 2) := by decide +kernel
theorem dX7_thousandthsAsGood_22 : decode cX7_thousandthsAsGood 22 = .ok (.iconst 1, 1) := by decide +kernel
theorem dX7_thousandthsAsGood_23 : decode cX7_thousandthsAsGood 23 = .ok (.aload_n 0, 1) := by decide +kernel
theorem dX7_thousandthsAsGood_24 : decode cX7_thousandthsAsGood 24 = .ok (.getfield 9, 3) := by decide +kernel
theorem dX7_thousandthsAsGood_27 : decode cX7_thousandthsAsGood 27 = .ok (.ishl, 1) := by decide +kernel
theorem dX7_thousandthsAsGood_28 : decode cX7_thousandthsAsGood 28 = .ok (.if_icmp .ge 34, 3) := by decide +kernel
theorem dX7_thousandthsAsGood_31 : decode cX7_thousandthsAsGood 31 = .ok (.iload 5, 2) := by decide +kernel
theorem dX7_thousandthsAsGood_33 : decode cX7_thousandthsAsGood 33 = .ok (.invokestatic 29, 3) := by decide +kernel
theorem dX7_thousandthsAsGood_36 : decode cX7_thousandthsAsGood 36 = .ok (.iload_n 1, 1) := by decide +kernel
theorem dX7_thousandthsAsGood_37 : decode cX7_thousandthsAsGood 37 = .ok (.if_icmp .ne 19, 3) := by decide +kernel
theorem dX7_thousandthsAsGood_40 : decode cX7_thousandthsAsGood 40 = .ok (.iinc 3 1, 3) := by decide +kernel
theorem dX7_thousandthsAsGood_43 : decode cX7_thousandthsAsGood 43 = .ok (.aload_n 0, 1) := by decide +kernel
theorem dX7_thousandthsAsGood_44 : decode cX7_thousandthsAsGood 44 = .ok (.iload 5, 2) := by decide +kernel
theorem dX7_thousandthsAsGood_46 : decode cX7_thousandthsAsGood 46 = .ok (.invokevirtual 34, 3) := by decide +kernel
theorem dX7_thousandthsAsGood_49 : decode cX7_thousandthsAsGood 49 = .ok (.iload_n 2, 1) := by decide +kernel
theorem dX7_thousandthsAsGood_50 : decode cX7_thousandthsAsGood 50 = .ok (.if_icmp .lt 6, 3) := by decide +kernel
theorem dX7_thousandthsAsGood_53 : decode cX7_thousandthsAsGood 53 = .ok (.iinc 4 1, 3) := by decide +kernel
theorem dX7_thousandthsAsGood_56 : decode cX7_thousandthsAsGood 56 = .ok (.iinc 5 1, 3) := by decide +kernel
theorem dX7_thousandthsAsGood_59 : decode cX7_thousandthsAsGood 59 = .ok (.goto (-39), 3) := by decide +kernel
theorem dX7_thousandthsAsGood_62 : decode cX7_thousandthsAsGood 62 = .ok (.iload_n 3, 1) := by decide +kernel
theorem dX7_thousandthsAsGood_63 : decode cX7_thousandthsAsGood 63 = .ok (.ifCond .le 14, 3) := by decide +kernel
theorem dX7_thousandthsAsGood_66 : decode cX7_thousandthsAsGood 66 = .ok (.sipush 1000, 3) := by decide +kernel
theorem dX7_thousandthsAsGood_69 : decode cX7_thousandthsAsGood 69 = .ok (.iload 4, 2) := by decide +kernel
theorem dX7_thousandthsAsGood_71 : decode cX7_thousandthsAsGood 71 = .ok (.imul, 1) := by decide +kernel
theorem dX7_thousandthsAsGood_72 : decode cX7_thousandthsAsGood 72 = .ok (.iload_n 3, 1) := by decide +kernel
theorem dX7_thousandthsAsGood_73 : decode cX7_thousandthsAsGood 73 = .ok (.idiv, 1) := by decide +kernel
theorem dX7_thousandthsAsGood_74 : decode cX7_thousandthsAsGood 74 = .ok (.goto 5, 3) := by decide +kernel
theorem dX7_thousandthsAsGood_77 : decode cX7_thousandthsAsGood 77 = .ok (.bipush (-2), 2) := by decide +kernel
theorem dX7_thousandthsAsGood_79 : decode cX7_thousandthsAsGood 79 = .ok (.ireturn, 1) := by decide +kernel
theorem dX7_sumDealt_0 : decode cX7_sumDealt 0 = .ok (.iconst 0, 1) := by decide +kernel
theorem dX7_sumDealt_1 : decode cX7_sumDealt 1 = .ok (.istore_n 2, 1) := by decide +kernel
theorem dX7_sumDealt_2 : decode cX7_sumDealt 2 = .ok (.iconst 0, 1) := by decide +kernel
theorem dX7_sumDealt_3 : decode cX7_sumDealt 3 = .ok (.istore_n 3, 1) := by decide +kernel
theorem dX7_sumDealt_4 : decode cX7_sumDealt 4 = .ok (.iload_n 3, 1) := by decide +kernel
theorem dX7_sumDealt_5 : decode cX7_sumDealt 5 = .ok (.aload_n 0, 1) := by decide +kernel
theorem dX7_sumDealt_6 : decode cX7_sumDealt 6 = .ok (.getfield 9, 3) := by decide +kernel
theorem dX7_sumDealt_9 : decode cX7_sumDealt 9 = .ok (.if_icmp .ge 27, 3) := by decide +kernel
theorem dX7_sumDealt_12 : decode cX7_sumDealt 12 = .ok (.iload_n 1, 1) := by decide +kernel
theorem dX7_sumDealt_13 : decode cX7_sumDealt 13 = .ok (.iload_n 3, 1) := by decide +kernel
theorem dX7_sumDealt_14 : decode cX7_sumDealt 14 = .ok (.ishr, 1) := by decide +kernel
theorem dX7_sumDealt_15 : decode cX7_sumDealt 15 = .ok (.iconst 1, 1) := by decide +kernel
theorem dX7_sumDealt_16 : decode cX7_sumDealt 16 = .ok (.iand, 1) := by decide +kernel
theorem dX7_sumDealt_17 : decode cX7_sumDealt 17 = .ok (.iconst 1, 1) := by decide +kernel
theorem dX7_sumDealt_18 : decode cX7_sumDealt 18 = .ok (.if_icmp .ne 12, 3) := by decide +kernel
theorem dX7_sumDealt_21 : decode cX7_sumDealt 21 = .ok (.iload_n 2, 1) := by decide +kernel
theorem dX7_sumDealt_22 : decode cX7_sumDealt 22 = .ok (.aload_n 0, 1) := by decide +kernel
theorem dX7_sumDealt_23 : decode cX7_sumDealt 23 = .ok (.getfield 19, 3) := by decide +kernel
theorem dX7_sumDealt_26 : decode cX7_sumDealt 26 = .ok (.iload_n 3, 1) := by decide +kernel
theorem dX7_sumDealt_27 : decode cX7_sumDealt 27 = .ok (.iaload, 1) := by decide +kernel
theorem dX7_sumDealt_28 : decode cX7_sumDealt 28 = .ok (.iadd, 1) := by decide +kernel
theorem dX7_sumDealt_29 : decode cX7_sumDealt 29 = .ok (.istore_n 2, 1) := by decide +kernel
theorem dX7_sumDealt_30 : decode cX7_sumDealt 30 = .ok (.iinc 3 1, 3) := by decide +kernel
theorem dX7_sumDealt_33 : decode cX7_sumDealt 33 = .ok (.goto (-29), 3) := by decide +kernel
theorem dX7_sumDealt_36 : decode cX7_sumDealt 36 = .ok (.iload_n 2, 1) := by decide +kernel
theorem dX7_sumDealt_37 : decode cX7_sumDealt 37 = .ok (.ireturn, 1) := by decide +kernel
set_option maxRecDepth 20000 in
theorem ggX8_init_X4_init : GoodIn wsX8_init wsX4_init := goodIn_r _ [38, 39, 2, 3, 8, 40, 41, 42, 74, 75, 76] (by decide +kernel) (by decide +kernel)
set_option maxRecDepth 20000 in
theorem gX8_init_X4_init_n9 : GoodIn wsX8_init (wsX4_init) := ggX8_init_X4_init
set_option maxRecDepth 20000 in
theorem ggX8_init_X3_init : GoodIn wsX8_init wsX3_init := goodIn_r _ [44, 45, 2, 3, 46, 8, 47, 48, 90, 91, 92] (by decide +kernel) (by decide +kernel)
set_option maxRecDepth 20000 in
theorem gX8_init_X3_init_n38 : GoodIn wsX8_init (wsX3_init) := ggX8_init_X3_init
set_option maxRecDepth 20000 in
theorem ggX8_init_X6_init : GoodIn wsX8_init wsX6_init := goodIn_r _ [50, 51, 2, 3, 52, 53, 54, 55, 93, 94, 95] (by decide +kernel) (by decide +kernel)
set_option maxRecDepth 20000 in
theorem gX8_init_X6_init_n48 : GoodIn wsX8_init (wsX6_init) := ggX8_init_X6_init
set_option maxRecDepth 20000 in
theorem ggX8_init_X0_init : GoodIn wsX8_init wsX0_init := goodIn_r _ [57, 58, 2, 3, 8, 59, 60, 61, 96, 97, 98] (by decide +kernel) (by decide +kernel)
set_option maxRecDepth 20000 in
theorem gX8_init_X0_init_n55 : GoodIn wsX8_init (wsX0_init) := ggX8_init_X0_init
set_option maxRecDepth 20000 in
theorem ggX8_init_X7_init : GoodIn wsX8_init wsX7_init := goodIn_r _ [63, 64, 2, 3, 65, 8, 66, 67, 99, 100, 101] (by decide +kernel) (by decide +kernel)
set_option maxRecDepth 20000 in
theorem gX8_init_X7_init_n65 : GoodIn wsX8_init (wsX7_init) := ggX8_init_X7_init
set_option maxRecDepth 20000 in
theorem ggX8_init_X5_init : GoodIn wsX8_init wsX5_init := goodIn_r _ [69, 70, 2, 3, 71, 72, 8, 73, 102, 103, 104] (by decide +kernel) (by decide +kernel)
set_option maxRecDepth 20000 in
theorem gX8_init_X5_init_n72 : GoodIn wsX8_init (wsX5_init) := ggX8_init_X5_init
