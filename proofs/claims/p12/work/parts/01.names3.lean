theorem inlX0 : ∀ w ∈ wsX00, w ∈ wsL_law := fun _ h => List.mem_append_left _ (List.mem_append_left _ (List.mem_append_right _ h))
theorem inX0 : ∀ w ∈ wsX00, w ∈ lw_tbl := fun w h => wsL_law_in w (inlX0 w h)
theorem inlX1 : ∀ w ∈ wsX10, w ∈ wsL_law := fun _ h => List.mem_append_left _ (List.mem_append_right _ h)
theorem inX1 : ∀ w ∈ wsX10, w ∈ lw_tbl := fun w h => wsL_law_in w (inlX1 w h)
theorem inlX2 : ∀ w ∈ wsX20, w ∈ wsL_law := fun _ h => List.mem_append_left _ (List.mem_append_left _ (List.mem_append_left _ (List.mem_append_left _ (List.mem_append_right _ h))))
theorem inX2 : ∀ w ∈ wsX20, w ∈ lw_tbl := fun w h => wsL_law_in w (inlX2 w h)
theorem inlX3 : ∀ w ∈ wsX30, w ∈ wsL_law := fun _ h => List.mem_append_left _ (List.mem_append_left _ (List.mem_append_left _ (List.mem_append_right _ h)))
theorem inX3 : ∀ w ∈ wsX30, w ∈ lw_tbl := fun w h => wsL_law_in w (inlX3 w h)
theorem inlX4 : ∀ w ∈ wsX40, w ∈ wsL_law := fun _ h => List.mem_append_left _ (List.mem_append_left _ (List.mem_append_left _ (List.mem_append_left _ (List.mem_append_left _ (List.mem_append_left _ (List.mem_append_right _ h))))))
theorem inX4 : ∀ w ∈ wsX40, w ∈ lw_tbl := fun w h => wsL_law_in w (inlX4 w h)
theorem inlX5 : ∀ w ∈ wsX50, w ∈ wsL_law := fun _ h => List.mem_append_left _ (List.mem_append_left _ (List.mem_append_left _ (List.mem_append_left _ (List.mem_append_left _ (List.mem_append_right _ h)))))
theorem inX5 : ∀ w ∈ wsX50, w ∈ lw_tbl := fun w h => wsL_law_in w (inlX5 w h)
theorem inJx8e188 : ∀ w ∈ wsJx8e1880, w ∈ lw_tbl := by decide +kernel
theorem inJ9 : ∀ w ∈ wsJ90, w ∈ lw_tbl := by decide +kernel
theorem inJ0 : ∀ w ∈ wsJ00, w ∈ lw_tbl := by decide +kernel
theorem inJ1 : ∀ w ∈ wsJ10, w ∈ lw_tbl := by decide +kernel
theorem inJ2 : ∀ w ∈ wsJ20, w ∈ lw_tbl := by decide +kernel
theorem inJ10 : ∀ w ∈ wsJ100, w ∈ lw_tbl := by decide +kernel
theorem inJ7 : ∀ w ∈ wsJ70, w ∈ lw_tbl := by decide +kernel
theorem inJ3 : ∀ w ∈ wsJ30, w ∈ lw_tbl := by decide +kernel
set_option maxRecDepth 20000 in
theorem ggX0_init_X1_init : GoodIn wsX0_init wsX1_init := goodIn_r _ [17, 18, 2, 3, 19, 20, 21, 22, 23] (by decide +kernel) (by decide +kernel)
set_option maxRecDepth 20000 in
theorem gX0_init_X1_init_n11 : GoodIn wsX0_init (wsX1_init) := ggX0_init_X1_init
theorem dX0_init_0 : decode cX0_init 0 = .ok (.aload_n 0, 1) := by decide +kernel
theorem dX0_init_1 : decode cX0_init 1 = .ok (.invokespecial 3, 3) := by decide +kernel
theorem dX0_init_4 : decode cX0_init 4 = .ok (.aload_n 0, 1) := by decide +kernel
theorem dX0_init_5 : decode cX0_init 5 = .ok (.new 9, 3) := by decide +kernel
theorem dX0_init_8 : decode cX0_init 8 = .ok (.dup, 1) := by decide +kernel
theorem dX0_init_9 : decode cX0_init 9 = .ok (.invokespecial 11, 3) := by decide +kernel
theorem dX0_init_12 : decode cX0_init 12 = .ok (.putfield 12, 3) := by decide +kernel
theorem dX0_init_15 : decode cX0_init 15 = .ok (.aload_n 0, 1) := by decide +kernel
theorem dX0_init_16 : decode cX0_init 16 = .ok (.new 9, 3) := by decide +kernel
theorem dX0_init_19 : decode cX0_init 19 = .ok (.dup, 1) := by decide +kernel
theorem dX0_init_20 : decode cX0_init 20 = .ok (.invokespecial 11, 3) := by decide +kernel
theorem dX0_init_23 : decode cX0_init 23 = .ok (.putfield 18, 3) := by decide +kernel
theorem dX0_init_26 : decode cX0_init 26 = .ok (.aload_n 0, 1) := by decide +kernel
theorem dX0_init_27 : decode cX0_init 27 = .ok (.new 9, 3) := by decide +kernel
theorem dX0_init_30 : decode cX0_init 30 = .ok (.dup, 1) := by decide +kernel
theorem dX0_init_31 : decode cX0_init 31 = .ok (.invokespecial 11, 3) := by decide +kernel
theorem dX0_init_34 : decode cX0_init 34 = .ok (.putfield 21, 3) := by decide +kernel
theorem dX0_init_37 : decode cX0_init 37 = .ok (.aload_n 0, 1) := by decide +kernel
theorem dX0_init_38 : decode cX0_init 38 = .ok (.new 9, 3) := by decide +kernel
theorem dX0_init_41 : decode cX0_init 41 = .ok (.dup, 1) := by decide +kernel
theorem dX0_init_42 : decode cX0_init 42 = .ok (.invokespecial 11, 3) := by decide +kernel
theorem dX0_init_45 : decode cX0_init 45 = .ok (.putfield 24, 3) := by decide +kernel
theorem dX0_init_48 : decode cX0_init 48 = .ok (.aload_n 0, 1) := by decide +kernel
theorem dX0_init_49 : decode cX0_init 49 = .ok (.new 9, 3) := by decide +kernel
theorem dX0_init_52 : decode cX0_init 52 = .ok (.dup, 1) := by decide +kernel
theorem dX0_init_53 : decode cX0_init 53 = .ok (.invokespecial 11, 3) := by decide +kernel
theorem dX0_init_56 : decode cX0_init 56 = .ok (.putfield 27, 3) := by decide +kernel
theorem dX0_init_59 : decode cX0_init 59 = .ok (.aload_n 0, 1) := by decide +kernel
theorem dX0_init_60 : decode cX0_init 60 = .ok (.new 9, 3) := by decide +kernel
theorem dX0_init_63 : decode cX0_init 63 = .ok (.dup, 1) := by decide +kernel
theorem dX0_init_64 : decode cX0_init 64 = .ok (.invokespecial 11, 3) := by decide +kernel
theorem dX0_init_67 : decode cX0_init 67 = .ok (.putfield 30, 3) := by decide +kernel
theorem dX0_init_70 : decode cX0_init 70 = .ok (.aload_n 0, 1) := by decide +kernel
theorem dX0_init_71 : decode cX0_init 71 = .ok (.iconst 0, 1) := by decide +kernel
theorem dX0_init_72 : decode cX0_init 72 = .ok (.putfield 33, 3) := by decide +kernel
theorem dX0_init_75 : decode cX0_init 75 = .ok (.aload_n 0, 1) := by decide +kernel
theorem dX0_init_76 : decode cX0_init 76 = .ok (.iconst 0, 1) := by decide +kernel
theorem dX0_init_77 : decode cX0_init 77 = .ok (.putfield 37, 3) := by decide +kernel
theorem dX0_init_80 : decode cX0_init 80 = .ok (.aload_n 0, 1) := by decide +kernel
theorem dX0_init_81 : decode cX0_init 81 = .ok (.aload_n 1, 1) := by decide +kernel
theorem dX0_init_82 : decode cX0_init 82 = .ok (.putfield 40, 3) := by decide +kernel
theorem dX0_init_85 : decode cX0_init 85 = .ok (.return_, 1) := by decide +kernel
set_option maxRecDepth 20000 in
theorem ggX0_clear_X1_clear : GoodIn wsX0_clear wsX1_clear := goodIn_r _ [13, 14, 24, 25] (by decide +kernel) (by decide +kernel)
set_option maxRecDepth 20000 in
theorem gX0_clear_X1_clear : GoodIn wsX0_clear (wsV RX0 44 RX1 yX1_clear wsX1_clear) := goodIn_app (goodIn_of _ (by decide +kernel)) ggX0_clear_X1_clear
theorem dX0_clear_0 : decode cX0_clear 0 = .ok (.aload_n 0, 1) := by decide +kernel
theorem dX0_clear_1 : decode cX0_clear 1 = .ok (.getfield 12, 3) := by decide +kernel
theorem dX0_clear_4 : decode cX0_clear 4 = .ok (.invokevirtual 44, 3) := by decide +kernel
theorem dX0_clear_7 : decode cX0_clear 7 = .ok (.aload_n 0, 1) := by decide +kernel
theorem dX0_clear_8 : decode cX0_clear 8 = .ok (.getfield 18, 3) := by decide +kernel
theorem dX0_clear_11 : decode cX0_clear 11 = .ok (.invokevirtual 44, 3) := by decide +kernel
theorem dX0_clear_14 : decode cX0_clear 14 = .ok (.aload_n 0, 1) := by decide +kernel
theorem dX0_clear_15 : decode cX0_clear 15 = .ok (.getfield 21, 3) := by decide +kernel
theorem dX0_clear_18 : decode cX0_clear 18 = .ok (.invokevirtual 44, 3) := by decide +kernel
theorem dX0_clear_21 : decode cX0_clear 21 = .ok (.aload_n 0, 1) := by decide +kernel
theorem dX0_clear_22 : decode cX0_clear 22 = .ok (.getfield 24, 3) := by decide +kernel
theorem dX0_clear_25 : decode cX0_clear 25 = .ok (.invokevirtual 44, 3) := by decide +kernel
theorem dX0_clear_28 : decode cX0_clear 28 = .ok (.aload_n 0, 1) := by decide +kernel
theorem dX0_clear_29 : decode cX0_clear 29 = .ok (.getfield 27, 3) := by decide +kernel
theorem dX0_clear_32 : decode cX0_clear 32 = .ok (.invokevirtual 44, 3) := by decide +kernel
theorem dX0_clear_35 : decode cX0_clear 35 = .ok (.aload_n 0, 1) := by decide +kernel
theorem dX0_clear_36 : decode cX0_clear 36 = .ok (.getfield 30, 3) := by decide +kernel
theorem dX0_clear_39 : decode cX0_clear 39 = .ok (.invokevirtual 44, 3) := by decide +kernel
theorem dX0_clear_42 : decode cX0_clear 42 = .ok (.aload_n 0, 1) := by decide +kernel
theorem dX0_clear_43 : decode cX0_clear 43 = .ok (.iconst 0, 1) := by decide +kernel
theorem dX0_clear_44 : decode cX0_clear 44 = .ok (.putfield 33, 3) := by decide +kernel
theorem dX0_clear_47 : decode cX0_clear 47 = .ok (.aload_n 0, 1) := by decide +kernel
theorem dX0_clear_48 : decode cX0_clear 48 = .ok (.iconst 0, 1) := by decide +kernel
theorem dX0_clear_49 : decode cX0_clear 49 = .ok (.putfield 37, 3) := by decide +kernel
theorem dX0_clear_52 : decode cX0_clear 52 = .ok (.return_, 1) := by decide +kernel
set_option maxRecDepth 20000 in
theorem ggX0_parse_X3_count : GoodIn wsX0_parse wsX3_count := goodIn_r _ [8, 9, 101, 102, 103, 104, 105, 106, 107, 108] (by decide +kernel) (by decide +kernel)
set_option maxRecDepth 20000 in
theorem gX0_parse_X3_count : GoodIn wsX0_parse (wsV RX0 47 RX3 yX3_count wsX3_count) := goodIn_app (goodIn_of _ (by decide +kernel)) ggX0_parse_X3_count
set_option maxRecDepth 20000 in
theorem ggX0_parse_X0_takePart : GoodIn wsX0_parse wsX0_takePart := goodIn_r _ [14, 2, 15, 16, 17, 13, 18, 19, 3, 20, 21, 22, 23, 1, 24, 25, 26, 27, 28, 29, 30, 31, 32, 33, 34, 35, 36, 37, 38, 39, 40, 41, 42, 43, 44, 45, 46, 47, 48, 49, 50, 51, 52, 53, 54, 55, 56, 57, 58, 59, 60, 61, 62, 63, 64, 65, 66, 67, 68, 69, 70, 4, 5, 6, 7, 8, 9, 71, 72, 73, 74, 75, 76, 77, 78, 79, 80, 81, 82, 83, 84, 85, 86, 87, 88, 89, 90, 91, 92, 93, 94, 95, 96, 97, 98, 99, 100, 101, 102, 103, 104, 105, 106, 107, 108] (by decide +kernel) (by decide +kernel)
set_option maxRecDepth 20000 in
theorem gX0_parse_X0_takePart : GoodIn wsX0_parse (wsV RX0 53 RX0 yX0_takePart wsX0_takePart) := goodIn_app (goodIn_of _ (by decide +kernel)) ggX0_parse_X0_takePart
theorem dX0_parse_0 : decode cX0_parse 0 = .ok (.aload_n 0, 1) := by decide +kernel
theorem dX0_parse_1 : decode cX0_parse 1 = .ok (.getfield 40, 3) := by decide +kernel
theorem dX0_parse_4 : decode cX0_parse 4 = .ok (.invokevirtual 47, 3) := by decide +kernel
theorem dX0_parse_7 : decode cX0_parse 7 = .ok (.istore_n 1, 1) := by decide +kernel
theorem dX0_parse_8 : decode cX0_parse 8 = .ok (.iconst 0, 1) := by decide +kernel
theorem dX0_parse_9 : decode cX0_parse 9 = .ok (.istore_n 2, 1) := by decide +kernel
theorem dX0_parse_10 : decode cX0_parse 10 = .ok (.iload_n 2, 1) := by decide +kernel
theorem dX0_parse_11 : decode cX0_parse 11 = .ok (.iload_n 1, 1) := by decide +kernel
theorem dX0_parse_12 : decode cX0_parse 12 = .ok (.if_icmp .gt 35, 3) := by decide +kernel
theorem dX0_parse_15 : decode cX0_parse 15 = .ok (.aload_n 0, 1) := by decide +kernel
theorem dX0_parse_16 : decode cX0_parse 16 = .ok (.getfield 37, 3) := by decide +kernel
theorem dX0_parse_19 : decode cX0_parse 19 = .ok (.ifCond .ne 13, 3) := by decide +kernel
theorem dX0_parse_22 : decode cX0_parse 22 = .ok (.aload_n 0, 1) := by decide +kernel
theorem dX0_parse_23 : decode cX0_parse 23 = .ok (.getfield 33, 3) := by decide +kernel
theorem dX0_parse_26 : decode cX0_parse 26 = .ok (.iload_n 1, 1) := by decide +kernel
theorem dX0_parse_27 : decode cX0_parse 27 = .ok (.if_icmp .lt 5, 3) := by decide +kernel
theorem dX0_parse_30 : decode cX0_parse 30 = .ok (.iconst 1, 1) := by decide +kernel
theorem dX0_parse_31 : decode cX0_parse 31 = .ok (.ireturn, 1) := by decide +kernel
theorem dX0_parse_32 : decode cX0_parse 32 = .ok (.aload_n 0, 1) := by decide +kernel
theorem dX0_parse_33 : decode cX0_parse 33 = .ok (.invokevirtual 53, 3) := by decide +kernel
theorem dX0_parse_36 : decode cX0_parse 36 = .ok (.ifCond .ne 5, 3) := by decide +kernel
theorem dX0_parse_39 : decode cX0_parse 39 = .ok (.iconst 0, 1) := by decide +kernel
theorem dX0_parse_40 : decode cX0_parse 40 = .ok (.ireturn, 1) := by decide +kernel
theorem dX0_parse_41 : decode cX0_parse 41 = .ok (.iinc 2 1, 3) := by decide +kernel
theorem dX0_parse_44 : decode cX0_parse 44 = .ok (.goto (-34), 3) := by decide +kernel
theorem dX0_parse_47 : decode cX0_parse 47 = .ok (.iconst 0, 1) := by decide +kernel
theorem dX0_parse_48 : decode cX0_parse 48 = .ok (.ireturn, 1) := by decide +kernel
set_option maxRecDepth 20000 in
theorem ggX0_takePart_X0_takeClassHead : GoodIn wsX0_takePart wsX0_takeClassHead := goodIn_r _ [6, 7, 8, 1, 9, 10, 11, 5, 12, 13, 14, 15, 16, 17, 18, 19, 20, 21, 22, 23, 24, 25, 26, 27, 28, 29, 30, 31, 32, 33, 34, 35, 36, 37, 38, 39, 40, 41, 42, 43, 44, 88, 89, 90, 91, 92, 93, 94, 95, 96, 97, 98, 99, 100, 101, 102, 103, 104] (by decide +kernel) (by decide +kernel)
set_option maxRecDepth 20000 in
theorem gX0_takePart_X0_takeClassHead : GoodIn wsX0_takePart (wsV RX0 57 RX0 yX0_takeClassHead wsX0_takeClassHead) := goodIn_app (goodIn_of _ (by decide +kernel)) ggX0_takePart_X0_takeClassHead
set_option maxRecDepth 20000 in
theorem ggX0_takePart_X0_take : GoodIn wsX0_takePart wsX0_take := goodIn_r _ [12, 13, 8, 14, 15, 16, 17, 18, 19, 20, 88, 89, 90, 91, 92, 93, 94, 95, 96, 97, 98, 99, 100, 101, 102, 103, 104] (by decide +kernel) (by decide +kernel)
set_option maxRecDepth 20000 in
theorem gX0_takePart_X0_take : GoodIn wsX0_takePart (wsV RX0 60 RX0 yX0_take wsX0_take) := goodIn_app (goodIn_of _ (by decide +kernel)) ggX0_takePart_X0_take
set_option maxRecDepth 20000 in
theorem ggX0_takePart_X0_takeMember : GoodIn wsX0_takePart wsX0_takeMember := goodIn_r _ [48, 49, 50, 8, 51, 52, 53, 54, 5, 55, 13, 14, 15, 16, 17, 18, 19, 20, 9, 10, 11, 12, 21, 22, 23, 24, 25, 26, 27, 28, 29, 30, 31, 32, 33, 34, 35, 36, 37, 38, 39, 40, 41, 42, 43, 44, 56, 57, 58, 59, 60, 1, 61, 62, 63, 64, 65, 66, 88, 89, 90, 91, 92, 93, 94, 95, 96, 97, 98, 99, 100, 101, 102, 103, 104] (by decide +kernel) (by decide +kernel)
set_option maxRecDepth 20000 in
theorem gX0_takePart_X0_takeMember : GoodIn wsX0_takePart (wsV RX0 64 RX0 yX0_takeMember wsX0_takeMember) := goodIn_app (goodIn_of _ (by decide +kernel)) ggX0_takePart_X0_takeMember
set_option maxRecDepth 20000 in
theorem ggX0_takePart_X0_takeLine : GoodIn wsX0_takePart wsX0_takeLine := goodIn_r _ [70, 8, 13, 71, 9, 10, 11, 5, 12, 14, 15, 16, 17, 18, 19, 20, 72, 73, 74, 75, 76, 77, 78, 21, 22, 23, 24, 25, 26, 27, 28, 29, 30, 31, 32, 33, 34, 35, 36, 37, 38, 39, 40, 41, 42, 43, 44, 61, 62, 63, 64, 65, 66, 79, 80, 81, 82, 83, 84, 85, 86, 87, 88, 89, 90, 91, 92, 93, 94, 95, 96, 97, 98, 99, 100, 101, 102, 103, 104] (by decide +kernel) (by decide +kernel)
set_option maxRecDepth 20000 in
theorem gX0_takePart_X0_takeLine : GoodIn wsX0_takePart (wsV RX0 67 RX0 yX0_takeLine wsX0_takeLine) := goodIn_app (goodIn_of _ (by decide +kernel)) ggX0_takePart_X0_takeLine
theorem dX0_takePart_0 : decode cX0_takePart 0 = .ok (.aload_n 0, 1) := by decide +kernel
theorem dX0_takePart_1 : decode cX0_takePart 1 = .ok (.getfield 37, 3) := by decide +kernel
theorem dX0_takePart_4 : decode cX0_takePart 4 = .ok (.ifCond .ne 8, 3) := by decide +kernel
theorem dX0_takePart_7 : decode cX0_takePart 7 = .ok (.aload_n 0, 1) := by decide +kernel
theorem dX0_takePart_8 : decode cX0_takePart 8 = .ok (.invokevirtual 57, 3) := by decide +kernel
theorem dX0_takePart_11 : decode cX0_takePart 11 = .ok (.ireturn, 1) := by decide +kernel
theorem dX0_takePart_12 : decode cX0_takePart 12 = .ok (.aload_n 0, 1) := by decide +kernel
theorem dX0_takePart_13 : decode cX0_takePart 13 = .ok (.bipush 8, 2) := by decide +kernel
theorem dX0_takePart_15 : decode cX0_takePart 15 = .ok (.invokevirtual 60, 3) := by decide +kernel
theorem dX0_takePart_18 : decode cX0_takePart 18 = .ok (.ifCond .eq 15, 3) := by decide +kernel
theorem dX0_takePart_21 : decode cX0_takePart 21 = .ok (.aload_n 0, 1) := by decide +kernel
theorem dX0_takePart_22 : decode cX0_takePart 22 = .ok (.dup, 1) := by decide +kernel
theorem dX0_takePart_23 : decode cX0_takePart 23 = .ok (.getfield 37, 3) := by decide +kernel
theorem dX0_takePart_26 : decode cX0_takePart 26 = .ok (.iconst 1, 1) := by decide +kernel
theorem dX0_takePart_27 : decode cX0_takePart 27 = .ok (.isub, 1) := by decide +kernel
theorem dX0_takePart_28 : decode cX0_takePart 28 = .ok (.putfield 37, 3) := by decide +kernel
theorem dX0_takePart_31 : decode cX0_takePart 31 = .ok (.iconst 1, 1) := by decide +kernel
theorem dX0_takePart_32 : decode cX0_takePart 32 = .ok (.ireturn, 1) := by decide +kernel
theorem dX0_takePart_33 : decode cX0_takePart 33 = .ok (.aload_n 0, 1) := by decide +kernel
theorem dX0_takePart_34 : decode cX0_takePart 34 = .ok (.getfield 37, 3) := by decide +kernel
theorem dX0_takePart_37 : decode cX0_takePart 37 = .ok (.iconst 1, 1) := by decide +kernel
theorem dX0_takePart_38 : decode cX0_takePart 38 = .ok (.if_icmp .ne 10, 3) := by decide +kernel
theorem dX0_takePart_41 : decode cX0_takePart 41 = .ok (.aload_n 0, 1) := by decide +kernel
theorem dX0_takePart_42 : decode cX0_takePart 42 = .ok (.invokevirtual 64, 3) := by decide +kernel
theorem dX0_takePart_45 : decode cX0_takePart 45 = .ok (.goto 7, 3) := by decide +kernel
theorem dX0_takePart_48 : decode cX0_takePart 48 = .ok (.aload_n 0, 1) := by decide +kernel
theorem dX0_takePart_49 : decode cX0_takePart 49 = .ok (.invokevirtual 67, 3) := by decide +kernel
theorem dX0_takePart_52 : decode cX0_takePart 52 = .ok (.ireturn, 1) := by decide +kernel
set_option maxRecDepth 20000 in
theorem ggX0_take_X1_hasAny : GoodIn wsX0_take wsX1_hasAny := goodIn_r _ [7, 8, 9, 25, 26] (by decide +kernel) (by decide +kernel)
set_option maxRecDepth 20000 in
theorem gX0_take_X1_hasAny : GoodIn wsX0_take (wsV RX0 73 RX1 yX1_hasAny wsX1_hasAny) := goodIn_app (goodIn_of _ (by decide +kernel)) ggX0_take_X1_hasAny
theorem dX0_take_0 : decode cX0_take 0 = .ok (.aload_n 0, 1) := by decide +kernel
theorem dX0_take_1 : decode cX0_take 1 = .ok (.getfield 40, 3) := by decide +kernel
theorem dX0_take_4 : decode cX0_take 4 = .ok (.getfield 70, 3) := by decide +kernel
theorem dX0_take_7 : decode cX0_take 7 = .ok (.aload_n 0, 1) := by decide +kernel
theorem dX0_take_8 : decode cX0_take 8 = .ok (.getfield 33, 3) := by decide +kernel
theorem dX0_take_11 : decode cX0_take 11 = .ok (.iload_n 1, 1) := by decide +kernel
theorem dX0_take_12 : decode cX0_take 12 = .ok (.invokevirtual 73, 3) := by decide +kernel
theorem dX0_take_15 : decode cX0_take 15 = .ok (.ifCond .ne 5, 3) := by decide +kernel
theorem dX0_take_18 : decode cX0_take 18 = .ok (.iconst 0, 1) := by decide +kernel
theorem dX0_take_19 : decode cX0_take 19 = .ok (.ireturn, 1) := by decide +kernel
theorem dX0_take_20 : decode cX0_take 20 = .ok (.aload_n 0, 1) := by decide +kernel
theorem dX0_take_21 : decode cX0_take 21 = .ok (.dup, 1) := by decide +kernel
theorem dX0_take_22 : decode cX0_take 22 = .ok (.getfield 33, 3) := by decide +kernel
theorem dX0_take_25 : decode cX0_take 25 = .ok (.iconst 1, 1) := by decide +kernel
theorem dX0_take_26 : decode cX0_take 26 = .ok (.iadd, 1) := by decide +kernel
theorem dX0_take_27 : decode cX0_take 27 = .ok (.putfield 33, 3) := by decide +kernel
theorem dX0_take_30 : decode cX0_take 30 = .ok (.iconst 1, 1) := by decide +kernel
theorem dX0_take_31 : decode cX0_take 31 = .ok (.ireturn, 1) := by decide +kernel
set_option maxRecDepth 20000 in
theorem ggX0_takeClassHead_X0_take : GoodIn wsX0_takeClassHead wsX0_take := goodIn_r _ [8, 9, 2, 10, 11, 12, 13, 14, 15, 16, 41, 42, 43, 44, 45, 46, 47, 48, 49, 50, 51, 52, 53, 54, 55, 56, 57] (by decide +kernel) (by decide +kernel)
set_option maxRecDepth 20000 in
theorem gX0_takeClassHead_X0_take : GoodIn wsX0_takeClassHead (wsV RX0 60 RX0 yX0_take wsX0_take) := goodIn_app (goodIn_of _ (by decide +kernel)) ggX0_takeClassHead_X0_take
set_option maxRecDepth 20000 in
theorem ggX0_takeClassHead_X1_add : GoodIn wsX0_takeClassHead wsX1_add := goodIn_r _ [20, 15, 16, 21, 22, 23, 24, 25, 26, 27, 28, 29, 30, 31, 32, 33, 34, 35, 36, 37, 38, 39, 40, 56, 57] (by decide +kernel) (by decide +kernel)
set_option maxRecDepth 20000 in
theorem gX0_takeClassHead_X1_add : GoodIn wsX0_takeClassHead (wsV RX0 77 RX1 yX1_add wsX1_add) := goodIn_app (goodIn_of _ (by decide +kernel)) ggX0_takeClassHead_X1_add
theorem dX0_takeClassHead_0 : decode cX0_takeClassHead 0 = .ok (.aload_n 0, 1) := by decide +kernel
theorem dX0_takeClassHead_1 : decode cX0_takeClassHead 1 = .ok (.sipush 1024, 3) := by decide +kernel
theorem dX0_takeClassHead_4 : decode cX0_takeClassHead 4 = .ok (.invokevirtual 60, 3) := by decide +kernel
theorem dX0_takeClassHead_7 : decode cX0_takeClassHead 7 = .ok (.ifCond .eq 12, 3) := by decide +kernel
theorem dX0_takeClassHead_10 : decode cX0_takeClassHead 10 = .ok (.aload_n 0, 1) := by decide +kernel
theorem dX0_takeClassHead_11 : decode cX0_takeClassHead 11 = .ok (.bipush 64, 2) := by decide +kernel
theorem dX0_takeClassHead_13 : decode cX0_takeClassHead 13 = .ok (.invokevirtual 60, 3) := by decide +kernel
theorem dX0_takeClassHead_16 : decode cX0_takeClassHead 16 = .ok (.ifCond .ne 5, 3) := by decide +kernel
theorem dX0_takeClassHead_19 : decode cX0_takeClassHead 19 = .ok (.iconst 0, 1) := by decide +kernel
theorem dX0_takeClassHead_20 : decode cX0_takeClassHead 20 = .ok (.ireturn, 1) := by decide +kernel
theorem dX0_takeClassHead_21 : decode cX0_takeClassHead 21 = .ok (.aload_n 0, 1) := by decide +kernel
theorem dX0_takeClassHead_22 : decode cX0_takeClassHead 22 = .ok (.getfield 12, 3) := by decide +kernel
theorem dX0_takeClassHead_25 : decode cX0_takeClassHead 25 = .ok (.aload_n 0, 1) := by decide +kernel
theorem dX0_takeClassHead_26 : decode cX0_takeClassHead 26 = .ok (.getfield 33, 3) := by decide +kernel
theorem dX0_takeClassHead_29 : decode cX0_takeClassHead 29 = .ok (.iconst 1, 1) := by decide +kernel
theorem dX0_takeClassHead_30 : decode cX0_takeClassHead 30 = .ok (.isub, 1) := by decide +kernel
theorem dX0_takeClassHead_31 : decode cX0_takeClassHead 31 = .ok (.invokevirtual 77, 3) := by decide +kernel
theorem dX0_takeClassHead_34 : decode cX0_takeClassHead 34 = .ok (.aload_n 0, 1) := by decide +kernel
theorem dX0_takeClassHead_35 : decode cX0_takeClassHead 35 = .ok (.sipush 2048, 3) := by decide +kernel
theorem dX0_takeClassHead_38 : decode cX0_takeClassHead 38 = .ok (.invokevirtual 60, 3) := by decide +kernel
theorem dX0_takeClassHead_41 : decode cX0_takeClassHead 41 = .ok (.ifCond .eq 20, 3) := by decide +kernel
theorem dX0_takeClassHead_44 : decode cX0_takeClassHead 44 = .ok (.aload_n 0, 1) := by decide +kernel
theorem dX0_takeClassHead_45 : decode cX0_takeClassHead 45 = .ok (.bipush 64, 2) := by decide +kernel
theorem dX0_takeClassHead_47 : decode cX0_takeClassHead 47 = .ok (.invokevirtual 60, 3) := by decide +kernel
theorem dX0_takeClassHead_50 : decode cX0_takeClassHead 50 = .ok (.ifCond .eq 11, 3) := by decide +kernel
theorem dX0_takeClassHead_53 : decode cX0_takeClassHead 53 = .ok (.aload_n 0, 1) := by decide +kernel
theorem dX0_takeClassHead_54 : decode cX0_takeClassHead 54 = .ok (.iconst 4, 1) := by decide +kernel
theorem dX0_takeClassHead_55 : decode cX0_takeClassHead 55 = .ok (.invokevirtual 60, 3) := by decide +kernel
theorem dX0_takeClassHead_58 : decode cX0_takeClassHead 58 = .ok (.ifCond .ne 5, 3) := by decide +kernel
theorem dX0_takeClassHead_61 : decode cX0_takeClassHead 61 = .ok (.iconst 0, 1) := by decide +kernel
theorem dX0_takeClassHead_62 : decode cX0_takeClassHead 62 = .ok (.ireturn, 1) := by decide +kernel
theorem dX0_takeClassHead_63 : decode cX0_takeClassHead 63 = .ok (.aload_n 0, 1) := by decide +kernel
theorem dX0_takeClassHead_64 : decode cX0_takeClassHead 64 = .ok (.iconst 1, 1) := by decide +kernel
theorem dX0_takeClassHead_65 : decode cX0_takeClassHead 65 = .ok (.putfield 37, 3) := by decide +kernel
theorem dX0_takeClassHead_68 : decode cX0_takeClassHead 68 = .ok (.iconst 1, 1) := by decide +kernel
theorem dX0_takeClassHead_69 : decode cX0_takeClassHead 69 = .ok (.ireturn, 1) := by decide +kernel
set_option maxRecDepth 20000 in
theorem ggX0_takeMember_X0_memberKind : GoodIn wsX0_takeMember wsX0_memberKind := goodIn_r _ [9, 10, 3, 11, 12, 13, 14, 15, 16, 17, 58, 59, 60, 61, 62, 63, 64, 65, 66, 67, 68, 69, 70, 71, 72, 73, 74] (by decide +kernel) (by decide +kernel)
set_option maxRecDepth 20000 in
theorem gX0_takeMember_X0_memberKind : GoodIn wsX0_takeMember (wsV RX0 81 RX0 yX0_memberKind wsX0_memberKind) := goodIn_app (goodIn_of _ (by decide +kernel)) ggX0_takeMember_X0_memberKind
set_option maxRecDepth 20000 in
theorem ggX0_takeMember_X0_take : GoodIn wsX0_takeMember wsX0_take := goodIn_r _ [21, 10, 3, 11, 12, 13, 14, 15, 16, 17, 58, 59, 60, 61, 62, 63, 64, 65, 66, 67, 68, 69, 70, 71, 72, 73, 74] (by decide +kernel) (by decide +kernel)
set_option maxRecDepth 20000 in
theorem gX0_takeMember_X0_take : GoodIn wsX0_takeMember (wsV RX0 60 RX0 yX0_take wsX0_take) := goodIn_app (goodIn_of _ (by decide +kernel)) ggX0_takeMember_X0_take
set_option maxRecDepth 20000 in
theorem ggX0_takeMember_X1_add : GoodIn wsX0_takeMember wsX1_add := goodIn_r _ [25, 16, 17, 26, 27, 28, 29, 30, 31, 32, 33, 34, 35, 36, 37, 38, 39, 40, 41, 42, 43, 44, 45, 73, 74] (by decide +kernel) (by decide +kernel)
set_option maxRecDepth 20000 in
theorem gX0_takeMember_X1_add : GoodIn wsX0_takeMember (wsV RX0 77 RX1 yX1_add wsX1_add) := goodIn_app (goodIn_of _ (by decide +kernel)) ggX0_takeMember_X1_add
set_option maxRecDepth 20000 in
theorem ggX0_takeMember_X0_takeRoutineHead : GoodIn wsX0_takeMember wsX0_takeRoutineHead := goodIn_r _ [49, 10, 3, 4, 50, 51, 18, 19, 20, 8, 21, 11, 12, 13, 14, 15, 16, 17, 52, 53, 54, 55, 56, 57, 58, 59, 60, 61, 62, 63, 64, 65, 66, 67, 68, 69, 70, 71, 72, 73, 74] (by decide +kernel) (by decide +kernel)
set_option maxRecDepth 20000 in
theorem gX0_takeMember_X0_takeRoutineHead : GoodIn wsX0_takeMember (wsV RX0 85 RX0 yX0_takeRoutineHead wsX0_takeRoutineHead) := goodIn_app (goodIn_of _ (by decide +kernel)) ggX0_takeMember_X0_takeRoutineHead
theorem dX0_takeMember_0 : decode cX0_takeMember 0 = .ok (.aload_n 0, 1) := by decide +kernel
theorem dX0_takeMember_1 : decode cX0_takeMember 1 = .ok (.invokevirtual 81, 3) := by decide +kernel
theorem dX0_takeMember_4 : decode cX0_takeMember 4 = .ok (.istore_n 1, 1) := by decide +kernel
theorem dX0_takeMember_5 : decode cX0_takeMember 5 = .ok (.aload_n 0, 1) := by decide +kernel
theorem dX0_takeMember_6 : decode cX0_takeMember 6 = .ok (.sipush 28672, 3) := by decide +kernel
theorem dX0_takeMember_9 : decode cX0_takeMember 9 = .ok (.invokevirtual 60, 3) := by decide +kernel
theorem dX0_takeMember_12 : decode cX0_takeMember 12 = .ok (.ifCond .eq 12, 3) := by decide +kernel
theorem dX0_takeMember_15 : decode cX0_takeMember 15 = .ok (.aload_n 0, 1) := by decide +kernel
theorem dX0_takeMember_16 : decode cX0_takeMember 16 = .ok (.bipush 32, 2) := by decide +kernel
theorem dX0_takeMember_18 : decode cX0_takeMember 18 = .ok (.invokevirtual 60, 3) := by decide +kernel
theorem dX0_takeMember_21 : decode cX0_takeMember 21 = .ok (.ifCond .ne 5, 3) := by decide +kernel
theorem dX0_takeMember_24 : decode cX0_takeMember 24 = .ok (.iconst 0, 1) := by decide +kernel
theorem dX0_takeMember_25 : decode cX0_takeMember 25 = .ok (.ireturn, 1) := by decide +kernel
theorem dX0_takeMember_26 : decode cX0_takeMember 26 = .ok (.aload_n 0, 1) := by decide +kernel
theorem dX0_takeMember_27 : decode cX0_takeMember 27 = .ok (.getfield 18, 3) := by decide +kernel
theorem dX0_takeMember_30 : decode cX0_takeMember 30 = .ok (.iload_n 1, 1) := by decide +kernel
theorem dX0_takeMember_31 : decode cX0_takeMember 31 = .ok (.invokevirtual 77, 3) := by decide +kernel
theorem dX0_takeMember_34 : decode cX0_takeMember 34 = .ok (.aload_n 0, 1) := by decide +kernel
theorem dX0_takeMember_35 : decode cX0_takeMember 35 = .ok (.getfield 21, 3) := by decide +kernel
theorem dX0_takeMember_38 : decode cX0_takeMember 38 = .ok (.aload_n 0, 1) := by decide +kernel
theorem dX0_takeMember_39 : decode cX0_takeMember 39 = .ok (.getfield 33, 3) := by decide +kernel
theorem dX0_takeMember_42 : decode cX0_takeMember 42 = .ok (.iconst 1, 1) := by decide +kernel
theorem dX0_takeMember_43 : decode cX0_takeMember 43 = .ok (.isub, 1) := by decide +kernel
theorem dX0_takeMember_44 : decode cX0_takeMember 44 = .ok (.invokevirtual 77, 3) := by decide +kernel
theorem dX0_takeMember_47 : decode cX0_takeMember 47 = .ok (.iload_n 1, 1) := by decide +kernel
theorem dX0_takeMember_48 : decode cX0_takeMember 48 = .ok (.ifCond .ne 12, 3) := by decide +kernel
theorem dX0_takeMember_51 : decode cX0_takeMember 51 = .ok (.aload_n 0, 1) := by decide +kernel
theorem dX0_takeMember_52 : decode cX0_takeMember 52 = .ok (.ldc 84, 2) := by decide +kernel
theorem dX0_takeMember_54 : decode cX0_takeMember 54 = .ok (.invokevirtual 60, 3) := by decide +kernel
theorem dX0_takeMember_57 : decode cX0_takeMember 57 = .ok (.goto 7, 3) := by decide +kernel
theorem dX0_takeMember_60 : decode cX0_takeMember 60 = .ok (.aload_n 0, 1) := by decide +kernel
theorem dX0_takeMember_61 : decode cX0_takeMember 61 = .ok (.invokevirtual 85, 3) := by decide +kernel
theorem dX0_takeMember_64 : decode cX0_takeMember 64 = .ok (.ireturn, 1) := by decide +kernel
set_option maxRecDepth 20000 in
theorem ggX0_memberKind_X1_hasAny : GoodIn wsX0_memberKind wsX1_hasAny := goodIn_r _ [7, 8, 9, 25, 26] (by decide +kernel) (by decide +kernel)
set_option maxRecDepth 20000 in
theorem gX0_memberKind_X1_hasAny : GoodIn wsX0_memberKind (wsV RX0 73 RX1 yX1_hasAny wsX1_hasAny) := goodIn_app (goodIn_of _ (by decide +kernel)) ggX0_memberKind_X1_hasAny
theorem dX0_memberKind_0 : decode cX0_memberKind 0 = .ok (.aload_n 0, 1) := by decide +kernel
theorem dX0_memberKind_1 : decode cX0_memberKind 1 = .ok (.getfield 40, 3) := by decide +kernel
theorem dX0_memberKind_4 : decode cX0_memberKind 4 = .ok (.getfield 70, 3) := by decide +kernel
theorem dX0_memberKind_7 : decode cX0_memberKind 7 = .ok (.aload_n 0, 1) := by decide +kernel
theorem dX0_memberKind_8 : decode cX0_memberKind 8 = .ok (.getfield 33, 3) := by decide +kernel
theorem dX0_memberKind_11 : decode cX0_memberKind 11 = .ok (.sipush 4096, 3) := by decide +kernel
theorem dX0_memberKind_14 : decode cX0_memberKind 14 = .ok (.invokevirtual 73, 3) := by decide +kernel
theorem dX0_memberKind_17 : decode cX0_memberKind 17 = .ok (.ifCond .eq 5, 3) := by decide +kernel
theorem dX0_memberKind_20 : decode cX0_memberKind 20 = .ok (.iconst 0, 1) := by decide +kernel
theorem dX0_memberKind_21 : decode cX0_memberKind 21 = .ok (.ireturn, 1) := by decide +kernel
theorem dX0_memberKind_22 : decode cX0_memberKind 22 = .ok (.aload_n 0, 1) := by decide +kernel
theorem dX0_memberKind_23 : decode cX0_memberKind 23 = .ok (.getfield 40, 3) := by decide +kernel
theorem dX0_memberKind_26 : decode cX0_memberKind 26 = .ok (.getfield 70, 3) := by decide +kernel
theorem dX0_memberKind_29 : decode cX0_memberKind 29 = .ok (.aload_n 0, 1) := by decide +kernel
theorem dX0_memberKind_30 : decode cX0_memberKind 30 = .ok (.getfield 33, 3) := by decide +kernel
theorem dX0_memberKind_33 : decode cX0_memberKind 33 = .ok (.sipush 8192, 3) := by decide +kernel
theorem dX0_memberKind_36 : decode cX0_memberKind 36 = .ok (.invokevirtual 73, 3) := by decide +kernel
theorem dX0_memberKind_39 : decode cX0_memberKind 39 = .ok (.ifCond .eq 7, 3) := by decide +kernel
theorem dX0_memberKind_42 : decode cX0_memberKind 42 = .ok (.iconst 1, 1) := by decide +kernel
theorem dX0_memberKind_43 : decode cX0_memberKind 43 = .ok (.goto 4, 3) := by decide +kernel
theorem dX0_memberKind_46 : decode cX0_memberKind 46 = .ok (.iconst 2, 1) := by decide +kernel
theorem dX0_memberKind_47 : decode cX0_memberKind 47 = .ok (.ireturn, 1) := by decide +kernel
set_option maxRecDepth 20000 in
theorem ggX0_takeRoutineHead_X0_take : GoodIn wsX0_takeRoutineHead wsX0_take := goodIn_r _ [10, 1, 2, 11, 12, 13, 14, 15, 16, 17, 24, 25, 26, 27, 28, 29, 30, 31, 32, 33, 34, 35, 36, 37, 38, 39, 40] (by decide +kernel) (by decide +kernel)
set_option maxRecDepth 20000 in
theorem gX0_takeRoutineHead_X0_take : GoodIn wsX0_takeRoutineHead (wsV RX0 60 RX0 yX0_take wsX0_take) := goodIn_app (goodIn_of _ (by decide +kernel)) ggX0_takeRoutineHead_X0_take
set_option maxRecDepth 20000 in
theorem ggX0_takeRoutineHead_X3_count : GoodIn wsX0_takeRoutineHead wsX3_count := goodIn_r _ [22, 23, 33, 34, 35, 36, 37, 38, 39, 40] (by decide +kernel) (by decide +kernel)
set_option maxRecDepth 20000 in
theorem gX0_takeRoutineHead_X3_count : GoodIn wsX0_takeRoutineHead (wsV RX0 47 RX3 yX3_count wsX3_count) := goodIn_app (goodIn_of _ (by decide +kernel)) ggX0_takeRoutineHead_X3_count
theorem dX0_takeRoutineHead_0 : decode cX0_takeRoutineHead 0 = .ok (.aload_n 0, 1) := by decide +kernel
theorem dX0_takeRoutineHead_1 : decode cX0_takeRoutineHead 1 = .ok (.iconst 1, 1) := by decide +kernel
theorem dX0_takeRoutineHead_2 : decode cX0_takeRoutineHead 2 = .ok (.invokevirtual 60, 3) := by decide +kernel
theorem dX0_takeRoutineHead_5 : decode cX0_takeRoutineHead 5 = .ok (.ifCond .ne 5, 3) := by decide +kernel
theorem dX0_takeRoutineHead_8 : decode cX0_takeRoutineHead 8 = .ok (.iconst 0, 1) := by decide +kernel
theorem dX0_takeRoutineHead_9 : decode cX0_takeRoutineHead 9 = .ok (.ireturn, 1) := by decide +kernel
theorem dX0_takeRoutineHead_10 : decode cX0_takeRoutineHead 10 = .ok (.iconst 1, 1) := by decide +kernel
theorem dX0_takeRoutineHead_11 : decode cX0_takeRoutineHead 11 = .ok (.istore_n 1, 1) := by decide +kernel
theorem dX0_takeRoutineHead_12 : decode cX0_takeRoutineHead 12 = .ok (.aload_n 0, 1) := by decide +kernel
theorem dX0_takeRoutineHead_13 : decode cX0_takeRoutineHead 13 = .ok (.getfield 40, 3) := by decide +kernel
theorem dX0_takeRoutineHead_16 : decode cX0_takeRoutineHead 16 = .ok (.invokevirtual 47, 3) := by decide +kernel
theorem dX0_takeRoutineHead_19 : decode cX0_takeRoutineHead 19 = .ok (.istore_n 2, 1) := by decide +kernel
theorem dX0_takeRoutineHead_20 : decode cX0_takeRoutineHead 20 = .ok (.aload_n 0, 1) := by decide +kernel
theorem dX0_takeRoutineHead_21 : decode cX0_takeRoutineHead 21 = .ok (.getfield 33, 3) := by decide +kernel
theorem dX0_takeRoutineHead_24 : decode cX0_takeRoutineHead 24 = .ok (.istore_n 3, 1) := by decide +kernel
theorem dX0_takeRoutineHead_25 : decode cX0_takeRoutineHead 25 = .ok (.iload_n 3, 1) := by decide +kernel
theorem dX0_takeRoutineHead_26 : decode cX0_takeRoutineHead 26 = .ok (.iload_n 2, 1) := by decide +kernel
theorem dX0_takeRoutineHead_27 : decode cX0_takeRoutineHead 27 = .ok (.if_icmp .ge 20, 3) := by decide +kernel
theorem dX0_takeRoutineHead_30 : decode cX0_takeRoutineHead 30 = .ok (.iload_n 1, 1) := by decide +kernel
theorem dX0_takeRoutineHead_31 : decode cX0_takeRoutineHead 31 = .ok (.ifCond .eq 16, 3) := by decide +kernel
theorem dX0_takeRoutineHead_34 : decode cX0_takeRoutineHead 34 = .ok (.aload_n 0, 1) := by decide +kernel
theorem dX0_takeRoutineHead_35 : decode cX0_takeRoutineHead 35 = .ok (.ldc 84, 2) := by decide +kernel
theorem dX0_takeRoutineHead_37 : decode cX0_takeRoutineHead 37 = .ok (.invokevirtual 60, 3) := by decide +kernel
theorem dX0_takeRoutineHead_40 : decode cX0_takeRoutineHead 40 = .ok (.istore_n 1, 1) := by decide +kernel
theorem dX0_takeRoutineHead_41 : decode cX0_takeRoutineHead 41 = .ok (.iinc 3 1, 3) := by decide +kernel
theorem dX0_takeRoutineHead_44 : decode cX0_takeRoutineHead 44 = .ok (.goto (-19), 3) := by decide +kernel
theorem dX0_takeRoutineHead_47 : decode cX0_takeRoutineHead 47 = .ok (.aload_n 0, 1) := by decide +kernel
theorem dX0_takeRoutineHead_48 : decode cX0_takeRoutineHead 48 = .ok (.iconst 2, 1) := by decide +kernel
theorem dX0_takeRoutineHead_49 : decode cX0_takeRoutineHead 49 = .ok (.invokevirtual 60, 3) := by decide +kernel
theorem dX0_takeRoutineHead_52 : decode cX0_takeRoutineHead 52 = .ok (.ifCond .eq 30, 3) := by decide +kernel
theorem dX0_takeRoutineHead_55 : decode cX0_takeRoutineHead 55 = .ok (.aload_n 0, 1) := by decide +kernel
theorem dX0_takeRoutineHead_56 : decode cX0_takeRoutineHead 56 = .ok (.ldc 88, 2) := by decide +kernel
theorem dX0_takeRoutineHead_58 : decode cX0_takeRoutineHead 58 = .ok (.invokevirtual 60, 3) := by decide +kernel
theorem dX0_takeRoutineHead_61 : decode cX0_takeRoutineHead 61 = .ok (.ifCond .eq 21, 3) := by decide +kernel
theorem dX0_takeRoutineHead_64 : decode cX0_takeRoutineHead 64 = .ok (.aload_n 0, 1) := by decide +kernel
theorem dX0_takeRoutineHead_65 : decode cX0_takeRoutineHead 65 = .ok (.sipush 128, 3) := by decide +kernel
theorem dX0_takeRoutineHead_68 : decode cX0_takeRoutineHead 68 = .ok (.invokevirtual 60, 3) := by decide +kernel
theorem dX0_takeRoutineHead_71 : decode cX0_takeRoutineHead 71 = .ok (.ifCond .eq 11, 3) := by decide +kernel
theorem dX0_takeRoutineHead_74 : decode cX0_takeRoutineHead 74 = .ok (.aload_n 0, 1) := by decide +kernel
theorem dX0_takeRoutineHead_75 : decode cX0_takeRoutineHead 75 = .ok (.iconst 4, 1) := by decide +kernel
theorem dX0_takeRoutineHead_76 : decode cX0_takeRoutineHead 76 = .ok (.invokevirtual 60, 3) := by decide +kernel
theorem dX0_takeRoutineHead_79 : decode cX0_takeRoutineHead 79 = .ok (.ifCond .ne 5, 3) := by decide +kernel
theorem dX0_takeRoutineHead_82 : decode cX0_takeRoutineHead 82 = .ok (.iconst 0, 1) := by decide +kernel
theorem dX0_takeRoutineHead_83 : decode cX0_takeRoutineHead 83 = .ok (.ireturn, 1) := by decide +kernel
theorem dX0_takeRoutineHead_84 : decode cX0_takeRoutineHead 84 = .ok (.aload_n 0, 1) := by decide +kernel
theorem dX0_takeRoutineHead_85 : decode cX0_takeRoutineHead 85 = .ok (.iconst 2, 1) := by decide +kernel
theorem dX0_takeRoutineHead_86 : decode cX0_takeRoutineHead 86 = .ok (.putfield 37, 3) := by decide +kernel
theorem dX0_takeRoutineHead_89 : decode cX0_takeRoutineHead 89 = .ok (.iconst 1, 1) := by decide +kernel
theorem dX0_takeRoutineHead_90 : decode cX0_takeRoutineHead 90 = .ok (.ireturn, 1) := by decide +kernel
set_option maxRecDepth 20000 in
theorem ggX0_takeLine_X0_take : GoodIn wsX0_takeLine wsX0_take := goodIn_r _ [8, 2, 1, 9, 10, 11, 12, 13, 14, 15, 62, 63, 64, 65, 66, 67, 68, 69, 70, 71, 72, 73, 74, 75, 76, 77, 78] (by decide +kernel) (by decide +kernel)
set_option maxRecDepth 20000 in
theorem gX0_takeLine_X0_take : GoodIn wsX0_takeLine (wsV RX0 60 RX0 yX0_take wsX0_take) := goodIn_app (goodIn_of _ (by decide +kernel)) ggX0_takeLine_X0_take
set_option maxRecDepth 20000 in
theorem ggX0_takeLine_X0_addLine : GoodIn wsX0_takeLine wsX0_addLine := goodIn_r _ [19, 20, 21, 22, 23, 24, 25, 12, 26, 14, 15, 27, 28, 29, 30, 31, 32, 33, 34, 35, 36, 37, 38, 39, 40, 41, 42, 43, 44, 45, 46, 62, 63, 64, 65, 66, 67, 68, 69, 70, 77, 78] (by decide +kernel) (by decide +kernel)
set_option maxRecDepth 20000 in
theorem gX0_takeLine_X0_addLine : GoodIn wsX0_takeLine (wsV RX0 89 RX0 yX0_addLine wsX0_addLine) := goodIn_app (goodIn_of _ (by decide +kernel)) ggX0_takeLine_X0_addLine
set_option maxRecDepth 20000 in
theorem ggX0_takeLine_X3_count : GoodIn wsX0_takeLine wsX3_count := goodIn_r _ [51, 52, 71, 72, 73, 74, 75, 76, 77, 78] (by decide +kernel) (by decide +kernel)
set_option maxRecDepth 20000 in
theorem gX0_takeLine_X3_count : GoodIn wsX0_takeLine (wsV RX0 47 RX3 yX3_count wsX3_count) := goodIn_app (goodIn_of _ (by decide +kernel)) ggX0_takeLine_X3_count
set_option maxRecDepth 20000 in
theorem ggX0_takeLine_X1_hasAny : GoodIn wsX0_takeLine wsX1_hasAny := goodIn_r _ [13, 14, 15, 77, 78] (by decide +kernel) (by decide +kernel)
set_option maxRecDepth 20000 in
theorem gX0_takeLine_X1_hasAny : GoodIn wsX0_takeLine (wsV RX0 73 RX1 yX1_hasAny wsX1_hasAny) := goodIn_app (goodIn_of _ (by decide +kernel)) ggX0_takeLine_X1_hasAny
set_option maxRecDepth 20000 in
theorem ggX0_takeLine_X1_get : GoodIn wsX0_takeLine wsX1_get := goodIn_r _ [56, 14, 15, 77, 78] (by decide +kernel) (by decide +kernel)
set_option maxRecDepth 20000 in
theorem gX0_takeLine_X1_get : GoodIn wsX0_takeLine (wsV RX0 97 RX1 yX1_get wsX1_get) := goodIn_app (goodIn_of _ (by decide +kernel)) ggX0_takeLine_X1_get
set_option maxRecDepth 20000 in
theorem ggX0_takeLine_X0_takeOperands : GoodIn wsX0_takeLine wsX0_takeOperands := goodIn_r _ [60, 61, 4, 5, 6, 7, 8, 2, 1, 9, 10, 11, 12, 13, 14, 15, 62, 63, 64, 65, 66, 67, 68, 69, 70, 71, 72, 73, 74, 75, 76, 77, 78] (by decide +kernel) (by decide +kernel)
set_option maxRecDepth 20000 in
theorem gX0_takeLine_X0_takeOperands : GoodIn wsX0_takeLine (wsV RX0 101 RX0 yX0_takeOperands wsX0_takeOperands) := goodIn_app (goodIn_of _ (by decide +kernel)) ggX0_takeLine_X0_takeOperands
theorem dX0_takeLine_0 : decode cX0_takeLine 0 = .ok (.aload_n 0, 1) := by decide +kernel
theorem dX0_takeLine_1 : decode cX0_takeLine 1 = .ok (.getfield 33, 3) := by decide +kernel
theorem dX0_takeLine_4 : decode cX0_takeLine 4 = .ok (.istore_n 1, 1) := by decide +kernel
theorem dX0_takeLine_5 : decode cX0_takeLine 5 = .ok (.aload_n 0, 1) := by decide +kernel
theorem dX0_takeLine_6 : decode cX0_takeLine 6 = .ok (.bipush 32, 2) := by decide +kernel
theorem dX0_takeLine_8 : decode cX0_takeLine 8 = .ok (.invokevirtual 60, 3) := by decide +kernel
theorem dX0_takeLine_11 : decode cX0_takeLine 11 = .ok (.ifCond .ne 5, 3) := by decide +kernel
theorem dX0_takeLine_14 : decode cX0_takeLine 14 = .ok (.iconst 0, 1) := by decide +kernel
theorem dX0_takeLine_15 : decode cX0_takeLine 15 = .ok (.ireturn, 1) := by decide +kernel
theorem dX0_takeLine_16 : decode cX0_takeLine 16 = .ok (.aload_n 0, 1) := by decide +kernel
theorem dX0_takeLine_17 : decode cX0_takeLine 17 = .ok (.bipush 16, 2) := by decide +kernel
theorem dX0_takeLine_19 : decode cX0_takeLine 19 = .ok (.invokevirtual 60, 3) := by decide +kernel
theorem dX0_takeLine_22 : decode cX0_takeLine 22 = .ok (.ifCond .eq 12, 3) := by decide +kernel
theorem dX0_takeLine_25 : decode cX0_takeLine 25 = .ok (.aload_n 0, 1) := by decide +kernel
theorem dX0_takeLine_26 : decode cX0_takeLine 26 = .ok (.iload_n 1, 1) := by decide +kernel
theorem dX0_takeLine_27 : decode cX0_takeLine 27 = .ok (.iconst 0, 1) := by decide +kernel
theorem dX0_takeLine_28 : decode cX0_takeLine 28 = .ok (.iconst (-1), 1) := by decide +kernel
theorem dX0_takeLine_29 : decode cX0_takeLine 29 = .ok (.invokevirtual 89, 3) := by decide +kernel
theorem dX0_takeLine_32 : decode cX0_takeLine 32 = .ok (.iconst 1, 1) := by decide +kernel
theorem dX0_takeLine_33 : decode cX0_takeLine 33 = .ok (.ireturn, 1) := by decide +kernel
theorem dX0_takeLine_34 : decode cX0_takeLine 34 = .ok (.aload_n 0, 1) := by decide +kernel
theorem dX0_takeLine_35 : decode cX0_takeLine 35 = .ok (.getfield 33, 3) := by decide +kernel
theorem dX0_takeLine_38 : decode cX0_takeLine 38 = .ok (.aload_n 0, 1) := by decide +kernel
theorem dX0_takeLine_39 : decode cX0_takeLine 39 = .ok (.getfield 40, 3) := by decide +kernel
theorem dX0_takeLine_42 : decode cX0_takeLine 42 = .ok (.invokevirtual 47, 3) := by decide +kernel
theorem dX0_takeLine_45 : decode cX0_takeLine 45 = .ok (.if_icmp .lt 12, 3) := by decide +kernel
theorem dX0_takeLine_48 : decode cX0_takeLine 48 = .ok (.aload_n 0, 1) := by decide +kernel
theorem dX0_takeLine_49 : decode cX0_takeLine 49 = .ok (.iload_n 1, 1) := by decide +kernel
theorem dX0_takeLine_50 : decode cX0_takeLine 50 = .ok (.iconst (-1), 1) := by decide +kernel
theorem dX0_takeLine_51 : decode cX0_takeLine 51 = .ok (.iconst (-1), 1) := by decide +kernel
theorem dX0_takeLine_52 : decode cX0_takeLine 52 = .ok (.invokevirtual 89, 3) := by decide +kernel
theorem dX0_takeLine_55 : decode cX0_takeLine 55 = .ok (.iconst 0, 1) := by decide +kernel
theorem dX0_takeLine_56 : decode cX0_takeLine 56 = .ok (.ireturn, 1) := by decide +kernel
theorem dX0_takeLine_57 : decode cX0_takeLine 57 = .ok (.aload_n 0, 1) := by decide +kernel
theorem dX0_takeLine_58 : decode cX0_takeLine 58 = .ok (.getfield 40, 3) := by decide +kernel
theorem dX0_takeLine_61 : decode cX0_takeLine 61 = .ok (.getfield 70, 3) := by decide +kernel
theorem dX0_takeLine_64 : decode cX0_takeLine 64 = .ok (.iload_n 1, 1) := by decide +kernel
theorem dX0_takeLine_65 : decode cX0_takeLine 65 = .ok (.ldc 93, 2) := by decide +kernel
theorem dX0_takeLine_67 : decode cX0_takeLine 67 = .ok (.invokevirtual 73, 3) := by decide +kernel
theorem dX0_takeLine_70 : decode cX0_takeLine 70 = .ok (.ifCond .eq 52, 3) := by decide +kernel
theorem dX0_takeLine_73 : decode cX0_takeLine 73 = .ok (.aload_n 0, 1) := by decide +kernel
theorem dX0_takeLine_74 : decode cX0_takeLine 74 = .ok (.iload_n 1, 1) := by decide +kernel
theorem dX0_takeLine_75 : decode cX0_takeLine 75 = .ok (.iconst 1, 1) := by decide +kernel
theorem dX0_takeLine_76 : decode cX0_takeLine 76 = .ok (.iconst (-1), 1) := by decide +kernel
theorem dX0_takeLine_77 : decode cX0_takeLine 77 = .ok (.invokevirtual 89, 3) := by decide +kernel
theorem dX0_takeLine_80 : decode cX0_takeLine 80 = .ok (.aload_n 0, 1) := by decide +kernel
theorem dX0_takeLine_81 : decode cX0_takeLine 81 = .ok (.bipush 32, 2) := by decide +kernel
theorem dX0_takeLine_83 : decode cX0_takeLine 83 = .ok (.invokevirtual 60, 3) := by decide +kernel
theorem dX0_takeLine_86 : decode cX0_takeLine 86 = .ok (.ifCond .eq 34, 3) := by decide +kernel
theorem dX0_takeLine_89 : decode cX0_takeLine 89 = .ok (.aload_n 0, 1) := by decide +kernel
theorem dX0_takeLine_90 : decode cX0_takeLine 90 = .ok (.bipush 32, 2) := by decide +kernel
theorem dX0_takeLine_92 : decode cX0_takeLine 92 = .ok (.invokevirtual 60, 3) := by decide +kernel
theorem dX0_takeLine_95 : decode cX0_takeLine 95 = .ok (.ifCond .eq 25, 3) := by decide +kernel
theorem dX0_takeLine_98 : decode cX0_takeLine 98 = .ok (.aload_n 0, 1) := by decide +kernel
theorem dX0_takeLine_99 : decode cX0_takeLine 99 = .ok (.bipush 32, 2) := by decide +kernel
theorem dX0_takeLine_101 : decode cX0_takeLine 101 = .ok (.invokevirtual 60, 3) := by decide +kernel
theorem dX0_takeLine_104 : decode cX0_takeLine 104 = .ok (.ifCond .eq 16, 3) := by decide +kernel
theorem dX0_takeLine_107 : decode cX0_takeLine 107 = .ok (.aload_n 0, 1) := by decide +kernel
theorem dX0_takeLine_108 : decode cX0_takeLine 108 = .ok (.bipush 64, 2) := by decide +kernel
theorem dX0_takeLine_110 : decode cX0_takeLine 110 = .ok (.invokevirtual 60, 3) := by decide +kernel
theorem dX0_takeLine_113 : decode cX0_takeLine 113 = .ok (.ifCond .eq 7, 3) := by decide +kernel
theorem dX0_takeLine_116 : decode cX0_takeLine 116 = .ok (.iconst 1, 1) := by decide +kernel
theorem dX0_takeLine_117 : decode cX0_takeLine 117 = .ok (.goto 4, 3) := by decide +kernel
theorem dX0_takeLine_120 : decode cX0_takeLine 120 = .ok (.iconst 0, 1) := by decide +kernel
theorem dX0_takeLine_121 : decode cX0_takeLine 121 = .ok (.ireturn, 1) := by decide +kernel
theorem dX0_takeLine_122 : decode cX0_takeLine 122 = .ok (.aload_n 0, 1) := by decide +kernel
theorem dX0_takeLine_123 : decode cX0_takeLine 123 = .ok (.getfield 40, 3) := by decide +kernel
theorem dX0_takeLine_126 : decode cX0_takeLine 126 = .ok (.getfield 94, 3) := by decide +kernel
theorem dX0_takeLine_129 : decode cX0_takeLine 129 = .ok (.iload_n 1, 1) := by decide +kernel
theorem dX0_takeLine_130 : decode cX0_takeLine 130 = .ok (.invokevirtual 97, 3) := by decide +kernel
theorem dX0_takeLine_133 : decode cX0_takeLine 133 = .ok (.istore_n 2, 1) := by decide +kernel
theorem dX0_takeLine_134 : decode cX0_takeLine 134 = .ok (.aload_n 0, 1) := by decide +kernel
theorem dX0_takeLine_135 : decode cX0_takeLine 135 = .ok (.iload_n 1, 1) := by decide +kernel
theorem dX0_takeLine_136 : decode cX0_takeLine 136 = .ok (.iload_n 2, 1) := by decide +kernel
theorem dX0_takeLine_137 : decode cX0_takeLine 137 = .ok (.iconst (-1), 1) := by decide +kernel
theorem dX0_takeLine_138 : decode cX0_takeLine 138 = .ok (.if_icmp .ne 7, 3) := by decide +kernel
theorem dX0_takeLine_141 : decode cX0_takeLine 141 = .ok (.iconst (-1), 1) := by decide +kernel
theorem dX0_takeLine_142 : decode cX0_takeLine 142 = .ok (.goto 4, 3) := by decide +kernel
theorem dX0_takeLine_145 : decode cX0_takeLine 145 = .ok (.iconst 2, 1) := by decide +kernel
theorem dX0_takeLine_146 : decode cX0_takeLine 146 = .ok (.iload_n 2, 1) := by decide +kernel
theorem dX0_takeLine_147 : decode cX0_takeLine 147 = .ok (.invokevirtual 89, 3) := by decide +kernel
theorem dX0_takeLine_150 : decode cX0_takeLine 150 = .ok (.aload_n 0, 1) := by decide +kernel
theorem dX0_takeLine_151 : decode cX0_takeLine 151 = .ok (.iload_n 2, 1) := by decide +kernel
theorem dX0_takeLine_152 : decode cX0_takeLine 152 = .ok (.invokevirtual 101, 3) := by decide +kernel
theorem dX0_takeLine_155 : decode cX0_takeLine 155 = .ok (.ireturn, 1) := by decide +kernel
set_option maxRecDepth 20000 in
theorem ggX0_addLine_X1_add : GoodIn wsX0_addLine wsX1_add := goodIn_r _ [8, 9, 10, 11, 12, 13, 14, 15, 16, 17, 18, 19, 20, 21, 22, 23, 24, 25, 26, 27, 28, 29, 30, 40, 41] (by decide +kernel) (by decide +kernel)
set_option maxRecDepth 20000 in
theorem gX0_addLine_X1_add : GoodIn wsX0_addLine (wsV RX0 77 RX1 yX1_add wsX1_add) := goodIn_app (goodIn_of _ (by decide +kernel)) ggX0_addLine_X1_add
theorem dX0_addLine_0 : decode cX0_addLine 0 = .ok (.aload_n 0, 1) := by decide +kernel
theorem dX0_addLine_1 : decode cX0_addLine 1 = .ok (.getfield 27, 3) := by decide +kernel
theorem dX0_addLine_4 : decode cX0_addLine 4 = .ok (.iload_n 1, 1) := by decide +kernel
theorem dX0_addLine_5 : decode cX0_addLine 5 = .ok (.invokevirtual 77, 3) := by decide +kernel
theorem dX0_addLine_8 : decode cX0_addLine 8 = .ok (.aload_n 0, 1) := by decide +kernel
theorem dX0_addLine_9 : decode cX0_addLine 9 = .ok (.getfield 24, 3) := by decide +kernel
theorem dX0_addLine_12 : decode cX0_addLine 12 = .ok (.iload_n 2, 1) := by decide +kernel
theorem dX0_addLine_13 : decode cX0_addLine 13 = .ok (.invokevirtual 77, 3) := by decide +kernel
theorem dX0_addLine_16 : decode cX0_addLine 16 = .ok (.aload_n 0, 1) := by decide +kernel
theorem dX0_addLine_17 : decode cX0_addLine 17 = .ok (.getfield 30, 3) := by decide +kernel
theorem dX0_addLine_20 : decode cX0_addLine 20 = .ok (.iload_n 3, 1) := by decide +kernel
theorem dX0_addLine_21 : decode cX0_addLine 21 = .ok (.invokevirtual 77, 3) := by decide +kernel
theorem dX0_addLine_24 : decode cX0_addLine 24 = .ok (.return_, 1) := by decide +kernel
set_option maxRecDepth 20000 in
theorem ggX0_takeOperands_X0_take : GoodIn wsX0_takeOperands wsX0_take := goodIn_r _ [6, 7, 8, 9, 10, 11, 12, 13, 14, 15, 16, 17, 18, 19, 20, 21, 22, 23, 24, 25, 26, 27, 28, 29, 30, 31, 32] (by decide +kernel) (by decide +kernel)
set_option maxRecDepth 20000 in
theorem gX0_takeOperands_X0_take : GoodIn wsX0_takeOperands (wsV RX0 60 RX0 yX0_take wsX0_take) := goodIn_app (goodIn_of _ (by decide +kernel)) ggX0_takeOperands_X0_take
theorem dX0_takeOperands_0 : decode cX0_takeOperands 0 = .ok (.iload_n 1, 1) := by decide +kernel
theorem dX0_takeOperands_1 : decode cX0_takeOperands 1 = .ok (.ifCond .lt 11, 3) := by decide +kernel
theorem dX0_takeOperands_4 : decode cX0_takeOperands 4 = .ok (.iload_n 1, 1) := by decide +kernel
theorem dX0_takeOperands_5 : decode cX0_takeOperands 5 = .ok (.getstatic 104, 3) := by decide +kernel
theorem dX0_takeOperands_8 : decode cX0_takeOperands 8 = .ok (.arraylength, 1) := by decide +kernel
theorem dX0_takeOperands_9 : decode cX0_takeOperands 9 = .ok (.if_icmp .lt 5, 3) := by decide +kernel
theorem dX0_takeOperands_12 : decode cX0_takeOperands 12 = .ok (.iconst 0, 1) := by decide +kernel
theorem dX0_takeOperands_13 : decode cX0_takeOperands 13 = .ok (.ireturn, 1) := by decide +kernel
theorem dX0_takeOperands_14 : decode cX0_takeOperands 14 = .ok (.getstatic 104, 3) := by decide +kernel
theorem dX0_takeOperands_17 : decode cX0_takeOperands 17 = .ok (.iload_n 1, 1) := by decide +kernel
theorem dX0_takeOperands_18 : decode cX0_takeOperands 18 = .ok (.iaload, 1) := by decide +kernel
theorem dX0_takeOperands_19 : decode cX0_takeOperands 19 = .ok (.istore_n 2, 1) := by decide +kernel
theorem dX0_takeOperands_20 : decode cX0_takeOperands 20 = .ok (.iload_n 2, 1) := by decide +kernel
theorem dX0_takeOperands_21 : decode cX0_takeOperands 21 = .ok (.ifCond .eq 11, 3) := by decide +kernel
theorem dX0_takeOperands_24 : decode cX0_takeOperands 24 = .ok (.aload_n 0, 1) := by decide +kernel
theorem dX0_takeOperands_25 : decode cX0_takeOperands 25 = .ok (.iload_n 2, 1) := by decide +kernel
theorem dX0_takeOperands_26 : decode cX0_takeOperands 26 = .ok (.invokevirtual 60, 3) := by decide +kernel
theorem dX0_takeOperands_29 : decode cX0_takeOperands 29 = .ok (.ifCond .eq 22, 3) := by decide +kernel
theorem dX0_takeOperands_32 : decode cX0_takeOperands 32 = .ok (.iload_n 1, 1) := by decide +kernel
theorem dX0_takeOperands_33 : decode cX0_takeOperands 33 = .ok (.iconst 4, 1) := by decide +kernel
theorem dX0_takeOperands_34 : decode cX0_takeOperands 34 = .ok (.if_icmp .ne 13, 3) := by decide +kernel
theorem dX0_takeOperands_37 : decode cX0_takeOperands 37 = .ok (.aload_n 0, 1) := by decide +kernel
theorem dX0_takeOperands_38 : decode cX0_takeOperands 38 = .ok (.sipush 128, 3) := by decide +kernel
theorem dX0_takeOperands_41 : decode cX0_takeOperands 41 = .ok (.invokevirtual 60, 3) := by decide +kernel
theorem dX0_takeOperands_44 : decode cX0_takeOperands 44 = .ok (.ifCond .eq 7, 3) := by decide +kernel
theorem dX0_takeOperands_47 : decode cX0_takeOperands 47 = .ok (.iconst 1, 1) := by decide +kernel
theorem dX0_takeOperands_48 : decode cX0_takeOperands 48 = .ok (.goto 4, 3) := by decide +kernel
theorem dX0_takeOperands_51 : decode cX0_takeOperands 51 = .ok (.iconst 0, 1) := by decide +kernel
theorem dX0_takeOperands_52 : decode cX0_takeOperands 52 = .ok (.ireturn, 1) := by decide +kernel
theorem dX1_init_0 : decode cX1_init 0 = .ok (.aload_n 0, 1) := by decide +kernel
theorem dX1_init_1 : decode cX1_init 1 = .ok (.invokespecial 3, 3) := by decide +kernel
theorem dX1_init_4 : decode cX1_init 4 = .ok (.aload_n 0, 1) := by decide +kernel
theorem dX1_init_5 : decode cX1_init 5 = .ok (.bipush 16, 2) := by decide +kernel
theorem dX1_init_7 : decode cX1_init 7 = .ok (.newarray .int, 2) := by decide +kernel
theorem dX1_init_9 : decode cX1_init 9 = .ok (.putfield 11, 3) := by decide +kernel
theorem dX1_init_12 : decode cX1_init 12 = .ok (.aload_n 0, 1) := by decide +kernel
theorem dX1_init_13 : decode cX1_init 13 = .ok (.iconst 0, 1) := by decide +kernel
theorem dX1_init_14 : decode cX1_init 14 = .ok (.putfield 15, 3) := by decide +kernel
theorem dX1_init_17 : decode cX1_init 17 = .ok (.return_, 1) := by decide +kernel
theorem dX1_clear_0 : decode cX1_clear 0 = .ok (.aload_n 0, 1) := by decide +kernel
theorem dX1_clear_1 : decode cX1_clear 1 = .ok (.iconst 0, 1) := by decide +kernel
theorem dX1_clear_2 : decode cX1_clear 2 = .ok (.putfield 15, 3) := by decide +kernel
theorem dX1_clear_5 : decode cX1_clear 5 = .ok (.return_, 1) := by decide +kernel
set_option maxRecDepth 20000 in
theorem ggX1_add_J7_copyOf_59c91 : GoodIn wsX1_add wsJ7_copyOf_59c91 := goodIn_r _ [10, 11, 12, 13, 14, 15, 16, 17, 18, 4, 5, 6, 19, 20, 21, 22] (by decide +kernel) (by decide +kernel)
set_option maxRecDepth 20000 in
theorem gX1_add_J7_copyOf_59c91 : GoodIn wsX1_add (va_wsS RX1 25 yJ7_copyOf_59c91 wsJ7_copyOf_59c91) := goodIn_app (goodIn_of _ (by decide +kernel)) ggX1_add_J7_copyOf_59c91
theorem dX1_add_0 : decode cX1_add 0 = .ok (.aload_n 0, 1) := by decide +kernel
theorem dX1_add_1 : decode cX1_add 1 = .ok (.getfield 15, 3) := by decide +kernel
theorem dX1_add_4 : decode cX1_add 4 = .ok (.aload_n 0, 1) := by decide +kernel
theorem dX1_add_5 : decode cX1_add 5 = .ok (.getfield 11, 3) := by decide +kernel
theorem dX1_add_8 : decode cX1_add 8 = .ok (.arraylength, 1) := by decide +kernel
theorem dX1_add_9 : decode cX1_add 9 = .ok (.if_icmp .lt 38, 3) := by decide +kernel
theorem dX1_add_12 : decode cX1_add 12 = .ok (.aload_n 0, 1) := by decide +kernel
theorem dX1_add_13 : decode cX1_add 13 = .ok (.getfield 11, 3) := by decide +kernel
theorem dX1_add_16 : decode cX1_add 16 = .ok (.arraylength, 1) := by decide +kernel
theorem dX1_add_17 : decode cX1_add 17 = .ok (.sipush 16000, 3) := by decide +kernel
theorem dX1_add_20 : decode cX1_add 20 = .ok (.if_icmp .ge 27, 3) := by decide +kernel
theorem dX1_add_23 : decode cX1_add 23 = .ok (.aload_n 0, 1) := by decide +kernel
theorem dX1_add_24 : decode cX1_add 24 = .ok (.aload_n 0, 1) := by decide +kernel
theorem dX1_add_25 : decode cX1_add 25 = .ok (.getfield 11, 3) := by decide +kernel
theorem dX1_add_28 : decode cX1_add 28 = .ok (.iconst 2, 1) := by decide +kernel
theorem dX1_add_29 : decode cX1_add 29 = .ok (.aload_n 0, 1) := by decide +kernel
theorem dX1_add_30 : decode cX1_add 30 = .ok (.getfield 11, 3) := by decide +kernel
theorem dX1_add_33 : decode cX1_add 33 = .ok (.arraylength, 1) := by decide +kernel
theorem dX1_add_34 : decode cX1_add 34 = .ok (.imul, 1) := by decide +kernel
theorem dX1_add_35 : decode cX1_add 35 = .ok (.sipush 16000, 3) := by decide +kernel
theorem dX1_add_38 : decode cX1_add 38 = .ok (.invokestatic 19, 3) := by decide +kernel
theorem dX1_add_41 : decode cX1_add 41 = .ok (.invokestatic 25, 3) := by decide +kernel
theorem dX1_add_44 : decode cX1_add 44 = .ok (.putfield 11, 3) := by decide +kernel
theorem dX1_add_47 : decode cX1_add 47 = .ok (.aload_n 0, 1) := by decide +kernel
theorem dX1_add_48 : decode cX1_add 48 = .ok (.getfield 15, 3) := by decide +kernel
theorem dX1_add_51 : decode cX1_add 51 = .ok (.ifCond .lt 35, 3) := by decide +kernel
theorem dX1_add_54 : decode cX1_add 54 = .ok (.aload_n 0, 1) := by decide +kernel
theorem dX1_add_55 : decode cX1_add 55 = .ok (.getfield 15, 3) := by decide +kernel
theorem dX1_add_58 : decode cX1_add 58 = .ok (.aload_n 0, 1) := by decide +kernel
theorem dX1_add_59 : decode cX1_add 59 = .ok (.getfield 11, 3) := by decide +kernel
theorem dX1_add_62 : decode cX1_add 62 = .ok (.arraylength, 1) := by decide +kernel
theorem dX1_add_63 : decode cX1_add 63 = .ok (.if_icmp .ge 23, 3) := by decide +kernel
theorem dX1_add_66 : decode cX1_add 66 = .ok (.aload_n 0, 1) := by decide +kernel
theorem dX1_add_67 : decode cX1_add 67 = .ok (.getfield 11, 3) := by decide +kernel
theorem dX1_add_70 : decode cX1_add 70 = .ok (.aload_n 0, 1) := by decide +kernel
theorem dX1_add_71 : decode cX1_add 71 = .ok (.getfield 15, 3) := by decide +kernel
theorem dX1_add_74 : decode cX1_add 74 = .ok (.iload_n 1, 1) := by decide +kernel
theorem dX1_add_75 : decode cX1_add 75 = .ok (.iastore, 1) := by decide +kernel
theorem dX1_add_76 : decode cX1_add 76 = .ok (.aload_n 0, 1) := by decide +kernel
theorem dX1_add_77 : decode cX1_add 77 = .ok (.dup, 1) := by decide +kernel
theorem dX1_add_78 : decode cX1_add 78 = .ok (.getfield 15, 3) := by decide +kernel
theorem dX1_add_81 : decode cX1_add 81 = .ok (.iconst 1, 1) := by decide +kernel
theorem dX1_add_82 : decode cX1_add 82 = .ok (.iadd, 1) := by decide +kernel
theorem dX1_add_83 : decode cX1_add 83 = .ok (.putfield 15, 3) := by decide +kernel
theorem dX1_add_86 : decode cX1_add 86 = .ok (.return_, 1) := by decide +kernel
theorem dX1_get_0 : decode cX1_get 0 = .ok (.iload_n 1, 1) := by decide +kernel
theorem dX1_get_1 : decode cX1_get 1 = .ok (.ifCond .lt 29, 3) := by decide +kernel
theorem dX1_get_4 : decode cX1_get 4 = .ok (.iload_n 1, 1) := by decide +kernel
theorem dX1_get_5 : decode cX1_get 5 = .ok (.aload_n 0, 1) := by decide +kernel
theorem dX1_get_6 : decode cX1_get 6 = .ok (.getfield 15, 3) := by decide +kernel
theorem dX1_get_9 : decode cX1_get 9 = .ok (.if_icmp .ge 21, 3) := by decide +kernel
theorem dX1_get_12 : decode cX1_get 12 = .ok (.iload_n 1, 1) := by decide +kernel
theorem dX1_get_13 : decode cX1_get 13 = .ok (.aload_n 0, 1) := by decide +kernel
theorem dX1_get_14 : decode cX1_get 14 = .ok (.getfield 11, 3) := by decide +kernel
theorem dX1_get_17 : decode cX1_get 17 = .ok (.arraylength, 1) := by decide +kernel
theorem dX1_get_18 : decode cX1_get 18 = .ok (.if_icmp .ge 12, 3) := by decide +kernel
theorem dX1_get_21 : decode cX1_get 21 = .ok (.aload_n 0, 1) := by decide +kernel
theorem dX1_get_22 : decode cX1_get 22 = .ok (.getfield 11, 3) := by decide +kernel
theorem dX1_get_25 : decode cX1_get 25 = .ok (.iload_n 1, 1) := by decide +kernel
theorem dX1_get_26 : decode cX1_get 26 = .ok (.iaload, 1) := by decide +kernel
theorem dX1_get_27 : decode cX1_get 27 = .ok (.goto 4, 3) := by decide +kernel
theorem dX1_get_30 : decode cX1_get 30 = .ok (.iconst (-1), 1) := by decide +kernel
theorem dX1_get_31 : decode cX1_get 31 = .ok (.ireturn, 1) := by decide +kernel
theorem dX1_hasAny_0 : decode cX1_hasAny 0 = .ok (.iload_n 1, 1) := by decide +kernel
theorem dX1_hasAny_1 : decode cX1_hasAny 1 = .ok (.ifCond .lt 35, 3) := by decide +kernel
theorem dX1_hasAny_4 : decode cX1_hasAny 4 = .ok (.iload_n 1, 1) := by decide +kernel
theorem dX1_hasAny_5 : decode cX1_hasAny 5 = .ok (.aload_n 0, 1) := by decide +kernel
theorem dX1_hasAny_6 : decode cX1_hasAny 6 = .ok (.getfield 15, 3) := by decide +kernel
theorem dX1_hasAny_9 : decode cX1_hasAny 9 = .ok (.if_icmp .ge 27, 3) := by decide +kernel
theorem dX1_hasAny_12 : decode cX1_hasAny 12 = .ok (.iload_n 1, 1) := by decide +kernel
theorem dX1_hasAny_13 : decode cX1_hasAny 13 = .ok (.aload_n 0, 1) := by decide +kernel
theorem dX1_hasAny_14 : decode cX1_hasAny 14 = .ok (.getfield 11, 3) := by decide +kernel
theorem dX1_hasAny_17 : decode cX1_hasAny 17 = .ok (.arraylength, 1) := by decide +kernel
theorem dX1_hasAny_18 : decode cX1_hasAny 18 = .ok (.if_icmp .ge 18, 3) := by decide +kernel
theorem dX1_hasAny_21 : decode cX1_hasAny 21 = .ok (.aload_n 0, 1) := by decide +kernel
theorem dX1_hasAny_22 : decode cX1_hasAny 22 = .ok (.getfield 11, 3) := by decide +kernel
theorem dX1_hasAny_25 : decode cX1_hasAny 25 = .ok (.iload_n 1, 1) := by decide +kernel
theorem dX1_hasAny_26 : decode cX1_hasAny 26 = .ok (.iaload, 1) := by decide +kernel
theorem dX1_hasAny_27 : decode cX1_hasAny 27 = .ok (.iload_n 2, 1) := by decide +kernel
theorem dX1_hasAny_28 : decode cX1_hasAny 28 = .ok (.iand, 1) := by decide +kernel
theorem dX1_hasAny_29 : decode cX1_hasAny 29 = .ok (.ifCond .eq 7, 3) := by decide +kernel
theorem dX1_hasAny_32 : decode cX1_hasAny 32 = .ok (.iconst 1, 1) := by decide +kernel
theorem dX1_hasAny_33 : decode cX1_hasAny 33 = .ok (.goto 4, 3) := by decide +kernel
theorem dX1_hasAny_36 : decode cX1_hasAny 36 = .ok (.iconst 0, 1) := by decide +kernel
theorem dX1_hasAny_37 : decode cX1_hasAny 37 = .ok (.ireturn, 1) := by decide +kernel
set_option maxRecDepth 20000 in
theorem ggX2_init_X1_init : GoodIn wsX2_init wsX1_init := goodIn_r _ [10, 11, 2, 3, 12, 13, 14, 15, 16] (by decide +kernel) (by decide +kernel)
set_option maxRecDepth 20000 in
theorem gX2_init_X1_init_n11 : GoodIn wsX2_init (wsX1_init) := ggX2_init_X1_init
theorem dX2_init_0 : decode cX2_init 0 = .ok (.aload_n 0, 1) := by decide +kernel
theorem dX2_init_1 : decode cX2_init 1 = .ok (.invokespecial 3, 3) := by decide +kernel
theorem dX2_init_4 : decode cX2_init 4 = .ok (.aload_n 0, 1) := by decide +kernel
theorem dX2_init_5 : decode cX2_init 5 = .ok (.new 9, 3) := by decide +kernel
theorem dX2_init_8 : decode cX2_init 8 = .ok (.dup, 1) := by decide +kernel
theorem dX2_init_9 : decode cX2_init 9 = .ok (.invokespecial 11, 3) := by decide +kernel
theorem dX2_init_12 : decode cX2_init 12 = .ok (.putfield 12, 3) := by decide +kernel
theorem dX2_init_15 : decode cX2_init 15 = .ok (.aload_n 0, 1) := by decide +kernel
theorem dX2_init_16 : decode cX2_init 16 = .ok (.iconst 0, 1) := by decide +kernel
theorem dX2_init_17 : decode cX2_init 17 = .ok (.putfield 18, 3) := by decide +kernel
theorem dX2_init_20 : decode cX2_init 20 = .ok (.return_, 1) := by decide +kernel
set_option maxRecDepth 20000 in
theorem ggX2_clear_X1_clear : GoodIn wsX2_clear wsX1_clear := goodIn_r _ [7, 8, 11, 12] (by decide +kernel) (by decide +kernel)
set_option maxRecDepth 20000 in
theorem gX2_clear_X1_clear : GoodIn wsX2_clear (wsV RX2 22 RX1 yX1_clear wsX1_clear) := goodIn_app (goodIn_of _ (by decide +kernel)) ggX2_clear_X1_clear
theorem dX2_clear_0 : decode cX2_clear 0 = .ok (.aload_n 0, 1) := by decide +kernel
theorem dX2_clear_1 : decode cX2_clear 1 = .ok (.getfield 12, 3) := by decide +kernel
theorem dX2_clear_4 : decode cX2_clear 4 = .ok (.invokevirtual 22, 3) := by decide +kernel
theorem dX2_clear_7 : decode cX2_clear 7 = .ok (.aload_n 0, 1) := by decide +kernel
theorem dX2_clear_8 : decode cX2_clear 8 = .ok (.iconst 0, 1) := by decide +kernel
theorem dX2_clear_9 : decode cX2_clear 9 = .ok (.putfield 18, 3) := by decide +kernel
theorem dX2_clear_12 : decode cX2_clear 12 = .ok (.return_, 1) := by decide +kernel
set_option maxRecDepth 20000 in
theorem ggX2_addFour_X1_add : GoodIn wsX2_addFour wsX1_add := goodIn_r _ [7, 8, 9, 10, 11, 12, 13, 14, 15, 16, 17, 18, 19, 20, 21, 22, 23, 24, 25, 26, 27, 28, 29, 32, 33] (by decide +kernel) (by decide +kernel)
set_option maxRecDepth 20000 in
theorem gX2_addFour_X1_add : GoodIn wsX2_addFour (wsV RX2 25 RX1 yX1_add wsX1_add) := goodIn_app (goodIn_of _ (by decide +kernel)) ggX2_addFour_X1_add
theorem dX2_addFour_0 : decode cX2_addFour 0 = .ok (.aload_n 0, 1) := by decide +kernel
theorem dX2_addFour_1 : decode cX2_addFour 1 = .ok (.getfield 12, 3) := by decide +kernel
theorem dX2_addFour_4 : decode cX2_addFour 4 = .ok (.iload_n 1, 1) := by decide +kernel
theorem dX2_addFour_5 : decode cX2_addFour 5 = .ok (.invokevirtual 25, 3) := by decide +kernel
theorem dX2_addFour_8 : decode cX2_addFour 8 = .ok (.aload_n 0, 1) := by decide +kernel
theorem dX2_addFour_9 : decode cX2_addFour 9 = .ok (.dup, 1) := by decide +kernel
theorem dX2_addFour_10 : decode cX2_addFour 10 = .ok (.getfield 18, 3) := by decide +kernel
theorem dX2_addFour_13 : decode cX2_addFour 13 = .ok (.iconst 4, 1) := by decide +kernel
theorem dX2_addFour_14 : decode cX2_addFour 14 = .ok (.iadd, 1) := by decide +kernel
theorem dX2_addFour_15 : decode cX2_addFour 15 = .ok (.putfield 18, 3) := by decide +kernel
theorem dX2_addFour_18 : decode cX2_addFour 18 = .ok (.return_, 1) := by decide +kernel
set_option maxRecDepth 20000 in
theorem ggX2_takeOver_X2_clear : GoodIn wsX2_takeOver wsX2_clear := goodIn_r _ [7, 1, 2, 8, 9, 10, 11, 12, 13, 14, 15, 16, 17] (by decide +kernel) (by decide +kernel)
set_option maxRecDepth 20000 in
theorem gX2_takeOver_X2_clear : GoodIn wsX2_takeOver (wsV RX2 29 RX2 yX2_clear wsX2_clear) := goodIn_app (goodIn_of _ (by decide +kernel)) ggX2_takeOver_X2_clear
theorem dX2_takeOver_0 : decode cX2_takeOver 0 = .ok (.aload_n 0, 1) := by decide +kernel
theorem dX2_takeOver_1 : decode cX2_takeOver 1 = .ok (.getfield 12, 3) := by decide +kernel
theorem dX2_takeOver_4 : decode cX2_takeOver 4 = .ok (.astore_n 3, 1) := by decide +kernel
theorem dX2_takeOver_5 : decode cX2_takeOver 5 = .ok (.aload_n 0, 1) := by decide +kernel
theorem dX2_takeOver_6 : decode cX2_takeOver 6 = .ok (.aload_n 1, 1) := by decide +kernel
theorem dX2_takeOver_7 : decode cX2_takeOver 7 = .ok (.getfield 12, 3) := by decide +kernel
theorem dX2_takeOver_10 : decode cX2_takeOver 10 = .ok (.putfield 12, 3) := by decide +kernel
theorem dX2_takeOver_13 : decode cX2_takeOver 13 = .ok (.aload_n 0, 1) := by decide +kernel
theorem dX2_takeOver_14 : decode cX2_takeOver 14 = .ok (.iload_n 2, 1) := by decide +kernel
theorem dX2_takeOver_15 : decode cX2_takeOver 15 = .ok (.putfield 18, 3) := by decide +kernel
theorem dX2_takeOver_18 : decode cX2_takeOver 18 = .ok (.aload_n 1, 1) := by decide +kernel
theorem dX2_takeOver_19 : decode cX2_takeOver 19 = .ok (.aload_n 3, 1) := by decide +kernel
theorem dX2_takeOver_20 : decode cX2_takeOver 20 = .ok (.putfield 12, 3) := by decide +kernel
theorem dX2_takeOver_23 : decode cX2_takeOver 23 = .ok (.aload_n 1, 1) := by decide +kernel
theorem dX2_takeOver_24 : decode cX2_takeOver 24 = .ok (.invokevirtual 29, 3) := by decide +kernel
theorem dX2_takeOver_27 : decode cX2_takeOver 27 = .ok (.return_, 1) := by decide +kernel
theorem dX2_at_0 : decode cX2_at 0 = .ok (.aload_n 0, 1) := by decide +kernel
theorem dX2_at_1 : decode cX2_at 1 = .ok (.getfield 12, 3) := by decide +kernel
theorem dX2_at_4 : decode cX2_at 4 = .ok (.getfield 30, 3) := by decide +kernel
theorem dX2_at_7 : decode cX2_at 7 = .ok (.astore_n 2, 1) := by decide +kernel
theorem dX2_at_8 : decode cX2_at 8 = .ok (.iload_n 1, 1) := by decide +kernel
theorem dX2_at_9 : decode cX2_at 9 = .ok (.iconst 2, 1) := by decide +kernel
theorem dX2_at_10 : decode cX2_at 10 = .ok (.ishr, 1) := by decide +kernel
theorem dX2_at_11 : decode cX2_at 11 = .ok (.istore_n 3, 1) := by decide +kernel
theorem dX2_at_12 : decode cX2_at 12 = .ok (.iload_n 1, 1) := by decide +kernel
theorem dX2_at_13 : decode cX2_at 13 = .ok (.ifCond .lt 17, 3) := by decide +kernel
theorem dX2_at_16 : decode cX2_at 16 = .ok (.iload_n 1, 1) := by decide +kernel
theorem dX2_at_17 : decode cX2_at 17 = .ok (.aload_n 0, 1) := by decide +kernel
theorem dX2_at_18 : decode cX2_at 18 = .ok (.getfield 18, 3) := by decide +kernel
theorem dX2_at_21 : decode cX2_at 21 = .ok (.if_icmp .ge 9, 3) := by decide +kernel
theorem dX2_at_24 : decode cX2_at 24 = .ok (.iload_n 3, 1) := by decide +kernel
theorem dX2_at_25 : decode cX2_at 25 = .ok (.aload_n 2, 1) := by decide +kernel
theorem dX2_at_26 : decode cX2_at 26 = .ok (.arraylength, 1) := by decide +kernel
theorem dX2_at_27 : decode cX2_at 27 = .ok (.if_icmp .lt 5, 3) := by decide +kernel
theorem dX2_at_30 : decode cX2_at 30 = .ok (.iconst (-1), 1) := by decide +kernel
theorem dX2_at_31 : decode cX2_at 31 = .ok (.ireturn, 1) := by decide +kernel
theorem dX2_at_32 : decode cX2_at 32 = .ok (.aload_n 2, 1) := by decide +kernel
theorem dX2_at_33 : decode cX2_at 33 = .ok (.iload_n 3, 1) := by decide +kernel
theorem dX2_at_34 : decode cX2_at 34 = .ok (.iaload, 1) := by decide +kernel
theorem dX2_at_35 : decode cX2_at 35 = .ok (.bipush 24, 2) := by decide +kernel
theorem dX2_at_37 : decode cX2_at 37 = .ok (.bipush 8, 2) := by decide +kernel
theorem dX2_at_39 : decode cX2_at 39 = .ok (.iload_n 1, 1) := by decide +kernel
theorem dX2_at_40 : decode cX2_at 40 = .ok (.iconst 3, 1) := by decide +kernel
theorem dX2_at_41 : decode cX2_at 41 = .ok (.iand, 1) := by decide +kernel
theorem dX2_at_42 : decode cX2_at 42 = .ok (.imul, 1) := by decide +kernel
theorem dX2_at_43 : decode cX2_at 43 = .ok (.isub, 1) := by decide +kernel
theorem dX2_at_44 : decode cX2_at 44 = .ok (.iushr, 1) := by decide +kernel
theorem dX2_at_45 : decode cX2_at 45 = .ok (.sipush 255, 3) := by decide +kernel
theorem dX2_at_48 : decode cX2_at 48 = .ok (.iand, 1) := by decide +kernel
theorem dX2_at_49 : decode cX2_at 49 = .ok (.ireturn, 1) := by decide +kernel
set_option maxRecDepth 20000 in
theorem ggX3_init_X1_init : GoodIn wsX3_init wsX1_init := goodIn_r _ [14, 15, 2, 3, 16, 17, 18, 19, 20] (by decide +kernel) (by decide +kernel)
set_option maxRecDepth 20000 in
theorem gX3_init_X1_init_n11 : GoodIn wsX3_init (wsX1_init) := ggX3_init_X1_init
theorem dX3_init_0 : decode cX3_init 0 = .ok (.aload_n 0, 1) := by decide +kernel
theorem dX3_init_1 : decode cX3_init 1 = .ok (.invokespecial 3, 3) := by decide +kernel
theorem dX3_init_4 : decode cX3_init 4 = .ok (.aload_n 0, 1) := by decide +kernel
theorem dX3_init_5 : decode cX3_init 5 = .ok (.new 9, 3) := by decide +kernel
theorem dX3_init_8 : decode cX3_init 8 = .ok (.dup, 1) := by decide +kernel
theorem dX3_init_9 : decode cX3_init 9 = .ok (.invokespecial 11, 3) := by decide +kernel
theorem dX3_init_12 : decode cX3_init 12 = .ok (.putfield 12, 3) := by decide +kernel
theorem dX3_init_15 : decode cX3_init 15 = .ok (.aload_n 0, 1) := by decide +kernel
theorem dX3_init_16 : decode cX3_init 16 = .ok (.new 9, 3) := by decide +kernel
theorem dX3_init_19 : decode cX3_init 19 = .ok (.dup, 1) := by decide +kernel
theorem dX3_init_20 : decode cX3_init 20 = .ok (.invokespecial 11, 3) := by decide +kernel
theorem dX3_init_23 : decode cX3_init 23 = .ok (.putfield 18, 3) := by decide +kernel
theorem dX3_init_26 : decode cX3_init 26 = .ok (.aload_n 0, 1) := by decide +kernel
theorem dX3_init_27 : decode cX3_init 27 = .ok (.new 9, 3) := by decide +kernel
theorem dX3_init_30 : decode cX3_init 30 = .ok (.dup, 1) := by decide +kernel
theorem dX3_init_31 : decode cX3_init 31 = .ok (.invokespecial 11, 3) := by decide +kernel
theorem dX3_init_34 : decode cX3_init 34 = .ok (.putfield 21, 3) := by decide +kernel
theorem dX3_init_37 : decode cX3_init 37 = .ok (.aload_n 0, 1) := by decide +kernel
theorem dX3_init_38 : decode cX3_init 38 = .ok (.new 9, 3) := by decide +kernel
theorem dX3_init_41 : decode cX3_init 41 = .ok (.dup, 1) := by decide +kernel
theorem dX3_init_42 : decode cX3_init 42 = .ok (.invokespecial 11, 3) := by decide +kernel
theorem dX3_init_45 : decode cX3_init 45 = .ok (.putfield 24, 3) := by decide +kernel
theorem dX3_init_48 : decode cX3_init 48 = .ok (.aload_n 0, 1) := by decide +kernel
theorem dX3_init_49 : decode cX3_init 49 = .ok (.iconst (-1), 1) := by decide +kernel
theorem dX3_init_50 : decode cX3_init 50 = .ok (.putfield 27, 3) := by decide +kernel
theorem dX3_init_53 : decode cX3_init 53 = .ok (.aload_n 0, 1) := by decide +kernel
theorem dX3_init_54 : decode cX3_init 54 = .ok (.aload_n 1, 1) := by decide +kernel
theorem dX3_init_55 : decode cX3_init 55 = .ok (.putfield 31, 3) := by decide +kernel
theorem dX3_init_58 : decode cX3_init 58 = .ok (.return_, 1) := by decide +kernel
theorem dX3_count_0 : decode cX3_count 0 = .ok (.aload_n 0, 1) := by decide +kernel
theorem dX3_count_1 : decode cX3_count 1 = .ok (.getfield 12, 3) := by decide +kernel
theorem dX3_count_4 : decode cX3_count 4 = .ok (.getfield 35, 3) := by decide +kernel
theorem dX3_count_7 : decode cX3_count 7 = .ok (.ireturn, 1) := by decide +kernel
set_option maxRecDepth 20000 in
theorem ggX3_cut_X3_clear : GoodIn wsX3_cut wsX3_clear := goodIn_r _ [7, 8, 9, 10, 11, 2, 12, 13, 14, 15, 16, 17, 157, 158, 159, 160, 161, 162, 165, 166] (by decide +kernel) (by decide +kernel)
set_option maxRecDepth 20000 in
theorem gX3_cut_X3_clear : GoodIn wsX3_cut (wsV RX3 38 RX3 yX3_clear wsX3_clear) := goodIn_app (goodIn_of _ (by decide +kernel)) ggX3_cut_X3_clear
set_option maxRecDepth 20000 in
theorem ggX3_cut_X2_at : GoodIn wsX3_cut wsX2_at := goodIn_r _ [22, 23, 24, 163, 164, 165, 166] (by decide +kernel) (by decide +kernel)
set_option maxRecDepth 20000 in
theorem gX3_cut_X2_at : GoodIn wsX3_cut (wsV RX3 46 RX2 yX2_at wsX2_at) := goodIn_app (goodIn_of _ (by decide +kernel)) ggX3_cut_X2_at
set_option maxRecDepth 20000 in
theorem ggX3_cut_X3_isAllowed : GoodIn wsX3_cut wsX3_isAllowed := goodIn_r _ [27] (by decide +kernel) (by decide +kernel)
set_option maxRecDepth 20000 in
theorem gX3_cut_X3_isAllowed : GoodIn wsX3_cut (va_wsS RX3 50 yX3_isAllowed wsX3_isAllowed) := goodIn_app (goodIn_of _ (by decide +kernel)) ggX3_cut_X3_isAllowed
set_option maxRecDepth 20000 in
theorem ggX3_cut_X3_endWord : GoodIn wsX3_cut wsX3_endWord := goodIn_r _ [31, 2, 32, 33, 34, 6, 35, 1, 18, 19, 20, 21, 22, 23, 24, 36, 37, 38, 39, 40, 41, 42, 43, 44, 45, 46, 47, 48, 49, 50, 51, 52, 53, 54, 55, 56, 57, 58, 59, 60, 61, 62, 63, 64, 65, 66, 67, 68, 69, 70, 71, 72, 73, 74, 75, 76, 77, 78, 79, 80, 81, 82, 83, 84, 85, 86, 87, 88, 89, 90, 91, 92, 93, 94, 95, 96, 97, 98, 99, 100, 101, 102, 103, 8, 9, 10, 11, 104, 105, 106, 15, 107, 17, 108, 109, 110, 111, 112, 113, 114, 115, 116, 117, 118, 119, 120, 121, 122, 123, 124, 125, 126, 127, 128, 129, 130, 131, 132, 133, 134, 135, 136, 137, 138, 139, 140, 141, 142, 143, 144, 145, 146, 147, 148, 149, 150, 157, 158, 159, 160, 161, 162, 163, 164, 165, 166] (by decide +kernel) (by decide +kernel)
set_option maxRecDepth 20000 in
theorem gX3_cut_X3_endWord : GoodIn wsX3_cut (wsV RX3 54 RX3 yX3_endWord wsX3_endWord) := goodIn_app (goodIn_of _ (by decide +kernel)) ggX3_cut_X3_endWord
set_option maxRecDepth 20000 in
theorem ggX3_cut_X3_signKind : GoodIn wsX3_cut wsX3_signKind := goodIn_r _ [153] (by decide +kernel) (by decide +kernel)
set_option maxRecDepth 20000 in
theorem gX3_cut_X3_signKind : GoodIn wsX3_cut (va_wsS RX3 58 yX3_signKind wsX3_signKind) := goodIn_app (goodIn_of _ (by decide +kernel)) ggX3_cut_X3_signKind
set_option maxRecDepth 20000 in
theorem ggX3_cut_X3_isBlank : GoodIn wsX3_cut wsX3_isBlank := goodIn_r _ [156] (by decide +kernel) (by decide +kernel)
set_option maxRecDepth 20000 in
theorem gX3_cut_X3_isBlank : GoodIn wsX3_cut (va_wsS RX3 61 yX3_isBlank wsX3_isBlank) := goodIn_app (goodIn_of _ (by decide +kernel)) ggX3_cut_X3_isBlank
set_option maxRecDepth 20000 in
theorem ggX3_cut_X3_addToken : GoodIn wsX3_cut wsX3_addToken := goodIn_r _ [103, 8, 9, 10, 11, 104, 105, 106, 15, 107, 17, 108, 109, 110, 111, 112, 113, 114, 115, 116, 117, 118, 119, 120, 121, 122, 123, 124, 125, 126, 127, 128, 157, 158, 159, 160, 161, 162, 165, 166] (by decide +kernel) (by decide +kernel)
set_option maxRecDepth 20000 in
theorem gX3_cut_X3_addToken : GoodIn wsX3_cut (wsV RX3 64 RX3 yX3_addToken wsX3_addToken) := goodIn_app (goodIn_of _ (by decide +kernel)) ggX3_cut_X3_addToken
