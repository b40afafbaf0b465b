theorem inlX0 : ∀ w ∈ wsX00, w ∈ wsL_law := fun _ h => List.mem_append_left _ (List.mem_append_left _ (List.mem_append_left _ (List.mem_append_left _ (List.mem_append_left _ (List.mem_append_left _ (List.mem_append_left _ (List.mem_append_right _ h)))))))
theorem inX0 : ∀ w ∈ wsX00, w ∈ lw_tbl := fun w h => wsL_law_in w (inlX0 w h)
theorem inlX1 : ∀ w ∈ wsX10, w ∈ wsL_law := fun _ h => List.mem_append_left _ (List.mem_append_left _ (List.mem_append_left _ (List.mem_append_left _ (List.mem_append_left _ (List.mem_append_right _ h)))))
theorem inX1 : ∀ w ∈ wsX10, w ∈ lw_tbl := fun w h => wsL_law_in w (inlX1 w h)
theorem inlX2 : ∀ w ∈ wsX20, w ∈ wsL_law := fun _ h => List.mem_append_left _ (List.mem_append_left _ (List.mem_append_right _ h))
theorem inX2 : ∀ w ∈ wsX20, w ∈ lw_tbl := fun w h => wsL_law_in w (inlX2 w h)
theorem inlX3 : ∀ w ∈ wsX30, w ∈ wsL_law := fun _ h => List.mem_append_left _ (List.mem_append_left _ (List.mem_append_left _ (List.mem_append_left _ (List.mem_append_left _ (List.mem_append_left _ (List.mem_append_right _ h))))))
theorem inX3 : ∀ w ∈ wsX30, w ∈ lw_tbl := fun w h => wsL_law_in w (inlX3 w h)
theorem inlX4 : ∀ w ∈ wsX40, w ∈ wsL_law := fun _ h => List.mem_append_left _ (List.mem_append_left _ (List.mem_append_left _ (List.mem_append_right _ h)))
theorem inX4 : ∀ w ∈ wsX40, w ∈ lw_tbl := fun w h => wsL_law_in w (inlX4 w h)
theorem inlX5 : ∀ w ∈ wsX50, w ∈ wsL_law := fun _ h => List.mem_append_left _ (List.mem_append_right _ h)
theorem inX5 : ∀ w ∈ wsX50, w ∈ lw_tbl := fun w h => wsL_law_in w (inlX5 w h)
theorem inlX6 : ∀ w ∈ wsX60, w ∈ wsL_law := fun _ h => List.mem_append_left _ (List.mem_append_left _ (List.mem_append_left _ (List.mem_append_left _ (List.mem_append_right _ h))))
theorem inX6 : ∀ w ∈ wsX60, w ∈ lw_tbl := fun w h => wsL_law_in w (inlX6 w h)
theorem inlX7 : ∀ w ∈ wsX70, w ∈ wsL_law := fun _ h => List.mem_append_left _ (List.mem_append_left _ (List.mem_append_left _ (List.mem_append_left _ (List.mem_append_left _ (List.mem_append_left _ (List.mem_append_left _ (List.mem_append_left _ (List.mem_append_left _ (List.mem_append_right _ h)))))))))
theorem inX7 : ∀ w ∈ wsX70, w ∈ lw_tbl := fun w h => wsL_law_in w (inlX7 w h)
theorem inlX8 : ∀ w ∈ wsX80, w ∈ wsL_law := fun _ h => List.mem_append_left _ (List.mem_append_left _ (List.mem_append_left _ (List.mem_append_left _ (List.mem_append_left _ (List.mem_append_left _ (List.mem_append_left _ (List.mem_append_left _ (List.mem_append_right _ h))))))))
theorem inX8 : ∀ w ∈ wsX80, w ∈ lw_tbl := fun w h => wsL_law_in w (inlX8 w h)
theorem inJ9 : ∀ w ∈ wsJ90, w ∈ lw_tbl := by decide +kernel
theorem inJ10 : ∀ w ∈ wsJ100, w ∈ lw_tbl := by decide +kernel
theorem inJ7 : ∀ w ∈ wsJ70, w ∈ lw_tbl := by decide +kernel
set_option maxRecDepth 20000 in
theorem ggX0_init_X2_init : GoodIn wsX0_init wsX2_init := goodIn_r _ [17, 18, 2, 3, 19, 4, 20, 21, 30, 31] (by decide +kernel) (by decide +kernel)
set_option maxRecDepth 20000 in
theorem gX0_init_X2_init_n21 : GoodIn wsX0_init (wsX2_init) := ggX0_init_X2_init
theorem dX0_init_0 : decode cX0_init 0 = .ok (.aload_n 0, 1) := by decide +kernel
theorem dX0_init_1 : decode cX0_init 1 = .ok (.invokespecial 3, 3) := by decide +kernel
theorem dX0_init_4 : decode cX0_init 4 = .ok (.aload_n 0, 1) := by decide +kernel
theorem dX0_init_5 : decode cX0_init 5 = .ok (.bipush 61, 2) := by decide +kernel
theorem dX0_init_7 : decode cX0_init 7 = .ok (.newarray .int, 2) := by decide +kernel
theorem dX0_init_9 : decode cX0_init 9 = .ok (.putfield 9, 3) := by decide +kernel
theorem dX0_init_12 : decode cX0_init 12 = .ok (.aload_n 0, 1) := by decide +kernel
theorem dX0_init_13 : decode cX0_init 13 = .ok (.iconst 0, 1) := by decide +kernel
theorem dX0_init_14 : decode cX0_init 14 = .ok (.putfield 15, 3) := by decide +kernel
theorem dX0_init_17 : decode cX0_init 17 = .ok (.aload_n 0, 1) := by decide +kernel
theorem dX0_init_18 : decode cX0_init 18 = .ok (.new 19, 3) := by decide +kernel
theorem dX0_init_21 : decode cX0_init 21 = .ok (.dup, 1) := by decide +kernel
theorem dX0_init_22 : decode cX0_init 22 = .ok (.invokespecial 21, 3) := by decide +kernel
theorem dX0_init_25 : decode cX0_init 25 = .ok (.putfield 22, 3) := by decide +kernel
theorem dX0_init_28 : decode cX0_init 28 = .ok (.aload_n 0, 1) := by decide +kernel
theorem dX0_init_29 : decode cX0_init 29 = .ok (.iconst 0, 1) := by decide +kernel
theorem dX0_init_30 : decode cX0_init 30 = .ok (.putfield 26, 3) := by decide +kernel
theorem dX0_init_33 : decode cX0_init 33 = .ok (.aload_n 0, 1) := by decide +kernel
theorem dX0_init_34 : decode cX0_init 34 = .ok (.iconst 0, 1) := by decide +kernel
theorem dX0_init_35 : decode cX0_init 35 = .ok (.putfield 29, 3) := by decide +kernel
theorem dX0_init_38 : decode cX0_init 38 = .ok (.aload_n 0, 1) := by decide +kernel
theorem dX0_init_39 : decode cX0_init 39 = .ok (.iconst 0, 1) := by decide +kernel
theorem dX0_init_40 : decode cX0_init 40 = .ok (.putfield 32, 3) := by decide +kernel
theorem dX0_init_43 : decode cX0_init 43 = .ok (.aload_n 0, 1) := by decide +kernel
theorem dX0_init_44 : decode cX0_init 44 = .ok (.iconst 0, 1) := by decide +kernel
theorem dX0_init_45 : decode cX0_init 45 = .ok (.putfield 35, 3) := by decide +kernel
theorem dX0_init_48 : decode cX0_init 48 = .ok (.aload_n 0, 1) := by decide +kernel
theorem dX0_init_49 : decode cX0_init 49 = .ok (.iconst 0, 1) := by decide +kernel
theorem dX0_init_50 : decode cX0_init 50 = .ok (.putfield 38, 3) := by decide +kernel
theorem dX0_init_53 : decode cX0_init 53 = .ok (.return_, 1) := by decide +kernel
theorem dX0_add_0 : decode cX0_add 0 = .ok (.aload_n 0, 1) := by decide +kernel
theorem dX0_add_1 : decode cX0_add 1 = .ok (.getfield 15, 3) := by decide +kernel
theorem dX0_add_4 : decode cX0_add 4 = .ok (.bipush 61, 2) := by decide +kernel
theorem dX0_add_6 : decode cX0_add 6 = .ok (.if_icmp .lt 7, 3) := by decide +kernel
theorem dX0_add_9 : decode cX0_add 9 = .ok (.sipush (-1004), 3) := by decide +kernel
theorem dX0_add_12 : decode cX0_add 12 = .ok (.ireturn, 1) := by decide +kernel
theorem dX0_add_13 : decode cX0_add 13 = .ok (.aload_n 0, 1) := by decide +kernel
theorem dX0_add_14 : decode cX0_add 14 = .ok (.getfield 9, 3) := by decide +kernel
theorem dX0_add_17 : decode cX0_add 17 = .ok (.aload_n 0, 1) := by decide +kernel
theorem dX0_add_18 : decode cX0_add 18 = .ok (.getfield 15, 3) := by decide +kernel
theorem dX0_add_21 : decode cX0_add 21 = .ok (.iload_n 1, 1) := by decide +kernel
theorem dX0_add_22 : decode cX0_add 22 = .ok (.iastore, 1) := by decide +kernel
theorem dX0_add_23 : decode cX0_add 23 = .ok (.aload_n 0, 1) := by decide +kernel
theorem dX0_add_24 : decode cX0_add 24 = .ok (.dup, 1) := by decide +kernel
theorem dX0_add_25 : decode cX0_add 25 = .ok (.getfield 15, 3) := by decide +kernel
theorem dX0_add_28 : decode cX0_add 28 = .ok (.iconst 1, 1) := by decide +kernel
theorem dX0_add_29 : decode cX0_add 29 = .ok (.iadd, 1) := by decide +kernel
theorem dX0_add_30 : decode cX0_add 30 = .ok (.putfield 15, 3) := by decide +kernel
theorem dX0_add_33 : decode cX0_add 33 = .ok (.aload_n 0, 1) := by decide +kernel
theorem dX0_add_34 : decode cX0_add 34 = .ok (.getfield 15, 3) := by decide +kernel
theorem dX0_add_37 : decode cX0_add 37 = .ok (.ireturn, 1) := by decide +kernel
set_option maxRecDepth 20000 in
theorem ggX0_isComplete_X0_findError : GoodIn wsX0_isComplete wsX0_findError := goodIn_r _ [7, 8, 9, 2, 1, 10, 11, 12, 13, 14, 15, 16, 17, 18, 19, 20, 21, 22, 23, 24, 6, 25, 26, 27, 28, 29, 30, 31, 32, 33, 34, 35, 36, 37, 38, 39, 40, 41, 42, 43, 44, 45, 46, 47, 48, 49, 50, 51, 52, 53, 54, 55, 56, 57, 58, 59, 60, 61, 62, 63, 64, 65, 66, 67, 68, 69, 70, 71, 72, 73, 74] (by decide +kernel) (by decide +kernel)
set_option maxRecDepth 20000 in
theorem gX0_isComplete_X0_findError : GoodIn wsX0_isComplete (wsV RX0 41 RX0 yX0_findError wsX0_findError) := goodIn_app (goodIn_of _ (by decide +kernel)) ggX0_isComplete_X0_findError
theorem dX0_isComplete_0 : decode cX0_isComplete 0 = .ok (.aload_n 0, 1) := by decide +kernel
theorem dX0_isComplete_1 : decode cX0_isComplete 1 = .ok (.invokevirtual 41, 3) := by decide +kernel
theorem dX0_isComplete_4 : decode cX0_isComplete 4 = .ok (.aload_n 0, 1) := by decide +kernel
theorem dX0_isComplete_5 : decode cX0_isComplete 5 = .ok (.getfield 15, 3) := by decide +kernel
theorem dX0_isComplete_8 : decode cX0_isComplete 8 = .ok (.if_icmp .ne 23, 3) := by decide +kernel
theorem dX0_isComplete_11 : decode cX0_isComplete 11 = .ok (.aload_n 0, 1) := by decide +kernel
theorem dX0_isComplete_12 : decode cX0_isComplete 12 = .ok (.getfield 32, 3) := by decide +kernel
theorem dX0_isComplete_15 : decode cX0_isComplete 15 = .ok (.iconst 1, 1) := by decide +kernel
theorem dX0_isComplete_16 : decode cX0_isComplete 16 = .ok (.if_icmp .eq 11, 3) := by decide +kernel
theorem dX0_isComplete_19 : decode cX0_isComplete 19 = .ok (.aload_n 0, 1) := by decide +kernel
theorem dX0_isComplete_20 : decode cX0_isComplete 20 = .ok (.getfield 32, 3) := by decide +kernel
theorem dX0_isComplete_23 : decode cX0_isComplete 23 = .ok (.iconst 5, 1) := by decide +kernel
theorem dX0_isComplete_24 : decode cX0_isComplete 24 = .ok (.if_icmp .ne 7, 3) := by decide +kernel
theorem dX0_isComplete_27 : decode cX0_isComplete 27 = .ok (.iconst 1, 1) := by decide +kernel
theorem dX0_isComplete_28 : decode cX0_isComplete 28 = .ok (.goto 4, 3) := by decide +kernel
theorem dX0_isComplete_31 : decode cX0_isComplete 31 = .ok (.iconst 0, 1) := by decide +kernel
theorem dX0_isComplete_32 : decode cX0_isComplete 32 = .ok (.ireturn, 1) := by decide +kernel
set_option maxRecDepth 20000 in
theorem ggX0_findError_X2_clear : GoodIn wsX0_findError wsX2_clear := goodIn_r _ [10, 11, 12, 13, 14, 15, 16, 69, 70] (by decide +kernel) (by decide +kernel)
set_option maxRecDepth 20000 in
theorem gX0_findError_X2_clear : GoodIn wsX0_findError (wsV RX0 45 RX2 yX2_clear wsX2_clear) := goodIn_app (goodIn_of _ (by decide +kernel)) ggX0_findError_X2_clear
set_option maxRecDepth 20000 in
theorem ggX0_findError_X0_accepts : GoodIn wsX0_findError wsX0_accepts := goodIn_r _ [21, 3, 22, 23, 24, 20, 25, 26, 27, 28, 29, 30, 2, 31, 32, 33, 34, 35, 36, 37, 38, 39, 1, 40, 41, 42, 43, 9, 44, 11, 45, 46, 47, 48, 49, 50, 51, 52, 53, 54, 55, 56, 57, 58, 59, 60, 12, 61, 62, 63, 64, 65, 66, 67, 68, 69, 70] (by decide +kernel) (by decide +kernel)
set_option maxRecDepth 20000 in
theorem gX0_findError_X0_accepts : GoodIn wsX0_findError (wsV RX0 48 RX0 yX0_accepts wsX0_accepts) := goodIn_app (goodIn_of _ (by decide +kernel)) ggX0_findError_X0_accepts
theorem dX0_findError_0 : decode cX0_findError 0 = .ok (.aload_n 0, 1) := by decide +kernel
theorem dX0_findError_1 : decode cX0_findError 1 = .ok (.getfield 22, 3) := by decide +kernel
theorem dX0_findError_4 : decode cX0_findError 4 = .ok (.invokevirtual 45, 3) := by decide +kernel
theorem dX0_findError_7 : decode cX0_findError 7 = .ok (.aload_n 0, 1) := by decide +kernel
theorem dX0_findError_8 : decode cX0_findError 8 = .ok (.iconst 0, 1) := by decide +kernel
theorem dX0_findError_9 : decode cX0_findError 9 = .ok (.putfield 29, 3) := by decide +kernel
theorem dX0_findError_12 : decode cX0_findError 12 = .ok (.aload_n 0, 1) := by decide +kernel
theorem dX0_findError_13 : decode cX0_findError 13 = .ok (.iconst 0, 1) := by decide +kernel
theorem dX0_findError_14 : decode cX0_findError 14 = .ok (.putfield 32, 3) := by decide +kernel
theorem dX0_findError_17 : decode cX0_findError 17 = .ok (.iconst 0, 1) := by decide +kernel
theorem dX0_findError_18 : decode cX0_findError 18 = .ok (.istore_n 1, 1) := by decide +kernel
theorem dX0_findError_19 : decode cX0_findError 19 = .ok (.iload_n 1, 1) := by decide +kernel
theorem dX0_findError_20 : decode cX0_findError 20 = .ok (.aload_n 0, 1) := by decide +kernel
theorem dX0_findError_21 : decode cX0_findError 21 = .ok (.getfield 15, 3) := by decide +kernel
theorem dX0_findError_24 : decode cX0_findError 24 = .ok (.if_icmp .ge 24, 3) := by decide +kernel
theorem dX0_findError_27 : decode cX0_findError 27 = .ok (.aload_n 0, 1) := by decide +kernel
theorem dX0_findError_28 : decode cX0_findError 28 = .ok (.aload_n 0, 1) := by decide +kernel
theorem dX0_findError_29 : decode cX0_findError 29 = .ok (.getfield 9, 3) := by decide +kernel
theorem dX0_findError_32 : decode cX0_findError 32 = .ok (.iload_n 1, 1) := by decide +kernel
theorem dX0_findError_33 : decode cX0_findError 33 = .ok (.iaload, 1) := by decide +kernel
theorem dX0_findError_34 : decode cX0_findError 34 = .ok (.invokevirtual 48, 3) := by decide +kernel
theorem dX0_findError_37 : decode cX0_findError 37 = .ok (.ifCond .ne 5, 3) := by decide +kernel
theorem dX0_findError_40 : decode cX0_findError 40 = .ok (.iload_n 1, 1) := by decide +kernel
theorem dX0_findError_41 : decode cX0_findError 41 = .ok (.ireturn, 1) := by decide +kernel
theorem dX0_findError_42 : decode cX0_findError 42 = .ok (.iinc 1 1, 3) := by decide +kernel
theorem dX0_findError_45 : decode cX0_findError 45 = .ok (.goto (-26), 3) := by decide +kernel
theorem dX0_findError_48 : decode cX0_findError 48 = .ok (.aload_n 0, 1) := by decide +kernel
theorem dX0_findError_49 : decode cX0_findError 49 = .ok (.getfield 15, 3) := by decide +kernel
theorem dX0_findError_52 : decode cX0_findError 52 = .ok (.ireturn, 1) := by decide +kernel
set_option maxRecDepth 20000 in
theorem ggX0_accepts_X0_acceptsNodeCount : GoodIn wsX0_accepts wsX0_acceptsNodeCount := goodIn_r _ [6, 7, 1, 47, 48, 49, 50, 51, 52, 53, 54] (by decide +kernel) (by decide +kernel)
set_option maxRecDepth 20000 in
theorem gX0_accepts_X0_acceptsNodeCount : GoodIn wsX0_accepts (wsV RX0 52 RX0 yX0_acceptsNodeCount wsX0_acceptsNodeCount) := goodIn_app (goodIn_of _ (by decide +kernel)) ggX0_accepts_X0_acceptsNodeCount
set_option maxRecDepth 20000 in
theorem ggX0_accepts_X0_acceptsLinkMark : GoodIn wsX0_accepts wsX0_acceptsLinkMark := goodIn_r _ [11, 12, 1, 47, 48, 49, 50, 51, 52, 53, 54] (by decide +kernel) (by decide +kernel)
set_option maxRecDepth 20000 in
theorem gX0_accepts_X0_acceptsLinkMark : GoodIn wsX0_accepts (wsV RX0 55 RX0 yX0_acceptsLinkMark wsX0_acceptsLinkMark) := goodIn_app (goodIn_of _ (by decide +kernel)) ggX0_accepts_X0_acceptsLinkMark
set_option maxRecDepth 20000 in
theorem ggX0_accepts_X0_acceptsFirstNode : GoodIn wsX0_accepts wsX0_acceptsFirstNode := goodIn_r _ [16, 7, 17, 1, 47, 48, 49, 50, 51, 52, 53, 54] (by decide +kernel) (by decide +kernel)
set_option maxRecDepth 20000 in
theorem gX0_accepts_X0_acceptsFirstNode : GoodIn wsX0_accepts (wsV RX0 58 RX0 yX0_acceptsFirstNode wsX0_acceptsFirstNode) := goodIn_app (goodIn_of _ (by decide +kernel)) ggX0_accepts_X0_acceptsFirstNode
set_option maxRecDepth 20000 in
theorem ggX0_accepts_X0_acceptsSecondNode : GoodIn wsX0_accepts wsX0_acceptsSecondNode := goodIn_r _ [21, 17, 7, 22, 23, 1, 24, 25, 26, 27, 28, 29, 47, 48, 49, 50, 51, 52, 53, 54, 55, 56] (by decide +kernel) (by decide +kernel)
set_option maxRecDepth 20000 in
theorem gX0_accepts_X0_acceptsSecondNode : GoodIn wsX0_accepts (wsV RX0 61 RX0 yX0_acceptsSecondNode wsX0_acceptsSecondNode) := goodIn_app (goodIn_of _ (by decide +kernel)) ggX0_accepts_X0_acceptsSecondNode
set_option maxRecDepth 20000 in
theorem ggX0_accepts_X0_acceptsStrength : GoodIn wsX0_accepts wsX0_acceptsStrength := goodIn_r _ [33, 22, 17, 23, 1, 34, 35, 36, 27, 37, 29, 47, 48, 49, 50, 51, 52, 53, 54, 55, 56] (by decide +kernel) (by decide +kernel)
set_option maxRecDepth 20000 in
theorem gX0_accepts_X0_acceptsStrength : GoodIn wsX0_accepts (wsV RX0 64 RX0 yX0_acceptsStrength wsX0_acceptsStrength) := goodIn_app (goodIn_of _ (by decide +kernel)) ggX0_accepts_X0_acceptsStrength
set_option maxRecDepth 20000 in
theorem ggX0_accepts_X0_acceptsLossPeriod : GoodIn wsX0_accepts wsX0_acceptsLossPeriod := goodIn_r _ [41, 22, 17, 23, 1, 42, 43, 44, 27, 45, 46, 47, 48, 49, 50, 51, 52, 53, 54, 55, 56] (by decide +kernel) (by decide +kernel)
set_option maxRecDepth 20000 in
theorem gX0_accepts_X0_acceptsLossPeriod : GoodIn wsX0_accepts (wsV RX0 67 RX0 yX0_acceptsLossPeriod wsX0_acceptsLossPeriod) := goodIn_app (goodIn_of _ (by decide +kernel)) ggX0_accepts_X0_acceptsLossPeriod
theorem dX0_accepts_0 : decode cX0_accepts 0 = .ok (.aload_n 0, 1) := by decide +kernel
theorem dX0_accepts_1 : decode cX0_accepts 1 = .ok (.getfield 32, 3) := by decide +kernel
theorem dX0_accepts_4 : decode cX0_accepts 4 = .ok (.tableswitch 78 0 4 #[36, 45, 51, 60, 69], 36) := by decide +kernel
theorem dX0_accepts_40 : decode cX0_accepts 40 = .ok (.aload_n 0, 1) := by decide +kernel
theorem dX0_accepts_41 : decode cX0_accepts 41 = .ok (.iload_n 1, 1) := by decide +kernel
theorem dX0_accepts_42 : decode cX0_accepts 42 = .ok (.bipush 48, 2) := by decide +kernel
theorem dX0_accepts_44 : decode cX0_accepts 44 = .ok (.isub, 1) := by decide +kernel
theorem dX0_accepts_45 : decode cX0_accepts 45 = .ok (.invokevirtual 52, 3) := by decide +kernel
theorem dX0_accepts_48 : decode cX0_accepts 48 = .ok (.ireturn, 1) := by decide +kernel
theorem dX0_accepts_49 : decode cX0_accepts 49 = .ok (.aload_n 0, 1) := by decide +kernel
theorem dX0_accepts_50 : decode cX0_accepts 50 = .ok (.iload_n 1, 1) := by decide +kernel
theorem dX0_accepts_51 : decode cX0_accepts 51 = .ok (.invokevirtual 55, 3) := by decide +kernel
theorem dX0_accepts_54 : decode cX0_accepts 54 = .ok (.ireturn, 1) := by decide +kernel
theorem dX0_accepts_55 : decode cX0_accepts 55 = .ok (.aload_n 0, 1) := by decide +kernel
theorem dX0_accepts_56 : decode cX0_accepts 56 = .ok (.iload_n 1, 1) := by decide +kernel
theorem dX0_accepts_57 : decode cX0_accepts 57 = .ok (.bipush 48, 2) := by decide +kernel
theorem dX0_accepts_59 : decode cX0_accepts 59 = .ok (.isub, 1) := by decide +kernel
theorem dX0_accepts_60 : decode cX0_accepts 60 = .ok (.invokevirtual 58, 3) := by decide +kernel
theorem dX0_accepts_63 : decode cX0_accepts 63 = .ok (.ireturn, 1) := by decide +kernel
theorem dX0_accepts_64 : decode cX0_accepts 64 = .ok (.aload_n 0, 1) := by decide +kernel
theorem dX0_accepts_65 : decode cX0_accepts 65 = .ok (.iload_n 1, 1) := by decide +kernel
theorem dX0_accepts_66 : decode cX0_accepts 66 = .ok (.bipush 48, 2) := by decide +kernel
theorem dX0_accepts_68 : decode cX0_accepts 68 = .ok (.isub, 1) := by decide +kernel
theorem dX0_accepts_69 : decode cX0_accepts 69 = .ok (.invokevirtual 61, 3) := by decide +kernel
theorem dX0_accepts_72 : decode cX0_accepts 72 = .ok (.ireturn, 1) := by decide +kernel
theorem dX0_accepts_73 : decode cX0_accepts 73 = .ok (.aload_n 0, 1) := by decide +kernel
theorem dX0_accepts_74 : decode cX0_accepts 74 = .ok (.iload_n 1, 1) := by decide +kernel
theorem dX0_accepts_75 : decode cX0_accepts 75 = .ok (.bipush 48, 2) := by decide +kernel
theorem dX0_accepts_77 : decode cX0_accepts 77 = .ok (.isub, 1) := by decide +kernel
theorem dX0_accepts_78 : decode cX0_accepts 78 = .ok (.invokevirtual 64, 3) := by decide +kernel
theorem dX0_accepts_81 : decode cX0_accepts 81 = .ok (.ireturn, 1) := by decide +kernel
theorem dX0_accepts_82 : decode cX0_accepts 82 = .ok (.aload_n 0, 1) := by decide +kernel
theorem dX0_accepts_83 : decode cX0_accepts 83 = .ok (.iload_n 1, 1) := by decide +kernel
theorem dX0_accepts_84 : decode cX0_accepts 84 = .ok (.bipush 48, 2) := by decide +kernel
theorem dX0_accepts_86 : decode cX0_accepts 86 = .ok (.isub, 1) := by decide +kernel
theorem dX0_accepts_87 : decode cX0_accepts 87 = .ok (.invokevirtual 67, 3) := by decide +kernel
theorem dX0_accepts_90 : decode cX0_accepts 90 = .ok (.ifCond .ne 11, 3) := by decide +kernel
theorem dX0_accepts_93 : decode cX0_accepts 93 = .ok (.aload_n 0, 1) := by decide +kernel
theorem dX0_accepts_94 : decode cX0_accepts 94 = .ok (.iload_n 1, 1) := by decide +kernel
theorem dX0_accepts_95 : decode cX0_accepts 95 = .ok (.invokevirtual 55, 3) := by decide +kernel
theorem dX0_accepts_98 : decode cX0_accepts 98 = .ok (.ifCond .eq 7, 3) := by decide +kernel
theorem dX0_accepts_101 : decode cX0_accepts 101 = .ok (.iconst 1, 1) := by decide +kernel
theorem dX0_accepts_102 : decode cX0_accepts 102 = .ok (.goto 4, 3) := by decide +kernel
theorem dX0_accepts_105 : decode cX0_accepts 105 = .ok (.iconst 0, 1) := by decide +kernel
theorem dX0_accepts_106 : decode cX0_accepts 106 = .ok (.ireturn, 1) := by decide +kernel
theorem dX0_acceptsNodeCount_0 : decode cX0_acceptsNodeCount 0 = .ok (.iload_n 1, 1) := by decide +kernel
theorem dX0_acceptsNodeCount_1 : decode cX0_acceptsNodeCount 1 = .ok (.iconst 2, 1) := by decide +kernel
theorem dX0_acceptsNodeCount_2 : decode cX0_acceptsNodeCount 2 = .ok (.if_icmp .lt 9, 3) := by decide +kernel
theorem dX0_acceptsNodeCount_5 : decode cX0_acceptsNodeCount 5 = .ok (.iload_n 1, 1) := by decide +kernel
theorem dX0_acceptsNodeCount_6 : decode cX0_acceptsNodeCount 6 = .ok (.bipush 8, 2) := by decide +kernel
theorem dX0_acceptsNodeCount_8 : decode cX0_acceptsNodeCount 8 = .ok (.if_icmp .le 5, 3) := by decide +kernel
theorem dX0_acceptsNodeCount_11 : decode cX0_acceptsNodeCount 11 = .ok (.iconst 0, 1) := by decide +kernel
theorem dX0_acceptsNodeCount_12 : decode cX0_acceptsNodeCount 12 = .ok (.ireturn, 1) := by decide +kernel
theorem dX0_acceptsNodeCount_13 : decode cX0_acceptsNodeCount 13 = .ok (.aload_n 0, 1) := by decide +kernel
theorem dX0_acceptsNodeCount_14 : decode cX0_acceptsNodeCount 14 = .ok (.iload_n 1, 1) := by decide +kernel
theorem dX0_acceptsNodeCount_15 : decode cX0_acceptsNodeCount 15 = .ok (.putfield 26, 3) := by decide +kernel
theorem dX0_acceptsNodeCount_18 : decode cX0_acceptsNodeCount 18 = .ok (.aload_n 0, 1) := by decide +kernel
theorem dX0_acceptsNodeCount_19 : decode cX0_acceptsNodeCount 19 = .ok (.iconst 1, 1) := by decide +kernel
theorem dX0_acceptsNodeCount_20 : decode cX0_acceptsNodeCount 20 = .ok (.putfield 32, 3) := by decide +kernel
theorem dX0_acceptsNodeCount_23 : decode cX0_acceptsNodeCount 23 = .ok (.iconst 1, 1) := by decide +kernel
theorem dX0_acceptsNodeCount_24 : decode cX0_acceptsNodeCount 24 = .ok (.ireturn, 1) := by decide +kernel
theorem dX0_acceptsLinkMark_0 : decode cX0_acceptsLinkMark 0 = .ok (.iload_n 1, 1) := by decide +kernel
theorem dX0_acceptsLinkMark_1 : decode cX0_acceptsLinkMark 1 = .ok (.bipush 59, 2) := by decide +kernel
theorem dX0_acceptsLinkMark_3 : decode cX0_acceptsLinkMark 3 = .ok (.if_icmp .ne 12, 3) := by decide +kernel
theorem dX0_acceptsLinkMark_6 : decode cX0_acceptsLinkMark 6 = .ok (.aload_n 0, 1) := by decide +kernel
theorem dX0_acceptsLinkMark_7 : decode cX0_acceptsLinkMark 7 = .ok (.getfield 29, 3) := by decide +kernel
theorem dX0_acceptsLinkMark_10 : decode cX0_acceptsLinkMark 10 = .ok (.bipush 12, 2) := by decide +kernel
theorem dX0_acceptsLinkMark_12 : decode cX0_acceptsLinkMark 12 = .ok (.if_icmp .lt 5, 3) := by decide +kernel
theorem dX0_acceptsLinkMark_15 : decode cX0_acceptsLinkMark 15 = .ok (.iconst 0, 1) := by decide +kernel
theorem dX0_acceptsLinkMark_16 : decode cX0_acceptsLinkMark 16 = .ok (.ireturn, 1) := by decide +kernel
theorem dX0_acceptsLinkMark_17 : decode cX0_acceptsLinkMark 17 = .ok (.aload_n 0, 1) := by decide +kernel
theorem dX0_acceptsLinkMark_18 : decode cX0_acceptsLinkMark 18 = .ok (.dup, 1) := by decide +kernel
theorem dX0_acceptsLinkMark_19 : decode cX0_acceptsLinkMark 19 = .ok (.getfield 29, 3) := by decide +kernel
theorem dX0_acceptsLinkMark_22 : decode cX0_acceptsLinkMark 22 = .ok (.iconst 1, 1) := by decide +kernel
theorem dX0_acceptsLinkMark_23 : decode cX0_acceptsLinkMark 23 = .ok (.iadd, 1) := by decide +kernel
theorem dX0_acceptsLinkMark_24 : decode cX0_acceptsLinkMark 24 = .ok (.putfield 29, 3) := by decide +kernel
theorem dX0_acceptsLinkMark_27 : decode cX0_acceptsLinkMark 27 = .ok (.aload_n 0, 1) := by decide +kernel
theorem dX0_acceptsLinkMark_28 : decode cX0_acceptsLinkMark 28 = .ok (.iconst 2, 1) := by decide +kernel
theorem dX0_acceptsLinkMark_29 : decode cX0_acceptsLinkMark 29 = .ok (.putfield 32, 3) := by decide +kernel
theorem dX0_acceptsLinkMark_32 : decode cX0_acceptsLinkMark 32 = .ok (.iconst 1, 1) := by decide +kernel
theorem dX0_acceptsLinkMark_33 : decode cX0_acceptsLinkMark 33 = .ok (.ireturn, 1) := by decide +kernel
theorem dX0_acceptsFirstNode_0 : decode cX0_acceptsFirstNode 0 = .ok (.iload_n 1, 1) := by decide +kernel
theorem dX0_acceptsFirstNode_1 : decode cX0_acceptsFirstNode 1 = .ok (.ifCond .lt 11, 3) := by decide +kernel
theorem dX0_acceptsFirstNode_4 : decode cX0_acceptsFirstNode 4 = .ok (.iload_n 1, 1) := by decide +kernel
theorem dX0_acceptsFirstNode_5 : decode cX0_acceptsFirstNode 5 = .ok (.aload_n 0, 1) := by decide +kernel
theorem dX0_acceptsFirstNode_6 : decode cX0_acceptsFirstNode 6 = .ok (.getfield 26, 3) := by decide +kernel
theorem dX0_acceptsFirstNode_9 : decode cX0_acceptsFirstNode 9 = .ok (.if_icmp .lt 5, 3) := by decide +kernel
theorem dX0_acceptsFirstNode_12 : decode cX0_acceptsFirstNode 12 = .ok (.iconst 0, 1) := by decide +kernel
theorem dX0_acceptsFirstNode_13 : decode cX0_acceptsFirstNode 13 = .ok (.ireturn, 1) := by decide +kernel
theorem dX0_acceptsFirstNode_14 : decode cX0_acceptsFirstNode 14 = .ok (.aload_n 0, 1) := by decide +kernel
theorem dX0_acceptsFirstNode_15 : decode cX0_acceptsFirstNode 15 = .ok (.iload_n 1, 1) := by decide +kernel
theorem dX0_acceptsFirstNode_16 : decode cX0_acceptsFirstNode 16 = .ok (.putfield 35, 3) := by decide +kernel
theorem dX0_acceptsFirstNode_19 : decode cX0_acceptsFirstNode 19 = .ok (.aload_n 0, 1) := by decide +kernel
theorem dX0_acceptsFirstNode_20 : decode cX0_acceptsFirstNode 20 = .ok (.iconst 3, 1) := by decide +kernel
theorem dX0_acceptsFirstNode_21 : decode cX0_acceptsFirstNode 21 = .ok (.putfield 32, 3) := by decide +kernel
theorem dX0_acceptsFirstNode_24 : decode cX0_acceptsFirstNode 24 = .ok (.iconst 1, 1) := by decide +kernel
theorem dX0_acceptsFirstNode_25 : decode cX0_acceptsFirstNode 25 = .ok (.ireturn, 1) := by decide +kernel
set_option maxRecDepth 20000 in
theorem ggX0_acceptsSecondNode_X2_join : GoodIn wsX0_acceptsSecondNode wsX2_join := goodIn_r _ [10, 11, 20, 21] (by decide +kernel) (by decide +kernel)
set_option maxRecDepth 20000 in
theorem gX0_acceptsSecondNode_X2_join : GoodIn wsX0_acceptsSecondNode (wsV RX0 70 RX2 yX2_join wsX2_join) := goodIn_app (goodIn_of _ (by decide +kernel)) ggX0_acceptsSecondNode_X2_join
theorem dX0_acceptsSecondNode_0 : decode cX0_acceptsSecondNode 0 = .ok (.iload_n 1, 1) := by decide +kernel
theorem dX0_acceptsSecondNode_1 : decode cX0_acceptsSecondNode 1 = .ok (.aload_n 0, 1) := by decide +kernel
theorem dX0_acceptsSecondNode_2 : decode cX0_acceptsSecondNode 2 = .ok (.getfield 35, 3) := by decide +kernel
theorem dX0_acceptsSecondNode_5 : decode cX0_acceptsSecondNode 5 = .ok (.if_icmp .le 26, 3) := by decide +kernel
theorem dX0_acceptsSecondNode_8 : decode cX0_acceptsSecondNode 8 = .ok (.iload_n 1, 1) := by decide +kernel
theorem dX0_acceptsSecondNode_9 : decode cX0_acceptsSecondNode 9 = .ok (.aload_n 0, 1) := by decide +kernel
theorem dX0_acceptsSecondNode_10 : decode cX0_acceptsSecondNode 10 = .ok (.getfield 26, 3) := by decide +kernel
theorem dX0_acceptsSecondNode_13 : decode cX0_acceptsSecondNode 13 = .ok (.if_icmp .ge 18, 3) := by decide +kernel
theorem dX0_acceptsSecondNode_16 : decode cX0_acceptsSecondNode 16 = .ok (.aload_n 0, 1) := by decide +kernel
theorem dX0_acceptsSecondNode_17 : decode cX0_acceptsSecondNode 17 = .ok (.getfield 22, 3) := by decide +kernel
theorem dX0_acceptsSecondNode_20 : decode cX0_acceptsSecondNode 20 = .ok (.aload_n 0, 1) := by decide +kernel
theorem dX0_acceptsSecondNode_21 : decode cX0_acceptsSecondNode 21 = .ok (.getfield 35, 3) := by decide +kernel
theorem dX0_acceptsSecondNode_24 : decode cX0_acceptsSecondNode 24 = .ok (.iload_n 1, 1) := by decide +kernel
theorem dX0_acceptsSecondNode_25 : decode cX0_acceptsSecondNode 25 = .ok (.invokevirtual 70, 3) := by decide +kernel
theorem dX0_acceptsSecondNode_28 : decode cX0_acceptsSecondNode 28 = .ok (.ifCond .eq 5, 3) := by decide +kernel
theorem dX0_acceptsSecondNode_31 : decode cX0_acceptsSecondNode 31 = .ok (.iconst 0, 1) := by decide +kernel
theorem dX0_acceptsSecondNode_32 : decode cX0_acceptsSecondNode 32 = .ok (.ireturn, 1) := by decide +kernel
theorem dX0_acceptsSecondNode_33 : decode cX0_acceptsSecondNode 33 = .ok (.aload_n 0, 1) := by decide +kernel
theorem dX0_acceptsSecondNode_34 : decode cX0_acceptsSecondNode 34 = .ok (.iload_n 1, 1) := by decide +kernel
theorem dX0_acceptsSecondNode_35 : decode cX0_acceptsSecondNode 35 = .ok (.putfield 38, 3) := by decide +kernel
theorem dX0_acceptsSecondNode_38 : decode cX0_acceptsSecondNode 38 = .ok (.aload_n 0, 1) := by decide +kernel
theorem dX0_acceptsSecondNode_39 : decode cX0_acceptsSecondNode 39 = .ok (.iconst 4, 1) := by decide +kernel
theorem dX0_acceptsSecondNode_40 : decode cX0_acceptsSecondNode 40 = .ok (.putfield 32, 3) := by decide +kernel
theorem dX0_acceptsSecondNode_43 : decode cX0_acceptsSecondNode 43 = .ok (.iconst 1, 1) := by decide +kernel
theorem dX0_acceptsSecondNode_44 : decode cX0_acceptsSecondNode 44 = .ok (.ireturn, 1) := by decide +kernel
set_option maxRecDepth 20000 in
theorem ggX0_acceptsStrength_X2_setStrength : GoodIn wsX0_acceptsStrength wsX2_setStrength := goodIn_r _ [9, 10, 19, 20] (by decide +kernel) (by decide +kernel)
set_option maxRecDepth 20000 in
theorem gX0_acceptsStrength_X2_setStrength : GoodIn wsX0_acceptsStrength (wsV RX0 74 RX2 yX2_setStrength wsX2_setStrength) := goodIn_app (goodIn_of _ (by decide +kernel)) ggX0_acceptsStrength_X2_setStrength
theorem dX0_acceptsStrength_0 : decode cX0_acceptsStrength 0 = .ok (.iload_n 1, 1) := by decide +kernel
theorem dX0_acceptsStrength_1 : decode cX0_acceptsStrength 1 = .ok (.iconst 1, 1) := by decide +kernel
theorem dX0_acceptsStrength_2 : decode cX0_acceptsStrength 2 = .ok (.if_icmp .lt 9, 3) := by decide +kernel
theorem dX0_acceptsStrength_5 : decode cX0_acceptsStrength 5 = .ok (.iload_n 1, 1) := by decide +kernel
theorem dX0_acceptsStrength_6 : decode cX0_acceptsStrength 6 = .ok (.bipush 9, 2) := by decide +kernel
theorem dX0_acceptsStrength_8 : decode cX0_acceptsStrength 8 = .ok (.if_icmp .le 5, 3) := by decide +kernel
theorem dX0_acceptsStrength_11 : decode cX0_acceptsStrength 11 = .ok (.iconst 0, 1) := by decide +kernel
theorem dX0_acceptsStrength_12 : decode cX0_acceptsStrength 12 = .ok (.ireturn, 1) := by decide +kernel
theorem dX0_acceptsStrength_13 : decode cX0_acceptsStrength 13 = .ok (.aload_n 0, 1) := by decide +kernel
theorem dX0_acceptsStrength_14 : decode cX0_acceptsStrength 14 = .ok (.getfield 22, 3) := by decide +kernel
theorem dX0_acceptsStrength_17 : decode cX0_acceptsStrength 17 = .ok (.aload_n 0, 1) := by decide +kernel
theorem dX0_acceptsStrength_18 : decode cX0_acceptsStrength 18 = .ok (.getfield 35, 3) := by decide +kernel
theorem dX0_acceptsStrength_21 : decode cX0_acceptsStrength 21 = .ok (.aload_n 0, 1) := by decide +kernel
theorem dX0_acceptsStrength_22 : decode cX0_acceptsStrength 22 = .ok (.getfield 38, 3) := by decide +kernel
theorem dX0_acceptsStrength_25 : decode cX0_acceptsStrength 25 = .ok (.iload_n 1, 1) := by decide +kernel
theorem dX0_acceptsStrength_26 : decode cX0_acceptsStrength 26 = .ok (.invokevirtual 74, 3) := by decide +kernel
theorem dX0_acceptsStrength_29 : decode cX0_acceptsStrength 29 = .ok (.aload_n 0, 1) := by decide +kernel
theorem dX0_acceptsStrength_30 : decode cX0_acceptsStrength 30 = .ok (.iconst 5, 1) := by decide +kernel
theorem dX0_acceptsStrength_31 : decode cX0_acceptsStrength 31 = .ok (.putfield 32, 3) := by decide +kernel
theorem dX0_acceptsStrength_34 : decode cX0_acceptsStrength 34 = .ok (.iconst 1, 1) := by decide +kernel
theorem dX0_acceptsStrength_35 : decode cX0_acceptsStrength 35 = .ok (.ireturn, 1) := by decide +kernel
set_option maxRecDepth 20000 in
theorem ggX0_acceptsLossPeriod_X2_setLossPeriod : GoodIn wsX0_acceptsLossPeriod wsX2_setLossPeriod := goodIn_r _ [9, 10, 19, 20] (by decide +kernel) (by decide +kernel)
set_option maxRecDepth 20000 in
theorem gX0_acceptsLossPeriod_X2_setLossPeriod : GoodIn wsX0_acceptsLossPeriod (wsV RX0 78 RX2 yX2_setLossPeriod wsX2_setLossPeriod) := goodIn_app (goodIn_of _ (by decide +kernel)) ggX0_acceptsLossPeriod_X2_setLossPeriod
theorem dX0_acceptsLossPeriod_0 : decode cX0_acceptsLossPeriod 0 = .ok (.iload_n 1, 1) := by decide +kernel
theorem dX0_acceptsLossPeriod_1 : decode cX0_acceptsLossPeriod 1 = .ok (.iconst 2, 1) := by decide +kernel
theorem dX0_acceptsLossPeriod_2 : decode cX0_acceptsLossPeriod 2 = .ok (.if_icmp .lt 9, 3) := by decide +kernel
theorem dX0_acceptsLossPeriod_5 : decode cX0_acceptsLossPeriod 5 = .ok (.iload_n 1, 1) := by decide +kernel
theorem dX0_acceptsLossPeriod_6 : decode cX0_acceptsLossPeriod 6 = .ok (.bipush 9, 2) := by decide +kernel
theorem dX0_acceptsLossPeriod_8 : decode cX0_acceptsLossPeriod 8 = .ok (.if_icmp .le 5, 3) := by decide +kernel
theorem dX0_acceptsLossPeriod_11 : decode cX0_acceptsLossPeriod 11 = .ok (.iconst 0, 1) := by decide +kernel
theorem dX0_acceptsLossPeriod_12 : decode cX0_acceptsLossPeriod 12 = .ok (.ireturn, 1) := by decide +kernel
theorem dX0_acceptsLossPeriod_13 : decode cX0_acceptsLossPeriod 13 = .ok (.aload_n 0, 1) := by decide +kernel
theorem dX0_acceptsLossPeriod_14 : decode cX0_acceptsLossPeriod 14 = .ok (.getfield 22, 3) := by decide +kernel
theorem dX0_acceptsLossPeriod_17 : decode cX0_acceptsLossPeriod 17 = .ok (.aload_n 0, 1) := by decide +kernel
theorem dX0_acceptsLossPeriod_18 : decode cX0_acceptsLossPeriod 18 = .ok (.getfield 35, 3) := by decide +kernel
theorem dX0_acceptsLossPeriod_21 : decode cX0_acceptsLossPeriod 21 = .ok (.aload_n 0, 1) := by decide +kernel
theorem dX0_acceptsLossPeriod_22 : decode cX0_acceptsLossPeriod 22 = .ok (.getfield 38, 3) := by decide +kernel
theorem dX0_acceptsLossPeriod_25 : decode cX0_acceptsLossPeriod 25 = .ok (.iload_n 1, 1) := by decide +kernel
theorem dX0_acceptsLossPeriod_26 : decode cX0_acceptsLossPeriod 26 = .ok (.invokevirtual 78, 3) := by decide +kernel
theorem dX0_acceptsLossPeriod_29 : decode cX0_acceptsLossPeriod 29 = .ok (.aload_n 0, 1) := by decide +kernel
theorem dX0_acceptsLossPeriod_30 : decode cX0_acceptsLossPeriod 30 = .ok (.iconst 1, 1) := by decide +kernel
theorem dX0_acceptsLossPeriod_31 : decode cX0_acceptsLossPeriod 31 = .ok (.putfield 32, 3) := by decide +kernel
theorem dX0_acceptsLossPeriod_34 : decode cX0_acceptsLossPeriod 34 = .ok (.iconst 1, 1) := by decide +kernel
theorem dX0_acceptsLossPeriod_35 : decode cX0_acceptsLossPeriod 35 = .ok (.ireturn, 1) := by decide +kernel
theorem dX1_init_0 : decode cX1_init 0 = .ok (.aload_n 0, 1) := by decide +kernel
theorem dX1_init_1 : decode cX1_init 1 = .ok (.invokespecial 3, 3) := by decide +kernel
theorem dX1_init_4 : decode cX1_init 4 = .ok (.aload_n 0, 1) := by decide +kernel
theorem dX1_init_5 : decode cX1_init 5 = .ok (.bipush 8, 2) := by decide +kernel
theorem dX1_init_7 : decode cX1_init 7 = .ok (.newarray .int, 2) := by decide +kernel
theorem dX1_init_9 : decode cX1_init 9 = .ok (.putfield 9, 3) := by decide +kernel
theorem dX1_init_12 : decode cX1_init 12 = .ok (.aload_n 0, 1) := by decide +kernel
theorem dX1_init_13 : decode cX1_init 13 = .ok (.bipush 8, 2) := by decide +kernel
theorem dX1_init_15 : decode cX1_init 15 = .ok (.newarray .int, 2) := by decide +kernel
theorem dX1_init_17 : decode cX1_init 17 = .ok (.putfield 15, 3) := by decide +kernel
theorem dX1_init_20 : decode cX1_init 20 = .ok (.aload_n 0, 1) := by decide +kernel
theorem dX1_init_21 : decode cX1_init 21 = .ok (.bipush 8, 2) := by decide +kernel
theorem dX1_init_23 : decode cX1_init 23 = .ok (.newarray .int, 2) := by decide +kernel
theorem dX1_init_25 : decode cX1_init 25 = .ok (.putfield 18, 3) := by decide +kernel
theorem dX1_init_28 : decode cX1_init 28 = .ok (.aload_n 0, 1) := by decide +kernel
theorem dX1_init_29 : decode cX1_init 29 = .ok (.iconst 0, 1) := by decide +kernel
theorem dX1_init_30 : decode cX1_init 30 = .ok (.putfield 21, 3) := by decide +kernel
theorem dX1_init_33 : decode cX1_init 33 = .ok (.aload_n 0, 1) := by decide +kernel
theorem dX1_init_34 : decode cX1_init 34 = .ok (.iconst 2, 1) := by decide +kernel
theorem dX1_init_35 : decode cX1_init 35 = .ok (.putfield 25, 3) := by decide +kernel
theorem dX1_init_38 : decode cX1_init 38 = .ok (.aload_n 0, 1) := by decide +kernel
theorem dX1_init_39 : decode cX1_init 39 = .ok (.iconst 3, 1) := by decide +kernel
theorem dX1_init_40 : decode cX1_init 40 = .ok (.putfield 28, 3) := by decide +kernel
theorem dX1_init_43 : decode cX1_init 43 = .ok (.return_, 1) := by decide +kernel
set_option maxRecDepth 20000 in
theorem ggX1_forget_J7_fill_53178 : GoodIn wsX1_forget wsJ7_fill_53178 := goodIn_r _ [7] (by decide +kernel) (by decide +kernel)
set_option maxRecDepth 20000 in
theorem gX1_forget_J7_fill_53178 : GoodIn wsX1_forget (va_wsS RX1 31 yJ7_fill_53178 wsJ7_fill_53178) := goodIn_app (goodIn_of _ (by decide +kernel)) ggX1_forget_J7_fill_53178
theorem dX1_forget_0 : decode cX1_forget 0 = .ok (.aload_n 0, 1) := by decide +kernel
theorem dX1_forget_1 : decode cX1_forget 1 = .ok (.getfield 15, 3) := by decide +kernel
theorem dX1_forget_4 : decode cX1_forget 4 = .ok (.iconst (-1), 1) := by decide +kernel
theorem dX1_forget_5 : decode cX1_forget 5 = .ok (.invokestatic 31, 3) := by decide +kernel
theorem dX1_forget_8 : decode cX1_forget 8 = .ok (.aload_n 0, 1) := by decide +kernel
theorem dX1_forget_9 : decode cX1_forget 9 = .ok (.getfield 18, 3) := by decide +kernel
theorem dX1_forget_12 : decode cX1_forget 12 = .ok (.iconst (-1), 1) := by decide +kernel
theorem dX1_forget_13 : decode cX1_forget 13 = .ok (.invokestatic 31, 3) := by decide +kernel
theorem dX1_forget_16 : decode cX1_forget 16 = .ok (.aload_n 0, 1) := by decide +kernel
theorem dX1_forget_17 : decode cX1_forget 17 = .ok (.iconst 0, 1) := by decide +kernel
theorem dX1_forget_18 : decode cX1_forget 18 = .ok (.putfield 21, 3) := by decide +kernel
theorem dX1_forget_21 : decode cX1_forget 21 = .ok (.return_, 1) := by decide +kernel
set_option maxRecDepth 20000 in
theorem ggX1_run_X1_forget : GoodIn wsX1_run wsX1_forget := goodIn_r _ [7, 8, 9, 2, 10, 11, 12, 13, 57, 58, 59, 60, 61, 62] (by decide +kernel) (by decide +kernel)
set_option maxRecDepth 20000 in
theorem gX1_run_X1_forget : GoodIn wsX1_run (wsV RX1 37 RX1 yX1_forget wsX1_forget) := goodIn_app (goodIn_of _ (by decide +kernel)) ggX1_run_X1_forget
set_option maxRecDepth 20000 in
theorem ggX1_run_X1_hold : GoodIn wsX1_run wsX1_hold := goodIn_r _ [17, 8, 9, 18, 19, 2, 20, 21, 22, 23, 57, 58, 59, 60, 61, 62, 51, 52, 53, 54, 55, 56] (by decide +kernel) (by decide +kernel)
set_option maxRecDepth 20000 in
theorem gX1_run_X1_hold : GoodIn wsX1_run (wsV RX1 45 RX1 yX1_hold wsX1_hold) := goodIn_app (goodIn_of _ (by decide +kernel)) ggX1_run_X1_hold
set_option maxRecDepth 20000 in
theorem ggX1_run_X1_runSlot : GoodIn wsX1_run wsX1_runSlot := goodIn_r _ [27, 1, 28, 8, 29, 30, 31, 32, 6, 33, 34, 20, 21, 22, 23, 10, 11, 12, 13, 35, 36, 37, 38, 9, 19, 39, 40, 41, 42, 43, 44, 45, 46, 47, 48, 49, 50, 14, 15, 16, 17, 18, 2, 51, 52, 53, 54, 55, 56, 57, 58, 59, 60, 61, 62, 63, 64] (by decide +kernel) (by decide +kernel)
set_option maxRecDepth 20000 in
theorem gX1_run_X1_runSlot : GoodIn wsX1_run (wsV RX1 49 RX1 yX1_runSlot wsX1_runSlot) := goodIn_app (goodIn_of _ (by decide +kernel)) ggX1_run_X1_runSlot
theorem dX1_run_0 : decode cX1_run 0 = .ok (.aload_n 0, 1) := by decide +kernel
theorem dX1_run_1 : decode cX1_run 1 = .ok (.invokevirtual 37, 3) := by decide +kernel
theorem dX1_run_4 : decode cX1_run 4 = .ok (.iconst 0, 1) := by decide +kernel
theorem dX1_run_5 : decode cX1_run 5 = .ok (.istore_n 3, 1) := by decide +kernel
theorem dX1_run_6 : decode cX1_run 6 = .ok (.iload_n 3, 1) := by decide +kernel
theorem dX1_run_7 : decode cX1_run 7 = .ok (.aload_n 1, 1) := by decide +kernel
theorem dX1_run_8 : decode cX1_run 8 = .ok (.getfield 40, 3) := by decide +kernel
theorem dX1_run_11 : decode cX1_run 11 = .ok (.if_icmp .ge 26, 3) := by decide +kernel
theorem dX1_run_14 : decode cX1_run 14 = .ok (.iload_n 2, 1) := by decide +kernel
theorem dX1_run_15 : decode cX1_run 15 = .ok (.iload_n 3, 1) := by decide +kernel
theorem dX1_run_16 : decode cX1_run 16 = .ok (.ishr, 1) := by decide +kernel
theorem dX1_run_17 : decode cX1_run 17 = .ok (.iconst 1, 1) := by decide +kernel
theorem dX1_run_18 : decode cX1_run 18 = .ok (.iand, 1) := by decide +kernel
theorem dX1_run_19 : decode cX1_run 19 = .ok (.iconst 1, 1) := by decide +kernel
theorem dX1_run_20 : decode cX1_run 20 = .ok (.if_icmp .ne 11, 3) := by decide +kernel
theorem dX1_run_23 : decode cX1_run 23 = .ok (.aload_n 0, 1) := by decide +kernel
theorem dX1_run_24 : decode cX1_run 24 = .ok (.aload_n 1, 1) := by decide +kernel
theorem dX1_run_25 : decode cX1_run 25 = .ok (.iload_n 3, 1) := by decide +kernel
theorem dX1_run_26 : decode cX1_run 26 = .ok (.iload_n 3, 1) := by decide +kernel
theorem dX1_run_27 : decode cX1_run 27 = .ok (.iconst 0, 1) := by decide +kernel
theorem dX1_run_28 : decode cX1_run 28 = .ok (.invokevirtual 45, 3) := by decide +kernel
theorem dX1_run_31 : decode cX1_run 31 = .ok (.iinc 3 1, 3) := by decide +kernel
theorem dX1_run_34 : decode cX1_run 34 = .ok (.goto (-28), 3) := by decide +kernel
theorem dX1_run_37 : decode cX1_run 37 = .ok (.iconst 0, 1) := by decide +kernel
theorem dX1_run_38 : decode cX1_run 38 = .ok (.istore_n 3, 1) := by decide +kernel
theorem dX1_run_39 : decode cX1_run 39 = .ok (.iload_n 3, 1) := by decide +kernel
theorem dX1_run_40 : decode cX1_run 40 = .ok (.bipush 64, 2) := by decide +kernel
theorem dX1_run_42 : decode cX1_run 42 = .ok (.if_icmp .ge 23, 3) := by decide +kernel
theorem dX1_run_45 : decode cX1_run 45 = .ok (.iload_n 3, 1) := by decide +kernel
theorem dX1_run_46 : decode cX1_run 46 = .ok (.aload_n 0, 1) := by decide +kernel
theorem dX1_run_47 : decode cX1_run 47 = .ok (.getfield 21, 3) := by decide +kernel
theorem dX1_run_50 : decode cX1_run 50 = .ok (.if_icmp .ge 15, 3) := by decide +kernel
theorem dX1_run_53 : decode cX1_run 53 = .ok (.aload_n 0, 1) := by decide +kernel
theorem dX1_run_54 : decode cX1_run 54 = .ok (.aload_n 1, 1) := by decide +kernel
theorem dX1_run_55 : decode cX1_run 55 = .ok (.iload_n 3, 1) := by decide +kernel
theorem dX1_run_56 : decode cX1_run 56 = .ok (.invokevirtual 49, 3) := by decide +kernel
theorem dX1_run_59 : decode cX1_run 59 = .ok (.iinc 3 1, 3) := by decide +kernel
theorem dX1_run_62 : decode cX1_run 62 = .ok (.goto (-23), 3) := by decide +kernel
theorem dX1_run_65 : decode cX1_run 65 = .ok (.return_, 1) := by decide +kernel
theorem dX1_countHolders_0 : decode cX1_countHolders 0 = .ok (.iconst 0, 1) := by decide +kernel
theorem dX1_countHolders_1 : decode cX1_countHolders 1 = .ok (.istore_n 1, 1) := by decide +kernel
theorem dX1_countHolders_2 : decode cX1_countHolders 2 = .ok (.iconst 0, 1) := by decide +kernel
theorem dX1_countHolders_3 : decode cX1_countHolders 3 = .ok (.istore_n 2, 1) := by decide +kernel
theorem dX1_countHolders_4 : decode cX1_countHolders 4 = .ok (.iload_n 2, 1) := by decide +kernel
theorem dX1_countHolders_5 : decode cX1_countHolders 5 = .ok (.bipush 8, 2) := by decide +kernel
theorem dX1_countHolders_7 : decode cX1_countHolders 7 = .ok (.if_icmp .ge 22, 3) := by decide +kernel
theorem dX1_countHolders_10 : decode cX1_countHolders 10 = .ok (.aload_n 0, 1) := by decide +kernel
theorem dX1_countHolders_11 : decode cX1_countHolders 11 = .ok (.getfield 15, 3) := by decide +kernel
theorem dX1_countHolders_14 : decode cX1_countHolders 14 = .ok (.iload_n 2, 1) := by decide +kernel
theorem dX1_countHolders_15 : decode cX1_countHolders 15 = .ok (.iaload, 1) := by decide +kernel
theorem dX1_countHolders_16 : decode cX1_countHolders 16 = .ok (.iconst (-1), 1) := by decide +kernel
theorem dX1_countHolders_17 : decode cX1_countHolders 17 = .ok (.if_icmp .eq 6, 3) := by decide +kernel
theorem dX1_countHolders_20 : decode cX1_countHolders 20 = .ok (.iinc 1 1, 3) := by decide +kernel
theorem dX1_countHolders_23 : decode cX1_countHolders 23 = .ok (.iinc 2 1, 3) := by decide +kernel
theorem dX1_countHolders_26 : decode cX1_countHolders 26 = .ok (.goto (-22), 3) := by decide +kernel
theorem dX1_countHolders_29 : decode cX1_countHolders 29 = .ok (.iload_n 1, 1) := by decide +kernel
theorem dX1_countHolders_30 : decode cX1_countHolders 30 = .ok (.ireturn, 1) := by decide +kernel
theorem dX1_hold_0 : decode cX1_hold 0 = .ok (.aload_n 0, 1) := by decide +kernel
theorem dX1_hold_1 : decode cX1_hold 1 = .ok (.getfield 15, 3) := by decide +kernel
theorem dX1_hold_4 : decode cX1_hold 4 = .ok (.iload_n 2, 1) := by decide +kernel
theorem dX1_hold_5 : decode cX1_hold 5 = .ok (.iload_n 3, 1) := by decide +kernel
theorem dX1_hold_6 : decode cX1_hold 6 = .ok (.iastore, 1) := by decide +kernel
theorem dX1_hold_7 : decode cX1_hold 7 = .ok (.aload_n 0, 1) := by decide +kernel
theorem dX1_hold_8 : decode cX1_hold 8 = .ok (.getfield 18, 3) := by decide +kernel
theorem dX1_hold_11 : decode cX1_hold 11 = .ok (.iload_n 2, 1) := by decide +kernel
theorem dX1_hold_12 : decode cX1_hold 12 = .ok (.iload 4, 2) := by decide +kernel
theorem dX1_hold_14 : decode cX1_hold 14 = .ok (.iastore, 1) := by decide +kernel
theorem dX1_hold_15 : decode cX1_hold 15 = .ok (.aload_n 1, 1) := by decide +kernel
theorem dX1_hold_16 : decode cX1_hold 16 = .ok (.getfield 53, 3) := by decide +kernel
theorem dX1_hold_19 : decode cX1_hold 19 = .ok (.iload_n 2, 1) := by decide +kernel
theorem dX1_hold_20 : decode cX1_hold 20 = .ok (.dup2, 1) := by decide +kernel
theorem dX1_hold_21 : decode cX1_hold 21 = .ok (.iaload, 1) := by decide +kernel
theorem dX1_hold_22 : decode cX1_hold 22 = .ok (.aload_n 0, 1) := by decide +kernel
theorem dX1_hold_23 : decode cX1_hold 23 = .ok (.getfield 25, 3) := by decide +kernel
theorem dX1_hold_26 : decode cX1_hold 26 = .ok (.iadd, 1) := by decide +kernel
theorem dX1_hold_27 : decode cX1_hold 27 = .ok (.iastore, 1) := by decide +kernel
theorem dX1_hold_28 : decode cX1_hold 28 = .ok (.aload_n 0, 1) := by decide +kernel
theorem dX1_hold_29 : decode cX1_hold 29 = .ok (.aload_n 0, 1) := by decide +kernel
theorem dX1_hold_30 : decode cX1_hold 30 = .ok (.getfield 21, 3) := by decide +kernel
theorem dX1_hold_33 : decode cX1_hold 33 = .ok (.iload 4, 2) := by decide +kernel
theorem dX1_hold_35 : decode cX1_hold 35 = .ok (.iconst 2, 1) := by decide +kernel
theorem dX1_hold_36 : decode cX1_hold 36 = .ok (.aload_n 0, 1) := by decide +kernel
theorem dX1_hold_37 : decode cX1_hold 37 = .ok (.getfield 25, 3) := by decide +kernel
theorem dX1_hold_40 : decode cX1_hold 40 = .ok (.imul, 1) := by decide +kernel
theorem dX1_hold_41 : decode cX1_hold 41 = .ok (.iadd, 1) := by decide +kernel
theorem dX1_hold_42 : decode cX1_hold 42 = .ok (.iconst 1, 1) := by decide +kernel
theorem dX1_hold_43 : decode cX1_hold 43 = .ok (.isub, 1) := by decide +kernel
theorem dX1_hold_44 : decode cX1_hold 44 = .ok (.invokestatic 56, 3) := by decide +kernel
theorem dX1_hold_47 : decode cX1_hold 47 = .ok (.putfield 21, 3) := by decide +kernel
theorem dX1_hold_50 : decode cX1_hold 50 = .ok (.return_, 1) := by decide +kernel
set_option maxRecDepth 20000 in
theorem ggX1_runSlot_X1_measureLevels : GoodIn wsX1_runSlot wsX1_measureLevels := goodIn_r _ [9, 10, 3, 11, 12, 13, 14, 15, 16, 17, 18, 19, 20, 21, 8, 22, 23, 24, 25, 26, 27, 28, 29, 30, 31, 49, 50, 51, 52, 53, 54, 55, 56] (by decide +kernel) (by decide +kernel)
set_option maxRecDepth 20000 in
theorem gX1_runSlot_X1_measureLevels : GoodIn wsX1_runSlot (wsV RX1 70 RX1 yX1_measureLevels wsX1_measureLevels) := goodIn_app (goodIn_of _ (by decide +kernel)) ggX1_runSlot_X1_measureLevels
set_option maxRecDepth 20000 in
theorem ggX1_runSlot_X1_capturedPacket : GoodIn wsX1_runSlot wsX1_capturedPacket := goodIn_r _ [35, 10, 36, 49, 50, 51, 52, 53, 54] (by decide +kernel) (by decide +kernel)
set_option maxRecDepth 20000 in
theorem gX1_runSlot_X1_capturedPacket : GoodIn wsX1_runSlot (wsV RX1 74 RX1 yX1_capturedPacket wsX1_capturedPacket) := goodIn_app (goodIn_of _ (by decide +kernel)) ggX1_runSlot_X1_capturedPacket
set_option maxRecDepth 20000 in
theorem ggX1_runSlot_X1_hold : GoodIn wsX1_runSlot wsX1_hold := goodIn_r _ [40, 3, 23, 41, 24, 42, 11, 12, 13, 14, 49, 50, 51, 52, 53, 54, 43, 44, 45, 46, 47, 48] (by decide +kernel) (by decide +kernel)
set_option maxRecDepth 20000 in
theorem gX1_runSlot_X1_hold : GoodIn wsX1_runSlot (wsV RX1 45 RX1 yX1_hold wsX1_hold) := goodIn_app (goodIn_of _ (by decide +kernel)) ggX1_runSlot_X1_hold
theorem dX1_runSlot_0 : decode cX1_runSlot 0 = .ok (.iconst 0, 1) := by decide +kernel
theorem dX1_runSlot_1 : decode cX1_runSlot 1 = .ok (.istore_n 3, 1) := by decide +kernel
theorem dX1_runSlot_2 : decode cX1_runSlot 2 = .ok (.iload_n 3, 1) := by decide +kernel
theorem dX1_runSlot_3 : decode cX1_runSlot 3 = .ok (.aload_n 1, 1) := by decide +kernel
theorem dX1_runSlot_4 : decode cX1_runSlot 4 = .ok (.getfield 40, 3) := by decide +kernel
theorem dX1_runSlot_7 : decode cX1_runSlot 7 = .ok (.if_icmp .ge 61, 3) := by decide +kernel
theorem dX1_runSlot_10 : decode cX1_runSlot 10 = .ok (.aload_n 1, 1) := by decide +kernel
theorem dX1_runSlot_11 : decode cX1_runSlot 11 = .ok (.getfield 62, 3) := by decide +kernel
theorem dX1_runSlot_14 : decode cX1_runSlot 14 = .ok (.iload_n 3, 1) := by decide +kernel
theorem dX1_runSlot_15 : decode cX1_runSlot 15 = .ok (.baload, 1) := by decide +kernel
theorem dX1_runSlot_16 : decode cX1_runSlot 16 = .ok (.ifCond .eq 46, 3) := by decide +kernel
theorem dX1_runSlot_19 : decode cX1_runSlot 19 = .ok (.aload_n 0, 1) := by decide +kernel
theorem dX1_runSlot_20 : decode cX1_runSlot 20 = .ok (.getfield 15, 3) := by decide +kernel
theorem dX1_runSlot_23 : decode cX1_runSlot 23 = .ok (.iload_n 3, 1) := by decide +kernel
theorem dX1_runSlot_24 : decode cX1_runSlot 24 = .ok (.iaload, 1) := by decide +kernel
theorem dX1_runSlot_25 : decode cX1_runSlot 25 = .ok (.iconst (-1), 1) := by decide +kernel
theorem dX1_runSlot_26 : decode cX1_runSlot 26 = .ok (.if_icmp .ne 36, 3) := by decide +kernel
theorem dX1_runSlot_29 : decode cX1_runSlot 29 = .ok (.aload_n 0, 1) := by decide +kernel
theorem dX1_runSlot_30 : decode cX1_runSlot 30 = .ok (.aload_n 1, 1) := by decide +kernel
theorem dX1_runSlot_31 : decode cX1_runSlot 31 = .ok (.getfield 66, 3) := by decide +kernel
theorem dX1_runSlot_34 : decode cX1_runSlot 34 = .ok (.iload_n 3, 1) := by decide +kernel
theorem dX1_runSlot_35 : decode cX1_runSlot 35 = .ok (.iload_n 2, 1) := by decide +kernel
theorem dX1_runSlot_36 : decode cX1_runSlot 36 = .ok (.invokevirtual 70, 3) := by decide +kernel
theorem dX1_runSlot_39 : decode cX1_runSlot 39 = .ok (.aload_n 0, 1) := by decide +kernel
theorem dX1_runSlot_40 : decode cX1_runSlot 40 = .ok (.invokevirtual 74, 3) := by decide +kernel
theorem dX1_runSlot_43 : decode cX1_runSlot 43 = .ok (.istore 4, 2) := by decide +kernel
theorem dX1_runSlot_45 : decode cX1_runSlot 45 = .ok (.iload 4, 2) := by decide +kernel
theorem dX1_runSlot_47 : decode cX1_runSlot 47 = .ok (.iconst (-1), 1) := by decide +kernel
theorem dX1_runSlot_48 : decode cX1_runSlot 48 = .ok (.if_icmp .eq 14, 3) := by decide +kernel
theorem dX1_runSlot_51 : decode cX1_runSlot 51 = .ok (.aload_n 0, 1) := by decide +kernel
theorem dX1_runSlot_52 : decode cX1_runSlot 52 = .ok (.aload_n 1, 1) := by decide +kernel
theorem dX1_runSlot_53 : decode cX1_runSlot 53 = .ok (.iload_n 3, 1) := by decide +kernel
theorem dX1_runSlot_54 : decode cX1_runSlot 54 = .ok (.iload 4, 2) := by decide +kernel
theorem dX1_runSlot_56 : decode cX1_runSlot 56 = .ok (.iload_n 2, 1) := by decide +kernel
theorem dX1_runSlot_57 : decode cX1_runSlot 57 = .ok (.iconst 1, 1) := by decide +kernel
theorem dX1_runSlot_58 : decode cX1_runSlot 58 = .ok (.iadd, 1) := by decide +kernel
theorem dX1_runSlot_59 : decode cX1_runSlot 59 = .ok (.invokevirtual 45, 3) := by decide +kernel
theorem dX1_runSlot_62 : decode cX1_runSlot 62 = .ok (.iinc 3 1, 3) := by decide +kernel
theorem dX1_runSlot_65 : decode cX1_runSlot 65 = .ok (.goto (-63), 3) := by decide +kernel
theorem dX1_runSlot_68 : decode cX1_runSlot 68 = .ok (.return_, 1) := by decide +kernel
set_option maxRecDepth 20000 in
theorem ggX1_measureLevels_J7_fill_53178 : GoodIn wsX1_measureLevels wsJ7_fill_53178 := goodIn_r _ [10] (by decide +kernel) (by decide +kernel)
set_option maxRecDepth 20000 in
theorem gX1_measureLevels_J7_fill_53178 : GoodIn wsX1_measureLevels (va_wsS RX1 31 yJ7_fill_53178 wsJ7_fill_53178) := goodIn_app (goodIn_of _ (by decide +kernel)) ggX1_measureLevels_J7_fill_53178
set_option maxRecDepth 20000 in
theorem ggX1_measureLevels_X1_transmits : GoodIn wsX1_measureLevels wsX1_transmits := goodIn_r _ [15, 2, 16, 17, 25, 26, 27, 28, 29, 30] (by decide +kernel) (by decide +kernel)
set_option maxRecDepth 20000 in
theorem gX1_measureLevels_X1_transmits : GoodIn wsX1_measureLevels (wsV RX1 78 RX1 yX1_transmits wsX1_transmits) := goodIn_app (goodIn_of _ (by decide +kernel)) ggX1_measureLevels_X1_transmits
set_option maxRecDepth 20000 in
theorem ggX1_measureLevels_X2_signal : GoodIn wsX1_measureLevels wsX2_signal := goodIn_r _ [22, 23, 24, 31, 32] (by decide +kernel) (by decide +kernel)
set_option maxRecDepth 20000 in
theorem gX1_measureLevels_X2_signal : GoodIn wsX1_measureLevels (wsV RX1 82 RX2 yX2_signal wsX2_signal) := goodIn_app (goodIn_of _ (by decide +kernel)) ggX1_measureLevels_X2_signal
theorem dX1_measureLevels_0 : decode cX1_measureLevels 0 = .ok (.aload_n 0, 1) := by decide +kernel
theorem dX1_measureLevels_1 : decode cX1_measureLevels 1 = .ok (.getfield 9, 3) := by decide +kernel
theorem dX1_measureLevels_4 : decode cX1_measureLevels 4 = .ok (.iconst 0, 1) := by decide +kernel
theorem dX1_measureLevels_5 : decode cX1_measureLevels 5 = .ok (.invokestatic 31, 3) := by decide +kernel
theorem dX1_measureLevels_8 : decode cX1_measureLevels 8 = .ok (.iconst 0, 1) := by decide +kernel
theorem dX1_measureLevels_9 : decode cX1_measureLevels 9 = .ok (.istore 4, 2) := by decide +kernel
theorem dX1_measureLevels_11 : decode cX1_measureLevels 11 = .ok (.iload 4, 2) := by decide +kernel
theorem dX1_measureLevels_13 : decode cX1_measureLevels 13 = .ok (.bipush 8, 2) := by decide +kernel
theorem dX1_measureLevels_15 : decode cX1_measureLevels 15 = .ok (.if_icmp .ge 53, 3) := by decide +kernel
theorem dX1_measureLevels_18 : decode cX1_measureLevels 18 = .ok (.aload_n 0, 1) := by decide +kernel
theorem dX1_measureLevels_19 : decode cX1_measureLevels 19 = .ok (.iload 4, 2) := by decide +kernel
theorem dX1_measureLevels_21 : decode cX1_measureLevels 21 = .ok (.iload_n 3, 1) := by decide +kernel
theorem dX1_measureLevels_22 : decode cX1_measureLevels 22 = .ok (.invokevirtual 78, 3) := by decide +kernel
theorem dX1_measureLevels_25 : decode cX1_measureLevels 25 = .ok (.ifCond .eq 37, 3) := by decide +kernel
theorem dX1_measureLevels_28 : decode cX1_measureLevels 28 = .ok (.aload_n 0, 1) := by decide +kernel
theorem dX1_measureLevels_29 : decode cX1_measureLevels 29 = .ok (.getfield 15, 3) := by decide +kernel
theorem dX1_measureLevels_32 : decode cX1_measureLevels 32 = .ok (.iload 4, 2) := by decide +kernel
theorem dX1_measureLevels_34 : decode cX1_measureLevels 34 = .ok (.iaload, 1) := by decide +kernel
theorem dX1_measureLevels_35 : decode cX1_measureLevels 35 = .ok (.istore 5, 2) := by decide +kernel
theorem dX1_measureLevels_37 : decode cX1_measureLevels 37 = .ok (.aload_n 0, 1) := by decide +kernel
theorem dX1_measureLevels_38 : decode cX1_measureLevels 38 = .ok (.getfield 9, 3) := by decide +kernel
theorem dX1_measureLevels_41 : decode cX1_measureLevels 41 = .ok (.iload 5, 2) := by decide +kernel
theorem dX1_measureLevels_43 : decode cX1_measureLevels 43 = .ok (.aload_n 0, 1) := by decide +kernel
theorem dX1_measureLevels_44 : decode cX1_measureLevels 44 = .ok (.getfield 9, 3) := by decide +kernel
theorem dX1_measureLevels_47 : decode cX1_measureLevels 47 = .ok (.iload 5, 2) := by decide +kernel
theorem dX1_measureLevels_49 : decode cX1_measureLevels 49 = .ok (.iaload, 1) := by decide +kernel
theorem dX1_measureLevels_50 : decode cX1_measureLevels 50 = .ok (.aload_n 1, 1) := by decide +kernel
theorem dX1_measureLevels_51 : decode cX1_measureLevels 51 = .ok (.iload 4, 2) := by decide +kernel
theorem dX1_measureLevels_53 : decode cX1_measureLevels 53 = .ok (.iload_n 2, 1) := by decide +kernel
theorem dX1_measureLevels_54 : decode cX1_measureLevels 54 = .ok (.iload_n 3, 1) := by decide +kernel
theorem dX1_measureLevels_55 : decode cX1_measureLevels 55 = .ok (.invokevirtual 82, 3) := by decide +kernel
theorem dX1_measureLevels_58 : decode cX1_measureLevels 58 = .ok (.invokestatic 56, 3) := by decide +kernel
theorem dX1_measureLevels_61 : decode cX1_measureLevels 61 = .ok (.iastore, 1) := by decide +kernel
theorem dX1_measureLevels_62 : decode cX1_measureLevels 62 = .ok (.iinc 4 1, 3) := by decide +kernel
theorem dX1_measureLevels_65 : decode cX1_measureLevels 65 = .ok (.goto (-54), 3) := by decide +kernel
theorem dX1_measureLevels_68 : decode cX1_measureLevels 68 = .ok (.return_, 1) := by decide +kernel
theorem dX1_transmits_0 : decode cX1_transmits 0 = .ok (.aload_n 0, 1) := by decide +kernel
theorem dX1_transmits_1 : decode cX1_transmits 1 = .ok (.getfield 15, 3) := by decide +kernel
theorem dX1_transmits_4 : decode cX1_transmits 4 = .ok (.iload_n 1, 1) := by decide +kernel
theorem dX1_transmits_5 : decode cX1_transmits 5 = .ok (.iaload, 1) := by decide +kernel
theorem dX1_transmits_6 : decode cX1_transmits 6 = .ok (.iconst (-1), 1) := by decide +kernel
theorem dX1_transmits_7 : decode cX1_transmits 7 = .ok (.if_icmp .ne 5, 3) := by decide +kernel
theorem dX1_transmits_10 : decode cX1_transmits 10 = .ok (.iconst 0, 1) := by decide +kernel
theorem dX1_transmits_11 : decode cX1_transmits 11 = .ok (.ireturn, 1) := by decide +kernel
theorem dX1_transmits_12 : decode cX1_transmits 12 = .ok (.iload_n 2, 1) := by decide +kernel
theorem dX1_transmits_13 : decode cX1_transmits 13 = .ok (.aload_n 0, 1) := by decide +kernel
theorem dX1_transmits_14 : decode cX1_transmits 14 = .ok (.getfield 18, 3) := by decide +kernel
theorem dX1_transmits_17 : decode cX1_transmits 17 = .ok (.iload_n 1, 1) := by decide +kernel
theorem dX1_transmits_18 : decode cX1_transmits 18 = .ok (.iaload, 1) := by decide +kernel
theorem dX1_transmits_19 : decode cX1_transmits 19 = .ok (.isub, 1) := by decide +kernel
theorem dX1_transmits_20 : decode cX1_transmits 20 = .ok (.istore_n 3, 1) := by decide +kernel
theorem dX1_transmits_21 : decode cX1_transmits 21 = .ok (.iload_n 3, 1) := by decide +kernel
theorem dX1_transmits_22 : decode cX1_transmits 22 = .ok (.ifCond .lt 23, 3) := by decide +kernel
theorem dX1_transmits_25 : decode cX1_transmits 25 = .ok (.iload_n 3, 1) := by decide +kernel
theorem dX1_transmits_26 : decode cX1_transmits 26 = .ok (.iconst 2, 1) := by decide +kernel
theorem dX1_transmits_27 : decode cX1_transmits 27 = .ok (.irem, 1) := by decide +kernel
theorem dX1_transmits_28 : decode cX1_transmits 28 = .ok (.ifCond .ne 17, 3) := by decide +kernel
theorem dX1_transmits_31 : decode cX1_transmits 31 = .ok (.iload_n 3, 1) := by decide +kernel
theorem dX1_transmits_32 : decode cX1_transmits 32 = .ok (.iconst 2, 1) := by decide +kernel
theorem dX1_transmits_33 : decode cX1_transmits 33 = .ok (.idiv, 1) := by decide +kernel
theorem dX1_transmits_34 : decode cX1_transmits 34 = .ok (.aload_n 0, 1) := by decide +kernel
theorem dX1_transmits_35 : decode cX1_transmits 35 = .ok (.getfield 25, 3) := by decide +kernel
theorem dX1_transmits_38 : decode cX1_transmits 38 = .ok (.if_icmp .ge 7, 3) := by decide +kernel
theorem dX1_transmits_41 : decode cX1_transmits 41 = .ok (.iconst 1, 1) := by decide +kernel
theorem dX1_transmits_42 : decode cX1_transmits 42 = .ok (.goto 4, 3) := by decide +kernel
theorem dX1_transmits_45 : decode cX1_transmits 45 = .ok (.iconst 0, 1) := by decide +kernel
theorem dX1_transmits_46 : decode cX1_transmits 46 = .ok (.ireturn, 1) := by decide +kernel
theorem dX1_capturedPacket_0 : decode cX1_capturedPacket 0 = .ok (.iconst (-1), 1) := by decide +kernel
theorem dX1_capturedPacket_1 : decode cX1_capturedPacket 1 = .ok (.istore_n 1, 1) := by decide +kernel
theorem dX1_capturedPacket_2 : decode cX1_capturedPacket 2 = .ok (.iconst 0, 1) := by decide +kernel
theorem dX1_capturedPacket_3 : decode cX1_capturedPacket 3 = .ok (.istore_n 2, 1) := by decide +kernel
theorem dX1_capturedPacket_4 : decode cX1_capturedPacket 4 = .ok (.iconst 0, 1) := by decide +kernel
theorem dX1_capturedPacket_5 : decode cX1_capturedPacket 5 = .ok (.istore_n 3, 1) := by decide +kernel
theorem dX1_capturedPacket_6 : decode cX1_capturedPacket 6 = .ok (.iconst 0, 1) := by decide +kernel
theorem dX1_capturedPacket_7 : decode cX1_capturedPacket 7 = .ok (.istore 4, 2) := by decide +kernel
theorem dX1_capturedPacket_9 : decode cX1_capturedPacket 9 = .ok (.iload 4, 2) := by decide +kernel
theorem dX1_capturedPacket_11 : decode cX1_capturedPacket 11 = .ok (.bipush 8, 2) := by decide +kernel
theorem dX1_capturedPacket_13 : decode cX1_capturedPacket 13 = .ok (.if_icmp .ge 55, 3) := by decide +kernel
theorem dX1_capturedPacket_16 : decode cX1_capturedPacket 16 = .ok (.aload_n 0, 1) := by decide +kernel
theorem dX1_capturedPacket_17 : decode cX1_capturedPacket 17 = .ok (.getfield 9, 3) := by decide +kernel
theorem dX1_capturedPacket_20 : decode cX1_capturedPacket 20 = .ok (.iload 4, 2) := by decide +kernel
theorem dX1_capturedPacket_22 : decode cX1_capturedPacket 22 = .ok (.iaload, 1) := by decide +kernel
theorem dX1_capturedPacket_23 : decode cX1_capturedPacket 23 = .ok (.iload_n 2, 1) := by decide +kernel
theorem dX1_capturedPacket_24 : decode cX1_capturedPacket 24 = .ok (.if_icmp .le 19, 3) := by decide +kernel
theorem dX1_capturedPacket_27 : decode cX1_capturedPacket 27 = .ok (.iload_n 2, 1) := by decide +kernel
theorem dX1_capturedPacket_28 : decode cX1_capturedPacket 28 = .ok (.istore_n 3, 1) := by decide +kernel
theorem dX1_capturedPacket_29 : decode cX1_capturedPacket 29 = .ok (.aload_n 0, 1) := by decide +kernel
theorem dX1_capturedPacket_30 : decode cX1_capturedPacket 30 = .ok (.getfield 9, 3) := by decide +kernel
theorem dX1_capturedPacket_33 : decode cX1_capturedPacket 33 = .ok (.iload 4, 2) := by decide +kernel
theorem dX1_capturedPacket_35 : decode cX1_capturedPacket 35 = .ok (.iaload, 1) := by decide +kernel
theorem dX1_capturedPacket_36 : decode cX1_capturedPacket 36 = .ok (.istore_n 2, 1) := by decide +kernel
theorem dX1_capturedPacket_37 : decode cX1_capturedPacket 37 = .ok (.iload 4, 2) := by decide +kernel
theorem dX1_capturedPacket_39 : decode cX1_capturedPacket 39 = .ok (.istore_n 1, 1) := by decide +kernel
theorem dX1_capturedPacket_40 : decode cX1_capturedPacket 40 = .ok (.goto 22, 3) := by decide +kernel
theorem dX1_capturedPacket_43 : decode cX1_capturedPacket 43 = .ok (.aload_n 0, 1) := by decide +kernel
theorem dX1_capturedPacket_44 : decode cX1_capturedPacket 44 = .ok (.getfield 9, 3) := by decide +kernel
theorem dX1_capturedPacket_47 : decode cX1_capturedPacket 47 = .ok (.iload 4, 2) := by decide +kernel
theorem dX1_capturedPacket_49 : decode cX1_capturedPacket 49 = .ok (.iaload, 1) := by decide +kernel
theorem dX1_capturedPacket_50 : decode cX1_capturedPacket 50 = .ok (.iload_n 3, 1) := by decide +kernel
theorem dX1_capturedPacket_51 : decode cX1_capturedPacket 51 = .ok (.if_icmp .le 11, 3) := by decide +kernel
theorem dX1_capturedPacket_54 : decode cX1_capturedPacket 54 = .ok (.aload_n 0, 1) := by decide +kernel
theorem dX1_capturedPacket_55 : decode cX1_capturedPacket 55 = .ok (.getfield 9, 3) := by decide +kernel
theorem dX1_capturedPacket_58 : decode cX1_capturedPacket 58 = .ok (.iload 4, 2) := by decide +kernel
theorem dX1_capturedPacket_60 : decode cX1_capturedPacket 60 = .ok (.iaload, 1) := by decide +kernel
theorem dX1_capturedPacket_61 : decode cX1_capturedPacket 61 = .ok (.istore_n 3, 1) := by decide +kernel
theorem dX1_capturedPacket_62 : decode cX1_capturedPacket 62 = .ok (.iinc 4 1, 3) := by decide +kernel
theorem dX1_capturedPacket_65 : decode cX1_capturedPacket 65 = .ok (.goto (-56), 3) := by decide +kernel
theorem dX1_capturedPacket_68 : decode cX1_capturedPacket 68 = .ok (.iload_n 3, 1) := by decide +kernel
theorem dX1_capturedPacket_69 : decode cX1_capturedPacket 69 = .ok (.ifCond .ne 7, 3) := by decide +kernel
theorem dX1_capturedPacket_72 : decode cX1_capturedPacket 72 = .ok (.iconst 1, 1) := by decide +kernel
theorem dX1_capturedPacket_73 : decode cX1_capturedPacket 73 = .ok (.goto 4, 3) := by decide +kernel
theorem dX1_capturedPacket_76 : decode cX1_capturedPacket 76 = .ok (.iconst 0, 1) := by decide +kernel
theorem dX1_capturedPacket_77 : decode cX1_capturedPacket 77 = .ok (.istore 4, 2) := by decide +kernel
theorem dX1_capturedPacket_79 : decode cX1_capturedPacket 79 = .ok (.iload 4, 2) := by decide +kernel
theorem dX1_capturedPacket_81 : decode cX1_capturedPacket 81 = .ok (.ifCond .ne 13, 3) := by decide +kernel
theorem dX1_capturedPacket_84 : decode cX1_capturedPacket 84 = .ok (.iload_n 2, 1) := by decide +kernel
theorem dX1_capturedPacket_85 : decode cX1_capturedPacket 85 = .ok (.iload_n 3, 1) := by decide +kernel
theorem dX1_capturedPacket_86 : decode cX1_capturedPacket 86 = .ok (.isub, 1) := by decide +kernel
theorem dX1_capturedPacket_87 : decode cX1_capturedPacket 87 = .ok (.aload_n 0, 1) := by decide +kernel
theorem dX1_capturedPacket_88 : decode cX1_capturedPacket 88 = .ok (.getfield 28, 3) := by decide +kernel
theorem dX1_capturedPacket_91 : decode cX1_capturedPacket 91 = .ok (.if_icmp .lt 7, 3) := by decide +kernel
theorem dX1_capturedPacket_94 : decode cX1_capturedPacket 94 = .ok (.iload_n 1, 1) := by decide +kernel
theorem dX1_capturedPacket_95 : decode cX1_capturedPacket 95 = .ok (.goto 4, 3) := by decide +kernel
theorem dX1_capturedPacket_98 : decode cX1_capturedPacket 98 = .ok (.iconst (-1), 1) := by decide +kernel
theorem dX1_capturedPacket_99 : decode cX1_capturedPacket 99 = .ok (.ireturn, 1) := by decide +kernel
theorem dX2_init_0 : decode cX2_init 0 = .ok (.aload_n 0, 1) := by decide +kernel
theorem dX2_init_1 : decode cX2_init 1 = .ok (.invokespecial 3, 3) := by decide +kernel
theorem dX2_init_4 : decode cX2_init 4 = .ok (.aload_n 0, 1) := by decide +kernel
theorem dX2_init_5 : decode cX2_init 5 = .ok (.bipush 8, 2) := by decide +kernel
theorem dX2_init_7 : decode cX2_init 7 = .ok (.bipush 8, 2) := by decide +kernel
theorem dX2_init_9 : decode cX2_init 9 = .ok (.multianewarray 9 2, 4) := by decide +kernel
theorem dX2_init_13 : decode cX2_init 13 = .ok (.putfield 11, 3) := by decide +kernel
theorem dX2_init_16 : decode cX2_init 16 = .ok (.aload_n 0, 1) := by decide +kernel
theorem dX2_init_17 : decode cX2_init 17 = .ok (.bipush 8, 2) := by decide +kernel
theorem dX2_init_19 : decode cX2_init 19 = .ok (.bipush 8, 2) := by decide +kernel
theorem dX2_init_21 : decode cX2_init 21 = .ok (.multianewarray 9 2, 4) := by decide +kernel
theorem dX2_init_25 : decode cX2_init 25 = .ok (.putfield 16, 3) := by decide +kernel
theorem dX2_init_28 : decode cX2_init 28 = .ok (.return_, 1) := by decide +kernel
set_option maxRecDepth 20000 in
theorem ggX2_clear_J7_fill_53178 : GoodIn wsX2_clear wsJ7_fill_53178 := goodIn_r _ [6] (by decide +kernel) (by decide +kernel)
set_option maxRecDepth 20000 in
theorem gX2_clear_J7_fill_53178 : GoodIn wsX2_clear (va_wsS RX2 19 yJ7_fill_53178 wsJ7_fill_53178) := goodIn_app (goodIn_of _ (by decide +kernel)) ggX2_clear_J7_fill_53178
theorem dX2_clear_0 : decode cX2_clear 0 = .ok (.iconst 0, 1) := by decide +kernel
theorem dX2_clear_1 : decode cX2_clear 1 = .ok (.istore_n 1, 1) := by decide +kernel
theorem dX2_clear_2 : decode cX2_clear 2 = .ok (.iload_n 1, 1) := by decide +kernel
theorem dX2_clear_3 : decode cX2_clear 3 = .ok (.bipush 8, 2) := by decide +kernel
theorem dX2_clear_5 : decode cX2_clear 5 = .ok (.if_icmp .ge 29, 3) := by decide +kernel
theorem dX2_clear_8 : decode cX2_clear 8 = .ok (.aload_n 0, 1) := by decide +kernel
theorem dX2_clear_9 : decode cX2_clear 9 = .ok (.getfield 11, 3) := by decide +kernel
theorem dX2_clear_12 : decode cX2_clear 12 = .ok (.iload_n 1, 1) := by decide +kernel
theorem dX2_clear_13 : decode cX2_clear 13 = .ok (.aaload, 1) := by decide +kernel
theorem dX2_clear_14 : decode cX2_clear 14 = .ok (.iconst 0, 1) := by decide +kernel
theorem dX2_clear_15 : decode cX2_clear 15 = .ok (.invokestatic 19, 3) := by decide +kernel
theorem dX2_clear_18 : decode cX2_clear 18 = .ok (.aload_n 0, 1) := by decide +kernel
theorem dX2_clear_19 : decode cX2_clear 19 = .ok (.getfield 16, 3) := by decide +kernel
theorem dX2_clear_22 : decode cX2_clear 22 = .ok (.iload_n 1, 1) := by decide +kernel
theorem dX2_clear_23 : decode cX2_clear 23 = .ok (.aaload, 1) := by decide +kernel
theorem dX2_clear_24 : decode cX2_clear 24 = .ok (.iconst 0, 1) := by decide +kernel
theorem dX2_clear_25 : decode cX2_clear 25 = .ok (.invokestatic 19, 3) := by decide +kernel
theorem dX2_clear_28 : decode cX2_clear 28 = .ok (.iinc 1 1, 3) := by decide +kernel
theorem dX2_clear_31 : decode cX2_clear 31 = .ok (.goto (-29), 3) := by decide +kernel
theorem dX2_clear_34 : decode cX2_clear 34 = .ok (.return_, 1) := by decide +kernel
theorem dX2_copyFrom_0 : decode cX2_copyFrom 0 = .ok (.iconst 0, 1) := by decide +kernel
theorem dX2_copyFrom_1 : decode cX2_copyFrom 1 = .ok (.istore_n 2, 1) := by decide +kernel
theorem dX2_copyFrom_2 : decode cX2_copyFrom 2 = .ok (.iload_n 2, 1) := by decide +kernel
theorem dX2_copyFrom_3 : decode cX2_copyFrom 3 = .ok (.bipush 8, 2) := by decide +kernel
theorem dX2_copyFrom_5 : decode cX2_copyFrom 5 = .ok (.if_icmp .ge 47, 3) := by decide +kernel
theorem dX2_copyFrom_8 : decode cX2_copyFrom 8 = .ok (.aload_n 1, 1) := by decide +kernel
theorem dX2_copyFrom_9 : decode cX2_copyFrom 9 = .ok (.getfield 11, 3) := by decide +kernel
theorem dX2_copyFrom_12 : decode cX2_copyFrom 12 = .ok (.iload_n 2, 1) := by decide +kernel
theorem dX2_copyFrom_13 : decode cX2_copyFrom 13 = .ok (.aaload, 1) := by decide +kernel
theorem dX2_copyFrom_14 : decode cX2_copyFrom 14 = .ok (.iconst 0, 1) := by decide +kernel
theorem dX2_copyFrom_15 : decode cX2_copyFrom 15 = .ok (.aload_n 0, 1) := by decide +kernel
theorem dX2_copyFrom_16 : decode cX2_copyFrom 16 = .ok (.getfield 11, 3) := by decide +kernel
theorem dX2_copyFrom_19 : decode cX2_copyFrom 19 = .ok (.iload_n 2, 1) := by decide +kernel
theorem dX2_copyFrom_20 : decode cX2_copyFrom 20 = .ok (.aaload, 1) := by decide +kernel
theorem dX2_copyFrom_21 : decode cX2_copyFrom 21 = .ok (.iconst 0, 1) := by decide +kernel
theorem dX2_copyFrom_22 : decode cX2_copyFrom 22 = .ok (.bipush 8, 2) := by decide +kernel
theorem dX2_copyFrom_24 : decode cX2_copyFrom 24 = .ok (.invokestatic 25, 3) := by decide +kernel
theorem dX2_copyFrom_27 : decode cX2_copyFrom 27 = .ok (.aload_n 1, 1) := by decide +kernel
theorem dX2_copyFrom_28 : decode cX2_copyFrom 28 = .ok (.getfield 16, 3) := by decide +kernel
theorem dX2_copyFrom_31 : decode cX2_copyFrom 31 = .ok (.iload_n 2, 1) := by decide +kernel
theorem dX2_copyFrom_32 : decode cX2_copyFrom 32 = .ok (.aaload, 1) := by decide +kernel
theorem dX2_copyFrom_33 : decode cX2_copyFrom 33 = .ok (.iconst 0, 1) := by decide +kernel
theorem dX2_copyFrom_34 : decode cX2_copyFrom 34 = .ok (.aload_n 0, 1) := by decide +kernel
theorem dX2_copyFrom_35 : decode cX2_copyFrom 35 = .ok (.getfield 16, 3) := by decide +kernel
theorem dX2_copyFrom_38 : decode cX2_copyFrom 38 = .ok (.iload_n 2, 1) := by decide +kernel
theorem dX2_copyFrom_39 : decode cX2_copyFrom 39 = .ok (.aaload, 1) := by decide +kernel
theorem dX2_copyFrom_40 : decode cX2_copyFrom 40 = .ok (.iconst 0, 1) := by decide +kernel
theorem dX2_copyFrom_41 : decode cX2_copyFrom 41 = .ok (.bipush 8, 2) := by decide +kernel
theorem dX2_copyFrom_43 : decode cX2_copyFrom 43 = .ok (.invokestatic 25, 3) := by decide +kernel
theorem dX2_copyFrom_46 : decode cX2_copyFrom 46 = .ok (.iinc 2 1, 3) := by decide +kernel
theorem dX2_copyFrom_49 : decode cX2_copyFrom 49 = .ok (.goto (-47), 3) := by decide +kernel
theorem dX2_copyFrom_52 : decode cX2_copyFrom 52 = .ok (.return_, 1) := by decide +kernel
theorem dX2_join_0 : decode cX2_join 0 = .ok (.aload_n 0, 1) := by decide +kernel
theorem dX2_join_1 : decode cX2_join 1 = .ok (.getfield 11, 3) := by decide +kernel
theorem dX2_join_4 : decode cX2_join 4 = .ok (.iload_n 1, 1) := by decide +kernel
theorem dX2_join_5 : decode cX2_join 5 = .ok (.aaload, 1) := by decide +kernel
theorem dX2_join_6 : decode cX2_join 6 = .ok (.iload_n 2, 1) := by decide +kernel
theorem dX2_join_7 : decode cX2_join 7 = .ok (.iaload, 1) := by decide +kernel
theorem dX2_join_8 : decode cX2_join 8 = .ok (.ifCond .eq 7, 3) := by decide +kernel
theorem dX2_join_11 : decode cX2_join 11 = .ok (.iconst 1, 1) := by decide +kernel
theorem dX2_join_12 : decode cX2_join 12 = .ok (.goto 4, 3) := by decide +kernel
theorem dX2_join_15 : decode cX2_join 15 = .ok (.iconst 0, 1) := by decide +kernel
theorem dX2_join_16 : decode cX2_join 16 = .ok (.ireturn, 1) := by decide +kernel
theorem dX2_setStrength_0 : decode cX2_setStrength 0 = .ok (.aload_n 0, 1) := by decide +kernel
theorem dX2_setStrength_1 : decode cX2_setStrength 1 = .ok (.getfield 11, 3) := by decide +kernel
theorem dX2_setStrength_4 : decode cX2_setStrength 4 = .ok (.iload_n 1, 1) := by decide +kernel
theorem dX2_setStrength_5 : decode cX2_setStrength 5 = .ok (.aaload, 1) := by decide +kernel
theorem dX2_setStrength_6 : decode cX2_setStrength 6 = .ok (.iload_n 2, 1) := by decide +kernel
theorem dX2_setStrength_7 : decode cX2_setStrength 7 = .ok (.iload_n 3, 1) := by decide +kernel
theorem dX2_setStrength_8 : decode cX2_setStrength 8 = .ok (.iastore, 1) := by decide +kernel
theorem dX2_setStrength_9 : decode cX2_setStrength 9 = .ok (.aload_n 0, 1) := by decide +kernel
theorem dX2_setStrength_10 : decode cX2_setStrength 10 = .ok (.getfield 11, 3) := by decide +kernel
theorem dX2_setStrength_13 : decode cX2_setStrength 13 = .ok (.iload_n 2, 1) := by decide +kernel
theorem dX2_setStrength_14 : decode cX2_setStrength 14 = .ok (.aaload, 1) := by decide +kernel
theorem dX2_setStrength_15 : decode cX2_setStrength 15 = .ok (.iload_n 1, 1) := by decide +kernel
theorem dX2_setStrength_16 : decode cX2_setStrength 16 = .ok (.iload_n 3, 1) := by decide +kernel
theorem dX2_setStrength_17 : decode cX2_setStrength 17 = .ok (.iastore, 1) := by decide +kernel
theorem dX2_setStrength_18 : decode cX2_setStrength 18 = .ok (.return_, 1) := by decide +kernel
theorem dX2_setLossPeriod_0 : decode cX2_setLossPeriod 0 = .ok (.aload_n 0, 1) := by decide +kernel
theorem dX2_setLossPeriod_1 : decode cX2_setLossPeriod 1 = .ok (.getfield 16, 3) := by decide +kernel
theorem dX2_setLossPeriod_4 : decode cX2_setLossPeriod 4 = .ok (.iload_n 1, 1) := by decide +kernel
theorem dX2_setLossPeriod_5 : decode cX2_setLossPeriod 5 = .ok (.aaload, 1) := by decide +kernel
theorem dX2_setLossPeriod_6 : decode cX2_setLossPeriod 6 = .ok (.iload_n 2, 1) := by decide +kernel
theorem dX2_setLossPeriod_7 : decode cX2_setLossPeriod 7 = .ok (.iload_n 3, 1) := by decide +kernel
theorem dX2_setLossPeriod_8 : decode cX2_setLossPeriod 8 = .ok (.iastore, 1) := by decide +kernel
theorem dX2_setLossPeriod_9 : decode cX2_setLossPeriod 9 = .ok (.aload_n 0, 1) := by decide +kernel
theorem dX2_setLossPeriod_10 : decode cX2_setLossPeriod 10 = .ok (.getfield 16, 3) := by decide +kernel
theorem dX2_setLossPeriod_13 : decode cX2_setLossPeriod 13 = .ok (.iload_n 2, 1) := by decide +kernel
theorem dX2_setLossPeriod_14 : decode cX2_setLossPeriod 14 = .ok (.aaload, 1) := by decide +kernel
theorem dX2_setLossPeriod_15 : decode cX2_setLossPeriod 15 = .ok (.iload_n 1, 1) := by decide +kernel
theorem dX2_setLossPeriod_16 : decode cX2_setLossPeriod 16 = .ok (.iload_n 3, 1) := by decide +kernel
theorem dX2_setLossPeriod_17 : decode cX2_setLossPeriod 17 = .ok (.iastore, 1) := by decide +kernel
theorem dX2_setLossPeriod_18 : decode cX2_setLossPeriod 18 = .ok (.return_, 1) := by decide +kernel
theorem dX2_signal_0 : decode cX2_signal 0 = .ok (.aload_n 0, 1) := by decide +kernel
theorem dX2_signal_1 : decode cX2_signal 1 = .ok (.getfield 16, 3) := by decide +kernel
theorem dX2_signal_4 : decode cX2_signal 4 = .ok (.iload_n 1, 1) := by decide +kernel
theorem dX2_signal_5 : decode cX2_signal 5 = .ok (.aaload, 1) := by decide +kernel
theorem dX2_signal_6 : decode cX2_signal 6 = .ok (.iload_n 2, 1) := by decide +kernel
theorem dX2_signal_7 : decode cX2_signal 7 = .ok (.iaload, 1) := by decide +kernel
theorem dX2_signal_8 : decode cX2_signal 8 = .ok (.istore 4, 2) := by decide +kernel
theorem dX2_signal_10 : decode cX2_signal 10 = .ok (.iload 4, 2) := by decide +kernel
theorem dX2_signal_12 : decode cX2_signal 12 = .ok (.ifCond .le 14, 3) := by decide +kernel
theorem dX2_signal_15 : decode cX2_signal 15 = .ok (.iload_n 3, 1) := by decide +kernel
theorem dX2_signal_16 : decode cX2_signal 16 = .ok (.iconst 1, 1) := by decide +kernel
theorem dX2_signal_17 : decode cX2_signal 17 = .ok (.iadd, 1) := by decide +kernel
theorem dX2_signal_18 : decode cX2_signal 18 = .ok (.iload 4, 2) := by decide +kernel
theorem dX2_signal_20 : decode cX2_signal 20 = .ok (.irem, 1) := by decide +kernel
theorem dX2_signal_21 : decode cX2_signal 21 = .ok (.ifCond .ne 5, 3) := by decide +kernel
theorem dX2_signal_24 : decode cX2_signal 24 = .ok (.iconst 0, 1) := by decide +kernel
theorem dX2_signal_25 : decode cX2_signal 25 = .ok (.ireturn, 1) := by decide +kernel
theorem dX2_signal_26 : decode cX2_signal 26 = .ok (.aload_n 0, 1) := by decide +kernel
theorem dX2_signal_27 : decode cX2_signal 27 = .ok (.getfield 11, 3) := by decide +kernel
theorem dX2_signal_30 : decode cX2_signal 30 = .ok (.iload_n 1, 1) := by decide +kernel
theorem dX2_signal_31 : decode cX2_signal 31 = .ok (.aaload, 1) := by decide +kernel
theorem dX2_signal_32 : decode cX2_signal 32 = .ok (.iload_n 2, 1) := by decide +kernel
theorem dX2_signal_33 : decode cX2_signal 33 = .ok (.iaload, 1) := by decide +kernel
theorem dX2_signal_34 : decode cX2_signal 34 = .ok (.ireturn, 1) := by decide +kernel
set_option maxRecDepth 20000 in
theorem ggX3_init_X2_init : GoodIn wsX3_init wsX2_init := goodIn_r _ [16, 17, 2, 3, 18, 11, 19, 20, 21, 22] (by decide +kernel) (by decide +kernel)
set_option maxRecDepth 20000 in
theorem gX3_init_X2_init_n11 : GoodIn wsX3_init (wsX2_init) := ggX3_init_X2_init
theorem dX3_init_0 : decode cX3_init 0 = .ok (.aload_n 0, 1) := by decide +kernel
theorem dX3_init_1 : decode cX3_init 1 = .ok (.invokespecial 3, 3) := by decide +kernel
theorem dX3_init_4 : decode cX3_init 4 = .ok (.aload_n 0, 1) := by decide +kernel
theorem dX3_init_5 : decode cX3_init 5 = .ok (.new 9, 3) := by decide +kernel
theorem dX3_init_8 : decode cX3_init 8 = .ok (.dup, 1) := by decide +kernel
theorem dX3_init_9 : decode cX3_init 9 = .ok (.invokespecial 11, 3) := by decide +kernel
theorem dX3_init_12 : decode cX3_init 12 = .ok (.putfield 12, 3) := by decide +kernel
theorem dX3_init_15 : decode cX3_init 15 = .ok (.aload_n 0, 1) := by decide +kernel
theorem dX3_init_16 : decode cX3_init 16 = .ok (.iconst 0, 1) := by decide +kernel
theorem dX3_init_17 : decode cX3_init 17 = .ok (.putfield 18, 3) := by decide +kernel
theorem dX3_init_20 : decode cX3_init 20 = .ok (.aload_n 0, 1) := by decide +kernel
theorem dX3_init_21 : decode cX3_init 21 = .ok (.bipush 8, 2) := by decide +kernel
theorem dX3_init_23 : decode cX3_init 23 = .ok (.newarray .boolean, 2) := by decide +kernel
theorem dX3_init_25 : decode cX3_init 25 = .ok (.putfield 22, 3) := by decide +kernel
theorem dX3_init_28 : decode cX3_init 28 = .ok (.aload_n 0, 1) := by decide +kernel
theorem dX3_init_29 : decode cX3_init 29 = .ok (.bipush 8, 2) := by decide +kernel
theorem dX3_init_31 : decode cX3_init 31 = .ok (.newarray .int, 2) := by decide +kernel
theorem dX3_init_33 : decode cX3_init 33 = .ok (.putfield 26, 3) := by decide +kernel
theorem dX3_init_36 : decode cX3_init 36 = .ok (.aload_n 0, 1) := by decide +kernel
theorem dX3_init_37 : decode cX3_init 37 = .ok (.bipush 8, 2) := by decide +kernel
theorem dX3_init_39 : decode cX3_init 39 = .ok (.newarray .int, 2) := by decide +kernel
theorem dX3_init_41 : decode cX3_init 41 = .ok (.putfield 30, 3) := by decide +kernel
theorem dX3_init_44 : decode cX3_init 44 = .ok (.aload_n 0, 1) := by decide +kernel
theorem dX3_init_45 : decode cX3_init 45 = .ok (.bipush 8, 2) := by decide +kernel
theorem dX3_init_47 : decode cX3_init 47 = .ok (.newarray .boolean, 2) := by decide +kernel
theorem dX3_init_49 : decode cX3_init 49 = .ok (.putfield 33, 3) := by decide +kernel
theorem dX3_init_52 : decode cX3_init 52 = .ok (.return_, 1) := by decide +kernel
set_option maxRecDepth 20000 in
theorem ggX3_startAnew_X2_copyFrom : GoodIn wsX3_startAnew wsX2_copyFrom := goodIn_r _ [10, 11, 12, 13, 14, 15, 16, 23, 24] (by decide +kernel) (by decide +kernel)
set_option maxRecDepth 20000 in
theorem gX3_startAnew_X2_copyFrom : GoodIn wsX3_startAnew (wsV RX3 36 RX2 yX2_copyFrom wsX2_copyFrom) := goodIn_app (goodIn_of _ (by decide +kernel)) ggX3_startAnew_X2_copyFrom
theorem dX3_startAnew_0 : decode cX3_startAnew 0 = .ok (.aload_n 0, 1) := by decide +kernel
theorem dX3_startAnew_1 : decode cX3_startAnew 1 = .ok (.getfield 12, 3) := by decide +kernel
theorem dX3_startAnew_4 : decode cX3_startAnew 4 = .ok (.aload_n 2, 1) := by decide +kernel
theorem dX3_startAnew_5 : decode cX3_startAnew 5 = .ok (.invokevirtual 36, 3) := by decide +kernel
theorem dX3_startAnew_8 : decode cX3_startAnew 8 = .ok (.aload_n 0, 1) := by decide +kernel
theorem dX3_startAnew_9 : decode cX3_startAnew 9 = .ok (.iload_n 1, 1) := by decide +kernel
theorem dX3_startAnew_10 : decode cX3_startAnew 10 = .ok (.putfield 18, 3) := by decide +kernel
theorem dX3_startAnew_13 : decode cX3_startAnew 13 = .ok (.iconst 0, 1) := by decide +kernel
theorem dX3_startAnew_14 : decode cX3_startAnew 14 = .ok (.istore_n 3, 1) := by decide +kernel
theorem dX3_startAnew_15 : decode cX3_startAnew 15 = .ok (.iload_n 3, 1) := by decide +kernel
theorem dX3_startAnew_16 : decode cX3_startAnew 16 = .ok (.bipush 8, 2) := by decide +kernel
theorem dX3_startAnew_18 : decode cX3_startAnew 18 = .ok (.if_icmp .ge 30, 3) := by decide +kernel
theorem dX3_startAnew_21 : decode cX3_startAnew 21 = .ok (.aload_n 0, 1) := by decide +kernel
theorem dX3_startAnew_22 : decode cX3_startAnew 22 = .ok (.getfield 22, 3) := by decide +kernel
theorem dX3_startAnew_25 : decode cX3_startAnew 25 = .ok (.iload_n 3, 1) := by decide +kernel
theorem dX3_startAnew_26 : decode cX3_startAnew 26 = .ok (.iconst 1, 1) := by decide +kernel
theorem dX3_startAnew_27 : decode cX3_startAnew 27 = .ok (.bastore, 1) := by decide +kernel
theorem dX3_startAnew_28 : decode cX3_startAnew 28 = .ok (.aload_n 0, 1) := by decide +kernel
theorem dX3_startAnew_29 : decode cX3_startAnew 29 = .ok (.getfield 26, 3) := by decide +kernel
theorem dX3_startAnew_32 : decode cX3_startAnew 32 = .ok (.iload_n 3, 1) := by decide +kernel
theorem dX3_startAnew_33 : decode cX3_startAnew 33 = .ok (.iconst 0, 1) := by decide +kernel
theorem dX3_startAnew_34 : decode cX3_startAnew 34 = .ok (.iastore, 1) := by decide +kernel
theorem dX3_startAnew_35 : decode cX3_startAnew 35 = .ok (.aload_n 0, 1) := by decide +kernel
theorem dX3_startAnew_36 : decode cX3_startAnew 36 = .ok (.getfield 30, 3) := by decide +kernel
theorem dX3_startAnew_39 : decode cX3_startAnew 39 = .ok (.iload_n 3, 1) := by decide +kernel
theorem dX3_startAnew_40 : decode cX3_startAnew 40 = .ok (.iconst 0, 1) := by decide +kernel
theorem dX3_startAnew_41 : decode cX3_startAnew 41 = .ok (.iastore, 1) := by decide +kernel
theorem dX3_startAnew_42 : decode cX3_startAnew 42 = .ok (.iinc 3 1, 3) := by decide +kernel
theorem dX3_startAnew_45 : decode cX3_startAnew 45 = .ok (.goto (-30), 3) := by decide +kernel
theorem dX3_startAnew_48 : decode cX3_startAnew 48 = .ok (.return_, 1) := by decide +kernel
theorem dX3_has_0 : decode cX3_has 0 = .ok (.iload_n 1, 1) := by decide +kernel
theorem dX3_has_1 : decode cX3_has 1 = .ok (.ifCond .lt 15, 3) := by decide +kernel
theorem dX3_has_4 : decode cX3_has 4 = .ok (.iload_n 1, 1) := by decide +kernel
theorem dX3_has_5 : decode cX3_has 5 = .ok (.aload_n 0, 1) := by decide +kernel
theorem dX3_has_6 : decode cX3_has 6 = .ok (.getfield 18, 3) := by decide +kernel
theorem dX3_has_9 : decode cX3_has 9 = .ok (.if_icmp .ge 7, 3) := by decide +kernel
theorem dX3_has_12 : decode cX3_has 12 = .ok (.iconst 1, 1) := by decide +kernel
theorem dX3_has_13 : decode cX3_has 13 = .ok (.goto 4, 3) := by decide +kernel
theorem dX3_has_16 : decode cX3_has 16 = .ok (.iconst 0, 1) := by decide +kernel
theorem dX3_has_17 : decode cX3_has 17 = .ok (.ireturn, 1) := by decide +kernel
theorem dX3_areAlive_0 : decode cX3_areAlive 0 = .ok (.iconst 0, 1) := by decide +kernel
theorem dX3_areAlive_1 : decode cX3_areAlive 1 = .ok (.istore_n 2, 1) := by decide +kernel
theorem dX3_areAlive_2 : decode cX3_areAlive 2 = .ok (.iload_n 2, 1) := by decide +kernel
theorem dX3_areAlive_3 : decode cX3_areAlive 3 = .ok (.aload_n 0, 1) := by decide +kernel
theorem dX3_areAlive_4 : decode cX3_areAlive 4 = .ok (.getfield 18, 3) := by decide +kernel
theorem dX3_areAlive_7 : decode cX3_areAlive 7 = .ok (.if_icmp .ge 29, 3) := by decide +kernel
theorem dX3_areAlive_10 : decode cX3_areAlive 10 = .ok (.iload_n 1, 1) := by decide +kernel
theorem dX3_areAlive_11 : decode cX3_areAlive 11 = .ok (.iload_n 2, 1) := by decide +kernel
theorem dX3_areAlive_12 : decode cX3_areAlive 12 = .ok (.ishr, 1) := by decide +kernel
theorem dX3_areAlive_13 : decode cX3_areAlive 13 = .ok (.iconst 1, 1) := by decide +kernel
theorem dX3_areAlive_14 : decode cX3_areAlive 14 = .ok (.iand, 1) := by decide +kernel
theorem dX3_areAlive_15 : decode cX3_areAlive 15 = .ok (.iconst 1, 1) := by decide +kernel
theorem dX3_areAlive_16 : decode cX3_areAlive 16 = .ok (.if_icmp .ne 14, 3) := by decide +kernel
theorem dX3_areAlive_19 : decode cX3_areAlive 19 = .ok (.aload_n 0, 1) := by decide +kernel
theorem dX3_areAlive_20 : decode cX3_areAlive 20 = .ok (.getfield 22, 3) := by decide +kernel
theorem dX3_areAlive_23 : decode cX3_areAlive 23 = .ok (.iload_n 2, 1) := by decide +kernel
theorem dX3_areAlive_24 : decode cX3_areAlive 24 = .ok (.baload, 1) := by decide +kernel
theorem dX3_areAlive_25 : decode cX3_areAlive 25 = .ok (.ifCond .ne 5, 3) := by decide +kernel
theorem dX3_areAlive_28 : decode cX3_areAlive 28 = .ok (.iconst 0, 1) := by decide +kernel
theorem dX3_areAlive_29 : decode cX3_areAlive 29 = .ok (.ireturn, 1) := by decide +kernel
theorem dX3_areAlive_30 : decode cX3_areAlive 30 = .ok (.iinc 2 1, 3) := by decide +kernel
theorem dX3_areAlive_33 : decode cX3_areAlive 33 = .ok (.goto (-31), 3) := by decide +kernel
theorem dX3_areAlive_36 : decode cX3_areAlive 36 = .ok (.iconst 1, 1) := by decide +kernel
theorem dX3_areAlive_37 : decode cX3_areAlive 37 = .ok (.ireturn, 1) := by decide +kernel
theorem dX3_noteSchedule_0 : decode cX3_noteSchedule 0 = .ok (.iconst 0, 1) := by decide +kernel
theorem dX3_noteSchedule_1 : decode cX3_noteSchedule 1 = .ok (.istore_n 2, 1) := by decide +kernel
theorem dX3_noteSchedule_2 : decode cX3_noteSchedule 2 = .ok (.iload_n 2, 1) := by decide +kernel
theorem dX3_noteSchedule_3 : decode cX3_noteSchedule 3 = .ok (.aload_n 0, 1) := by decide +kernel
theorem dX3_noteSchedule_4 : decode cX3_noteSchedule 4 = .ok (.getfield 18, 3) := by decide +kernel
theorem dX3_noteSchedule_7 : decode cX3_noteSchedule 7 = .ok (.if_icmp .ge 68, 3) := by decide +kernel
theorem dX3_noteSchedule_10 : decode cX3_noteSchedule 10 = .ok (.aload_n 0, 1) := by decide +kernel
theorem dX3_noteSchedule_11 : decode cX3_noteSchedule 11 = .ok (.getfield 33, 3) := by decide +kernel
theorem dX3_noteSchedule_14 : decode cX3_noteSchedule 14 = .ok (.iload_n 2, 1) := by decide +kernel
theorem dX3_noteSchedule_15 : decode cX3_noteSchedule 15 = .ok (.aload_n 1, 1) := by decide +kernel
theorem dX3_noteSchedule_16 : decode cX3_noteSchedule 16 = .ok (.getfield 40, 3) := by decide +kernel
theorem dX3_noteSchedule_19 : decode cX3_noteSchedule 19 = .ok (.iload_n 2, 1) := by decide +kernel
theorem dX3_noteSchedule_20 : decode cX3_noteSchedule 20 = .ok (.iaload, 1) := by decide +kernel
theorem dX3_noteSchedule_21 : decode cX3_noteSchedule 21 = .ok (.iconst (-1), 1) := by decide +kernel
theorem dX3_noteSchedule_22 : decode cX3_noteSchedule 22 = .ok (.if_icmp .eq 7, 3) := by decide +kernel
theorem dX3_noteSchedule_25 : decode cX3_noteSchedule 25 = .ok (.iconst 1, 1) := by decide +kernel
theorem dX3_noteSchedule_26 : decode cX3_noteSchedule 26 = .ok (.goto 4, 3) := by decide +kernel
theorem dX3_noteSchedule_29 : decode cX3_noteSchedule 29 = .ok (.iconst 0, 1) := by decide +kernel
theorem dX3_noteSchedule_30 : decode cX3_noteSchedule 30 = .ok (.bastore, 1) := by decide +kernel
theorem dX3_noteSchedule_31 : decode cX3_noteSchedule 31 = .ok (.aload_n 0, 1) := by decide +kernel
theorem dX3_noteSchedule_32 : decode cX3_noteSchedule 32 = .ok (.getfield 33, 3) := by decide +kernel
theorem dX3_noteSchedule_35 : decode cX3_noteSchedule 35 = .ok (.iload_n 2, 1) := by decide +kernel
theorem dX3_noteSchedule_36 : decode cX3_noteSchedule 36 = .ok (.baload, 1) := by decide +kernel
theorem dX3_noteSchedule_37 : decode cX3_noteSchedule 37 = .ok (.ifCond .eq 13, 3) := by decide +kernel
theorem dX3_noteSchedule_40 : decode cX3_noteSchedule 40 = .ok (.aload_n 0, 1) := by decide +kernel
theorem dX3_noteSchedule_41 : decode cX3_noteSchedule 41 = .ok (.getfield 26, 3) := by decide +kernel
theorem dX3_noteSchedule_44 : decode cX3_noteSchedule 44 = .ok (.iload_n 2, 1) := by decide +kernel
theorem dX3_noteSchedule_45 : decode cX3_noteSchedule 45 = .ok (.iconst 0, 1) := by decide +kernel
theorem dX3_noteSchedule_46 : decode cX3_noteSchedule 46 = .ok (.iastore, 1) := by decide +kernel
theorem dX3_noteSchedule_47 : decode cX3_noteSchedule 47 = .ok (.goto 22, 3) := by decide +kernel
theorem dX3_noteSchedule_50 : decode cX3_noteSchedule 50 = .ok (.aload_n 0, 1) := by decide +kernel
theorem dX3_noteSchedule_51 : decode cX3_noteSchedule 51 = .ok (.getfield 22, 3) := by decide +kernel
theorem dX3_noteSchedule_54 : decode cX3_noteSchedule 54 = .ok (.iload_n 2, 1) := by decide +kernel
theorem dX3_noteSchedule_55 : decode cX3_noteSchedule 55 = .ok (.baload, 1) := by decide +kernel
theorem dX3_noteSchedule_56 : decode cX3_noteSchedule 56 = .ok (.ifCond .eq 13, 3) := by decide +kernel
theorem dX3_noteSchedule_59 : decode cX3_noteSchedule 59 = .ok (.aload_n 0, 1) := by decide +kernel
theorem dX3_noteSchedule_60 : decode cX3_noteSchedule 60 = .ok (.getfield 26, 3) := by decide +kernel
theorem dX3_noteSchedule_63 : decode cX3_noteSchedule 63 = .ok (.iload_n 2, 1) := by decide +kernel
theorem dX3_noteSchedule_64 : decode cX3_noteSchedule 64 = .ok (.dup2, 1) := by decide +kernel
theorem dX3_noteSchedule_65 : decode cX3_noteSchedule 65 = .ok (.iaload, 1) := by decide +kernel
theorem dX3_noteSchedule_66 : decode cX3_noteSchedule 66 = .ok (.iconst 1, 1) := by decide +kernel
theorem dX3_noteSchedule_67 : decode cX3_noteSchedule 67 = .ok (.iadd, 1) := by decide +kernel
theorem dX3_noteSchedule_68 : decode cX3_noteSchedule 68 = .ok (.iastore, 1) := by decide +kernel
theorem dX3_noteSchedule_69 : decode cX3_noteSchedule 69 = .ok (.iinc 2 1, 3) := by decide +kernel
theorem dX3_noteSchedule_72 : decode cX3_noteSchedule 72 = .ok (.goto (-70), 3) := by decide +kernel
theorem dX3_noteSchedule_75 : decode cX3_noteSchedule 75 = .ok (.return_, 1) := by decide +kernel
theorem dX3_noteNoSchedule_0 : decode cX3_noteNoSchedule 0 = .ok (.iconst 0, 1) := by decide +kernel
theorem dX3_noteNoSchedule_1 : decode cX3_noteNoSchedule 1 = .ok (.istore_n 1, 1) := by decide +kernel
theorem dX3_noteNoSchedule_2 : decode cX3_noteNoSchedule 2 = .ok (.iload_n 1, 1) := by decide +kernel
theorem dX3_noteNoSchedule_3 : decode cX3_noteNoSchedule 3 = .ok (.aload_n 0, 1) := by decide +kernel
theorem dX3_noteNoSchedule_4 : decode cX3_noteNoSchedule 4 = .ok (.getfield 18, 3) := by decide +kernel
theorem dX3_noteNoSchedule_7 : decode cX3_noteNoSchedule 7 = .ok (.if_icmp .ge 28, 3) := by decide +kernel
theorem dX3_noteNoSchedule_10 : decode cX3_noteNoSchedule 10 = .ok (.aload_n 0, 1) := by decide +kernel
theorem dX3_noteNoSchedule_11 : decode cX3_noteNoSchedule 11 = .ok (.getfield 22, 3) := by decide +kernel
theorem dX3_noteNoSchedule_14 : decode cX3_noteNoSchedule 14 = .ok (.iload_n 1, 1) := by decide +kernel
theorem dX3_noteNoSchedule_15 : decode cX3_noteNoSchedule 15 = .ok (.baload, 1) := by decide +kernel
theorem dX3_noteNoSchedule_16 : decode cX3_noteNoSchedule 16 = .ok (.ifCond .eq 13, 3) := by decide +kernel
theorem dX3_noteNoSchedule_19 : decode cX3_noteNoSchedule 19 = .ok (.aload_n 0, 1) := by decide +kernel
theorem dX3_noteNoSchedule_20 : decode cX3_noteNoSchedule 20 = .ok (.getfield 26, 3) := by decide +kernel
theorem dX3_noteNoSchedule_23 : decode cX3_noteNoSchedule 23 = .ok (.iload_n 1, 1) := by decide +kernel
theorem dX3_noteNoSchedule_24 : decode cX3_noteNoSchedule 24 = .ok (.dup2, 1) := by decide +kernel
theorem dX3_noteNoSchedule_25 : decode cX3_noteNoSchedule 25 = .ok (.iaload, 1) := by decide +kernel
theorem dX3_noteNoSchedule_26 : decode cX3_noteNoSchedule 26 = .ok (.iconst 1, 1) := by decide +kernel
theorem dX3_noteNoSchedule_27 : decode cX3_noteNoSchedule 27 = .ok (.iadd, 1) := by decide +kernel
theorem dX3_noteNoSchedule_28 : decode cX3_noteNoSchedule 28 = .ok (.iastore, 1) := by decide +kernel
theorem dX3_noteNoSchedule_29 : decode cX3_noteNoSchedule 29 = .ok (.iinc 1 1, 3) := by decide +kernel
theorem dX3_noteNoSchedule_32 : decode cX3_noteNoSchedule 32 = .ok (.goto (-30), 3) := by decide +kernel
theorem dX3_noteNoSchedule_35 : decode cX3_noteNoSchedule 35 = .ok (.return_, 1) := by decide +kernel
theorem dX4_init_0 : decode cX4_init 0 = .ok (.aload_n 0, 1) := by decide +kernel
theorem dX4_init_1 : decode cX4_init 1 = .ok (.invokespecial 3, 3) := by decide +kernel
theorem dX4_init_4 : decode cX4_init 4 = .ok (.aload_n 0, 1) := by decide +kernel
theorem dX4_init_5 : decode cX4_init 5 = .ok (.bipush 6, 2) := by decide +kernel
theorem dX4_init_7 : decode cX4_init 7 = .ok (.newarray .int, 2) := by decide +kernel
theorem dX4_init_9 : decode cX4_init 9 = .ok (.putfield 9, 3) := by decide +kernel
theorem dX4_init_12 : decode cX4_init 12 = .ok (.aload_n 0, 1) := by decide +kernel
theorem dX4_init_13 : decode cX4_init 13 = .ok (.iconst 0, 1) := by decide +kernel
theorem dX4_init_14 : decode cX4_init 14 = .ok (.putfield 15, 3) := by decide +kernel
theorem dX4_init_17 : decode cX4_init 17 = .ok (.return_, 1) := by decide +kernel
set_option maxRecDepth 20000 in
theorem ggX4_build_X4_insert : GoodIn wsX4_build wsX4_insert := goodIn_r _ [13, 3, 1, 14, 15, 16, 17, 18, 19, 20, 23, 24, 21, 22, 25, 26, 27, 28, 29, 30, 31] (by decide +kernel) (by decide +kernel)
set_option maxRecDepth 20000 in
theorem gX4_build_X4_insert : GoodIn wsX4_build (wsV RX4 33 RX4 yX4_insert wsX4_insert) := goodIn_app (goodIn_of _ (by decide +kernel)) ggX4_build_X4_insert
theorem dX4_build_0 : decode cX4_build 0 = .ok (.aload_n 0, 1) := by decide +kernel
theorem dX4_build_1 : decode cX4_build 1 = .ok (.iconst 0, 1) := by decide +kernel
theorem dX4_build_2 : decode cX4_build 2 = .ok (.putfield 15, 3) := by decide +kernel
theorem dX4_build_5 : decode cX4_build 5 = .ok (.iconst 0, 1) := by decide +kernel
theorem dX4_build_6 : decode cX4_build 6 = .ok (.istore_n 3, 1) := by decide +kernel
theorem dX4_build_7 : decode cX4_build 7 = .ok (.iload_n 3, 1) := by decide +kernel
theorem dX4_build_8 : decode cX4_build 8 = .ok (.aload_n 1, 1) := by decide +kernel
theorem dX4_build_9 : decode cX4_build 9 = .ok (.getfield 19, 3) := by decide +kernel
theorem dX4_build_12 : decode cX4_build 12 = .ok (.if_icmp .ge 27, 3) := by decide +kernel
theorem dX4_build_15 : decode cX4_build 15 = .ok (.aload_n 1, 1) := by decide +kernel
theorem dX4_build_16 : decode cX4_build 16 = .ok (.getfield 24, 3) := by decide +kernel
theorem dX4_build_19 : decode cX4_build 19 = .ok (.iload_n 3, 1) := by decide +kernel
theorem dX4_build_20 : decode cX4_build 20 = .ok (.aaload, 1) := by decide +kernel
theorem dX4_build_21 : decode cX4_build 21 = .ok (.getfield 28, 3) := by decide +kernel
theorem dX4_build_24 : decode cX4_build 24 = .ok (.ifCond .le 9, 3) := by decide +kernel
theorem dX4_build_27 : decode cX4_build 27 = .ok (.aload_n 0, 1) := by decide +kernel
theorem dX4_build_28 : decode cX4_build 28 = .ok (.aload_n 1, 1) := by decide +kernel
theorem dX4_build_29 : decode cX4_build 29 = .ok (.iload_n 3, 1) := by decide +kernel
theorem dX4_build_30 : decode cX4_build 30 = .ok (.invokevirtual 33, 3) := by decide +kernel
theorem dX4_build_33 : decode cX4_build 33 = .ok (.iinc 3 1, 3) := by decide +kernel
theorem dX4_build_36 : decode cX4_build 36 = .ok (.goto (-29), 3) := by decide +kernel
theorem dX4_build_39 : decode cX4_build 39 = .ok (.aload_n 0, 1) := by decide +kernel
theorem dX4_build_40 : decode cX4_build 40 = .ok (.aload_n 0, 1) := by decide +kernel
theorem dX4_build_41 : decode cX4_build 41 = .ok (.getfield 15, 3) := by decide +kernel
theorem dX4_build_44 : decode cX4_build 44 = .ok (.iload_n 2, 1) := by decide +kernel
theorem dX4_build_45 : decode cX4_build 45 = .ok (.invokestatic 37, 3) := by decide +kernel
theorem dX4_build_48 : decode cX4_build 48 = .ok (.putfield 15, 3) := by decide +kernel
theorem dX4_build_51 : decode cX4_build 51 = .ok (.return_, 1) := by decide +kernel
set_option maxRecDepth 20000 in
theorem ggX4_insert_X5_oldestRound : GoodIn wsX4_insert wsX5_oldestRound := goodIn_r _ [8, 9, 14, 15, 16, 17, 18, 19, 20] (by decide +kernel) (by decide +kernel)
set_option maxRecDepth 20000 in
theorem gX4_insert_X5_oldestRound : GoodIn wsX4_insert (wsV RX4 43 RX5 yX5_oldestRound wsX5_oldestRound) := goodIn_app (goodIn_of _ (by decide +kernel)) ggX4_insert_X5_oldestRound
theorem dX4_insert_0 : decode cX4_insert 0 = .ok (.aload_n 1, 1) := by decide +kernel
theorem dX4_insert_1 : decode cX4_insert 1 = .ok (.getfield 24, 3) := by decide +kernel
theorem dX4_insert_4 : decode cX4_insert 4 = .ok (.iload_n 2, 1) := by decide +kernel
theorem dX4_insert_5 : decode cX4_insert 5 = .ok (.aaload, 1) := by decide +kernel
theorem dX4_insert_6 : decode cX4_insert 6 = .ok (.invokevirtual 43, 3) := by decide +kernel
theorem dX4_insert_9 : decode cX4_insert 9 = .ok (.istore_n 3, 1) := by decide +kernel
theorem dX4_insert_10 : decode cX4_insert 10 = .ok (.aload_n 0, 1) := by decide +kernel
theorem dX4_insert_11 : decode cX4_insert 11 = .ok (.getfield 15, 3) := by decide +kernel
theorem dX4_insert_14 : decode cX4_insert 14 = .ok (.istore 4, 2) := by decide +kernel
theorem dX4_insert_16 : decode cX4_insert 16 = .ok (.iload 4, 2) := by decide +kernel
theorem dX4_insert_18 : decode cX4_insert 18 = .ok (.ifCond .le 46, 3) := by decide +kernel
theorem dX4_insert_21 : decode cX4_insert 21 = .ok (.aload_n 1, 1) := by decide +kernel
theorem dX4_insert_22 : decode cX4_insert 22 = .ok (.getfield 24, 3) := by decide +kernel
theorem dX4_insert_25 : decode cX4_insert 25 = .ok (.aload_n 0, 1) := by decide +kernel
theorem dX4_insert_26 : decode cX4_insert 26 = .ok (.getfield 9, 3) := by decide +kernel
theorem dX4_insert_29 : decode cX4_insert 29 = .ok (.iload 4, 2) := by decide +kernel
theorem dX4_insert_31 : decode cX4_insert 31 = .ok (.iconst 1, 1) := by decide +kernel
theorem dX4_insert_32 : decode cX4_insert 32 = .ok (.isub, 1) := by decide +kernel
theorem dX4_insert_33 : decode cX4_insert 33 = .ok (.iaload, 1) := by decide +kernel
theorem dX4_insert_34 : decode cX4_insert 34 = .ok (.aaload, 1) := by decide +kernel
theorem dX4_insert_35 : decode cX4_insert 35 = .ok (.invokevirtual 43, 3) := by decide +kernel
theorem dX4_insert_38 : decode cX4_insert 38 = .ok (.iload_n 3, 1) := by decide +kernel
theorem dX4_insert_39 : decode cX4_insert 39 = .ok (.if_icmp .le 25, 3) := by decide +kernel
theorem dX4_insert_42 : decode cX4_insert 42 = .ok (.aload_n 0, 1) := by decide +kernel
theorem dX4_insert_43 : decode cX4_insert 43 = .ok (.getfield 9, 3) := by decide +kernel
theorem dX4_insert_46 : decode cX4_insert 46 = .ok (.iload 4, 2) := by decide +kernel
theorem dX4_insert_48 : decode cX4_insert 48 = .ok (.aload_n 0, 1) := by decide +kernel
theorem dX4_insert_49 : decode cX4_insert 49 = .ok (.getfield 9, 3) := by decide +kernel
theorem dX4_insert_52 : decode cX4_insert 52 = .ok (.iload 4, 2) := by decide +kernel
theorem dX4_insert_54 : decode cX4_insert 54 = .ok (.iconst 1, 1) := by decide +kernel
theorem dX4_insert_55 : decode cX4_insert 55 = .ok (.isub, 1) := by decide +kernel
theorem dX4_insert_56 : decode cX4_insert 56 = .ok (.iaload, 1) := by decide +kernel
theorem dX4_insert_57 : decode cX4_insert 57 = .ok (.iastore, 1) := by decide +kernel
theorem dX4_insert_58 : decode cX4_insert 58 = .ok (.iinc 4 (-1), 3) := by decide +kernel
theorem dX4_insert_61 : decode cX4_insert 61 = .ok (.goto (-45), 3) := by decide +kernel
theorem dX4_insert_64 : decode cX4_insert 64 = .ok (.aload_n 0, 1) := by decide +kernel
theorem dX4_insert_65 : decode cX4_insert 65 = .ok (.getfield 9, 3) := by decide +kernel
theorem dX4_insert_68 : decode cX4_insert 68 = .ok (.iload 4, 2) := by decide +kernel
theorem dX4_insert_70 : decode cX4_insert 70 = .ok (.iload_n 2, 1) := by decide +kernel
theorem dX4_insert_71 : decode cX4_insert 71 = .ok (.iastore, 1) := by decide +kernel
theorem dX4_insert_72 : decode cX4_insert 72 = .ok (.aload_n 0, 1) := by decide +kernel
theorem dX4_insert_73 : decode cX4_insert 73 = .ok (.dup, 1) := by decide +kernel
theorem dX4_insert_74 : decode cX4_insert 74 = .ok (.getfield 15, 3) := by decide +kernel
theorem dX4_insert_77 : decode cX4_insert 77 = .ok (.iconst 1, 1) := by decide +kernel
theorem dX4_insert_78 : decode cX4_insert 78 = .ok (.iadd, 1) := by decide +kernel
theorem dX4_insert_79 : decode cX4_insert 79 = .ok (.putfield 15, 3) := by decide +kernel
theorem dX4_insert_82 : decode cX4_insert 82 = .ok (.return_, 1) := by decide +kernel
set_option maxRecDepth 20000 in
theorem ggX4_encodedSize_X4_hasRepeatedSource : GoodIn wsX4_encodedSize wsX4_hasRepeatedSource := goodIn_r _ [10, 1, 11, 12, 13, 14, 15, 16, 17, 18, 19, 20, 21, 22, 23, 24] (by decide +kernel) (by decide +kernel)
set_option maxRecDepth 20000 in
theorem gX4_encodedSize_X4_hasRepeatedSource : GoodIn wsX4_encodedSize (wsV RX4 47 RX4 yX4_hasRepeatedSource wsX4_hasRepeatedSource) := goodIn_app (goodIn_of _ (by decide +kernel)) ggX4_encodedSize_X4_hasRepeatedSource
theorem dX4_encodedSize_0 : decode cX4_encodedSize 0 = .ok (.iconst 3, 1) := by decide +kernel
theorem dX4_encodedSize_1 : decode cX4_encodedSize 1 = .ok (.aload_n 0, 1) := by decide +kernel
theorem dX4_encodedSize_2 : decode cX4_encodedSize 2 = .ok (.getfield 15, 3) := by decide +kernel
theorem dX4_encodedSize_5 : decode cX4_encodedSize 5 = .ok (.imul, 1) := by decide +kernel
theorem dX4_encodedSize_6 : decode cX4_encodedSize 6 = .ok (.istore_n 2, 1) := by decide +kernel
theorem dX4_encodedSize_7 : decode cX4_encodedSize 7 = .ok (.bipush 8, 2) := by decide +kernel
theorem dX4_encodedSize_9 : decode cX4_encodedSize 9 = .ok (.aload_n 0, 1) := by decide +kernel
theorem dX4_encodedSize_10 : decode cX4_encodedSize 10 = .ok (.aload_n 1, 1) := by decide +kernel
theorem dX4_encodedSize_11 : decode cX4_encodedSize 11 = .ok (.invokevirtual 47, 3) := by decide +kernel
theorem dX4_encodedSize_14 : decode cX4_encodedSize 14 = .ok (.ifCond .eq 7, 3) := by decide +kernel
theorem dX4_encodedSize_17 : decode cX4_encodedSize 17 = .ok (.iload_n 2, 1) := by decide +kernel
theorem dX4_encodedSize_18 : decode cX4_encodedSize 18 = .ok (.goto 9, 3) := by decide +kernel
theorem dX4_encodedSize_21 : decode cX4_encodedSize 21 = .ok (.iload_n 2, 1) := by decide +kernel
theorem dX4_encodedSize_22 : decode cX4_encodedSize 22 = .ok (.bipush 8, 2) := by decide +kernel
theorem dX4_encodedSize_24 : decode cX4_encodedSize 24 = .ok (.invokestatic 37, 3) := by decide +kernel
theorem dX4_encodedSize_27 : decode cX4_encodedSize 27 = .ok (.iadd, 1) := by decide +kernel
theorem dX4_encodedSize_28 : decode cX4_encodedSize 28 = .ok (.ireturn, 1) := by decide +kernel
theorem dX4_hasRepeatedSource_0 : decode cX4_hasRepeatedSource 0 = .ok (.iconst 0, 1) := by decide +kernel
theorem dX4_hasRepeatedSource_1 : decode cX4_hasRepeatedSource 1 = .ok (.istore_n 2, 1) := by decide +kernel
theorem dX4_hasRepeatedSource_2 : decode cX4_hasRepeatedSource 2 = .ok (.iconst 0, 1) := by decide +kernel
theorem dX4_hasRepeatedSource_3 : decode cX4_hasRepeatedSource 3 = .ok (.istore_n 3, 1) := by decide +kernel
theorem dX4_hasRepeatedSource_4 : decode cX4_hasRepeatedSource 4 = .ok (.iload_n 3, 1) := by decide +kernel
theorem dX4_hasRepeatedSource_5 : decode cX4_hasRepeatedSource 5 = .ok (.aload_n 0, 1) := by decide +kernel
theorem dX4_hasRepeatedSource_6 : decode cX4_hasRepeatedSource 6 = .ok (.getfield 15, 3) := by decide +kernel
theorem dX4_hasRepeatedSource_9 : decode cX4_hasRepeatedSource 9 = .ok (.if_icmp .ge 41, 3) := by decide +kernel
theorem dX4_hasRepeatedSource_12 : decode cX4_hasRepeatedSource 12 = .ok (.iconst 1, 1) := by decide +kernel
theorem dX4_hasRepeatedSource_13 : decode cX4_hasRepeatedSource 13 = .ok (.aload_n 1, 1) := by decide +kernel
theorem dX4_hasRepeatedSource_14 : decode cX4_hasRepeatedSource 14 = .ok (.getfield 24, 3) := by decide +kernel
theorem dX4_hasRepeatedSource_17 : decode cX4_hasRepeatedSource 17 = .ok (.aload_n 0, 1) := by decide +kernel
theorem dX4_hasRepeatedSource_18 : decode cX4_hasRepeatedSource 18 = .ok (.getfield 9, 3) := by decide +kernel
theorem dX4_hasRepeatedSource_21 : decode cX4_hasRepeatedSource 21 = .ok (.iload_n 3, 1) := by decide +kernel
theorem dX4_hasRepeatedSource_22 : decode cX4_hasRepeatedSource 22 = .ok (.iaload, 1) := by decide +kernel
theorem dX4_hasRepeatedSource_23 : decode cX4_hasRepeatedSource 23 = .ok (.aaload, 1) := by decide +kernel
theorem dX4_hasRepeatedSource_24 : decode cX4_hasRepeatedSource 24 = .ok (.getfield 51, 3) := by decide +kernel
theorem dX4_hasRepeatedSource_27 : decode cX4_hasRepeatedSource 27 = .ok (.ishl, 1) := by decide +kernel
theorem dX4_hasRepeatedSource_28 : decode cX4_hasRepeatedSource 28 = .ok (.istore 4, 2) := by decide +kernel
theorem dX4_hasRepeatedSource_30 : decode cX4_hasRepeatedSource 30 = .ok (.iload_n 2, 1) := by decide +kernel
theorem dX4_hasRepeatedSource_31 : decode cX4_hasRepeatedSource 31 = .ok (.iload 4, 2) := by decide +kernel
theorem dX4_hasRepeatedSource_33 : decode cX4_hasRepeatedSource 33 = .ok (.iand, 1) := by decide +kernel
theorem dX4_hasRepeatedSource_34 : decode cX4_hasRepeatedSource 34 = .ok (.ifCond .eq 5, 3) := by decide +kernel
theorem dX4_hasRepeatedSource_37 : decode cX4_hasRepeatedSource 37 = .ok (.iconst 1, 1) := by decide +kernel
theorem dX4_hasRepeatedSource_38 : decode cX4_hasRepeatedSource 38 = .ok (.ireturn, 1) := by decide +kernel
theorem dX4_hasRepeatedSource_39 : decode cX4_hasRepeatedSource 39 = .ok (.iload_n 2, 1) := by decide +kernel
theorem dX4_hasRepeatedSource_40 : decode cX4_hasRepeatedSource 40 = .ok (.iload 4, 2) := by decide +kernel
theorem dX4_hasRepeatedSource_42 : decode cX4_hasRepeatedSource 42 = .ok (.ior, 1) := by decide +kernel
theorem dX4_hasRepeatedSource_43 : decode cX4_hasRepeatedSource 43 = .ok (.istore_n 2, 1) := by decide +kernel
theorem dX4_hasRepeatedSource_44 : decode cX4_hasRepeatedSource 44 = .ok (.iinc 3 1, 3) := by decide +kernel
theorem dX4_hasRepeatedSource_47 : decode cX4_hasRepeatedSource 47 = .ok (.goto (-43), 3) := by decide +kernel
theorem dX4_hasRepeatedSource_50 : decode cX4_hasRepeatedSource 50 = .ok (.iconst 0, 1) := by decide +kernel
theorem dX4_hasRepeatedSource_51 : decode cX4_hasRepeatedSource 51 = .ok (.ireturn, 1) := by decide +kernel
theorem dX5_init_0 : decode cX5_init 0 = .ok (.aload_n 0, 1) := by decide +kernel
theorem dX5_init_1 : decode cX5_init 1 = .ok (.invokespecial 3, 3) := by decide +kernel
theorem dX5_init_4 : decode cX5_init 4 = .ok (.aload_n 0, 1) := by decide +kernel
theorem dX5_init_5 : decode cX5_init 5 = .ok (.iconst 4, 1) := by decide +kernel
theorem dX5_init_6 : decode cX5_init 6 = .ok (.newarray .int, 2) := by decide +kernel
theorem dX5_init_8 : decode cX5_init 8 = .ok (.putfield 9, 3) := by decide +kernel
theorem dX5_init_11 : decode cX5_init 11 = .ok (.aload_n 0, 1) := by decide +kernel
theorem dX5_init_12 : decode cX5_init 12 = .ok (.iconst 0, 1) := by decide +kernel
theorem dX5_init_13 : decode cX5_init 13 = .ok (.putfield 15, 3) := by decide +kernel
theorem dX5_init_16 : decode cX5_init 16 = .ok (.aload_n 0, 1) := by decide +kernel
theorem dX5_init_17 : decode cX5_init 17 = .ok (.iconst 1, 1) := by decide +kernel
theorem dX5_init_18 : decode cX5_init 18 = .ok (.putfield 19, 3) := by decide +kernel
theorem dX5_init_21 : decode cX5_init 21 = .ok (.aload_n 0, 1) := by decide +kernel
theorem dX5_init_22 : decode cX5_init 22 = .ok (.iconst 0, 1) := by decide +kernel
theorem dX5_init_23 : decode cX5_init 23 = .ok (.putfield 22, 3) := by decide +kernel
theorem dX5_init_26 : decode cX5_init 26 = .ok (.aload_n 0, 1) := by decide +kernel
theorem dX5_init_27 : decode cX5_init 27 = .ok (.iconst 0, 1) := by decide +kernel
theorem dX5_init_28 : decode cX5_init 28 = .ok (.putfield 25, 3) := by decide +kernel
theorem dX5_init_31 : decode cX5_init 31 = .ok (.aload_n 0, 1) := by decide +kernel
theorem dX5_init_32 : decode cX5_init 32 = .ok (.iconst 0, 1) := by decide +kernel
theorem dX5_init_33 : decode cX5_init 33 = .ok (.putfield 28, 3) := by decide +kernel
theorem dX5_init_36 : decode cX5_init 36 = .ok (.aload_n 0, 1) := by decide +kernel
theorem dX5_init_37 : decode cX5_init 37 = .ok (.iconst 0, 1) := by decide +kernel
theorem dX5_init_38 : decode cX5_init 38 = .ok (.putfield 31, 3) := by decide +kernel
theorem dX5_init_41 : decode cX5_init 41 = .ok (.return_, 1) := by decide +kernel
theorem dX5_startAnew_0 : decode cX5_startAnew 0 = .ok (.aload_n 0, 1) := by decide +kernel
theorem dX5_startAnew_1 : decode cX5_startAnew 1 = .ok (.iload_n 1, 1) := by decide +kernel
theorem dX5_startAnew_2 : decode cX5_startAnew 2 = .ok (.putfield 15, 3) := by decide +kernel
theorem dX5_startAnew_5 : decode cX5_startAnew 5 = .ok (.aload_n 0, 1) := by decide +kernel
theorem dX5_startAnew_6 : decode cX5_startAnew 6 = .ok (.iload_n 2, 1) := by decide +kernel
theorem dX5_startAnew_7 : decode cX5_startAnew 7 = .ok (.putfield 19, 3) := by decide +kernel
theorem dX5_startAnew_10 : decode cX5_startAnew 10 = .ok (.aload_n 0, 1) := by decide +kernel
theorem dX5_startAnew_11 : decode cX5_startAnew 11 = .ok (.iload_n 3, 1) := by decide +kernel
theorem dX5_startAnew_12 : decode cX5_startAnew 12 = .ok (.putfield 22, 3) := by decide +kernel
theorem dX5_startAnew_15 : decode cX5_startAnew 15 = .ok (.aload_n 0, 1) := by decide +kernel
theorem dX5_startAnew_16 : decode cX5_startAnew 16 = .ok (.iconst 0, 1) := by decide +kernel
theorem dX5_startAnew_17 : decode cX5_startAnew 17 = .ok (.putfield 25, 3) := by decide +kernel
theorem dX5_startAnew_20 : decode cX5_startAnew 20 = .ok (.aload_n 0, 1) := by decide +kernel
theorem dX5_startAnew_21 : decode cX5_startAnew 21 = .ok (.iconst 0, 1) := by decide +kernel
theorem dX5_startAnew_22 : decode cX5_startAnew 22 = .ok (.putfield 28, 3) := by decide +kernel
theorem dX5_startAnew_25 : decode cX5_startAnew 25 = .ok (.aload_n 0, 1) := by decide +kernel
theorem dX5_startAnew_26 : decode cX5_startAnew 26 = .ok (.iconst 0, 1) := by decide +kernel
theorem dX5_startAnew_27 : decode cX5_startAnew 27 = .ok (.putfield 31, 3) := by decide +kernel
theorem dX5_startAnew_30 : decode cX5_startAnew 30 = .ok (.return_, 1) := by decide +kernel
theorem dX5_generate_0 : decode cX5_generate 0 = .ok (.iload_n 1, 1) := by decide +kernel
theorem dX5_generate_1 : decode cX5_generate 1 = .ok (.aload_n 0, 1) := by decide +kernel
theorem dX5_generate_2 : decode cX5_generate 2 = .ok (.getfield 22, 3) := by decide +kernel
theorem dX5_generate_5 : decode cX5_generate 5 = .ok (.if_icmp .lt 25, 3) := by decide +kernel
theorem dX5_generate_8 : decode cX5_generate 8 = .ok (.aload_n 0, 1) := by decide +kernel
theorem dX5_generate_9 : decode cX5_generate 9 = .ok (.getfield 19, 3) := by decide +kernel
theorem dX5_generate_12 : decode cX5_generate 12 = .ok (.iconst 1, 1) := by decide +kernel
theorem dX5_generate_13 : decode cX5_generate 13 = .ok (.if_icmp .lt 17, 3) := by decide +kernel
theorem dX5_generate_16 : decode cX5_generate 16 = .ok (.iload_n 1, 1) := by decide +kernel
theorem dX5_generate_17 : decode cX5_generate 17 = .ok (.aload_n 0, 1) := by decide +kernel
theorem dX5_generate_18 : decode cX5_generate 18 = .ok (.getfield 22, 3) := by decide +kernel
theorem dX5_generate_21 : decode cX5_generate 21 = .ok (.isub, 1) := by decide +kernel
theorem dX5_generate_22 : decode cX5_generate 22 = .ok (.aload_n 0, 1) := by decide +kernel
theorem dX5_generate_23 : decode cX5_generate 23 = .ok (.getfield 19, 3) := by decide +kernel
theorem dX5_generate_26 : decode cX5_generate 26 = .ok (.irem, 1) := by decide +kernel
theorem dX5_generate_27 : decode cX5_generate 27 = .ok (.ifCond .eq 4, 3) := by decide +kernel
theorem dX5_generate_30 : decode cX5_generate 30 = .ok (.return_, 1) := by decide +kernel
theorem dX5_generate_31 : decode cX5_generate 31 = .ok (.aload_n 0, 1) := by decide +kernel
theorem dX5_generate_32 : decode cX5_generate 32 = .ok (.getfield 25, 3) := by decide +kernel
theorem dX5_generate_35 : decode cX5_generate 35 = .ok (.iconst 4, 1) := by decide +kernel
theorem dX5_generate_36 : decode cX5_generate 36 = .ok (.if_icmp .lt 14, 3) := by decide +kernel
theorem dX5_generate_39 : decode cX5_generate 39 = .ok (.aload_n 0, 1) := by decide +kernel
theorem dX5_generate_40 : decode cX5_generate 40 = .ok (.dup, 1) := by decide +kernel
theorem dX5_generate_41 : decode cX5_generate 41 = .ok (.getfield 31, 3) := by decide +kernel
theorem dX5_generate_44 : decode cX5_generate 44 = .ok (.iconst 1, 1) := by decide +kernel
theorem dX5_generate_45 : decode cX5_generate 45 = .ok (.iadd, 1) := by decide +kernel
theorem dX5_generate_46 : decode cX5_generate 46 = .ok (.putfield 31, 3) := by decide +kernel
theorem dX5_generate_49 : decode cX5_generate 49 = .ok (.return_, 1) := by decide +kernel
theorem dX5_generate_50 : decode cX5_generate 50 = .ok (.aload_n 0, 1) := by decide +kernel
theorem dX5_generate_51 : decode cX5_generate 51 = .ok (.getfield 9, 3) := by decide +kernel
theorem dX5_generate_54 : decode cX5_generate 54 = .ok (.aload_n 0, 1) := by decide +kernel
theorem dX5_generate_55 : decode cX5_generate 55 = .ok (.getfield 25, 3) := by decide +kernel
theorem dX5_generate_58 : decode cX5_generate 58 = .ok (.iload_n 1, 1) := by decide +kernel
theorem dX5_generate_59 : decode cX5_generate 59 = .ok (.iastore, 1) := by decide +kernel
theorem dX5_generate_60 : decode cX5_generate 60 = .ok (.aload_n 0, 1) := by decide +kernel
theorem dX5_generate_61 : decode cX5_generate 61 = .ok (.dup, 1) := by decide +kernel
theorem dX5_generate_62 : decode cX5_generate 62 = .ok (.getfield 25, 3) := by decide +kernel
theorem dX5_generate_65 : decode cX5_generate 65 = .ok (.iconst 1, 1) := by decide +kernel
theorem dX5_generate_66 : decode cX5_generate 66 = .ok (.iadd, 1) := by decide +kernel
theorem dX5_generate_67 : decode cX5_generate 67 = .ok (.putfield 25, 3) := by decide +kernel
theorem dX5_generate_70 : decode cX5_generate 70 = .ok (.return_, 1) := by decide +kernel
theorem dX5_oldestRound_0 : decode cX5_oldestRound 0 = .ok (.aload_n 0, 1) := by decide +kernel
theorem dX5_oldestRound_1 : decode cX5_oldestRound 1 = .ok (.getfield 9, 3) := by decide +kernel
theorem dX5_oldestRound_4 : decode cX5_oldestRound 4 = .ok (.iconst 0, 1) := by decide +kernel
theorem dX5_oldestRound_5 : decode cX5_oldestRound 5 = .ok (.iaload, 1) := by decide +kernel
theorem dX5_oldestRound_6 : decode cX5_oldestRound 6 = .ok (.ireturn, 1) := by decide +kernel
theorem dX5_removeOldest_0 : decode cX5_removeOldest 0 = .ok (.iconst 1, 1) := by decide +kernel
theorem dX5_removeOldest_1 : decode cX5_removeOldest 1 = .ok (.istore_n 1, 1) := by decide +kernel
theorem dX5_removeOldest_2 : decode cX5_removeOldest 2 = .ok (.iload_n 1, 1) := by decide +kernel
theorem dX5_removeOldest_3 : decode cX5_removeOldest 3 = .ok (.aload_n 0, 1) := by decide +kernel
theorem dX5_removeOldest_4 : decode cX5_removeOldest 4 = .ok (.getfield 25, 3) := by decide +kernel
theorem dX5_removeOldest_7 : decode cX5_removeOldest 7 = .ok (.if_icmp .ge 23, 3) := by decide +kernel
theorem dX5_removeOldest_10 : decode cX5_removeOldest 10 = .ok (.aload_n 0, 1) := by decide +kernel
theorem dX5_removeOldest_11 : decode cX5_removeOldest 11 = .ok (.getfield 9, 3) := by decide +kernel
theorem dX5_removeOldest_14 : decode cX5_removeOldest 14 = .ok (.iload_n 1, 1) := by decide +kernel
theorem dX5_removeOldest_15 : decode cX5_removeOldest 15 = .ok (.iconst 1, 1) := by decide +kernel
theorem dX5_removeOldest_16 : decode cX5_removeOldest 16 = .ok (.isub, 1) := by decide +kernel
theorem dX5_removeOldest_17 : decode cX5_removeOldest 17 = .ok (.aload_n 0, 1) := by decide +kernel
theorem dX5_removeOldest_18 : decode cX5_removeOldest 18 = .ok (.getfield 9, 3) := by decide +kernel
theorem dX5_removeOldest_21 : decode cX5_removeOldest 21 = .ok (.iload_n 1, 1) := by decide +kernel
theorem dX5_removeOldest_22 : decode cX5_removeOldest 22 = .ok (.iaload, 1) := by decide +kernel
theorem dX5_removeOldest_23 : decode cX5_removeOldest 23 = .ok (.iastore, 1) := by decide +kernel
theorem dX5_removeOldest_24 : decode cX5_removeOldest 24 = .ok (.iinc 1 1, 3) := by decide +kernel
theorem dX5_removeOldest_27 : decode cX5_removeOldest 27 = .ok (.goto (-25), 3) := by decide +kernel
theorem dX5_removeOldest_30 : decode cX5_removeOldest 30 = .ok (.aload_n 0, 1) := by decide +kernel
theorem dX5_removeOldest_31 : decode cX5_removeOldest 31 = .ok (.getfield 25, 3) := by decide +kernel
theorem dX5_removeOldest_34 : decode cX5_removeOldest 34 = .ok (.ifCond .le 13, 3) := by decide +kernel
theorem dX5_removeOldest_37 : decode cX5_removeOldest 37 = .ok (.aload_n 0, 1) := by decide +kernel
theorem dX5_removeOldest_38 : decode cX5_removeOldest 38 = .ok (.dup, 1) := by decide +kernel
theorem dX5_removeOldest_39 : decode cX5_removeOldest 39 = .ok (.getfield 25, 3) := by decide +kernel
theorem dX5_removeOldest_42 : decode cX5_removeOldest 42 = .ok (.iconst 1, 1) := by decide +kernel
theorem dX5_removeOldest_43 : decode cX5_removeOldest 43 = .ok (.isub, 1) := by decide +kernel
theorem dX5_removeOldest_44 : decode cX5_removeOldest 44 = .ok (.putfield 25, 3) := by decide +kernel
theorem dX5_removeOldest_47 : decode cX5_removeOldest 47 = .ok (.return_, 1) := by decide +kernel
set_option maxRecDepth 20000 in
theorem ggX6_init_X5_init : GoodIn wsX6_init wsX5_init := goodIn_r _ [10, 11, 2, 3, 12, 13, 14, 15, 16, 17, 18, 19, 22, 23, 24, 25, 26, 27, 28] (by decide +kernel) (by decide +kernel)
set_option maxRecDepth 20000 in
theorem gX6_init_X5_init_n21 : GoodIn wsX6_init (wsX5_init) := ggX6_init_X5_init
theorem dX6_init_0 : decode cX6_init 0 = .ok (.aload_n 0, 1) := by decide +kernel
theorem dX6_init_1 : decode cX6_init 1 = .ok (.invokespecial 3, 3) := by decide +kernel
theorem dX6_init_4 : decode cX6_init 4 = .ok (.aload_n 0, 1) := by decide +kernel
theorem dX6_init_5 : decode cX6_init 5 = .ok (.bipush 6, 2) := by decide +kernel
theorem dX6_init_7 : decode cX6_init 7 = .ok (.anewarray 9, 3) := by decide +kernel
theorem dX6_init_10 : decode cX6_init 10 = .ok (.putfield 11, 3) := by decide +kernel
theorem dX6_init_13 : decode cX6_init 13 = .ok (.aload_n 0, 1) := by decide +kernel
theorem dX6_init_14 : decode cX6_init 14 = .ok (.iconst 0, 1) := by decide +kernel
theorem dX6_init_15 : decode cX6_init 15 = .ok (.putfield 17, 3) := by decide +kernel
theorem dX6_init_18 : decode cX6_init 18 = .ok (.iconst 0, 1) := by decide +kernel
theorem dX6_init_19 : decode cX6_init 19 = .ok (.istore_n 1, 1) := by decide +kernel
theorem dX6_init_20 : decode cX6_init 20 = .ok (.iload_n 1, 1) := by decide +kernel
theorem dX6_init_21 : decode cX6_init 21 = .ok (.bipush 6, 2) := by decide +kernel
theorem dX6_init_23 : decode cX6_init 23 = .ok (.if_icmp .ge 22, 3) := by decide +kernel
theorem dX6_init_26 : decode cX6_init 26 = .ok (.aload_n 0, 1) := by decide +kernel
theorem dX6_init_27 : decode cX6_init 27 = .ok (.getfield 11, 3) := by decide +kernel
theorem dX6_init_30 : decode cX6_init 30 = .ok (.iload_n 1, 1) := by decide +kernel
theorem dX6_init_31 : decode cX6_init 31 = .ok (.new 9, 3) := by decide +kernel
theorem dX6_init_34 : decode cX6_init 34 = .ok (.dup, 1) := by decide +kernel
theorem dX6_init_35 : decode cX6_init 35 = .ok (.invokespecial 21, 3) := by decide +kernel
theorem dX6_init_38 : decode cX6_init 38 = .ok (.aastore, 1) := by decide +kernel
theorem dX6_init_39 : decode cX6_init 39 = .ok (.iinc 1 1, 3) := by decide +kernel
theorem dX6_init_42 : decode cX6_init 42 = .ok (.goto (-22), 3) := by decide +kernel
theorem dX6_init_45 : decode cX6_init 45 = .ok (.return_, 1) := by decide +kernel
theorem dX6_has_0 : decode cX6_has 0 = .ok (.iload_n 1, 1) := by decide +kernel
theorem dX6_has_1 : decode cX6_has 1 = .ok (.ifCond .lt 15, 3) := by decide +kernel
theorem dX6_has_4 : decode cX6_has 4 = .ok (.iload_n 1, 1) := by decide +kernel
theorem dX6_has_5 : decode cX6_has 5 = .ok (.aload_n 0, 1) := by decide +kernel
theorem dX6_has_6 : decode cX6_has 6 = .ok (.getfield 17, 3) := by decide +kernel
theorem dX6_has_9 : decode cX6_has 9 = .ok (.if_icmp .ge 7, 3) := by decide +kernel
theorem dX6_has_12 : decode cX6_has 12 = .ok (.iconst 1, 1) := by decide +kernel
theorem dX6_has_13 : decode cX6_has 13 = .ok (.goto 4, 3) := by decide +kernel
theorem dX6_has_16 : decode cX6_has 16 = .ok (.iconst 0, 1) := by decide +kernel
theorem dX6_has_17 : decode cX6_has 17 = .ok (.ireturn, 1) := by decide +kernel
set_option maxRecDepth 20000 in
theorem ggX6_add_X5_startAnew : GoodIn wsX6_add wsX5_startAnew := goodIn_r _ [7, 8, 9, 10, 11, 12, 13, 16, 17, 18, 19, 20, 21, 22] (by decide +kernel) (by decide +kernel)
set_option maxRecDepth 20000 in
theorem gX6_add_X5_startAnew : GoodIn wsX6_add (wsV RX6 22 RX5 yX5_startAnew wsX5_startAnew) := goodIn_app (goodIn_of _ (by decide +kernel)) ggX6_add_X5_startAnew
theorem dX6_add_0 : decode cX6_add 0 = .ok (.aload_n 0, 1) := by decide +kernel
theorem dX6_add_1 : decode cX6_add 1 = .ok (.getfield 17, 3) := by decide +kernel
theorem dX6_add_4 : decode cX6_add 4 = .ok (.bipush 6, 2) := by decide +kernel
theorem dX6_add_6 : decode cX6_add 6 = .ok (.if_icmp .lt 7, 3) := by decide +kernel
theorem dX6_add_9 : decode cX6_add 9 = .ok (.sipush (-1004), 3) := by decide +kernel
theorem dX6_add_12 : decode cX6_add 12 = .ok (.ireturn, 1) := by decide +kernel
theorem dX6_add_13 : decode cX6_add 13 = .ok (.aload_n 0, 1) := by decide +kernel
theorem dX6_add_14 : decode cX6_add 14 = .ok (.getfield 11, 3) := by decide +kernel
theorem dX6_add_17 : decode cX6_add 17 = .ok (.aload_n 0, 1) := by decide +kernel
theorem dX6_add_18 : decode cX6_add 18 = .ok (.getfield 17, 3) := by decide +kernel
theorem dX6_add_21 : decode cX6_add 21 = .ok (.aaload, 1) := by decide +kernel
theorem dX6_add_22 : decode cX6_add 22 = .ok (.iload_n 1, 1) := by decide +kernel
theorem dX6_add_23 : decode cX6_add 23 = .ok (.iload_n 2, 1) := by decide +kernel
theorem dX6_add_24 : decode cX6_add 24 = .ok (.iload_n 3, 1) := by decide +kernel
theorem dX6_add_25 : decode cX6_add 25 = .ok (.invokevirtual 22, 3) := by decide +kernel
theorem dX6_add_28 : decode cX6_add 28 = .ok (.aload_n 0, 1) := by decide +kernel
theorem dX6_add_29 : decode cX6_add 29 = .ok (.dup, 1) := by decide +kernel
theorem dX6_add_30 : decode cX6_add 30 = .ok (.getfield 17, 3) := by decide +kernel
theorem dX6_add_33 : decode cX6_add 33 = .ok (.iconst 1, 1) := by decide +kernel
theorem dX6_add_34 : decode cX6_add 34 = .ok (.iadd, 1) := by decide +kernel
theorem dX6_add_35 : decode cX6_add 35 = .ok (.putfield 17, 3) := by decide +kernel
theorem dX6_add_38 : decode cX6_add 38 = .ok (.aload_n 0, 1) := by decide +kernel
theorem dX6_add_39 : decode cX6_add 39 = .ok (.getfield 17, 3) := by decide +kernel
theorem dX6_add_42 : decode cX6_add 42 = .ok (.iconst 1, 1) := by decide +kernel
theorem dX6_add_43 : decode cX6_add 43 = .ok (.isub, 1) := by decide +kernel
theorem dX6_add_44 : decode cX6_add 44 = .ok (.ireturn, 1) := by decide +kernel
theorem dX6_remove_0 : decode cX6_remove 0 = .ok (.aload_n 0, 1) := by decide +kernel
