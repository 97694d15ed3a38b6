theorem inlX0 : ∀ w ∈ wsX00, w ∈ wsL_law := fun _ h => List.mem_append_left _ (List.mem_append_right _ h)
theorem inlX1 : ∀ w ∈ wsX10, w ∈ wsL_law := fun _ h => List.mem_append_left _ (List.mem_append_left _ (List.mem_append_left _ (List.mem_append_left _ (List.mem_append_right _ h))))
theorem inlX2 : ∀ w ∈ wsX20, w ∈ wsL_law := fun _ h => List.mem_append_left _ (List.mem_append_left _ (List.mem_append_right _ h))
theorem inlX3 : ∀ w ∈ wsX30, w ∈ wsL_law := fun _ h => List.mem_append_left _ (List.mem_append_left _ (List.mem_append_left _ (List.mem_append_left _ (List.mem_append_left _ (List.mem_append_left _ (List.mem_append_left _ (List.mem_append_right _ h)))))))
theorem inlX4 : ∀ w ∈ wsX40, w ∈ wsL_law := fun _ h => List.mem_append_left _ (List.mem_append_left _ (List.mem_append_left _ (List.mem_append_left _ (List.mem_append_left _ (List.mem_append_right _ h)))))
theorem inlX5 : ∀ w ∈ wsX50, w ∈ wsL_law := fun _ h => List.mem_append_left _ (List.mem_append_left _ (List.mem_append_left _ (List.mem_append_right _ h)))
theorem inlX6 : ∀ w ∈ wsX60, w ∈ wsL_law := fun _ h => List.mem_append_left _ (List.mem_append_left _ (List.mem_append_left _ (List.mem_append_left _ (List.mem_append_left _ (List.mem_append_left _ (List.mem_append_right _ h))))))
theorem inlX7 : ∀ w ∈ wsX70, w ∈ wsL_law := fun _ h => List.mem_append_left _ (List.mem_append_left _ (List.mem_append_left _ (List.mem_append_left _ (List.mem_append_left _ (List.mem_append_left _ (List.mem_append_left _ (List.mem_append_left _ (List.mem_append_right _ h))))))))
theorem inlX8 : ∀ w ∈ wsX80, w ∈ wsL_law := fun _ h => List.mem_append_left _ (List.mem_append_left _ (List.mem_append_left _ (List.mem_append_left _ (List.mem_append_left _ (List.mem_append_left _ (List.mem_append_left _ (List.mem_append_left _ (List.mem_append_left _ (List.mem_append_right _ h)))))))))
theorem inlX9 : ∀ w ∈ wsX90, w ∈ wsL_law := fun _ h => List.mem_append_left _ (List.mem_append_left _ (List.mem_append_left _ (List.mem_append_left _ (List.mem_append_left _ (List.mem_append_left _ (List.mem_append_left _ (List.mem_append_left _ (List.mem_append_left _ (List.mem_append_left _ (List.mem_append_left _ (List.mem_append_right _ h)))))))))))
theorem inlX10 : ∀ w ∈ wsX100, w ∈ wsL_law := fun _ h => List.mem_append_left _ (List.mem_append_left _ (List.mem_append_left _ (List.mem_append_left _ (List.mem_append_left _ (List.mem_append_left _ (List.mem_append_left _ (List.mem_append_left _ (List.mem_append_left _ (List.mem_append_left _ (List.mem_append_right _ h))))))))))
theorem inJx145de : ∀ w ∈ wsJx145de0, w ∈ lw_tbl := by decide +kernel
theorem inJx9f9b0 : ∀ w ∈ wsJx9f9b00, w ∈ lw_tbl := by decide +kernel
theorem inJxb160c : ∀ w ∈ wsJxb160c0, w ∈ lw_tbl := by decide +kernel
theorem inJ6 : ∀ w ∈ wsJ60, w ∈ lw_tbl := by decide +kernel
theorem inJ9 : ∀ w ∈ wsJ90, w ∈ lw_tbl := by decide +kernel
theorem inJ0 : ∀ w ∈ wsJ00, w ∈ lw_tbl := by decide +kernel
theorem inJ1 : ∀ w ∈ wsJ10, w ∈ lw_tbl := by decide +kernel
theorem inJ2 : ∀ w ∈ wsJ20, w ∈ lw_tbl := by decide +kernel
theorem inJ10 : ∀ w ∈ wsJ100, w ∈ lw_tbl := by decide +kernel
theorem inJxfd54e : ∀ w ∈ wsJxfd54e0, w ∈ lw_tbl := by decide +kernel
theorem inJx3cf43 : ∀ w ∈ wsJx3cf430, w ∈ lw_tbl := by decide +kernel
theorem inJ7 : ∀ w ∈ wsJ70, w ∈ lw_tbl := by decide +kernel
theorem inJ3 : ∀ w ∈ wsJ30, w ∈ lw_tbl := by decide +kernel
theorem dX0_init_0 : decode cX0_init 0 = .ok (.aload_n 0, 1) := by decide +kernel
theorem dX0_init_1 : decode cX0_init 1 = .ok (.invokespecial 3, 3) := by decide +kernel
theorem dX0_init_4 : decode cX0_init 4 = .ok (.aload_n 0, 1) := by decide +kernel
theorem dX0_init_5 : decode cX0_init 5 = .ok (.bipush 30, 2) := by decide +kernel
theorem dX0_init_7 : decode cX0_init 7 = .ok (.newarray .int, 2) := by decide +kernel
theorem dX0_init_9 : decode cX0_init 9 = .ok (.putfield 11, 3) := by decide +kernel
theorem dX0_init_12 : decode cX0_init 12 = .ok (.aload_n 0, 1) := by decide +kernel
theorem dX0_init_13 : decode cX0_init 13 = .ok (.iconst 0, 1) := by decide +kernel
theorem dX0_init_14 : decode cX0_init 14 = .ok (.putfield 15, 3) := by decide +kernel
theorem dX0_init_17 : decode cX0_init 17 = .ok (.aload_n 0, 1) := by decide +kernel
theorem dX0_init_18 : decode cX0_init 18 = .ok (.iconst 0, 1) := by decide +kernel
theorem dX0_init_19 : decode cX0_init 19 = .ok (.putfield 19, 3) := by decide +kernel
theorem dX0_init_22 : decode cX0_init 22 = .ok (.aload_n 0, 1) := by decide +kernel
theorem dX0_init_23 : decode cX0_init 23 = .ok (.iconst 0, 1) := by decide +kernel
theorem dX0_init_24 : decode cX0_init 24 = .ok (.putfield 23, 3) := by decide +kernel
theorem dX0_init_27 : decode cX0_init 27 = .ok (.aload_n 0, 1) := by decide +kernel
theorem dX0_init_28 : decode cX0_init 28 = .ok (.iconst 0, 1) := by decide +kernel
theorem dX0_init_29 : decode cX0_init 29 = .ok (.putfield 26, 3) := by decide +kernel
theorem dX0_init_32 : decode cX0_init 32 = .ok (.aload_n 0, 1) := by decide +kernel
theorem dX0_init_33 : decode cX0_init 33 = .ok (.iconst 0, 1) := by decide +kernel
theorem dX0_init_34 : decode cX0_init 34 = .ok (.putfield 29, 3) := by decide +kernel
theorem dX0_init_37 : decode cX0_init 37 = .ok (.return_, 1) := by decide +kernel
theorem dX0_forget_0 : decode cX0_forget 0 = .ok (.aload_n 0, 1) := by decide +kernel
theorem dX0_forget_1 : decode cX0_forget 1 = .ok (.iconst 0, 1) := by decide +kernel
theorem dX0_forget_2 : decode cX0_forget 2 = .ok (.putfield 15, 3) := by decide +kernel
theorem dX0_forget_5 : decode cX0_forget 5 = .ok (.aload_n 0, 1) := by decide +kernel
theorem dX0_forget_6 : decode cX0_forget 6 = .ok (.iconst 0, 1) := by decide +kernel
theorem dX0_forget_7 : decode cX0_forget 7 = .ok (.putfield 19, 3) := by decide +kernel
theorem dX0_forget_10 : decode cX0_forget 10 = .ok (.return_, 1) := by decide +kernel
set_option maxRecDepth 20000 in
theorem ggX0_perform_X0_parts : GoodIn wsX0_perform wsX0_parts := goodIn_r _ [11, 3, 5, 12, 13, 14, 10, 15, 6, 16, 17, 7, 8, 9, 48, 49, 50, 51, 52, 53] (by decide +kernel) (by decide +kernel)
set_option maxRecDepth 20000 in
theorem gX0_perform_X0_parts : GoodIn wsX0_perform (wsV RX0 40 RX0 yX0_parts wsX0_parts) := goodIn_app (goodIn_of _ (by decide +kernel)) ggX0_perform_X0_parts
set_option maxRecDepth 20000 in
theorem ggX0_perform_X0_costs : GoodIn wsX0_perform wsX0_costs := goodIn_r _ [21, 5, 2, 3, 12, 13, 14, 10, 15, 6, 16, 17, 18, 19, 20, 7, 8, 9, 11, 22, 23, 24, 25, 26, 27, 28, 29, 48, 49, 50, 51, 52, 53] (by decide +kernel) (by decide +kernel)
set_option maxRecDepth 20000 in
theorem gX0_perform_X0_costs : GoodIn wsX0_perform (wsV RX0 44 RX0 yX0_costs wsX0_costs) := goodIn_app (goodIn_of _ (by decide +kernel)) ggX0_perform_X0_costs
set_option maxRecDepth 20000 in
theorem ggX0_perform_X0_shares : GoodIn wsX0_perform wsX0_shares := goodIn_r _ [25, 2, 5, 12, 13, 14, 10, 15, 6, 16, 17, 22, 23, 24, 7, 8, 9, 11, 3, 26, 27, 28, 29, 48, 49, 50, 51, 52, 53] (by decide +kernel) (by decide +kernel)
set_option maxRecDepth 20000 in
theorem gX0_perform_X0_shares : GoodIn wsX0_perform (wsV RX0 47 RX0 yX0_shares wsX0_shares) := goodIn_app (goodIn_of _ (by decide +kernel)) ggX0_perform_X0_shares
set_option maxRecDepth 20000 in
theorem ggX0_perform_X0_tells : GoodIn wsX0_perform wsX0_tells := goodIn_r _ [33, 2, 3, 5, 12, 13, 14, 10, 15, 6, 16, 17, 30, 31, 32, 22, 23, 24, 25, 7, 8, 9, 11, 26, 27, 28, 29, 18, 19, 20, 21, 48, 49, 50, 51, 52, 53] (by decide +kernel) (by decide +kernel)
set_option maxRecDepth 20000 in
theorem gX0_perform_X0_tells : GoodIn wsX0_perform (wsV RX0 50 RX0 yX0_tells wsX0_tells) := goodIn_app (goodIn_of _ (by decide +kernel)) ggX0_perform_X0_tells
theorem dX0_perform_0 : decode cX0_perform 0 = .ok (.aload_n 0, 1) := by decide +kernel
theorem dX0_perform_1 : decode cX0_perform 1 = .ok (.aload_n 1, 1) := by decide +kernel
theorem dX0_perform_2 : decode cX0_perform 2 = .ok (.getfield 32, 3) := by decide +kernel
theorem dX0_perform_5 : decode cX0_perform 5 = .ok (.iload_n 2, 1) := by decide +kernel
theorem dX0_perform_6 : decode cX0_perform 6 = .ok (.iaload, 1) := by decide +kernel
theorem dX0_perform_7 : decode cX0_perform 7 = .ok (.putfield 23, 3) := by decide +kernel
theorem dX0_perform_10 : decode cX0_perform 10 = .ok (.aload_n 0, 1) := by decide +kernel
theorem dX0_perform_11 : decode cX0_perform 11 = .ok (.iload_n 2, 1) := by decide +kernel
theorem dX0_perform_12 : decode cX0_perform 12 = .ok (.putfield 26, 3) := by decide +kernel
theorem dX0_perform_15 : decode cX0_perform 15 = .ok (.aload_n 0, 1) := by decide +kernel
theorem dX0_perform_16 : decode cX0_perform 16 = .ok (.aload_n 1, 1) := by decide +kernel
theorem dX0_perform_17 : decode cX0_perform 17 = .ok (.getfield 37, 3) := by decide +kernel
theorem dX0_perform_20 : decode cX0_perform 20 = .ok (.iload_n 2, 1) := by decide +kernel
theorem dX0_perform_21 : decode cX0_perform 21 = .ok (.iaload, 1) := by decide +kernel
theorem dX0_perform_22 : decode cX0_perform 22 = .ok (.putfield 29, 3) := by decide +kernel
theorem dX0_perform_25 : decode cX0_perform 25 = .ok (.iload_n 3, 1) := by decide +kernel
theorem dX0_perform_26 : decode cX0_perform 26 = .ok (.ifCond .ne 16, 3) := by decide +kernel
theorem dX0_perform_29 : decode cX0_perform 29 = .ok (.aload_n 0, 1) := by decide +kernel
theorem dX0_perform_30 : decode cX0_perform 30 = .ok (.aload_n 0, 1) := by decide +kernel
theorem dX0_perform_31 : decode cX0_perform 31 = .ok (.getfield 23, 3) := by decide +kernel
theorem dX0_perform_34 : decode cX0_perform 34 = .ok (.iload 4, 2) := by decide +kernel
theorem dX0_perform_36 : decode cX0_perform 36 = .ok (.invokevirtual 40, 3) := by decide +kernel
theorem dX0_perform_39 : decode cX0_perform 39 = .ok (.goto 49, 3) := by decide +kernel
theorem dX0_perform_42 : decode cX0_perform 42 = .ok (.iload_n 3, 1) := by decide +kernel
theorem dX0_perform_43 : decode cX0_perform 43 = .ok (.iconst 1, 1) := by decide +kernel
theorem dX0_perform_44 : decode cX0_perform 44 = .ok (.if_icmp .ne 16, 3) := by decide +kernel
theorem dX0_perform_47 : decode cX0_perform 47 = .ok (.aload_n 0, 1) := by decide +kernel
theorem dX0_perform_48 : decode cX0_perform 48 = .ok (.aload_n 0, 1) := by decide +kernel
theorem dX0_perform_49 : decode cX0_perform 49 = .ok (.getfield 23, 3) := by decide +kernel
theorem dX0_perform_52 : decode cX0_perform 52 = .ok (.iload 4, 2) := by decide +kernel
theorem dX0_perform_54 : decode cX0_perform 54 = .ok (.invokevirtual 44, 3) := by decide +kernel
theorem dX0_perform_57 : decode cX0_perform 57 = .ok (.goto 31, 3) := by decide +kernel
theorem dX0_perform_60 : decode cX0_perform 60 = .ok (.iload_n 3, 1) := by decide +kernel
theorem dX0_perform_61 : decode cX0_perform 61 = .ok (.iconst 2, 1) := by decide +kernel
theorem dX0_perform_62 : decode cX0_perform 62 = .ok (.if_icmp .ne 16, 3) := by decide +kernel
theorem dX0_perform_65 : decode cX0_perform 65 = .ok (.aload_n 0, 1) := by decide +kernel
theorem dX0_perform_66 : decode cX0_perform 66 = .ok (.aload_n 0, 1) := by decide +kernel
theorem dX0_perform_67 : decode cX0_perform 67 = .ok (.getfield 23, 3) := by decide +kernel
theorem dX0_perform_70 : decode cX0_perform 70 = .ok (.iload 4, 2) := by decide +kernel
theorem dX0_perform_72 : decode cX0_perform 72 = .ok (.invokevirtual 47, 3) := by decide +kernel
theorem dX0_perform_75 : decode cX0_perform 75 = .ok (.goto 13, 3) := by decide +kernel
theorem dX0_perform_78 : decode cX0_perform 78 = .ok (.aload_n 0, 1) := by decide +kernel
theorem dX0_perform_79 : decode cX0_perform 79 = .ok (.aload_n 0, 1) := by decide +kernel
theorem dX0_perform_80 : decode cX0_perform 80 = .ok (.getfield 23, 3) := by decide +kernel
theorem dX0_perform_83 : decode cX0_perform 83 = .ok (.iload 4, 2) := by decide +kernel
theorem dX0_perform_85 : decode cX0_perform 85 = .ok (.invokevirtual 50, 3) := by decide +kernel
theorem dX0_perform_88 : decode cX0_perform 88 = .ok (.istore 5, 2) := by decide +kernel
theorem dX0_perform_90 : decode cX0_perform 90 = .ok (.aload_n 0, 1) := by decide +kernel
theorem dX0_perform_91 : decode cX0_perform 91 = .ok (.getfield 19, 3) := by decide +kernel
theorem dX0_perform_94 : decode cX0_perform 94 = .ok (.ifCond .eq 8, 3) := by decide +kernel
theorem dX0_perform_97 : decode cX0_perform 97 = .ok (.bipush (-15), 2) := by decide +kernel
theorem dX0_perform_99 : decode cX0_perform 99 = .ok (.goto 5, 3) := by decide +kernel
theorem dX0_perform_102 : decode cX0_perform 102 = .ok (.iload 5, 2) := by decide +kernel
theorem dX0_perform_104 : decode cX0_perform 104 = .ok (.ireturn, 1) := by decide +kernel
theorem dX0_begin_0 : decode cX0_begin 0 = .ok (.aload_n 0, 1) := by decide +kernel
theorem dX0_begin_1 : decode cX0_begin 1 = .ok (.getfield 19, 3) := by decide +kernel
theorem dX0_begin_4 : decode cX0_begin 4 = .ok (.ifCond .ne 32, 3) := by decide +kernel
theorem dX0_begin_7 : decode cX0_begin 7 = .ok (.aload_n 0, 1) := by decide +kernel
theorem dX0_begin_8 : decode cX0_begin 8 = .ok (.getfield 15, 3) := by decide +kernel
theorem dX0_begin_11 : decode cX0_begin 11 = .ok (.bipush 30, 2) := by decide +kernel
theorem dX0_begin_13 : decode cX0_begin 13 = .ok (.if_icmp .ge 23, 3) := by decide +kernel
theorem dX0_begin_16 : decode cX0_begin 16 = .ok (.aload_n 0, 1) := by decide +kernel
theorem dX0_begin_17 : decode cX0_begin 17 = .ok (.getfield 11, 3) := by decide +kernel
theorem dX0_begin_20 : decode cX0_begin 20 = .ok (.aload_n 0, 1) := by decide +kernel
theorem dX0_begin_21 : decode cX0_begin 21 = .ok (.getfield 15, 3) := by decide +kernel
theorem dX0_begin_24 : decode cX0_begin 24 = .ok (.iload_n 1, 1) := by decide +kernel
theorem dX0_begin_25 : decode cX0_begin 25 = .ok (.iastore, 1) := by decide +kernel
theorem dX0_begin_26 : decode cX0_begin 26 = .ok (.aload_n 0, 1) := by decide +kernel
theorem dX0_begin_27 : decode cX0_begin 27 = .ok (.dup, 1) := by decide +kernel
theorem dX0_begin_28 : decode cX0_begin 28 = .ok (.getfield 15, 3) := by decide +kernel
theorem dX0_begin_31 : decode cX0_begin 31 = .ok (.iconst 1, 1) := by decide +kernel
theorem dX0_begin_32 : decode cX0_begin 32 = .ok (.iadd, 1) := by decide +kernel
theorem dX0_begin_33 : decode cX0_begin 33 = .ok (.putfield 15, 3) := by decide +kernel
theorem dX0_begin_36 : decode cX0_begin 36 = .ok (.return_, 1) := by decide +kernel
set_option maxRecDepth 20000 in
theorem ggX0_parts_X0_begin : GoodIn wsX0_parts wsX0_begin := goodIn_r _ [7, 8, 9, 10, 14, 15, 16, 17, 18, 19] (by decide +kernel) (by decide +kernel)
set_option maxRecDepth 20000 in
theorem gX0_parts_X0_begin : GoodIn wsX0_parts (wsV RX0 53 RX0 yX0_begin wsX0_begin) := goodIn_app (goodIn_of _ (by decide +kernel)) ggX0_parts_X0_begin
set_option maxRecDepth 20000 in
theorem ggX0_parts_X0_parts : GoodIn wsX0_parts wsX0_parts := goodIn_r _ [0, 1, 2, 3, 4, 5, 6, 7, 8, 9, 10, 11, 12, 13, 14, 15, 16, 17, 18, 19] (by decide +kernel) (by decide +kernel)
set_option maxRecDepth 20000 in
theorem gX0_parts_X0_parts : GoodIn wsX0_parts (wsV RX0 40 RX0 yX0_parts wsX0_parts) := goodIn_app (goodIn_of _ (by decide +kernel)) ggX0_parts_X0_parts
theorem dX0_parts_0 : decode cX0_parts 0 = .ok (.iload_n 1, 1) := by decide +kernel
theorem dX0_parts_1 : decode cX0_parts 1 = .ok (.tableswitch 119 1 6 #[105, 39, 54, 72, 112, 87], 39) := by decide +kernel
theorem dX0_parts_40 : decode cX0_parts 40 = .ok (.aload_n 0, 1) := by decide +kernel
theorem dX0_parts_41 : decode cX0_parts 41 = .ok (.bipush 30, 2) := by decide +kernel
theorem dX0_parts_43 : decode cX0_parts 43 = .ok (.invokevirtual 53, 3) := by decide +kernel
theorem dX0_parts_46 : decode cX0_parts 46 = .ok (.aload_n 0, 1) := by decide +kernel
theorem dX0_parts_47 : decode cX0_parts 47 = .ok (.iconst 0, 1) := by decide +kernel
theorem dX0_parts_48 : decode cX0_parts 48 = .ok (.iload_n 2, 1) := by decide +kernel
theorem dX0_parts_49 : decode cX0_parts 49 = .ok (.invokevirtual 40, 3) := by decide +kernel
theorem dX0_parts_52 : decode cX0_parts 52 = .ok (.iconst 3, 1) := by decide +kernel
theorem dX0_parts_53 : decode cX0_parts 53 = .ok (.imul, 1) := by decide +kernel
theorem dX0_parts_54 : decode cX0_parts 54 = .ok (.ireturn, 1) := by decide +kernel
theorem dX0_parts_55 : decode cX0_parts 55 = .ok (.aload_n 0, 1) := by decide +kernel
theorem dX0_parts_56 : decode cX0_parts 56 = .ok (.bipush 41, 2) := by decide +kernel
theorem dX0_parts_58 : decode cX0_parts 58 = .ok (.invokevirtual 53, 3) := by decide +kernel
theorem dX0_parts_61 : decode cX0_parts 61 = .ok (.aload_n 0, 1) := by decide +kernel
theorem dX0_parts_62 : decode cX0_parts 62 = .ok (.iconst 2, 1) := by decide +kernel
theorem dX0_parts_63 : decode cX0_parts 63 = .ok (.iload_n 2, 1) := by decide +kernel
theorem dX0_parts_64 : decode cX0_parts 64 = .ok (.invokevirtual 40, 3) := by decide +kernel
theorem dX0_parts_67 : decode cX0_parts 67 = .ok (.aload_n 0, 1) := by decide +kernel
theorem dX0_parts_68 : decode cX0_parts 68 = .ok (.getfield 26, 3) := by decide +kernel
theorem dX0_parts_71 : decode cX0_parts 71 = .ok (.isub, 1) := by decide +kernel
theorem dX0_parts_72 : decode cX0_parts 72 = .ok (.ireturn, 1) := by decide +kernel
theorem dX0_parts_73 : decode cX0_parts 73 = .ok (.aload_n 0, 1) := by decide +kernel
theorem dX0_parts_74 : decode cX0_parts 74 = .ok (.bipush 50, 2) := by decide +kernel
theorem dX0_parts_76 : decode cX0_parts 76 = .ok (.invokevirtual 53, 3) := by decide +kernel
theorem dX0_parts_79 : decode cX0_parts 79 = .ok (.iconst 0, 1) := by decide +kernel
theorem dX0_parts_80 : decode cX0_parts 80 = .ok (.aload_n 0, 1) := by decide +kernel
theorem dX0_parts_81 : decode cX0_parts 81 = .ok (.iconst 1, 1) := by decide +kernel
theorem dX0_parts_82 : decode cX0_parts 82 = .ok (.iload_n 2, 1) := by decide +kernel
theorem dX0_parts_83 : decode cX0_parts 83 = .ok (.invokevirtual 40, 3) := by decide +kernel
theorem dX0_parts_86 : decode cX0_parts 86 = .ok (.isub, 1) := by decide +kernel
theorem dX0_parts_87 : decode cX0_parts 87 = .ok (.ireturn, 1) := by decide +kernel
theorem dX0_parts_88 : decode cX0_parts 88 = .ok (.aload_n 0, 1) := by decide +kernel
theorem dX0_parts_89 : decode cX0_parts 89 = .ok (.bipush 70, 2) := by decide +kernel
theorem dX0_parts_91 : decode cX0_parts 91 = .ok (.invokevirtual 53, 3) := by decide +kernel
theorem dX0_parts_94 : decode cX0_parts 94 = .ok (.aload_n 0, 1) := by decide +kernel
theorem dX0_parts_95 : decode cX0_parts 95 = .ok (.iconst 0, 1) := by decide +kernel
theorem dX0_parts_96 : decode cX0_parts 96 = .ok (.iload_n 2, 1) := by decide +kernel
theorem dX0_parts_97 : decode cX0_parts 97 = .ok (.invokevirtual 40, 3) := by decide +kernel
theorem dX0_parts_100 : decode cX0_parts 100 = .ok (.aload_n 0, 1) := by decide +kernel
theorem dX0_parts_101 : decode cX0_parts 101 = .ok (.getfield 29, 3) := by decide +kernel
theorem dX0_parts_104 : decode cX0_parts 104 = .ok (.ixor, 1) := by decide +kernel
theorem dX0_parts_105 : decode cX0_parts 105 = .ok (.ireturn, 1) := by decide +kernel
theorem dX0_parts_106 : decode cX0_parts 106 = .ok (.aload_n 0, 1) := by decide +kernel
theorem dX0_parts_107 : decode cX0_parts 107 = .ok (.iconst 0, 1) := by decide +kernel
theorem dX0_parts_108 : decode cX0_parts 108 = .ok (.iload_n 2, 1) := by decide +kernel
theorem dX0_parts_109 : decode cX0_parts 109 = .ok (.invokevirtual 40, 3) := by decide +kernel
theorem dX0_parts_112 : decode cX0_parts 112 = .ok (.ireturn, 1) := by decide +kernel
theorem dX0_parts_113 : decode cX0_parts 113 = .ok (.aload_n 0, 1) := by decide +kernel
theorem dX0_parts_114 : decode cX0_parts 114 = .ok (.iconst 3, 1) := by decide +kernel
theorem dX0_parts_115 : decode cX0_parts 115 = .ok (.iload_n 2, 1) := by decide +kernel
theorem dX0_parts_116 : decode cX0_parts 116 = .ok (.invokevirtual 40, 3) := by decide +kernel
theorem dX0_parts_119 : decode cX0_parts 119 = .ok (.ireturn, 1) := by decide +kernel
theorem dX0_parts_120 : decode cX0_parts 120 = .ok (.aload_n 0, 1) := by decide +kernel
theorem dX0_parts_121 : decode cX0_parts 121 = .ok (.bipush 10, 2) := by decide +kernel
theorem dX0_parts_123 : decode cX0_parts 123 = .ok (.invokevirtual 53, 3) := by decide +kernel
theorem dX0_parts_126 : decode cX0_parts 126 = .ok (.iload_n 2, 1) := by decide +kernel
theorem dX0_parts_127 : decode cX0_parts 127 = .ok (.aload_n 0, 1) := by decide +kernel
theorem dX0_parts_128 : decode cX0_parts 128 = .ok (.getfield 26, 3) := by decide +kernel
theorem dX0_parts_131 : decode cX0_parts 131 = .ok (.iadd, 1) := by decide +kernel
theorem dX0_parts_132 : decode cX0_parts 132 = .ok (.ireturn, 1) := by decide +kernel
set_option maxRecDepth 20000 in
theorem ggX0_costs_X0_begin : GoodIn wsX0_costs wsX0_begin := goodIn_r _ [8, 9, 10, 11, 27, 28, 29, 30, 31, 32] (by decide +kernel) (by decide +kernel)
set_option maxRecDepth 20000 in
theorem gX0_costs_X0_begin : GoodIn wsX0_costs (wsV RX0 53 RX0 yX0_begin wsX0_begin) := goodIn_app (goodIn_of _ (by decide +kernel)) ggX0_costs_X0_begin
set_option maxRecDepth 20000 in
theorem ggX0_costs_X0_costs : GoodIn wsX0_costs wsX0_costs := goodIn_r _ [0, 1, 2, 3, 4, 5, 6, 7, 8, 9, 10, 11, 12, 13, 14, 15, 16, 17, 18, 19, 20, 21, 22, 23, 24, 25, 26, 27, 28, 29, 30, 31, 32] (by decide +kernel) (by decide +kernel)
set_option maxRecDepth 20000 in
theorem gX0_costs_X0_costs : GoodIn wsX0_costs (wsV RX0 44 RX0 yX0_costs wsX0_costs) := goodIn_app (goodIn_of _ (by decide +kernel)) ggX0_costs_X0_costs
set_option maxRecDepth 20000 in
theorem ggX0_costs_X0_parts : GoodIn wsX0_costs wsX0_parts := goodIn_r _ [18, 3, 1, 4, 5, 6, 7, 8, 9, 10, 11, 15, 16, 17, 27, 28, 29, 30, 31, 32] (by decide +kernel) (by decide +kernel)
set_option maxRecDepth 20000 in
theorem gX0_costs_X0_parts : GoodIn wsX0_costs (wsV RX0 40 RX0 yX0_parts wsX0_parts) := goodIn_app (goodIn_of _ (by decide +kernel)) ggX0_costs_X0_parts
set_option maxRecDepth 20000 in
theorem ggX0_costs_X0_shares : GoodIn wsX0_costs wsX0_shares := goodIn_r _ [22, 2, 1, 4, 5, 6, 7, 8, 9, 10, 11, 19, 20, 21, 15, 16, 17, 18, 3, 23, 24, 25, 26, 27, 28, 29, 30, 31, 32] (by decide +kernel) (by decide +kernel)
set_option maxRecDepth 20000 in
theorem gX0_costs_X0_shares : GoodIn wsX0_costs (wsV RX0 47 RX0 yX0_shares wsX0_shares) := goodIn_app (goodIn_of _ (by decide +kernel)) ggX0_costs_X0_shares
theorem dX0_costs_0 : decode cX0_costs 0 = .ok (.iload_n 1, 1) := by decide +kernel
theorem dX0_costs_1 : decode cX0_costs 1 = .ok (.tableswitch 123 1 6 #[39, 116, 109, 57, 83, 116], 39) := by decide +kernel
theorem dX0_costs_40 : decode cX0_costs 40 = .ok (.aload_n 0, 1) := by decide +kernel
theorem dX0_costs_41 : decode cX0_costs 41 = .ok (.bipush 20, 2) := by decide +kernel
theorem dX0_costs_43 : decode cX0_costs 43 = .ok (.invokevirtual 53, 3) := by decide +kernel
theorem dX0_costs_46 : decode cX0_costs 46 = .ok (.aload_n 0, 1) := by decide +kernel
theorem dX0_costs_47 : decode cX0_costs 47 = .ok (.iconst 0, 1) := by decide +kernel
theorem dX0_costs_48 : decode cX0_costs 48 = .ok (.iload_n 2, 1) := by decide +kernel
theorem dX0_costs_49 : decode cX0_costs 49 = .ok (.invokevirtual 44, 3) := by decide +kernel
theorem dX0_costs_52 : decode cX0_costs 52 = .ok (.aload_n 0, 1) := by decide +kernel
theorem dX0_costs_53 : decode cX0_costs 53 = .ok (.getfield 29, 3) := by decide +kernel
theorem dX0_costs_56 : decode cX0_costs 56 = .ok (.isub, 1) := by decide +kernel
theorem dX0_costs_57 : decode cX0_costs 57 = .ok (.ireturn, 1) := by decide +kernel
theorem dX0_costs_58 : decode cX0_costs 58 = .ok (.aload_n 0, 1) := by decide +kernel
theorem dX0_costs_59 : decode cX0_costs 59 = .ok (.bipush 51, 2) := by decide +kernel
theorem dX0_costs_61 : decode cX0_costs 61 = .ok (.invokevirtual 53, 3) := by decide +kernel
theorem dX0_costs_64 : decode cX0_costs 64 = .ok (.aload_n 0, 1) := by decide +kernel
theorem dX0_costs_65 : decode cX0_costs 65 = .ok (.iconst 1, 1) := by decide +kernel
theorem dX0_costs_66 : decode cX0_costs 66 = .ok (.iload_n 2, 1) := by decide +kernel
theorem dX0_costs_67 : decode cX0_costs 67 = .ok (.invokevirtual 44, 3) := by decide +kernel
theorem dX0_costs_70 : decode cX0_costs 70 = .ok (.aload_n 0, 1) := by decide +kernel
theorem dX0_costs_71 : decode cX0_costs 71 = .ok (.aload_n 0, 1) := by decide +kernel
theorem dX0_costs_72 : decode cX0_costs 72 = .ok (.getfield 23, 3) := by decide +kernel
theorem dX0_costs_75 : decode cX0_costs 75 = .ok (.aload_n 0, 1) := by decide +kernel
theorem dX0_costs_76 : decode cX0_costs 76 = .ok (.getfield 26, 3) := by decide +kernel
theorem dX0_costs_79 : decode cX0_costs 79 = .ok (.invokevirtual 40, 3) := by decide +kernel
theorem dX0_costs_82 : decode cX0_costs 82 = .ok (.iadd, 1) := by decide +kernel
theorem dX0_costs_83 : decode cX0_costs 83 = .ok (.ireturn, 1) := by decide +kernel
theorem dX0_costs_84 : decode cX0_costs 84 = .ok (.aload_n 0, 1) := by decide +kernel
theorem dX0_costs_85 : decode cX0_costs 85 = .ok (.bipush 60, 2) := by decide +kernel
theorem dX0_costs_87 : decode cX0_costs 87 = .ok (.invokevirtual 53, 3) := by decide +kernel
theorem dX0_costs_90 : decode cX0_costs 90 = .ok (.aload_n 0, 1) := by decide +kernel
theorem dX0_costs_91 : decode cX0_costs 91 = .ok (.iconst 3, 1) := by decide +kernel
theorem dX0_costs_92 : decode cX0_costs 92 = .ok (.iload_n 2, 1) := by decide +kernel
theorem dX0_costs_93 : decode cX0_costs 93 = .ok (.invokevirtual 44, 3) := by decide +kernel
theorem dX0_costs_96 : decode cX0_costs 96 = .ok (.aload_n 0, 1) := by decide +kernel
theorem dX0_costs_97 : decode cX0_costs 97 = .ok (.aload_n 0, 1) := by decide +kernel
theorem dX0_costs_98 : decode cX0_costs 98 = .ok (.getfield 23, 3) := by decide +kernel
theorem dX0_costs_101 : decode cX0_costs 101 = .ok (.aload_n 0, 1) := by decide +kernel
theorem dX0_costs_102 : decode cX0_costs 102 = .ok (.getfield 29, 3) := by decide +kernel
theorem dX0_costs_105 : decode cX0_costs 105 = .ok (.invokevirtual 47, 3) := by decide +kernel
theorem dX0_costs_108 : decode cX0_costs 108 = .ok (.iadd, 1) := by decide +kernel
theorem dX0_costs_109 : decode cX0_costs 109 = .ok (.ireturn, 1) := by decide +kernel
theorem dX0_costs_110 : decode cX0_costs 110 = .ok (.aload_n 0, 1) := by decide +kernel
theorem dX0_costs_111 : decode cX0_costs 111 = .ok (.iconst 2, 1) := by decide +kernel
theorem dX0_costs_112 : decode cX0_costs 112 = .ok (.iload_n 2, 1) := by decide +kernel
theorem dX0_costs_113 : decode cX0_costs 113 = .ok (.invokevirtual 44, 3) := by decide +kernel
theorem dX0_costs_116 : decode cX0_costs 116 = .ok (.ireturn, 1) := by decide +kernel
theorem dX0_costs_117 : decode cX0_costs 117 = .ok (.aload_n 0, 1) := by decide +kernel
theorem dX0_costs_118 : decode cX0_costs 118 = .ok (.iconst 0, 1) := by decide +kernel
theorem dX0_costs_119 : decode cX0_costs 119 = .ok (.iload_n 2, 1) := by decide +kernel
theorem dX0_costs_120 : decode cX0_costs 120 = .ok (.invokevirtual 44, 3) := by decide +kernel
theorem dX0_costs_123 : decode cX0_costs 123 = .ok (.ireturn, 1) := by decide +kernel
theorem dX0_costs_124 : decode cX0_costs 124 = .ok (.aload_n 0, 1) := by decide +kernel
theorem dX0_costs_125 : decode cX0_costs 125 = .ok (.bipush 11, 2) := by decide +kernel
theorem dX0_costs_127 : decode cX0_costs 127 = .ok (.invokevirtual 53, 3) := by decide +kernel
theorem dX0_costs_130 : decode cX0_costs 130 = .ok (.aload_n 0, 1) := by decide +kernel
theorem dX0_costs_131 : decode cX0_costs 131 = .ok (.aload_n 0, 1) := by decide +kernel
theorem dX0_costs_132 : decode cX0_costs 132 = .ok (.getfield 23, 3) := by decide +kernel
theorem dX0_costs_135 : decode cX0_costs 135 = .ok (.iload_n 2, 1) := by decide +kernel
theorem dX0_costs_136 : decode cX0_costs 136 = .ok (.invokevirtual 40, 3) := by decide +kernel
theorem dX0_costs_139 : decode cX0_costs 139 = .ok (.iconst 2, 1) := by decide +kernel
theorem dX0_costs_140 : decode cX0_costs 140 = .ok (.imul, 1) := by decide +kernel
theorem dX0_costs_141 : decode cX0_costs 141 = .ok (.ireturn, 1) := by decide +kernel
set_option maxRecDepth 20000 in
theorem ggX0_shares_X0_begin : GoodIn wsX0_shares wsX0_begin := goodIn_r _ [7, 8, 9, 10, 23, 24, 25, 26, 27, 28] (by decide +kernel) (by decide +kernel)
set_option maxRecDepth 20000 in
theorem gX0_shares_X0_begin : GoodIn wsX0_shares (wsV RX0 53 RX0 yX0_begin wsX0_begin) := goodIn_app (goodIn_of _ (by decide +kernel)) ggX0_shares_X0_begin
set_option maxRecDepth 20000 in
theorem ggX0_shares_X0_shares : GoodIn wsX0_shares wsX0_shares := goodIn_r _ [0, 1, 2, 3, 4, 5, 6, 7, 8, 9, 10, 11, 12, 13, 14, 15, 16, 17, 18, 19, 20, 21, 22, 23, 24, 25, 26, 27, 28] (by decide +kernel) (by decide +kernel)
set_option maxRecDepth 20000 in
theorem gX0_shares_X0_shares : GoodIn wsX0_shares (wsV RX0 47 RX0 yX0_shares wsX0_shares) := goodIn_app (goodIn_of _ (by decide +kernel)) ggX0_shares_X0_shares
set_option maxRecDepth 20000 in
theorem ggX0_shares_X0_parts : GoodIn wsX0_shares wsX0_parts := goodIn_r _ [17, 18, 2, 3, 4, 5, 6, 7, 8, 9, 10, 14, 15, 16, 23, 24, 25, 26, 27, 28] (by decide +kernel) (by decide +kernel)
set_option maxRecDepth 20000 in
theorem gX0_shares_X0_parts : GoodIn wsX0_shares (wsV RX0 40 RX0 yX0_parts wsX0_parts) := goodIn_app (goodIn_of _ (by decide +kernel)) ggX0_shares_X0_parts
set_option maxRecDepth 20000 in
theorem ggX0_shares_X0_shareOut : GoodIn wsX0_shares wsX0_shareOut := goodIn_r _ [22, 2, 18, 8, 23, 24, 25, 26, 27, 28] (by decide +kernel) (by decide +kernel)
set_option maxRecDepth 20000 in
theorem gX0_shares_X0_shareOut : GoodIn wsX0_shares (wsV RX0 57 RX0 yX0_shareOut wsX0_shareOut) := goodIn_app (goodIn_of _ (by decide +kernel)) ggX0_shares_X0_shareOut
theorem dX0_shares_0 : decode cX0_shares 0 = .ok (.iload_n 1, 1) := by decide +kernel
theorem dX0_shares_1 : decode cX0_shares 1 = .ok (.tableswitch 103 1 6 #[96, 96, 39, 89, 82, 56], 39) := by decide +kernel
theorem dX0_shares_40 : decode cX0_shares 40 = .ok (.aload_n 0, 1) := by decide +kernel
theorem dX0_shares_41 : decode cX0_shares 41 = .ok (.bipush 40, 2) := by decide +kernel
theorem dX0_shares_43 : decode cX0_shares 43 = .ok (.invokevirtual 53, 3) := by decide +kernel
theorem dX0_shares_46 : decode cX0_shares 46 = .ok (.aload_n 0, 1) := by decide +kernel
theorem dX0_shares_47 : decode cX0_shares 47 = .ok (.iconst 2, 1) := by decide +kernel
theorem dX0_shares_48 : decode cX0_shares 48 = .ok (.iload_n 2, 1) := by decide +kernel
theorem dX0_shares_49 : decode cX0_shares 49 = .ok (.iconst 2, 1) := by decide +kernel
theorem dX0_shares_50 : decode cX0_shares 50 = .ok (.iadd, 1) := by decide +kernel
theorem dX0_shares_51 : decode cX0_shares 51 = .ok (.invokevirtual 47, 3) := by decide +kernel
theorem dX0_shares_54 : decode cX0_shares 54 = .ok (.iconst 1, 1) := by decide +kernel
theorem dX0_shares_55 : decode cX0_shares 55 = .ok (.ixor, 1) := by decide +kernel
theorem dX0_shares_56 : decode cX0_shares 56 = .ok (.ireturn, 1) := by decide +kernel
theorem dX0_shares_57 : decode cX0_shares 57 = .ok (.aload_n 0, 1) := by decide +kernel
theorem dX0_shares_58 : decode cX0_shares 58 = .ok (.bipush 71, 2) := by decide +kernel
theorem dX0_shares_60 : decode cX0_shares 60 = .ok (.invokevirtual 53, 3) := by decide +kernel
theorem dX0_shares_63 : decode cX0_shares 63 = .ok (.aload_n 0, 1) := by decide +kernel
theorem dX0_shares_64 : decode cX0_shares 64 = .ok (.iconst 0, 1) := by decide +kernel
theorem dX0_shares_65 : decode cX0_shares 65 = .ok (.iload_n 2, 1) := by decide +kernel
theorem dX0_shares_66 : decode cX0_shares 66 = .ok (.invokevirtual 47, 3) := by decide +kernel
theorem dX0_shares_69 : decode cX0_shares 69 = .ok (.aload_n 0, 1) := by decide +kernel
theorem dX0_shares_70 : decode cX0_shares 70 = .ok (.aload_n 0, 1) := by decide +kernel
theorem dX0_shares_71 : decode cX0_shares 71 = .ok (.getfield 23, 3) := by decide +kernel
theorem dX0_shares_74 : decode cX0_shares 74 = .ok (.aload_n 0, 1) := by decide +kernel
theorem dX0_shares_75 : decode cX0_shares 75 = .ok (.getfield 29, 3) := by decide +kernel
theorem dX0_shares_78 : decode cX0_shares 78 = .ok (.invokevirtual 40, 3) := by decide +kernel
theorem dX0_shares_81 : decode cX0_shares 81 = .ok (.iadd, 1) := by decide +kernel
theorem dX0_shares_82 : decode cX0_shares 82 = .ok (.ireturn, 1) := by decide +kernel
theorem dX0_shares_83 : decode cX0_shares 83 = .ok (.aload_n 0, 1) := by decide +kernel
theorem dX0_shares_84 : decode cX0_shares 84 = .ok (.iconst 3, 1) := by decide +kernel
theorem dX0_shares_85 : decode cX0_shares 85 = .ok (.iload_n 2, 1) := by decide +kernel
theorem dX0_shares_86 : decode cX0_shares 86 = .ok (.invokevirtual 47, 3) := by decide +kernel
theorem dX0_shares_89 : decode cX0_shares 89 = .ok (.ireturn, 1) := by decide +kernel
theorem dX0_shares_90 : decode cX0_shares 90 = .ok (.aload_n 0, 1) := by decide +kernel
theorem dX0_shares_91 : decode cX0_shares 91 = .ok (.iconst 1, 1) := by decide +kernel
theorem dX0_shares_92 : decode cX0_shares 92 = .ok (.iload_n 2, 1) := by decide +kernel
theorem dX0_shares_93 : decode cX0_shares 93 = .ok (.invokevirtual 47, 3) := by decide +kernel
theorem dX0_shares_96 : decode cX0_shares 96 = .ok (.ireturn, 1) := by decide +kernel
theorem dX0_shares_97 : decode cX0_shares 97 = .ok (.aload_n 0, 1) := by decide +kernel
theorem dX0_shares_98 : decode cX0_shares 98 = .ok (.iconst 0, 1) := by decide +kernel
theorem dX0_shares_99 : decode cX0_shares 99 = .ok (.iload_n 2, 1) := by decide +kernel
theorem dX0_shares_100 : decode cX0_shares 100 = .ok (.invokevirtual 47, 3) := by decide +kernel
theorem dX0_shares_103 : decode cX0_shares 103 = .ok (.ireturn, 1) := by decide +kernel
theorem dX0_shares_104 : decode cX0_shares 104 = .ok (.aload_n 0, 1) := by decide +kernel
theorem dX0_shares_105 : decode cX0_shares 105 = .ok (.bipush 12, 2) := by decide +kernel
theorem dX0_shares_107 : decode cX0_shares 107 = .ok (.invokevirtual 53, 3) := by decide +kernel
theorem dX0_shares_110 : decode cX0_shares 110 = .ok (.aload_n 0, 1) := by decide +kernel
theorem dX0_shares_111 : decode cX0_shares 111 = .ok (.iload_n 2, 1) := by decide +kernel
theorem dX0_shares_112 : decode cX0_shares 112 = .ok (.invokevirtual 57, 3) := by decide +kernel
theorem dX0_shares_115 : decode cX0_shares 115 = .ok (.ireturn, 1) := by decide +kernel
theorem dX0_shareOut_0 : decode cX0_shareOut 0 = .ok (.aload_n 0, 1) := by decide +kernel
theorem dX0_shareOut_1 : decode cX0_shareOut 1 = .ok (.getfield 29, 3) := by decide +kernel
theorem dX0_shareOut_4 : decode cX0_shareOut 4 = .ok (.aload_n 0, 1) := by decide +kernel
theorem dX0_shareOut_5 : decode cX0_shareOut 5 = .ok (.getfield 26, 3) := by decide +kernel
theorem dX0_shareOut_8 : decode cX0_shareOut 8 = .ok (.isub, 1) := by decide +kernel
theorem dX0_shareOut_9 : decode cX0_shareOut 9 = .ok (.istore_n 2, 1) := by decide +kernel
theorem dX0_shareOut_10 : decode cX0_shareOut 10 = .ok (.iload_n 2, 1) := by decide +kernel
theorem dX0_shareOut_11 : decode cX0_shareOut 11 = .ok (.ifCond .ne 10, 3) := by decide +kernel
theorem dX0_shareOut_14 : decode cX0_shareOut 14 = .ok (.aload_n 0, 1) := by decide +kernel
theorem dX0_shareOut_15 : decode cX0_shareOut 15 = .ok (.iconst 1, 1) := by decide +kernel
theorem dX0_shareOut_16 : decode cX0_shareOut 16 = .ok (.putfield 19, 3) := by decide +kernel
theorem dX0_shareOut_19 : decode cX0_shareOut 19 = .ok (.iconst 0, 1) := by decide +kernel
theorem dX0_shareOut_20 : decode cX0_shareOut 20 = .ok (.ireturn, 1) := by decide +kernel
theorem dX0_shareOut_21 : decode cX0_shareOut 21 = .ok (.iload_n 1, 1) := by decide +kernel
theorem dX0_shareOut_22 : decode cX0_shareOut 22 = .ok (.iload_n 2, 1) := by decide +kernel
theorem dX0_shareOut_23 : decode cX0_shareOut 23 = .ok (.idiv, 1) := by decide +kernel
theorem dX0_shareOut_24 : decode cX0_shareOut 24 = .ok (.ireturn, 1) := by decide +kernel
set_option maxRecDepth 20000 in
theorem ggX0_tells_X0_begin : GoodIn wsX0_tells wsX0_begin := goodIn_r _ [8, 9, 10, 11, 31, 32, 33, 34, 35, 36] (by decide +kernel) (by decide +kernel)
set_option maxRecDepth 20000 in
theorem gX0_tells_X0_begin : GoodIn wsX0_tells (wsV RX0 53 RX0 yX0_begin wsX0_begin) := goodIn_app (goodIn_of _ (by decide +kernel)) ggX0_tells_X0_begin
set_option maxRecDepth 20000 in
theorem ggX0_tells_X0_tells : GoodIn wsX0_tells wsX0_tells := goodIn_r _ [0, 1, 2, 3, 4, 5, 6, 7, 8, 9, 10, 11, 12, 13, 14, 15, 16, 17, 18, 19, 20, 21, 22, 23, 24, 25, 26, 27, 28, 29, 30, 31, 32, 33, 34, 35, 36] (by decide +kernel) (by decide +kernel)
set_option maxRecDepth 20000 in
theorem gX0_tells_X0_tells : GoodIn wsX0_tells (wsV RX0 50 RX0 yX0_tells wsX0_tells) := goodIn_app (goodIn_of _ (by decide +kernel)) ggX0_tells_X0_tells
set_option maxRecDepth 20000 in
theorem ggX0_tells_X0_shares : GoodIn wsX0_tells wsX0_shares := goodIn_r _ [18, 1, 3, 4, 5, 6, 7, 8, 9, 10, 11, 15, 16, 17, 19, 20, 21, 22, 2, 23, 24, 25, 26, 31, 32, 33, 34, 35, 36] (by decide +kernel) (by decide +kernel)
set_option maxRecDepth 20000 in
theorem gX0_tells_X0_shares : GoodIn wsX0_tells (wsV RX0 47 RX0 yX0_shares wsX0_shares) := goodIn_app (goodIn_of _ (by decide +kernel)) ggX0_tells_X0_shares
set_option maxRecDepth 20000 in
theorem ggX0_tells_X0_costs : GoodIn wsX0_tells wsX0_costs := goodIn_r _ [30, 3, 1, 2, 4, 5, 6, 7, 8, 9, 10, 11, 27, 28, 29, 19, 20, 21, 22, 15, 16, 17, 18, 23, 24, 25, 26, 31, 32, 33, 34, 35, 36] (by decide +kernel) (by decide +kernel)
set_option maxRecDepth 20000 in
theorem gX0_tells_X0_costs : GoodIn wsX0_tells (wsV RX0 44 RX0 yX0_costs wsX0_costs) := goodIn_app (goodIn_of _ (by decide +kernel)) ggX0_tells_X0_costs
theorem dX0_tells_0 : decode cX0_tells 0 = .ok (.iload_n 1, 1) := by decide +kernel
theorem dX0_tells_1 : decode cX0_tells 1 = .ok (.tableswitch 101 1 6 #[94, 39, 80, 87, 65, 94], 39) := by decide +kernel
theorem dX0_tells_40 : decode cX0_tells 40 = .ok (.aload_n 0, 1) := by decide +kernel
theorem dX0_tells_41 : decode cX0_tells 41 = .ok (.bipush 31, 2) := by decide +kernel
theorem dX0_tells_43 : decode cX0_tells 43 = .ok (.invokevirtual 53, 3) := by decide +kernel
theorem dX0_tells_46 : decode cX0_tells 46 = .ok (.aload_n 0, 1) := by decide +kernel
theorem dX0_tells_47 : decode cX0_tells 47 = .ok (.iconst 0, 1) := by decide +kernel
theorem dX0_tells_48 : decode cX0_tells 48 = .ok (.iload_n 2, 1) := by decide +kernel
theorem dX0_tells_49 : decode cX0_tells 49 = .ok (.invokevirtual 50, 3) := by decide +kernel
theorem dX0_tells_52 : decode cX0_tells 52 = .ok (.aload_n 0, 1) := by decide +kernel
theorem dX0_tells_53 : decode cX0_tells 53 = .ok (.aload_n 0, 1) := by decide +kernel
theorem dX0_tells_54 : decode cX0_tells 54 = .ok (.getfield 23, 3) := by decide +kernel
theorem dX0_tells_57 : decode cX0_tells 57 = .ok (.aload_n 0, 1) := by decide +kernel
theorem dX0_tells_58 : decode cX0_tells 58 = .ok (.getfield 26, 3) := by decide +kernel
theorem dX0_tells_61 : decode cX0_tells 61 = .ok (.invokevirtual 47, 3) := by decide +kernel
theorem dX0_tells_64 : decode cX0_tells 64 = .ok (.iadd, 1) := by decide +kernel
theorem dX0_tells_65 : decode cX0_tells 65 = .ok (.ireturn, 1) := by decide +kernel
theorem dX0_tells_66 : decode cX0_tells 66 = .ok (.aload_n 0, 1) := by decide +kernel
theorem dX0_tells_67 : decode cX0_tells 67 = .ok (.bipush 61, 2) := by decide +kernel
theorem dX0_tells_69 : decode cX0_tells 69 = .ok (.invokevirtual 53, 3) := by decide +kernel
theorem dX0_tells_72 : decode cX0_tells 72 = .ok (.aload_n 0, 1) := by decide +kernel
theorem dX0_tells_73 : decode cX0_tells 73 = .ok (.iconst 3, 1) := by decide +kernel
theorem dX0_tells_74 : decode cX0_tells 74 = .ok (.iload_n 2, 1) := by decide +kernel
theorem dX0_tells_75 : decode cX0_tells 75 = .ok (.invokevirtual 50, 3) := by decide +kernel
theorem dX0_tells_78 : decode cX0_tells 78 = .ok (.iconst 2, 1) := by decide +kernel
theorem dX0_tells_79 : decode cX0_tells 79 = .ok (.imul, 1) := by decide +kernel
theorem dX0_tells_80 : decode cX0_tells 80 = .ok (.ireturn, 1) := by decide +kernel
theorem dX0_tells_81 : decode cX0_tells 81 = .ok (.aload_n 0, 1) := by decide +kernel
theorem dX0_tells_82 : decode cX0_tells 82 = .ok (.iconst 2, 1) := by decide +kernel
theorem dX0_tells_83 : decode cX0_tells 83 = .ok (.iload_n 2, 1) := by decide +kernel
theorem dX0_tells_84 : decode cX0_tells 84 = .ok (.invokevirtual 50, 3) := by decide +kernel
theorem dX0_tells_87 : decode cX0_tells 87 = .ok (.ireturn, 1) := by decide +kernel
theorem dX0_tells_88 : decode cX0_tells 88 = .ok (.aload_n 0, 1) := by decide +kernel
theorem dX0_tells_89 : decode cX0_tells 89 = .ok (.iconst 1, 1) := by decide +kernel
theorem dX0_tells_90 : decode cX0_tells 90 = .ok (.iload_n 2, 1) := by decide +kernel
theorem dX0_tells_91 : decode cX0_tells 91 = .ok (.invokevirtual 50, 3) := by decide +kernel
theorem dX0_tells_94 : decode cX0_tells 94 = .ok (.ireturn, 1) := by decide +kernel
theorem dX0_tells_95 : decode cX0_tells 95 = .ok (.aload_n 0, 1) := by decide +kernel
theorem dX0_tells_96 : decode cX0_tells 96 = .ok (.iconst 0, 1) := by decide +kernel
theorem dX0_tells_97 : decode cX0_tells 97 = .ok (.iload_n 2, 1) := by decide +kernel
theorem dX0_tells_98 : decode cX0_tells 98 = .ok (.invokevirtual 50, 3) := by decide +kernel
theorem dX0_tells_101 : decode cX0_tells 101 = .ok (.ireturn, 1) := by decide +kernel
theorem dX0_tells_102 : decode cX0_tells 102 = .ok (.aload_n 0, 1) := by decide +kernel
theorem dX0_tells_103 : decode cX0_tells 103 = .ok (.bipush 13, 2) := by decide +kernel
theorem dX0_tells_105 : decode cX0_tells 105 = .ok (.invokevirtual 53, 3) := by decide +kernel
theorem dX0_tells_108 : decode cX0_tells 108 = .ok (.aload_n 0, 1) := by decide +kernel
theorem dX0_tells_109 : decode cX0_tells 109 = .ok (.aload_n 0, 1) := by decide +kernel
theorem dX0_tells_110 : decode cX0_tells 110 = .ok (.getfield 23, 3) := by decide +kernel
theorem dX0_tells_113 : decode cX0_tells 113 = .ok (.iload_n 2, 1) := by decide +kernel
theorem dX0_tells_114 : decode cX0_tells 114 = .ok (.invokevirtual 44, 3) := by decide +kernel
theorem dX0_tells_117 : decode cX0_tells 117 = .ok (.aload_n 0, 1) := by decide +kernel
theorem dX0_tells_118 : decode cX0_tells 118 = .ok (.getfield 29, 3) := by decide +kernel
theorem dX0_tells_121 : decode cX0_tells 121 = .ok (.ixor, 1) := by decide +kernel
theorem dX0_tells_122 : decode cX0_tells 122 = .ok (.ireturn, 1) := by decide +kernel
theorem dX1_init_0 : decode cX1_init 0 = .ok (.aload_n 0, 1) := by decide +kernel
theorem dX1_init_1 : decode cX1_init 1 = .ok (.invokespecial 3, 3) := by decide +kernel
theorem dX1_init_4 : decode cX1_init 4 = .ok (.aload_n 0, 1) := by decide +kernel
theorem dX1_init_5 : decode cX1_init 5 = .ok (.bipush 10, 2) := by decide +kernel
theorem dX1_init_7 : decode cX1_init 7 = .ok (.newarray .int, 2) := by decide +kernel
theorem dX1_init_9 : decode cX1_init 9 = .ok (.putfield 9, 3) := by decide +kernel
theorem dX1_init_12 : decode cX1_init 12 = .ok (.aload_n 0, 1) := by decide +kernel
theorem dX1_init_13 : decode cX1_init 13 = .ok (.bipush 10, 2) := by decide +kernel
theorem dX1_init_15 : decode cX1_init 15 = .ok (.newarray .int, 2) := by decide +kernel
theorem dX1_init_17 : decode cX1_init 17 = .ok (.putfield 15, 3) := by decide +kernel
theorem dX1_init_20 : decode cX1_init 20 = .ok (.return_, 1) := by decide +kernel
set_option maxRecDepth 20000 in
theorem ggX1_follow_J7_fill_53178 : GoodIn wsX1_follow wsJ7_fill_53178 := goodIn_r _ [6] (by decide +kernel) (by decide +kernel)
set_option maxRecDepth 20000 in
theorem gX1_follow_J7_fill_53178 : GoodIn wsX1_follow (va_wsS RX1 18 yJ7_fill_53178 wsJ7_fill_53178) := goodIn_app (goodIn_of _ (by decide +kernel)) ggX1_follow_J7_fill_53178
set_option maxRecDepth 20000 in
theorem ggX1_follow_X1_spread : GoodIn wsX1_follow wsX1_spread := goodIn_r _ [10, 11, 12, 13, 9, 14, 15, 16, 17, 18, 19, 20, 21, 22, 23, 24, 25, 26, 27, 28, 29, 30, 31, 32, 33, 34, 35, 36, 37, 38, 39, 40, 41, 42, 43, 46, 47, 48, 49, 50, 51, 52, 53, 54, 55, 56, 57, 58, 59] (by decide +kernel) (by decide +kernel)
set_option maxRecDepth 20000 in
theorem gX1_follow_X1_spread : GoodIn wsX1_follow (va_wsS RX1 24 yX1_spread wsX1_spread) := goodIn_app (goodIn_of _ (by decide +kernel)) ggX1_follow_X1_spread
theorem dX1_follow_0 : decode cX1_follow 0 = .ok (.aload_n 0, 1) := by decide +kernel
theorem dX1_follow_1 : decode cX1_follow 1 = .ok (.getfield 9, 3) := by decide +kernel
theorem dX1_follow_4 : decode cX1_follow 4 = .ok (.bipush (-3), 2) := by decide +kernel
theorem dX1_follow_6 : decode cX1_follow 6 = .ok (.invokestatic 18, 3) := by decide +kernel
theorem dX1_follow_9 : decode cX1_follow 9 = .ok (.aload_n 0, 1) := by decide +kernel
theorem dX1_follow_10 : decode cX1_follow 10 = .ok (.getfield 9, 3) := by decide +kernel
theorem dX1_follow_13 : decode cX1_follow 13 = .ok (.iload_n 2, 1) := by decide +kernel
theorem dX1_follow_14 : decode cX1_follow 14 = .ok (.iconst 0, 1) := by decide +kernel
theorem dX1_follow_15 : decode cX1_follow 15 = .ok (.iastore, 1) := by decide +kernel
theorem dX1_follow_16 : decode cX1_follow 16 = .ok (.iconst 1, 1) := by decide +kernel
theorem dX1_follow_17 : decode cX1_follow 17 = .ok (.iload_n 2, 1) := by decide +kernel
theorem dX1_follow_18 : decode cX1_follow 18 = .ok (.ishl, 1) := by decide +kernel
theorem dX1_follow_19 : decode cX1_follow 19 = .ok (.istore_n 3, 1) := by decide +kernel
theorem dX1_follow_20 : decode cX1_follow 20 = .ok (.iconst 0, 1) := by decide +kernel
theorem dX1_follow_21 : decode cX1_follow 21 = .ok (.istore 4, 2) := by decide +kernel
theorem dX1_follow_23 : decode cX1_follow 23 = .ok (.iload 4, 2) := by decide +kernel
theorem dX1_follow_25 : decode cX1_follow 25 = .ok (.bipush 100, 2) := by decide +kernel
theorem dX1_follow_27 : decode cX1_follow 27 = .ok (.if_icmp .ge 74, 3) := by decide +kernel
theorem dX1_follow_30 : decode cX1_follow 30 = .ok (.aload_n 1, 1) := by decide +kernel
theorem dX1_follow_31 : decode cX1_follow 31 = .ok (.iload_n 3, 1) := by decide +kernel
theorem dX1_follow_32 : decode cX1_follow 32 = .ok (.iload 4, 2) := by decide +kernel
theorem dX1_follow_34 : decode cX1_follow 34 = .ok (.invokestatic 24, 3) := by decide +kernel
theorem dX1_follow_37 : decode cX1_follow 37 = .ok (.iload_n 3, 1) := by decide +kernel
theorem dX1_follow_38 : decode cX1_follow 38 = .ok (.iconst (-1), 1) := by decide +kernel
theorem dX1_follow_39 : decode cX1_follow 39 = .ok (.ixor, 1) := by decide +kernel
theorem dX1_follow_40 : decode cX1_follow 40 = .ok (.iand, 1) := by decide +kernel
theorem dX1_follow_41 : decode cX1_follow 41 = .ok (.istore 5, 2) := by decide +kernel
theorem dX1_follow_43 : decode cX1_follow 43 = .ok (.iload 5, 2) := by decide +kernel
theorem dX1_follow_45 : decode cX1_follow 45 = .ok (.ifCond .ne 6, 3) := by decide +kernel
theorem dX1_follow_48 : decode cX1_follow 48 = .ok (.goto 53, 3) := by decide +kernel
theorem dX1_follow_51 : decode cX1_follow 51 = .ok (.iconst 0, 1) := by decide +kernel
theorem dX1_follow_52 : decode cX1_follow 52 = .ok (.istore 6, 2) := by decide +kernel
theorem dX1_follow_54 : decode cX1_follow 54 = .ok (.iload 6, 2) := by decide +kernel
theorem dX1_follow_56 : decode cX1_follow 56 = .ok (.aload_n 1, 1) := by decide +kernel
theorem dX1_follow_57 : decode cX1_follow 57 = .ok (.getfield 28, 3) := by decide +kernel
theorem dX1_follow_60 : decode cX1_follow 60 = .ok (.if_icmp .ge 30, 3) := by decide +kernel
theorem dX1_follow_63 : decode cX1_follow 63 = .ok (.iload 5, 2) := by decide +kernel
theorem dX1_follow_65 : decode cX1_follow 65 = .ok (.iload 6, 2) := by decide +kernel
theorem dX1_follow_67 : decode cX1_follow 67 = .ok (.ishr, 1) := by decide +kernel
theorem dX1_follow_68 : decode cX1_follow 68 = .ok (.iconst 1, 1) := by decide +kernel
theorem dX1_follow_69 : decode cX1_follow 69 = .ok (.iand, 1) := by decide +kernel
theorem dX1_follow_70 : decode cX1_follow 70 = .ok (.ifCond .eq 14, 3) := by decide +kernel
theorem dX1_follow_73 : decode cX1_follow 73 = .ok (.aload_n 0, 1) := by decide +kernel
theorem dX1_follow_74 : decode cX1_follow 74 = .ok (.getfield 9, 3) := by decide +kernel
theorem dX1_follow_77 : decode cX1_follow 77 = .ok (.iload 6, 2) := by decide +kernel
theorem dX1_follow_79 : decode cX1_follow 79 = .ok (.iload 4, 2) := by decide +kernel
theorem dX1_follow_81 : decode cX1_follow 81 = .ok (.iconst 1, 1) := by decide +kernel
theorem dX1_follow_82 : decode cX1_follow 82 = .ok (.iadd, 1) := by decide +kernel
theorem dX1_follow_83 : decode cX1_follow 83 = .ok (.iastore, 1) := by decide +kernel
theorem dX1_follow_84 : decode cX1_follow 84 = .ok (.iinc 6 1, 3) := by decide +kernel
theorem dX1_follow_87 : decode cX1_follow 87 = .ok (.goto (-33), 3) := by decide +kernel
theorem dX1_follow_90 : decode cX1_follow 90 = .ok (.iload_n 3, 1) := by decide +kernel
theorem dX1_follow_91 : decode cX1_follow 91 = .ok (.iload 5, 2) := by decide +kernel
theorem dX1_follow_93 : decode cX1_follow 93 = .ok (.ior, 1) := by decide +kernel
theorem dX1_follow_94 : decode cX1_follow 94 = .ok (.istore_n 3, 1) := by decide +kernel
theorem dX1_follow_95 : decode cX1_follow 95 = .ok (.iinc 4 1, 3) := by decide +kernel
theorem dX1_follow_98 : decode cX1_follow 98 = .ok (.goto (-75), 3) := by decide +kernel
theorem dX1_follow_101 : decode cX1_follow 101 = .ok (.return_, 1) := by decide +kernel
set_option maxRecDepth 20000 in
theorem ggX1_isAtEdge_X8_bothOf : GoodIn wsX1_isAtEdge wsX8_bothOf := goodIn_r _ [5, 6, 7, 15, 16, 17, 18, 19, 20, 21, 22, 23, 24, 25, 26, 27, 28] (by decide +kernel) (by decide +kernel)
set_option maxRecDepth 20000 in
theorem gX1_isAtEdge_X8_bothOf : GoodIn wsX1_isAtEdge (wsV RX1 34 RX8 yX8_bothOf wsX8_bothOf) := goodIn_app (goodIn_of _ (by decide +kernel)) ggX1_isAtEdge_X8_bothOf
set_option maxRecDepth 20000 in
theorem ggX1_isAtEdge_J6_bitCount_0f7a4 : GoodIn wsX1_isAtEdge wsJ6_bitCount_0f7a4 := goodIn_r _ [11, 12, 13, 14] (by decide +kernel) (by decide +kernel)
set_option maxRecDepth 20000 in
theorem gX1_isAtEdge_J6_bitCount_0f7a4 : GoodIn wsX1_isAtEdge (va_wsS RX1 38 yJ6_bitCount_0f7a4 wsJ6_bitCount_0f7a4) := goodIn_app (goodIn_of _ (by decide +kernel)) ggX1_isAtEdge_J6_bitCount_0f7a4
theorem dX1_isAtEdge_0 : decode cX1_isAtEdge 0 = .ok (.aload_n 0, 1) := by decide +kernel
theorem dX1_isAtEdge_1 : decode cX1_isAtEdge 1 = .ok (.iload_n 1, 1) := by decide +kernel
theorem dX1_isAtEdge_2 : decode cX1_isAtEdge 2 = .ok (.invokevirtual 34, 3) := by decide +kernel
theorem dX1_isAtEdge_5 : decode cX1_isAtEdge 5 = .ok (.iload_n 2, 1) := by decide +kernel
theorem dX1_isAtEdge_6 : decode cX1_isAtEdge 6 = .ok (.iand, 1) := by decide +kernel
theorem dX1_isAtEdge_7 : decode cX1_isAtEdge 7 = .ok (.invokestatic 38, 3) := by decide +kernel
theorem dX1_isAtEdge_10 : decode cX1_isAtEdge 10 = .ok (.iconst 1, 1) := by decide +kernel
theorem dX1_isAtEdge_11 : decode cX1_isAtEdge 11 = .ok (.if_icmp .ne 7, 3) := by decide +kernel
theorem dX1_isAtEdge_14 : decode cX1_isAtEdge 14 = .ok (.iconst 1, 1) := by decide +kernel
theorem dX1_isAtEdge_15 : decode cX1_isAtEdge 15 = .ok (.goto 4, 3) := by decide +kernel
theorem dX1_isAtEdge_18 : decode cX1_isAtEdge 18 = .ok (.iconst 0, 1) := by decide +kernel
theorem dX1_isAtEdge_19 : decode cX1_isAtEdge 19 = .ok (.ireturn, 1) := by decide +kernel
set_option maxRecDepth 20000 in
theorem ggX1_spread_X1_isAtEdge : GoodIn wsX1_spread wsX1_isAtEdge := goodIn_r _ [5, 6, 7, 8, 9, 10, 11, 12, 13, 14, 15, 16, 17, 18, 19, 35, 36, 37, 38, 39, 40, 41, 42, 43, 44, 45, 46, 47, 48] (by decide +kernel) (by decide +kernel)
set_option maxRecDepth 20000 in
theorem gX1_spread_X1_isAtEdge : GoodIn wsX1_spread (va_wsS RX1 46 yX1_isAtEdge wsX1_isAtEdge) := goodIn_app (goodIn_of _ (by decide +kernel)) ggX1_spread_X1_isAtEdge
set_option maxRecDepth 20000 in
theorem ggX1_spread_X8_isOpen : GoodIn wsX1_spread wsX8_isOpen := goodIn_r _ [23, 24, 25, 26, 27, 9, 28, 29, 30, 31, 32, 33, 7, 8, 10, 11, 12, 34, 14, 15, 16, 17, 18, 19, 35, 36, 37, 38, 39, 40, 41, 42, 43, 44, 45, 46, 47, 48] (by decide +kernel) (by decide +kernel)
set_option maxRecDepth 20000 in
theorem gX1_spread_X8_isOpen : GoodIn wsX1_spread (wsV RX1 50 RX8 yX8_isOpen wsX8_isOpen) := goodIn_app (goodIn_of _ (by decide +kernel)) ggX1_spread_X8_isOpen
set_option maxRecDepth 20000 in
theorem ggX1_spread_X8_bothOf : GoodIn wsX1_spread wsX8_bothOf := goodIn_r _ [10, 11, 12, 35, 36, 37, 38, 39, 40, 41, 42, 43, 44, 45, 46, 47, 48] (by decide +kernel) (by decide +kernel)
set_option maxRecDepth 20000 in
theorem gX1_spread_X8_bothOf : GoodIn wsX1_spread (wsV RX1 34 RX8 yX8_bothOf wsX8_bothOf) := goodIn_app (goodIn_of _ (by decide +kernel)) ggX1_spread_X8_bothOf
theorem dX1_spread_0 : decode cX1_spread 0 = .ok (.iload_n 1, 1) := by decide +kernel
theorem dX1_spread_1 : decode cX1_spread 1 = .ok (.istore_n 3, 1) := by decide +kernel
theorem dX1_spread_2 : decode cX1_spread 2 = .ok (.iconst 0, 1) := by decide +kernel
theorem dX1_spread_3 : decode cX1_spread 3 = .ok (.istore 4, 2) := by decide +kernel
theorem dX1_spread_5 : decode cX1_spread 5 = .ok (.iload 4, 2) := by decide +kernel
theorem dX1_spread_7 : decode cX1_spread 7 = .ok (.aload_n 0, 1) := by decide +kernel
theorem dX1_spread_8 : decode cX1_spread 8 = .ok (.getfield 43, 3) := by decide +kernel
theorem dX1_spread_11 : decode cX1_spread 11 = .ok (.if_icmp .ge 38, 3) := by decide +kernel
theorem dX1_spread_14 : decode cX1_spread 14 = .ok (.aload_n 0, 1) := by decide +kernel
theorem dX1_spread_15 : decode cX1_spread 15 = .ok (.iload 4, 2) := by decide +kernel
theorem dX1_spread_17 : decode cX1_spread 17 = .ok (.iload_n 1, 1) := by decide +kernel
theorem dX1_spread_18 : decode cX1_spread 18 = .ok (.invokestatic 46, 3) := by decide +kernel
theorem dX1_spread_21 : decode cX1_spread 21 = .ok (.ifCond .eq 22, 3) := by decide +kernel
theorem dX1_spread_24 : decode cX1_spread 24 = .ok (.aload_n 0, 1) := by decide +kernel
theorem dX1_spread_25 : decode cX1_spread 25 = .ok (.iload 4, 2) := by decide +kernel
theorem dX1_spread_27 : decode cX1_spread 27 = .ok (.iload_n 2, 1) := by decide +kernel
theorem dX1_spread_28 : decode cX1_spread 28 = .ok (.invokevirtual 50, 3) := by decide +kernel
theorem dX1_spread_31 : decode cX1_spread 31 = .ok (.ifCond .eq 12, 3) := by decide +kernel
theorem dX1_spread_34 : decode cX1_spread 34 = .ok (.iload_n 3, 1) := by decide +kernel
theorem dX1_spread_35 : decode cX1_spread 35 = .ok (.aload_n 0, 1) := by decide +kernel
theorem dX1_spread_36 : decode cX1_spread 36 = .ok (.iload 4, 2) := by decide +kernel
theorem dX1_spread_38 : decode cX1_spread 38 = .ok (.invokevirtual 34, 3) := by decide +kernel
theorem dX1_spread_41 : decode cX1_spread 41 = .ok (.ior, 1) := by decide +kernel
theorem dX1_spread_42 : decode cX1_spread 42 = .ok (.istore_n 3, 1) := by decide +kernel
theorem dX1_spread_43 : decode cX1_spread 43 = .ok (.iinc 4 1, 3) := by decide +kernel
theorem dX1_spread_46 : decode cX1_spread 46 = .ok (.goto (-41), 3) := by decide +kernel
theorem dX1_spread_49 : decode cX1_spread 49 = .ok (.iload_n 3, 1) := by decide +kernel
theorem dX1_spread_50 : decode cX1_spread 50 = .ok (.ireturn, 1) := by decide +kernel
theorem dX1_knowingBehind_0 : decode cX1_knowingBehind 0 = .ok (.iconst 0, 1) := by decide +kernel
theorem dX1_knowingBehind_1 : decode cX1_knowingBehind 1 = .ok (.istore_n 2, 1) := by decide +kernel
theorem dX1_knowingBehind_2 : decode cX1_knowingBehind 2 = .ok (.iconst 0, 1) := by decide +kernel
theorem dX1_knowingBehind_3 : decode cX1_knowingBehind 3 = .ok (.istore_n 3, 1) := by decide +kernel
theorem dX1_knowingBehind_4 : decode cX1_knowingBehind 4 = .ok (.iload_n 3, 1) := by decide +kernel
theorem dX1_knowingBehind_5 : decode cX1_knowingBehind 5 = .ok (.bipush 10, 2) := by decide +kernel
theorem dX1_knowingBehind_7 : decode cX1_knowingBehind 7 = .ok (.if_icmp .ge 34, 3) := by decide +kernel
theorem dX1_knowingBehind_10 : decode cX1_knowingBehind 10 = .ok (.aload_n 0, 1) := by decide +kernel
theorem dX1_knowingBehind_11 : decode cX1_knowingBehind 11 = .ok (.getfield 9, 3) := by decide +kernel
theorem dX1_knowingBehind_14 : decode cX1_knowingBehind 14 = .ok (.iload_n 3, 1) := by decide +kernel
theorem dX1_knowingBehind_15 : decode cX1_knowingBehind 15 = .ok (.iaload, 1) := by decide +kernel
theorem dX1_knowingBehind_16 : decode cX1_knowingBehind 16 = .ok (.ifCond .lt 19, 3) := by decide +kernel
theorem dX1_knowingBehind_19 : decode cX1_knowingBehind 19 = .ok (.aload_n 0, 1) := by decide +kernel
theorem dX1_knowingBehind_20 : decode cX1_knowingBehind 20 = .ok (.getfield 9, 3) := by decide +kernel
theorem dX1_knowingBehind_23 : decode cX1_knowingBehind 23 = .ok (.iload_n 3, 1) := by decide +kernel
theorem dX1_knowingBehind_24 : decode cX1_knowingBehind 24 = .ok (.iaload, 1) := by decide +kernel
theorem dX1_knowingBehind_25 : decode cX1_knowingBehind 25 = .ok (.iload_n 1, 1) := by decide +kernel
theorem dX1_knowingBehind_26 : decode cX1_knowingBehind 26 = .ok (.if_icmp .gt 9, 3) := by decide +kernel
theorem dX1_knowingBehind_29 : decode cX1_knowingBehind 29 = .ok (.iload_n 2, 1) := by decide +kernel
theorem dX1_knowingBehind_30 : decode cX1_knowingBehind 30 = .ok (.iconst 1, 1) := by decide +kernel
theorem dX1_knowingBehind_31 : decode cX1_knowingBehind 31 = .ok (.iload_n 3, 1) := by decide +kernel
theorem dX1_knowingBehind_32 : decode cX1_knowingBehind 32 = .ok (.ishl, 1) := by decide +kernel
theorem dX1_knowingBehind_33 : decode cX1_knowingBehind 33 = .ok (.ior, 1) := by decide +kernel
theorem dX1_knowingBehind_34 : decode cX1_knowingBehind 34 = .ok (.istore_n 2, 1) := by decide +kernel
theorem dX1_knowingBehind_35 : decode cX1_knowingBehind 35 = .ok (.iinc 3 1, 3) := by decide +kernel
theorem dX1_knowingBehind_38 : decode cX1_knowingBehind 38 = .ok (.goto (-34), 3) := by decide +kernel
theorem dX1_knowingBehind_41 : decode cX1_knowingBehind 41 = .ok (.iload_n 2, 1) := by decide +kernel
theorem dX1_knowingBehind_42 : decode cX1_knowingBehind 42 = .ok (.ireturn, 1) := by decide +kernel
set_option maxRecDepth 20000 in
theorem ggX1_fillReached_X1_follow : GoodIn wsX1_fillReached wsX1_follow := goodIn_r _ [7, 8, 1, 9, 10, 11, 12, 13, 14, 6, 15, 16, 17, 18, 19, 20, 21, 22, 23, 24, 25, 26, 27, 28, 29, 30, 31, 32, 33, 34, 35, 36, 37, 38, 39, 40, 41, 42, 43, 44, 45, 46, 47, 48, 67, 68, 53, 54, 55, 56, 57, 58, 59, 60, 61, 62, 63, 64, 65, 66] (by decide +kernel) (by decide +kernel)
set_option maxRecDepth 20000 in
theorem gX1_fillReached_X1_follow : GoodIn wsX1_fillReached (wsV RX1 54 RX1 yX1_follow wsX1_follow) := goodIn_app (goodIn_of _ (by decide +kernel)) ggX1_fillReached_X1_follow
set_option maxRecDepth 20000 in
theorem ggX1_fillReached_X1_knowingBehind : GoodIn wsX1_fillReached wsX1_knowingBehind := goodIn_r _ [52, 8, 67, 68] (by decide +kernel) (by decide +kernel)
set_option maxRecDepth 20000 in
theorem gX1_fillReached_X1_knowingBehind : GoodIn wsX1_fillReached (wsV RX1 58 RX1 yX1_knowingBehind wsX1_knowingBehind) := goodIn_app (goodIn_of _ (by decide +kernel)) ggX1_fillReached_X1_knowingBehind
theorem dX1_fillReached_0 : decode cX1_fillReached 0 = .ok (.iconst 0, 1) := by decide +kernel
theorem dX1_fillReached_1 : decode cX1_fillReached 1 = .ok (.istore_n 3, 1) := by decide +kernel
theorem dX1_fillReached_2 : decode cX1_fillReached 2 = .ok (.iload_n 3, 1) := by decide +kernel
theorem dX1_fillReached_3 : decode cX1_fillReached 3 = .ok (.aload_n 1, 1) := by decide +kernel
theorem dX1_fillReached_4 : decode cX1_fillReached 4 = .ok (.getfield 28, 3) := by decide +kernel
theorem dX1_fillReached_7 : decode cX1_fillReached 7 = .ok (.if_icmp .ge 26, 3) := by decide +kernel
theorem dX1_fillReached_10 : decode cX1_fillReached 10 = .ok (.aload_n 0, 1) := by decide +kernel
theorem dX1_fillReached_11 : decode cX1_fillReached 11 = .ok (.aload_n 1, 1) := by decide +kernel
theorem dX1_fillReached_12 : decode cX1_fillReached 12 = .ok (.iload_n 3, 1) := by decide +kernel
theorem dX1_fillReached_13 : decode cX1_fillReached 13 = .ok (.invokevirtual 54, 3) := by decide +kernel
theorem dX1_fillReached_16 : decode cX1_fillReached 16 = .ok (.aload_n 0, 1) := by decide +kernel
theorem dX1_fillReached_17 : decode cX1_fillReached 17 = .ok (.getfield 15, 3) := by decide +kernel
theorem dX1_fillReached_20 : decode cX1_fillReached 20 = .ok (.iload_n 3, 1) := by decide +kernel
theorem dX1_fillReached_21 : decode cX1_fillReached 21 = .ok (.aload_n 0, 1) := by decide +kernel
theorem dX1_fillReached_22 : decode cX1_fillReached 22 = .ok (.iload_n 2, 1) := by decide +kernel
theorem dX1_fillReached_23 : decode cX1_fillReached 23 = .ok (.invokevirtual 58, 3) := by decide +kernel
theorem dX1_fillReached_26 : decode cX1_fillReached 26 = .ok (.iastore, 1) := by decide +kernel
theorem dX1_fillReached_27 : decode cX1_fillReached 27 = .ok (.iinc 3 1, 3) := by decide +kernel
theorem dX1_fillReached_30 : decode cX1_fillReached 30 = .ok (.goto (-28), 3) := by decide +kernel
theorem dX1_fillReached_33 : decode cX1_fillReached 33 = .ok (.return_, 1) := by decide +kernel
theorem dX1_reachedBy_0 : decode cX1_reachedBy 0 = .ok (.iconst 0, 1) := by decide +kernel
theorem dX1_reachedBy_1 : decode cX1_reachedBy 1 = .ok (.istore_n 2, 1) := by decide +kernel
theorem dX1_reachedBy_2 : decode cX1_reachedBy 2 = .ok (.iconst 0, 1) := by decide +kernel
theorem dX1_reachedBy_3 : decode cX1_reachedBy 3 = .ok (.istore_n 3, 1) := by decide +kernel
theorem dX1_reachedBy_4 : decode cX1_reachedBy 4 = .ok (.iload_n 3, 1) := by decide +kernel
theorem dX1_reachedBy_5 : decode cX1_reachedBy 5 = .ok (.bipush 10, 2) := by decide +kernel
theorem dX1_reachedBy_7 : decode cX1_reachedBy 7 = .ok (.if_icmp .ge 26, 3) := by decide +kernel
theorem dX1_reachedBy_10 : decode cX1_reachedBy 10 = .ok (.iload_n 1, 1) := by decide +kernel
theorem dX1_reachedBy_11 : decode cX1_reachedBy 11 = .ok (.iload_n 3, 1) := by decide +kernel
theorem dX1_reachedBy_12 : decode cX1_reachedBy 12 = .ok (.ishr, 1) := by decide +kernel
theorem dX1_reachedBy_13 : decode cX1_reachedBy 13 = .ok (.iconst 1, 1) := by decide +kernel
theorem dX1_reachedBy_14 : decode cX1_reachedBy 14 = .ok (.iand, 1) := by decide +kernel
theorem dX1_reachedBy_15 : decode cX1_reachedBy 15 = .ok (.ifCond .eq 12, 3) := by decide +kernel
theorem dX1_reachedBy_18 : decode cX1_reachedBy 18 = .ok (.iload_n 2, 1) := by decide +kernel
theorem dX1_reachedBy_19 : decode cX1_reachedBy 19 = .ok (.aload_n 0, 1) := by decide +kernel
theorem dX1_reachedBy_20 : decode cX1_reachedBy 20 = .ok (.getfield 15, 3) := by decide +kernel
theorem dX1_reachedBy_23 : decode cX1_reachedBy 23 = .ok (.iload_n 3, 1) := by decide +kernel
theorem dX1_reachedBy_24 : decode cX1_reachedBy 24 = .ok (.iaload, 1) := by decide +kernel
theorem dX1_reachedBy_25 : decode cX1_reachedBy 25 = .ok (.ior, 1) := by decide +kernel
theorem dX1_reachedBy_26 : decode cX1_reachedBy 26 = .ok (.istore_n 2, 1) := by decide +kernel
theorem dX1_reachedBy_27 : decode cX1_reachedBy 27 = .ok (.iinc 3 1, 3) := by decide +kernel
theorem dX1_reachedBy_30 : decode cX1_reachedBy 30 = .ok (.goto (-26), 3) := by decide +kernel
theorem dX1_reachedBy_33 : decode cX1_reachedBy 33 = .ok (.iload_n 2, 1) := by decide +kernel
theorem dX1_reachedBy_34 : decode cX1_reachedBy 34 = .ok (.ireturn, 1) := by decide +kernel
set_option maxRecDepth 20000 in
theorem ggX1_chanceDay_X1_isAtEdge : GoodIn wsX1_chanceDay wsX1_isAtEdge := goodIn_r _ [8, 9, 10, 11, 12, 13, 14, 15, 16, 17, 18, 19, 20, 21, 22, 38, 39, 40, 41, 42, 43, 44, 45, 46, 47, 48, 49, 50, 51] (by decide +kernel) (by decide +kernel)
set_option maxRecDepth 20000 in
theorem gX1_chanceDay_X1_isAtEdge : GoodIn wsX1_chanceDay (va_wsS RX1 46 yX1_isAtEdge wsX1_isAtEdge) := goodIn_app (goodIn_of _ (by decide +kernel)) ggX1_chanceDay_X1_isAtEdge
set_option maxRecDepth 20000 in
theorem ggX1_chanceDay_X8_isOpen : GoodIn wsX1_chanceDay wsX8_isOpen := goodIn_r _ [26, 27, 28, 29, 30, 12, 31, 32, 33, 34, 35, 36, 10, 11, 13, 14, 15, 37, 17, 18, 19, 20, 21, 22, 38, 39, 40, 41, 42, 43, 44, 45, 46, 47, 48, 49, 50, 51] (by decide +kernel) (by decide +kernel)
set_option maxRecDepth 20000 in
theorem gX1_chanceDay_X8_isOpen : GoodIn wsX1_chanceDay (wsV RX1 50 RX8 yX8_isOpen wsX8_isOpen) := goodIn_app (goodIn_of _ (by decide +kernel)) ggX1_chanceDay_X8_isOpen
set_option maxRecDepth 20000 in
theorem ggX1_chanceDay_X8_bothOf : GoodIn wsX1_chanceDay wsX8_bothOf := goodIn_r _ [13, 14, 15, 38, 39, 40, 41, 42, 43, 44, 45, 46, 47, 48, 49, 50, 51] (by decide +kernel) (by decide +kernel)
set_option maxRecDepth 20000 in
theorem gX1_chanceDay_X8_bothOf : GoodIn wsX1_chanceDay (wsV RX1 34 RX8 yX8_bothOf wsX8_bothOf) := goodIn_app (goodIn_of _ (by decide +kernel)) ggX1_chanceDay_X8_bothOf
theorem dX1_chanceDay_0 : decode cX1_chanceDay 0 = .ok (.iload_n 2, 1) := by decide +kernel
theorem dX1_chanceDay_1 : decode cX1_chanceDay 1 = .ok (.istore 4, 2) := by decide +kernel
theorem dX1_chanceDay_3 : decode cX1_chanceDay 3 = .ok (.iconst 0, 1) := by decide +kernel
theorem dX1_chanceDay_4 : decode cX1_chanceDay 4 = .ok (.istore 5, 2) := by decide +kernel
theorem dX1_chanceDay_6 : decode cX1_chanceDay 6 = .ok (.iload 5, 2) := by decide +kernel
theorem dX1_chanceDay_8 : decode cX1_chanceDay 8 = .ok (.aload_n 1, 1) := by decide +kernel
theorem dX1_chanceDay_9 : decode cX1_chanceDay 9 = .ok (.getfield 43, 3) := by decide +kernel
theorem dX1_chanceDay_12 : decode cX1_chanceDay 12 = .ok (.if_icmp .ge 74, 3) := by decide +kernel
theorem dX1_chanceDay_15 : decode cX1_chanceDay 15 = .ok (.aload_n 1, 1) := by decide +kernel
theorem dX1_chanceDay_16 : decode cX1_chanceDay 16 = .ok (.iload 5, 2) := by decide +kernel
theorem dX1_chanceDay_18 : decode cX1_chanceDay 18 = .ok (.iload_n 2, 1) := by decide +kernel
theorem dX1_chanceDay_19 : decode cX1_chanceDay 19 = .ok (.invokestatic 46, 3) := by decide +kernel
theorem dX1_chanceDay_22 : decode cX1_chanceDay 22 = .ok (.ifCond .eq 58, 3) := by decide +kernel
theorem dX1_chanceDay_25 : decode cX1_chanceDay 25 = .ok (.aload_n 1, 1) := by decide +kernel
theorem dX1_chanceDay_26 : decode cX1_chanceDay 26 = .ok (.iload 5, 2) := by decide +kernel
theorem dX1_chanceDay_28 : decode cX1_chanceDay 28 = .ok (.iload_n 3, 1) := by decide +kernel
theorem dX1_chanceDay_29 : decode cX1_chanceDay 29 = .ok (.invokevirtual 50, 3) := by decide +kernel
theorem dX1_chanceDay_32 : decode cX1_chanceDay 32 = .ok (.ifCond .eq 48, 3) := by decide +kernel
theorem dX1_chanceDay_35 : decode cX1_chanceDay 35 = .ok (.aload_n 1, 1) := by decide +kernel
theorem dX1_chanceDay_36 : decode cX1_chanceDay 36 = .ok (.aload_n 1, 1) := by decide +kernel
theorem dX1_chanceDay_37 : decode cX1_chanceDay 37 = .ok (.getfield 61, 3) := by decide +kernel
theorem dX1_chanceDay_40 : decode cX1_chanceDay 40 = .ok (.ldc 64, 2) := by decide +kernel
theorem dX1_chanceDay_42 : decode cX1_chanceDay 42 = .ok (.imul, 1) := by decide +kernel
theorem dX1_chanceDay_43 : decode cX1_chanceDay 43 = .ok (.sipush 12345, 3) := by decide +kernel
theorem dX1_chanceDay_46 : decode cX1_chanceDay 46 = .ok (.iadd, 1) := by decide +kernel
theorem dX1_chanceDay_47 : decode cX1_chanceDay 47 = .ok (.putfield 61, 3) := by decide +kernel
theorem dX1_chanceDay_50 : decode cX1_chanceDay 50 = .ok (.aload_n 1, 1) := by decide +kernel
theorem dX1_chanceDay_51 : decode cX1_chanceDay 51 = .ok (.getfield 61, 3) := by decide +kernel
theorem dX1_chanceDay_54 : decode cX1_chanceDay 54 = .ok (.bipush 16, 2) := by decide +kernel
theorem dX1_chanceDay_56 : decode cX1_chanceDay 56 = .ok (.iushr, 1) := by decide +kernel
theorem dX1_chanceDay_57 : decode cX1_chanceDay 57 = .ok (.iconst 4, 1) := by decide +kernel
theorem dX1_chanceDay_58 : decode cX1_chanceDay 58 = .ok (.irem, 1) := by decide +kernel
theorem dX1_chanceDay_59 : decode cX1_chanceDay 59 = .ok (.aload_n 1, 1) := by decide +kernel
theorem dX1_chanceDay_60 : decode cX1_chanceDay 60 = .ok (.getfield 65, 3) := by decide +kernel
theorem dX1_chanceDay_63 : decode cX1_chanceDay 63 = .ok (.iload 5, 2) := by decide +kernel
theorem dX1_chanceDay_65 : decode cX1_chanceDay 65 = .ok (.iaload, 1) := by decide +kernel
theorem dX1_chanceDay_66 : decode cX1_chanceDay 66 = .ok (.if_icmp .ge 14, 3) := by decide +kernel
theorem dX1_chanceDay_69 : decode cX1_chanceDay 69 = .ok (.iload 4, 2) := by decide +kernel
theorem dX1_chanceDay_71 : decode cX1_chanceDay 71 = .ok (.aload_n 1, 1) := by decide +kernel
theorem dX1_chanceDay_72 : decode cX1_chanceDay 72 = .ok (.iload 5, 2) := by decide +kernel
theorem dX1_chanceDay_74 : decode cX1_chanceDay 74 = .ok (.invokevirtual 34, 3) := by decide +kernel
theorem dX1_chanceDay_77 : decode cX1_chanceDay 77 = .ok (.ior, 1) := by decide +kernel
theorem dX1_chanceDay_78 : decode cX1_chanceDay 78 = .ok (.istore 4, 2) := by decide +kernel
theorem dX1_chanceDay_80 : decode cX1_chanceDay 80 = .ok (.iinc 5 1, 3) := by decide +kernel
theorem dX1_chanceDay_83 : decode cX1_chanceDay 83 = .ok (.goto (-77), 3) := by decide +kernel
theorem dX1_chanceDay_86 : decode cX1_chanceDay 86 = .ok (.iload 4, 2) := by decide +kernel
theorem dX1_chanceDay_88 : decode cX1_chanceDay 88 = .ok (.ireturn, 1) := by decide +kernel
theorem dX2_init_0 : decode cX2_init 0 = .ok (.aload_n 0, 1) := by decide +kernel
theorem dX2_init_1 : decode cX2_init 1 = .ok (.invokespecial 3, 3) := by decide +kernel
theorem dX2_init_4 : decode cX2_init 4 = .ok (.aload_n 0, 1) := by decide +kernel
theorem dX2_init_5 : decode cX2_init 5 = .ok (.iconst 4, 1) := by decide +kernel
theorem dX2_init_6 : decode cX2_init 6 = .ok (.newarray .int, 2) := by decide +kernel
theorem dX2_init_8 : decode cX2_init 8 = .ok (.dup, 1) := by decide +kernel
theorem dX2_init_9 : decode cX2_init 9 = .ok (.iconst 0, 1) := by decide +kernel
theorem dX2_init_10 : decode cX2_init 10 = .ok (.iconst (-1), 1) := by decide +kernel
theorem dX2_init_11 : decode cX2_init 11 = .ok (.iastore, 1) := by decide +kernel
theorem dX2_init_12 : decode cX2_init 12 = .ok (.dup, 1) := by decide +kernel
theorem dX2_init_13 : decode cX2_init 13 = .ok (.iconst 1, 1) := by decide +kernel
theorem dX2_init_14 : decode cX2_init 14 = .ok (.iconst (-1), 1) := by decide +kernel
theorem dX2_init_15 : decode cX2_init 15 = .ok (.iastore, 1) := by decide +kernel
theorem dX2_init_16 : decode cX2_init 16 = .ok (.dup, 1) := by decide +kernel
theorem dX2_init_17 : decode cX2_init 17 = .ok (.iconst 2, 1) := by decide +kernel
theorem dX2_init_18 : decode cX2_init 18 = .ok (.iconst (-1), 1) := by decide +kernel
theorem dX2_init_19 : decode cX2_init 19 = .ok (.iastore, 1) := by decide +kernel
theorem dX2_init_20 : decode cX2_init 20 = .ok (.dup, 1) := by decide +kernel
theorem dX2_init_21 : decode cX2_init 21 = .ok (.iconst 3, 1) := by decide +kernel
theorem dX2_init_22 : decode cX2_init 22 = .ok (.iconst (-1), 1) := by decide +kernel
theorem dX2_init_23 : decode cX2_init 23 = .ok (.iastore, 1) := by decide +kernel
theorem dX2_init_24 : decode cX2_init 24 = .ok (.putfield 11, 3) := by decide +kernel
theorem dX2_init_27 : decode cX2_init 27 = .ok (.aload_n 0, 1) := by decide +kernel
theorem dX2_init_28 : decode cX2_init 28 = .ok (.iconst 4, 1) := by decide +kernel
theorem dX2_init_29 : decode cX2_init 29 = .ok (.newarray .int, 2) := by decide +kernel
theorem dX2_init_31 : decode cX2_init 31 = .ok (.putfield 15, 3) := by decide +kernel
theorem dX2_init_34 : decode cX2_init 34 = .ok (.aload_n 0, 1) := by decide +kernel
theorem dX2_init_35 : decode cX2_init 35 = .ok (.iconst 4, 1) := by decide +kernel
theorem dX2_init_36 : decode cX2_init 36 = .ok (.bipush 40, 2) := by decide +kernel
theorem dX2_init_38 : decode cX2_init 38 = .ok (.multianewarray 18 2, 4) := by decide +kernel
theorem dX2_init_42 : decode cX2_init 42 = .ok (.putfield 20, 3) := by decide +kernel
theorem dX2_init_45 : decode cX2_init 45 = .ok (.aload_n 0, 1) := by decide +kernel
theorem dX2_init_46 : decode cX2_init 46 = .ok (.iconst 4, 1) := by decide +kernel
theorem dX2_init_47 : decode cX2_init 47 = .ok (.newarray .int, 2) := by decide +kernel
theorem dX2_init_49 : decode cX2_init 49 = .ok (.putfield 23, 3) := by decide +kernel
theorem dX2_init_52 : decode cX2_init 52 = .ok (.aload_n 0, 1) := by decide +kernel
theorem dX2_init_53 : decode cX2_init 53 = .ok (.iconst 4, 1) := by decide +kernel
theorem dX2_init_54 : decode cX2_init 54 = .ok (.newarray .int, 2) := by decide +kernel
theorem dX2_init_56 : decode cX2_init 56 = .ok (.putfield 26, 3) := by decide +kernel
theorem dX2_init_59 : decode cX2_init 59 = .ok (.aload_n 0, 1) := by decide +kernel
theorem dX2_init_60 : decode cX2_init 60 = .ok (.iconst 4, 1) := by decide +kernel
theorem dX2_init_61 : decode cX2_init 61 = .ok (.newarray .int, 2) := by decide +kernel
theorem dX2_init_63 : decode cX2_init 63 = .ok (.putfield 29, 3) := by decide +kernel
theorem dX2_init_66 : decode cX2_init 66 = .ok (.return_, 1) := by decide +kernel
theorem dX2_hasPlace_0 : decode cX2_hasPlace 0 = .ok (.iload_n 0, 1) := by decide +kernel
theorem dX2_hasPlace_1 : decode cX2_hasPlace 1 = .ok (.ifCond .lt 12, 3) := by decide +kernel
theorem dX2_hasPlace_4 : decode cX2_hasPlace 4 = .ok (.iload_n 0, 1) := by decide +kernel
theorem dX2_hasPlace_5 : decode cX2_hasPlace 5 = .ok (.iconst 4, 1) := by decide +kernel
theorem dX2_hasPlace_6 : decode cX2_hasPlace 6 = .ok (.if_icmp .ge 7, 3) := by decide +kernel
theorem dX2_hasPlace_9 : decode cX2_hasPlace 9 = .ok (.iconst 1, 1) := by decide +kernel
theorem dX2_hasPlace_10 : decode cX2_hasPlace 10 = .ok (.goto 4, 3) := by decide +kernel
theorem dX2_hasPlace_13 : decode cX2_hasPlace 13 = .ok (.iconst 0, 1) := by decide +kernel
theorem dX2_hasPlace_14 : decode cX2_hasPlace 14 = .ok (.ireturn, 1) := by decide +kernel
set_option maxRecDepth 20000 in
theorem ggX2_renew_J7_fill_53178 : GoodIn wsX2_renew wsJ7_fill_53178 := goodIn_r _ [7] (by decide +kernel) (by decide +kernel)
set_option maxRecDepth 20000 in
theorem gX2_renew_J7_fill_53178 : GoodIn wsX2_renew (va_wsS RX2 32 yJ7_fill_53178 wsJ7_fill_53178) := goodIn_app (goodIn_of _ (by decide +kernel)) ggX2_renew_J7_fill_53178
theorem dX2_renew_0 : decode cX2_renew 0 = .ok (.aload_n 0, 1) := by decide +kernel
theorem dX2_renew_1 : decode cX2_renew 1 = .ok (.getfield 11, 3) := by decide +kernel
theorem dX2_renew_4 : decode cX2_renew 4 = .ok (.iload_n 1, 1) := by decide +kernel
theorem dX2_renew_5 : decode cX2_renew 5 = .ok (.iload_n 2, 1) := by decide +kernel
theorem dX2_renew_6 : decode cX2_renew 6 = .ok (.iastore, 1) := by decide +kernel
theorem dX2_renew_7 : decode cX2_renew 7 = .ok (.aload_n 0, 1) := by decide +kernel
theorem dX2_renew_8 : decode cX2_renew 8 = .ok (.getfield 15, 3) := by decide +kernel
theorem dX2_renew_11 : decode cX2_renew 11 = .ok (.iload_n 1, 1) := by decide +kernel
theorem dX2_renew_12 : decode cX2_renew 12 = .ok (.iload_n 2, 1) := by decide +kernel
theorem dX2_renew_13 : decode cX2_renew 13 = .ok (.iconst (-1), 1) := by decide +kernel
theorem dX2_renew_14 : decode cX2_renew 14 = .ok (.if_icmp .ne 7, 3) := by decide +kernel
theorem dX2_renew_17 : decode cX2_renew 17 = .ok (.iconst 0, 1) := by decide +kernel
theorem dX2_renew_18 : decode cX2_renew 18 = .ok (.goto 4, 3) := by decide +kernel
theorem dX2_renew_21 : decode cX2_renew 21 = .ok (.iload_n 3, 1) := by decide +kernel
theorem dX2_renew_22 : decode cX2_renew 22 = .ok (.iastore, 1) := by decide +kernel
theorem dX2_renew_23 : decode cX2_renew 23 = .ok (.aload_n 0, 1) := by decide +kernel
theorem dX2_renew_24 : decode cX2_renew 24 = .ok (.getfield 20, 3) := by decide +kernel
theorem dX2_renew_27 : decode cX2_renew 27 = .ok (.iload_n 1, 1) := by decide +kernel
theorem dX2_renew_28 : decode cX2_renew 28 = .ok (.aaload, 1) := by decide +kernel
theorem dX2_renew_29 : decode cX2_renew 29 = .ok (.iconst 0, 1) := by decide +kernel
theorem dX2_renew_30 : decode cX2_renew 30 = .ok (.invokestatic 32, 3) := by decide +kernel
theorem dX2_renew_33 : decode cX2_renew 33 = .ok (.return_, 1) := by decide +kernel
theorem dX2_refusalOf_0 : decode cX2_refusalOf 0 = .ok (.aload_n 0, 1) := by decide +kernel
theorem dX2_refusalOf_1 : decode cX2_refusalOf 1 = .ok (.getfield 11, 3) := by decide +kernel
theorem dX2_refusalOf_4 : decode cX2_refusalOf 4 = .ok (.iload_n 1, 1) := by decide +kernel
theorem dX2_refusalOf_5 : decode cX2_refusalOf 5 = .ok (.iaload, 1) := by decide +kernel
theorem dX2_refusalOf_6 : decode cX2_refusalOf 6 = .ok (.iconst (-1), 1) := by decide +kernel
theorem dX2_refusalOf_7 : decode cX2_refusalOf 7 = .ok (.if_icmp .ne 6, 3) := by decide +kernel
theorem dX2_refusalOf_10 : decode cX2_refusalOf 10 = .ok (.bipush (-11), 2) := by decide +kernel
theorem dX2_refusalOf_12 : decode cX2_refusalOf 12 = .ok (.ireturn, 1) := by decide +kernel
theorem dX2_refusalOf_13 : decode cX2_refusalOf 13 = .ok (.aload_n 0, 1) := by decide +kernel
theorem dX2_refusalOf_14 : decode cX2_refusalOf 14 = .ok (.getfield 11, 3) := by decide +kernel
theorem dX2_refusalOf_17 : decode cX2_refusalOf 17 = .ok (.iload_n 1, 1) := by decide +kernel
theorem dX2_refusalOf_18 : decode cX2_refusalOf 18 = .ok (.iaload, 1) := by decide +kernel
theorem dX2_refusalOf_19 : decode cX2_refusalOf 19 = .ok (.iload_n 2, 1) := by decide +kernel
theorem dX2_refusalOf_20 : decode cX2_refusalOf 20 = .ok (.if_icmp .ne 7, 3) := by decide +kernel
theorem dX2_refusalOf_23 : decode cX2_refusalOf 23 = .ok (.iconst 0, 1) := by decide +kernel
theorem dX2_refusalOf_24 : decode cX2_refusalOf 24 = .ok (.goto 5, 3) := by decide +kernel
theorem dX2_refusalOf_27 : decode cX2_refusalOf 27 = .ok (.bipush (-13), 2) := by decide +kernel
theorem dX2_refusalOf_29 : decode cX2_refusalOf 29 = .ok (.ireturn, 1) := by decide +kernel
theorem dX2_narrowed_0 : decode cX2_narrowed 0 = .ok (.iload_n 1, 1) := by decide +kernel
theorem dX2_narrowed_1 : decode cX2_narrowed 1 = .ok (.ifCond .ne 6, 3) := by decide +kernel
theorem dX2_narrowed_4 : decode cX2_narrowed 4 = .ok (.iload_n 0, 1) := by decide +kernel
theorem dX2_narrowed_5 : decode cX2_narrowed 5 = .ok (.i2b, 1) := by decide +kernel
theorem dX2_narrowed_6 : decode cX2_narrowed 6 = .ok (.ireturn, 1) := by decide +kernel
theorem dX2_narrowed_7 : decode cX2_narrowed 7 = .ok (.iload_n 1, 1) := by decide +kernel
theorem dX2_narrowed_8 : decode cX2_narrowed 8 = .ok (.iconst 1, 1) := by decide +kernel
theorem dX2_narrowed_9 : decode cX2_narrowed 9 = .ok (.if_icmp .ne 8, 3) := by decide +kernel
theorem dX2_narrowed_12 : decode cX2_narrowed 12 = .ok (.iload_n 0, 1) := by decide +kernel
theorem dX2_narrowed_13 : decode cX2_narrowed 13 = .ok (.i2s, 1) := by decide +kernel
theorem dX2_narrowed_14 : decode cX2_narrowed 14 = .ok (.goto 4, 3) := by decide +kernel
theorem dX2_narrowed_17 : decode cX2_narrowed 17 = .ok (.iload_n 0, 1) := by decide +kernel
theorem dX2_narrowed_18 : decode cX2_narrowed 18 = .ok (.ireturn, 1) := by decide +kernel
theorem dX2_holdCut_0 : decode cX2_holdCut 0 = .ok (.aload_n 0, 1) := by decide +kernel
theorem dX2_holdCut_1 : decode cX2_holdCut 1 = .ok (.getfield 23, 3) := by decide +kernel
theorem dX2_holdCut_4 : decode cX2_holdCut 4 = .ok (.iload_n 1, 1) := by decide +kernel
theorem dX2_holdCut_5 : decode cX2_holdCut 5 = .ok (.iconst 1, 1) := by decide +kernel
theorem dX2_holdCut_6 : decode cX2_holdCut 6 = .ok (.iastore, 1) := by decide +kernel
theorem dX2_holdCut_7 : decode cX2_holdCut 7 = .ok (.aload_n 0, 1) := by decide +kernel
theorem dX2_holdCut_8 : decode cX2_holdCut 8 = .ok (.getfield 26, 3) := by decide +kernel
theorem dX2_holdCut_11 : decode cX2_holdCut 11 = .ok (.iload_n 1, 1) := by decide +kernel
theorem dX2_holdCut_12 : decode cX2_holdCut 12 = .ok (.iload_n 2, 1) := by decide +kernel
theorem dX2_holdCut_13 : decode cX2_holdCut 13 = .ok (.iastore, 1) := by decide +kernel
theorem dX2_holdCut_14 : decode cX2_holdCut 14 = .ok (.return_, 1) := by decide +kernel
theorem dX2_holdRow_0 : decode cX2_holdRow 0 = .ok (.aload_n 0, 1) := by decide +kernel
theorem dX2_holdRow_1 : decode cX2_holdRow 1 = .ok (.getfield 23, 3) := by decide +kernel
theorem dX2_holdRow_4 : decode cX2_holdRow 4 = .ok (.iload_n 1, 1) := by decide +kernel
theorem dX2_holdRow_5 : decode cX2_holdRow 5 = .ok (.aload_n 0, 1) := by decide +kernel
theorem dX2_holdRow_6 : decode cX2_holdRow 6 = .ok (.getfield 11, 3) := by decide +kernel
theorem dX2_holdRow_9 : decode cX2_holdRow 9 = .ok (.iload_n 2, 1) := by decide +kernel
theorem dX2_holdRow_10 : decode cX2_holdRow 10 = .ok (.iaload, 1) := by decide +kernel
theorem dX2_holdRow_11 : decode cX2_holdRow 11 = .ok (.iconst (-1), 1) := by decide +kernel
theorem dX2_holdRow_12 : decode cX2_holdRow 12 = .ok (.if_icmp .ne 7, 3) := by decide +kernel
theorem dX2_holdRow_15 : decode cX2_holdRow 15 = .ok (.iconst 0, 1) := by decide +kernel
theorem dX2_holdRow_16 : decode cX2_holdRow 16 = .ok (.goto 4, 3) := by decide +kernel
theorem dX2_holdRow_19 : decode cX2_holdRow 19 = .ok (.iconst 2, 1) := by decide +kernel
theorem dX2_holdRow_20 : decode cX2_holdRow 20 = .ok (.iastore, 1) := by decide +kernel
theorem dX2_holdRow_21 : decode cX2_holdRow 21 = .ok (.aload_n 0, 1) := by decide +kernel
theorem dX2_holdRow_22 : decode cX2_holdRow 22 = .ok (.getfield 29, 3) := by decide +kernel
theorem dX2_holdRow_25 : decode cX2_holdRow 25 = .ok (.iload_n 1, 1) := by decide +kernel
theorem dX2_holdRow_26 : decode cX2_holdRow 26 = .ok (.aload_n 0, 1) := by decide +kernel
theorem dX2_holdRow_27 : decode cX2_holdRow 27 = .ok (.getfield 11, 3) := by decide +kernel
theorem dX2_holdRow_30 : decode cX2_holdRow 30 = .ok (.iload_n 2, 1) := by decide +kernel
theorem dX2_holdRow_31 : decode cX2_holdRow 31 = .ok (.iaload, 1) := by decide +kernel
theorem dX2_holdRow_32 : decode cX2_holdRow 32 = .ok (.iastore, 1) := by decide +kernel
theorem dX2_holdRow_33 : decode cX2_holdRow 33 = .ok (.aload_n 0, 1) := by decide +kernel
theorem dX2_holdRow_34 : decode cX2_holdRow 34 = .ok (.getfield 26, 3) := by decide +kernel
theorem dX2_holdRow_37 : decode cX2_holdRow 37 = .ok (.iload_n 1, 1) := by decide +kernel
theorem dX2_holdRow_38 : decode cX2_holdRow 38 = .ok (.aload_n 0, 1) := by decide +kernel
theorem dX2_holdRow_39 : decode cX2_holdRow 39 = .ok (.getfield 15, 3) := by decide +kernel
theorem dX2_holdRow_42 : decode cX2_holdRow 42 = .ok (.iload_n 2, 1) := by decide +kernel
theorem dX2_holdRow_43 : decode cX2_holdRow 43 = .ok (.iaload, 1) := by decide +kernel
theorem dX2_holdRow_44 : decode cX2_holdRow 44 = .ok (.iastore, 1) := by decide +kernel
theorem dX2_holdRow_45 : decode cX2_holdRow 45 = .ok (.return_, 1) := by decide +kernel
theorem dX2_holdNothing_0 : decode cX2_holdNothing 0 = .ok (.aload_n 0, 1) := by decide +kernel
theorem dX2_holdNothing_1 : decode cX2_holdNothing 1 = .ok (.getfield 23, 3) := by decide +kernel
theorem dX2_holdNothing_4 : decode cX2_holdNothing 4 = .ok (.iload_n 1, 1) := by decide +kernel
theorem dX2_holdNothing_5 : decode cX2_holdNothing 5 = .ok (.iconst 0, 1) := by decide +kernel
theorem dX2_holdNothing_6 : decode cX2_holdNothing 6 = .ok (.iastore, 1) := by decide +kernel
theorem dX2_holdNothing_7 : decode cX2_holdNothing 7 = .ok (.return_, 1) := by decide +kernel
theorem dX2_isRow_0 : decode cX2_isRow 0 = .ok (.aload_n 0, 1) := by decide +kernel
theorem dX2_isRow_1 : decode cX2_isRow 1 = .ok (.getfield 23, 3) := by decide +kernel
theorem dX2_isRow_4 : decode cX2_isRow 4 = .ok (.iload_n 1, 1) := by decide +kernel
theorem dX2_isRow_5 : decode cX2_isRow 5 = .ok (.iaload, 1) := by decide +kernel
theorem dX2_isRow_6 : decode cX2_isRow 6 = .ok (.iconst 2, 1) := by decide +kernel
theorem dX2_isRow_7 : decode cX2_isRow 7 = .ok (.if_icmp .ne 7, 3) := by decide +kernel
theorem dX2_isRow_10 : decode cX2_isRow 10 = .ok (.iconst 1, 1) := by decide +kernel
theorem dX2_isRow_11 : decode cX2_isRow 11 = .ok (.goto 4, 3) := by decide +kernel
theorem dX2_isRow_14 : decode cX2_isRow 14 = .ok (.iconst 0, 1) := by decide +kernel
theorem dX2_isRow_15 : decode cX2_isRow 15 = .ok (.ireturn, 1) := by decide +kernel
theorem dX2_cutOn_0 : decode cX2_cutOn 0 = .ok (.aload_n 0, 1) := by decide +kernel
theorem dX2_cutOn_1 : decode cX2_cutOn 1 = .ok (.getfield 23, 3) := by decide +kernel
theorem dX2_cutOn_4 : decode cX2_cutOn 4 = .ok (.iload_n 1, 1) := by decide +kernel
theorem dX2_cutOn_5 : decode cX2_cutOn 5 = .ok (.iaload, 1) := by decide +kernel
theorem dX2_cutOn_6 : decode cX2_cutOn 6 = .ok (.iconst 1, 1) := by decide +kernel
theorem dX2_cutOn_7 : decode cX2_cutOn 7 = .ok (.if_icmp .ne 12, 3) := by decide +kernel
theorem dX2_cutOn_10 : decode cX2_cutOn 10 = .ok (.aload_n 0, 1) := by decide +kernel
theorem dX2_cutOn_11 : decode cX2_cutOn 11 = .ok (.getfield 26, 3) := by decide +kernel
theorem dX2_cutOn_14 : decode cX2_cutOn 14 = .ok (.iload_n 1, 1) := by decide +kernel
theorem dX2_cutOn_15 : decode cX2_cutOn 15 = .ok (.iaload, 1) := by decide +kernel
theorem dX2_cutOn_16 : decode cX2_cutOn 16 = .ok (.goto 4, 3) := by decide +kernel
theorem dX2_cutOn_19 : decode cX2_cutOn 19 = .ok (.iconst (-1), 1) := by decide +kernel
theorem dX2_cutOn_20 : decode cX2_cutOn 20 = .ok (.ireturn, 1) := by decide +kernel
theorem dX3_init_0 : decode cX3_init 0 = .ok (.aload_n 0, 1) := by decide +kernel
theorem dX3_init_1 : decode cX3_init 1 = .ok (.invokespecial 3, 3) := by decide +kernel
theorem dX3_init_4 : decode cX3_init 4 = .ok (.aload_n 0, 1) := by decide +kernel
theorem dX3_init_5 : decode cX3_init 5 = .ok (.bipush 10, 2) := by decide +kernel
theorem dX3_init_7 : decode cX3_init 7 = .ok (.newarray .int, 2) := by decide +kernel
theorem dX3_init_9 : decode cX3_init 9 = .ok (.putfield 9, 3) := by decide +kernel
theorem dX3_init_12 : decode cX3_init 12 = .ok (.return_, 1) := by decide +kernel
set_option maxRecDepth 20000 in
theorem ggX3_lay_J7_fill_53178 : GoodIn wsX3_lay wsJ7_fill_53178 := goodIn_r _ [8] (by decide +kernel) (by decide +kernel)
set_option maxRecDepth 20000 in
theorem gX3_lay_J7_fill_53178 : GoodIn wsX3_lay (va_wsS RX3 15 yJ7_fill_53178 wsJ7_fill_53178) := goodIn_app (goodIn_of _ (by decide +kernel)) ggX3_lay_J7_fill_53178
theorem dX3_lay_0 : decode cX3_lay 0 = .ok (.aload_n 0, 1) := by decide +kernel
theorem dX3_lay_1 : decode cX3_lay 1 = .ok (.getfield 9, 3) := by decide +kernel
theorem dX3_lay_4 : decode cX3_lay 4 = .ok (.iconst 0, 1) := by decide +kernel
theorem dX3_lay_5 : decode cX3_lay 5 = .ok (.invokestatic 15, 3) := by decide +kernel
theorem dX3_lay_8 : decode cX3_lay 8 = .ok (.iconst 0, 1) := by decide +kernel
theorem dX3_lay_9 : decode cX3_lay 9 = .ok (.istore_n 3, 1) := by decide +kernel
theorem dX3_lay_10 : decode cX3_lay 10 = .ok (.iload_n 3, 1) := by decide +kernel
theorem dX3_lay_11 : decode cX3_lay 11 = .ok (.aload_n 1, 1) := by decide +kernel
theorem dX3_lay_12 : decode cX3_lay 12 = .ok (.getfield 21, 3) := by decide +kernel
theorem dX3_lay_15 : decode cX3_lay 15 = .ok (.if_icmp .ge 61, 3) := by decide +kernel
theorem dX3_lay_18 : decode cX3_lay 18 = .ok (.iload_n 2, 1) := by decide +kernel
theorem dX3_lay_19 : decode cX3_lay 19 = .ok (.iload_n 3, 1) := by decide +kernel
theorem dX3_lay_20 : decode cX3_lay 20 = .ok (.ishr, 1) := by decide +kernel
theorem dX3_lay_21 : decode cX3_lay 21 = .ok (.iconst 1, 1) := by decide +kernel
theorem dX3_lay_22 : decode cX3_lay 22 = .ok (.iand, 1) := by decide +kernel
theorem dX3_lay_23 : decode cX3_lay 23 = .ok (.ifCond .eq 47, 3) := by decide +kernel
theorem dX3_lay_26 : decode cX3_lay 26 = .ok (.aload_n 0, 1) := by decide +kernel
theorem dX3_lay_27 : decode cX3_lay 27 = .ok (.getfield 9, 3) := by decide +kernel
theorem dX3_lay_30 : decode cX3_lay 30 = .ok (.aload_n 1, 1) := by decide +kernel
theorem dX3_lay_31 : decode cX3_lay 31 = .ok (.getfield 27, 3) := by decide +kernel
theorem dX3_lay_34 : decode cX3_lay 34 = .ok (.iload_n 3, 1) := by decide +kernel
theorem dX3_lay_35 : decode cX3_lay 35 = .ok (.iaload, 1) := by decide +kernel
theorem dX3_lay_36 : decode cX3_lay 36 = .ok (.dup2, 1) := by decide +kernel
theorem dX3_lay_37 : decode cX3_lay 37 = .ok (.iaload, 1) := by decide +kernel
theorem dX3_lay_38 : decode cX3_lay 38 = .ok (.iconst 1, 1) := by decide +kernel
theorem dX3_lay_39 : decode cX3_lay 39 = .ok (.aload_n 1, 1) := by decide +kernel
theorem dX3_lay_40 : decode cX3_lay 40 = .ok (.getfield 30, 3) := by decide +kernel
theorem dX3_lay_43 : decode cX3_lay 43 = .ok (.iload_n 3, 1) := by decide +kernel
theorem dX3_lay_44 : decode cX3_lay 44 = .ok (.iaload, 1) := by decide +kernel
theorem dX3_lay_45 : decode cX3_lay 45 = .ok (.ishl, 1) := by decide +kernel
theorem dX3_lay_46 : decode cX3_lay 46 = .ok (.ior, 1) := by decide +kernel
theorem dX3_lay_47 : decode cX3_lay 47 = .ok (.iastore, 1) := by decide +kernel
theorem dX3_lay_48 : decode cX3_lay 48 = .ok (.aload_n 0, 1) := by decide +kernel
theorem dX3_lay_49 : decode cX3_lay 49 = .ok (.getfield 9, 3) := by decide +kernel
theorem dX3_lay_52 : decode cX3_lay 52 = .ok (.aload_n 1, 1) := by decide +kernel
theorem dX3_lay_53 : decode cX3_lay 53 = .ok (.getfield 30, 3) := by decide +kernel
theorem dX3_lay_56 : decode cX3_lay 56 = .ok (.iload_n 3, 1) := by decide +kernel
theorem dX3_lay_57 : decode cX3_lay 57 = .ok (.iaload, 1) := by decide +kernel
theorem dX3_lay_58 : decode cX3_lay 58 = .ok (.dup2, 1) := by decide +kernel
theorem dX3_lay_59 : decode cX3_lay 59 = .ok (.iaload, 1) := by decide +kernel
theorem dX3_lay_60 : decode cX3_lay 60 = .ok (.iconst 1, 1) := by decide +kernel
theorem dX3_lay_61 : decode cX3_lay 61 = .ok (.aload_n 1, 1) := by decide +kernel
theorem dX3_lay_62 : decode cX3_lay 62 = .ok (.getfield 27, 3) := by decide +kernel
theorem dX3_lay_65 : decode cX3_lay 65 = .ok (.iload_n 3, 1) := by decide +kernel
theorem dX3_lay_66 : decode cX3_lay 66 = .ok (.iaload, 1) := by decide +kernel
theorem dX3_lay_67 : decode cX3_lay 67 = .ok (.ishl, 1) := by decide +kernel
theorem dX3_lay_68 : decode cX3_lay 68 = .ok (.ior, 1) := by decide +kernel
theorem dX3_lay_69 : decode cX3_lay 69 = .ok (.iastore, 1) := by decide +kernel
theorem dX3_lay_70 : decode cX3_lay 70 = .ok (.iinc 3 1, 3) := by decide +kernel
theorem dX3_lay_73 : decode cX3_lay 73 = .ok (.goto (-63), 3) := by decide +kernel
theorem dX3_lay_76 : decode cX3_lay 76 = .ok (.return_, 1) := by decide +kernel
set_option maxRecDepth 20000 in
theorem ggX3_flood_J6_bitCount_0f7a4 : GoodIn wsX3_flood wsJ6_bitCount_0f7a4 := goodIn_r _ [5, 6, 7, 8] (by decide +kernel) (by decide +kernel)
set_option maxRecDepth 20000 in
theorem gX3_flood_J6_bitCount_0f7a4 : GoodIn wsX3_flood (va_wsS RX3 33 yJ6_bitCount_0f7a4 wsJ6_bitCount_0f7a4) := goodIn_app (goodIn_of _ (by decide +kernel)) ggX3_flood_J6_bitCount_0f7a4
theorem dX3_flood_0 : decode cX3_flood 0 = .ok (.iload_n 1, 1) := by decide +kernel
theorem dX3_flood_1 : decode cX3_flood 1 = .ok (.iload_n 2, 1) := by decide +kernel
theorem dX3_flood_2 : decode cX3_flood 2 = .ok (.iand, 1) := by decide +kernel
theorem dX3_flood_3 : decode cX3_flood 3 = .ok (.sipush 1023, 3) := by decide +kernel
theorem dX3_flood_6 : decode cX3_flood 6 = .ok (.iand, 1) := by decide +kernel
theorem dX3_flood_7 : decode cX3_flood 7 = .ok (.istore_n 3, 1) := by decide +kernel
theorem dX3_flood_8 : decode cX3_flood 8 = .ok (.iload_n 3, 1) := by decide +kernel
theorem dX3_flood_9 : decode cX3_flood 9 = .ok (.istore 4, 2) := by decide +kernel
theorem dX3_flood_11 : decode cX3_flood 11 = .ok (.iconst 0, 1) := by decide +kernel
theorem dX3_flood_12 : decode cX3_flood 12 = .ok (.istore 5, 2) := by decide +kernel
theorem dX3_flood_14 : decode cX3_flood 14 = .ok (.iload 5, 2) := by decide +kernel
theorem dX3_flood_16 : decode cX3_flood 16 = .ok (.bipush 10, 2) := by decide +kernel
theorem dX3_flood_18 : decode cX3_flood 18 = .ok (.if_icmp .ge 59, 3) := by decide +kernel
theorem dX3_flood_21 : decode cX3_flood 21 = .ok (.iload 4, 2) := by decide +kernel
theorem dX3_flood_23 : decode cX3_flood 23 = .ok (.ifCond .eq 54, 3) := by decide +kernel
theorem dX3_flood_26 : decode cX3_flood 26 = .ok (.iload 4, 2) := by decide +kernel
theorem dX3_flood_28 : decode cX3_flood 28 = .ok (.iload 4, 2) := by decide +kernel
theorem dX3_flood_30 : decode cX3_flood 30 = .ok (.ineg, 1) := by decide +kernel
theorem dX3_flood_31 : decode cX3_flood 31 = .ok (.iand, 1) := by decide +kernel
theorem dX3_flood_32 : decode cX3_flood 32 = .ok (.iconst 1, 1) := by decide +kernel
theorem dX3_flood_33 : decode cX3_flood 33 = .ok (.isub, 1) := by decide +kernel
theorem dX3_flood_34 : decode cX3_flood 34 = .ok (.invokestatic 33, 3) := by decide +kernel
theorem dX3_flood_37 : decode cX3_flood 37 = .ok (.istore 6, 2) := by decide +kernel
theorem dX3_flood_39 : decode cX3_flood 39 = .ok (.aload_n 0, 1) := by decide +kernel
theorem dX3_flood_40 : decode cX3_flood 40 = .ok (.getfield 9, 3) := by decide +kernel
theorem dX3_flood_43 : decode cX3_flood 43 = .ok (.iload 6, 2) := by decide +kernel
theorem dX3_flood_45 : decode cX3_flood 45 = .ok (.iaload, 1) := by decide +kernel
theorem dX3_flood_46 : decode cX3_flood 46 = .ok (.iload_n 2, 1) := by decide +kernel
theorem dX3_flood_47 : decode cX3_flood 47 = .ok (.iand, 1) := by decide +kernel
theorem dX3_flood_48 : decode cX3_flood 48 = .ok (.iload_n 3, 1) := by decide +kernel
theorem dX3_flood_49 : decode cX3_flood 49 = .ok (.iconst (-1), 1) := by decide +kernel
theorem dX3_flood_50 : decode cX3_flood 50 = .ok (.ixor, 1) := by decide +kernel
theorem dX3_flood_51 : decode cX3_flood 51 = .ok (.iand, 1) := by decide +kernel
theorem dX3_flood_52 : decode cX3_flood 52 = .ok (.istore 7, 2) := by decide +kernel
theorem dX3_flood_54 : decode cX3_flood 54 = .ok (.iload_n 3, 1) := by decide +kernel
theorem dX3_flood_55 : decode cX3_flood 55 = .ok (.iload 7, 2) := by decide +kernel
theorem dX3_flood_57 : decode cX3_flood 57 = .ok (.ior, 1) := by decide +kernel
theorem dX3_flood_58 : decode cX3_flood 58 = .ok (.istore_n 3, 1) := by decide +kernel
theorem dX3_flood_59 : decode cX3_flood 59 = .ok (.iload 4, 2) := by decide +kernel
theorem dX3_flood_61 : decode cX3_flood 61 = .ok (.iload 4, 2) := by decide +kernel
theorem dX3_flood_63 : decode cX3_flood 63 = .ok (.iconst 1, 1) := by decide +kernel
theorem dX3_flood_64 : decode cX3_flood 64 = .ok (.isub, 1) := by decide +kernel
theorem dX3_flood_65 : decode cX3_flood 65 = .ok (.iand, 1) := by decide +kernel
theorem dX3_flood_66 : decode cX3_flood 66 = .ok (.iload 7, 2) := by decide +kernel
theorem dX3_flood_68 : decode cX3_flood 68 = .ok (.ior, 1) := by decide +kernel
theorem dX3_flood_69 : decode cX3_flood 69 = .ok (.istore 4, 2) := by decide +kernel
theorem dX3_flood_71 : decode cX3_flood 71 = .ok (.iinc 5 1, 3) := by decide +kernel
theorem dX3_flood_74 : decode cX3_flood 74 = .ok (.goto (-60), 3) := by decide +kernel
theorem dX3_flood_77 : decode cX3_flood 77 = .ok (.iload_n 3, 1) := by decide +kernel
theorem dX3_flood_78 : decode cX3_flood 78 = .ok (.ireturn, 1) := by decide +kernel
theorem dX3_around_0 : decode cX3_around 0 = .ok (.iconst 0, 1) := by decide +kernel
theorem dX3_around_1 : decode cX3_around 1 = .ok (.istore_n 2, 1) := by decide +kernel
theorem dX3_around_2 : decode cX3_around 2 = .ok (.iconst 0, 1) := by decide +kernel
theorem dX3_around_3 : decode cX3_around 3 = .ok (.istore_n 3, 1) := by decide +kernel
theorem dX3_around_4 : decode cX3_around 4 = .ok (.iload_n 3, 1) := by decide +kernel
theorem dX3_around_5 : decode cX3_around 5 = .ok (.bipush 10, 2) := by decide +kernel
theorem dX3_around_7 : decode cX3_around 7 = .ok (.if_icmp .ge 26, 3) := by decide +kernel
theorem dX3_around_10 : decode cX3_around 10 = .ok (.iload_n 1, 1) := by decide +kernel
theorem dX3_around_11 : decode cX3_around 11 = .ok (.iload_n 3, 1) := by decide +kernel
theorem dX3_around_12 : decode cX3_around 12 = .ok (.ishr, 1) := by decide +kernel
theorem dX3_around_13 : decode cX3_around 13 = .ok (.iconst 1, 1) := by decide +kernel
theorem dX3_around_14 : decode cX3_around 14 = .ok (.iand, 1) := by decide +kernel
theorem dX3_around_15 : decode cX3_around 15 = .ok (.ifCond .eq 12, 3) := by decide +kernel
theorem dX3_around_18 : decode cX3_around 18 = .ok (.iload_n 2, 1) := by decide +kernel
theorem dX3_around_19 : decode cX3_around 19 = .ok (.aload_n 0, 1) := by decide +kernel
theorem dX3_around_20 : decode cX3_around 20 = .ok (.getfield 9, 3) := by decide +kernel
theorem dX3_around_23 : decode cX3_around 23 = .ok (.iload_n 3, 1) := by decide +kernel
theorem dX3_around_24 : decode cX3_around 24 = .ok (.iaload, 1) := by decide +kernel
theorem dX3_around_25 : decode cX3_around 25 = .ok (.ior, 1) := by decide +kernel
theorem dX3_around_26 : decode cX3_around 26 = .ok (.istore_n 2, 1) := by decide +kernel
theorem dX3_around_27 : decode cX3_around 27 = .ok (.iinc 3 1, 3) := by decide +kernel
theorem dX3_around_30 : decode cX3_around 30 = .ok (.goto (-26), 3) := by decide +kernel
theorem dX3_around_33 : decode cX3_around 33 = .ok (.iload_n 2, 1) := by decide +kernel
theorem dX3_around_34 : decode cX3_around 34 = .ok (.ireturn, 1) := by decide +kernel
set_option maxRecDepth 20000 in
theorem ggX3_isThreatened_X3_around : GoodIn wsX3_isThreatened wsX3_around := goodIn_r _ [5, 6, 7] (by decide +kernel) (by decide +kernel)
set_option maxRecDepth 20000 in
theorem gX3_isThreatened_X3_around : GoodIn wsX3_isThreatened (wsV RX3 39 RX3 yX3_around wsX3_around) := goodIn_app (goodIn_of _ (by decide +kernel)) ggX3_isThreatened_X3_around
theorem dX3_isThreatened_0 : decode cX3_isThreatened 0 = .ok (.aload_n 0, 1) := by decide +kernel
theorem dX3_isThreatened_1 : decode cX3_isThreatened 1 = .ok (.iload_n 1, 1) := by decide +kernel
theorem dX3_isThreatened_2 : decode cX3_isThreatened 2 = .ok (.invokevirtual 39, 3) := by decide +kernel
theorem dX3_isThreatened_5 : decode cX3_isThreatened 5 = .ok (.iload_n 1, 1) := by decide +kernel
theorem dX3_isThreatened_6 : decode cX3_isThreatened 6 = .ok (.iconst (-1), 1) := by decide +kernel
theorem dX3_isThreatened_7 : decode cX3_isThreatened 7 = .ok (.ixor, 1) := by decide +kernel
theorem dX3_isThreatened_8 : decode cX3_isThreatened 8 = .ok (.iand, 1) := by decide +kernel
theorem dX3_isThreatened_9 : decode cX3_isThreatened 9 = .ok (.iload_n 2, 1) := by decide +kernel
theorem dX3_isThreatened_10 : decode cX3_isThreatened 10 = .ok (.iconst (-1), 1) := by decide +kernel
theorem dX3_isThreatened_11 : decode cX3_isThreatened 11 = .ok (.ixor, 1) := by decide +kernel
theorem dX3_isThreatened_12 : decode cX3_isThreatened 12 = .ok (.iand, 1) := by decide +kernel
theorem dX3_isThreatened_13 : decode cX3_isThreatened 13 = .ok (.ifCond .eq 7, 3) := by decide +kernel
theorem dX3_isThreatened_16 : decode cX3_isThreatened 16 = .ok (.iconst 1, 1) := by decide +kernel
theorem dX3_isThreatened_17 : decode cX3_isThreatened 17 = .ok (.goto 4, 3) := by decide +kernel
theorem dX3_isThreatened_20 : decode cX3_isThreatened 20 = .ok (.iconst 0, 1) := by decide +kernel
theorem dX3_isThreatened_21 : decode cX3_isThreatened 21 = .ok (.ireturn, 1) := by decide +kernel
set_option maxRecDepth 20000 in
theorem ggX3_howManySets_X3_flood : GoodIn wsX3_howManySets wsX3_flood := goodIn_r _ [5, 6, 7, 8, 9, 10, 11, 12, 13, 14] (by decide +kernel) (by decide +kernel)
set_option maxRecDepth 20000 in
theorem gX3_howManySets_X3_flood : GoodIn wsX3_howManySets (wsV RX3 42 RX3 yX3_flood wsX3_flood) := goodIn_app (goodIn_of _ (by decide +kernel)) ggX3_howManySets_X3_flood
theorem dX3_howManySets_0 : decode cX3_howManySets 0 = .ok (.iload_n 1, 1) := by decide +kernel
theorem dX3_howManySets_1 : decode cX3_howManySets 1 = .ok (.istore_n 2, 1) := by decide +kernel
theorem dX3_howManySets_2 : decode cX3_howManySets 2 = .ok (.iconst 0, 1) := by decide +kernel
theorem dX3_howManySets_3 : decode cX3_howManySets 3 = .ok (.istore_n 3, 1) := by decide +kernel
theorem dX3_howManySets_4 : decode cX3_howManySets 4 = .ok (.iconst 0, 1) := by decide +kernel
theorem dX3_howManySets_5 : decode cX3_howManySets 5 = .ok (.istore 4, 2) := by decide +kernel
theorem dX3_howManySets_7 : decode cX3_howManySets 7 = .ok (.iload 4, 2) := by decide +kernel
theorem dX3_howManySets_9 : decode cX3_howManySets 9 = .ok (.bipush 10, 2) := by decide +kernel
theorem dX3_howManySets_11 : decode cX3_howManySets 11 = .ok (.if_icmp .ge 30, 3) := by decide +kernel
theorem dX3_howManySets_14 : decode cX3_howManySets 14 = .ok (.iload_n 2, 1) := by decide +kernel
theorem dX3_howManySets_15 : decode cX3_howManySets 15 = .ok (.ifCond .eq 26, 3) := by decide +kernel
theorem dX3_howManySets_18 : decode cX3_howManySets 18 = .ok (.iload_n 2, 1) := by decide +kernel
theorem dX3_howManySets_19 : decode cX3_howManySets 19 = .ok (.aload_n 0, 1) := by decide +kernel
theorem dX3_howManySets_20 : decode cX3_howManySets 20 = .ok (.iload_n 2, 1) := by decide +kernel
theorem dX3_howManySets_21 : decode cX3_howManySets 21 = .ok (.iload_n 2, 1) := by decide +kernel
theorem dX3_howManySets_22 : decode cX3_howManySets 22 = .ok (.ineg, 1) := by decide +kernel
theorem dX3_howManySets_23 : decode cX3_howManySets 23 = .ok (.iand, 1) := by decide +kernel
theorem dX3_howManySets_24 : decode cX3_howManySets 24 = .ok (.iload_n 1, 1) := by decide +kernel
theorem dX3_howManySets_25 : decode cX3_howManySets 25 = .ok (.invokevirtual 42, 3) := by decide +kernel
theorem dX3_howManySets_28 : decode cX3_howManySets 28 = .ok (.iconst (-1), 1) := by decide +kernel
theorem dX3_howManySets_29 : decode cX3_howManySets 29 = .ok (.ixor, 1) := by decide +kernel
theorem dX3_howManySets_30 : decode cX3_howManySets 30 = .ok (.iand, 1) := by decide +kernel
theorem dX3_howManySets_31 : decode cX3_howManySets 31 = .ok (.istore_n 2, 1) := by decide +kernel
theorem dX3_howManySets_32 : decode cX3_howManySets 32 = .ok (.iinc 3 1, 3) := by decide +kernel
theorem dX3_howManySets_35 : decode cX3_howManySets 35 = .ok (.iinc 4 1, 3) := by decide +kernel
theorem dX3_howManySets_38 : decode cX3_howManySets 38 = .ok (.goto (-31), 3) := by decide +kernel
theorem dX3_howManySets_41 : decode cX3_howManySets 41 = .ok (.iload_n 3, 1) := by decide +kernel
theorem dX3_howManySets_42 : decode cX3_howManySets 42 = .ok (.ireturn, 1) := by decide +kernel
set_option maxRecDepth 20000 in
theorem ggX3_greatestSet_X3_flood : GoodIn wsX3_greatestSet wsX3_flood := goodIn_r _ [9, 10, 11, 12, 13, 14, 15, 16, 17, 18] (by decide +kernel) (by decide +kernel)
set_option maxRecDepth 20000 in
theorem gX3_greatestSet_X3_flood : GoodIn wsX3_greatestSet (wsV RX3 42 RX3 yX3_flood wsX3_flood) := goodIn_app (goodIn_of _ (by decide +kernel)) ggX3_greatestSet_X3_flood
set_option maxRecDepth 20000 in
theorem ggX3_greatestSet_J6_bitCount_0f7a4 : GoodIn wsX3_greatestSet wsJ6_bitCount_0f7a4 := goodIn_r _ [14, 15, 16, 17] (by decide +kernel) (by decide +kernel)
set_option maxRecDepth 20000 in
theorem gX3_greatestSet_J6_bitCount_0f7a4 : GoodIn wsX3_greatestSet (va_wsS RX3 33 yJ6_bitCount_0f7a4 wsJ6_bitCount_0f7a4) := goodIn_app (goodIn_of _ (by decide +kernel)) ggX3_greatestSet_J6_bitCount_0f7a4
theorem dX3_greatestSet_0 : decode cX3_greatestSet 0 = .ok (.iload_n 1, 1) := by decide +kernel
theorem dX3_greatestSet_1 : decode cX3_greatestSet 1 = .ok (.istore_n 2, 1) := by decide +kernel
theorem dX3_greatestSet_2 : decode cX3_greatestSet 2 = .ok (.iconst 0, 1) := by decide +kernel
theorem dX3_greatestSet_3 : decode cX3_greatestSet 3 = .ok (.istore_n 3, 1) := by decide +kernel
theorem dX3_greatestSet_4 : decode cX3_greatestSet 4 = .ok (.iconst 0, 1) := by decide +kernel
theorem dX3_greatestSet_5 : decode cX3_greatestSet 5 = .ok (.istore 4, 2) := by decide +kernel
theorem dX3_greatestSet_7 : decode cX3_greatestSet 7 = .ok (.iload 4, 2) := by decide +kernel
theorem dX3_greatestSet_9 : decode cX3_greatestSet 9 = .ok (.bipush 10, 2) := by decide +kernel
theorem dX3_greatestSet_11 : decode cX3_greatestSet 11 = .ok (.if_icmp .ge 41, 3) := by decide +kernel
theorem dX3_greatestSet_14 : decode cX3_greatestSet 14 = .ok (.iload_n 2, 1) := by decide +kernel
theorem dX3_greatestSet_15 : decode cX3_greatestSet 15 = .ok (.ifCond .eq 37, 3) := by decide +kernel
theorem dX3_greatestSet_18 : decode cX3_greatestSet 18 = .ok (.aload_n 0, 1) := by decide +kernel
theorem dX3_greatestSet_19 : decode cX3_greatestSet 19 = .ok (.iload_n 2, 1) := by decide +kernel
theorem dX3_greatestSet_20 : decode cX3_greatestSet 20 = .ok (.iload_n 2, 1) := by decide +kernel
theorem dX3_greatestSet_21 : decode cX3_greatestSet 21 = .ok (.ineg, 1) := by decide +kernel
theorem dX3_greatestSet_22 : decode cX3_greatestSet 22 = .ok (.iand, 1) := by decide +kernel
theorem dX3_greatestSet_23 : decode cX3_greatestSet 23 = .ok (.iload_n 1, 1) := by decide +kernel
theorem dX3_greatestSet_24 : decode cX3_greatestSet 24 = .ok (.invokevirtual 42, 3) := by decide +kernel
theorem dX3_greatestSet_27 : decode cX3_greatestSet 27 = .ok (.istore 5, 2) := by decide +kernel
theorem dX3_greatestSet_29 : decode cX3_greatestSet 29 = .ok (.iload_n 2, 1) := by decide +kernel
theorem dX3_greatestSet_30 : decode cX3_greatestSet 30 = .ok (.iload 5, 2) := by decide +kernel
theorem dX3_greatestSet_32 : decode cX3_greatestSet 32 = .ok (.iconst (-1), 1) := by decide +kernel
theorem dX3_greatestSet_33 : decode cX3_greatestSet 33 = .ok (.ixor, 1) := by decide +kernel
theorem dX3_greatestSet_34 : decode cX3_greatestSet 34 = .ok (.iand, 1) := by decide +kernel
theorem dX3_greatestSet_35 : decode cX3_greatestSet 35 = .ok (.istore_n 2, 1) := by decide +kernel
theorem dX3_greatestSet_36 : decode cX3_greatestSet 36 = .ok (.iload_n 3, 1) := by decide +kernel
theorem dX3_greatestSet_37 : decode cX3_greatestSet 37 = .ok (.iload 5, 2) := by decide +kernel
theorem dX3_greatestSet_39 : decode cX3_greatestSet 39 = .ok (.invokestatic 33, 3) := by decide +kernel
theorem dX3_greatestSet_42 : decode cX3_greatestSet 42 = .ok (.invokestatic 46, 3) := by decide +kernel
theorem dX3_greatestSet_45 : decode cX3_greatestSet 45 = .ok (.istore_n 3, 1) := by decide +kernel
theorem dX3_greatestSet_46 : decode cX3_greatestSet 46 = .ok (.iinc 4 1, 3) := by decide +kernel
theorem dX3_greatestSet_49 : decode cX3_greatestSet 49 = .ok (.goto (-42), 3) := by decide +kernel
theorem dX3_greatestSet_52 : decode cX3_greatestSet 52 = .ok (.iload_n 3, 1) := by decide +kernel
theorem dX3_greatestSet_53 : decode cX3_greatestSet 53 = .ok (.ireturn, 1) := by decide +kernel
theorem dX4_init_0 : decode cX4_init 0 = .ok (.aload_n 0, 1) := by decide +kernel
theorem dX4_init_1 : decode cX4_init 1 = .ok (.invokespecial 3, 3) := by decide +kernel
theorem dX4_init_4 : decode cX4_init 4 = .ok (.aload_n 0, 1) := by decide +kernel
theorem dX4_init_5 : decode cX4_init 5 = .ok (.bipush 10, 2) := by decide +kernel
theorem dX4_init_7 : decode cX4_init 7 = .ok (.newarray .int, 2) := by decide +kernel
theorem dX4_init_9 : decode cX4_init 9 = .ok (.putfield 9, 3) := by decide +kernel
theorem dX4_init_12 : decode cX4_init 12 = .ok (.aload_n 0, 1) := by decide +kernel
theorem dX4_init_13 : decode cX4_init 13 = .ok (.iconst 0, 1) := by decide +kernel
theorem dX4_init_14 : decode cX4_init 14 = .ok (.putfield 15, 3) := by decide +kernel
theorem dX4_init_17 : decode cX4_init 17 = .ok (.return_, 1) := by decide +kernel
set_option maxRecDepth 20000 in
theorem ggX4_begin_J7_fill_53178 : GoodIn wsX4_begin wsJ7_fill_53178 := goodIn_r _ [10] (by decide +kernel) (by decide +kernel)
set_option maxRecDepth 20000 in
theorem gX4_begin_J7_fill_53178 : GoodIn wsX4_begin (va_wsS RX4 25 yJ7_fill_53178 wsJ7_fill_53178) := goodIn_app (goodIn_of _ (by decide +kernel)) ggX4_begin_J7_fill_53178
theorem dX4_begin_0 : decode cX4_begin 0 = .ok (.aload_n 0, 1) := by decide +kernel
theorem dX4_begin_1 : decode cX4_begin 1 = .ok (.iload_n 1, 1) := by decide +kernel
theorem dX4_begin_2 : decode cX4_begin 2 = .ok (.bipush 10, 2) := by decide +kernel
theorem dX4_begin_4 : decode cX4_begin 4 = .ok (.invokestatic 19, 3) := by decide +kernel
theorem dX4_begin_7 : decode cX4_begin 7 = .ok (.putfield 15, 3) := by decide +kernel
theorem dX4_begin_10 : decode cX4_begin 10 = .ok (.aload_n 0, 1) := by decide +kernel
theorem dX4_begin_11 : decode cX4_begin 11 = .ok (.getfield 9, 3) := by decide +kernel
theorem dX4_begin_14 : decode cX4_begin 14 = .ok (.iconst 0, 1) := by decide +kernel
theorem dX4_begin_15 : decode cX4_begin 15 = .ok (.invokestatic 25, 3) := by decide +kernel
theorem dX4_begin_18 : decode cX4_begin 18 = .ok (.iconst 1, 1) := by decide +kernel
theorem dX4_begin_19 : decode cX4_begin 19 = .ok (.ireturn, 1) := by decide +kernel
theorem dX4_halve_0 : decode cX4_halve 0 = .ok (.iconst 0, 1) := by decide +kernel
theorem dX4_halve_1 : decode cX4_halve 1 = .ok (.istore_n 2, 1) := by decide +kernel
theorem dX4_halve_2 : decode cX4_halve 2 = .ok (.iload_n 2, 1) := by decide +kernel
theorem dX4_halve_3 : decode cX4_halve 3 = .ok (.bipush 10, 2) := by decide +kernel
theorem dX4_halve_5 : decode cX4_halve 5 = .ok (.if_icmp .ge 20, 3) := by decide +kernel
theorem dX4_halve_8 : decode cX4_halve 8 = .ok (.aload_n 0, 1) := by decide +kernel
theorem dX4_halve_9 : decode cX4_halve 9 = .ok (.getfield 9, 3) := by decide +kernel
theorem dX4_halve_12 : decode cX4_halve 12 = .ok (.iload_n 2, 1) := by decide +kernel
theorem dX4_halve_13 : decode cX4_halve 13 = .ok (.iload_n 1, 1) := by decide +kernel
theorem dX4_halve_14 : decode cX4_halve 14 = .ok (.iload_n 2, 1) := by decide +kernel
theorem dX4_halve_15 : decode cX4_halve 15 = .ok (.ishr, 1) := by decide +kernel
theorem dX4_halve_16 : decode cX4_halve 16 = .ok (.iconst 1, 1) := by decide +kernel
theorem dX4_halve_17 : decode cX4_halve 17 = .ok (.iand, 1) := by decide +kernel
theorem dX4_halve_18 : decode cX4_halve 18 = .ok (.iastore, 1) := by decide +kernel
theorem dX4_halve_19 : decode cX4_halve 19 = .ok (.iinc 2 1, 3) := by decide +kernel
theorem dX4_halve_22 : decode cX4_halve 22 = .ok (.goto (-20), 3) := by decide +kernel
theorem dX4_halve_25 : decode cX4_halve 25 = .ok (.return_, 1) := by decide +kernel
set_option maxRecDepth 20000 in
theorem ggX4_advance_X4_unusedBefore : GoodIn wsX4_advance wsX4_unusedBefore := goodIn_r _ [7, 2, 8, 9, 10, 11, 12, 13] (by decide +kernel) (by decide +kernel)
set_option maxRecDepth 20000 in
theorem gX4_advance_X4_unusedBefore : GoodIn wsX4_advance (wsV RX4 31 RX4 yX4_unusedBefore wsX4_unusedBefore) := goodIn_app (goodIn_of _ (by decide +kernel)) ggX4_advance_X4_unusedBefore
theorem dX4_advance_0 : decode cX4_advance 0 = .ok (.aload_n 0, 1) := by decide +kernel
theorem dX4_advance_1 : decode cX4_advance 1 = .ok (.getfield 15, 3) := by decide +kernel
theorem dX4_advance_4 : decode cX4_advance 4 = .ok (.iconst 1, 1) := by decide +kernel
theorem dX4_advance_5 : decode cX4_advance 5 = .ok (.isub, 1) := by decide +kernel
theorem dX4_advance_6 : decode cX4_advance 6 = .ok (.istore_n 1, 1) := by decide +kernel
theorem dX4_advance_7 : decode cX4_advance 7 = .ok (.iload_n 1, 1) := by decide +kernel
theorem dX4_advance_8 : decode cX4_advance 8 = .ok (.ifCond .le 60, 3) := by decide +kernel
theorem dX4_advance_11 : decode cX4_advance 11 = .ok (.aload_n 0, 1) := by decide +kernel
theorem dX4_advance_12 : decode cX4_advance 12 = .ok (.getfield 9, 3) := by decide +kernel
theorem dX4_advance_15 : decode cX4_advance 15 = .ok (.iload_n 1, 1) := by decide +kernel
theorem dX4_advance_16 : decode cX4_advance 16 = .ok (.iaload, 1) := by decide +kernel
theorem dX4_advance_17 : decode cX4_advance 17 = .ok (.aload_n 0, 1) := by decide +kernel
theorem dX4_advance_18 : decode cX4_advance 18 = .ok (.iload_n 1, 1) := by decide +kernel
theorem dX4_advance_19 : decode cX4_advance 19 = .ok (.invokevirtual 31, 3) := by decide +kernel
theorem dX4_advance_22 : decode cX4_advance 22 = .ok (.if_icmp .ge 40, 3) := by decide +kernel
theorem dX4_advance_25 : decode cX4_advance 25 = .ok (.aload_n 0, 1) := by decide +kernel
theorem dX4_advance_26 : decode cX4_advance 26 = .ok (.getfield 9, 3) := by decide +kernel
theorem dX4_advance_29 : decode cX4_advance 29 = .ok (.iload_n 1, 1) := by decide +kernel
theorem dX4_advance_30 : decode cX4_advance 30 = .ok (.dup2, 1) := by decide +kernel
theorem dX4_advance_31 : decode cX4_advance 31 = .ok (.iaload, 1) := by decide +kernel
theorem dX4_advance_32 : decode cX4_advance 32 = .ok (.iconst 1, 1) := by decide +kernel
theorem dX4_advance_33 : decode cX4_advance 33 = .ok (.iadd, 1) := by decide +kernel
theorem dX4_advance_34 : decode cX4_advance 34 = .ok (.iastore, 1) := by decide +kernel
theorem dX4_advance_35 : decode cX4_advance 35 = .ok (.iload_n 1, 1) := by decide +kernel
theorem dX4_advance_36 : decode cX4_advance 36 = .ok (.iconst 1, 1) := by decide +kernel
theorem dX4_advance_37 : decode cX4_advance 37 = .ok (.iadd, 1) := by decide +kernel
theorem dX4_advance_38 : decode cX4_advance 38 = .ok (.istore_n 2, 1) := by decide +kernel
theorem dX4_advance_39 : decode cX4_advance 39 = .ok (.iload_n 2, 1) := by decide +kernel
theorem dX4_advance_40 : decode cX4_advance 40 = .ok (.aload_n 0, 1) := by decide +kernel
theorem dX4_advance_41 : decode cX4_advance 41 = .ok (.getfield 15, 3) := by decide +kernel
theorem dX4_advance_44 : decode cX4_advance 44 = .ok (.if_icmp .ge 16, 3) := by decide +kernel
theorem dX4_advance_47 : decode cX4_advance 47 = .ok (.aload_n 0, 1) := by decide +kernel
theorem dX4_advance_48 : decode cX4_advance 48 = .ok (.getfield 9, 3) := by decide +kernel
theorem dX4_advance_51 : decode cX4_advance 51 = .ok (.iload_n 2, 1) := by decide +kernel
theorem dX4_advance_52 : decode cX4_advance 52 = .ok (.iconst 0, 1) := by decide +kernel
theorem dX4_advance_53 : decode cX4_advance 53 = .ok (.iastore, 1) := by decide +kernel
theorem dX4_advance_54 : decode cX4_advance 54 = .ok (.iinc 2 1, 3) := by decide +kernel
theorem dX4_advance_57 : decode cX4_advance 57 = .ok (.goto (-18), 3) := by decide +kernel
theorem dX4_advance_60 : decode cX4_advance 60 = .ok (.iconst 1, 1) := by decide +kernel
theorem dX4_advance_61 : decode cX4_advance 61 = .ok (.ireturn, 1) := by decide +kernel
theorem dX4_advance_62 : decode cX4_advance 62 = .ok (.iinc 1 (-1), 3) := by decide +kernel
theorem dX4_advance_65 : decode cX4_advance 65 = .ok (.goto (-58), 3) := by decide +kernel
theorem dX4_advance_68 : decode cX4_advance 68 = .ok (.iconst 0, 1) := by decide +kernel
theorem dX4_advance_69 : decode cX4_advance 69 = .ok (.ireturn, 1) := by decide +kernel
theorem dX4_unusedBefore_0 : decode cX4_unusedBefore 0 = .ok (.iconst (-1), 1) := by decide +kernel
theorem dX4_unusedBefore_1 : decode cX4_unusedBefore 1 = .ok (.istore_n 2, 1) := by decide +kernel
theorem dX4_unusedBefore_2 : decode cX4_unusedBefore 2 = .ok (.iconst 0, 1) := by decide +kernel
theorem dX4_unusedBefore_3 : decode cX4_unusedBefore 3 = .ok (.istore_n 3, 1) := by decide +kernel
theorem dX4_unusedBefore_4 : decode cX4_unusedBefore 4 = .ok (.iload_n 3, 1) := by decide +kernel
theorem dX4_unusedBefore_5 : decode cX4_unusedBefore 5 = .ok (.iload_n 1, 1) := by decide +kernel
theorem dX4_unusedBefore_6 : decode cX4_unusedBefore 6 = .ok (.if_icmp .ge 20, 3) := by decide +kernel
theorem dX4_unusedBefore_9 : decode cX4_unusedBefore 9 = .ok (.iload_n 2, 1) := by decide +kernel
theorem dX4_unusedBefore_10 : decode cX4_unusedBefore 10 = .ok (.aload_n 0, 1) := by decide +kernel
theorem dX4_unusedBefore_11 : decode cX4_unusedBefore 11 = .ok (.getfield 9, 3) := by decide +kernel
theorem dX4_unusedBefore_14 : decode cX4_unusedBefore 14 = .ok (.iload_n 3, 1) := by decide +kernel
theorem dX4_unusedBefore_15 : decode cX4_unusedBefore 15 = .ok (.iaload, 1) := by decide +kernel
theorem dX4_unusedBefore_16 : decode cX4_unusedBefore 16 = .ok (.invokestatic 35, 3) := by decide +kernel
theorem dX4_unusedBefore_19 : decode cX4_unusedBefore 19 = .ok (.istore_n 2, 1) := by decide +kernel
theorem dX4_unusedBefore_20 : decode cX4_unusedBefore 20 = .ok (.iinc 3 1, 3) := by decide +kernel
theorem dX4_unusedBefore_23 : decode cX4_unusedBefore 23 = .ok (.goto (-19), 3) := by decide +kernel
theorem dX4_unusedBefore_26 : decode cX4_unusedBefore 26 = .ok (.iload_n 2, 1) := by decide +kernel
theorem dX4_unusedBefore_27 : decode cX4_unusedBefore 27 = .ok (.iconst 1, 1) := by decide +kernel
theorem dX4_unusedBefore_28 : decode cX4_unusedBefore 28 = .ok (.iadd, 1) := by decide +kernel
theorem dX4_unusedBefore_29 : decode cX4_unusedBefore 29 = .ok (.ireturn, 1) := by decide +kernel
theorem dX4_holds_0 : decode cX4_holds 0 = .ok (.iconst 0, 1) := by decide +kernel
theorem dX4_holds_1 : decode cX4_holds 1 = .ok (.istore_n 2, 1) := by decide +kernel
theorem dX4_holds_2 : decode cX4_holds 2 = .ok (.iload_n 2, 1) := by decide +kernel
theorem dX4_holds_3 : decode cX4_holds 3 = .ok (.aload_n 0, 1) := by decide +kernel
theorem dX4_holds_4 : decode cX4_holds 4 = .ok (.getfield 15, 3) := by decide +kernel
theorem dX4_holds_7 : decode cX4_holds 7 = .ok (.if_icmp .ge 52, 3) := by decide +kernel
theorem dX4_holds_10 : decode cX4_holds 10 = .ok (.iconst 1, 1) := by decide +kernel
theorem dX4_holds_11 : decode cX4_holds 11 = .ok (.istore_n 3, 1) := by decide +kernel
theorem dX4_holds_12 : decode cX4_holds 12 = .ok (.iconst 0, 1) := by decide +kernel
theorem dX4_holds_13 : decode cX4_holds 13 = .ok (.istore 4, 2) := by decide +kernel
theorem dX4_holds_15 : decode cX4_holds 15 = .ok (.iload 4, 2) := by decide +kernel
theorem dX4_holds_17 : decode cX4_holds 17 = .ok (.iload_n 2, 1) := by decide +kernel
theorem dX4_holds_18 : decode cX4_holds 18 = .ok (.if_icmp .ge 28, 3) := by decide +kernel
theorem dX4_holds_21 : decode cX4_holds 21 = .ok (.aload_n 0, 1) := by decide +kernel
theorem dX4_holds_22 : decode cX4_holds 22 = .ok (.getfield 9, 3) := by decide +kernel
theorem dX4_holds_25 : decode cX4_holds 25 = .ok (.iload 4, 2) := by decide +kernel
theorem dX4_holds_27 : decode cX4_holds 27 = .ok (.iaload, 1) := by decide +kernel
theorem dX4_holds_28 : decode cX4_holds 28 = .ok (.aload_n 0, 1) := by decide +kernel
theorem dX4_holds_29 : decode cX4_holds 29 = .ok (.getfield 9, 3) := by decide +kernel
theorem dX4_holds_32 : decode cX4_holds 32 = .ok (.iload_n 2, 1) := by decide +kernel
theorem dX4_holds_33 : decode cX4_holds 33 = .ok (.iaload, 1) := by decide +kernel
theorem dX4_holds_34 : decode cX4_holds 34 = .ok (.if_icmp .ne 6, 3) := by decide +kernel
theorem dX4_holds_37 : decode cX4_holds 37 = .ok (.iinc 3 1, 3) := by decide +kernel
theorem dX4_holds_40 : decode cX4_holds 40 = .ok (.iinc 4 1, 3) := by decide +kernel
theorem dX4_holds_43 : decode cX4_holds 43 = .ok (.goto (-28), 3) := by decide +kernel
theorem dX4_holds_46 : decode cX4_holds 46 = .ok (.iload_n 3, 1) := by decide +kernel
theorem dX4_holds_47 : decode cX4_holds 47 = .ok (.iload_n 1, 1) := by decide +kernel
theorem dX4_holds_48 : decode cX4_holds 48 = .ok (.if_icmp .le 5, 3) := by decide +kernel
theorem dX4_holds_51 : decode cX4_holds 51 = .ok (.iconst 0, 1) := by decide +kernel
theorem dX4_holds_52 : decode cX4_holds 52 = .ok (.ireturn, 1) := by decide +kernel
theorem dX4_holds_53 : decode cX4_holds 53 = .ok (.iinc 2 1, 3) := by decide +kernel
theorem dX4_holds_56 : decode cX4_holds 56 = .ok (.goto (-54), 3) := by decide +kernel
theorem dX4_holds_59 : decode cX4_holds 59 = .ok (.iconst 1, 1) := by decide +kernel
theorem dX4_holds_60 : decode cX4_holds 60 = .ok (.ireturn, 1) := by decide +kernel
theorem dX4_isWithin_0 : decode cX4_isWithin 0 = .ok (.aload_n 0, 1) := by decide +kernel
theorem dX4_isWithin_1 : decode cX4_isWithin 1 = .ok (.getfield 9, 3) := by decide +kernel
theorem dX4_isWithin_4 : decode cX4_isWithin 4 = .ok (.aload_n 1, 1) := by decide +kernel
theorem dX4_isWithin_5 : decode cX4_isWithin 5 = .ok (.getfield 38, 3) := by decide +kernel
theorem dX4_isWithin_8 : decode cX4_isWithin 8 = .ok (.iload_n 2, 1) := by decide +kernel
theorem dX4_isWithin_9 : decode cX4_isWithin 9 = .ok (.iaload, 1) := by decide +kernel
theorem dX4_isWithin_10 : decode cX4_isWithin 10 = .ok (.iaload, 1) := by decide +kernel
theorem dX4_isWithin_11 : decode cX4_isWithin 11 = .ok (.aload_n 0, 1) := by decide +kernel
theorem dX4_isWithin_12 : decode cX4_isWithin 12 = .ok (.getfield 9, 3) := by decide +kernel
theorem dX4_isWithin_15 : decode cX4_isWithin 15 = .ok (.aload_n 1, 1) := by decide +kernel
theorem dX4_isWithin_16 : decode cX4_isWithin 16 = .ok (.getfield 43, 3) := by decide +kernel
theorem dX4_isWithin_19 : decode cX4_isWithin 19 = .ok (.iload_n 2, 1) := by decide +kernel
theorem dX4_isWithin_20 : decode cX4_isWithin 20 = .ok (.iaload, 1) := by decide +kernel
theorem dX4_isWithin_21 : decode cX4_isWithin 21 = .ok (.iaload, 1) := by decide +kernel
theorem dX4_isWithin_22 : decode cX4_isWithin 22 = .ok (.if_icmp .ne 7, 3) := by decide +kernel
theorem dX4_isWithin_25 : decode cX4_isWithin 25 = .ok (.iconst 1, 1) := by decide +kernel
theorem dX4_isWithin_26 : decode cX4_isWithin 26 = .ok (.goto 4, 3) := by decide +kernel
theorem dX4_isWithin_29 : decode cX4_isWithin 29 = .ok (.iconst 0, 1) := by decide +kernel
theorem dX4_isWithin_30 : decode cX4_isWithin 30 = .ok (.ireturn, 1) := by decide +kernel
set_option maxRecDepth 20000 in
theorem ggX4_cost_X4_isWithin : GoodIn wsX4_cost wsX4_isWithin := goodIn_r _ [8, 9, 10, 11, 26, 27, 12, 13, 14, 15, 16, 17, 18, 19, 20, 21, 22, 23, 24, 25] (by decide +kernel) (by decide +kernel)
set_option maxRecDepth 20000 in
theorem gX4_cost_X4_isWithin : GoodIn wsX4_cost (wsV RX4 49 RX4 yX4_isWithin wsX4_isWithin) := goodIn_app (goodIn_of _ (by decide +kernel)) ggX4_cost_X4_isWithin
theorem dX4_cost_0 : decode cX4_cost 0 = .ok (.iconst 0, 1) := by decide +kernel
theorem dX4_cost_1 : decode cX4_cost 1 = .ok (.istore_n 3, 1) := by decide +kernel
theorem dX4_cost_2 : decode cX4_cost 2 = .ok (.iconst 0, 1) := by decide +kernel
theorem dX4_cost_3 : decode cX4_cost 3 = .ok (.istore 4, 2) := by decide +kernel
theorem dX4_cost_5 : decode cX4_cost 5 = .ok (.iload 4, 2) := by decide +kernel
theorem dX4_cost_7 : decode cX4_cost 7 = .ok (.aload_n 1, 1) := by decide +kernel
theorem dX4_cost_8 : decode cX4_cost 8 = .ok (.getfield 46, 3) := by decide +kernel
theorem dX4_cost_11 : decode cX4_cost 11 = .ok (.if_icmp .ge 58, 3) := by decide +kernel
theorem dX4_cost_14 : decode cX4_cost 14 = .ok (.iload_n 2, 1) := by decide +kernel
theorem dX4_cost_15 : decode cX4_cost 15 = .ok (.iload 4, 2) := by decide +kernel
theorem dX4_cost_17 : decode cX4_cost 17 = .ok (.ishr, 1) := by decide +kernel
theorem dX4_cost_18 : decode cX4_cost 18 = .ok (.iconst 1, 1) := by decide +kernel
theorem dX4_cost_19 : decode cX4_cost 19 = .ok (.iand, 1) := by decide +kernel
theorem dX4_cost_20 : decode cX4_cost 20 = .ok (.ifCond .eq 43, 3) := by decide +kernel
theorem dX4_cost_23 : decode cX4_cost 23 = .ok (.aload_n 0, 1) := by decide +kernel
theorem dX4_cost_24 : decode cX4_cost 24 = .ok (.aload_n 1, 1) := by decide +kernel
theorem dX4_cost_25 : decode cX4_cost 25 = .ok (.iload 4, 2) := by decide +kernel
theorem dX4_cost_27 : decode cX4_cost 27 = .ok (.invokevirtual 49, 3) := by decide +kernel
theorem dX4_cost_30 : decode cX4_cost 30 = .ok (.ifCond .eq 6, 3) := by decide +kernel
theorem dX4_cost_33 : decode cX4_cost 33 = .ok (.goto 30, 3) := by decide +kernel
theorem dX4_cost_36 : decode cX4_cost 36 = .ok (.aload_n 1, 1) := by decide +kernel
theorem dX4_cost_37 : decode cX4_cost 37 = .ok (.getfield 53, 3) := by decide +kernel
theorem dX4_cost_40 : decode cX4_cost 40 = .ok (.iload 4, 2) := by decide +kernel
theorem dX4_cost_42 : decode cX4_cost 42 = .ok (.baload, 1) := by decide +kernel
theorem dX4_cost_43 : decode cX4_cost 43 = .ok (.ifCond .eq 6, 3) := by decide +kernel
theorem dX4_cost_46 : decode cX4_cost 46 = .ok (.bipush (-3), 2) := by decide +kernel
theorem dX4_cost_48 : decode cX4_cost 48 = .ok (.ireturn, 1) := by decide +kernel
theorem dX4_cost_49 : decode cX4_cost 49 = .ok (.iload_n 3, 1) := by decide +kernel
theorem dX4_cost_50 : decode cX4_cost 50 = .ok (.sipush 2048, 3) := by decide +kernel
theorem dX4_cost_53 : decode cX4_cost 53 = .ok (.aload_n 1, 1) := by decide +kernel
theorem dX4_cost_54 : decode cX4_cost 54 = .ok (.getfield 57, 3) := by decide +kernel
theorem dX4_cost_57 : decode cX4_cost 57 = .ok (.iload 4, 2) := by decide +kernel
theorem dX4_cost_59 : decode cX4_cost 59 = .ok (.iaload, 1) := by decide +kernel
theorem dX4_cost_60 : decode cX4_cost 60 = .ok (.iadd, 1) := by decide +kernel
theorem dX4_cost_61 : decode cX4_cost 61 = .ok (.iadd, 1) := by decide +kernel
theorem dX4_cost_62 : decode cX4_cost 62 = .ok (.istore_n 3, 1) := by decide +kernel
theorem dX4_cost_63 : decode cX4_cost 63 = .ok (.iinc 4 1, 3) := by decide +kernel
theorem dX4_cost_66 : decode cX4_cost 66 = .ok (.goto (-61), 3) := by decide +kernel
theorem dX4_cost_69 : decode cX4_cost 69 = .ok (.iload_n 3, 1) := by decide +kernel
theorem dX4_cost_70 : decode cX4_cost 70 = .ok (.ireturn, 1) := by decide +kernel
set_option maxRecDepth 20000 in
theorem ggX4_worthWithin_X4_isWithin : GoodIn wsX4_worthWithin wsX4_isWithin := goodIn_r _ [7, 8, 9, 10, 25, 26, 11, 12, 13, 14, 15, 16, 17, 18, 19, 20, 21, 22, 23, 24] (by decide +kernel) (by decide +kernel)
set_option maxRecDepth 20000 in
theorem gX4_worthWithin_X4_isWithin : GoodIn wsX4_worthWithin (wsV RX4 49 RX4 yX4_isWithin wsX4_isWithin) := goodIn_app (goodIn_of _ (by decide +kernel)) ggX4_worthWithin_X4_isWithin
theorem dX4_worthWithin_0 : decode cX4_worthWithin 0 = .ok (.iconst 0, 1) := by decide +kernel
theorem dX4_worthWithin_1 : decode cX4_worthWithin 1 = .ok (.istore_n 2, 1) := by decide +kernel
theorem dX4_worthWithin_2 : decode cX4_worthWithin 2 = .ok (.iconst 0, 1) := by decide +kernel
theorem dX4_worthWithin_3 : decode cX4_worthWithin 3 = .ok (.istore_n 3, 1) := by decide +kernel
theorem dX4_worthWithin_4 : decode cX4_worthWithin 4 = .ok (.iload_n 3, 1) := by decide +kernel
theorem dX4_worthWithin_5 : decode cX4_worthWithin 5 = .ok (.aload_n 1, 1) := by decide +kernel
theorem dX4_worthWithin_6 : decode cX4_worthWithin 6 = .ok (.getfield 46, 3) := by decide +kernel
theorem dX4_worthWithin_9 : decode cX4_worthWithin 9 = .ok (.if_icmp .ge 27, 3) := by decide +kernel
theorem dX4_worthWithin_12 : decode cX4_worthWithin 12 = .ok (.aload_n 0, 1) := by decide +kernel
theorem dX4_worthWithin_13 : decode cX4_worthWithin 13 = .ok (.aload_n 1, 1) := by decide +kernel
theorem dX4_worthWithin_14 : decode cX4_worthWithin 14 = .ok (.iload_n 3, 1) := by decide +kernel
theorem dX4_worthWithin_15 : decode cX4_worthWithin 15 = .ok (.invokevirtual 49, 3) := by decide +kernel
theorem dX4_worthWithin_18 : decode cX4_worthWithin 18 = .ok (.ifCond .eq 12, 3) := by decide +kernel
theorem dX4_worthWithin_21 : decode cX4_worthWithin 21 = .ok (.iload_n 2, 1) := by decide +kernel
theorem dX4_worthWithin_22 : decode cX4_worthWithin 22 = .ok (.aload_n 1, 1) := by decide +kernel
theorem dX4_worthWithin_23 : decode cX4_worthWithin 23 = .ok (.getfield 57, 3) := by decide +kernel
theorem dX4_worthWithin_26 : decode cX4_worthWithin 26 = .ok (.iload_n 3, 1) := by decide +kernel
theorem dX4_worthWithin_27 : decode cX4_worthWithin 27 = .ok (.iaload, 1) := by decide +kernel
theorem dX4_worthWithin_28 : decode cX4_worthWithin 28 = .ok (.iadd, 1) := by decide +kernel
theorem dX4_worthWithin_29 : decode cX4_worthWithin 29 = .ok (.istore_n 2, 1) := by decide +kernel
theorem dX4_worthWithin_30 : decode cX4_worthWithin 30 = .ok (.iinc 3 1, 3) := by decide +kernel
theorem dX4_worthWithin_33 : decode cX4_worthWithin 33 = .ok (.goto (-29), 3) := by decide +kernel
theorem dX4_worthWithin_36 : decode cX4_worthWithin 36 = .ok (.iload_n 2, 1) := by decide +kernel
theorem dX4_worthWithin_37 : decode cX4_worthWithin 37 = .ok (.ireturn, 1) := by decide +kernel
theorem dX5_init_0 : decode cX5_init 0 = .ok (.aload_n 0, 1) := by decide +kernel
theorem dX5_init_1 : decode cX5_init 1 = .ok (.invokespecial 3, 3) := by decide +kernel
theorem dX5_init_4 : decode cX5_init 4 = .ok (.aload_n 0, 1) := by decide +kernel
theorem dX5_init_5 : decode cX5_init 5 = .ok (.bipush 10, 2) := by decide +kernel
theorem dX5_init_7 : decode cX5_init 7 = .ok (.iconst 3, 1) := by decide +kernel
theorem dX5_init_8 : decode cX5_init 8 = .ok (.multianewarray 9 2, 4) := by decide +kernel
theorem dX5_init_12 : decode cX5_init 12 = .ok (.putfield 11, 3) := by decide +kernel
theorem dX5_init_15 : decode cX5_init 15 = .ok (.aload_n 0, 1) := by decide +kernel
theorem dX5_init_16 : decode cX5_init 16 = .ok (.iconst 0, 1) := by decide +kernel
theorem dX5_init_17 : decode cX5_init 17 = .ok (.putfield 16, 3) := by decide +kernel
theorem dX5_init_20 : decode cX5_init 20 = .ok (.return_, 1) := by decide +kernel
theorem dX5_has_0 : decode cX5_has 0 = .ok (.iload_n 1, 1) := by decide +kernel
theorem dX5_has_1 : decode cX5_has 1 = .ok (.ifCond .lt 24, 3) := by decide +kernel
theorem dX5_has_4 : decode cX5_has 4 = .ok (.iload_n 1, 1) := by decide +kernel
theorem dX5_has_5 : decode cX5_has 5 = .ok (.aload_n 0, 1) := by decide +kernel
theorem dX5_has_6 : decode cX5_has 6 = .ok (.getfield 16, 3) := by decide +kernel
theorem dX5_has_9 : decode cX5_has 9 = .ok (.if_icmp .ge 16, 3) := by decide +kernel
theorem dX5_has_12 : decode cX5_has 12 = .ok (.iload_n 2, 1) := by decide +kernel
theorem dX5_has_13 : decode cX5_has 13 = .ok (.ifCond .lt 12, 3) := by decide +kernel
theorem dX5_has_16 : decode cX5_has 16 = .ok (.iload_n 2, 1) := by decide +kernel
theorem dX5_has_17 : decode cX5_has 17 = .ok (.iconst 2, 1) := by decide +kernel
theorem dX5_has_18 : decode cX5_has 18 = .ok (.if_icmp .gt 7, 3) := by decide +kernel
theorem dX5_has_21 : decode cX5_has 21 = .ok (.iconst 1, 1) := by decide +kernel
theorem dX5_has_22 : decode cX5_has 22 = .ok (.goto 4, 3) := by decide +kernel
theorem dX5_has_25 : decode cX5_has 25 = .ok (.iconst 0, 1) := by decide +kernel
theorem dX5_has_26 : decode cX5_has 26 = .ok (.ireturn, 1) := by decide +kernel
set_option maxRecDepth 20000 in
theorem ggX5_tellHow_X1_knowingBehind : GoodIn wsX5_tellHow wsX1_knowingBehind := goodIn_r _ [12, 13, 58, 59] (by decide +kernel) (by decide +kernel)
set_option maxRecDepth 20000 in
theorem gX5_tellHow_X1_knowingBehind : GoodIn wsX5_tellHow (wsV RX5 32 RX1 yX1_knowingBehind wsX1_knowingBehind) := goodIn_app (goodIn_of _ (by decide +kernel)) ggX5_tellHow_X1_knowingBehind
set_option maxRecDepth 20000 in
theorem ggX5_tellHow_X5_leastTeller : GoodIn wsX5_tellHow wsX5_leastTeller := goodIn_r _ [17, 18, 19, 20, 16, 21, 22, 23, 24, 25, 26, 27, 28, 29, 3, 4, 5, 30, 31, 32, 33, 34, 35, 36, 37, 38, 39, 40, 41, 42, 43, 44, 45, 46, 47, 48, 49, 50, 51, 52, 53, 54, 55, 56, 57, 62, 63, 64, 65, 66, 67, 68, 69, 70, 71, 72, 73, 74, 75] (by decide +kernel) (by decide +kernel)
set_option maxRecDepth 20000 in
theorem gX5_tellHow_X5_leastTeller : GoodIn wsX5_tellHow (va_wsS RX5 36 yX5_leastTeller wsX5_leastTeller) := goodIn_app (goodIn_of _ (by decide +kernel)) ggX5_tellHow_X5_leastTeller
theorem dX5_tellHow_0 : decode cX5_tellHow 0 = .ok (.aload_n 0, 1) := by decide +kernel
theorem dX5_tellHow_1 : decode cX5_tellHow 1 = .ok (.aload_n 2, 1) := by decide +kernel
theorem dX5_tellHow_2 : decode cX5_tellHow 2 = .ok (.getfield 20, 3) := by decide +kernel
theorem dX5_tellHow_5 : decode cX5_tellHow 5 = .ok (.iload_n 3, 1) := by decide +kernel
theorem dX5_tellHow_6 : decode cX5_tellHow 6 = .ok (.iaload, 1) := by decide +kernel
theorem dX5_tellHow_7 : decode cX5_tellHow 7 = .ok (.bipush 10, 2) := by decide +kernel
theorem dX5_tellHow_9 : decode cX5_tellHow 9 = .ok (.invokestatic 26, 3) := by decide +kernel
theorem dX5_tellHow_12 : decode cX5_tellHow 12 = .ok (.putfield 16, 3) := by decide +kernel
theorem dX5_tellHow_15 : decode cX5_tellHow 15 = .ok (.iload_n 3, 1) := by decide +kernel
theorem dX5_tellHow_16 : decode cX5_tellHow 16 = .ok (.istore 4, 2) := by decide +kernel
theorem dX5_tellHow_18 : decode cX5_tellHow 18 = .ok (.aload_n 0, 1) := by decide +kernel
theorem dX5_tellHow_19 : decode cX5_tellHow 19 = .ok (.getfield 16, 3) := by decide +kernel
theorem dX5_tellHow_22 : decode cX5_tellHow 22 = .ok (.iconst 1, 1) := by decide +kernel
theorem dX5_tellHow_23 : decode cX5_tellHow 23 = .ok (.isub, 1) := by decide +kernel
theorem dX5_tellHow_24 : decode cX5_tellHow 24 = .ok (.istore 5, 2) := by decide +kernel
theorem dX5_tellHow_26 : decode cX5_tellHow 26 = .ok (.iload 5, 2) := by decide +kernel
theorem dX5_tellHow_28 : decode cX5_tellHow 28 = .ok (.ifCond .lt 62, 3) := by decide +kernel
theorem dX5_tellHow_31 : decode cX5_tellHow 31 = .ok (.aload_n 1, 1) := by decide +kernel
theorem dX5_tellHow_32 : decode cX5_tellHow 32 = .ok (.aload_n 2, 1) := by decide +kernel
theorem dX5_tellHow_33 : decode cX5_tellHow 33 = .ok (.iload 5, 2) := by decide +kernel
theorem dX5_tellHow_35 : decode cX5_tellHow 35 = .ok (.invokevirtual 32, 3) := by decide +kernel
theorem dX5_tellHow_38 : decode cX5_tellHow 38 = .ok (.iload 4, 2) := by decide +kernel
theorem dX5_tellHow_40 : decode cX5_tellHow 40 = .ok (.iload 5, 2) := by decide +kernel
theorem dX5_tellHow_42 : decode cX5_tellHow 42 = .ok (.invokestatic 36, 3) := by decide +kernel
theorem dX5_tellHow_45 : decode cX5_tellHow 45 = .ok (.istore 6, 2) := by decide +kernel
theorem dX5_tellHow_47 : decode cX5_tellHow 47 = .ok (.aload_n 0, 1) := by decide +kernel
theorem dX5_tellHow_48 : decode cX5_tellHow 48 = .ok (.getfield 11, 3) := by decide +kernel
theorem dX5_tellHow_51 : decode cX5_tellHow 51 = .ok (.iload 5, 2) := by decide +kernel
theorem dX5_tellHow_53 : decode cX5_tellHow 53 = .ok (.aaload, 1) := by decide +kernel
theorem dX5_tellHow_54 : decode cX5_tellHow 54 = .ok (.iconst 0, 1) := by decide +kernel
theorem dX5_tellHow_55 : decode cX5_tellHow 55 = .ok (.iload 5, 2) := by decide +kernel
theorem dX5_tellHow_57 : decode cX5_tellHow 57 = .ok (.iastore, 1) := by decide +kernel
theorem dX5_tellHow_58 : decode cX5_tellHow 58 = .ok (.aload_n 0, 1) := by decide +kernel
theorem dX5_tellHow_59 : decode cX5_tellHow 59 = .ok (.getfield 11, 3) := by decide +kernel
theorem dX5_tellHow_62 : decode cX5_tellHow 62 = .ok (.iload 5, 2) := by decide +kernel
theorem dX5_tellHow_64 : decode cX5_tellHow 64 = .ok (.aaload, 1) := by decide +kernel
theorem dX5_tellHow_65 : decode cX5_tellHow 65 = .ok (.iconst 1, 1) := by decide +kernel
theorem dX5_tellHow_66 : decode cX5_tellHow 66 = .ok (.iload 6, 2) := by decide +kernel
theorem dX5_tellHow_68 : decode cX5_tellHow 68 = .ok (.iastore, 1) := by decide +kernel
theorem dX5_tellHow_69 : decode cX5_tellHow 69 = .ok (.aload_n 0, 1) := by decide +kernel
theorem dX5_tellHow_70 : decode cX5_tellHow 70 = .ok (.getfield 11, 3) := by decide +kernel
theorem dX5_tellHow_73 : decode cX5_tellHow 73 = .ok (.iload 5, 2) := by decide +kernel
theorem dX5_tellHow_75 : decode cX5_tellHow 75 = .ok (.aaload, 1) := by decide +kernel
theorem dX5_tellHow_76 : decode cX5_tellHow 76 = .ok (.iconst 2, 1) := by decide +kernel
theorem dX5_tellHow_77 : decode cX5_tellHow 77 = .ok (.iload 4, 2) := by decide +kernel
theorem dX5_tellHow_79 : decode cX5_tellHow 79 = .ok (.iastore, 1) := by decide +kernel
theorem dX5_tellHow_80 : decode cX5_tellHow 80 = .ok (.iload 6, 2) := by decide +kernel
theorem dX5_tellHow_82 : decode cX5_tellHow 82 = .ok (.istore 4, 2) := by decide +kernel
theorem dX5_tellHow_84 : decode cX5_tellHow 84 = .ok (.iinc 5 (-1), 3) := by decide +kernel
theorem dX5_tellHow_87 : decode cX5_tellHow 87 = .ok (.goto (-61), 3) := by decide +kernel
theorem dX5_tellHow_90 : decode cX5_tellHow 90 = .ok (.return_, 1) := by decide +kernel
set_option maxRecDepth 20000 in
theorem ggX5_leastTeller_X5_isTold : GoodIn wsX5_leastTeller wsX5_isTold := goodIn_r _ [5, 6, 7, 8, 9, 10, 11, 12, 13, 14, 15, 16, 17, 18, 19, 20, 21, 22, 23, 24, 25, 26, 27, 28, 29, 30, 31, 32, 33, 34, 35, 36, 37, 38, 39, 40, 41, 42, 43, 44, 45, 46, 47, 48, 49, 50, 51, 52, 53, 54, 55, 56, 57, 58] (by decide +kernel) (by decide +kernel)
set_option maxRecDepth 20000 in
theorem gX5_leastTeller_X5_isTold : GoodIn wsX5_leastTeller (va_wsS RX5 45 yX5_isTold wsX5_isTold) := goodIn_app (goodIn_of _ (by decide +kernel)) ggX5_leastTeller_X5_isTold
theorem dX5_leastTeller_0 : decode cX5_leastTeller 0 = .ok (.iconst 0, 1) := by decide +kernel
theorem dX5_leastTeller_1 : decode cX5_leastTeller 1 = .ok (.istore 4, 2) := by decide +kernel
theorem dX5_leastTeller_3 : decode cX5_leastTeller 3 = .ok (.iload 4, 2) := by decide +kernel
theorem dX5_leastTeller_5 : decode cX5_leastTeller 5 = .ok (.aload_n 0, 1) := by decide +kernel
theorem dX5_leastTeller_6 : decode cX5_leastTeller 6 = .ok (.getfield 40, 3) := by decide +kernel
theorem dX5_leastTeller_9 : decode cX5_leastTeller 9 = .ok (.if_icmp .ge 32, 3) := by decide +kernel
theorem dX5_leastTeller_12 : decode cX5_leastTeller 12 = .ok (.iload_n 1, 1) := by decide +kernel
theorem dX5_leastTeller_13 : decode cX5_leastTeller 13 = .ok (.iload 4, 2) := by decide +kernel
theorem dX5_leastTeller_15 : decode cX5_leastTeller 15 = .ok (.ishr, 1) := by decide +kernel
theorem dX5_leastTeller_16 : decode cX5_leastTeller 16 = .ok (.iconst 1, 1) := by decide +kernel
theorem dX5_leastTeller_17 : decode cX5_leastTeller 17 = .ok (.iand, 1) := by decide +kernel
theorem dX5_leastTeller_18 : decode cX5_leastTeller 18 = .ok (.ifCond .eq 17, 3) := by decide +kernel
theorem dX5_leastTeller_21 : decode cX5_leastTeller 21 = .ok (.aload_n 0, 1) := by decide +kernel
theorem dX5_leastTeller_22 : decode cX5_leastTeller 22 = .ok (.iload 4, 2) := by decide +kernel
theorem dX5_leastTeller_24 : decode cX5_leastTeller 24 = .ok (.iload_n 2, 1) := by decide +kernel
theorem dX5_leastTeller_25 : decode cX5_leastTeller 25 = .ok (.iload_n 3, 1) := by decide +kernel
theorem dX5_leastTeller_26 : decode cX5_leastTeller 26 = .ok (.invokestatic 45, 3) := by decide +kernel
theorem dX5_leastTeller_29 : decode cX5_leastTeller 29 = .ok (.ifCond .eq 6, 3) := by decide +kernel
theorem dX5_leastTeller_32 : decode cX5_leastTeller 32 = .ok (.iload 4, 2) := by decide +kernel
theorem dX5_leastTeller_34 : decode cX5_leastTeller 34 = .ok (.ireturn, 1) := by decide +kernel
theorem dX5_leastTeller_35 : decode cX5_leastTeller 35 = .ok (.iinc 4 1, 3) := by decide +kernel
theorem dX5_leastTeller_38 : decode cX5_leastTeller 38 = .ok (.goto (-35), 3) := by decide +kernel
theorem dX5_leastTeller_41 : decode cX5_leastTeller 41 = .ok (.iload_n 2, 1) := by decide +kernel
theorem dX5_leastTeller_42 : decode cX5_leastTeller 42 = .ok (.ireturn, 1) := by decide +kernel
set_option maxRecDepth 20000 in
theorem ggX5_isTold_X8_tieBetween : GoodIn wsX5_isTold wsX8_tieBetween := goodIn_r _ [5, 6, 7, 8, 9, 10, 11, 12, 13, 14, 15, 40, 41, 42, 43, 44, 45, 46, 47, 48, 49, 50, 51, 52, 53] (by decide +kernel) (by decide +kernel)
set_option maxRecDepth 20000 in
theorem gX5_isTold_X8_tieBetween : GoodIn wsX5_isTold (wsV RX5 49 RX8 yX8_tieBetween wsX8_tieBetween) := goodIn_app (goodIn_of _ (by decide +kernel)) ggX5_isTold_X8_tieBetween
set_option maxRecDepth 20000 in
theorem ggX5_isTold_X8_isOpen : GoodIn wsX5_isTold wsX8_isOpen := goodIn_r _ [19, 20, 21, 22, 23, 4, 24, 25, 26, 27, 28, 29, 30, 31, 32, 7, 12, 33, 34, 35, 36, 37, 38, 39, 40, 41, 42, 43, 44, 45, 46, 47, 48, 49, 50, 51, 52, 53] (by decide +kernel) (by decide +kernel)
set_option maxRecDepth 20000 in
theorem gX5_isTold_X8_isOpen : GoodIn wsX5_isTold (wsV RX5 52 RX8 yX8_isOpen wsX8_isOpen) := goodIn_app (goodIn_of _ (by decide +kernel)) ggX5_isTold_X8_isOpen
theorem dX5_isTold_0 : decode cX5_isTold 0 = .ok (.aload_n 0, 1) := by decide +kernel
theorem dX5_isTold_1 : decode cX5_isTold 1 = .ok (.iload_n 1, 1) := by decide +kernel
theorem dX5_isTold_2 : decode cX5_isTold 2 = .ok (.iload_n 2, 1) := by decide +kernel
theorem dX5_isTold_3 : decode cX5_isTold 3 = .ok (.invokevirtual 49, 3) := by decide +kernel
theorem dX5_isTold_6 : decode cX5_isTold 6 = .ok (.istore 4, 2) := by decide +kernel
theorem dX5_isTold_8 : decode cX5_isTold 8 = .ok (.iload 4, 2) := by decide +kernel
theorem dX5_isTold_10 : decode cX5_isTold 10 = .ok (.ifCond .lt 17, 3) := by decide +kernel
theorem dX5_isTold_13 : decode cX5_isTold 13 = .ok (.aload_n 0, 1) := by decide +kernel
theorem dX5_isTold_14 : decode cX5_isTold 14 = .ok (.iload 4, 2) := by decide +kernel
theorem dX5_isTold_16 : decode cX5_isTold 16 = .ok (.iload_n 3, 1) := by decide +kernel
theorem dX5_isTold_17 : decode cX5_isTold 17 = .ok (.invokevirtual 52, 3) := by decide +kernel
theorem dX5_isTold_20 : decode cX5_isTold 20 = .ok (.ifCond .eq 7, 3) := by decide +kernel
theorem dX5_isTold_23 : decode cX5_isTold 23 = .ok (.iconst 1, 1) := by decide +kernel
theorem dX5_isTold_24 : decode cX5_isTold 24 = .ok (.goto 4, 3) := by decide +kernel
theorem dX5_isTold_27 : decode cX5_isTold 27 = .ok (.iconst 0, 1) := by decide +kernel
theorem dX5_isTold_28 : decode cX5_isTold 28 = .ok (.ireturn, 1) := by decide +kernel
set_option maxRecDepth 20000 in
theorem ggX5_verdict_X5_isTold : GoodIn wsX5_verdict wsX5_isTold := goodIn_r _ [6, 7, 8, 9, 10, 11, 12, 13, 14, 15, 16, 17, 18, 19, 20, 21, 22, 23, 24, 25, 26, 27, 28, 29, 30, 31, 32, 33, 34, 35, 36, 37, 38, 39, 40, 41, 42, 43, 44, 45, 48, 49, 50, 51, 52, 53, 54, 55, 56, 57, 58, 59, 60, 61] (by decide +kernel) (by decide +kernel)
set_option maxRecDepth 20000 in
theorem gX5_verdict_X5_isTold : GoodIn wsX5_verdict (va_wsS RX5 45 yX5_isTold wsX5_isTold) := goodIn_app (goodIn_of _ (by decide +kernel)) ggX5_verdict_X5_isTold
theorem dX5_verdict_0 : decode cX5_verdict 0 = .ok (.iload_n 2, 1) := by decide +kernel
theorem dX5_verdict_1 : decode cX5_verdict 1 = .ok (.istore 4, 2) := by decide +kernel
theorem dX5_verdict_3 : decode cX5_verdict 3 = .ok (.iconst (-1), 1) := by decide +kernel
theorem dX5_verdict_4 : decode cX5_verdict 4 = .ok (.istore 5, 2) := by decide +kernel
theorem dX5_verdict_6 : decode cX5_verdict 6 = .ok (.iconst 0, 1) := by decide +kernel
theorem dX5_verdict_7 : decode cX5_verdict 7 = .ok (.istore 6, 2) := by decide +kernel
theorem dX5_verdict_9 : decode cX5_verdict 9 = .ok (.iload 6, 2) := by decide +kernel
theorem dX5_verdict_11 : decode cX5_verdict 11 = .ok (.aload_n 0, 1) := by decide +kernel
theorem dX5_verdict_12 : decode cX5_verdict 12 = .ok (.getfield 16, 3) := by decide +kernel
theorem dX5_verdict_15 : decode cX5_verdict 15 = .ok (.if_icmp .ge 100, 3) := by decide +kernel
theorem dX5_verdict_18 : decode cX5_verdict 18 = .ok (.aload_n 0, 1) := by decide +kernel
theorem dX5_verdict_19 : decode cX5_verdict 19 = .ok (.getfield 11, 3) := by decide +kernel
theorem dX5_verdict_22 : decode cX5_verdict 22 = .ok (.iload 6, 2) := by decide +kernel
theorem dX5_verdict_24 : decode cX5_verdict 24 = .ok (.aaload, 1) := by decide +kernel
theorem dX5_verdict_25 : decode cX5_verdict 25 = .ok (.iconst 0, 1) := by decide +kernel
theorem dX5_verdict_26 : decode cX5_verdict 26 = .ok (.iaload, 1) := by decide +kernel
theorem dX5_verdict_27 : decode cX5_verdict 27 = .ok (.istore 7, 2) := by decide +kernel
theorem dX5_verdict_29 : decode cX5_verdict 29 = .ok (.iload 7, 2) := by decide +kernel
theorem dX5_verdict_31 : decode cX5_verdict 31 = .ok (.iload 5, 2) := by decide +kernel
theorem dX5_verdict_33 : decode cX5_verdict 33 = .ok (.if_icmp .le 28, 3) := by decide +kernel
theorem dX5_verdict_36 : decode cX5_verdict 36 = .ok (.iload 7, 2) := by decide +kernel
theorem dX5_verdict_38 : decode cX5_verdict 38 = .ok (.bipush 100, 2) := by decide +kernel
theorem dX5_verdict_40 : decode cX5_verdict 40 = .ok (.if_icmp .ge 21, 3) := by decide +kernel
theorem dX5_verdict_43 : decode cX5_verdict 43 = .ok (.aload_n 0, 1) := by decide +kernel
theorem dX5_verdict_44 : decode cX5_verdict 44 = .ok (.getfield 11, 3) := by decide +kernel
theorem dX5_verdict_47 : decode cX5_verdict 47 = .ok (.iload 6, 2) := by decide +kernel
theorem dX5_verdict_49 : decode cX5_verdict 49 = .ok (.aaload, 1) := by decide +kernel
theorem dX5_verdict_50 : decode cX5_verdict 50 = .ok (.iconst 1, 1) := by decide +kernel
theorem dX5_verdict_51 : decode cX5_verdict 51 = .ok (.iaload, 1) := by decide +kernel
theorem dX5_verdict_52 : decode cX5_verdict 52 = .ok (.iload 4, 2) := by decide +kernel
theorem dX5_verdict_54 : decode cX5_verdict 54 = .ok (.if_icmp .ne 7, 3) := by decide +kernel
theorem dX5_verdict_57 : decode cX5_verdict 57 = .ok (.iconst 1, 1) := by decide +kernel
theorem dX5_verdict_58 : decode cX5_verdict 58 = .ok (.goto 4, 3) := by decide +kernel
theorem dX5_verdict_61 : decode cX5_verdict 61 = .ok (.iconst 0, 1) := by decide +kernel
theorem dX5_verdict_62 : decode cX5_verdict 62 = .ok (.istore 8, 2) := by decide +kernel
theorem dX5_verdict_64 : decode cX5_verdict 64 = .ok (.iload 8, 2) := by decide +kernel
theorem dX5_verdict_66 : decode cX5_verdict 66 = .ok (.ifCond .eq 23, 3) := by decide +kernel
theorem dX5_verdict_69 : decode cX5_verdict 69 = .ok (.aload_n 1, 1) := by decide +kernel
theorem dX5_verdict_70 : decode cX5_verdict 70 = .ok (.iload 4, 2) := by decide +kernel
theorem dX5_verdict_72 : decode cX5_verdict 72 = .ok (.aload_n 0, 1) := by decide +kernel
theorem dX5_verdict_73 : decode cX5_verdict 73 = .ok (.getfield 11, 3) := by decide +kernel
theorem dX5_verdict_76 : decode cX5_verdict 76 = .ok (.iload 6, 2) := by decide +kernel
theorem dX5_verdict_78 : decode cX5_verdict 78 = .ok (.aaload, 1) := by decide +kernel
theorem dX5_verdict_79 : decode cX5_verdict 79 = .ok (.iconst 2, 1) := by decide +kernel
theorem dX5_verdict_80 : decode cX5_verdict 80 = .ok (.iaload, 1) := by decide +kernel
theorem dX5_verdict_81 : decode cX5_verdict 81 = .ok (.iload 7, 2) := by decide +kernel
theorem dX5_verdict_83 : decode cX5_verdict 83 = .ok (.invokestatic 45, 3) := by decide +kernel
theorem dX5_verdict_86 : decode cX5_verdict 86 = .ok (.ifCond .ne 8, 3) := by decide +kernel
theorem dX5_verdict_89 : decode cX5_verdict 89 = .ok (.iload 6, 2) := by decide +kernel
theorem dX5_verdict_91 : decode cX5_verdict 91 = .ok (.iconst 1, 1) := by decide +kernel
theorem dX5_verdict_92 : decode cX5_verdict 92 = .ok (.iadd, 1) := by decide +kernel
theorem dX5_verdict_93 : decode cX5_verdict 93 = .ok (.ireturn, 1) := by decide +kernel
theorem dX5_verdict_94 : decode cX5_verdict 94 = .ok (.aload_n 0, 1) := by decide +kernel
theorem dX5_verdict_95 : decode cX5_verdict 95 = .ok (.getfield 11, 3) := by decide +kernel
theorem dX5_verdict_98 : decode cX5_verdict 98 = .ok (.iload 6, 2) := by decide +kernel
theorem dX5_verdict_100 : decode cX5_verdict 100 = .ok (.aaload, 1) := by decide +kernel
theorem dX5_verdict_101 : decode cX5_verdict 101 = .ok (.iconst 2, 1) := by decide +kernel
theorem dX5_verdict_102 : decode cX5_verdict 102 = .ok (.iaload, 1) := by decide +kernel
theorem dX5_verdict_103 : decode cX5_verdict 103 = .ok (.istore 4, 2) := by decide +kernel
theorem dX5_verdict_105 : decode cX5_verdict 105 = .ok (.iload 7, 2) := by decide +kernel
theorem dX5_verdict_107 : decode cX5_verdict 107 = .ok (.istore 5, 2) := by decide +kernel
theorem dX5_verdict_109 : decode cX5_verdict 109 = .ok (.iinc 6 1, 3) := by decide +kernel
theorem dX5_verdict_112 : decode cX5_verdict 112 = .ok (.goto (-103), 3) := by decide +kernel
theorem dX5_verdict_115 : decode cX5_verdict 115 = .ok (.iload 4, 2) := by decide +kernel
theorem dX5_verdict_117 : decode cX5_verdict 117 = .ok (.iload_n 3, 1) := by decide +kernel
theorem dX5_verdict_118 : decode cX5_verdict 118 = .ok (.if_icmp .ne 7, 3) := by decide +kernel
theorem dX5_verdict_121 : decode cX5_verdict 121 = .ok (.iconst 0, 1) := by decide +kernel
theorem dX5_verdict_122 : decode cX5_verdict 122 = .ok (.goto 6, 3) := by decide +kernel
theorem dX5_verdict_125 : decode cX5_verdict 125 = .ok (.sipush 222, 3) := by decide +kernel
theorem dX5_verdict_128 : decode cX5_verdict 128 = .ok (.ireturn, 1) := by decide +kernel
theorem dX6_init_0 : decode cX6_init 0 = .ok (.aload_n 0, 1) := by decide +kernel
theorem dX6_init_1 : decode cX6_init 1 = .ok (.invokespecial 3, 3) := by decide +kernel
theorem dX6_init_4 : decode cX6_init 4 = .ok (.aload_n 0, 1) := by decide +kernel
theorem dX6_init_5 : decode cX6_init 5 = .ok (.bipush 9, 2) := by decide +kernel
theorem dX6_init_7 : decode cX6_init 7 = .ok (.newarray .int, 2) := by decide +kernel
theorem dX6_init_9 : decode cX6_init 9 = .ok (.putfield 9, 3) := by decide +kernel
theorem dX6_init_12 : decode cX6_init 12 = .ok (.aload_n 0, 1) := by decide +kernel
theorem dX6_init_13 : decode cX6_init 13 = .ok (.iconst 0, 1) := by decide +kernel
theorem dX6_init_14 : decode cX6_init 14 = .ok (.putfield 15, 3) := by decide +kernel
theorem dX6_init_17 : decode cX6_init 17 = .ok (.aload_n 0, 1) := by decide +kernel
theorem dX6_init_18 : decode cX6_init 18 = .ok (.iconst 0, 1) := by decide +kernel
theorem dX6_init_19 : decode cX6_init 19 = .ok (.putfield 19, 3) := by decide +kernel
theorem dX6_init_22 : decode cX6_init 22 = .ok (.return_, 1) := by decide +kernel
set_option maxRecDepth 20000 in
theorem ggX6_gather_X8_unsureTies : GoodIn wsX6_gather wsX8_unsureTies := goodIn_r _ [9, 10, 11, 12, 13, 14, 8, 15, 16, 17, 18, 19, 20, 21, 22, 23, 24, 25, 26, 27, 28, 29, 30, 31, 32, 33, 34, 35, 36, 37, 45, 46, 47, 48, 49, 50, 51, 52, 53, 54, 55, 56, 57, 58] (by decide +kernel) (by decide +kernel)
set_option maxRecDepth 20000 in
theorem gX6_gather_X8_unsureTies : GoodIn wsX6_gather (wsV RX6 22 RX8 yX8_unsureTies wsX8_unsureTies) := goodIn_app (goodIn_of _ (by decide +kernel)) ggX6_gather_X8_unsureTies
set_option maxRecDepth 20000 in
theorem ggX6_gather_X8_openTies : GoodIn wsX6_gather wsX8_openTies := goodIn_r _ [41, 10, 12, 13, 14, 8, 15, 16, 17, 18, 19, 20, 21, 22, 23, 24, 25, 26, 27, 28, 29, 30, 31, 32, 33, 34, 35, 36, 37, 45, 46, 47, 48, 49, 50, 51, 52, 53, 54, 55, 56, 57, 58] (by decide +kernel) (by decide +kernel)
set_option maxRecDepth 20000 in
theorem gX6_gather_X8_openTies : GoodIn wsX6_gather (wsV RX6 28 RX8 yX8_openTies wsX8_openTies) := goodIn_app (goodIn_of _ (by decide +kernel)) ggX6_gather_X8_openTies
theorem dX6_gather_0 : decode cX6_gather 0 = .ok (.aload_n 1, 1) := by decide +kernel
theorem dX6_gather_1 : decode cX6_gather 1 = .ok (.invokevirtual 22, 3) := by decide +kernel
theorem dX6_gather_4 : decode cX6_gather 4 = .ok (.istore_n 2, 1) := by decide +kernel
theorem dX6_gather_5 : decode cX6_gather 5 = .ok (.aload_n 0, 1) := by decide +kernel
theorem dX6_gather_6 : decode cX6_gather 6 = .ok (.aload_n 1, 1) := by decide +kernel
theorem dX6_gather_7 : decode cX6_gather 7 = .ok (.iconst 0, 1) := by decide +kernel
theorem dX6_gather_8 : decode cX6_gather 8 = .ok (.invokevirtual 28, 3) := by decide +kernel
theorem dX6_gather_11 : decode cX6_gather 11 = .ok (.iload_n 2, 1) := by decide +kernel
theorem dX6_gather_12 : decode cX6_gather 12 = .ok (.iconst (-1), 1) := by decide +kernel
theorem dX6_gather_13 : decode cX6_gather 13 = .ok (.ixor, 1) := by decide +kernel
theorem dX6_gather_14 : decode cX6_gather 14 = .ok (.iand, 1) := by decide +kernel
theorem dX6_gather_15 : decode cX6_gather 15 = .ok (.putfield 19, 3) := by decide +kernel
theorem dX6_gather_18 : decode cX6_gather 18 = .ok (.aload_n 0, 1) := by decide +kernel
theorem dX6_gather_19 : decode cX6_gather 19 = .ok (.iconst 0, 1) := by decide +kernel
theorem dX6_gather_20 : decode cX6_gather 20 = .ok (.putfield 15, 3) := by decide +kernel
theorem dX6_gather_23 : decode cX6_gather 23 = .ok (.iconst 0, 1) := by decide +kernel
theorem dX6_gather_24 : decode cX6_gather 24 = .ok (.istore_n 3, 1) := by decide +kernel
theorem dX6_gather_25 : decode cX6_gather 25 = .ok (.iload_n 3, 1) := by decide +kernel
theorem dX6_gather_26 : decode cX6_gather 26 = .ok (.aload_n 1, 1) := by decide +kernel
theorem dX6_gather_27 : decode cX6_gather 27 = .ok (.getfield 32, 3) := by decide +kernel
theorem dX6_gather_30 : decode cX6_gather 30 = .ok (.if_icmp .ge 46, 3) := by decide +kernel
theorem dX6_gather_33 : decode cX6_gather 33 = .ok (.iload_n 2, 1) := by decide +kernel
theorem dX6_gather_34 : decode cX6_gather 34 = .ok (.iload_n 3, 1) := by decide +kernel
theorem dX6_gather_35 : decode cX6_gather 35 = .ok (.ishr, 1) := by decide +kernel
theorem dX6_gather_36 : decode cX6_gather 36 = .ok (.iconst 1, 1) := by decide +kernel
theorem dX6_gather_37 : decode cX6_gather 37 = .ok (.iand, 1) := by decide +kernel
theorem dX6_gather_38 : decode cX6_gather 38 = .ok (.ifCond .eq 32, 3) := by decide +kernel
theorem dX6_gather_41 : decode cX6_gather 41 = .ok (.aload_n 0, 1) := by decide +kernel
theorem dX6_gather_42 : decode cX6_gather 42 = .ok (.getfield 15, 3) := by decide +kernel
theorem dX6_gather_45 : decode cX6_gather 45 = .ok (.bipush 9, 2) := by decide +kernel
theorem dX6_gather_47 : decode cX6_gather 47 = .ok (.if_icmp .ge 23, 3) := by decide +kernel
theorem dX6_gather_50 : decode cX6_gather 50 = .ok (.aload_n 0, 1) := by decide +kernel
theorem dX6_gather_51 : decode cX6_gather 51 = .ok (.getfield 9, 3) := by decide +kernel
theorem dX6_gather_54 : decode cX6_gather 54 = .ok (.aload_n 0, 1) := by decide +kernel
theorem dX6_gather_55 : decode cX6_gather 55 = .ok (.getfield 15, 3) := by decide +kernel
theorem dX6_gather_58 : decode cX6_gather 58 = .ok (.iload_n 3, 1) := by decide +kernel
theorem dX6_gather_59 : decode cX6_gather 59 = .ok (.iastore, 1) := by decide +kernel
theorem dX6_gather_60 : decode cX6_gather 60 = .ok (.aload_n 0, 1) := by decide +kernel
theorem dX6_gather_61 : decode cX6_gather 61 = .ok (.dup, 1) := by decide +kernel
theorem dX6_gather_62 : decode cX6_gather 62 = .ok (.getfield 15, 3) := by decide +kernel
theorem dX6_gather_65 : decode cX6_gather 65 = .ok (.iconst 1, 1) := by decide +kernel
theorem dX6_gather_66 : decode cX6_gather 66 = .ok (.iadd, 1) := by decide +kernel
theorem dX6_gather_67 : decode cX6_gather 67 = .ok (.putfield 15, 3) := by decide +kernel
theorem dX6_gather_70 : decode cX6_gather 70 = .ok (.iinc 3 1, 3) := by decide +kernel
theorem dX6_gather_73 : decode cX6_gather 73 = .ok (.goto (-48), 3) := by decide +kernel
theorem dX6_gather_76 : decode cX6_gather 76 = .ok (.return_, 1) := by decide +kernel
set_option maxRecDepth 20000 in
theorem ggX6_allOdds_X8_everybody : GoodIn wsX6_allOdds wsX8_everybody := goodIn_r _ [6, 7, 16, 17, 18, 19, 20, 21, 22, 23, 24, 25, 26, 27, 28, 29] (by decide +kernel) (by decide +kernel)
set_option maxRecDepth 20000 in
theorem gX6_allOdds_X8_everybody : GoodIn wsX6_allOdds (wsV RX6 35 RX8 yX8_everybody wsX8_everybody) := goodIn_app (goodIn_of _ (by decide +kernel)) ggX6_allOdds_X8_everybody
set_option maxRecDepth 20000 in
theorem ggX6_allOdds_X8_weightOf : GoodIn wsX6_allOdds wsX8_weightOf := goodIn_r _ [11, 7, 12, 16, 17, 18, 19, 20, 21, 22, 23, 24, 25, 26, 27, 28, 29] (by decide +kernel) (by decide +kernel)
set_option maxRecDepth 20000 in
theorem gX6_allOdds_X8_weightOf : GoodIn wsX6_allOdds (wsV RX6 38 RX8 yX8_weightOf wsX8_weightOf) := goodIn_app (goodIn_of _ (by decide +kernel)) ggX6_allOdds_X8_weightOf
theorem dX6_allOdds_0 : decode cX6_allOdds 0 = .ok (.aload_n 1, 1) := by decide +kernel
theorem dX6_allOdds_1 : decode cX6_allOdds 1 = .ok (.aload_n 1, 1) := by decide +kernel
theorem dX6_allOdds_2 : decode cX6_allOdds 2 = .ok (.invokevirtual 35, 3) := by decide +kernel
theorem dX6_allOdds_5 : decode cX6_allOdds 5 = .ok (.invokevirtual 38, 3) := by decide +kernel
theorem dX6_allOdds_8 : decode cX6_allOdds 8 = .ok (.i2l, 1) := by decide +kernel
theorem dX6_allOdds_9 : decode cX6_allOdds 9 = .ok (.iconst 2, 1) := by decide +kernel
theorem dX6_allOdds_10 : decode cX6_allOdds 10 = .ok (.aload_n 0, 1) := by decide +kernel
theorem dX6_allOdds_11 : decode cX6_allOdds 11 = .ok (.getfield 15, 3) := by decide +kernel
theorem dX6_allOdds_14 : decode cX6_allOdds 14 = .ok (.imul, 1) := by decide +kernel
theorem dX6_allOdds_15 : decode cX6_allOdds 15 = .ok (.lshl, 1) := by decide +kernel
theorem dX6_allOdds_16 : decode cX6_allOdds 16 = .ok (.lreturn, 1) := by decide +kernel
set_option maxRecDepth 20000 in
theorem ggX6_layWay_X3_lay : GoodIn wsX6_layWay wsX3_lay := goodIn_r _ [9, 10, 11, 12, 13, 14, 15, 16, 17, 35, 21, 22, 23, 24, 25, 26, 27, 28, 29, 30, 31, 32, 33, 34] (by decide +kernel) (by decide +kernel)
set_option maxRecDepth 20000 in
theorem gX6_layWay_X3_lay : GoodIn wsX6_layWay (wsV RX6 44 RX3 yX3_lay wsX3_lay) := goodIn_app (goodIn_of _ (by decide +kernel)) ggX6_layWay_X3_lay
theorem dX6_layWay_0 : decode cX6_layWay 0 = .ok (.aload_n 0, 1) := by decide +kernel
theorem dX6_layWay_1 : decode cX6_layWay 1 = .ok (.getfield 19, 3) := by decide +kernel
theorem dX6_layWay_4 : decode cX6_layWay 4 = .ok (.istore 4, 2) := by decide +kernel
theorem dX6_layWay_6 : decode cX6_layWay 6 = .ok (.iconst 1, 1) := by decide +kernel
theorem dX6_layWay_7 : decode cX6_layWay 7 = .ok (.istore 5, 2) := by decide +kernel
theorem dX6_layWay_9 : decode cX6_layWay 9 = .ok (.iconst 0, 1) := by decide +kernel
theorem dX6_layWay_10 : decode cX6_layWay 10 = .ok (.istore 6, 2) := by decide +kernel
theorem dX6_layWay_12 : decode cX6_layWay 12 = .ok (.iload 6, 2) := by decide +kernel
theorem dX6_layWay_14 : decode cX6_layWay 14 = .ok (.aload_n 0, 1) := by decide +kernel
theorem dX6_layWay_15 : decode cX6_layWay 15 = .ok (.getfield 15, 3) := by decide +kernel
theorem dX6_layWay_18 : decode cX6_layWay 18 = .ok (.if_icmp .ge 65, 3) := by decide +kernel
theorem dX6_layWay_21 : decode cX6_layWay 21 = .ok (.aload_n 0, 1) := by decide +kernel
theorem dX6_layWay_22 : decode cX6_layWay 22 = .ok (.getfield 9, 3) := by decide +kernel
theorem dX6_layWay_25 : decode cX6_layWay 25 = .ok (.iload 6, 2) := by decide +kernel
theorem dX6_layWay_27 : decode cX6_layWay 27 = .ok (.iaload, 1) := by decide +kernel
theorem dX6_layWay_28 : decode cX6_layWay 28 = .ok (.istore 7, 2) := by decide +kernel
theorem dX6_layWay_30 : decode cX6_layWay 30 = .ok (.iload_n 3, 1) := by decide +kernel
theorem dX6_layWay_31 : decode cX6_layWay 31 = .ok (.iload 6, 2) := by decide +kernel
theorem dX6_layWay_33 : decode cX6_layWay 33 = .ok (.ishr, 1) := by decide +kernel
theorem dX6_layWay_34 : decode cX6_layWay 34 = .ok (.iconst 1, 1) := by decide +kernel
theorem dX6_layWay_35 : decode cX6_layWay 35 = .ok (.iand, 1) := by decide +kernel
theorem dX6_layWay_36 : decode cX6_layWay 36 = .ok (.ifCond .eq 27, 3) := by decide +kernel
theorem dX6_layWay_39 : decode cX6_layWay 39 = .ok (.iload 4, 2) := by decide +kernel
theorem dX6_layWay_41 : decode cX6_layWay 41 = .ok (.iconst 1, 1) := by decide +kernel
theorem dX6_layWay_42 : decode cX6_layWay 42 = .ok (.iload 7, 2) := by decide +kernel
theorem dX6_layWay_44 : decode cX6_layWay 44 = .ok (.ishl, 1) := by decide +kernel
theorem dX6_layWay_45 : decode cX6_layWay 45 = .ok (.ior, 1) := by decide +kernel
theorem dX6_layWay_46 : decode cX6_layWay 46 = .ok (.istore 4, 2) := by decide +kernel
theorem dX6_layWay_48 : decode cX6_layWay 48 = .ok (.iload 5, 2) := by decide +kernel
theorem dX6_layWay_50 : decode cX6_layWay 50 = .ok (.aload_n 1, 1) := by decide +kernel
theorem dX6_layWay_51 : decode cX6_layWay 51 = .ok (.getfield 41, 3) := by decide +kernel
theorem dX6_layWay_54 : decode cX6_layWay 54 = .ok (.iload 7, 2) := by decide +kernel
theorem dX6_layWay_56 : decode cX6_layWay 56 = .ok (.iaload, 1) := by decide +kernel
theorem dX6_layWay_57 : decode cX6_layWay 57 = .ok (.imul, 1) := by decide +kernel
theorem dX6_layWay_58 : decode cX6_layWay 58 = .ok (.istore 5, 2) := by decide +kernel
theorem dX6_layWay_60 : decode cX6_layWay 60 = .ok (.goto 17, 3) := by decide +kernel
theorem dX6_layWay_63 : decode cX6_layWay 63 = .ok (.iload 5, 2) := by decide +kernel
theorem dX6_layWay_65 : decode cX6_layWay 65 = .ok (.iconst 4, 1) := by decide +kernel
theorem dX6_layWay_66 : decode cX6_layWay 66 = .ok (.aload_n 1, 1) := by decide +kernel
theorem dX6_layWay_67 : decode cX6_layWay 67 = .ok (.getfield 41, 3) := by decide +kernel
theorem dX6_layWay_70 : decode cX6_layWay 70 = .ok (.iload 7, 2) := by decide +kernel
theorem dX6_layWay_72 : decode cX6_layWay 72 = .ok (.iaload, 1) := by decide +kernel
theorem dX6_layWay_73 : decode cX6_layWay 73 = .ok (.isub, 1) := by decide +kernel
theorem dX6_layWay_74 : decode cX6_layWay 74 = .ok (.imul, 1) := by decide +kernel
theorem dX6_layWay_75 : decode cX6_layWay 75 = .ok (.istore 5, 2) := by decide +kernel
theorem dX6_layWay_77 : decode cX6_layWay 77 = .ok (.iinc 6 1, 3) := by decide +kernel
theorem dX6_layWay_80 : decode cX6_layWay 80 = .ok (.goto (-68), 3) := by decide +kernel
theorem dX6_layWay_83 : decode cX6_layWay 83 = .ok (.aload_n 2, 1) := by decide +kernel
theorem dX6_layWay_84 : decode cX6_layWay 84 = .ok (.aload_n 1, 1) := by decide +kernel
theorem dX6_layWay_85 : decode cX6_layWay 85 = .ok (.iload 4, 2) := by decide +kernel
theorem dX6_layWay_87 : decode cX6_layWay 87 = .ok (.invokevirtual 44, 3) := by decide +kernel
theorem dX6_layWay_90 : decode cX6_layWay 90 = .ok (.iload 5, 2) := by decide +kernel
theorem dX6_layWay_92 : decode cX6_layWay 92 = .ok (.ireturn, 1) := by decide +kernel
set_option maxRecDepth 20000 in
theorem ggX6_oddsToKnow_X6_layWay : GoodIn wsX6_oddsToKnow wsX6_layWay := goodIn_r _ [6, 7, 1, 8, 9, 10, 11, 12, 13, 14, 15, 16, 17, 18, 19, 20, 21, 22, 45, 46, 47, 48, 49, 50, 51, 52, 53, 54, 55, 56, 57, 58, 59, 60, 61, 62] (by decide +kernel) (by decide +kernel)
set_option maxRecDepth 20000 in
theorem gX6_oddsToKnow_X6_layWay : GoodIn wsX6_oddsToKnow (wsV RX6 50 RX6 yX6_layWay wsX6_layWay) := goodIn_app (goodIn_of _ (by decide +kernel)) ggX6_oddsToKnow_X6_layWay
set_option maxRecDepth 20000 in
theorem ggX6_oddsToKnow_X8_everybody : GoodIn wsX6_oddsToKnow wsX8_everybody := goodIn_r _ [27, 28, 48, 49, 50, 51, 52, 53, 54, 55, 56, 57, 58, 59, 60, 61] (by decide +kernel) (by decide +kernel)
set_option maxRecDepth 20000 in
theorem gX6_oddsToKnow_X8_everybody : GoodIn wsX6_oddsToKnow (wsV RX6 35 RX8 yX8_everybody wsX8_everybody) := goodIn_app (goodIn_of _ (by decide +kernel)) ggX6_oddsToKnow_X8_everybody
set_option maxRecDepth 20000 in
theorem ggX6_oddsToKnow_X3_flood : GoodIn wsX6_oddsToKnow wsX3_flood := goodIn_r _ [32, 15, 33, 34, 35, 36, 37, 38, 39, 62] (by decide +kernel) (by decide +kernel)
set_option maxRecDepth 20000 in
theorem gX6_oddsToKnow_X3_flood : GoodIn wsX6_oddsToKnow (wsV RX6 54 RX3 yX3_flood wsX3_flood) := goodIn_app (goodIn_of _ (by decide +kernel)) ggX6_oddsToKnow_X3_flood
set_option maxRecDepth 20000 in
theorem ggX6_oddsToKnow_X8_weightOf : GoodIn wsX6_oddsToKnow wsX8_weightOf := goodIn_r _ [43, 28, 44, 48, 49, 50, 51, 52, 53, 54, 55, 56, 57, 58, 59, 60, 61] (by decide +kernel) (by decide +kernel)
set_option maxRecDepth 20000 in
theorem gX6_oddsToKnow_X8_weightOf : GoodIn wsX6_oddsToKnow (wsV RX6 38 RX8 yX8_weightOf wsX8_weightOf) := goodIn_app (goodIn_of _ (by decide +kernel)) ggX6_oddsToKnow_X8_weightOf
theorem dX6_oddsToKnow_0 : decode cX6_oddsToKnow 0 = .ok (.lconst 0, 1) := by decide +kernel
theorem dX6_oddsToKnow_1 : decode cX6_oddsToKnow 1 = .ok (.lstore 4, 2) := by decide +kernel
theorem dX6_oddsToKnow_3 : decode cX6_oddsToKnow 3 = .ok (.iconst 0, 1) := by decide +kernel
theorem dX6_oddsToKnow_4 : decode cX6_oddsToKnow 4 = .ok (.istore 6, 2) := by decide +kernel
theorem dX6_oddsToKnow_6 : decode cX6_oddsToKnow 6 = .ok (.iload 6, 2) := by decide +kernel
theorem dX6_oddsToKnow_8 : decode cX6_oddsToKnow 8 = .ok (.iconst 1, 1) := by decide +kernel
theorem dX6_oddsToKnow_9 : decode cX6_oddsToKnow 9 = .ok (.aload_n 0, 1) := by decide +kernel
theorem dX6_oddsToKnow_10 : decode cX6_oddsToKnow 10 = .ok (.getfield 15, 3) := by decide +kernel
theorem dX6_oddsToKnow_13 : decode cX6_oddsToKnow 13 = .ok (.ishl, 1) := by decide +kernel
theorem dX6_oddsToKnow_14 : decode cX6_oddsToKnow 14 = .ok (.if_icmp .ge 44, 3) := by decide +kernel
theorem dX6_oddsToKnow_17 : decode cX6_oddsToKnow 17 = .ok (.aload_n 0, 1) := by decide +kernel
theorem dX6_oddsToKnow_18 : decode cX6_oddsToKnow 18 = .ok (.aload_n 1, 1) := by decide +kernel
theorem dX6_oddsToKnow_19 : decode cX6_oddsToKnow 19 = .ok (.aload_n 2, 1) := by decide +kernel
theorem dX6_oddsToKnow_20 : decode cX6_oddsToKnow 20 = .ok (.iload 6, 2) := by decide +kernel
theorem dX6_oddsToKnow_22 : decode cX6_oddsToKnow 22 = .ok (.invokevirtual 50, 3) := by decide +kernel
theorem dX6_oddsToKnow_25 : decode cX6_oddsToKnow 25 = .ok (.i2l, 1) := by decide +kernel
theorem dX6_oddsToKnow_26 : decode cX6_oddsToKnow 26 = .ok (.lstore 7, 2) := by decide +kernel
theorem dX6_oddsToKnow_28 : decode cX6_oddsToKnow 28 = .ok (.lload 4, 2) := by decide +kernel
theorem dX6_oddsToKnow_30 : decode cX6_oddsToKnow 30 = .ok (.lload 7, 2) := by decide +kernel
theorem dX6_oddsToKnow_32 : decode cX6_oddsToKnow 32 = .ok (.aload_n 1, 1) := by decide +kernel
theorem dX6_oddsToKnow_33 : decode cX6_oddsToKnow 33 = .ok (.aload_n 2, 1) := by decide +kernel
theorem dX6_oddsToKnow_34 : decode cX6_oddsToKnow 34 = .ok (.iconst 1, 1) := by decide +kernel
theorem dX6_oddsToKnow_35 : decode cX6_oddsToKnow 35 = .ok (.iload_n 3, 1) := by decide +kernel
theorem dX6_oddsToKnow_36 : decode cX6_oddsToKnow 36 = .ok (.ishl, 1) := by decide +kernel
theorem dX6_oddsToKnow_37 : decode cX6_oddsToKnow 37 = .ok (.aload_n 1, 1) := by decide +kernel
theorem dX6_oddsToKnow_38 : decode cX6_oddsToKnow 38 = .ok (.invokevirtual 35, 3) := by decide +kernel
theorem dX6_oddsToKnow_41 : decode cX6_oddsToKnow 41 = .ok (.invokevirtual 54, 3) := by decide +kernel
theorem dX6_oddsToKnow_44 : decode cX6_oddsToKnow 44 = .ok (.invokevirtual 38, 3) := by decide +kernel
theorem dX6_oddsToKnow_47 : decode cX6_oddsToKnow 47 = .ok (.i2l, 1) := by decide +kernel
theorem dX6_oddsToKnow_48 : decode cX6_oddsToKnow 48 = .ok (.lmul, 1) := by decide +kernel
theorem dX6_oddsToKnow_49 : decode cX6_oddsToKnow 49 = .ok (.ladd, 1) := by decide +kernel
theorem dX6_oddsToKnow_50 : decode cX6_oddsToKnow 50 = .ok (.lstore 4, 2) := by decide +kernel
theorem dX6_oddsToKnow_52 : decode cX6_oddsToKnow 52 = .ok (.iinc 6 1, 3) := by decide +kernel
theorem dX6_oddsToKnow_55 : decode cX6_oddsToKnow 55 = .ok (.goto (-49), 3) := by decide +kernel
theorem dX6_oddsToKnow_58 : decode cX6_oddsToKnow 58 = .ok (.lload 4, 2) := by decide +kernel
theorem dX6_oddsToKnow_60 : decode cX6_oddsToKnow 60 = .ok (.lreturn, 1) := by decide +kernel
set_option maxRecDepth 20000 in
theorem ggX6_meanKnowing_X6_layWay : GoodIn wsX6_meanKnowing wsX6_layWay := goodIn_r _ [6, 7, 1, 8, 9, 10, 11, 12, 13, 14, 15, 16, 17, 18, 19, 20, 21, 22, 46, 47, 48, 49, 50, 51, 52, 53, 54, 55, 56, 57, 58, 59, 60, 61, 62, 63] (by decide +kernel) (by decide +kernel)
set_option maxRecDepth 20000 in
theorem gX6_meanKnowing_X6_layWay : GoodIn wsX6_meanKnowing (wsV RX6 50 RX6 yX6_layWay wsX6_layWay) := goodIn_app (goodIn_of _ (by decide +kernel)) ggX6_meanKnowing_X6_layWay
set_option maxRecDepth 20000 in
theorem ggX6_meanKnowing_X8_everybody : GoodIn wsX6_meanKnowing wsX8_everybody := goodIn_r _ [27, 28, 49, 50, 51, 52, 53, 54, 55, 56, 57, 58, 59, 60, 61, 62] (by decide +kernel) (by decide +kernel)
set_option maxRecDepth 20000 in
theorem gX6_meanKnowing_X8_everybody : GoodIn wsX6_meanKnowing (wsV RX6 35 RX8 yX8_everybody wsX8_everybody) := goodIn_app (goodIn_of _ (by decide +kernel)) ggX6_meanKnowing_X8_everybody
set_option maxRecDepth 20000 in
theorem ggX6_meanKnowing_X3_flood : GoodIn wsX6_meanKnowing wsX3_flood := goodIn_r _ [32, 15, 33, 34, 35, 36, 37, 38, 39, 63] (by decide +kernel) (by decide +kernel)
set_option maxRecDepth 20000 in
theorem gX6_meanKnowing_X3_flood : GoodIn wsX6_meanKnowing (wsV RX6 54 RX3 yX3_flood wsX3_flood) := goodIn_app (goodIn_of _ (by decide +kernel)) ggX6_meanKnowing_X3_flood
set_option maxRecDepth 20000 in
theorem ggX6_meanKnowing_X8_weightOf : GoodIn wsX6_meanKnowing wsX8_weightOf := goodIn_r _ [43, 28, 44, 49, 50, 51, 52, 53, 54, 55, 56, 57, 58, 59, 60, 61, 62] (by decide +kernel) (by decide +kernel)
set_option maxRecDepth 20000 in
theorem gX6_meanKnowing_X8_weightOf : GoodIn wsX6_meanKnowing (wsV RX6 38 RX8 yX8_weightOf wsX8_weightOf) := goodIn_app (goodIn_of _ (by decide +kernel)) ggX6_meanKnowing_X8_weightOf
set_option maxRecDepth 20000 in
theorem ggX6_meanKnowing_J6_bitCount_0f7a4 : GoodIn wsX6_meanKnowing wsJ6_bitCount_0f7a4 := goodIn_r _ [36, 37, 38, 39] (by decide +kernel) (by decide +kernel)
set_option maxRecDepth 20000 in
theorem gX6_meanKnowing_J6_bitCount_0f7a4 : GoodIn wsX6_meanKnowing (va_wsS RX6 58 yJ6_bitCount_0f7a4 wsJ6_bitCount_0f7a4) := goodIn_app (goodIn_of _ (by decide +kernel)) ggX6_meanKnowing_J6_bitCount_0f7a4
theorem dX6_meanKnowing_0 : decode cX6_meanKnowing 0 = .ok (.lconst 0, 1) := by decide +kernel
theorem dX6_meanKnowing_1 : decode cX6_meanKnowing 1 = .ok (.lstore_n 3, 1) := by decide +kernel
