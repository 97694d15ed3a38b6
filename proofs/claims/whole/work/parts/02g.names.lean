set_option maxRecDepth 20000 in
theorem gX10_works_X10_begin : GoodIn wsX10_works (wsV RX10 234 RX10 yX10_begin wsX10_begin) := goodIn_app (goodIn_of _ (by decide +kernel)) ggX10_works_X10_begin
theorem dX10_works_0 : decode cX10_works 0 = .ok (.aload_n 0, 1) := by decide +kernel
theorem dX10_works_1 : decode cX10_works 1 = .ok (.iconst 0, 1) := by decide +kernel
theorem dX10_works_2 : decode cX10_works 2 = .ok (.putfield 124, 3) := by decide +kernel
theorem dX10_works_5 : decode cX10_works 5 = .ok (.aload_n 0, 1) := by decide +kernel
theorem dX10_works_6 : decode cX10_works 6 = .ok (.invokevirtual 163, 3) := by decide +kernel
theorem dX10_works_9 : decode cX10_works 9 = .ok (.aload_n 0, 1) := by decide +kernel
theorem dX10_works_10 : decode cX10_works 10 = .ok (.invokevirtual 231, 3) := by decide +kernel
theorem dX10_works_13 : decode cX10_works 13 = .ok (.aload_n 0, 1) := by decide +kernel
theorem dX10_works_14 : decode cX10_works 14 = .ok (.iconst 0, 1) := by decide +kernel
theorem dX10_works_15 : decode cX10_works 15 = .ok (.putfield 119, 3) := by decide +kernel
theorem dX10_works_18 : decode cX10_works 18 = .ok (.aload_n 0, 1) := by decide +kernel
theorem dX10_works_19 : decode cX10_works 19 = .ok (.getfield 155, 3) := by decide +kernel
theorem dX10_works_22 : decode cX10_works 22 = .ok (.ifCond .ne 11, 3) := by decide +kernel
theorem dX10_works_25 : decode cX10_works 25 = .ok (.bipush (-100), 2) := by decide +kernel
theorem dX10_works_27 : decode cX10_works 27 = .ok (.aload_n 0, 1) := by decide +kernel
theorem dX10_works_28 : decode cX10_works 28 = .ok (.getfield 127, 3) := by decide +kernel
theorem dX10_works_31 : decode cX10_works 31 = .ok (.isub, 1) := by decide +kernel
theorem dX10_works_32 : decode cX10_works 32 = .ok (.ireturn, 1) := by decide +kernel
theorem dX10_works_33 : decode cX10_works 33 = .ok (.aload_n 0, 1) := by decide +kernel
theorem dX10_works_34 : decode cX10_works 34 = .ok (.aload_n 0, 1) := by decide +kernel
theorem dX10_works_35 : decode cX10_works 35 = .ok (.getfield 175, 3) := by decide +kernel
theorem dX10_works_38 : decode cX10_works 38 = .ok (.invokevirtual 234, 3) := by decide +kernel
theorem dX10_works_41 : decode cX10_works 41 = .ok (.aload_n 0, 1) := by decide +kernel
theorem dX10_works_42 : decode cX10_works 42 = .ok (.aload_n 0, 1) := by decide +kernel
theorem dX10_works_43 : decode cX10_works 43 = .ok (.getfield 166, 3) := by decide +kernel
theorem dX10_works_46 : decode cX10_works 46 = .ok (.putfield 101, 3) := by decide +kernel
theorem dX10_works_49 : decode cX10_works 49 = .ok (.aload_n 0, 1) := by decide +kernel
theorem dX10_works_50 : decode cX10_works 50 = .ok (.aload_n 0, 1) := by decide +kernel
theorem dX10_works_51 : decode cX10_works 51 = .ok (.getfield 198, 3) := by decide +kernel
theorem dX10_works_54 : decode cX10_works 54 = .ok (.putfield 225, 3) := by decide +kernel
theorem dX10_works_57 : decode cX10_works 57 = .ok (.iconst 0, 1) := by decide +kernel
theorem dX10_works_58 : decode cX10_works 58 = .ok (.istore_n 1, 1) := by decide +kernel
theorem dX10_works_59 : decode cX10_works 59 = .ok (.iload_n 1, 1) := by decide +kernel
theorem dX10_works_60 : decode cX10_works 60 = .ok (.bipush 10, 2) := by decide +kernel
theorem dX10_works_62 : decode cX10_works 62 = .ok (.if_icmp .ge 21, 3) := by decide +kernel
theorem dX10_works_65 : decode cX10_works 65 = .ok (.aload_n 0, 1) := by decide +kernel
theorem dX10_works_66 : decode cX10_works 66 = .ok (.getfield 13, 3) := by decide +kernel
theorem dX10_works_69 : decode cX10_works 69 = .ok (.iload_n 1, 1) := by decide +kernel
theorem dX10_works_70 : decode cX10_works 70 = .ok (.aload_n 0, 1) := by decide +kernel
theorem dX10_works_71 : decode cX10_works 71 = .ok (.getfield 32, 3) := by decide +kernel
theorem dX10_works_74 : decode cX10_works 74 = .ok (.iload_n 1, 1) := by decide +kernel
theorem dX10_works_75 : decode cX10_works 75 = .ok (.iaload, 1) := by decide +kernel
theorem dX10_works_76 : decode cX10_works 76 = .ok (.iastore, 1) := by decide +kernel
theorem dX10_works_77 : decode cX10_works 77 = .ok (.iinc 1 1, 3) := by decide +kernel
theorem dX10_works_80 : decode cX10_works 80 = .ok (.goto (-21), 3) := by decide +kernel
theorem dX10_works_83 : decode cX10_works 83 = .ok (.iconst 0, 1) := by decide +kernel
theorem dX10_works_84 : decode cX10_works 84 = .ok (.istore_n 1, 1) := by decide +kernel
theorem dX10_works_85 : decode cX10_works 85 = .ok (.iload_n 1, 1) := by decide +kernel
theorem dX10_works_86 : decode cX10_works 86 = .ok (.iconst 5, 1) := by decide +kernel
theorem dX10_works_87 : decode cX10_works 87 = .ok (.aload_n 0, 1) := by decide +kernel
theorem dX10_works_88 : decode cX10_works 88 = .ok (.getfield 101, 3) := by decide +kernel
theorem dX10_works_91 : decode cX10_works 91 = .ok (.imul, 1) := by decide +kernel
theorem dX10_works_92 : decode cX10_works 92 = .ok (.if_icmp .ge 21, 3) := by decide +kernel
theorem dX10_works_95 : decode cX10_works 95 = .ok (.aload_n 0, 1) := by decide +kernel
theorem dX10_works_96 : decode cX10_works 96 = .ok (.getfield 17, 3) := by decide +kernel
theorem dX10_works_99 : decode cX10_works 99 = .ok (.iload_n 1, 1) := by decide +kernel
theorem dX10_works_100 : decode cX10_works 100 = .ok (.aload_n 0, 1) := by decide +kernel
theorem dX10_works_101 : decode cX10_works 101 = .ok (.getfield 35, 3) := by decide +kernel
theorem dX10_works_104 : decode cX10_works 104 = .ok (.iload_n 1, 1) := by decide +kernel
theorem dX10_works_105 : decode cX10_works 105 = .ok (.iaload, 1) := by decide +kernel
theorem dX10_works_106 : decode cX10_works 106 = .ok (.iastore, 1) := by decide +kernel
theorem dX10_works_107 : decode cX10_works 107 = .ok (.iinc 1 1, 3) := by decide +kernel
theorem dX10_works_110 : decode cX10_works 110 = .ok (.goto (-25), 3) := by decide +kernel
theorem dX10_works_113 : decode cX10_works 113 = .ok (.iconst 0, 1) := by decide +kernel
theorem dX10_works_114 : decode cX10_works 114 = .ok (.istore_n 1, 1) := by decide +kernel
theorem dX10_works_115 : decode cX10_works 115 = .ok (.iload_n 1, 1) := by decide +kernel
theorem dX10_works_116 : decode cX10_works 116 = .ok (.iconst 3, 1) := by decide +kernel
theorem dX10_works_117 : decode cX10_works 117 = .ok (.aload_n 0, 1) := by decide +kernel
theorem dX10_works_118 : decode cX10_works 118 = .ok (.getfield 225, 3) := by decide +kernel
theorem dX10_works_121 : decode cX10_works 121 = .ok (.imul, 1) := by decide +kernel
theorem dX10_works_122 : decode cX10_works 122 = .ok (.if_icmp .ge 21, 3) := by decide +kernel
theorem dX10_works_125 : decode cX10_works 125 = .ok (.aload_n 0, 1) := by decide +kernel
theorem dX10_works_126 : decode cX10_works 126 = .ok (.getfield 20, 3) := by decide +kernel
theorem dX10_works_129 : decode cX10_works 129 = .ok (.iload_n 1, 1) := by decide +kernel
theorem dX10_works_130 : decode cX10_works 130 = .ok (.aload_n 0, 1) := by decide +kernel
theorem dX10_works_131 : decode cX10_works 131 = .ok (.getfield 38, 3) := by decide +kernel
theorem dX10_works_134 : decode cX10_works 134 = .ok (.iload_n 1, 1) := by decide +kernel
theorem dX10_works_135 : decode cX10_works 135 = .ok (.iaload, 1) := by decide +kernel
theorem dX10_works_136 : decode cX10_works 136 = .ok (.iastore, 1) := by decide +kernel
theorem dX10_works_137 : decode cX10_works 137 = .ok (.iinc 1 1, 3) := by decide +kernel
theorem dX10_works_140 : decode cX10_works 140 = .ok (.goto (-25), 3) := by decide +kernel
theorem dX10_works_143 : decode cX10_works 143 = .ok (.aload_n 0, 1) := by decide +kernel
theorem dX10_works_144 : decode cX10_works 144 = .ok (.getfield 101, 3) := by decide +kernel
theorem dX10_works_147 : decode cX10_works 147 = .ok (.ireturn, 1) := by decide +kernel
set_option maxRecDepth 20000 in
theorem ggX10_people_X10_in : GoodIn wsX10_people wsX10_in := goodIn_r _ [4] (by decide +kernel) (by decide +kernel)
set_option maxRecDepth 20000 in
theorem gX10_people_X10_in : GoodIn wsX10_people (va_wsS RX10 97 yX10_in wsX10_in) := goodIn_app (goodIn_of _ (by decide +kernel)) ggX10_people_X10_in
set_option maxRecDepth 20000 in
theorem ggX10_people_X10_begin : GoodIn wsX10_people wsX10_begin := goodIn_r _ [8, 9, 10, 11, 12, 13, 14, 15, 16, 17, 18, 19, 20, 21, 22, 23, 24, 25, 26, 27, 28, 29, 30, 31, 32, 33, 34, 35, 36, 37, 38, 39, 40, 41, 42, 43, 44, 45, 46, 47, 48, 49, 50, 51, 52, 53, 54, 55, 56, 57, 58, 59, 60, 61, 62, 63, 64, 65, 66, 67, 68] (by decide +kernel) (by decide +kernel)
set_option maxRecDepth 20000 in
theorem gX10_people_X10_begin : GoodIn wsX10_people (wsV RX10 234 RX10 yX10_begin wsX10_begin) := goodIn_app (goodIn_of _ (by decide +kernel)) ggX10_people_X10_begin
theorem dX10_people_0 : decode cX10_people 0 = .ok (.iload_n 1, 1) := by decide +kernel
theorem dX10_people_1 : decode cX10_people 1 = .ok (.iconst 1, 1) := by decide +kernel
theorem dX10_people_2 : decode cX10_people 2 = .ok (.bipush 10, 2) := by decide +kernel
theorem dX10_people_4 : decode cX10_people 4 = .ok (.invokestatic 97, 3) := by decide +kernel
theorem dX10_people_7 : decode cX10_people 7 = .ok (.ifCond .ne 5, 3) := by decide +kernel
theorem dX10_people_10 : decode cX10_people 10 = .ok (.iconst (-1), 1) := by decide +kernel
theorem dX10_people_11 : decode cX10_people 11 = .ok (.ireturn, 1) := by decide +kernel
theorem dX10_people_12 : decode cX10_people 12 = .ok (.aload_n 0, 1) := by decide +kernel
theorem dX10_people_13 : decode cX10_people 13 = .ok (.iload_n 1, 1) := by decide +kernel
theorem dX10_people_14 : decode cX10_people 14 = .ok (.invokevirtual 234, 3) := by decide +kernel
theorem dX10_people_17 : decode cX10_people 17 = .ok (.iload_n 1, 1) := by decide +kernel
theorem dX10_people_18 : decode cX10_people 18 = .ok (.ireturn, 1) := by decide +kernel
set_option maxRecDepth 20000 in
theorem ggX10_tie_X10_areTwo : GoodIn wsX10_tie wsX10_areTwo := goodIn_r _ [7, 8, 9, 10, 6, 11, 12, 13, 14, 15, 24, 25, 26, 27, 28, 29, 30, 31, 32, 33, 34, 35, 36, 37, 38, 39, 40, 41, 42, 43, 44, 45, 46, 47, 48, 49, 50, 51, 52, 53, 54, 55, 56, 57, 58, 59, 60, 61, 62, 63, 64, 65, 66, 67, 68, 69, 70, 71, 72, 73, 74, 75, 76, 77] (by decide +kernel) (by decide +kernel)
set_option maxRecDepth 20000 in
theorem gX10_tie_X10_areTwo : GoodIn wsX10_tie (wsV RX10 238 RX10 yX10_areTwo wsX10_areTwo) := goodIn_app (goodIn_of _ (by decide +kernel)) ggX10_tie_X10_areTwo
set_option maxRecDepth 20000 in
theorem ggX10_tie_X10_in : GoodIn wsX10_tie wsX10_in := goodIn_r _ [15] (by decide +kernel) (by decide +kernel)
set_option maxRecDepth 20000 in
theorem gX10_tie_X10_in : GoodIn wsX10_tie (va_wsS RX10 97 yX10_in wsX10_in) := goodIn_app (goodIn_of _ (by decide +kernel)) ggX10_tie_X10_in
set_option maxRecDepth 20000 in
theorem ggX10_tie_X10_ends : GoodIn wsX10_tie wsX10_ends := goodIn_r _ [19, 20, 21, 22, 6, 23, 2, 24, 25, 26, 27, 28, 29, 30, 31, 32, 33, 34, 35, 36, 37, 38, 39, 40, 41, 42, 43, 44, 45, 46, 47, 48, 49, 50, 51, 52, 53, 54, 55, 56, 57, 58, 59, 60, 61, 62, 63, 64, 65, 66, 67, 68, 69, 70, 71, 72, 73, 74, 75, 76, 77] (by decide +kernel) (by decide +kernel)
set_option maxRecDepth 20000 in
theorem gX10_tie_X10_ends : GoodIn wsX10_tie (wsV RX10 112 RX10 yX10_ends wsX10_ends) := goodIn_app (goodIn_of _ (by decide +kernel)) ggX10_tie_X10_ends
theorem dX10_tie_0 : decode cX10_tie 0 = .ok (.aload_n 0, 1) := by decide +kernel
theorem dX10_tie_1 : decode cX10_tie 1 = .ok (.iload_n 1, 1) := by decide +kernel
theorem dX10_tie_2 : decode cX10_tie 2 = .ok (.iload_n 2, 1) := by decide +kernel
theorem dX10_tie_3 : decode cX10_tie 3 = .ok (.invokevirtual 238, 3) := by decide +kernel
theorem dX10_tie_6 : decode cX10_tie 6 = .ok (.ifCond .eq 23, 3) := by decide +kernel
theorem dX10_tie_9 : decode cX10_tie 9 = .ok (.iload_n 3, 1) := by decide +kernel
theorem dX10_tie_10 : decode cX10_tie 10 = .ok (.iconst 0, 1) := by decide +kernel
theorem dX10_tie_11 : decode cX10_tie 11 = .ok (.bipush 99, 2) := by decide +kernel
theorem dX10_tie_13 : decode cX10_tie 13 = .ok (.invokestatic 97, 3) := by decide +kernel
theorem dX10_tie_16 : decode cX10_tie 16 = .ok (.ifCond .eq 13, 3) := by decide +kernel
theorem dX10_tie_19 : decode cX10_tie 19 = .ok (.iload 4, 2) := by decide +kernel
theorem dX10_tie_21 : decode cX10_tie 21 = .ok (.iconst 1, 1) := by decide +kernel
theorem dX10_tie_22 : decode cX10_tie 22 = .ok (.iconst 4, 1) := by decide +kernel
theorem dX10_tie_23 : decode cX10_tie 23 = .ok (.invokestatic 97, 3) := by decide +kernel
theorem dX10_tie_26 : decode cX10_tie 26 = .ok (.ifCond .ne 5, 3) := by decide +kernel
theorem dX10_tie_29 : decode cX10_tie 29 = .ok (.iconst (-1), 1) := by decide +kernel
theorem dX10_tie_30 : decode cX10_tie 30 = .ok (.ireturn, 1) := by decide +kernel
theorem dX10_tie_31 : decode cX10_tie 31 = .ok (.aload_n 0, 1) := by decide +kernel
theorem dX10_tie_32 : decode cX10_tie 32 = .ok (.getfield 101, 3) := by decide +kernel
theorem dX10_tie_35 : decode cX10_tie 35 = .ok (.bipush 14, 2) := by decide +kernel
theorem dX10_tie_37 : decode cX10_tie 37 = .ok (.if_icmp .ne 6, 3) := by decide +kernel
theorem dX10_tie_40 : decode cX10_tie 40 = .ok (.bipush (-2), 2) := by decide +kernel
theorem dX10_tie_42 : decode cX10_tie 42 = .ok (.ireturn, 1) := by decide +kernel
theorem dX10_tie_43 : decode cX10_tie 43 = .ok (.iconst 0, 1) := by decide +kernel
theorem dX10_tie_44 : decode cX10_tie 44 = .ok (.istore 6, 2) := by decide +kernel
theorem dX10_tie_46 : decode cX10_tie 46 = .ok (.iload 6, 2) := by decide +kernel
theorem dX10_tie_48 : decode cX10_tie 48 = .ok (.aload_n 0, 1) := by decide +kernel
theorem dX10_tie_49 : decode cX10_tie 49 = .ok (.getfield 101, 3) := by decide +kernel
theorem dX10_tie_52 : decode cX10_tie 52 = .ok (.if_icmp .ge 28, 3) := by decide +kernel
theorem dX10_tie_55 : decode cX10_tie 55 = .ok (.aload_n 0, 1) := by decide +kernel
theorem dX10_tie_56 : decode cX10_tie 56 = .ok (.iload 6, 2) := by decide +kernel
theorem dX10_tie_58 : decode cX10_tie 58 = .ok (.invokevirtual 112, 3) := by decide +kernel
theorem dX10_tie_61 : decode cX10_tie 61 = .ok (.iconst 1, 1) := by decide +kernel
theorem dX10_tie_62 : decode cX10_tie 62 = .ok (.iload_n 1, 1) := by decide +kernel
theorem dX10_tie_63 : decode cX10_tie 63 = .ok (.ishl, 1) := by decide +kernel
theorem dX10_tie_64 : decode cX10_tie 64 = .ok (.iconst 1, 1) := by decide +kernel
theorem dX10_tie_65 : decode cX10_tie 65 = .ok (.iload_n 2, 1) := by decide +kernel
theorem dX10_tie_66 : decode cX10_tie 66 = .ok (.ishl, 1) := by decide +kernel
theorem dX10_tie_67 : decode cX10_tie 67 = .ok (.ior, 1) := by decide +kernel
theorem dX10_tie_68 : decode cX10_tie 68 = .ok (.if_icmp .ne 6, 3) := by decide +kernel
theorem dX10_tie_71 : decode cX10_tie 71 = .ok (.bipush (-4), 2) := by decide +kernel
theorem dX10_tie_73 : decode cX10_tie 73 = .ok (.ireturn, 1) := by decide +kernel
theorem dX10_tie_74 : decode cX10_tie 74 = .ok (.iinc 6 1, 3) := by decide +kernel
theorem dX10_tie_77 : decode cX10_tie 77 = .ok (.goto (-31), 3) := by decide +kernel
theorem dX10_tie_80 : decode cX10_tie 80 = .ok (.iconst 5, 1) := by decide +kernel
theorem dX10_tie_81 : decode cX10_tie 81 = .ok (.aload_n 0, 1) := by decide +kernel
theorem dX10_tie_82 : decode cX10_tie 82 = .ok (.getfield 101, 3) := by decide +kernel
theorem dX10_tie_85 : decode cX10_tie 85 = .ok (.imul, 1) := by decide +kernel
theorem dX10_tie_86 : decode cX10_tie 86 = .ok (.istore 6, 2) := by decide +kernel
theorem dX10_tie_88 : decode cX10_tie 88 = .ok (.aload_n 0, 1) := by decide +kernel
theorem dX10_tie_89 : decode cX10_tie 89 = .ok (.getfield 17, 3) := by decide +kernel
theorem dX10_tie_92 : decode cX10_tie 92 = .ok (.iload 6, 2) := by decide +kernel
theorem dX10_tie_94 : decode cX10_tie 94 = .ok (.iload_n 1, 1) := by decide +kernel
theorem dX10_tie_95 : decode cX10_tie 95 = .ok (.iload_n 2, 1) := by decide +kernel
theorem dX10_tie_96 : decode cX10_tie 96 = .ok (.if_icmp .ge 7, 3) := by decide +kernel
theorem dX10_tie_99 : decode cX10_tie 99 = .ok (.iload_n 1, 1) := by decide +kernel
theorem dX10_tie_100 : decode cX10_tie 100 = .ok (.goto 4, 3) := by decide +kernel
theorem dX10_tie_103 : decode cX10_tie 103 = .ok (.iload_n 2, 1) := by decide +kernel
theorem dX10_tie_104 : decode cX10_tie 104 = .ok (.iastore, 1) := by decide +kernel
theorem dX10_tie_105 : decode cX10_tie 105 = .ok (.aload_n 0, 1) := by decide +kernel
theorem dX10_tie_106 : decode cX10_tie 106 = .ok (.getfield 17, 3) := by decide +kernel
theorem dX10_tie_109 : decode cX10_tie 109 = .ok (.iload 6, 2) := by decide +kernel
theorem dX10_tie_111 : decode cX10_tie 111 = .ok (.iconst 1, 1) := by decide +kernel
theorem dX10_tie_112 : decode cX10_tie 112 = .ok (.iadd, 1) := by decide +kernel
theorem dX10_tie_113 : decode cX10_tie 113 = .ok (.iload_n 1, 1) := by decide +kernel
theorem dX10_tie_114 : decode cX10_tie 114 = .ok (.iload_n 2, 1) := by decide +kernel
theorem dX10_tie_115 : decode cX10_tie 115 = .ok (.if_icmp .ge 7, 3) := by decide +kernel
theorem dX10_tie_118 : decode cX10_tie 118 = .ok (.iload_n 2, 1) := by decide +kernel
theorem dX10_tie_119 : decode cX10_tie 119 = .ok (.goto 4, 3) := by decide +kernel
theorem dX10_tie_122 : decode cX10_tie 122 = .ok (.iload_n 1, 1) := by decide +kernel
theorem dX10_tie_123 : decode cX10_tie 123 = .ok (.iastore, 1) := by decide +kernel
theorem dX10_tie_124 : decode cX10_tie 124 = .ok (.aload_n 0, 1) := by decide +kernel
theorem dX10_tie_125 : decode cX10_tie 125 = .ok (.getfield 17, 3) := by decide +kernel
theorem dX10_tie_128 : decode cX10_tie 128 = .ok (.iload 6, 2) := by decide +kernel
theorem dX10_tie_130 : decode cX10_tie 130 = .ok (.iconst 2, 1) := by decide +kernel
theorem dX10_tie_131 : decode cX10_tie 131 = .ok (.iadd, 1) := by decide +kernel
theorem dX10_tie_132 : decode cX10_tie 132 = .ok (.iload_n 3, 1) := by decide +kernel
theorem dX10_tie_133 : decode cX10_tie 133 = .ok (.iastore, 1) := by decide +kernel
theorem dX10_tie_134 : decode cX10_tie 134 = .ok (.aload_n 0, 1) := by decide +kernel
theorem dX10_tie_135 : decode cX10_tie 135 = .ok (.getfield 17, 3) := by decide +kernel
theorem dX10_tie_138 : decode cX10_tie 138 = .ok (.iload 6, 2) := by decide +kernel
theorem dX10_tie_140 : decode cX10_tie 140 = .ok (.iconst 3, 1) := by decide +kernel
theorem dX10_tie_141 : decode cX10_tie 141 = .ok (.iadd, 1) := by decide +kernel
theorem dX10_tie_142 : decode cX10_tie 142 = .ok (.iload 4, 2) := by decide +kernel
theorem dX10_tie_144 : decode cX10_tie 144 = .ok (.iastore, 1) := by decide +kernel
theorem dX10_tie_145 : decode cX10_tie 145 = .ok (.aload_n 0, 1) := by decide +kernel
theorem dX10_tie_146 : decode cX10_tie 146 = .ok (.getfield 17, 3) := by decide +kernel
theorem dX10_tie_149 : decode cX10_tie 149 = .ok (.iload 6, 2) := by decide +kernel
theorem dX10_tie_151 : decode cX10_tie 151 = .ok (.iconst 4, 1) := by decide +kernel
theorem dX10_tie_152 : decode cX10_tie 152 = .ok (.iadd, 1) := by decide +kernel
theorem dX10_tie_153 : decode cX10_tie 153 = .ok (.iload 5, 2) := by decide +kernel
theorem dX10_tie_155 : decode cX10_tie 155 = .ok (.ifCond .eq 7, 3) := by decide +kernel
theorem dX10_tie_158 : decode cX10_tie 158 = .ok (.iconst 1, 1) := by decide +kernel
theorem dX10_tie_159 : decode cX10_tie 159 = .ok (.goto 4, 3) := by decide +kernel
theorem dX10_tie_162 : decode cX10_tie 162 = .ok (.iconst 0, 1) := by decide +kernel
theorem dX10_tie_163 : decode cX10_tie 163 = .ok (.iastore, 1) := by decide +kernel
theorem dX10_tie_164 : decode cX10_tie 164 = .ok (.aload_n 0, 1) := by decide +kernel
theorem dX10_tie_165 : decode cX10_tie 165 = .ok (.dup, 1) := by decide +kernel
theorem dX10_tie_166 : decode cX10_tie 166 = .ok (.getfield 101, 3) := by decide +kernel
theorem dX10_tie_169 : decode cX10_tie 169 = .ok (.iconst 1, 1) := by decide +kernel
theorem dX10_tie_170 : decode cX10_tie 170 = .ok (.iadd, 1) := by decide +kernel
theorem dX10_tie_171 : decode cX10_tie 171 = .ok (.putfield 101, 3) := by decide +kernel
theorem dX10_tie_174 : decode cX10_tie 174 = .ok (.aload_n 0, 1) := by decide +kernel
theorem dX10_tie_175 : decode cX10_tie 175 = .ok (.getfield 101, 3) := by decide +kernel
theorem dX10_tie_178 : decode cX10_tie 178 = .ok (.iconst 1, 1) := by decide +kernel
theorem dX10_tie_179 : decode cX10_tie 179 = .ok (.isub, 1) := by decide +kernel
theorem dX10_tie_180 : decode cX10_tie 180 = .ok (.ireturn, 1) := by decide +kernel
set_option maxRecDepth 20000 in
theorem ggX10_tieOf_X10_isTie : GoodIn wsX10_tieOf wsX10_isTie := goodIn_r _ [5, 6, 7, 8, 4, 9, 15, 16, 17, 18, 19, 20, 21, 22, 23, 24, 25, 26, 27, 28, 29, 30, 31, 32, 33, 34, 35, 36, 37, 38, 39, 40, 41, 42, 43, 44, 45, 46, 47, 48, 49, 50, 51, 52, 53, 54, 55, 56, 57, 58, 59, 60, 61, 62, 63, 64, 65, 66, 67, 68] (by decide +kernel) (by decide +kernel)
set_option maxRecDepth 20000 in
theorem gX10_tieOf_X10_isTie : GoodIn wsX10_tieOf (wsV RX10 241 RX10 yX10_isTie wsX10_isTie) := goodIn_app (goodIn_of _ (by decide +kernel)) ggX10_tieOf_X10_isTie
set_option maxRecDepth 20000 in
theorem ggX10_tieOf_X10_in : GoodIn wsX10_tieOf wsX10_in := goodIn_r _ [9] (by decide +kernel) (by decide +kernel)
set_option maxRecDepth 20000 in
theorem gX10_tieOf_X10_in : GoodIn wsX10_tieOf (va_wsS RX10 97 yX10_in wsX10_in) := goodIn_app (goodIn_of _ (by decide +kernel)) ggX10_tieOf_X10_in
set_option maxRecDepth 20000 in
theorem ggX10_tieOf_X10_its : GoodIn wsX10_tieOf wsX10_its := goodIn_r _ [13, 14, 15, 16, 17, 18, 19, 20, 21, 22, 23, 24, 25, 26, 27, 28, 29, 30, 31, 32, 33, 34, 35, 36, 37, 38, 39, 40, 41, 42, 43, 44, 45, 46, 47, 48, 49, 50, 51, 52, 53, 54, 55, 56, 57, 58, 59, 60, 61, 62, 63, 64, 65, 66, 67, 68] (by decide +kernel) (by decide +kernel)
set_option maxRecDepth 20000 in
theorem gX10_tieOf_X10_its : GoodIn wsX10_tieOf (wsV RX10 108 RX10 yX10_its wsX10_its) := goodIn_app (goodIn_of _ (by decide +kernel)) ggX10_tieOf_X10_its
theorem dX10_tieOf_0 : decode cX10_tieOf 0 = .ok (.aload_n 0, 1) := by decide +kernel
theorem dX10_tieOf_1 : decode cX10_tieOf 1 = .ok (.iload_n 1, 1) := by decide +kernel
theorem dX10_tieOf_2 : decode cX10_tieOf 2 = .ok (.invokevirtual 241, 3) := by decide +kernel
theorem dX10_tieOf_5 : decode cX10_tieOf 5 = .ok (.ifCond .eq 21, 3) := by decide +kernel
theorem dX10_tieOf_8 : decode cX10_tieOf 8 = .ok (.iload_n 2, 1) := by decide +kernel
theorem dX10_tieOf_9 : decode cX10_tieOf 9 = .ok (.iconst 0, 1) := by decide +kernel
theorem dX10_tieOf_10 : decode cX10_tieOf 10 = .ok (.iconst 4, 1) := by decide +kernel
theorem dX10_tieOf_11 : decode cX10_tieOf 11 = .ok (.invokestatic 97, 3) := by decide +kernel
theorem dX10_tieOf_14 : decode cX10_tieOf 14 = .ok (.ifCond .eq 12, 3) := by decide +kernel
theorem dX10_tieOf_17 : decode cX10_tieOf 17 = .ok (.aload_n 0, 1) := by decide +kernel
theorem dX10_tieOf_18 : decode cX10_tieOf 18 = .ok (.iload_n 1, 1) := by decide +kernel
theorem dX10_tieOf_19 : decode cX10_tieOf 19 = .ok (.iload_n 2, 1) := by decide +kernel
theorem dX10_tieOf_20 : decode cX10_tieOf 20 = .ok (.invokevirtual 108, 3) := by decide +kernel
theorem dX10_tieOf_23 : decode cX10_tieOf 23 = .ok (.goto 4, 3) := by decide +kernel
theorem dX10_tieOf_26 : decode cX10_tieOf 26 = .ok (.iconst (-1), 1) := by decide +kernel
theorem dX10_tieOf_27 : decode cX10_tieOf 27 = .ok (.ireturn, 1) := by decide +kernel
set_option maxRecDepth 20000 in
theorem ggX10_first_X10_isPerson : GoodIn wsX10_first wsX10_isPerson := goodIn_r _ [6, 7, 8, 9, 5, 10, 11, 12, 13, 14, 15, 16, 17, 18, 19, 20, 21, 22, 23, 24, 25, 26, 27, 28, 29, 30, 31, 32, 33, 34, 35, 36, 37, 38, 39, 40, 41, 42, 43, 44, 45, 46, 47, 48, 49, 50, 51, 52, 53, 54, 55, 56, 57, 58, 59, 60, 61, 62, 63, 64] (by decide +kernel) (by decide +kernel)
set_option maxRecDepth 20000 in
theorem gX10_first_X10_isPerson : GoodIn wsX10_first (wsV RX10 104 RX10 yX10_isPerson wsX10_isPerson) := goodIn_app (goodIn_of _ (by decide +kernel)) ggX10_first_X10_isPerson
set_option maxRecDepth 20000 in
theorem ggX10_first_X10_in : GoodIn wsX10_first wsX10_in := goodIn_r _ [10] (by decide +kernel) (by decide +kernel)
set_option maxRecDepth 20000 in
theorem gX10_first_X10_in : GoodIn wsX10_first (va_wsS RX10 97 yX10_in wsX10_in) := goodIn_app (goodIn_of _ (by decide +kernel)) ggX10_first_X10_in
theorem dX10_first_0 : decode cX10_first 0 = .ok (.aload_n 0, 1) := by decide +kernel
theorem dX10_first_1 : decode cX10_first 1 = .ok (.iload_n 1, 1) := by decide +kernel
theorem dX10_first_2 : decode cX10_first 2 = .ok (.invokevirtual 104, 3) := by decide +kernel
theorem dX10_first_5 : decode cX10_first 5 = .ok (.ifCond .eq 13, 3) := by decide +kernel
theorem dX10_first_8 : decode cX10_first 8 = .ok (.iload_n 2, 1) := by decide +kernel
theorem dX10_first_9 : decode cX10_first 9 = .ok (.iconst 0, 1) := by decide +kernel
theorem dX10_first_10 : decode cX10_first 10 = .ok (.bipush 9, 2) := by decide +kernel
theorem dX10_first_12 : decode cX10_first 12 = .ok (.invokestatic 97, 3) := by decide +kernel
theorem dX10_first_15 : decode cX10_first 15 = .ok (.ifCond .ne 5, 3) := by decide +kernel
theorem dX10_first_18 : decode cX10_first 18 = .ok (.iconst (-1), 1) := by decide +kernel
theorem dX10_first_19 : decode cX10_first 19 = .ok (.ireturn, 1) := by decide +kernel
theorem dX10_first_20 : decode cX10_first 20 = .ok (.aload_n 0, 1) := by decide +kernel
theorem dX10_first_21 : decode cX10_first 21 = .ok (.getfield 13, 3) := by decide +kernel
theorem dX10_first_24 : decode cX10_first 24 = .ok (.iload_n 1, 1) := by decide +kernel
theorem dX10_first_25 : decode cX10_first 25 = .ok (.iaload, 1) := by decide +kernel
theorem dX10_first_26 : decode cX10_first 26 = .ok (.istore_n 3, 1) := by decide +kernel
theorem dX10_first_27 : decode cX10_first 27 = .ok (.aload_n 0, 1) := by decide +kernel
theorem dX10_first_28 : decode cX10_first 28 = .ok (.getfield 13, 3) := by decide +kernel
theorem dX10_first_31 : decode cX10_first 31 = .ok (.iload_n 1, 1) := by decide +kernel
theorem dX10_first_32 : decode cX10_first 32 = .ok (.iload_n 2, 1) := by decide +kernel
theorem dX10_first_33 : decode cX10_first 33 = .ok (.iastore, 1) := by decide +kernel
theorem dX10_first_34 : decode cX10_first 34 = .ok (.iload_n 3, 1) := by decide +kernel
theorem dX10_first_35 : decode cX10_first 35 = .ok (.ireturn, 1) := by decide +kernel
set_option maxRecDepth 20000 in
theorem ggX10_isWhat_X10_isTie : GoodIn wsX10_isWhat wsX10_isTie := goodIn_r _ [5, 6, 7, 8, 4, 9, 15, 16, 17, 18, 19, 20, 21, 22, 23, 24, 25, 26, 27, 28, 29, 30, 31, 32, 33, 34, 35, 36, 37, 38, 39, 40, 41, 42, 43, 44, 45, 46, 47, 48, 49, 50, 51, 52, 53, 54, 55, 56, 57, 58, 59, 60, 61, 62, 63, 64, 65, 66, 67, 68] (by decide +kernel) (by decide +kernel)
set_option maxRecDepth 20000 in
theorem gX10_isWhat_X10_isTie : GoodIn wsX10_isWhat (wsV RX10 241 RX10 yX10_isTie wsX10_isTie) := goodIn_app (goodIn_of _ (by decide +kernel)) ggX10_isWhat_X10_isTie
set_option maxRecDepth 20000 in
theorem ggX10_isWhat_X10_all : GoodIn wsX10_isWhat wsX10_all := goodIn_r _ [13, 14, 15, 16, 17, 18, 19, 20, 21, 22, 23, 24, 25, 26, 27, 28, 29, 30, 31, 32, 33, 34, 35, 36, 37, 38, 39, 40, 41, 42, 43, 44, 45, 46, 47, 48, 49, 50, 51, 52, 53, 54, 55, 56, 57, 58, 59, 60, 61, 62, 63, 64, 65, 66, 67, 68] (by decide +kernel) (by decide +kernel)
set_option maxRecDepth 20000 in
theorem gX10_isWhat_X10_all : GoodIn wsX10_isWhat (wsV RX10 244 RX10 yX10_all wsX10_all) := goodIn_app (goodIn_of _ (by decide +kernel)) ggX10_isWhat_X10_all
set_option maxRecDepth 20000 in
theorem ggX10_isWhat_X10_in : GoodIn wsX10_isWhat wsX10_in := goodIn_r _ [9] (by decide +kernel) (by decide +kernel)
set_option maxRecDepth 20000 in
theorem gX10_isWhat_X10_in : GoodIn wsX10_isWhat (va_wsS RX10 97 yX10_in wsX10_in) := goodIn_app (goodIn_of _ (by decide +kernel)) ggX10_isWhat_X10_in
theorem dX10_isWhat_0 : decode cX10_isWhat 0 = .ok (.iload_n 1, 1) := by decide +kernel
theorem dX10_isWhat_1 : decode cX10_isWhat 1 = .ok (.iconst 1, 1) := by decide +kernel
theorem dX10_isWhat_2 : decode cX10_isWhat 2 = .ok (.if_icmp .eq 8, 3) := by decide +kernel
theorem dX10_isWhat_5 : decode cX10_isWhat 5 = .ok (.iload_n 1, 1) := by decide +kernel
theorem dX10_isWhat_6 : decode cX10_isWhat 6 = .ok (.iconst 4, 1) := by decide +kernel
theorem dX10_isWhat_7 : decode cX10_isWhat 7 = .ok (.if_icmp .ne 11, 3) := by decide +kernel
theorem dX10_isWhat_10 : decode cX10_isWhat 10 = .ok (.aload_n 0, 1) := by decide +kernel
theorem dX10_isWhat_11 : decode cX10_isWhat 11 = .ok (.iload_n 2, 1) := by decide +kernel
theorem dX10_isWhat_12 : decode cX10_isWhat 12 = .ok (.invokevirtual 241, 3) := by decide +kernel
theorem dX10_isWhat_15 : decode cX10_isWhat 15 = .ok (.goto 12, 3) := by decide +kernel
theorem dX10_isWhat_18 : decode cX10_isWhat 18 = .ok (.iload_n 2, 1) := by decide +kernel
theorem dX10_isWhat_19 : decode cX10_isWhat 19 = .ok (.iconst 0, 1) := by decide +kernel
theorem dX10_isWhat_20 : decode cX10_isWhat 20 = .ok (.aload_n 0, 1) := by decide +kernel
theorem dX10_isWhat_21 : decode cX10_isWhat 21 = .ok (.invokevirtual 244, 3) := by decide +kernel
theorem dX10_isWhat_24 : decode cX10_isWhat 24 = .ok (.invokestatic 97, 3) := by decide +kernel
theorem dX10_isWhat_27 : decode cX10_isWhat 27 = .ok (.ireturn, 1) := by decide +kernel
set_option maxRecDepth 20000 in
theorem ggX10_cut_X10_in : GoodIn wsX10_cut wsX10_in := goodIn_r _ [6] (by decide +kernel) (by decide +kernel)
set_option maxRecDepth 20000 in
theorem gX10_cut_X10_in : GoodIn wsX10_cut (va_wsS RX10 97 yX10_in wsX10_in) := goodIn_app (goodIn_of _ (by decide +kernel)) ggX10_cut_X10_in
set_option maxRecDepth 20000 in
theorem ggX10_cut_X10_isWhat : GoodIn wsX10_cut wsX10_isWhat := goodIn_r _ [10, 11, 12, 13, 5, 14, 15, 3, 4, 6, 16, 17, 18, 19, 20, 21, 22, 23, 24, 25, 26, 27, 28, 29, 30, 31, 32, 33, 34, 35, 36, 37, 38, 39, 40, 41, 42, 43, 44, 45, 46, 47, 48, 49, 50, 51, 52, 53, 54, 55, 56, 57, 58, 59, 60, 61, 62, 63, 64, 65, 66, 67, 68, 69, 70, 71, 72, 73, 74] (by decide +kernel) (by decide +kernel)
set_option maxRecDepth 20000 in
theorem gX10_cut_X10_isWhat : GoodIn wsX10_cut (wsV RX10 248 RX10 yX10_isWhat wsX10_isWhat) := goodIn_app (goodIn_of _ (by decide +kernel)) ggX10_cut_X10_isWhat
theorem dX10_cut_0 : decode cX10_cut 0 = .ok (.iload_n 1, 1) := by decide +kernel
theorem dX10_cut_1 : decode cX10_cut 1 = .ok (.iconst 1, 1) := by decide +kernel
theorem dX10_cut_2 : decode cX10_cut 2 = .ok (.bipush 6, 2) := by decide +kernel
theorem dX10_cut_4 : decode cX10_cut 4 = .ok (.invokestatic 97, 3) := by decide +kernel
theorem dX10_cut_7 : decode cX10_cut 7 = .ok (.ifCond .eq 22, 3) := by decide +kernel
theorem dX10_cut_10 : decode cX10_cut 10 = .ok (.aload_n 0, 1) := by decide +kernel
theorem dX10_cut_11 : decode cX10_cut 11 = .ok (.iload_n 1, 1) := by decide +kernel
theorem dX10_cut_12 : decode cX10_cut 12 = .ok (.iload_n 2, 1) := by decide +kernel
theorem dX10_cut_13 : decode cX10_cut 13 = .ok (.invokevirtual 248, 3) := by decide +kernel
theorem dX10_cut_16 : decode cX10_cut 16 = .ok (.ifCond .eq 13, 3) := by decide +kernel
theorem dX10_cut_19 : decode cX10_cut 19 = .ok (.iload_n 3, 1) := by decide +kernel
theorem dX10_cut_20 : decode cX10_cut 20 = .ok (.iconst 0, 1) := by decide +kernel
theorem dX10_cut_21 : decode cX10_cut 21 = .ok (.bipush 99, 2) := by decide +kernel
theorem dX10_cut_23 : decode cX10_cut 23 = .ok (.invokestatic 97, 3) := by decide +kernel
theorem dX10_cut_26 : decode cX10_cut 26 = .ok (.ifCond .ne 5, 3) := by decide +kernel
theorem dX10_cut_29 : decode cX10_cut 29 = .ok (.iconst (-1), 1) := by decide +kernel
theorem dX10_cut_30 : decode cX10_cut 30 = .ok (.ireturn, 1) := by decide +kernel
theorem dX10_cut_31 : decode cX10_cut 31 = .ok (.aload_n 0, 1) := by decide +kernel
theorem dX10_cut_32 : decode cX10_cut 32 = .ok (.getfield 225, 3) := by decide +kernel
theorem dX10_cut_35 : decode cX10_cut 35 = .ok (.bipush 8, 2) := by decide +kernel
theorem dX10_cut_37 : decode cX10_cut 37 = .ok (.if_icmp .ne 6, 3) := by decide +kernel
theorem dX10_cut_40 : decode cX10_cut 40 = .ok (.bipush (-2), 2) := by decide +kernel
theorem dX10_cut_42 : decode cX10_cut 42 = .ok (.ireturn, 1) := by decide +kernel
theorem dX10_cut_43 : decode cX10_cut 43 = .ok (.aload_n 0, 1) := by decide +kernel
theorem dX10_cut_44 : decode cX10_cut 44 = .ok (.getfield 20, 3) := by decide +kernel
theorem dX10_cut_47 : decode cX10_cut 47 = .ok (.iconst 3, 1) := by decide +kernel
theorem dX10_cut_48 : decode cX10_cut 48 = .ok (.aload_n 0, 1) := by decide +kernel
theorem dX10_cut_49 : decode cX10_cut 49 = .ok (.getfield 225, 3) := by decide +kernel
theorem dX10_cut_52 : decode cX10_cut 52 = .ok (.imul, 1) := by decide +kernel
theorem dX10_cut_53 : decode cX10_cut 53 = .ok (.iload_n 1, 1) := by decide +kernel
theorem dX10_cut_54 : decode cX10_cut 54 = .ok (.iastore, 1) := by decide +kernel
theorem dX10_cut_55 : decode cX10_cut 55 = .ok (.aload_n 0, 1) := by decide +kernel
theorem dX10_cut_56 : decode cX10_cut 56 = .ok (.getfield 20, 3) := by decide +kernel
theorem dX10_cut_59 : decode cX10_cut 59 = .ok (.iconst 3, 1) := by decide +kernel
theorem dX10_cut_60 : decode cX10_cut 60 = .ok (.aload_n 0, 1) := by decide +kernel
theorem dX10_cut_61 : decode cX10_cut 61 = .ok (.getfield 225, 3) := by decide +kernel
theorem dX10_cut_64 : decode cX10_cut 64 = .ok (.imul, 1) := by decide +kernel
theorem dX10_cut_65 : decode cX10_cut 65 = .ok (.iconst 1, 1) := by decide +kernel
theorem dX10_cut_66 : decode cX10_cut 66 = .ok (.iadd, 1) := by decide +kernel
theorem dX10_cut_67 : decode cX10_cut 67 = .ok (.iload_n 2, 1) := by decide +kernel
theorem dX10_cut_68 : decode cX10_cut 68 = .ok (.iastore, 1) := by decide +kernel
theorem dX10_cut_69 : decode cX10_cut 69 = .ok (.aload_n 0, 1) := by decide +kernel
theorem dX10_cut_70 : decode cX10_cut 70 = .ok (.getfield 20, 3) := by decide +kernel
theorem dX10_cut_73 : decode cX10_cut 73 = .ok (.iconst 3, 1) := by decide +kernel
theorem dX10_cut_74 : decode cX10_cut 74 = .ok (.aload_n 0, 1) := by decide +kernel
theorem dX10_cut_75 : decode cX10_cut 75 = .ok (.getfield 225, 3) := by decide +kernel
theorem dX10_cut_78 : decode cX10_cut 78 = .ok (.imul, 1) := by decide +kernel
theorem dX10_cut_79 : decode cX10_cut 79 = .ok (.iconst 2, 1) := by decide +kernel
theorem dX10_cut_80 : decode cX10_cut 80 = .ok (.iadd, 1) := by decide +kernel
theorem dX10_cut_81 : decode cX10_cut 81 = .ok (.iload_n 3, 1) := by decide +kernel
theorem dX10_cut_82 : decode cX10_cut 82 = .ok (.iastore, 1) := by decide +kernel
theorem dX10_cut_83 : decode cX10_cut 83 = .ok (.aload_n 0, 1) := by decide +kernel
theorem dX10_cut_84 : decode cX10_cut 84 = .ok (.dup, 1) := by decide +kernel
theorem dX10_cut_85 : decode cX10_cut 85 = .ok (.getfield 225, 3) := by decide +kernel
theorem dX10_cut_88 : decode cX10_cut 88 = .ok (.iconst 1, 1) := by decide +kernel
theorem dX10_cut_89 : decode cX10_cut 89 = .ok (.iadd, 1) := by decide +kernel
theorem dX10_cut_90 : decode cX10_cut 90 = .ok (.putfield 225, 3) := by decide +kernel
theorem dX10_cut_93 : decode cX10_cut 93 = .ok (.aload_n 0, 1) := by decide +kernel
theorem dX10_cut_94 : decode cX10_cut 94 = .ok (.getfield 225, 3) := by decide +kernel
theorem dX10_cut_97 : decode cX10_cut 97 = .ok (.iconst 1, 1) := by decide +kernel
theorem dX10_cut_98 : decode cX10_cut 98 = .ok (.isub, 1) := by decide +kernel
theorem dX10_cut_99 : decode cX10_cut 99 = .ok (.ireturn, 1) := by decide +kernel
set_option maxRecDepth 20000 in
theorem ggX10_isCut_X10_in : GoodIn wsX10_isCut wsX10_in := goodIn_r _ [5] (by decide +kernel) (by decide +kernel)
set_option maxRecDepth 20000 in
theorem gX10_isCut_X10_in : GoodIn wsX10_isCut (va_wsS RX10 97 yX10_in wsX10_in) := goodIn_app (goodIn_of _ (by decide +kernel)) ggX10_isCut_X10_in
theorem dX10_isCut_0 : decode cX10_isCut 0 = .ok (.iload_n 1, 1) := by decide +kernel
theorem dX10_isCut_1 : decode cX10_isCut 1 = .ok (.iconst 0, 1) := by decide +kernel
theorem dX10_isCut_2 : decode cX10_isCut 2 = .ok (.aload_n 0, 1) := by decide +kernel
theorem dX10_isCut_3 : decode cX10_isCut 3 = .ok (.getfield 225, 3) := by decide +kernel
theorem dX10_isCut_6 : decode cX10_isCut 6 = .ok (.iconst 1, 1) := by decide +kernel
theorem dX10_isCut_7 : decode cX10_isCut 7 = .ok (.isub, 1) := by decide +kernel
theorem dX10_isCut_8 : decode cX10_isCut 8 = .ok (.invokestatic 97, 3) := by decide +kernel
theorem dX10_isCut_11 : decode cX10_isCut 11 = .ok (.ireturn, 1) := by decide +kernel
set_option maxRecDepth 20000 in
theorem ggX10_cutOf_X10_isCut : GoodIn wsX10_cutOf wsX10_isCut := goodIn_r _ [6, 7, 8, 9, 5, 10, 11, 12, 13, 14, 15, 16, 17, 18, 19, 20, 21, 22, 23, 24, 25, 26, 27, 28, 29, 30, 31, 32, 33, 34, 35, 36, 37, 38, 39, 40, 41, 42, 43, 44, 45, 46, 47, 48, 49, 50, 51, 52, 53, 54, 55, 56, 57, 58, 59, 60, 61, 62, 63, 64] (by decide +kernel) (by decide +kernel)
set_option maxRecDepth 20000 in
theorem gX10_cutOf_X10_isCut : GoodIn wsX10_cutOf (wsV RX10 251 RX10 yX10_isCut wsX10_isCut) := goodIn_app (goodIn_of _ (by decide +kernel)) ggX10_cutOf_X10_isCut
set_option maxRecDepth 20000 in
theorem ggX10_cutOf_X10_in : GoodIn wsX10_cutOf wsX10_in := goodIn_r _ [10] (by decide +kernel) (by decide +kernel)
set_option maxRecDepth 20000 in
theorem gX10_cutOf_X10_in : GoodIn wsX10_cutOf (va_wsS RX10 97 yX10_in wsX10_in) := goodIn_app (goodIn_of _ (by decide +kernel)) ggX10_cutOf_X10_in
theorem dX10_cutOf_0 : decode cX10_cutOf 0 = .ok (.aload_n 0, 1) := by decide +kernel
theorem dX10_cutOf_1 : decode cX10_cutOf 1 = .ok (.iload_n 1, 1) := by decide +kernel
theorem dX10_cutOf_2 : decode cX10_cutOf 2 = .ok (.invokevirtual 251, 3) := by decide +kernel
theorem dX10_cutOf_5 : decode cX10_cutOf 5 = .ok (.ifCond .eq 25, 3) := by decide +kernel
theorem dX10_cutOf_8 : decode cX10_cutOf 8 = .ok (.iload_n 2, 1) := by decide +kernel
theorem dX10_cutOf_9 : decode cX10_cutOf 9 = .ok (.iconst 0, 1) := by decide +kernel
theorem dX10_cutOf_10 : decode cX10_cutOf 10 = .ok (.iconst 2, 1) := by decide +kernel
theorem dX10_cutOf_11 : decode cX10_cutOf 11 = .ok (.invokestatic 97, 3) := by decide +kernel
theorem dX10_cutOf_14 : decode cX10_cutOf 14 = .ok (.ifCond .eq 16, 3) := by decide +kernel
theorem dX10_cutOf_17 : decode cX10_cutOf 17 = .ok (.aload_n 0, 1) := by decide +kernel
theorem dX10_cutOf_18 : decode cX10_cutOf 18 = .ok (.getfield 20, 3) := by decide +kernel
theorem dX10_cutOf_21 : decode cX10_cutOf 21 = .ok (.iconst 3, 1) := by decide +kernel
theorem dX10_cutOf_22 : decode cX10_cutOf 22 = .ok (.iload_n 1, 1) := by decide +kernel
theorem dX10_cutOf_23 : decode cX10_cutOf 23 = .ok (.imul, 1) := by decide +kernel
theorem dX10_cutOf_24 : decode cX10_cutOf 24 = .ok (.iload_n 2, 1) := by decide +kernel
theorem dX10_cutOf_25 : decode cX10_cutOf 25 = .ok (.iadd, 1) := by decide +kernel
theorem dX10_cutOf_26 : decode cX10_cutOf 26 = .ok (.iaload, 1) := by decide +kernel
theorem dX10_cutOf_27 : decode cX10_cutOf 27 = .ok (.goto 4, 3) := by decide +kernel
theorem dX10_cutOf_30 : decode cX10_cutOf 30 = .ok (.iconst (-1), 1) := by decide +kernel
theorem dX10_cutOf_31 : decode cX10_cutOf 31 = .ok (.ireturn, 1) := by decide +kernel
theorem dX10_uncut_0 : decode cX10_uncut 0 = .ok (.aload_n 0, 1) := by decide +kernel
theorem dX10_uncut_1 : decode cX10_uncut 1 = .ok (.getfield 225, 3) := by decide +kernel
theorem dX10_uncut_4 : decode cX10_uncut 4 = .ok (.ifCond .ne 6, 3) := by decide +kernel
theorem dX10_uncut_7 : decode cX10_uncut 7 = .ok (.bipush (-3), 2) := by decide +kernel
theorem dX10_uncut_9 : decode cX10_uncut 9 = .ok (.ireturn, 1) := by decide +kernel
theorem dX10_uncut_10 : decode cX10_uncut 10 = .ok (.aload_n 0, 1) := by decide +kernel
theorem dX10_uncut_11 : decode cX10_uncut 11 = .ok (.dup, 1) := by decide +kernel
theorem dX10_uncut_12 : decode cX10_uncut 12 = .ok (.getfield 225, 3) := by decide +kernel
theorem dX10_uncut_15 : decode cX10_uncut 15 = .ok (.iconst 1, 1) := by decide +kernel
theorem dX10_uncut_16 : decode cX10_uncut 16 = .ok (.isub, 1) := by decide +kernel
theorem dX10_uncut_17 : decode cX10_uncut 17 = .ok (.putfield 225, 3) := by decide +kernel
theorem dX10_uncut_20 : decode cX10_uncut 20 = .ok (.aload_n 0, 1) := by decide +kernel
theorem dX10_uncut_21 : decode cX10_uncut 21 = .ok (.getfield 225, 3) := by decide +kernel
theorem dX10_uncut_24 : decode cX10_uncut 24 = .ok (.ireturn, 1) := by decide +kernel
set_option maxRecDepth 20000 in
theorem ggX10_cutsIt_X10_inSet : GoodIn wsX10_cutsIt wsX10_inSet := goodIn_r _ [6, 7, 8, 9, 5, 10, 11, 12, 13, 14, 15, 16, 17, 18, 19, 20, 21, 22, 23, 24, 25, 26, 27, 28, 29, 30, 31, 32, 33, 34, 35, 36, 37, 38, 39, 40, 41, 42, 43, 44, 45, 46, 47, 48, 49, 50, 51, 52, 53, 54, 55, 56, 57, 58, 59, 60, 61, 62, 63, 64, 65, 66, 67, 68, 69, 70, 71, 72] (by decide +kernel) (by decide +kernel)
set_option maxRecDepth 20000 in
theorem gX10_cutsIt_X10_inSet : GoodIn wsX10_cutsIt (wsV RX10 254 RX10 yX10_inSet wsX10_inSet) := goodIn_app (goodIn_of _ (by decide +kernel)) ggX10_cutsIt_X10_inSet
set_option maxRecDepth 20000 in
theorem ggX10_cutsIt_X10_its : GoodIn wsX10_cutsIt wsX10_its := goodIn_r _ [14, 15, 19, 20, 21, 22, 23, 24, 25, 26, 27, 28, 29, 30, 31, 32, 33, 34, 35, 36, 37, 38, 39, 40, 41, 42, 43, 44, 45, 46, 47, 48, 49, 50, 51, 52, 53, 54, 55, 56, 57, 58, 59, 60, 61, 62, 63, 64, 65, 66, 67, 68, 69, 70, 71, 72] (by decide +kernel) (by decide +kernel)
set_option maxRecDepth 20000 in
theorem gX10_cutsIt_X10_its : GoodIn wsX10_cutsIt (wsV RX10 108 RX10 yX10_its wsX10_its) := goodIn_app (goodIn_of _ (by decide +kernel)) ggX10_cutsIt_X10_its
theorem dX10_cutsIt_0 : decode cX10_cutsIt 0 = .ok (.aload_n 0, 1) := by decide +kernel
theorem dX10_cutsIt_1 : decode cX10_cutsIt 1 = .ok (.getfield 20, 3) := by decide +kernel
theorem dX10_cutsIt_4 : decode cX10_cutsIt 4 = .ok (.iconst 3, 1) := by decide +kernel
theorem dX10_cutsIt_5 : decode cX10_cutsIt 5 = .ok (.iload_n 1, 1) := by decide +kernel
theorem dX10_cutsIt_6 : decode cX10_cutsIt 6 = .ok (.imul, 1) := by decide +kernel
theorem dX10_cutsIt_7 : decode cX10_cutsIt 7 = .ok (.iconst 1, 1) := by decide +kernel
theorem dX10_cutsIt_8 : decode cX10_cutsIt 8 = .ok (.iadd, 1) := by decide +kernel
theorem dX10_cutsIt_9 : decode cX10_cutsIt 9 = .ok (.iaload, 1) := by decide +kernel
theorem dX10_cutsIt_10 : decode cX10_cutsIt 10 = .ok (.istore 4, 2) := by decide +kernel
theorem dX10_cutsIt_12 : decode cX10_cutsIt 12 = .ok (.aload_n 0, 1) := by decide +kernel
theorem dX10_cutsIt_13 : decode cX10_cutsIt 13 = .ok (.getfield 20, 3) := by decide +kernel
theorem dX10_cutsIt_16 : decode cX10_cutsIt 16 = .ok (.iconst 3, 1) := by decide +kernel
theorem dX10_cutsIt_17 : decode cX10_cutsIt 17 = .ok (.iload_n 1, 1) := by decide +kernel
theorem dX10_cutsIt_18 : decode cX10_cutsIt 18 = .ok (.imul, 1) := by decide +kernel
theorem dX10_cutsIt_19 : decode cX10_cutsIt 19 = .ok (.iaload, 1) := by decide +kernel
theorem dX10_cutsIt_20 : decode cX10_cutsIt 20 = .ok (.tableswitch 133 1 5 #[36, 74, 100, 48, 117], 36) := by decide +kernel
theorem dX10_cutsIt_56 : decode cX10_cutsIt 56 = .ok (.iload 4, 2) := by decide +kernel
theorem dX10_cutsIt_58 : decode cX10_cutsIt 58 = .ok (.iload_n 2, 1) := by decide +kernel
theorem dX10_cutsIt_59 : decode cX10_cutsIt 59 = .ok (.if_icmp .ne 7, 3) := by decide +kernel
theorem dX10_cutsIt_62 : decode cX10_cutsIt 62 = .ok (.iconst 1, 1) := by decide +kernel
theorem dX10_cutsIt_63 : decode cX10_cutsIt 63 = .ok (.goto 4, 3) := by decide +kernel
theorem dX10_cutsIt_66 : decode cX10_cutsIt 66 = .ok (.iconst 0, 1) := by decide +kernel
theorem dX10_cutsIt_67 : decode cX10_cutsIt 67 = .ok (.ireturn, 1) := by decide +kernel
theorem dX10_cutsIt_68 : decode cX10_cutsIt 68 = .ok (.iload 4, 2) := by decide +kernel
theorem dX10_cutsIt_70 : decode cX10_cutsIt 70 = .ok (.iload_n 2, 1) := by decide +kernel
theorem dX10_cutsIt_71 : decode cX10_cutsIt 71 = .ok (.if_icmp .ne 21, 3) := by decide +kernel
theorem dX10_cutsIt_74 : decode cX10_cutsIt 74 = .ok (.iload_n 3, 1) := by decide +kernel
theorem dX10_cutsIt_75 : decode cX10_cutsIt 75 = .ok (.aload_n 0, 1) := by decide +kernel
theorem dX10_cutsIt_76 : decode cX10_cutsIt 76 = .ok (.getfield 20, 3) := by decide +kernel
theorem dX10_cutsIt_79 : decode cX10_cutsIt 79 = .ok (.iconst 3, 1) := by decide +kernel
theorem dX10_cutsIt_80 : decode cX10_cutsIt 80 = .ok (.iload_n 1, 1) := by decide +kernel
theorem dX10_cutsIt_81 : decode cX10_cutsIt 81 = .ok (.imul, 1) := by decide +kernel
theorem dX10_cutsIt_82 : decode cX10_cutsIt 82 = .ok (.iconst 2, 1) := by decide +kernel
theorem dX10_cutsIt_83 : decode cX10_cutsIt 83 = .ok (.iadd, 1) := by decide +kernel
theorem dX10_cutsIt_84 : decode cX10_cutsIt 84 = .ok (.iaload, 1) := by decide +kernel
theorem dX10_cutsIt_85 : decode cX10_cutsIt 85 = .ok (.if_icmp .lt 7, 3) := by decide +kernel
theorem dX10_cutsIt_88 : decode cX10_cutsIt 88 = .ok (.iconst 1, 1) := by decide +kernel
theorem dX10_cutsIt_89 : decode cX10_cutsIt 89 = .ok (.goto 4, 3) := by decide +kernel
theorem dX10_cutsIt_92 : decode cX10_cutsIt 92 = .ok (.iconst 0, 1) := by decide +kernel
theorem dX10_cutsIt_93 : decode cX10_cutsIt 93 = .ok (.ireturn, 1) := by decide +kernel
theorem dX10_cutsIt_94 : decode cX10_cutsIt 94 = .ok (.aload_n 0, 1) := by decide +kernel
theorem dX10_cutsIt_95 : decode cX10_cutsIt 95 = .ok (.iload_n 2, 1) := by decide +kernel
theorem dX10_cutsIt_96 : decode cX10_cutsIt 96 = .ok (.iload 4, 2) := by decide +kernel
theorem dX10_cutsIt_98 : decode cX10_cutsIt 98 = .ok (.invokevirtual 254, 3) := by decide +kernel
theorem dX10_cutsIt_101 : decode cX10_cutsIt 101 = .ok (.iconst 1, 1) := by decide +kernel
theorem dX10_cutsIt_102 : decode cX10_cutsIt 102 = .ok (.if_icmp .ne 16, 3) := by decide +kernel
theorem dX10_cutsIt_105 : decode cX10_cutsIt 105 = .ok (.aload_n 0, 1) := by decide +kernel
theorem dX10_cutsIt_106 : decode cX10_cutsIt 106 = .ok (.iload_n 2, 1) := by decide +kernel
theorem dX10_cutsIt_107 : decode cX10_cutsIt 107 = .ok (.iconst 4, 1) := by decide +kernel
theorem dX10_cutsIt_108 : decode cX10_cutsIt 108 = .ok (.invokevirtual 108, 3) := by decide +kernel
theorem dX10_cutsIt_111 : decode cX10_cutsIt 111 = .ok (.ifCond .ne 7, 3) := by decide +kernel
theorem dX10_cutsIt_114 : decode cX10_cutsIt 114 = .ok (.iconst 1, 1) := by decide +kernel
theorem dX10_cutsIt_115 : decode cX10_cutsIt 115 = .ok (.goto 4, 3) := by decide +kernel
theorem dX10_cutsIt_118 : decode cX10_cutsIt 118 = .ok (.iconst 0, 1) := by decide +kernel
theorem dX10_cutsIt_119 : decode cX10_cutsIt 119 = .ok (.ireturn, 1) := by decide +kernel
theorem dX10_cutsIt_120 : decode cX10_cutsIt 120 = .ok (.aload_n 0, 1) := by decide +kernel
theorem dX10_cutsIt_121 : decode cX10_cutsIt 121 = .ok (.iload_n 2, 1) := by decide +kernel
theorem dX10_cutsIt_122 : decode cX10_cutsIt 122 = .ok (.iload 4, 2) := by decide +kernel
theorem dX10_cutsIt_124 : decode cX10_cutsIt 124 = .ok (.invokevirtual 254, 3) := by decide +kernel
theorem dX10_cutsIt_127 : decode cX10_cutsIt 127 = .ok (.iconst 1, 1) := by decide +kernel
theorem dX10_cutsIt_128 : decode cX10_cutsIt 128 = .ok (.if_icmp .ne 7, 3) := by decide +kernel
theorem dX10_cutsIt_131 : decode cX10_cutsIt 131 = .ok (.iconst 1, 1) := by decide +kernel
theorem dX10_cutsIt_132 : decode cX10_cutsIt 132 = .ok (.goto 4, 3) := by decide +kernel
theorem dX10_cutsIt_135 : decode cX10_cutsIt 135 = .ok (.iconst 0, 1) := by decide +kernel
theorem dX10_cutsIt_136 : decode cX10_cutsIt 136 = .ok (.ireturn, 1) := by decide +kernel
theorem dX10_cutsIt_137 : decode cX10_cutsIt 137 = .ok (.aload_n 0, 1) := by decide +kernel
theorem dX10_cutsIt_138 : decode cX10_cutsIt 138 = .ok (.iload_n 2, 1) := by decide +kernel
theorem dX10_cutsIt_139 : decode cX10_cutsIt 139 = .ok (.iload 4, 2) := by decide +kernel
theorem dX10_cutsIt_141 : decode cX10_cutsIt 141 = .ok (.invokevirtual 254, 3) := by decide +kernel
theorem dX10_cutsIt_144 : decode cX10_cutsIt 144 = .ok (.ifCond .le 7, 3) := by decide +kernel
theorem dX10_cutsIt_147 : decode cX10_cutsIt 147 = .ok (.iconst 1, 1) := by decide +kernel
theorem dX10_cutsIt_148 : decode cX10_cutsIt 148 = .ok (.goto 4, 3) := by decide +kernel
theorem dX10_cutsIt_151 : decode cX10_cutsIt 151 = .ok (.iconst 0, 1) := by decide +kernel
theorem dX10_cutsIt_152 : decode cX10_cutsIt 152 = .ok (.ireturn, 1) := by decide +kernel
theorem dX10_cutsIt_153 : decode cX10_cutsIt 153 = .ok (.aload_n 0, 1) := by decide +kernel
theorem dX10_cutsIt_154 : decode cX10_cutsIt 154 = .ok (.iload_n 2, 1) := by decide +kernel
theorem dX10_cutsIt_155 : decode cX10_cutsIt 155 = .ok (.iload 4, 2) := by decide +kernel
theorem dX10_cutsIt_157 : decode cX10_cutsIt 157 = .ok (.invokevirtual 254, 3) := by decide +kernel
theorem dX10_cutsIt_160 : decode cX10_cutsIt 160 = .ok (.iconst 2, 1) := by decide +kernel
theorem dX10_cutsIt_161 : decode cX10_cutsIt 161 = .ok (.if_icmp .ne 7, 3) := by decide +kernel
theorem dX10_cutsIt_164 : decode cX10_cutsIt 164 = .ok (.iconst 1, 1) := by decide +kernel
theorem dX10_cutsIt_165 : decode cX10_cutsIt 165 = .ok (.goto 4, 3) := by decide +kernel
theorem dX10_cutsIt_168 : decode cX10_cutsIt 168 = .ok (.iconst 0, 1) := by decide +kernel
theorem dX10_cutsIt_169 : decode cX10_cutsIt 169 = .ok (.ireturn, 1) := by decide +kernel
set_option maxRecDepth 20000 in
theorem ggX10_isOpen_X10_cutsIt : GoodIn wsX10_isOpen wsX10_cutsIt := goodIn_r _ [6, 7, 8, 9, 10, 5, 11, 12, 13, 14, 15, 16, 17, 18, 19, 20, 21, 22, 23, 24, 25, 26, 27, 28, 29, 30, 31, 32, 33, 34, 35, 36, 37, 38, 39, 40, 41, 42, 43, 44, 45, 46, 47, 48, 49, 50, 51, 52, 53, 54, 55, 56, 57, 58, 59, 60, 61, 62, 63, 64, 65, 66, 67, 68, 69, 70, 71, 72, 73, 74, 75, 76, 77] (by decide +kernel) (by decide +kernel)
set_option maxRecDepth 20000 in
theorem gX10_isOpen_X10_cutsIt : GoodIn wsX10_isOpen (wsV RX10 257 RX10 yX10_cutsIt wsX10_cutsIt) := goodIn_app (goodIn_of _ (by decide +kernel)) ggX10_isOpen_X10_cutsIt
theorem dX10_isOpen_0 : decode cX10_isOpen 0 = .ok (.iconst 0, 1) := by decide +kernel
theorem dX10_isOpen_1 : decode cX10_isOpen 1 = .ok (.istore_n 3, 1) := by decide +kernel
theorem dX10_isOpen_2 : decode cX10_isOpen 2 = .ok (.iload_n 3, 1) := by decide +kernel
theorem dX10_isOpen_3 : decode cX10_isOpen 3 = .ok (.aload_n 0, 1) := by decide +kernel
theorem dX10_isOpen_4 : decode cX10_isOpen 4 = .ok (.getfield 225, 3) := by decide +kernel
theorem dX10_isOpen_7 : decode cX10_isOpen 7 = .ok (.if_icmp .ge 21, 3) := by decide +kernel
theorem dX10_isOpen_10 : decode cX10_isOpen 10 = .ok (.aload_n 0, 1) := by decide +kernel
theorem dX10_isOpen_11 : decode cX10_isOpen 11 = .ok (.iload_n 3, 1) := by decide +kernel
theorem dX10_isOpen_12 : decode cX10_isOpen 12 = .ok (.iload_n 1, 1) := by decide +kernel
theorem dX10_isOpen_13 : decode cX10_isOpen 13 = .ok (.iload_n 2, 1) := by decide +kernel
theorem dX10_isOpen_14 : decode cX10_isOpen 14 = .ok (.invokevirtual 257, 3) := by decide +kernel
theorem dX10_isOpen_17 : decode cX10_isOpen 17 = .ok (.ifCond .eq 5, 3) := by decide +kernel
theorem dX10_isOpen_20 : decode cX10_isOpen 20 = .ok (.iconst 0, 1) := by decide +kernel
theorem dX10_isOpen_21 : decode cX10_isOpen 21 = .ok (.ireturn, 1) := by decide +kernel
theorem dX10_isOpen_22 : decode cX10_isOpen 22 = .ok (.iinc 3 1, 3) := by decide +kernel
theorem dX10_isOpen_25 : decode cX10_isOpen 25 = .ok (.goto (-23), 3) := by decide +kernel
theorem dX10_isOpen_28 : decode cX10_isOpen 28 = .ok (.iconst 1, 1) := by decide +kernel
theorem dX10_isOpen_29 : decode cX10_isOpen 29 = .ok (.ireturn, 1) := by decide +kernel
set_option maxRecDepth 20000 in
theorem ggX10_openOn_X10_isOpen : GoodIn wsX10_openOn wsX10_isOpen := goodIn_r _ [6, 7, 8, 9, 10, 5, 11, 12, 13, 14, 15, 16, 17, 18, 19, 20, 21, 22, 23, 24, 25, 26, 27, 28, 29, 30, 31, 32, 33, 34, 35, 36, 37, 38, 39, 40, 41, 42, 43, 44, 45, 46, 47, 48, 49, 50, 51, 52, 53, 54, 55, 56, 57, 58, 59, 60, 61, 62, 63, 64, 65, 66, 67, 68, 69, 70, 71, 72, 73, 74, 75, 76, 77, 78, 79, 80, 81, 82] (by decide +kernel) (by decide +kernel)
set_option maxRecDepth 20000 in
theorem gX10_openOn_X10_isOpen : GoodIn wsX10_openOn (wsV RX10 260 RX10 yX10_isOpen wsX10_isOpen) := goodIn_app (goodIn_of _ (by decide +kernel)) ggX10_openOn_X10_isOpen
theorem dX10_openOn_0 : decode cX10_openOn 0 = .ok (.iconst 0, 1) := by decide +kernel
theorem dX10_openOn_1 : decode cX10_openOn 1 = .ok (.istore_n 2, 1) := by decide +kernel
theorem dX10_openOn_2 : decode cX10_openOn 2 = .ok (.iconst 0, 1) := by decide +kernel
theorem dX10_openOn_3 : decode cX10_openOn 3 = .ok (.istore_n 3, 1) := by decide +kernel
theorem dX10_openOn_4 : decode cX10_openOn 4 = .ok (.iload_n 3, 1) := by decide +kernel
theorem dX10_openOn_5 : decode cX10_openOn 5 = .ok (.aload_n 0, 1) := by decide +kernel
theorem dX10_openOn_6 : decode cX10_openOn 6 = .ok (.getfield 101, 3) := by decide +kernel
theorem dX10_openOn_9 : decode cX10_openOn 9 = .ok (.if_icmp .ge 28, 3) := by decide +kernel
theorem dX10_openOn_12 : decode cX10_openOn 12 = .ok (.iload_n 2, 1) := by decide +kernel
theorem dX10_openOn_13 : decode cX10_openOn 13 = .ok (.aload_n 0, 1) := by decide +kernel
theorem dX10_openOn_14 : decode cX10_openOn 14 = .ok (.iload_n 3, 1) := by decide +kernel
theorem dX10_openOn_15 : decode cX10_openOn 15 = .ok (.iload_n 1, 1) := by decide +kernel
theorem dX10_openOn_16 : decode cX10_openOn 16 = .ok (.invokevirtual 260, 3) := by decide +kernel
theorem dX10_openOn_19 : decode cX10_openOn 19 = .ok (.ifCond .eq 9, 3) := by decide +kernel
theorem dX10_openOn_22 : decode cX10_openOn 22 = .ok (.iconst 1, 1) := by decide +kernel
theorem dX10_openOn_23 : decode cX10_openOn 23 = .ok (.iload_n 3, 1) := by decide +kernel
theorem dX10_openOn_24 : decode cX10_openOn 24 = .ok (.ishl, 1) := by decide +kernel
theorem dX10_openOn_25 : decode cX10_openOn 25 = .ok (.goto 4, 3) := by decide +kernel
theorem dX10_openOn_28 : decode cX10_openOn 28 = .ok (.iconst 0, 1) := by decide +kernel
theorem dX10_openOn_29 : decode cX10_openOn 29 = .ok (.ior, 1) := by decide +kernel
theorem dX10_openOn_30 : decode cX10_openOn 30 = .ok (.istore_n 2, 1) := by decide +kernel
theorem dX10_openOn_31 : decode cX10_openOn 31 = .ok (.iinc 3 1, 3) := by decide +kernel
theorem dX10_openOn_34 : decode cX10_openOn 34 = .ok (.goto (-30), 3) := by decide +kernel
theorem dX10_openOn_37 : decode cX10_openOn 37 = .ok (.iload_n 2, 1) := by decide +kernel
theorem dX10_openOn_38 : decode cX10_openOn 38 = .ok (.ireturn, 1) := by decide +kernel
set_option maxRecDepth 20000 in
theorem ggX10_open_X10_isTie : GoodIn wsX10_open wsX10_isTie := goodIn_r _ [5, 6, 7, 8, 4, 9, 36, 37, 38, 39, 40, 41, 42, 43, 44, 45, 46, 47, 48, 49, 50, 51, 52, 53, 54, 55, 56, 57, 58, 59, 60, 61, 62, 63, 64, 65, 66, 67, 68, 69, 70, 71, 72, 73, 74, 75, 76, 77, 78, 79, 80, 81, 82, 83, 84, 85, 86, 87, 88, 89] (by decide +kernel) (by decide +kernel)
set_option maxRecDepth 20000 in
theorem gX10_open_X10_isTie : GoodIn wsX10_open (wsV RX10 241 RX10 yX10_isTie wsX10_isTie) := goodIn_app (goodIn_of _ (by decide +kernel)) ggX10_open_X10_isTie
set_option maxRecDepth 20000 in
theorem ggX10_open_X10_in : GoodIn wsX10_open wsX10_in := goodIn_r _ [9] (by decide +kernel) (by decide +kernel)
set_option maxRecDepth 20000 in
theorem gX10_open_X10_in : GoodIn wsX10_open (va_wsS RX10 97 yX10_in wsX10_in) := goodIn_app (goodIn_of _ (by decide +kernel)) ggX10_open_X10_in
set_option maxRecDepth 20000 in
theorem ggX10_open_X10_isOpen : GoodIn wsX10_open wsX10_isOpen := goodIn_r _ [13, 14, 15, 16, 17, 4, 18, 19, 20, 21, 22, 23, 24, 25, 26, 27, 28, 29, 30, 31, 32, 33, 34, 35, 36, 37, 38, 39, 40, 41, 42, 43, 44, 45, 46, 47, 48, 49, 50, 51, 52, 53, 54, 55, 56, 57, 58, 59, 60, 61, 62, 63, 64, 65, 66, 67, 68, 69, 70, 71, 72, 73, 74, 75, 76, 77, 78, 79, 80, 81, 82, 83, 84, 85, 86, 87, 88, 89] (by decide +kernel) (by decide +kernel)
set_option maxRecDepth 20000 in
theorem gX10_open_X10_isOpen : GoodIn wsX10_open (wsV RX10 260 RX10 yX10_isOpen wsX10_isOpen) := goodIn_app (goodIn_of _ (by decide +kernel)) ggX10_open_X10_isOpen
theorem dX10_open_0 : decode cX10_open 0 = .ok (.aload_n 0, 1) := by decide +kernel
theorem dX10_open_1 : decode cX10_open 1 = .ok (.iload_n 1, 1) := by decide +kernel
theorem dX10_open_2 : decode cX10_open 2 = .ok (.invokevirtual 241, 3) := by decide +kernel
theorem dX10_open_5 : decode cX10_open 5 = .ok (.ifCond .eq 13, 3) := by decide +kernel
theorem dX10_open_8 : decode cX10_open 8 = .ok (.iload_n 2, 1) := by decide +kernel
theorem dX10_open_9 : decode cX10_open 9 = .ok (.iconst 0, 1) := by decide +kernel
theorem dX10_open_10 : decode cX10_open 10 = .ok (.bipush 99, 2) := by decide +kernel
theorem dX10_open_12 : decode cX10_open 12 = .ok (.invokestatic 97, 3) := by decide +kernel
theorem dX10_open_15 : decode cX10_open 15 = .ok (.ifCond .ne 5, 3) := by decide +kernel
theorem dX10_open_18 : decode cX10_open 18 = .ok (.iconst (-1), 1) := by decide +kernel
theorem dX10_open_19 : decode cX10_open 19 = .ok (.ireturn, 1) := by decide +kernel
theorem dX10_open_20 : decode cX10_open 20 = .ok (.aload_n 0, 1) := by decide +kernel
theorem dX10_open_21 : decode cX10_open 21 = .ok (.iload_n 1, 1) := by decide +kernel
theorem dX10_open_22 : decode cX10_open 22 = .ok (.iload_n 2, 1) := by decide +kernel
theorem dX10_open_23 : decode cX10_open 23 = .ok (.invokevirtual 260, 3) := by decide +kernel
theorem dX10_open_26 : decode cX10_open 26 = .ok (.ifCond .eq 7, 3) := by decide +kernel
theorem dX10_open_29 : decode cX10_open 29 = .ok (.iconst 1, 1) := by decide +kernel
theorem dX10_open_30 : decode cX10_open 30 = .ok (.goto 4, 3) := by decide +kernel
theorem dX10_open_33 : decode cX10_open 33 = .ok (.iconst 0, 1) := by decide +kernel
theorem dX10_open_34 : decode cX10_open 34 = .ok (.ireturn, 1) := by decide +kernel
set_option maxRecDepth 20000 in
theorem ggX10_around_X10_inSet : GoodIn wsX10_around wsX10_inSet := goodIn_r _ [6, 7, 8, 9, 5, 10, 11, 12, 13, 14, 15, 16, 17, 18, 19, 20, 21, 22, 23, 24, 25, 26, 27, 28, 29, 30, 31, 32, 33, 34, 35, 36, 37, 38, 39, 40, 41, 42, 43, 44, 45, 46, 47, 48, 49, 50, 51, 52, 53, 54, 55, 56, 57, 58, 59, 60, 61, 62, 63, 64, 65, 66, 67, 68, 69, 70, 71, 72] (by decide +kernel) (by decide +kernel)
set_option maxRecDepth 20000 in
theorem gX10_around_X10_inSet : GoodIn wsX10_around (wsV RX10 254 RX10 yX10_inSet wsX10_inSet) := goodIn_app (goodIn_of _ (by decide +kernel)) ggX10_around_X10_inSet
set_option maxRecDepth 20000 in
theorem ggX10_around_X10_ends : GoodIn wsX10_around wsX10_ends := goodIn_r _ [10, 11, 12, 13, 5, 14, 15, 19, 20, 21, 22, 23, 24, 25, 26, 27, 28, 29, 30, 31, 32, 33, 34, 35, 36, 37, 38, 39, 40, 41, 42, 43, 44, 45, 46, 47, 48, 49, 50, 51, 52, 53, 54, 55, 56, 57, 58, 59, 60, 61, 62, 63, 64, 65, 66, 67, 68, 69, 70, 71, 72] (by decide +kernel) (by decide +kernel)
set_option maxRecDepth 20000 in
theorem gX10_around_X10_ends : GoodIn wsX10_around (wsV RX10 112 RX10 yX10_ends wsX10_ends) := goodIn_app (goodIn_of _ (by decide +kernel)) ggX10_around_X10_ends
theorem dX10_around_0 : decode cX10_around 0 = .ok (.iload_n 1, 1) := by decide +kernel
theorem dX10_around_1 : decode cX10_around 1 = .ok (.istore_n 3, 1) := by decide +kernel
theorem dX10_around_2 : decode cX10_around 2 = .ok (.iconst 0, 1) := by decide +kernel
theorem dX10_around_3 : decode cX10_around 3 = .ok (.istore 4, 2) := by decide +kernel
theorem dX10_around_5 : decode cX10_around 5 = .ok (.iload 4, 2) := by decide +kernel
theorem dX10_around_7 : decode cX10_around 7 = .ok (.aload_n 0, 1) := by decide +kernel
theorem dX10_around_8 : decode cX10_around 8 = .ok (.getfield 101, 3) := by decide +kernel
theorem dX10_around_11 : decode cX10_around 11 = .ok (.if_icmp .ge 43, 3) := by decide +kernel
theorem dX10_around_14 : decode cX10_around 14 = .ok (.iload_n 3, 1) := by decide +kernel
theorem dX10_around_15 : decode cX10_around 15 = .ok (.iload_n 2, 1) := by decide +kernel
theorem dX10_around_16 : decode cX10_around 16 = .ok (.iload 4, 2) := by decide +kernel
theorem dX10_around_18 : decode cX10_around 18 = .ok (.ishr, 1) := by decide +kernel
theorem dX10_around_19 : decode cX10_around 19 = .ok (.iconst 1, 1) := by decide +kernel
theorem dX10_around_20 : decode cX10_around 20 = .ok (.iand, 1) := by decide +kernel
theorem dX10_around_21 : decode cX10_around 21 = .ok (.iconst 1, 1) := by decide +kernel
theorem dX10_around_22 : decode cX10_around 22 = .ok (.if_icmp .ne 23, 3) := by decide +kernel
theorem dX10_around_25 : decode cX10_around 25 = .ok (.aload_n 0, 1) := by decide +kernel
theorem dX10_around_26 : decode cX10_around 26 = .ok (.iload 4, 2) := by decide +kernel
theorem dX10_around_28 : decode cX10_around 28 = .ok (.iload_n 1, 1) := by decide +kernel
theorem dX10_around_29 : decode cX10_around 29 = .ok (.invokevirtual 254, 3) := by decide +kernel
theorem dX10_around_32 : decode cX10_around 32 = .ok (.iconst 1, 1) := by decide +kernel
theorem dX10_around_33 : decode cX10_around 33 = .ok (.if_icmp .ne 12, 3) := by decide +kernel
theorem dX10_around_36 : decode cX10_around 36 = .ok (.aload_n 0, 1) := by decide +kernel
theorem dX10_around_37 : decode cX10_around 37 = .ok (.iload 4, 2) := by decide +kernel
theorem dX10_around_39 : decode cX10_around 39 = .ok (.invokevirtual 112, 3) := by decide +kernel
theorem dX10_around_42 : decode cX10_around 42 = .ok (.goto 4, 3) := by decide +kernel
theorem dX10_around_45 : decode cX10_around 45 = .ok (.iconst 0, 1) := by decide +kernel
theorem dX10_around_46 : decode cX10_around 46 = .ok (.ior, 1) := by decide +kernel
theorem dX10_around_47 : decode cX10_around 47 = .ok (.istore_n 3, 1) := by decide +kernel
theorem dX10_around_48 : decode cX10_around 48 = .ok (.iinc 4 1, 3) := by decide +kernel
theorem dX10_around_51 : decode cX10_around 51 = .ok (.goto (-46), 3) := by decide +kernel
theorem dX10_around_54 : decode cX10_around 54 = .ok (.iload_n 3, 1) := by decide +kernel
theorem dX10_around_55 : decode cX10_around 55 = .ok (.ireturn, 1) := by decide +kernel
set_option maxRecDepth 20000 in
theorem ggX10_joinedBy_X10_around : GoodIn wsX10_joinedBy wsX10_around := goodIn_r _ [5, 6, 7, 8, 9, 4, 10, 11, 12, 13, 14, 15, 16, 17, 18, 19, 20, 21, 22, 23, 24, 25, 26, 27, 28, 29, 30, 31, 32, 33, 34, 35, 36, 37, 38, 39, 40, 41, 42, 43, 44, 45, 46, 47, 48, 49, 50, 51, 52, 53, 54, 55, 56, 57, 58, 59, 60, 61, 62, 63, 64, 65, 66, 67, 68, 69, 70, 71, 72, 73, 74, 75, 76] (by decide +kernel) (by decide +kernel)
set_option maxRecDepth 20000 in
theorem gX10_joinedBy_X10_around : GoodIn wsX10_joinedBy (wsV RX10 263 RX10 yX10_around wsX10_around) := goodIn_app (goodIn_of _ (by decide +kernel)) ggX10_joinedBy_X10_around
theorem dX10_joinedBy_0 : decode cX10_joinedBy 0 = .ok (.iconst 0, 1) := by decide +kernel
theorem dX10_joinedBy_1 : decode cX10_joinedBy 1 = .ok (.istore 4, 2) := by decide +kernel
theorem dX10_joinedBy_3 : decode cX10_joinedBy 3 = .ok (.iload_n 1, 1) := by decide +kernel
theorem dX10_joinedBy_4 : decode cX10_joinedBy 4 = .ok (.iload_n 3, 1) := by decide +kernel
theorem dX10_joinedBy_5 : decode cX10_joinedBy 5 = .ok (.iand, 1) := by decide +kernel
theorem dX10_joinedBy_6 : decode cX10_joinedBy 6 = .ok (.istore 5, 2) := by decide +kernel
theorem dX10_joinedBy_8 : decode cX10_joinedBy 8 = .ok (.iload 5, 2) := by decide +kernel
theorem dX10_joinedBy_10 : decode cX10_joinedBy 10 = .ok (.iload 4, 2) := by decide +kernel
theorem dX10_joinedBy_12 : decode cX10_joinedBy 12 = .ok (.if_icmp .eq 21, 3) := by decide +kernel
theorem dX10_joinedBy_15 : decode cX10_joinedBy 15 = .ok (.iload 5, 2) := by decide +kernel
theorem dX10_joinedBy_17 : decode cX10_joinedBy 17 = .ok (.istore 4, 2) := by decide +kernel
theorem dX10_joinedBy_19 : decode cX10_joinedBy 19 = .ok (.aload_n 0, 1) := by decide +kernel
theorem dX10_joinedBy_20 : decode cX10_joinedBy 20 = .ok (.iload 4, 2) := by decide +kernel
theorem dX10_joinedBy_22 : decode cX10_joinedBy 22 = .ok (.iload_n 2, 1) := by decide +kernel
theorem dX10_joinedBy_23 : decode cX10_joinedBy 23 = .ok (.invokevirtual 263, 3) := by decide +kernel
theorem dX10_joinedBy_26 : decode cX10_joinedBy 26 = .ok (.iload_n 3, 1) := by decide +kernel
theorem dX10_joinedBy_27 : decode cX10_joinedBy 27 = .ok (.iand, 1) := by decide +kernel
theorem dX10_joinedBy_28 : decode cX10_joinedBy 28 = .ok (.istore 5, 2) := by decide +kernel
theorem dX10_joinedBy_30 : decode cX10_joinedBy 30 = .ok (.goto (-22), 3) := by decide +kernel
theorem dX10_joinedBy_33 : decode cX10_joinedBy 33 = .ok (.iload 5, 2) := by decide +kernel
theorem dX10_joinedBy_35 : decode cX10_joinedBy 35 = .ok (.ireturn, 1) := by decide +kernel
set_option maxRecDepth 20000 in
theorem ggX10_joined_X10_isPerson : GoodIn wsX10_joined wsX10_isPerson := goodIn_r _ [5, 6, 7, 8, 4, 9, 53, 54, 55, 56, 57, 58, 59, 60, 61, 62, 63, 64, 65, 66, 67, 68, 69, 70, 71, 72, 73, 74, 75, 76, 77, 78, 79, 80, 81, 82, 83, 84, 85, 86, 87, 88, 89, 90, 91, 92, 93, 94, 95, 96, 97, 98, 99, 100, 101, 102, 103, 104, 105, 106] (by decide +kernel) (by decide +kernel)
set_option maxRecDepth 20000 in
theorem gX10_joined_X10_isPerson : GoodIn wsX10_joined (wsV RX10 104 RX10 yX10_isPerson wsX10_isPerson) := goodIn_app (goodIn_of _ (by decide +kernel)) ggX10_joined_X10_isPerson
set_option maxRecDepth 20000 in
theorem ggX10_joined_X10_openOn : GoodIn wsX10_joined wsX10_openOn := goodIn_r _ [13, 14, 15, 16, 17, 4, 18, 19, 20, 21, 22, 23, 24, 25, 26, 27, 28, 29, 30, 31, 32, 33, 34, 35, 36, 37, 38, 39, 40, 53, 54, 55, 56, 57, 58, 59, 60, 61, 62, 63, 64, 65, 66, 67, 68, 69, 70, 71, 72, 73, 74, 75, 76, 77, 78, 79, 80, 81, 82, 83, 84, 85, 86, 87, 88, 89, 90, 91, 92, 93, 94, 95, 96, 97, 98, 99, 100, 101, 102, 103, 104, 105, 106] (by decide +kernel) (by decide +kernel)
set_option maxRecDepth 20000 in
theorem gX10_joined_X10_openOn : GoodIn wsX10_joined (wsV RX10 266 RX10 yX10_openOn wsX10_openOn) := goodIn_app (goodIn_of _ (by decide +kernel)) ggX10_joined_X10_openOn
set_option maxRecDepth 20000 in
theorem ggX10_joined_X10_all : GoodIn wsX10_joined wsX10_all := goodIn_r _ [44, 6, 53, 54, 55, 56, 57, 58, 59, 60, 61, 62, 63, 64, 65, 66, 67, 68, 69, 70, 71, 72, 73, 74, 75, 76, 77, 78, 79, 80, 81, 82, 83, 84, 85, 86, 87, 88, 89, 90, 91, 92, 93, 94, 95, 96, 97, 98, 99, 100, 101, 102, 103, 104, 105, 106] (by decide +kernel) (by decide +kernel)
set_option maxRecDepth 20000 in
theorem gX10_joined_X10_all : GoodIn wsX10_joined (wsV RX10 244 RX10 yX10_all wsX10_all) := goodIn_app (goodIn_of _ (by decide +kernel)) ggX10_joined_X10_all
set_option maxRecDepth 20000 in
theorem ggX10_joined_X10_joinedBy : GoodIn wsX10_joined wsX10_joinedBy := goodIn_r _ [48, 49, 50, 51, 4, 52, 14, 25, 26, 27, 28, 29, 30, 31, 32, 33, 34, 35, 36, 37, 38, 39, 40, 53, 54, 55, 56, 57, 58, 59, 60, 61, 62, 63, 64, 65, 66, 67, 68, 69, 70, 71, 72, 73, 74, 75, 76, 77, 78, 79, 80, 81, 82, 83, 84, 85, 86, 87, 88, 89, 90, 91, 92, 93, 94, 95, 96, 97, 98, 99, 100, 101, 102, 103, 104, 105, 106] (by decide +kernel) (by decide +kernel)
set_option maxRecDepth 20000 in
theorem gX10_joined_X10_joinedBy : GoodIn wsX10_joined (wsV RX10 269 RX10 yX10_joinedBy wsX10_joinedBy) := goodIn_app (goodIn_of _ (by decide +kernel)) ggX10_joined_X10_joinedBy
theorem dX10_joined_0 : decode cX10_joined 0 = .ok (.aload_n 0, 1) := by decide +kernel
theorem dX10_joined_1 : decode cX10_joined 1 = .ok (.iload_n 1, 1) := by decide +kernel
theorem dX10_joined_2 : decode cX10_joined 2 = .ok (.invokevirtual 104, 3) := by decide +kernel
theorem dX10_joined_5 : decode cX10_joined 5 = .ok (.ifCond .eq 22, 3) := by decide +kernel
theorem dX10_joined_8 : decode cX10_joined 8 = .ok (.aload_n 0, 1) := by decide +kernel
theorem dX10_joined_9 : decode cX10_joined 9 = .ok (.iconst 1, 1) := by decide +kernel
theorem dX10_joined_10 : decode cX10_joined 10 = .ok (.iload_n 1, 1) := by decide +kernel
theorem dX10_joined_11 : decode cX10_joined 11 = .ok (.ishl, 1) := by decide +kernel
theorem dX10_joined_12 : decode cX10_joined 12 = .ok (.aload_n 0, 1) := by decide +kernel
theorem dX10_joined_13 : decode cX10_joined 13 = .ok (.iconst 0, 1) := by decide +kernel
theorem dX10_joined_14 : decode cX10_joined 14 = .ok (.invokevirtual 266, 3) := by decide +kernel
theorem dX10_joined_17 : decode cX10_joined 17 = .ok (.aload_n 0, 1) := by decide +kernel
theorem dX10_joined_18 : decode cX10_joined 18 = .ok (.invokevirtual 244, 3) := by decide +kernel
theorem dX10_joined_21 : decode cX10_joined 21 = .ok (.invokevirtual 269, 3) := by decide +kernel
theorem dX10_joined_24 : decode cX10_joined 24 = .ok (.goto 4, 3) := by decide +kernel
theorem dX10_joined_27 : decode cX10_joined 27 = .ok (.iconst (-1), 1) := by decide +kernel
theorem dX10_joined_28 : decode cX10_joined 28 = .ok (.ireturn, 1) := by decide +kernel
set_option maxRecDepth 20000 in
theorem ggX10_greatest_X10_joinedBy : GoodIn wsX10_greatest wsX10_joinedBy := goodIn_r _ [6, 7, 8, 9, 5, 10, 11, 12, 13, 14, 15, 16, 17, 18, 19, 20, 21, 22, 23, 24, 25, 26, 27, 28, 29, 30, 31, 32, 33, 34, 35, 36, 37, 38, 39, 40, 41, 42, 43, 44, 45, 46, 47, 48, 49, 50, 51, 52, 53, 54, 55, 56, 57, 58, 59, 60, 61, 62, 63, 64, 65, 66, 67, 68, 69, 70, 71, 72, 73, 74, 75, 76, 77, 78, 79, 80, 81] (by decide +kernel) (by decide +kernel)
set_option maxRecDepth 20000 in
theorem gX10_greatest_X10_joinedBy : GoodIn wsX10_greatest (wsV RX10 269 RX10 yX10_joinedBy wsX10_joinedBy) := goodIn_app (goodIn_of _ (by decide +kernel)) ggX10_greatest_X10_joinedBy
set_option maxRecDepth 20000 in
theorem ggX10_greatest_X10_ones : GoodIn wsX10_greatest wsX10_ones := goodIn_r _ [27] (by decide +kernel) (by decide +kernel)
set_option maxRecDepth 20000 in
theorem gX10_greatest_X10_ones : GoodIn wsX10_greatest (va_wsS RX10 116 yX10_ones wsX10_ones) := goodIn_app (goodIn_of _ (by decide +kernel)) ggX10_greatest_X10_ones
theorem dX10_greatest_0 : decode cX10_greatest 0 = .ok (.iconst 0, 1) := by decide +kernel
theorem dX10_greatest_1 : decode cX10_greatest 1 = .ok (.istore_n 3, 1) := by decide +kernel
theorem dX10_greatest_2 : decode cX10_greatest 2 = .ok (.iload_n 2, 1) := by decide +kernel
theorem dX10_greatest_3 : decode cX10_greatest 3 = .ok (.istore 4, 2) := by decide +kernel
theorem dX10_greatest_5 : decode cX10_greatest 5 = .ok (.aload_n 0, 1) := by decide +kernel
theorem dX10_greatest_6 : decode cX10_greatest 6 = .ok (.iconst 0, 1) := by decide +kernel
theorem dX10_greatest_7 : decode cX10_greatest 7 = .ok (.putfield 273, 3) := by decide +kernel
theorem dX10_greatest_10 : decode cX10_greatest 10 = .ok (.iload 4, 2) := by decide +kernel
theorem dX10_greatest_12 : decode cX10_greatest 12 = .ok (.ifCond .eq 58, 3) := by decide +kernel
theorem dX10_greatest_15 : decode cX10_greatest 15 = .ok (.aload_n 0, 1) := by decide +kernel
theorem dX10_greatest_16 : decode cX10_greatest 16 = .ok (.iload 4, 2) := by decide +kernel
theorem dX10_greatest_18 : decode cX10_greatest 18 = .ok (.iload 4, 2) := by decide +kernel
theorem dX10_greatest_20 : decode cX10_greatest 20 = .ok (.ineg, 1) := by decide +kernel
theorem dX10_greatest_21 : decode cX10_greatest 21 = .ok (.iand, 1) := by decide +kernel
theorem dX10_greatest_22 : decode cX10_greatest 22 = .ok (.iload_n 1, 1) := by decide +kernel
theorem dX10_greatest_23 : decode cX10_greatest 23 = .ok (.iload_n 2, 1) := by decide +kernel
theorem dX10_greatest_24 : decode cX10_greatest 24 = .ok (.invokevirtual 269, 3) := by decide +kernel
theorem dX10_greatest_27 : decode cX10_greatest 27 = .ok (.istore 5, 2) := by decide +kernel
theorem dX10_greatest_29 : decode cX10_greatest 29 = .ok (.iload 5, 2) := by decide +kernel
theorem dX10_greatest_31 : decode cX10_greatest 31 = .ok (.invokestatic 116, 3) := by decide +kernel
theorem dX10_greatest_34 : decode cX10_greatest 34 = .ok (.iload_n 3, 1) := by decide +kernel
theorem dX10_greatest_35 : decode cX10_greatest 35 = .ok (.if_icmp .le 11, 3) := by decide +kernel
theorem dX10_greatest_38 : decode cX10_greatest 38 = .ok (.iload 5, 2) := by decide +kernel
theorem dX10_greatest_40 : decode cX10_greatest 40 = .ok (.invokestatic 116, 3) := by decide +kernel
theorem dX10_greatest_43 : decode cX10_greatest 43 = .ok (.goto 4, 3) := by decide +kernel
theorem dX10_greatest_46 : decode cX10_greatest 46 = .ok (.iload_n 3, 1) := by decide +kernel
theorem dX10_greatest_47 : decode cX10_greatest 47 = .ok (.istore_n 3, 1) := by decide +kernel
theorem dX10_greatest_48 : decode cX10_greatest 48 = .ok (.iload 4, 2) := by decide +kernel
theorem dX10_greatest_50 : decode cX10_greatest 50 = .ok (.iload 5, 2) := by decide +kernel
theorem dX10_greatest_52 : decode cX10_greatest 52 = .ok (.iconst (-1), 1) := by decide +kernel
theorem dX10_greatest_53 : decode cX10_greatest 53 = .ok (.ixor, 1) := by decide +kernel
theorem dX10_greatest_54 : decode cX10_greatest 54 = .ok (.iand, 1) := by decide +kernel
theorem dX10_greatest_55 : decode cX10_greatest 55 = .ok (.istore 4, 2) := by decide +kernel
theorem dX10_greatest_57 : decode cX10_greatest 57 = .ok (.aload_n 0, 1) := by decide +kernel
theorem dX10_greatest_58 : decode cX10_greatest 58 = .ok (.dup, 1) := by decide +kernel
theorem dX10_greatest_59 : decode cX10_greatest 59 = .ok (.getfield 273, 3) := by decide +kernel
theorem dX10_greatest_62 : decode cX10_greatest 62 = .ok (.iconst 1, 1) := by decide +kernel
theorem dX10_greatest_63 : decode cX10_greatest 63 = .ok (.iadd, 1) := by decide +kernel
theorem dX10_greatest_64 : decode cX10_greatest 64 = .ok (.putfield 273, 3) := by decide +kernel
theorem dX10_greatest_67 : decode cX10_greatest 67 = .ok (.goto (-57), 3) := by decide +kernel
theorem dX10_greatest_70 : decode cX10_greatest 70 = .ok (.iload_n 3, 1) := by decide +kernel
theorem dX10_greatest_71 : decode cX10_greatest 71 = .ok (.ireturn, 1) := by decide +kernel
set_option maxRecDepth 20000 in
theorem ggX10_sets_X10_isSide : GoodIn wsX10_sets wsX10_isSide := goodIn_r _ [5, 6, 7, 4, 8] (by decide +kernel) (by decide +kernel)
set_option maxRecDepth 20000 in
theorem gX10_sets_X10_isSide : GoodIn wsX10_sets (va_wsS RX10 276 yX10_isSide wsX10_isSide) := goodIn_app (goodIn_of _ (by decide +kernel)) ggX10_sets_X10_isSide
set_option maxRecDepth 20000 in
theorem ggX10_sets_X10_openOn : GoodIn wsX10_sets wsX10_openOn := goodIn_r _ [12, 13, 14, 15, 16, 4, 17, 18, 19, 20, 21, 22, 23, 24, 25, 26, 27, 28, 29, 30, 31, 32, 33, 34, 35, 36, 37, 38, 39, 57, 58, 59, 60, 61, 62, 63, 64, 65, 66, 67, 68, 69, 70, 71, 72, 73, 74, 75, 76, 77, 78, 79, 80, 81, 82, 83, 84, 85, 86, 87, 88, 89, 90, 91, 92, 93, 94, 95, 96, 97, 98, 99, 100, 101, 102, 103, 104, 105, 106, 107, 108, 109, 110] (by decide +kernel) (by decide +kernel)
set_option maxRecDepth 20000 in
theorem gX10_sets_X10_openOn : GoodIn wsX10_sets (wsV RX10 266 RX10 yX10_openOn wsX10_openOn) := goodIn_app (goodIn_of _ (by decide +kernel)) ggX10_sets_X10_openOn
set_option maxRecDepth 20000 in
theorem ggX10_sets_X10_all : GoodIn wsX10_sets wsX10_all := goodIn_r _ [43, 44, 57, 58, 59, 60, 61, 62, 63, 64, 65, 66, 67, 68, 69, 70, 71, 72, 73, 74, 75, 76, 77, 78, 79, 80, 81, 82, 83, 84, 85, 86, 87, 88, 89, 90, 91, 92, 93, 94, 95, 96, 97, 98, 99, 100, 101, 102, 103, 104, 105, 106, 107, 108, 109, 110] (by decide +kernel) (by decide +kernel)
set_option maxRecDepth 20000 in
theorem gX10_sets_X10_all : GoodIn wsX10_sets (wsV RX10 244 RX10 yX10_all wsX10_all) := goodIn_app (goodIn_of _ (by decide +kernel)) ggX10_sets_X10_all
set_option maxRecDepth 20000 in
theorem ggX10_sets_X10_greatest : GoodIn wsX10_sets wsX10_greatest := goodIn_r _ [48, 1, 49, 50, 51, 4, 52, 53, 54, 55, 56, 13, 24, 25, 26, 27, 28, 29, 30, 31, 32, 33, 34, 35, 36, 37, 38, 39, 57, 58, 59, 60, 61, 62, 63, 64, 65, 66, 67, 68, 69, 70, 71, 72, 73, 74, 75, 76, 77, 78, 79, 80, 81, 82, 83, 84, 85, 86, 87, 88, 89, 90, 91, 92, 93, 94, 95, 96, 97, 98, 99, 100, 101, 102, 103, 104, 105, 106, 107, 108, 109, 110] (by decide +kernel) (by decide +kernel)
set_option maxRecDepth 20000 in
theorem gX10_sets_X10_greatest : GoodIn wsX10_sets (wsV RX10 279 RX10 yX10_greatest wsX10_greatest) := goodIn_app (goodIn_of _ (by decide +kernel)) ggX10_sets_X10_greatest
theorem dX10_sets_0 : decode cX10_sets 0 = .ok (.iload_n 1, 1) := by decide +kernel
theorem dX10_sets_1 : decode cX10_sets 1 = .ok (.invokestatic 276, 3) := by decide +kernel
theorem dX10_sets_4 : decode cX10_sets 4 = .ok (.ifCond .ne 5, 3) := by decide +kernel
theorem dX10_sets_7 : decode cX10_sets 7 = .ok (.iconst (-1), 1) := by decide +kernel
theorem dX10_sets_8 : decode cX10_sets 8 = .ok (.ireturn, 1) := by decide +kernel
theorem dX10_sets_9 : decode cX10_sets 9 = .ok (.aload_n 0, 1) := by decide +kernel
theorem dX10_sets_10 : decode cX10_sets 10 = .ok (.aload_n 0, 1) := by decide +kernel
theorem dX10_sets_11 : decode cX10_sets 11 = .ok (.iconst 0, 1) := by decide +kernel
theorem dX10_sets_12 : decode cX10_sets 12 = .ok (.invokevirtual 266, 3) := by decide +kernel
theorem dX10_sets_15 : decode cX10_sets 15 = .ok (.aload_n 0, 1) := by decide +kernel
theorem dX10_sets_16 : decode cX10_sets 16 = .ok (.invokevirtual 244, 3) := by decide +kernel
theorem dX10_sets_19 : decode cX10_sets 19 = .ok (.invokevirtual 279, 3) := by decide +kernel
theorem dX10_sets_22 : decode cX10_sets 22 = .ok (.istore_n 2, 1) := by decide +kernel
theorem dX10_sets_23 : decode cX10_sets 23 = .ok (.iload_n 1, 1) := by decide +kernel
theorem dX10_sets_24 : decode cX10_sets 24 = .ok (.ifCond .ne 10, 3) := by decide +kernel
theorem dX10_sets_27 : decode cX10_sets 27 = .ok (.aload_n 0, 1) := by decide +kernel
theorem dX10_sets_28 : decode cX10_sets 28 = .ok (.getfield 273, 3) := by decide +kernel
theorem dX10_sets_31 : decode cX10_sets 31 = .ok (.goto 4, 3) := by decide +kernel
theorem dX10_sets_34 : decode cX10_sets 34 = .ok (.iload_n 2, 1) := by decide +kernel
theorem dX10_sets_35 : decode cX10_sets 35 = .ok (.ireturn, 1) := by decide +kernel
theorem dX10_weights_0 : decode cX10_weights 0 = .ok (.iconst 0, 1) := by decide +kernel
theorem dX10_weights_1 : decode cX10_weights 1 = .ok (.istore_n 1, 1) := by decide +kernel
theorem dX10_weights_2 : decode cX10_weights 2 = .ok (.iconst 0, 1) := by decide +kernel
theorem dX10_weights_3 : decode cX10_weights 3 = .ok (.istore_n 2, 1) := by decide +kernel
theorem dX10_weights_4 : decode cX10_weights 4 = .ok (.iload_n 2, 1) := by decide +kernel
theorem dX10_weights_5 : decode cX10_weights 5 = .ok (.aload_n 0, 1) := by decide +kernel
theorem dX10_weights_6 : decode cX10_weights 6 = .ok (.getfield 7, 3) := by decide +kernel
theorem dX10_weights_9 : decode cX10_weights 9 = .ok (.if_icmp .ge 18, 3) := by decide +kernel
theorem dX10_weights_12 : decode cX10_weights 12 = .ok (.iload_n 1, 1) := by decide +kernel
theorem dX10_weights_13 : decode cX10_weights 13 = .ok (.aload_n 0, 1) := by decide +kernel
theorem dX10_weights_14 : decode cX10_weights 14 = .ok (.getfield 13, 3) := by decide +kernel
theorem dX10_weights_17 : decode cX10_weights 17 = .ok (.iload_n 2, 1) := by decide +kernel
theorem dX10_weights_18 : decode cX10_weights 18 = .ok (.iaload, 1) := by decide +kernel
theorem dX10_weights_19 : decode cX10_weights 19 = .ok (.iadd, 1) := by decide +kernel
theorem dX10_weights_20 : decode cX10_weights 20 = .ok (.istore_n 1, 1) := by decide +kernel
theorem dX10_weights_21 : decode cX10_weights 21 = .ok (.iinc 2 1, 3) := by decide +kernel
theorem dX10_weights_24 : decode cX10_weights 24 = .ok (.goto (-20), 3) := by decide +kernel
theorem dX10_weights_27 : decode cX10_weights 27 = .ok (.iload_n 1, 1) := by decide +kernel
theorem dX10_weights_28 : decode cX10_weights 28 = .ok (.ireturn, 1) := by decide +kernel
set_option maxRecDepth 20000 in
theorem ggX10_unsure_X10_openOn : GoodIn wsX10_unsure wsX10_openOn := goodIn_r _ [6, 1, 7, 8, 9, 5, 10, 11, 12, 13, 14, 15, 16, 17, 18, 19, 20, 21, 22, 23, 24, 25, 26, 27, 28, 29, 30, 31, 32, 33, 34, 35, 36, 37, 38, 39, 40, 41, 42, 43, 44, 45, 46, 47, 48, 49, 50, 51, 52, 53, 54, 55, 56, 57, 58, 59, 60, 61, 62, 63, 64, 65, 66, 67, 68, 69, 70, 71, 72, 73, 74, 75, 76, 77, 78, 79, 80, 81, 82, 83, 84, 85, 86] (by decide +kernel) (by decide +kernel)
set_option maxRecDepth 20000 in
theorem gX10_unsure_X10_openOn : GoodIn wsX10_unsure (wsV RX10 266 RX10 yX10_openOn wsX10_openOn) := goodIn_app (goodIn_of _ (by decide +kernel)) ggX10_unsure_X10_openOn
set_option maxRecDepth 20000 in
theorem ggX10_unsure_X10_its : GoodIn wsX10_unsure wsX10_its := goodIn_r _ [28, 29, 33, 34, 35, 36, 37, 38, 39, 40, 41, 42, 43, 44, 45, 46, 47, 48, 49, 50, 51, 52, 53, 54, 55, 56, 57, 58, 59, 60, 61, 62, 63, 64, 65, 66, 67, 68, 69, 70, 71, 72, 73, 74, 75, 76, 77, 78, 79, 80, 81, 82, 83, 84, 85, 86] (by decide +kernel) (by decide +kernel)
set_option maxRecDepth 20000 in
theorem gX10_unsure_X10_its : GoodIn wsX10_unsure (wsV RX10 108 RX10 yX10_its wsX10_its) := goodIn_app (goodIn_of _ (by decide +kernel)) ggX10_unsure_X10_its
theorem dX10_unsure_0 : decode cX10_unsure 0 = .ok (.iconst 0, 1) := by decide +kernel
theorem dX10_unsure_1 : decode cX10_unsure 1 = .ok (.istore_n 1, 1) := by decide +kernel
theorem dX10_unsure_2 : decode cX10_unsure 2 = .ok (.aload_n 0, 1) := by decide +kernel
theorem dX10_unsure_3 : decode cX10_unsure 3 = .ok (.iconst 0, 1) := by decide +kernel
theorem dX10_unsure_4 : decode cX10_unsure 4 = .ok (.invokevirtual 266, 3) := by decide +kernel
theorem dX10_unsure_7 : decode cX10_unsure 7 = .ok (.istore_n 2, 1) := by decide +kernel
theorem dX10_unsure_8 : decode cX10_unsure 8 = .ok (.iconst 0, 1) := by decide +kernel
theorem dX10_unsure_9 : decode cX10_unsure 9 = .ok (.istore_n 3, 1) := by decide +kernel
theorem dX10_unsure_10 : decode cX10_unsure 10 = .ok (.iload_n 3, 1) := by decide +kernel
theorem dX10_unsure_11 : decode cX10_unsure 11 = .ok (.aload_n 0, 1) := by decide +kernel
theorem dX10_unsure_12 : decode cX10_unsure 12 = .ok (.getfield 101, 3) := by decide +kernel
theorem dX10_unsure_15 : decode cX10_unsure 15 = .ok (.if_icmp .ge 38, 3) := by decide +kernel
theorem dX10_unsure_18 : decode cX10_unsure 18 = .ok (.iload_n 1, 1) := by decide +kernel
theorem dX10_unsure_19 : decode cX10_unsure 19 = .ok (.iload_n 2, 1) := by decide +kernel
theorem dX10_unsure_20 : decode cX10_unsure 20 = .ok (.iload_n 3, 1) := by decide +kernel
theorem dX10_unsure_21 : decode cX10_unsure 21 = .ok (.ishr, 1) := by decide +kernel
theorem dX10_unsure_22 : decode cX10_unsure 22 = .ok (.iconst 1, 1) := by decide +kernel
theorem dX10_unsure_23 : decode cX10_unsure 23 = .ok (.iand, 1) := by decide +kernel
theorem dX10_unsure_24 : decode cX10_unsure 24 = .ok (.iconst 1, 1) := by decide +kernel
theorem dX10_unsure_25 : decode cX10_unsure 25 = .ok (.if_icmp .ne 19, 3) := by decide +kernel
theorem dX10_unsure_28 : decode cX10_unsure 28 = .ok (.aload_n 0, 1) := by decide +kernel
theorem dX10_unsure_29 : decode cX10_unsure 29 = .ok (.iload_n 3, 1) := by decide +kernel
theorem dX10_unsure_30 : decode cX10_unsure 30 = .ok (.iconst 3, 1) := by decide +kernel
theorem dX10_unsure_31 : decode cX10_unsure 31 = .ok (.invokevirtual 108, 3) := by decide +kernel
theorem dX10_unsure_34 : decode cX10_unsure 34 = .ok (.iconst 4, 1) := by decide +kernel
theorem dX10_unsure_35 : decode cX10_unsure 35 = .ok (.if_icmp .ge 9, 3) := by decide +kernel
theorem dX10_unsure_38 : decode cX10_unsure 38 = .ok (.iconst 1, 1) := by decide +kernel
theorem dX10_unsure_39 : decode cX10_unsure 39 = .ok (.iload_n 3, 1) := by decide +kernel
theorem dX10_unsure_40 : decode cX10_unsure 40 = .ok (.ishl, 1) := by decide +kernel
theorem dX10_unsure_41 : decode cX10_unsure 41 = .ok (.goto 4, 3) := by decide +kernel
theorem dX10_unsure_44 : decode cX10_unsure 44 = .ok (.iconst 0, 1) := by decide +kernel
theorem dX10_unsure_45 : decode cX10_unsure 45 = .ok (.ior, 1) := by decide +kernel
theorem dX10_unsure_46 : decode cX10_unsure 46 = .ok (.istore_n 1, 1) := by decide +kernel
theorem dX10_unsure_47 : decode cX10_unsure 47 = .ok (.iinc 3 1, 3) := by decide +kernel
theorem dX10_unsure_50 : decode cX10_unsure 50 = .ok (.goto (-40), 3) := by decide +kernel
theorem dX10_unsure_53 : decode cX10_unsure 53 = .ok (.iload_n 1, 1) := by decide +kernel
theorem dX10_unsure_54 : decode cX10_unsure 54 = .ok (.ireturn, 1) := by decide +kernel
set_option maxRecDepth 20000 in
theorem ggX10_oftenOf_X10_its : GoodIn wsX10_oftenOf wsX10_its := goodIn_r _ [6, 7, 8, 9, 10, 11, 12, 13, 14, 15, 16, 17, 18, 19, 20, 21, 22, 23, 24, 25, 26, 27, 28, 29, 30, 31, 32, 33, 34, 35, 36, 37, 38, 39, 40, 41, 42, 43, 44, 45, 46, 47, 48, 49, 50, 51, 52, 53, 54, 55, 56, 57, 58, 59, 60, 61] (by decide +kernel) (by decide +kernel)
set_option maxRecDepth 20000 in
theorem gX10_oftenOf_X10_its : GoodIn wsX10_oftenOf (wsV RX10 108 RX10 yX10_its wsX10_its) := goodIn_app (goodIn_of _ (by decide +kernel)) ggX10_oftenOf_X10_its
theorem dX10_oftenOf_0 : decode cX10_oftenOf 0 = .ok (.lconst 1, 1) := by decide +kernel
theorem dX10_oftenOf_1 : decode cX10_oftenOf 1 = .ok (.lstore_n 3, 1) := by decide +kernel
theorem dX10_oftenOf_2 : decode cX10_oftenOf 2 = .ok (.iconst 0, 1) := by decide +kernel
theorem dX10_oftenOf_3 : decode cX10_oftenOf 3 = .ok (.istore 5, 2) := by decide +kernel
theorem dX10_oftenOf_5 : decode cX10_oftenOf 5 = .ok (.iload 5, 2) := by decide +kernel
theorem dX10_oftenOf_7 : decode cX10_oftenOf 7 = .ok (.aload_n 0, 1) := by decide +kernel
theorem dX10_oftenOf_8 : decode cX10_oftenOf 8 = .ok (.getfield 101, 3) := by decide +kernel
theorem dX10_oftenOf_11 : decode cX10_oftenOf 11 = .ok (.if_icmp .ge 53, 3) := by decide +kernel
theorem dX10_oftenOf_14 : decode cX10_oftenOf 14 = .ok (.iload_n 2, 1) := by decide +kernel
theorem dX10_oftenOf_15 : decode cX10_oftenOf 15 = .ok (.iload 5, 2) := by decide +kernel
theorem dX10_oftenOf_17 : decode cX10_oftenOf 17 = .ok (.ishr, 1) := by decide +kernel
theorem dX10_oftenOf_18 : decode cX10_oftenOf 18 = .ok (.iconst 1, 1) := by decide +kernel
theorem dX10_oftenOf_19 : decode cX10_oftenOf 19 = .ok (.iand, 1) := by decide +kernel
theorem dX10_oftenOf_20 : decode cX10_oftenOf 20 = .ok (.iconst 1, 1) := by decide +kernel
theorem dX10_oftenOf_21 : decode cX10_oftenOf 21 = .ok (.if_icmp .ne 37, 3) := by decide +kernel
theorem dX10_oftenOf_24 : decode cX10_oftenOf 24 = .ok (.lload_n 3, 1) := by decide +kernel
theorem dX10_oftenOf_25 : decode cX10_oftenOf 25 = .ok (.iload_n 1, 1) := by decide +kernel
theorem dX10_oftenOf_26 : decode cX10_oftenOf 26 = .ok (.iload 5, 2) := by decide +kernel
theorem dX10_oftenOf_28 : decode cX10_oftenOf 28 = .ok (.ishr, 1) := by decide +kernel
theorem dX10_oftenOf_29 : decode cX10_oftenOf 29 = .ok (.iconst 1, 1) := by decide +kernel
theorem dX10_oftenOf_30 : decode cX10_oftenOf 30 = .ok (.iand, 1) := by decide +kernel
theorem dX10_oftenOf_31 : decode cX10_oftenOf 31 = .ok (.iconst 1, 1) := by decide +kernel
theorem dX10_oftenOf_32 : decode cX10_oftenOf 32 = .ok (.if_icmp .ne 14, 3) := by decide +kernel
theorem dX10_oftenOf_35 : decode cX10_oftenOf 35 = .ok (.aload_n 0, 1) := by decide +kernel
theorem dX10_oftenOf_36 : decode cX10_oftenOf 36 = .ok (.iload 5, 2) := by decide +kernel
theorem dX10_oftenOf_38 : decode cX10_oftenOf 38 = .ok (.iconst 3, 1) := by decide +kernel
theorem dX10_oftenOf_39 : decode cX10_oftenOf 39 = .ok (.invokevirtual 108, 3) := by decide +kernel
theorem dX10_oftenOf_42 : decode cX10_oftenOf 42 = .ok (.i2l, 1) := by decide +kernel
theorem dX10_oftenOf_43 : decode cX10_oftenOf 43 = .ok (.goto 13, 3) := by decide +kernel
theorem dX10_oftenOf_46 : decode cX10_oftenOf 46 = .ok (.iconst 4, 1) := by decide +kernel
theorem dX10_oftenOf_47 : decode cX10_oftenOf 47 = .ok (.aload_n 0, 1) := by decide +kernel
theorem dX10_oftenOf_48 : decode cX10_oftenOf 48 = .ok (.iload 5, 2) := by decide +kernel
theorem dX10_oftenOf_50 : decode cX10_oftenOf 50 = .ok (.iconst 3, 1) := by decide +kernel
theorem dX10_oftenOf_51 : decode cX10_oftenOf 51 = .ok (.invokevirtual 108, 3) := by decide +kernel
theorem dX10_oftenOf_54 : decode cX10_oftenOf 54 = .ok (.isub, 1) := by decide +kernel
theorem dX10_oftenOf_55 : decode cX10_oftenOf 55 = .ok (.i2l, 1) := by decide +kernel
theorem dX10_oftenOf_56 : decode cX10_oftenOf 56 = .ok (.lmul, 1) := by decide +kernel
theorem dX10_oftenOf_57 : decode cX10_oftenOf 57 = .ok (.lstore_n 3, 1) := by decide +kernel
theorem dX10_oftenOf_58 : decode cX10_oftenOf 58 = .ok (.iinc 5 1, 3) := by decide +kernel
theorem dX10_oftenOf_61 : decode cX10_oftenOf 61 = .ok (.goto (-56), 3) := by decide +kernel
theorem dX10_oftenOf_64 : decode cX10_oftenOf 64 = .ok (.lload_n 3, 1) := by decide +kernel
theorem dX10_oftenOf_65 : decode cX10_oftenOf 65 = .ok (.lreturn, 1) := by decide +kernel
theorem dX10_isSeen_0 : decode cX10_isSeen 0 = .ok (.iconst 0, 1) := by decide +kernel
theorem dX10_isSeen_1 : decode cX10_isSeen 1 = .ok (.istore_n 2, 1) := by decide +kernel
theorem dX10_isSeen_2 : decode cX10_isSeen 2 = .ok (.iload_n 2, 1) := by decide +kernel
theorem dX10_isSeen_3 : decode cX10_isSeen 3 = .ok (.aload_n 0, 1) := by decide +kernel
theorem dX10_isSeen_4 : decode cX10_isSeen 4 = .ok (.getfield 7, 3) := by decide +kernel
theorem dX10_isSeen_7 : decode cX10_isSeen 7 = .ok (.if_icmp .ge 36, 3) := by decide +kernel
theorem dX10_isSeen_10 : decode cX10_isSeen 10 = .ok (.aload_n 0, 1) := by decide +kernel
theorem dX10_isSeen_11 : decode cX10_isSeen 11 = .ok (.getfield 23, 3) := by decide +kernel
theorem dX10_isSeen_14 : decode cX10_isSeen 14 = .ok (.iload_n 2, 1) := by decide +kernel
theorem dX10_isSeen_15 : decode cX10_isSeen 15 = .ok (.iaload, 1) := by decide +kernel
theorem dX10_isSeen_16 : decode cX10_isSeen 16 = .ok (.ifCond .le 21, 3) := by decide +kernel
theorem dX10_isSeen_19 : decode cX10_isSeen 19 = .ok (.iload_n 1, 1) := by decide +kernel
theorem dX10_isSeen_20 : decode cX10_isSeen 20 = .ok (.iload_n 2, 1) := by decide +kernel
theorem dX10_isSeen_21 : decode cX10_isSeen 21 = .ok (.ishr, 1) := by decide +kernel
theorem dX10_isSeen_22 : decode cX10_isSeen 22 = .ok (.iconst 1, 1) := by decide +kernel
theorem dX10_isSeen_23 : decode cX10_isSeen 23 = .ok (.iand, 1) := by decide +kernel
theorem dX10_isSeen_24 : decode cX10_isSeen 24 = .ok (.aload_n 0, 1) := by decide +kernel
theorem dX10_isSeen_25 : decode cX10_isSeen 25 = .ok (.getfield 23, 3) := by decide +kernel
theorem dX10_isSeen_28 : decode cX10_isSeen 28 = .ok (.iload_n 2, 1) := by decide +kernel
theorem dX10_isSeen_29 : decode cX10_isSeen 29 = .ok (.iaload, 1) := by decide +kernel
theorem dX10_isSeen_30 : decode cX10_isSeen 30 = .ok (.iconst 1, 1) := by decide +kernel
theorem dX10_isSeen_31 : decode cX10_isSeen 31 = .ok (.isub, 1) := by decide +kernel
theorem dX10_isSeen_32 : decode cX10_isSeen 32 = .ok (.if_icmp .eq 5, 3) := by decide +kernel
theorem dX10_isSeen_35 : decode cX10_isSeen 35 = .ok (.iconst 0, 1) := by decide +kernel
theorem dX10_isSeen_36 : decode cX10_isSeen 36 = .ok (.ireturn, 1) := by decide +kernel
theorem dX10_isSeen_37 : decode cX10_isSeen 37 = .ok (.iinc 2 1, 3) := by decide +kernel
theorem dX10_isSeen_40 : decode cX10_isSeen 40 = .ok (.goto (-38), 3) := by decide +kernel
theorem dX10_isSeen_43 : decode cX10_isSeen 43 = .ok (.iconst 1, 1) := by decide +kernel
theorem dX10_isSeen_44 : decode cX10_isSeen 44 = .ok (.ireturn, 1) := by decide +kernel
set_option maxRecDepth 20000 in
theorem ggX10_findTale_X10_unsure : GoodIn wsX10_findTale wsX10_unsure := goodIn_r _ [9, 10, 11, 12, 13, 8, 14, 15, 16, 17, 18, 19, 20, 21, 22, 23, 24, 25, 26, 27, 28, 29, 30, 31, 32, 33, 34, 35, 36, 37, 38, 39, 40, 62, 63, 64, 65, 66, 67, 68, 69, 70, 71, 72, 73, 74, 75, 76, 77, 78, 79, 80, 81, 82, 83, 84, 85, 86, 87, 88, 89, 90, 91, 92, 93, 94, 95, 96, 97, 98, 99, 100, 101, 102, 103, 104, 105, 106, 107, 108, 109, 110, 111, 112, 113, 114, 115] (by decide +kernel) (by decide +kernel)
set_option maxRecDepth 20000 in
theorem gX10_findTale_X10_unsure : GoodIn wsX10_findTale (wsV RX10 282 RX10 yX10_unsure wsX10_unsure) := goodIn_app (goodIn_of _ (by decide +kernel)) ggX10_findTale_X10_unsure
set_option maxRecDepth 20000 in
theorem ggX10_findTale_X10_openOn : GoodIn wsX10_findTale wsX10_openOn := goodIn_r _ [14, 10, 15, 16, 17, 8, 18, 19, 20, 21, 22, 23, 24, 25, 26, 27, 28, 29, 30, 31, 32, 33, 34, 35, 36, 37, 38, 39, 40, 62, 63, 64, 65, 66, 67, 68, 69, 70, 71, 72, 73, 74, 75, 76, 77, 78, 79, 80, 81, 82, 83, 84, 85, 86, 87, 88, 89, 90, 91, 92, 93, 94, 95, 96, 97, 98, 99, 100, 101, 102, 103, 104, 105, 106, 107, 108, 109, 110, 111, 112, 113, 114, 115] (by decide +kernel) (by decide +kernel)
set_option maxRecDepth 20000 in
theorem gX10_findTale_X10_openOn : GoodIn wsX10_findTale (wsV RX10 266 RX10 yX10_openOn wsX10_openOn) := goodIn_app (goodIn_of _ (by decide +kernel)) ggX10_findTale_X10_openOn
set_option maxRecDepth 20000 in
theorem ggX10_findTale_X10_oftenOf : GoodIn wsX10_findTale wsX10_oftenOf := goodIn_r _ [44, 10, 33, 34, 35, 8, 36, 37, 62, 63, 64, 65, 66, 67, 68, 69, 70, 71, 72, 73, 74, 75, 76, 77, 78, 79, 80, 81, 82, 83, 84, 85, 86, 87, 88, 89, 90, 91, 92, 93, 94, 95, 96, 97, 98, 99, 100, 101, 102, 103, 104, 105, 106, 107, 108, 109, 110, 111, 112, 113, 114, 115] (by decide +kernel) (by decide +kernel)
set_option maxRecDepth 20000 in
theorem gX10_findTale_X10_oftenOf : GoodIn wsX10_findTale (wsV RX10 285 RX10 yX10_oftenOf wsX10_oftenOf) := goodIn_app (goodIn_of _ (by decide +kernel)) ggX10_findTale_X10_oftenOf
set_option maxRecDepth 20000 in
theorem ggX10_findTale_X10_all : GoodIn wsX10_findTale wsX10_all := goodIn_r _ [48, 1, 62, 63, 64, 65, 66, 67, 68, 69, 70, 71, 72, 73, 74, 75, 76, 77, 78, 79, 80, 81, 82, 83, 84, 85, 86, 87, 88, 89, 90, 91, 92, 93, 94, 95, 96, 97, 98, 99, 100, 101, 102, 103, 104, 105, 106, 107, 108, 109, 110, 111, 112, 113, 114, 115] (by decide +kernel) (by decide +kernel)
set_option maxRecDepth 20000 in
theorem gX10_findTale_X10_all : GoodIn wsX10_findTale (wsV RX10 244 RX10 yX10_all wsX10_all) := goodIn_app (goodIn_of _ (by decide +kernel)) ggX10_findTale_X10_all
set_option maxRecDepth 20000 in
theorem ggX10_findTale_X10_joinedBy : GoodIn wsX10_findTale wsX10_joinedBy := goodIn_r _ [52, 53, 54, 55, 8, 56, 10, 25, 26, 27, 28, 29, 30, 31, 32, 33, 34, 35, 36, 37, 38, 39, 40, 62, 63, 64, 65, 66, 67, 68, 69, 70, 71, 72, 73, 74, 75, 76, 77, 78, 79, 80, 81, 82, 83, 84, 85, 86, 87, 88, 89, 90, 91, 92, 93, 94, 95, 96, 97, 98, 99, 100, 101, 102, 103, 104, 105, 106, 107, 108, 109, 110, 111, 112, 113, 114, 115] (by decide +kernel) (by decide +kernel)
set_option maxRecDepth 20000 in
theorem gX10_findTale_X10_joinedBy : GoodIn wsX10_findTale (wsV RX10 269 RX10 yX10_joinedBy wsX10_joinedBy) := goodIn_app (goodIn_of _ (by decide +kernel)) ggX10_findTale_X10_joinedBy
set_option maxRecDepth 20000 in
theorem ggX10_findTale_X10_isSeen : GoodIn wsX10_findTale wsX10_isSeen := goodIn_r _ [60, 1, 61, 62, 63, 64, 65, 66, 67, 68, 69, 70, 71, 72, 73, 74, 75, 76, 77, 78, 79, 80, 81, 82, 83, 84, 85, 86, 87, 88, 89, 90, 91, 92, 93, 94, 95, 96, 97, 98, 99, 100, 101, 102, 103, 104, 105, 106, 107, 108, 109, 110, 111, 112, 113, 114, 115] (by decide +kernel) (by decide +kernel)
set_option maxRecDepth 20000 in
theorem gX10_findTale_X10_isSeen : GoodIn wsX10_findTale (wsV RX10 289 RX10 yX10_isSeen wsX10_isSeen) := goodIn_app (goodIn_of _ (by decide +kernel)) ggX10_findTale_X10_isSeen
theorem dX10_findTale_0 : decode cX10_findTale 0 = .ok (.aload_n 0, 1) := by decide +kernel
theorem dX10_findTale_1 : decode cX10_findTale 1 = .ok (.invokevirtual 282, 3) := by decide +kernel
theorem dX10_findTale_4 : decode cX10_findTale 4 = .ok (.istore_n 1, 1) := by decide +kernel
theorem dX10_findTale_5 : decode cX10_findTale 5 = .ok (.aload_n 0, 1) := by decide +kernel
theorem dX10_findTale_6 : decode cX10_findTale 6 = .ok (.iconst 0, 1) := by decide +kernel
theorem dX10_findTale_7 : decode cX10_findTale 7 = .ok (.invokevirtual 266, 3) := by decide +kernel
theorem dX10_findTale_10 : decode cX10_findTale 10 = .ok (.iload_n 1, 1) := by decide +kernel
theorem dX10_findTale_11 : decode cX10_findTale 11 = .ok (.iconst (-1), 1) := by decide +kernel
theorem dX10_findTale_12 : decode cX10_findTale 12 = .ok (.ixor, 1) := by decide +kernel
theorem dX10_findTale_13 : decode cX10_findTale 13 = .ok (.iand, 1) := by decide +kernel
theorem dX10_findTale_14 : decode cX10_findTale 14 = .ok (.istore_n 2, 1) := by decide +kernel
theorem dX10_findTale_15 : decode cX10_findTale 15 = .ok (.iconst 0, 1) := by decide +kernel
theorem dX10_findTale_16 : decode cX10_findTale 16 = .ok (.istore_n 3, 1) := by decide +kernel
theorem dX10_findTale_17 : decode cX10_findTale 17 = .ok (.iload_n 3, 1) := by decide +kernel
theorem dX10_findTale_18 : decode cX10_findTale 18 = .ok (.aload_n 0, 1) := by decide +kernel
theorem dX10_findTale_19 : decode cX10_findTale 19 = .ok (.getfield 7, 3) := by decide +kernel
theorem dX10_findTale_22 : decode cX10_findTale 22 = .ok (.if_icmp .ge 23, 3) := by decide +kernel
theorem dX10_findTale_25 : decode cX10_findTale 25 = .ok (.aload_n 0, 1) := by decide +kernel
theorem dX10_findTale_26 : decode cX10_findTale 26 = .ok (.getfield 41, 3) := by decide +kernel
theorem dX10_findTale_29 : decode cX10_findTale 29 = .ok (.iload_n 3, 1) := by decide +kernel
theorem dX10_findTale_30 : decode cX10_findTale 30 = .ok (.lconst 0, 1) := by decide +kernel
theorem dX10_findTale_31 : decode cX10_findTale 31 = .ok (.lastore, 1) := by decide +kernel
theorem dX10_findTale_32 : decode cX10_findTale 32 = .ok (.aload_n 0, 1) := by decide +kernel
theorem dX10_findTale_33 : decode cX10_findTale 33 = .ok (.getfield 45, 3) := by decide +kernel
theorem dX10_findTale_36 : decode cX10_findTale 36 = .ok (.iload_n 3, 1) := by decide +kernel
theorem dX10_findTale_37 : decode cX10_findTale 37 = .ok (.lconst 0, 1) := by decide +kernel
theorem dX10_findTale_38 : decode cX10_findTale 38 = .ok (.lastore, 1) := by decide +kernel
theorem dX10_findTale_39 : decode cX10_findTale 39 = .ok (.iinc 3 1, 3) := by decide +kernel
theorem dX10_findTale_42 : decode cX10_findTale 42 = .ok (.goto (-25), 3) := by decide +kernel
theorem dX10_findTale_45 : decode cX10_findTale 45 = .ok (.iload_n 1, 1) := by decide +kernel
theorem dX10_findTale_46 : decode cX10_findTale 46 = .ok (.istore_n 3, 1) := by decide +kernel
theorem dX10_findTale_47 : decode cX10_findTale 47 = .ok (.iconst 1, 1) := by decide +kernel
theorem dX10_findTale_48 : decode cX10_findTale 48 = .ok (.istore 4, 2) := by decide +kernel
theorem dX10_findTale_50 : decode cX10_findTale 50 = .ok (.iload 4, 2) := by decide +kernel
theorem dX10_findTale_52 : decode cX10_findTale 52 = .ok (.ifCond .eq 154, 3) := by decide +kernel
theorem dX10_findTale_55 : decode cX10_findTale 55 = .ok (.aload_n 0, 1) := by decide +kernel
theorem dX10_findTale_56 : decode cX10_findTale 56 = .ok (.iload_n 3, 1) := by decide +kernel
theorem dX10_findTale_57 : decode cX10_findTale 57 = .ok (.iload_n 1, 1) := by decide +kernel
theorem dX10_findTale_58 : decode cX10_findTale 58 = .ok (.invokevirtual 285, 3) := by decide +kernel
theorem dX10_findTale_61 : decode cX10_findTale 61 = .ok (.lstore 5, 2) := by decide +kernel
theorem dX10_findTale_63 : decode cX10_findTale 63 = .ok (.iconst 0, 1) := by decide +kernel
theorem dX10_findTale_64 : decode cX10_findTale 64 = .ok (.istore 7, 2) := by decide +kernel
theorem dX10_findTale_66 : decode cX10_findTale 66 = .ok (.iload 7, 2) := by decide +kernel
theorem dX10_findTale_68 : decode cX10_findTale 68 = .ok (.aload_n 0, 1) := by decide +kernel
theorem dX10_findTale_69 : decode cX10_findTale 69 = .ok (.getfield 7, 3) := by decide +kernel
theorem dX10_findTale_72 : decode cX10_findTale 72 = .ok (.if_icmp .ge 114, 3) := by decide +kernel
theorem dX10_findTale_75 : decode cX10_findTale 75 = .ok (.aload_n 0, 1) := by decide +kernel
theorem dX10_findTale_76 : decode cX10_findTale 76 = .ok (.iconst 1, 1) := by decide +kernel
theorem dX10_findTale_77 : decode cX10_findTale 77 = .ok (.iload 7, 2) := by decide +kernel
theorem dX10_findTale_79 : decode cX10_findTale 79 = .ok (.ishl, 1) := by decide +kernel
theorem dX10_findTale_80 : decode cX10_findTale 80 = .ok (.iload_n 2, 1) := by decide +kernel
theorem dX10_findTale_81 : decode cX10_findTale 81 = .ok (.iload_n 3, 1) := by decide +kernel
theorem dX10_findTale_82 : decode cX10_findTale 82 = .ok (.ior, 1) := by decide +kernel
theorem dX10_findTale_83 : decode cX10_findTale 83 = .ok (.aload_n 0, 1) := by decide +kernel
theorem dX10_findTale_84 : decode cX10_findTale 84 = .ok (.invokevirtual 244, 3) := by decide +kernel
theorem dX10_findTale_87 : decode cX10_findTale 87 = .ok (.invokevirtual 269, 3) := by decide +kernel
theorem dX10_findTale_90 : decode cX10_findTale 90 = .ok (.istore 8, 2) := by decide +kernel
theorem dX10_findTale_92 : decode cX10_findTale 92 = .ok (.iconst 0, 1) := by decide +kernel
theorem dX10_findTale_93 : decode cX10_findTale 93 = .ok (.istore 9, 2) := by decide +kernel
theorem dX10_findTale_95 : decode cX10_findTale 95 = .ok (.iload 9, 2) := by decide +kernel
theorem dX10_findTale_97 : decode cX10_findTale 97 = .ok (.aload_n 0, 1) := by decide +kernel
theorem dX10_findTale_98 : decode cX10_findTale 98 = .ok (.getfield 7, 3) := by decide +kernel
theorem dX10_findTale_101 : decode cX10_findTale 101 = .ok (.if_icmp .ge 45, 3) := by decide +kernel
theorem dX10_findTale_104 : decode cX10_findTale 104 = .ok (.aload_n 0, 1) := by decide +kernel
theorem dX10_findTale_105 : decode cX10_findTale 105 = .ok (.getfield 41, 3) := by decide +kernel
theorem dX10_findTale_108 : decode cX10_findTale 108 = .ok (.iload 9, 2) := by decide +kernel
theorem dX10_findTale_110 : decode cX10_findTale 110 = .ok (.dup2, 1) := by decide +kernel
theorem dX10_findTale_111 : decode cX10_findTale 111 = .ok (.laload, 1) := by decide +kernel
theorem dX10_findTale_112 : decode cX10_findTale 112 = .ok (.iload 8, 2) := by decide +kernel
theorem dX10_findTale_114 : decode cX10_findTale 114 = .ok (.iload 9, 2) := by decide +kernel
theorem dX10_findTale_116 : decode cX10_findTale 116 = .ok (.ishr, 1) := by decide +kernel
theorem dX10_findTale_117 : decode cX10_findTale 117 = .ok (.iconst 1, 1) := by decide +kernel
theorem dX10_findTale_118 : decode cX10_findTale 118 = .ok (.iand, 1) := by decide +kernel
theorem dX10_findTale_119 : decode cX10_findTale 119 = .ok (.iconst 1, 1) := by decide +kernel
theorem dX10_findTale_120 : decode cX10_findTale 120 = .ok (.if_icmp .ne 17, 3) := by decide +kernel
theorem dX10_findTale_123 : decode cX10_findTale 123 = .ok (.lload 5, 2) := by decide +kernel
theorem dX10_findTale_125 : decode cX10_findTale 125 = .ok (.aload_n 0, 1) := by decide +kernel
theorem dX10_findTale_126 : decode cX10_findTale 126 = .ok (.getfield 13, 3) := by decide +kernel
theorem dX10_findTale_129 : decode cX10_findTale 129 = .ok (.iload 7, 2) := by decide +kernel
theorem dX10_findTale_131 : decode cX10_findTale 131 = .ok (.iaload, 1) := by decide +kernel
theorem dX10_findTale_132 : decode cX10_findTale 132 = .ok (.i2l, 1) := by decide +kernel
theorem dX10_findTale_133 : decode cX10_findTale 133 = .ok (.lmul, 1) := by decide +kernel
theorem dX10_findTale_134 : decode cX10_findTale 134 = .ok (.goto 4, 3) := by decide +kernel
theorem dX10_findTale_137 : decode cX10_findTale 137 = .ok (.lconst 0, 1) := by decide +kernel
theorem dX10_findTale_138 : decode cX10_findTale 138 = .ok (.ladd, 1) := by decide +kernel
theorem dX10_findTale_139 : decode cX10_findTale 139 = .ok (.lastore, 1) := by decide +kernel
theorem dX10_findTale_140 : decode cX10_findTale 140 = .ok (.iinc 9 1, 3) := by decide +kernel
theorem dX10_findTale_143 : decode cX10_findTale 143 = .ok (.goto (-48), 3) := by decide +kernel
theorem dX10_findTale_146 : decode cX10_findTale 146 = .ok (.aload_n 0, 1) := by decide +kernel
theorem dX10_findTale_147 : decode cX10_findTale 147 = .ok (.getfield 45, 3) := by decide +kernel
theorem dX10_findTale_150 : decode cX10_findTale 150 = .ok (.iload 7, 2) := by decide +kernel
theorem dX10_findTale_152 : decode cX10_findTale 152 = .ok (.dup2, 1) := by decide +kernel
theorem dX10_findTale_153 : decode cX10_findTale 153 = .ok (.laload, 1) := by decide +kernel
theorem dX10_findTale_154 : decode cX10_findTale 154 = .ok (.aload_n 0, 1) := by decide +kernel
theorem dX10_findTale_155 : decode cX10_findTale 155 = .ok (.iload 8, 2) := by decide +kernel
theorem dX10_findTale_157 : decode cX10_findTale 157 = .ok (.invokevirtual 289, 3) := by decide +kernel
theorem dX10_findTale_160 : decode cX10_findTale 160 = .ok (.ifCond .eq 17, 3) := by decide +kernel
theorem dX10_findTale_163 : decode cX10_findTale 163 = .ok (.lload 5, 2) := by decide +kernel
theorem dX10_findTale_165 : decode cX10_findTale 165 = .ok (.aload_n 0, 1) := by decide +kernel
theorem dX10_findTale_166 : decode cX10_findTale 166 = .ok (.getfield 13, 3) := by decide +kernel
theorem dX10_findTale_169 : decode cX10_findTale 169 = .ok (.iload 7, 2) := by decide +kernel
theorem dX10_findTale_171 : decode cX10_findTale 171 = .ok (.iaload, 1) := by decide +kernel
theorem dX10_findTale_172 : decode cX10_findTale 172 = .ok (.i2l, 1) := by decide +kernel
theorem dX10_findTale_173 : decode cX10_findTale 173 = .ok (.lmul, 1) := by decide +kernel
theorem dX10_findTale_174 : decode cX10_findTale 174 = .ok (.goto 4, 3) := by decide +kernel
theorem dX10_findTale_177 : decode cX10_findTale 177 = .ok (.lconst 0, 1) := by decide +kernel
theorem dX10_findTale_178 : decode cX10_findTale 178 = .ok (.ladd, 1) := by decide +kernel
theorem dX10_findTale_179 : decode cX10_findTale 179 = .ok (.lastore, 1) := by decide +kernel
theorem dX10_findTale_180 : decode cX10_findTale 180 = .ok (.iinc 7 1, 3) := by decide +kernel
theorem dX10_findTale_183 : decode cX10_findTale 183 = .ok (.goto (-117), 3) := by decide +kernel
theorem dX10_findTale_186 : decode cX10_findTale 186 = .ok (.iload_n 3, 1) := by decide +kernel
theorem dX10_findTale_187 : decode cX10_findTale 187 = .ok (.ifCond .eq 7, 3) := by decide +kernel
theorem dX10_findTale_190 : decode cX10_findTale 190 = .ok (.iconst 1, 1) := by decide +kernel
theorem dX10_findTale_191 : decode cX10_findTale 191 = .ok (.goto 4, 3) := by decide +kernel
theorem dX10_findTale_194 : decode cX10_findTale 194 = .ok (.iconst 0, 1) := by decide +kernel
theorem dX10_findTale_195 : decode cX10_findTale 195 = .ok (.istore 4, 2) := by decide +kernel
theorem dX10_findTale_197 : decode cX10_findTale 197 = .ok (.iload_n 3, 1) := by decide +kernel
theorem dX10_findTale_198 : decode cX10_findTale 198 = .ok (.iconst 1, 1) := by decide +kernel
theorem dX10_findTale_199 : decode cX10_findTale 199 = .ok (.isub, 1) := by decide +kernel
theorem dX10_findTale_200 : decode cX10_findTale 200 = .ok (.iload_n 1, 1) := by decide +kernel
theorem dX10_findTale_201 : decode cX10_findTale 201 = .ok (.iand, 1) := by decide +kernel
theorem dX10_findTale_202 : decode cX10_findTale 202 = .ok (.istore_n 3, 1) := by decide +kernel
theorem dX10_findTale_203 : decode cX10_findTale 203 = .ok (.goto (-153), 3) := by decide +kernel
theorem dX10_findTale_206 : decode cX10_findTale 206 = .ok (.return_, 1) := by decide +kernel
theorem dX10_lowest_0 : decode cX10_lowest 0 = .ok (.lload_n 1, 1) := by decide +kernel
theorem dX10_lowest_1 : decode cX10_lowest 1 = .ok (.lstore 5, 2) := by decide +kernel
theorem dX10_lowest_3 : decode cX10_lowest 3 = .ok (.lload_n 3, 1) := by decide +kernel
theorem dX10_lowest_4 : decode cX10_lowest 4 = .ok (.lstore 7, 2) := by decide +kernel
theorem dX10_lowest_6 : decode cX10_lowest 6 = .ok (.lload 7, 2) := by decide +kernel
theorem dX10_lowest_8 : decode cX10_lowest 8 = .ok (.lconst 0, 1) := by decide +kernel
theorem dX10_lowest_9 : decode cX10_lowest 9 = .ok (.lcmp, 1) := by decide +kernel
theorem dX10_lowest_10 : decode cX10_lowest 10 = .ok (.ifCond .eq 21, 3) := by decide +kernel
theorem dX10_lowest_13 : decode cX10_lowest 13 = .ok (.lload 5, 2) := by decide +kernel
theorem dX10_lowest_15 : decode cX10_lowest 15 = .ok (.lload 7, 2) := by decide +kernel
theorem dX10_lowest_17 : decode cX10_lowest 17 = .ok (.lrem, 1) := by decide +kernel
theorem dX10_lowest_18 : decode cX10_lowest 18 = .ok (.lstore 9, 2) := by decide +kernel
theorem dX10_lowest_20 : decode cX10_lowest 20 = .ok (.lload 7, 2) := by decide +kernel
theorem dX10_lowest_22 : decode cX10_lowest 22 = .ok (.lstore 5, 2) := by decide +kernel
theorem dX10_lowest_24 : decode cX10_lowest 24 = .ok (.lload 9, 2) := by decide +kernel
theorem dX10_lowest_26 : decode cX10_lowest 26 = .ok (.lstore 7, 2) := by decide +kernel
theorem dX10_lowest_28 : decode cX10_lowest 28 = .ok (.goto (-22), 3) := by decide +kernel
theorem dX10_lowest_31 : decode cX10_lowest 31 = .ok (.aload_n 0, 1) := by decide +kernel
theorem dX10_lowest_32 : decode cX10_lowest 32 = .ok (.lload_n 1, 1) := by decide +kernel
theorem dX10_lowest_33 : decode cX10_lowest 33 = .ok (.lload 5, 2) := by decide +kernel
theorem dX10_lowest_35 : decode cX10_lowest 35 = .ok (.ldiv, 1) := by decide +kernel
theorem dX10_lowest_36 : decode cX10_lowest 36 = .ok (.putfield 292, 3) := by decide +kernel
theorem dX10_lowest_39 : decode cX10_lowest 39 = .ok (.aload_n 0, 1) := by decide +kernel
theorem dX10_lowest_40 : decode cX10_lowest 40 = .ok (.lload_n 3, 1) := by decide +kernel
theorem dX10_lowest_41 : decode cX10_lowest 41 = .ok (.lload 5, 2) := by decide +kernel
theorem dX10_lowest_43 : decode cX10_lowest 43 = .ok (.ldiv, 1) := by decide +kernel
theorem dX10_lowest_44 : decode cX10_lowest 44 = .ok (.putfield 295, 3) := by decide +kernel
theorem dX10_lowest_47 : decode cX10_lowest 47 = .ok (.return_, 1) := by decide +kernel
set_option maxRecDepth 20000 in
theorem ggX10_often_X10_weights : GoodIn wsX10_often wsX10_weights := goodIn_r _ [5, 6, 7, 43, 44, 45, 46, 47, 48, 49, 50, 51, 52, 53, 54, 55, 56, 57, 58, 59, 60, 61, 62, 63, 64, 65, 66, 67, 68, 69, 70, 71, 72, 73, 74, 75, 76, 77, 78, 79, 80, 81, 82, 83, 84, 85, 86, 87, 88, 89, 90, 91, 92, 93, 94, 95, 96] (by decide +kernel) (by decide +kernel)
set_option maxRecDepth 20000 in
theorem gX10_often_X10_weights : GoodIn wsX10_often (wsV RX10 298 RX10 yX10_weights wsX10_weights) := goodIn_app (goodIn_of _ (by decide +kernel)) ggX10_often_X10_weights
set_option maxRecDepth 20000 in
theorem ggX10_often_X10_unsure : GoodIn wsX10_often wsX10_unsure := goodIn_r _ [11, 12, 13, 14, 15, 4, 16, 17, 18, 19, 20, 21, 22, 23, 24, 25, 26, 27, 28, 29, 30, 31, 32, 33, 34, 35, 36, 37, 38, 39, 40, 41, 42, 43, 44, 45, 46, 47, 48, 49, 50, 51, 52, 53, 54, 55, 56, 57, 58, 59, 60, 61, 62, 63, 64, 65, 66, 67, 68, 69, 70, 71, 72, 73, 74, 75, 76, 77, 78, 79, 80, 81, 82, 83, 84, 85, 86, 87, 88, 89, 90, 91, 92, 93, 94, 95, 96] (by decide +kernel) (by decide +kernel)
set_option maxRecDepth 20000 in
theorem gX10_often_X10_unsure : GoodIn wsX10_often (wsV RX10 282 RX10 yX10_unsure wsX10_unsure) := goodIn_app (goodIn_of _ (by decide +kernel)) ggX10_often_X10_unsure
set_option maxRecDepth 20000 in
theorem ggX10_often_X10_ones : GoodIn wsX10_often wsX10_ones := goodIn_r _ [42] (by decide +kernel) (by decide +kernel)
set_option maxRecDepth 20000 in
theorem gX10_often_X10_ones : GoodIn wsX10_often (va_wsS RX10 116 yX10_ones wsX10_ones) := goodIn_app (goodIn_of _ (by decide +kernel)) ggX10_often_X10_ones
theorem dX10_often_0 : decode cX10_often 0 = .ok (.aload_n 0, 1) := by decide +kernel
theorem dX10_often_1 : decode cX10_often 1 = .ok (.invokevirtual 298, 3) := by decide +kernel
theorem dX10_often_4 : decode cX10_often 4 = .ok (.i2l, 1) := by decide +kernel
theorem dX10_often_5 : decode cX10_often 5 = .ok (.iconst 2, 1) := by decide +kernel
theorem dX10_often_6 : decode cX10_often 6 = .ok (.aload_n 0, 1) := by decide +kernel
theorem dX10_often_7 : decode cX10_often 7 = .ok (.invokevirtual 282, 3) := by decide +kernel
theorem dX10_often_10 : decode cX10_often 10 = .ok (.invokestatic 116, 3) := by decide +kernel
theorem dX10_often_13 : decode cX10_often 13 = .ok (.imul, 1) := by decide +kernel
theorem dX10_often_14 : decode cX10_often 14 = .ok (.lshl, 1) := by decide +kernel
theorem dX10_often_15 : decode cX10_often 15 = .ok (.lreturn, 1) := by decide +kernel
set_option maxRecDepth 20000 in
theorem ggX10_lacksTale_X10_weights : GoodIn wsX10_lacksTale wsX10_weights := goodIn_r _ [5, 6, 7, 43, 44, 45, 46, 47, 48, 49, 50, 51, 52, 53, 54, 55, 56, 57, 58, 59, 60, 61, 62, 63, 64, 65, 66, 67, 68, 69, 70, 71, 72, 73, 74, 75, 76, 77, 78, 79, 80, 81, 82, 83, 84, 85, 86, 87, 88, 89, 90, 91, 92, 93, 94, 95, 96] (by decide +kernel) (by decide +kernel)
set_option maxRecDepth 20000 in
theorem gX10_lacksTale_X10_weights : GoodIn wsX10_lacksTale (wsV RX10 298 RX10 yX10_weights wsX10_weights) := goodIn_app (goodIn_of _ (by decide +kernel)) ggX10_lacksTale_X10_weights
set_option maxRecDepth 20000 in
theorem ggX10_lacksTale_X10_unsure : GoodIn wsX10_lacksTale wsX10_unsure := goodIn_r _ [11, 12, 13, 14, 15, 4, 16, 17, 18, 19, 20, 21, 22, 23, 24, 25, 26, 27, 28, 29, 30, 31, 32, 33, 34, 35, 36, 37, 38, 39, 40, 41, 42, 43, 44, 45, 46, 47, 48, 49, 50, 51, 52, 53, 54, 55, 56, 57, 58, 59, 60, 61, 62, 63, 64, 65, 66, 67, 68, 69, 70, 71, 72, 73, 74, 75, 76, 77, 78, 79, 80, 81, 82, 83, 84, 85, 86, 87, 88, 89, 90, 91, 92, 93, 94, 95, 96] (by decide +kernel) (by decide +kernel)
set_option maxRecDepth 20000 in
theorem gX10_lacksTale_X10_unsure : GoodIn wsX10_lacksTale (wsV RX10 282 RX10 yX10_unsure wsX10_unsure) := goodIn_app (goodIn_of _ (by decide +kernel)) ggX10_lacksTale_X10_unsure
set_option maxRecDepth 20000 in
theorem ggX10_lacksTale_X10_ones : GoodIn wsX10_lacksTale wsX10_ones := goodIn_r _ [42] (by decide +kernel) (by decide +kernel)
set_option maxRecDepth 20000 in
theorem gX10_lacksTale_X10_ones : GoodIn wsX10_lacksTale (va_wsS RX10 116 yX10_ones wsX10_ones) := goodIn_app (goodIn_of _ (by decide +kernel)) ggX10_lacksTale_X10_ones
theorem dX10_lacksTale_0 : decode cX10_lacksTale 0 = .ok (.aload_n 0, 1) := by decide +kernel
theorem dX10_lacksTale_1 : decode cX10_lacksTale 1 = .ok (.invokevirtual 298, 3) := by decide +kernel
theorem dX10_lacksTale_4 : decode cX10_lacksTale 4 = .ok (.ifCond .ne 8, 3) := by decide +kernel
theorem dX10_lacksTale_7 : decode cX10_lacksTale 7 = .ok (.bipush (-3), 2) := by decide +kernel
theorem dX10_lacksTale_9 : decode cX10_lacksTale 9 = .ok (.goto 21, 3) := by decide +kernel
theorem dX10_lacksTale_12 : decode cX10_lacksTale 12 = .ok (.aload_n 0, 1) := by decide +kernel
theorem dX10_lacksTale_13 : decode cX10_lacksTale 13 = .ok (.invokevirtual 282, 3) := by decide +kernel
theorem dX10_lacksTale_16 : decode cX10_lacksTale 16 = .ok (.invokestatic 116, 3) := by decide +kernel
theorem dX10_lacksTale_19 : decode cX10_lacksTale 19 = .ok (.bipush 9, 2) := by decide +kernel
theorem dX10_lacksTale_21 : decode cX10_lacksTale 21 = .ok (.if_icmp .le 8, 3) := by decide +kernel
theorem dX10_lacksTale_24 : decode cX10_lacksTale 24 = .ok (.bipush (-4), 2) := by decide +kernel
theorem dX10_lacksTale_26 : decode cX10_lacksTale 26 = .ok (.goto 4, 3) := by decide +kernel
theorem dX10_lacksTale_29 : decode cX10_lacksTale 29 = .ok (.iconst 0, 1) := by decide +kernel
theorem dX10_lacksTale_30 : decode cX10_lacksTale 30 = .ok (.ireturn, 1) := by decide +kernel
set_option maxRecDepth 20000 in
theorem ggX10_chance_X10_isPerson : GoodIn wsX10_chance wsX10_isPerson := goodIn_r _ [8, 9, 10, 11, 7, 12, 94, 95, 96, 97, 98, 99, 100, 101, 102, 103, 104, 105, 106, 107, 108, 109, 110, 111, 112, 113, 114, 115, 116, 117, 118, 119, 120, 121, 122, 123, 124, 125, 126, 127, 128, 129, 130, 131, 132, 133, 134, 135, 136, 137, 138, 139, 140, 141, 142, 143, 144, 145, 146, 147] (by decide +kernel) (by decide +kernel)
set_option maxRecDepth 20000 in
theorem gX10_chance_X10_isPerson : GoodIn wsX10_chance (wsV RX10 104 RX10 yX10_isPerson wsX10_isPerson) := goodIn_app (goodIn_of _ (by decide +kernel)) ggX10_chance_X10_isPerson
set_option maxRecDepth 20000 in
theorem ggX10_chance_X10_isSide : GoodIn wsX10_chance wsX10_isSide := goodIn_r _ [15, 10, 11, 7, 12] (by decide +kernel) (by decide +kernel)
set_option maxRecDepth 20000 in
theorem gX10_chance_X10_isSide : GoodIn wsX10_chance (va_wsS RX10 276 yX10_isSide wsX10_isSide) := goodIn_app (goodIn_of _ (by decide +kernel)) ggX10_chance_X10_isSide
set_option maxRecDepth 20000 in
theorem ggX10_chance_X10_lacksTale : GoodIn wsX10_chance wsX10_lacksTale := goodIn_r _ [19, 20, 21, 22, 7, 23, 9, 24, 25, 26, 27, 28, 29, 30, 31, 32, 33, 34, 35, 36, 37, 38, 39, 40, 41, 42, 43, 44, 45, 46, 47, 48, 49, 50, 51, 52, 53, 54, 55, 56, 57, 58, 59, 94, 95, 96, 97, 98, 99, 100, 101, 102, 103, 104, 105, 106, 107, 108, 109, 110, 111, 112, 113, 114, 115, 116, 117, 118, 119, 120, 121, 122, 123, 124, 125, 126, 127, 128, 129, 130, 131, 132, 133, 134, 135, 136, 137, 138, 139, 140, 141, 142, 143, 144, 145, 146, 147] (by decide +kernel) (by decide +kernel)
set_option maxRecDepth 20000 in
theorem gX10_chance_X10_lacksTale : GoodIn wsX10_chance (wsV RX10 301 RX10 yX10_lacksTale wsX10_lacksTale) := goodIn_app (goodIn_of _ (by decide +kernel)) ggX10_chance_X10_lacksTale
set_option maxRecDepth 20000 in
theorem ggX10_chance_X10_findTale : GoodIn wsX10_chance wsX10_findTale := goodIn_r _ [63, 9, 1, 64, 24, 25, 26, 27, 7, 28, 29, 30, 31, 32, 33, 34, 35, 36, 37, 38, 39, 40, 41, 42, 43, 44, 45, 46, 47, 48, 49, 50, 51, 52, 53, 54, 55, 56, 57, 58, 59, 65, 66, 67, 68, 69, 70, 71, 72, 73, 74, 75, 76, 77, 78, 79, 80, 81, 82, 83, 84, 85, 94, 95, 96, 97, 98, 99, 100, 101, 102, 103, 104, 105, 106, 107, 108, 109, 110, 111, 112, 113, 114, 115, 116, 117, 118, 119, 120, 121, 122, 123, 124, 125, 126, 127, 128, 129, 130, 131, 132, 133, 134, 135, 136, 137, 138, 139, 140, 141, 142, 143, 144, 145, 146, 147] (by decide +kernel) (by decide +kernel)
set_option maxRecDepth 20000 in
theorem gX10_chance_X10_findTale : GoodIn wsX10_chance (wsV RX10 304 RX10 yX10_findTale wsX10_findTale) := goodIn_app (goodIn_of _ (by decide +kernel)) ggX10_chance_X10_findTale
set_option maxRecDepth 20000 in
theorem ggX10_chance_X10_often : GoodIn wsX10_chance wsX10_often := goodIn_r _ [89, 20, 21, 22, 7, 23, 9, 24, 25, 26, 27, 28, 29, 30, 31, 32, 33, 34, 35, 36, 37, 38, 39, 40, 41, 42, 43, 44, 45, 46, 47, 48, 49, 50, 51, 52, 53, 54, 55, 56, 57, 58, 59, 94, 95, 96, 97, 98, 99, 100, 101, 102, 103, 104, 105, 106, 107, 108, 109, 110, 111, 112, 113, 114, 115, 116, 117, 118, 119, 120, 121, 122, 123, 124, 125, 126, 127, 128, 129, 130, 131, 132, 133, 134, 135, 136, 137, 138, 139, 140, 141, 142, 143, 144, 145, 146, 147] (by decide +kernel) (by decide +kernel)
set_option maxRecDepth 20000 in
theorem gX10_chance_X10_often : GoodIn wsX10_chance (wsV RX10 307 RX10 yX10_often wsX10_often) := goodIn_app (goodIn_of _ (by decide +kernel)) ggX10_chance_X10_often
set_option maxRecDepth 20000 in
theorem ggX10_chance_X10_lowest : GoodIn wsX10_chance wsX10_lowest := goodIn_r _ [93, 2, 3, 94, 95, 96, 97, 98, 99, 100, 101, 102, 103, 104, 105, 106, 107, 108, 109, 110, 111, 112, 113, 114, 115, 116, 117, 118, 119, 120, 121, 122, 123, 124, 125, 126, 127, 128, 129, 130, 131, 132, 133, 134, 135, 136, 137, 138, 139, 140, 141, 142, 143, 144, 145, 146, 147] (by decide +kernel) (by decide +kernel)
set_option maxRecDepth 20000 in
theorem gX10_chance_X10_lowest : GoodIn wsX10_chance (wsV RX10 311 RX10 yX10_lowest wsX10_lowest) := goodIn_app (goodIn_of _ (by decide +kernel)) ggX10_chance_X10_lowest
theorem dX10_chance_0 : decode cX10_chance 0 = .ok (.aload_n 0, 1) := by decide +kernel
theorem dX10_chance_1 : decode cX10_chance 1 = .ok (.iload_n 1, 1) := by decide +kernel
theorem dX10_chance_2 : decode cX10_chance 2 = .ok (.invokevirtual 104, 3) := by decide +kernel
theorem dX10_chance_5 : decode cX10_chance 5 = .ok (.ifCond .eq 10, 3) := by decide +kernel
theorem dX10_chance_8 : decode cX10_chance 8 = .ok (.iload_n 2, 1) := by decide +kernel
theorem dX10_chance_9 : decode cX10_chance 9 = .ok (.invokestatic 276, 3) := by decide +kernel
theorem dX10_chance_12 : decode cX10_chance 12 = .ok (.ifCond .ne 5, 3) := by decide +kernel
theorem dX10_chance_15 : decode cX10_chance 15 = .ok (.iconst (-1), 1) := by decide +kernel
theorem dX10_chance_16 : decode cX10_chance 16 = .ok (.ireturn, 1) := by decide +kernel
theorem dX10_chance_17 : decode cX10_chance 17 = .ok (.aload_n 0, 1) := by decide +kernel
theorem dX10_chance_18 : decode cX10_chance 18 = .ok (.invokevirtual 301, 3) := by decide +kernel
theorem dX10_chance_21 : decode cX10_chance 21 = .ok (.istore_n 3, 1) := by decide +kernel
theorem dX10_chance_22 : decode cX10_chance 22 = .ok (.iload_n 3, 1) := by decide +kernel
theorem dX10_chance_23 : decode cX10_chance 23 = .ok (.ifCond .eq 5, 3) := by decide +kernel
theorem dX10_chance_26 : decode cX10_chance 26 = .ok (.iload_n 3, 1) := by decide +kernel
theorem dX10_chance_27 : decode cX10_chance 27 = .ok (.ireturn, 1) := by decide +kernel
theorem dX10_chance_28 : decode cX10_chance 28 = .ok (.aload_n 0, 1) := by decide +kernel
theorem dX10_chance_29 : decode cX10_chance 29 = .ok (.invokevirtual 304, 3) := by decide +kernel
theorem dX10_chance_32 : decode cX10_chance 32 = .ok (.aload_n 0, 1) := by decide +kernel
theorem dX10_chance_33 : decode cX10_chance 33 = .ok (.aload_n 0, 1) := by decide +kernel
theorem dX10_chance_34 : decode cX10_chance 34 = .ok (.getfield 41, 3) := by decide +kernel
theorem dX10_chance_37 : decode cX10_chance 37 = .ok (.iload_n 1, 1) := by decide +kernel
theorem dX10_chance_38 : decode cX10_chance 38 = .ok (.laload, 1) := by decide +kernel
theorem dX10_chance_39 : decode cX10_chance 39 = .ok (.aload_n 0, 1) := by decide +kernel
theorem dX10_chance_40 : decode cX10_chance 40 = .ok (.invokevirtual 307, 3) := by decide +kernel
theorem dX10_chance_43 : decode cX10_chance 43 = .ok (.invokevirtual 311, 3) := by decide +kernel
theorem dX10_chance_46 : decode cX10_chance 46 = .ok (.iload_n 2, 1) := by decide +kernel
theorem dX10_chance_47 : decode cX10_chance 47 = .ok (.ifCond .ne 10, 3) := by decide +kernel
theorem dX10_chance_50 : decode cX10_chance 50 = .ok (.aload_n 0, 1) := by decide +kernel
theorem dX10_chance_51 : decode cX10_chance 51 = .ok (.getfield 292, 3) := by decide +kernel
theorem dX10_chance_54 : decode cX10_chance 54 = .ok (.goto 7, 3) := by decide +kernel
theorem dX10_chance_57 : decode cX10_chance 57 = .ok (.aload_n 0, 1) := by decide +kernel
theorem dX10_chance_58 : decode cX10_chance 58 = .ok (.getfield 295, 3) := by decide +kernel
theorem dX10_chance_61 : decode cX10_chance 61 = .ok (.l2i, 1) := by decide +kernel
theorem dX10_chance_62 : decode cX10_chance 62 = .ok (.ireturn, 1) := by decide +kernel
set_option maxRecDepth 20000 in
theorem ggX10_reach_X10_isSide : GoodIn wsX10_reach wsX10_isSide := goodIn_r _ [9, 10, 11, 8, 12] (by decide +kernel) (by decide +kernel)
set_option maxRecDepth 20000 in
theorem gX10_reach_X10_isSide : GoodIn wsX10_reach (va_wsS RX10 276 yX10_isSide wsX10_isSide) := goodIn_app (goodIn_of _ (by decide +kernel)) ggX10_reach_X10_isSide
set_option maxRecDepth 20000 in
theorem ggX10_reach_X10_lacksTale : GoodIn wsX10_reach wsX10_lacksTale := goodIn_r _ [16, 17, 18, 19, 8, 20, 2, 21, 22, 23, 24, 25, 26, 27, 28, 29, 30, 31, 32, 33, 34, 35, 36, 37, 38, 39, 40, 41, 42, 43, 44, 45, 46, 47, 48, 49, 50, 51, 52, 53, 54, 55, 56, 91, 92, 93, 94, 95, 96, 97, 98, 99, 100, 101, 102, 103, 104, 105, 106, 107, 108, 109, 110, 111, 112, 113, 114, 115, 116, 117, 118, 119, 120, 121, 122, 123, 124, 125, 126, 127, 128, 129, 130, 131, 132, 133, 134, 135, 136, 137, 138, 139, 140, 141, 142, 143, 144] (by decide +kernel) (by decide +kernel)
set_option maxRecDepth 20000 in
theorem gX10_reach_X10_lacksTale : GoodIn wsX10_reach (wsV RX10 301 RX10 yX10_lacksTale wsX10_lacksTale) := goodIn_app (goodIn_of _ (by decide +kernel)) ggX10_reach_X10_lacksTale
set_option maxRecDepth 20000 in
theorem ggX10_reach_X10_findTale : GoodIn wsX10_reach wsX10_findTale := goodIn_r _ [60, 2, 3, 61, 21, 22, 23, 24, 8, 25, 26, 27, 28, 29, 30, 31, 32, 33, 34, 35, 36, 37, 38, 39, 40, 41, 42, 43, 44, 45, 46, 47, 48, 49, 50, 51, 52, 53, 54, 55, 56, 62, 63, 64, 65, 66, 67, 68, 69, 70, 71, 72, 73, 74, 75, 76, 77, 78, 79, 80, 81, 82, 91, 92, 93, 94, 95, 96, 97, 98, 99, 100, 101, 102, 103, 104, 105, 106, 107, 108, 109, 110, 111, 112, 113, 114, 115, 116, 117, 118, 119, 120, 121, 122, 123, 124, 125, 126, 127, 128, 129, 130, 131, 132, 133, 134, 135, 136, 137, 138, 139, 140, 141, 142, 143, 144] (by decide +kernel) (by decide +kernel)
set_option maxRecDepth 20000 in
theorem gX10_reach_X10_findTale : GoodIn wsX10_reach (wsV RX10 304 RX10 yX10_findTale wsX10_findTale) := goodIn_app (goodIn_of _ (by decide +kernel)) ggX10_reach_X10_findTale
set_option maxRecDepth 20000 in
theorem ggX10_reach_X10_often : GoodIn wsX10_reach wsX10_often := goodIn_r _ [86, 17, 18, 19, 8, 20, 2, 21, 22, 23, 24, 25, 26, 27, 28, 29, 30, 31, 32, 33, 34, 35, 36, 37, 38, 39, 40, 41, 42, 43, 44, 45, 46, 47, 48, 49, 50, 51, 52, 53, 54, 55, 56, 91, 92, 93, 94, 95, 96, 97, 98, 99, 100, 101, 102, 103, 104, 105, 106, 107, 108, 109, 110, 111, 112, 113, 114, 115, 116, 117, 118, 119, 120, 121, 122, 123, 124, 125, 126, 127, 128, 129, 130, 131, 132, 133, 134, 135, 136, 137, 138, 139, 140, 141, 142, 143, 144] (by decide +kernel) (by decide +kernel)
set_option maxRecDepth 20000 in
theorem gX10_reach_X10_often : GoodIn wsX10_reach (wsV RX10 307 RX10 yX10_often wsX10_often) := goodIn_app (goodIn_of _ (by decide +kernel)) ggX10_reach_X10_often
set_option maxRecDepth 20000 in
theorem ggX10_reach_X10_lowest : GoodIn wsX10_reach wsX10_lowest := goodIn_r _ [90, 4, 5, 91, 92, 93, 94, 95, 96, 97, 98, 99, 100, 101, 102, 103, 104, 105, 106, 107, 108, 109, 110, 111, 112, 113, 114, 115, 116, 117, 118, 119, 120, 121, 122, 123, 124, 125, 126, 127, 128, 129, 130, 131, 132, 133, 134, 135, 136, 137, 138, 139, 140, 141, 142, 143, 144] (by decide +kernel) (by decide +kernel)
set_option maxRecDepth 20000 in
theorem gX10_reach_X10_lowest : GoodIn wsX10_reach (wsV RX10 311 RX10 yX10_lowest wsX10_lowest) := goodIn_app (goodIn_of _ (by decide +kernel)) ggX10_reach_X10_lowest
theorem dX10_reach_0 : decode cX10_reach 0 = .ok (.iload_n 1, 1) := by decide +kernel
theorem dX10_reach_1 : decode cX10_reach 1 = .ok (.invokestatic 276, 3) := by decide +kernel
theorem dX10_reach_4 : decode cX10_reach 4 = .ok (.ifCond .ne 7, 3) := by decide +kernel
theorem dX10_reach_7 : decode cX10_reach 7 = .ok (.ldc2_w 153, 3) := by decide +kernel
theorem dX10_reach_10 : decode cX10_reach 10 = .ok (.lreturn, 1) := by decide +kernel
theorem dX10_reach_11 : decode cX10_reach 11 = .ok (.aload_n 0, 1) := by decide +kernel
theorem dX10_reach_12 : decode cX10_reach 12 = .ok (.invokevirtual 301, 3) := by decide +kernel
theorem dX10_reach_15 : decode cX10_reach 15 = .ok (.istore_n 2, 1) := by decide +kernel
theorem dX10_reach_16 : decode cX10_reach 16 = .ok (.iload_n 2, 1) := by decide +kernel
theorem dX10_reach_17 : decode cX10_reach 17 = .ok (.ifCond .eq 6, 3) := by decide +kernel
theorem dX10_reach_20 : decode cX10_reach 20 = .ok (.iload_n 2, 1) := by decide +kernel
theorem dX10_reach_21 : decode cX10_reach 21 = .ok (.i2l, 1) := by decide +kernel
theorem dX10_reach_22 : decode cX10_reach 22 = .ok (.lreturn, 1) := by decide +kernel
theorem dX10_reach_23 : decode cX10_reach 23 = .ok (.aload_n 0, 1) := by decide +kernel
theorem dX10_reach_24 : decode cX10_reach 24 = .ok (.invokevirtual 304, 3) := by decide +kernel
theorem dX10_reach_27 : decode cX10_reach 27 = .ok (.lconst 0, 1) := by decide +kernel
theorem dX10_reach_28 : decode cX10_reach 28 = .ok (.lstore_n 3, 1) := by decide +kernel
theorem dX10_reach_29 : decode cX10_reach 29 = .ok (.iconst 0, 1) := by decide +kernel
theorem dX10_reach_30 : decode cX10_reach 30 = .ok (.istore 5, 2) := by decide +kernel
theorem dX10_reach_32 : decode cX10_reach 32 = .ok (.iload 5, 2) := by decide +kernel
theorem dX10_reach_34 : decode cX10_reach 34 = .ok (.aload_n 0, 1) := by decide +kernel
theorem dX10_reach_35 : decode cX10_reach 35 = .ok (.getfield 7, 3) := by decide +kernel
theorem dX10_reach_38 : decode cX10_reach 38 = .ok (.if_icmp .ge 19, 3) := by decide +kernel
theorem dX10_reach_41 : decode cX10_reach 41 = .ok (.lload_n 3, 1) := by decide +kernel
theorem dX10_reach_42 : decode cX10_reach 42 = .ok (.aload_n 0, 1) := by decide +kernel
theorem dX10_reach_43 : decode cX10_reach 43 = .ok (.getfield 41, 3) := by decide +kernel
theorem dX10_reach_46 : decode cX10_reach 46 = .ok (.iload 5, 2) := by decide +kernel
theorem dX10_reach_48 : decode cX10_reach 48 = .ok (.laload, 1) := by decide +kernel
theorem dX10_reach_49 : decode cX10_reach 49 = .ok (.ladd, 1) := by decide +kernel
theorem dX10_reach_50 : decode cX10_reach 50 = .ok (.lstore_n 3, 1) := by decide +kernel
theorem dX10_reach_51 : decode cX10_reach 51 = .ok (.iinc 5 1, 3) := by decide +kernel
theorem dX10_reach_54 : decode cX10_reach 54 = .ok (.goto (-22), 3) := by decide +kernel
theorem dX10_reach_57 : decode cX10_reach 57 = .ok (.aload_n 0, 1) := by decide +kernel
theorem dX10_reach_58 : decode cX10_reach 58 = .ok (.lload_n 3, 1) := by decide +kernel
theorem dX10_reach_59 : decode cX10_reach 59 = .ok (.aload_n 0, 1) := by decide +kernel
theorem dX10_reach_60 : decode cX10_reach 60 = .ok (.invokevirtual 307, 3) := by decide +kernel
theorem dX10_reach_63 : decode cX10_reach 63 = .ok (.invokevirtual 311, 3) := by decide +kernel
theorem dX10_reach_66 : decode cX10_reach 66 = .ok (.iload_n 1, 1) := by decide +kernel
theorem dX10_reach_67 : decode cX10_reach 67 = .ok (.ifCond .ne 10, 3) := by decide +kernel
theorem dX10_reach_70 : decode cX10_reach 70 = .ok (.aload_n 0, 1) := by decide +kernel
theorem dX10_reach_71 : decode cX10_reach 71 = .ok (.getfield 292, 3) := by decide +kernel
theorem dX10_reach_74 : decode cX10_reach 74 = .ok (.goto 7, 3) := by decide +kernel
theorem dX10_reach_77 : decode cX10_reach 77 = .ok (.aload_n 0, 1) := by decide +kernel
theorem dX10_reach_78 : decode cX10_reach 78 = .ok (.getfield 295, 3) := by decide +kernel
theorem dX10_reach_81 : decode cX10_reach 81 = .ok (.lreturn, 1) := by decide +kernel
set_option maxRecDepth 20000 in
theorem ggX10_seen_X10_isPerson : GoodIn wsX10_seen wsX10_isPerson := goodIn_r _ [6, 7, 8, 9, 5, 10, 11, 12, 13, 14, 15, 16, 17, 18, 19, 20, 21, 22, 23, 24, 25, 26, 27, 28, 29, 30, 31, 32, 33, 34, 35, 36, 37, 38, 39, 40, 41, 42, 43, 44, 45, 46, 47, 48, 49, 50, 51, 52, 53, 54, 55, 56, 57, 58, 59, 60, 61, 62, 63, 64] (by decide +kernel) (by decide +kernel)
set_option maxRecDepth 20000 in
theorem gX10_seen_X10_isPerson : GoodIn wsX10_seen (wsV RX10 104 RX10 yX10_isPerson wsX10_isPerson) := goodIn_app (goodIn_of _ (by decide +kernel)) ggX10_seen_X10_isPerson
set_option maxRecDepth 20000 in
theorem ggX10_seen_X10_in : GoodIn wsX10_seen wsX10_in := goodIn_r _ [10] (by decide +kernel) (by decide +kernel)
set_option maxRecDepth 20000 in
theorem gX10_seen_X10_in : GoodIn wsX10_seen (va_wsS RX10 97 yX10_in wsX10_in) := goodIn_app (goodIn_of _ (by decide +kernel)) ggX10_seen_X10_in
theorem dX10_seen_0 : decode cX10_seen 0 = .ok (.aload_n 0, 1) := by decide +kernel
theorem dX10_seen_1 : decode cX10_seen 1 = .ok (.iload_n 1, 1) := by decide +kernel
theorem dX10_seen_2 : decode cX10_seen 2 = .ok (.invokevirtual 104, 3) := by decide +kernel
theorem dX10_seen_5 : decode cX10_seen 5 = .ok (.ifCond .eq 12, 3) := by decide +kernel
theorem dX10_seen_8 : decode cX10_seen 8 = .ok (.iload_n 2, 1) := by decide +kernel
theorem dX10_seen_9 : decode cX10_seen 9 = .ok (.iconst (-1), 1) := by decide +kernel
theorem dX10_seen_10 : decode cX10_seen 10 = .ok (.iconst 1, 1) := by decide +kernel
theorem dX10_seen_11 : decode cX10_seen 11 = .ok (.invokestatic 97, 3) := by decide +kernel
theorem dX10_seen_14 : decode cX10_seen 14 = .ok (.ifCond .ne 5, 3) := by decide +kernel
theorem dX10_seen_17 : decode cX10_seen 17 = .ok (.iconst (-1), 1) := by decide +kernel
theorem dX10_seen_18 : decode cX10_seen 18 = .ok (.ireturn, 1) := by decide +kernel
theorem dX10_seen_19 : decode cX10_seen 19 = .ok (.aload_n 0, 1) := by decide +kernel
theorem dX10_seen_20 : decode cX10_seen 20 = .ok (.getfield 23, 3) := by decide +kernel
theorem dX10_seen_23 : decode cX10_seen 23 = .ok (.iload_n 1, 1) := by decide +kernel
theorem dX10_seen_24 : decode cX10_seen 24 = .ok (.iaload, 1) := by decide +kernel
theorem dX10_seen_25 : decode cX10_seen 25 = .ok (.istore_n 3, 1) := by decide +kernel
theorem dX10_seen_26 : decode cX10_seen 26 = .ok (.aload_n 0, 1) := by decide +kernel
theorem dX10_seen_27 : decode cX10_seen 27 = .ok (.getfield 23, 3) := by decide +kernel
theorem dX10_seen_30 : decode cX10_seen 30 = .ok (.iload_n 1, 1) := by decide +kernel
theorem dX10_seen_31 : decode cX10_seen 31 = .ok (.iload_n 2, 1) := by decide +kernel
theorem dX10_seen_32 : decode cX10_seen 32 = .ok (.iconst 1, 1) := by decide +kernel
theorem dX10_seen_33 : decode cX10_seen 33 = .ok (.iadd, 1) := by decide +kernel
theorem dX10_seen_34 : decode cX10_seen 34 = .ok (.iastore, 1) := by decide +kernel
theorem dX10_seen_35 : decode cX10_seen 35 = .ok (.iload_n 3, 1) := by decide +kernel
theorem dX10_seen_36 : decode cX10_seen 36 = .ok (.ifCond .ne 8, 3) := by decide +kernel
theorem dX10_seen_39 : decode cX10_seen 39 = .ok (.bipush (-9), 2) := by decide +kernel
theorem dX10_seen_41 : decode cX10_seen 41 = .ok (.goto 6, 3) := by decide +kernel
theorem dX10_seen_44 : decode cX10_seen 44 = .ok (.iload_n 3, 1) := by decide +kernel
theorem dX10_seen_45 : decode cX10_seen 45 = .ok (.iconst 1, 1) := by decide +kernel
theorem dX10_seen_46 : decode cX10_seen 46 = .ok (.isub, 1) := by decide +kernel
theorem dX10_seen_47 : decode cX10_seen 47 = .ok (.ireturn, 1) := by decide +kernel
set_option maxRecDepth 20000 in
theorem ggX10_who_X10_isPerson : GoodIn wsX10_who wsX10_isPerson := goodIn_r _ [9, 1, 10, 11, 8, 12, 82, 83, 84, 85, 86, 87, 88, 89, 90, 91, 92, 93, 94, 95, 96, 97, 98, 99, 100, 101, 102, 103, 104, 105, 106, 107, 108, 109, 110, 111, 112, 113, 114, 115, 116, 117, 118, 119, 120, 121, 122, 123, 124, 125, 126, 127, 128, 129, 130, 131, 132, 133, 134, 135] (by decide +kernel) (by decide +kernel)
set_option maxRecDepth 20000 in
theorem gX10_who_X10_isPerson : GoodIn wsX10_who (wsV RX10 104 RX10 yX10_isPerson wsX10_isPerson) := goodIn_app (goodIn_of _ (by decide +kernel)) ggX10_who_X10_isPerson
set_option maxRecDepth 20000 in
theorem ggX10_who_X10_isSide : GoodIn wsX10_who wsX10_isSide := goodIn_r _ [15, 10, 11, 8, 12] (by decide +kernel) (by decide +kernel)
set_option maxRecDepth 20000 in
theorem gX10_who_X10_isSide : GoodIn wsX10_who (va_wsS RX10 276 yX10_isSide wsX10_isSide) := goodIn_app (goodIn_of _ (by decide +kernel)) ggX10_who_X10_isSide
set_option maxRecDepth 20000 in
theorem ggX10_who_X10_unsure : GoodIn wsX10_who wsX10_unsure := goodIn_r _ [19, 20, 21, 22, 23, 8, 24, 25, 26, 27, 28, 29, 30, 31, 32, 33, 34, 35, 36, 37, 38, 39, 40, 41, 42, 43, 44, 45, 46, 47, 48, 49, 50, 82, 83, 84, 85, 86, 87, 88, 89, 90, 91, 92, 93, 94, 95, 96, 97, 98, 99, 100, 101, 102, 103, 104, 105, 106, 107, 108, 109, 110, 111, 112, 113, 114, 115, 116, 117, 118, 119, 120, 121, 122, 123, 124, 125, 126, 127, 128, 129, 130, 131, 132, 133, 134, 135] (by decide +kernel) (by decide +kernel)
set_option maxRecDepth 20000 in
theorem gX10_who_X10_unsure : GoodIn wsX10_who (wsV RX10 282 RX10 yX10_unsure wsX10_unsure) := goodIn_app (goodIn_of _ (by decide +kernel)) ggX10_who_X10_unsure
set_option maxRecDepth 20000 in
theorem ggX10_who_X10_ones : GoodIn wsX10_who wsX10_ones := goodIn_r _ [50] (by decide +kernel) (by decide +kernel)
set_option maxRecDepth 20000 in
theorem gX10_who_X10_ones : GoodIn wsX10_who (va_wsS RX10 116 yX10_ones wsX10_ones) := goodIn_app (goodIn_of _ (by decide +kernel)) ggX10_who_X10_ones
set_option maxRecDepth 20000 in
theorem ggX10_who_X10_findTale : GoodIn wsX10_who wsX10_findTale := goodIn_r _ [54, 1, 55, 2, 56, 16, 17, 18, 8, 19, 20, 21, 22, 23, 24, 25, 26, 27, 28, 29, 30, 31, 32, 33, 34, 35, 36, 37, 38, 39, 40, 41, 42, 43, 44, 45, 46, 47, 48, 49, 50, 57, 58, 59, 60, 61, 62, 63, 64, 65, 66, 67, 68, 69, 70, 71, 72, 73, 74, 75, 76, 77, 82, 83, 84, 85, 86, 87, 88, 89, 90, 91, 92, 93, 94, 95, 96, 97, 98, 99, 100, 101, 102, 103, 104, 105, 106, 107, 108, 109, 110, 111, 112, 113, 114, 115, 116, 117, 118, 119, 120, 121, 122, 123, 124, 125, 126, 127, 128, 129, 130, 131, 132, 133, 134, 135] (by decide +kernel) (by decide +kernel)
set_option maxRecDepth 20000 in
theorem gX10_who_X10_findTale : GoodIn wsX10_who (wsV RX10 304 RX10 yX10_findTale wsX10_findTale) := goodIn_app (goodIn_of _ (by decide +kernel)) ggX10_who_X10_findTale
set_option maxRecDepth 20000 in
theorem ggX10_who_X10_lowest : GoodIn wsX10_who wsX10_lowest := goodIn_r _ [81, 3, 4, 82, 83, 84, 85, 86, 87, 88, 89, 90, 91, 92, 93, 94, 95, 96, 97, 98, 99, 100, 101, 102, 103, 104, 105, 106, 107, 108, 109, 110, 111, 112, 113, 114, 115, 116, 117, 118, 119, 120, 121, 122, 123, 124, 125, 126, 127, 128, 129, 130, 131, 132, 133, 134, 135] (by decide +kernel) (by decide +kernel)
set_option maxRecDepth 20000 in
theorem gX10_who_X10_lowest : GoodIn wsX10_who (wsV RX10 311 RX10 yX10_lowest wsX10_lowest) := goodIn_app (goodIn_of _ (by decide +kernel)) ggX10_who_X10_lowest
theorem dX10_who_0 : decode cX10_who 0 = .ok (.aload_n 0, 1) := by decide +kernel
theorem dX10_who_1 : decode cX10_who 1 = .ok (.iload_n 1, 1) := by decide +kernel
theorem dX10_who_2 : decode cX10_who 2 = .ok (.invokevirtual 104, 3) := by decide +kernel
theorem dX10_who_5 : decode cX10_who 5 = .ok (.ifCond .eq 10, 3) := by decide +kernel
theorem dX10_who_8 : decode cX10_who 8 = .ok (.iload_n 2, 1) := by decide +kernel
theorem dX10_who_9 : decode cX10_who 9 = .ok (.invokestatic 276, 3) := by decide +kernel
theorem dX10_who_12 : decode cX10_who 12 = .ok (.ifCond .ne 5, 3) := by decide +kernel
theorem dX10_who_15 : decode cX10_who 15 = .ok (.iconst (-1), 1) := by decide +kernel
theorem dX10_who_16 : decode cX10_who 16 = .ok (.ireturn, 1) := by decide +kernel
theorem dX10_who_17 : decode cX10_who 17 = .ok (.aload_n 0, 1) := by decide +kernel
theorem dX10_who_18 : decode cX10_who 18 = .ok (.invokevirtual 282, 3) := by decide +kernel
theorem dX10_who_21 : decode cX10_who 21 = .ok (.invokestatic 116, 3) := by decide +kernel
theorem dX10_who_24 : decode cX10_who 24 = .ok (.bipush 9, 2) := by decide +kernel
theorem dX10_who_26 : decode cX10_who 26 = .ok (.if_icmp .le 6, 3) := by decide +kernel
theorem dX10_who_29 : decode cX10_who 29 = .ok (.bipush (-4), 2) := by decide +kernel
theorem dX10_who_31 : decode cX10_who 31 = .ok (.ireturn, 1) := by decide +kernel
theorem dX10_who_32 : decode cX10_who 32 = .ok (.aload_n 0, 1) := by decide +kernel
theorem dX10_who_33 : decode cX10_who 33 = .ok (.invokevirtual 304, 3) := by decide +kernel
theorem dX10_who_36 : decode cX10_who 36 = .ok (.lconst 0, 1) := by decide +kernel
theorem dX10_who_37 : decode cX10_who 37 = .ok (.lstore_n 3, 1) := by decide +kernel
theorem dX10_who_38 : decode cX10_who 38 = .ok (.iconst 0, 1) := by decide +kernel
theorem dX10_who_39 : decode cX10_who 39 = .ok (.istore 5, 2) := by decide +kernel
theorem dX10_who_41 : decode cX10_who 41 = .ok (.iload 5, 2) := by decide +kernel
theorem dX10_who_43 : decode cX10_who 43 = .ok (.aload_n 0, 1) := by decide +kernel
theorem dX10_who_44 : decode cX10_who 44 = .ok (.getfield 7, 3) := by decide +kernel
theorem dX10_who_47 : decode cX10_who 47 = .ok (.if_icmp .ge 19, 3) := by decide +kernel
theorem dX10_who_50 : decode cX10_who 50 = .ok (.lload_n 3, 1) := by decide +kernel
theorem dX10_who_51 : decode cX10_who 51 = .ok (.aload_n 0, 1) := by decide +kernel
theorem dX10_who_52 : decode cX10_who 52 = .ok (.getfield 45, 3) := by decide +kernel
theorem dX10_who_55 : decode cX10_who 55 = .ok (.iload 5, 2) := by decide +kernel
theorem dX10_who_57 : decode cX10_who 57 = .ok (.laload, 1) := by decide +kernel
theorem dX10_who_58 : decode cX10_who 58 = .ok (.ladd, 1) := by decide +kernel
theorem dX10_who_59 : decode cX10_who 59 = .ok (.lstore_n 3, 1) := by decide +kernel
theorem dX10_who_60 : decode cX10_who 60 = .ok (.iinc 5 1, 3) := by decide +kernel
theorem dX10_who_63 : decode cX10_who 63 = .ok (.goto (-22), 3) := by decide +kernel
theorem dX10_who_66 : decode cX10_who 66 = .ok (.lload_n 3, 1) := by decide +kernel
theorem dX10_who_67 : decode cX10_who 67 = .ok (.lconst 0, 1) := by decide +kernel
theorem dX10_who_68 : decode cX10_who 68 = .ok (.lcmp, 1) := by decide +kernel
theorem dX10_who_69 : decode cX10_who 69 = .ok (.ifCond .ne 6, 3) := by decide +kernel
theorem dX10_who_72 : decode cX10_who 72 = .ok (.bipush (-3), 2) := by decide +kernel
theorem dX10_who_74 : decode cX10_who 74 = .ok (.ireturn, 1) := by decide +kernel
theorem dX10_who_75 : decode cX10_who 75 = .ok (.aload_n 0, 1) := by decide +kernel
theorem dX10_who_76 : decode cX10_who 76 = .ok (.aload_n 0, 1) := by decide +kernel
theorem dX10_who_77 : decode cX10_who 77 = .ok (.getfield 45, 3) := by decide +kernel
theorem dX10_who_80 : decode cX10_who 80 = .ok (.iload_n 1, 1) := by decide +kernel
theorem dX10_who_81 : decode cX10_who 81 = .ok (.laload, 1) := by decide +kernel
theorem dX10_who_82 : decode cX10_who 82 = .ok (.lload_n 3, 1) := by decide +kernel
theorem dX10_who_83 : decode cX10_who 83 = .ok (.invokevirtual 311, 3) := by decide +kernel
theorem dX10_who_86 : decode cX10_who 86 = .ok (.iload_n 2, 1) := by decide +kernel
theorem dX10_who_87 : decode cX10_who 87 = .ok (.ifCond .ne 10, 3) := by decide +kernel
theorem dX10_who_90 : decode cX10_who 90 = .ok (.aload_n 0, 1) := by decide +kernel
theorem dX10_who_91 : decode cX10_who 91 = .ok (.getfield 292, 3) := by decide +kernel
theorem dX10_who_94 : decode cX10_who 94 = .ok (.goto 7, 3) := by decide +kernel
theorem dX10_who_97 : decode cX10_who 97 = .ok (.aload_n 0, 1) := by decide +kernel
theorem dX10_who_98 : decode cX10_who 98 = .ok (.getfield 295, 3) := by decide +kernel
theorem dX10_who_101 : decode cX10_who 101 = .ok (.l2i, 1) := by decide +kernel
theorem dX10_who_102 : decode cX10_who 102 = .ok (.ireturn, 1) := by decide +kernel
theorem dX10_beginCut_0 : decode cX10_beginCut 0 = .ok (.aload_n 0, 1) := by decide +kernel
theorem dX10_beginCut_1 : decode cX10_beginCut 1 = .ok (.iconst 0, 1) := by decide +kernel
theorem dX10_beginCut_2 : decode cX10_beginCut 2 = .ok (.putfield 315, 3) := by decide +kernel
theorem dX10_beginCut_5 : decode cX10_beginCut 5 = .ok (.aload_n 0, 1) := by decide +kernel
theorem dX10_beginCut_6 : decode cX10_beginCut 6 = .ok (.iconst 0, 1) := by decide +kernel
theorem dX10_beginCut_7 : decode cX10_beginCut 7 = .ok (.putfield 318, 3) := by decide +kernel
theorem dX10_beginCut_10 : decode cX10_beginCut 10 = .ok (.aload_n 0, 1) := by decide +kernel
theorem dX10_beginCut_11 : decode cX10_beginCut 11 = .ok (.iconst 0, 1) := by decide +kernel
theorem dX10_beginCut_12 : decode cX10_beginCut 12 = .ok (.putfield 321, 3) := by decide +kernel
theorem dX10_beginCut_15 : decode cX10_beginCut 15 = .ok (.return_, 1) := by decide +kernel
set_option maxRecDepth 20000 in
theorem ggX10_countCut_X10_its : GoodIn wsX10_countCut wsX10_its := goodIn_r _ [8, 9, 10, 11, 12, 13, 14, 15, 16, 17, 18, 19, 20, 21, 22, 23, 24, 25, 26, 27, 28, 29, 30, 31, 32, 33, 34, 35, 36, 37, 38, 39, 40, 41, 42, 43, 44, 45, 46, 47, 48, 49, 50, 51, 52, 53, 54, 55, 56, 57, 58, 59, 60, 61, 62, 63] (by decide +kernel) (by decide +kernel)
set_option maxRecDepth 20000 in
theorem gX10_countCut_X10_its : GoodIn wsX10_countCut (wsV RX10 108 RX10 yX10_its wsX10_its) := goodIn_app (goodIn_of _ (by decide +kernel)) ggX10_countCut_X10_its
theorem dX10_countCut_0 : decode cX10_countCut 0 = .ok (.aload_n 0, 1) := by decide +kernel
theorem dX10_countCut_1 : decode cX10_countCut 1 = .ok (.dup, 1) := by decide +kernel
theorem dX10_countCut_2 : decode cX10_countCut 2 = .ok (.getfield 315, 3) := by decide +kernel
theorem dX10_countCut_5 : decode cX10_countCut 5 = .ok (.iconst 1, 1) := by decide +kernel
theorem dX10_countCut_6 : decode cX10_countCut 6 = .ok (.iadd, 1) := by decide +kernel
theorem dX10_countCut_7 : decode cX10_countCut 7 = .ok (.putfield 315, 3) := by decide +kernel
theorem dX10_countCut_10 : decode cX10_countCut 10 = .ok (.aload_n 0, 1) := by decide +kernel
theorem dX10_countCut_11 : decode cX10_countCut 11 = .ok (.dup, 1) := by decide +kernel
theorem dX10_countCut_12 : decode cX10_countCut 12 = .ok (.getfield 318, 3) := by decide +kernel
theorem dX10_countCut_15 : decode cX10_countCut 15 = .ok (.aload_n 0, 1) := by decide +kernel
theorem dX10_countCut_16 : decode cX10_countCut 16 = .ok (.iload_n 1, 1) := by decide +kernel
theorem dX10_countCut_17 : decode cX10_countCut 17 = .ok (.iconst 2, 1) := by decide +kernel
theorem dX10_countCut_18 : decode cX10_countCut 18 = .ok (.invokevirtual 108, 3) := by decide +kernel
theorem dX10_countCut_21 : decode cX10_countCut 21 = .ok (.iadd, 1) := by decide +kernel
theorem dX10_countCut_22 : decode cX10_countCut 22 = .ok (.putfield 318, 3) := by decide +kernel
theorem dX10_countCut_25 : decode cX10_countCut 25 = .ok (.aload_n 0, 1) := by decide +kernel
theorem dX10_countCut_26 : decode cX10_countCut 26 = .ok (.aload_n 0, 1) := by decide +kernel
theorem dX10_countCut_27 : decode cX10_countCut 27 = .ok (.getfield 321, 3) := by decide +kernel
theorem dX10_countCut_30 : decode cX10_countCut 30 = .ok (.ifCond .ne 13, 3) := by decide +kernel
theorem dX10_countCut_33 : decode cX10_countCut 33 = .ok (.aload_n 0, 1) := by decide +kernel
theorem dX10_countCut_34 : decode cX10_countCut 34 = .ok (.iload_n 1, 1) := by decide +kernel
theorem dX10_countCut_35 : decode cX10_countCut 35 = .ok (.iconst 4, 1) := by decide +kernel
theorem dX10_countCut_36 : decode cX10_countCut 36 = .ok (.invokevirtual 108, 3) := by decide +kernel
theorem dX10_countCut_39 : decode cX10_countCut 39 = .ok (.iconst 1, 1) := by decide +kernel
theorem dX10_countCut_40 : decode cX10_countCut 40 = .ok (.if_icmp .ne 7, 3) := by decide +kernel
theorem dX10_countCut_43 : decode cX10_countCut 43 = .ok (.iconst 1, 1) := by decide +kernel
theorem dX10_countCut_44 : decode cX10_countCut 44 = .ok (.goto 4, 3) := by decide +kernel
theorem dX10_countCut_47 : decode cX10_countCut 47 = .ok (.iconst 0, 1) := by decide +kernel
theorem dX10_countCut_48 : decode cX10_countCut 48 = .ok (.putfield 321, 3) := by decide +kernel
theorem dX10_countCut_51 : decode cX10_countCut 51 = .ok (.return_, 1) := by decide +kernel
set_option maxRecDepth 20000 in
theorem ggX10_fewest_X10_areTwo : GoodIn wsX10_fewest wsX10_areTwo := goodIn_r _ [9, 10, 11, 12, 8, 13, 14, 15, 16, 17, 63, 64, 65, 66, 67, 68, 69, 70, 71, 72, 73, 74, 75, 76, 77, 78, 79, 80, 81, 82, 83, 84, 85, 86, 87, 88, 89, 90, 91, 92, 93, 94, 95, 96, 97, 98, 99, 100, 101, 102, 103, 104, 105, 106, 107, 108, 109, 110, 111, 112, 113, 114, 115, 116] (by decide +kernel) (by decide +kernel)
set_option maxRecDepth 20000 in
theorem gX10_fewest_X10_areTwo : GoodIn wsX10_fewest (wsV RX10 238 RX10 yX10_areTwo wsX10_areTwo) := goodIn_app (goodIn_of _ (by decide +kernel)) ggX10_fewest_X10_areTwo
set_option maxRecDepth 20000 in
theorem ggX10_fewest_X10_isSide : GoodIn wsX10_fewest wsX10_isSide := goodIn_r _ [20, 15, 16, 8, 17] (by decide +kernel) (by decide +kernel)
set_option maxRecDepth 20000 in
theorem gX10_fewest_X10_isSide : GoodIn wsX10_fewest (va_wsS RX10 276 yX10_isSide wsX10_isSide) := goodIn_app (goodIn_of _ (by decide +kernel)) ggX10_fewest_X10_isSide
set_option maxRecDepth 20000 in
theorem ggX10_fewest_X10_openOn : GoodIn wsX10_fewest wsX10_openOn := goodIn_r _ [24, 1, 25, 26, 27, 8, 28, 29, 30, 31, 32, 33, 34, 35, 36, 37, 38, 39, 40, 41, 42, 43, 44, 45, 46, 47, 48, 49, 50, 63, 64, 65, 66, 67, 68, 69, 70, 71, 72, 73, 74, 75, 76, 77, 78, 79, 80, 81, 82, 83, 84, 85, 86, 87, 88, 89, 90, 91, 92, 93, 94, 95, 96, 97, 98, 99, 100, 101, 102, 103, 104, 105, 106, 107, 108, 109, 110, 111, 112, 113, 114, 115, 116] (by decide +kernel) (by decide +kernel)
set_option maxRecDepth 20000 in
theorem gX10_fewest_X10_openOn : GoodIn wsX10_fewest (wsV RX10 266 RX10 yX10_openOn wsX10_openOn) := goodIn_app (goodIn_of _ (by decide +kernel)) ggX10_fewest_X10_openOn
set_option maxRecDepth 20000 in
theorem ggX10_fewest_X10_all : GoodIn wsX10_fewest wsX10_all := goodIn_r _ [54, 14, 63, 64, 65, 66, 67, 68, 69, 70, 71, 72, 73, 74, 75, 76, 77, 78, 79, 80, 81, 82, 83, 84, 85, 86, 87, 88, 89, 90, 91, 92, 93, 94, 95, 96, 97, 98, 99, 100, 101, 102, 103, 104, 105, 106, 107, 108, 109, 110, 111, 112, 113, 114, 115, 116] (by decide +kernel) (by decide +kernel)
set_option maxRecDepth 20000 in
theorem gX10_fewest_X10_all : GoodIn wsX10_fewest (wsV RX10 244 RX10 yX10_all wsX10_all) := goodIn_app (goodIn_of _ (by decide +kernel)) ggX10_fewest_X10_all
set_option maxRecDepth 20000 in
theorem ggX10_fewest_X10_beginCut : GoodIn wsX10_fewest wsX10_beginCut := goodIn_r _ [58, 2, 3, 4, 63, 64, 65, 66, 67, 68, 69, 70, 71, 72, 73, 74, 75, 76, 77, 78, 79, 80, 81, 82, 83, 84, 85, 86, 87, 88, 89, 90, 91, 92, 93, 94, 95, 96, 97, 98, 99, 100, 101, 102, 103, 104, 105, 106, 107, 108, 109, 110, 111, 112, 113, 114, 115, 116] (by decide +kernel) (by decide +kernel)
set_option maxRecDepth 20000 in
theorem gX10_fewest_X10_beginCut : GoodIn wsX10_fewest (wsV RX10 324 RX10 yX10_beginCut wsX10_beginCut) := goodIn_app (goodIn_of _ (by decide +kernel)) ggX10_fewest_X10_beginCut
set_option maxRecDepth 20000 in
theorem ggX10_fewest_X10_inSet : GoodIn wsX10_fewest wsX10_inSet := goodIn_r _ [38, 39, 40, 41, 8, 42, 43, 44, 45, 46, 47, 48, 49, 50, 63, 64, 65, 66, 67, 68, 69, 70, 71, 72, 73, 74, 75, 76, 77, 78, 79, 80, 81, 82, 83, 84, 85, 86, 87, 88, 89, 90, 91, 92, 93, 94, 95, 96, 97, 98, 99, 100, 101, 102, 103, 104, 105, 106, 107, 108, 109, 110, 111, 112, 113, 114, 115, 116] (by decide +kernel) (by decide +kernel)
set_option maxRecDepth 20000 in
theorem gX10_fewest_X10_inSet : GoodIn wsX10_fewest (wsV RX10 254 RX10 yX10_inSet wsX10_inSet) := goodIn_app (goodIn_of _ (by decide +kernel)) ggX10_fewest_X10_inSet
set_option maxRecDepth 20000 in
theorem ggX10_fewest_X10_countCut : GoodIn wsX10_fewest wsX10_countCut := goodIn_r _ [62, 2, 3, 4, 43, 44, 45, 8, 46, 47, 63, 64, 65, 66, 67, 68, 69, 70, 71, 72, 73, 74, 75, 76, 77, 78, 79, 80, 81, 82, 83, 84, 85, 86, 87, 88, 89, 90, 91, 92, 93, 94, 95, 96, 97, 98, 99, 100, 101, 102, 103, 104, 105, 106, 107, 108, 109, 110, 111, 112, 113, 114, 115, 116] (by decide +kernel) (by decide +kernel)
set_option maxRecDepth 20000 in
theorem gX10_fewest_X10_countCut : GoodIn wsX10_fewest (wsV RX10 327 RX10 yX10_countCut wsX10_countCut) := goodIn_app (goodIn_of _ (by decide +kernel)) ggX10_fewest_X10_countCut
theorem dX10_fewest_0 : decode cX10_fewest 0 = .ok (.aload_n 0, 1) := by decide +kernel
theorem dX10_fewest_1 : decode cX10_fewest 1 = .ok (.iload_n 1, 1) := by decide +kernel
theorem dX10_fewest_2 : decode cX10_fewest 2 = .ok (.iload_n 2, 1) := by decide +kernel
theorem dX10_fewest_3 : decode cX10_fewest 3 = .ok (.invokevirtual 238, 3) := by decide +kernel
theorem dX10_fewest_6 : decode cX10_fewest 6 = .ok (.ifCond .eq 10, 3) := by decide +kernel
theorem dX10_fewest_9 : decode cX10_fewest 9 = .ok (.iload_n 3, 1) := by decide +kernel
theorem dX10_fewest_10 : decode cX10_fewest 10 = .ok (.invokestatic 276, 3) := by decide +kernel
theorem dX10_fewest_13 : decode cX10_fewest 13 = .ok (.ifCond .ne 5, 3) := by decide +kernel
theorem dX10_fewest_16 : decode cX10_fewest 16 = .ok (.iconst (-1), 1) := by decide +kernel
theorem dX10_fewest_17 : decode cX10_fewest 17 = .ok (.ireturn, 1) := by decide +kernel
theorem dX10_fewest_18 : decode cX10_fewest 18 = .ok (.aload_n 0, 1) := by decide +kernel
theorem dX10_fewest_19 : decode cX10_fewest 19 = .ok (.iconst 0, 1) := by decide +kernel
theorem dX10_fewest_20 : decode cX10_fewest 20 = .ok (.invokevirtual 266, 3) := by decide +kernel
theorem dX10_fewest_23 : decode cX10_fewest 23 = .ok (.istore 4, 2) := by decide +kernel
theorem dX10_fewest_25 : decode cX10_fewest 25 = .ok (.bipush (-3), 2) := by decide +kernel
theorem dX10_fewest_27 : decode cX10_fewest 27 = .ok (.istore 5, 2) := by decide +kernel
theorem dX10_fewest_29 : decode cX10_fewest 29 = .ok (.iconst 0, 1) := by decide +kernel
theorem dX10_fewest_30 : decode cX10_fewest 30 = .ok (.istore 6, 2) := by decide +kernel
theorem dX10_fewest_32 : decode cX10_fewest 32 = .ok (.iload 6, 2) := by decide +kernel
theorem dX10_fewest_34 : decode cX10_fewest 34 = .ok (.aload_n 0, 1) := by decide +kernel
theorem dX10_fewest_35 : decode cX10_fewest 35 = .ok (.invokevirtual 244, 3) := by decide +kernel
theorem dX10_fewest_38 : decode cX10_fewest 38 = .ok (.if_icmp .gt 127, 3) := by decide +kernel
theorem dX10_fewest_41 : decode cX10_fewest 41 = .ok (.iload 6, 2) := by decide +kernel
theorem dX10_fewest_43 : decode cX10_fewest 43 = .ok (.iload_n 1, 1) := by decide +kernel
theorem dX10_fewest_44 : decode cX10_fewest 44 = .ok (.ishr, 1) := by decide +kernel
theorem dX10_fewest_45 : decode cX10_fewest 45 = .ok (.iconst 1, 1) := by decide +kernel
theorem dX10_fewest_46 : decode cX10_fewest 46 = .ok (.iand, 1) := by decide +kernel
theorem dX10_fewest_47 : decode cX10_fewest 47 = .ok (.ifCond .eq 112, 3) := by decide +kernel
theorem dX10_fewest_50 : decode cX10_fewest 50 = .ok (.iload 6, 2) := by decide +kernel
theorem dX10_fewest_52 : decode cX10_fewest 52 = .ok (.iload_n 2, 1) := by decide +kernel
theorem dX10_fewest_53 : decode cX10_fewest 53 = .ok (.ishr, 1) := by decide +kernel
theorem dX10_fewest_54 : decode cX10_fewest 54 = .ok (.iconst 1, 1) := by decide +kernel
theorem dX10_fewest_55 : decode cX10_fewest 55 = .ok (.iand, 1) := by decide +kernel
theorem dX10_fewest_56 : decode cX10_fewest 56 = .ok (.iconst 1, 1) := by decide +kernel
theorem dX10_fewest_57 : decode cX10_fewest 57 = .ok (.if_icmp .ne 6, 3) := by decide +kernel
theorem dX10_fewest_60 : decode cX10_fewest 60 = .ok (.goto 99, 3) := by decide +kernel
theorem dX10_fewest_63 : decode cX10_fewest 63 = .ok (.aload_n 0, 1) := by decide +kernel
theorem dX10_fewest_64 : decode cX10_fewest 64 = .ok (.invokevirtual 324, 3) := by decide +kernel
theorem dX10_fewest_67 : decode cX10_fewest 67 = .ok (.iconst 0, 1) := by decide +kernel
theorem dX10_fewest_68 : decode cX10_fewest 68 = .ok (.istore 7, 2) := by decide +kernel
theorem dX10_fewest_70 : decode cX10_fewest 70 = .ok (.iload 7, 2) := by decide +kernel
theorem dX10_fewest_72 : decode cX10_fewest 72 = .ok (.aload_n 0, 1) := by decide +kernel
theorem dX10_fewest_73 : decode cX10_fewest 73 = .ok (.getfield 101, 3) := by decide +kernel
theorem dX10_fewest_76 : decode cX10_fewest 76 = .ok (.if_icmp .ge 38, 3) := by decide +kernel
theorem dX10_fewest_79 : decode cX10_fewest 79 = .ok (.iload 4, 2) := by decide +kernel
theorem dX10_fewest_81 : decode cX10_fewest 81 = .ok (.iload 7, 2) := by decide +kernel
theorem dX10_fewest_83 : decode cX10_fewest 83 = .ok (.ishr, 1) := by decide +kernel
theorem dX10_fewest_84 : decode cX10_fewest 84 = .ok (.iconst 1, 1) := by decide +kernel
theorem dX10_fewest_85 : decode cX10_fewest 85 = .ok (.iand, 1) := by decide +kernel
theorem dX10_fewest_86 : decode cX10_fewest 86 = .ok (.iconst 1, 1) := by decide +kernel
theorem dX10_fewest_87 : decode cX10_fewest 87 = .ok (.if_icmp .ne 21, 3) := by decide +kernel
theorem dX10_fewest_90 : decode cX10_fewest 90 = .ok (.aload_n 0, 1) := by decide +kernel
theorem dX10_fewest_91 : decode cX10_fewest 91 = .ok (.iload 7, 2) := by decide +kernel
theorem dX10_fewest_93 : decode cX10_fewest 93 = .ok (.iload 6, 2) := by decide +kernel
theorem dX10_fewest_95 : decode cX10_fewest 95 = .ok (.invokevirtual 254, 3) := by decide +kernel
theorem dX10_fewest_98 : decode cX10_fewest 98 = .ok (.iconst 1, 1) := by decide +kernel
theorem dX10_fewest_99 : decode cX10_fewest 99 = .ok (.if_icmp .ne 9, 3) := by decide +kernel
theorem dX10_fewest_102 : decode cX10_fewest 102 = .ok (.aload_n 0, 1) := by decide +kernel
theorem dX10_fewest_103 : decode cX10_fewest 103 = .ok (.iload 7, 2) := by decide +kernel
theorem dX10_fewest_105 : decode cX10_fewest 105 = .ok (.invokevirtual 327, 3) := by decide +kernel
theorem dX10_fewest_108 : decode cX10_fewest 108 = .ok (.iinc 7 1, 3) := by decide +kernel
theorem dX10_fewest_111 : decode cX10_fewest 111 = .ok (.goto (-41), 3) := by decide +kernel
theorem dX10_fewest_114 : decode cX10_fewest 114 = .ok (.iload_n 3, 1) := by decide +kernel
theorem dX10_fewest_115 : decode cX10_fewest 115 = .ok (.ifCond .ne 10, 3) := by decide +kernel
theorem dX10_fewest_118 : decode cX10_fewest 118 = .ok (.aload_n 0, 1) := by decide +kernel
theorem dX10_fewest_119 : decode cX10_fewest 119 = .ok (.getfield 315, 3) := by decide +kernel
theorem dX10_fewest_122 : decode cX10_fewest 122 = .ok (.goto 7, 3) := by decide +kernel
theorem dX10_fewest_125 : decode cX10_fewest 125 = .ok (.aload_n 0, 1) := by decide +kernel
theorem dX10_fewest_126 : decode cX10_fewest 126 = .ok (.getfield 318, 3) := by decide +kernel
theorem dX10_fewest_129 : decode cX10_fewest 129 = .ok (.istore 7, 2) := by decide +kernel
theorem dX10_fewest_131 : decode cX10_fewest 131 = .ok (.aload_n 0, 1) := by decide +kernel
theorem dX10_fewest_132 : decode cX10_fewest 132 = .ok (.getfield 321, 3) := by decide +kernel
theorem dX10_fewest_135 : decode cX10_fewest 135 = .ok (.ifCond .ne 20, 3) := by decide +kernel
theorem dX10_fewest_138 : decode cX10_fewest 138 = .ok (.iload 5, 2) := by decide +kernel
theorem dX10_fewest_140 : decode cX10_fewest 140 = .ok (.ifCond .lt 10, 3) := by decide +kernel
theorem dX10_fewest_143 : decode cX10_fewest 143 = .ok (.iload 7, 2) := by decide +kernel
theorem dX10_fewest_145 : decode cX10_fewest 145 = .ok (.iload 5, 2) := by decide +kernel
theorem dX10_fewest_147 : decode cX10_fewest 147 = .ok (.if_icmp .ge 8, 3) := by decide +kernel
theorem dX10_fewest_150 : decode cX10_fewest 150 = .ok (.iload 7, 2) := by decide +kernel
theorem dX10_fewest_152 : decode cX10_fewest 152 = .ok (.goto 5, 3) := by decide +kernel
theorem dX10_fewest_155 : decode cX10_fewest 155 = .ok (.iload 5, 2) := by decide +kernel
theorem dX10_fewest_157 : decode cX10_fewest 157 = .ok (.istore 5, 2) := by decide +kernel
theorem dX10_fewest_159 : decode cX10_fewest 159 = .ok (.iinc 6 1, 3) := by decide +kernel
theorem dX10_fewest_162 : decode cX10_fewest 162 = .ok (.goto (-130), 3) := by decide +kernel
theorem dX10_fewest_165 : decode cX10_fewest 165 = .ok (.iload 5, 2) := by decide +kernel
theorem dX10_fewest_167 : decode cX10_fewest 167 = .ok (.ireturn, 1) := by decide +kernel
set_option maxRecDepth 20000 in
theorem ggX10_between_X10_areTwo : GoodIn wsX10_between wsX10_areTwo := goodIn_r _ [5, 6, 7, 8, 4, 9, 10, 11, 12, 13, 60, 61, 62, 63, 64, 65, 66, 67, 68, 69, 70, 71, 72, 73, 74, 75, 76, 77, 78, 79, 80, 81, 82, 83, 84, 85, 86, 87, 88, 89, 90, 91, 92, 93, 94, 95, 96, 97, 98, 99, 100, 101, 102, 103, 104, 105, 106, 107, 108, 109, 110, 111, 112, 113] (by decide +kernel) (by decide +kernel)
set_option maxRecDepth 20000 in
theorem gX10_between_X10_areTwo : GoodIn wsX10_between (wsV RX10 238 RX10 yX10_areTwo wsX10_areTwo) := goodIn_app (goodIn_of _ (by decide +kernel)) ggX10_between_X10_areTwo
set_option maxRecDepth 20000 in
theorem ggX10_between_X10_isSide : GoodIn wsX10_between wsX10_isSide := goodIn_r _ [16, 11, 12, 4, 13] (by decide +kernel) (by decide +kernel)
set_option maxRecDepth 20000 in
theorem gX10_between_X10_isSide : GoodIn wsX10_between (va_wsS RX10 276 yX10_isSide wsX10_isSide) := goodIn_app (goodIn_of _ (by decide +kernel)) ggX10_between_X10_isSide
set_option maxRecDepth 20000 in
theorem ggX10_between_X10_openOn : GoodIn wsX10_between wsX10_openOn := goodIn_r _ [20, 21, 22, 23, 24, 4, 25, 26, 27, 28, 29, 30, 31, 32, 33, 34, 35, 36, 37, 38, 39, 40, 41, 42, 43, 44, 45, 46, 47, 60, 61, 62, 63, 64, 65, 66, 67, 68, 69, 70, 71, 72, 73, 74, 75, 76, 77, 78, 79, 80, 81, 82, 83, 84, 85, 86, 87, 88, 89, 90, 91, 92, 93, 94, 95, 96, 97, 98, 99, 100, 101, 102, 103, 104, 105, 106, 107, 108, 109, 110, 111, 112, 113] (by decide +kernel) (by decide +kernel)
set_option maxRecDepth 20000 in
theorem gX10_between_X10_openOn : GoodIn wsX10_between (wsV RX10 266 RX10 yX10_openOn wsX10_openOn) := goodIn_app (goodIn_of _ (by decide +kernel)) ggX10_between_X10_openOn
set_option maxRecDepth 20000 in
theorem ggX10_between_X10_all : GoodIn wsX10_between wsX10_all := goodIn_r _ [51, 10, 60, 61, 62, 63, 64, 65, 66, 67, 68, 69, 70, 71, 72, 73, 74, 75, 76, 77, 78, 79, 80, 81, 82, 83, 84, 85, 86, 87, 88, 89, 90, 91, 92, 93, 94, 95, 96, 97, 98, 99, 100, 101, 102, 103, 104, 105, 106, 107, 108, 109, 110, 111, 112, 113] (by decide +kernel) (by decide +kernel)
set_option maxRecDepth 20000 in
theorem gX10_between_X10_all : GoodIn wsX10_between (wsV RX10 244 RX10 yX10_all wsX10_all) := goodIn_app (goodIn_of _ (by decide +kernel)) ggX10_between_X10_all
set_option maxRecDepth 20000 in
theorem ggX10_between_X10_ones : GoodIn wsX10_between wsX10_ones := goodIn_r _ [47] (by decide +kernel) (by decide +kernel)
set_option maxRecDepth 20000 in
theorem gX10_between_X10_ones : GoodIn wsX10_between (va_wsS RX10 116 yX10_ones wsX10_ones) := goodIn_app (goodIn_of _ (by decide +kernel)) ggX10_between_X10_ones
set_option maxRecDepth 20000 in
theorem ggX10_between_X10_joinedBy : GoodIn wsX10_between wsX10_joinedBy := goodIn_r _ [55, 56, 57, 58, 4, 59, 21, 32, 33, 34, 35, 36, 37, 38, 39, 40, 41, 42, 43, 44, 45, 46, 47, 60, 61, 62, 63, 64, 65, 66, 67, 68, 69, 70, 71, 72, 73, 74, 75, 76, 77, 78, 79, 80, 81, 82, 83, 84, 85, 86, 87, 88, 89, 90, 91, 92, 93, 94, 95, 96, 97, 98, 99, 100, 101, 102, 103, 104, 105, 106, 107, 108, 109, 110, 111, 112, 113] (by decide +kernel) (by decide +kernel)
set_option maxRecDepth 20000 in
theorem gX10_between_X10_joinedBy : GoodIn wsX10_between (wsV RX10 269 RX10 yX10_joinedBy wsX10_joinedBy) := goodIn_app (goodIn_of _ (by decide +kernel)) ggX10_between_X10_joinedBy
theorem dX10_between_0 : decode cX10_between 0 = .ok (.aload_n 0, 1) := by decide +kernel
theorem dX10_between_1 : decode cX10_between 1 = .ok (.iload_n 1, 1) := by decide +kernel
theorem dX10_between_2 : decode cX10_between 2 = .ok (.iload_n 2, 1) := by decide +kernel
theorem dX10_between_3 : decode cX10_between 3 = .ok (.invokevirtual 238, 3) := by decide +kernel
theorem dX10_between_6 : decode cX10_between 6 = .ok (.ifCond .eq 10, 3) := by decide +kernel
theorem dX10_between_9 : decode cX10_between 9 = .ok (.iload_n 3, 1) := by decide +kernel
theorem dX10_between_10 : decode cX10_between 10 = .ok (.invokestatic 276, 3) := by decide +kernel
theorem dX10_between_13 : decode cX10_between 13 = .ok (.ifCond .ne 5, 3) := by decide +kernel
theorem dX10_between_16 : decode cX10_between 16 = .ok (.iconst (-1), 1) := by decide +kernel
theorem dX10_between_17 : decode cX10_between 17 = .ok (.ireturn, 1) := by decide +kernel
theorem dX10_between_18 : decode cX10_between 18 = .ok (.aload_n 0, 1) := by decide +kernel
theorem dX10_between_19 : decode cX10_between 19 = .ok (.iconst 0, 1) := by decide +kernel
theorem dX10_between_20 : decode cX10_between 20 = .ok (.invokevirtual 266, 3) := by decide +kernel
theorem dX10_between_23 : decode cX10_between 23 = .ok (.istore 4, 2) := by decide +kernel
theorem dX10_between_25 : decode cX10_between 25 = .ok (.iconst 1, 1) := by decide +kernel
theorem dX10_between_26 : decode cX10_between 26 = .ok (.iload_n 1, 1) := by decide +kernel
theorem dX10_between_27 : decode cX10_between 27 = .ok (.ishl, 1) := by decide +kernel
theorem dX10_between_28 : decode cX10_between 28 = .ok (.iconst 1, 1) := by decide +kernel
theorem dX10_between_29 : decode cX10_between 29 = .ok (.iload_n 2, 1) := by decide +kernel
theorem dX10_between_30 : decode cX10_between 30 = .ok (.ishl, 1) := by decide +kernel
theorem dX10_between_31 : decode cX10_between 31 = .ok (.ior, 1) := by decide +kernel
theorem dX10_between_32 : decode cX10_between 32 = .ok (.istore 5, 2) := by decide +kernel
theorem dX10_between_34 : decode cX10_between 34 = .ok (.bipush (-3), 2) := by decide +kernel
theorem dX10_between_36 : decode cX10_between 36 = .ok (.istore 6, 2) := by decide +kernel
theorem dX10_between_38 : decode cX10_between 38 = .ok (.iconst 0, 1) := by decide +kernel
theorem dX10_between_39 : decode cX10_between 39 = .ok (.istore 7, 2) := by decide +kernel
theorem dX10_between_41 : decode cX10_between 41 = .ok (.iload 7, 2) := by decide +kernel
theorem dX10_between_43 : decode cX10_between 43 = .ok (.aload_n 0, 1) := by decide +kernel
theorem dX10_between_44 : decode cX10_between 44 = .ok (.invokevirtual 244, 3) := by decide +kernel
theorem dX10_between_47 : decode cX10_between 47 = .ok (.if_icmp .gt 86, 3) := by decide +kernel
theorem dX10_between_50 : decode cX10_between 50 = .ok (.iload 7, 2) := by decide +kernel
theorem dX10_between_52 : decode cX10_between 52 = .ok (.iload 5, 2) := by decide +kernel
theorem dX10_between_54 : decode cX10_between 54 = .ok (.iand, 1) := by decide +kernel
theorem dX10_between_55 : decode cX10_between 55 = .ok (.ifCond .ne 34, 3) := by decide +kernel
theorem dX10_between_58 : decode cX10_between 58 = .ok (.iload 6, 2) := by decide +kernel
theorem dX10_between_60 : decode cX10_between 60 = .ok (.ifCond .lt 25, 3) := by decide +kernel
theorem dX10_between_63 : decode cX10_between 63 = .ok (.iload 7, 2) := by decide +kernel
theorem dX10_between_65 : decode cX10_between 65 = .ok (.invokestatic 116, 3) := by decide +kernel
theorem dX10_between_68 : decode cX10_between 68 = .ok (.iload 6, 2) := by decide +kernel
theorem dX10_between_70 : decode cX10_between 70 = .ok (.ifCond .ge 7, 3) := by decide +kernel
theorem dX10_between_73 : decode cX10_between 73 = .ok (.iconst 0, 1) := by decide +kernel
theorem dX10_between_74 : decode cX10_between 74 = .ok (.goto 5, 3) := by decide +kernel
theorem dX10_between_77 : decode cX10_between 77 = .ok (.iload 6, 2) := by decide +kernel
theorem dX10_between_79 : decode cX10_between 79 = .ok (.invokestatic 116, 3) := by decide +kernel
theorem dX10_between_82 : decode cX10_between 82 = .ok (.if_icmp .ge 7, 3) := by decide +kernel
theorem dX10_between_85 : decode cX10_between 85 = .ok (.iconst 1, 1) := by decide +kernel
theorem dX10_between_86 : decode cX10_between 86 = .ok (.goto 4, 3) := by decide +kernel
theorem dX10_between_89 : decode cX10_between 89 = .ok (.iconst 0, 1) := by decide +kernel
theorem dX10_between_90 : decode cX10_between 90 = .ok (.istore 8, 2) := by decide +kernel
theorem dX10_between_92 : decode cX10_between 92 = .ok (.iload 8, 2) := by decide +kernel
theorem dX10_between_94 : decode cX10_between 94 = .ok (.ifCond .eq 33, 3) := by decide +kernel
theorem dX10_between_97 : decode cX10_between 97 = .ok (.aload_n 0, 1) := by decide +kernel
theorem dX10_between_98 : decode cX10_between 98 = .ok (.iconst 1, 1) := by decide +kernel
theorem dX10_between_99 : decode cX10_between 99 = .ok (.iload_n 1, 1) := by decide +kernel
theorem dX10_between_100 : decode cX10_between 100 = .ok (.ishl, 1) := by decide +kernel
theorem dX10_between_101 : decode cX10_between 101 = .ok (.iload 4, 2) := by decide +kernel
theorem dX10_between_103 : decode cX10_between 103 = .ok (.aload_n 0, 1) := by decide +kernel
theorem dX10_between_104 : decode cX10_between 104 = .ok (.invokevirtual 244, 3) := by decide +kernel
theorem dX10_between_107 : decode cX10_between 107 = .ok (.iload 7, 2) := by decide +kernel
theorem dX10_between_109 : decode cX10_between 109 = .ok (.iconst (-1), 1) := by decide +kernel
theorem dX10_between_110 : decode cX10_between 110 = .ok (.ixor, 1) := by decide +kernel
theorem dX10_between_111 : decode cX10_between 111 = .ok (.iand, 1) := by decide +kernel
theorem dX10_between_112 : decode cX10_between 112 = .ok (.invokevirtual 269, 3) := by decide +kernel
theorem dX10_between_115 : decode cX10_between 115 = .ok (.iload 5, 2) := by decide +kernel
theorem dX10_between_117 : decode cX10_between 117 = .ok (.iand, 1) := by decide +kernel
theorem dX10_between_118 : decode cX10_between 118 = .ok (.iload 5, 2) := by decide +kernel
theorem dX10_between_120 : decode cX10_between 120 = .ok (.if_icmp .eq 7, 3) := by decide +kernel
theorem dX10_between_123 : decode cX10_between 123 = .ok (.iload 7, 2) := by decide +kernel
theorem dX10_between_125 : decode cX10_between 125 = .ok (.istore 6, 2) := by decide +kernel
theorem dX10_between_127 : decode cX10_between 127 = .ok (.iinc 7 1, 3) := by decide +kernel
theorem dX10_between_130 : decode cX10_between 130 = .ok (.goto (-89), 3) := by decide +kernel
theorem dX10_between_133 : decode cX10_between 133 = .ok (.iload 6, 2) := by decide +kernel
theorem dX10_between_135 : decode cX10_between 135 = .ok (.ifCond .ge 8, 3) := by decide +kernel
theorem dX10_between_138 : decode cX10_between 138 = .ok (.bipush (-3), 2) := by decide +kernel
theorem dX10_between_140 : decode cX10_between 140 = .ok (.goto 17, 3) := by decide +kernel
theorem dX10_between_143 : decode cX10_between 143 = .ok (.iload_n 3, 1) := by decide +kernel
theorem dX10_between_144 : decode cX10_between 144 = .ok (.ifCond .ne 11, 3) := by decide +kernel
theorem dX10_between_147 : decode cX10_between 147 = .ok (.iload 6, 2) := by decide +kernel
theorem dX10_between_149 : decode cX10_between 149 = .ok (.invokestatic 116, 3) := by decide +kernel
theorem dX10_between_152 : decode cX10_between 152 = .ok (.goto 5, 3) := by decide +kernel
theorem dX10_between_155 : decode cX10_between 155 = .ok (.iload 6, 2) := by decide +kernel
theorem dX10_between_157 : decode cX10_between 157 = .ok (.ireturn, 1) := by decide +kernel
theorem dX10_nextParting_0 : decode cX10_nextParting 0 = .ok (.aload_n 0, 1) := by decide +kernel
theorem dX10_nextParting_1 : decode cX10_nextParting 1 = .ok (.getfield 7, 3) := by decide +kernel
theorem dX10_nextParting_4 : decode cX10_nextParting 4 = .ok (.iconst 1, 1) := by decide +kernel
theorem dX10_nextParting_5 : decode cX10_nextParting 5 = .ok (.isub, 1) := by decide +kernel
theorem dX10_nextParting_6 : decode cX10_nextParting 6 = .ok (.istore_n 1, 1) := by decide +kernel
theorem dX10_nextParting_7 : decode cX10_nextParting 7 = .ok (.iload_n 1, 1) := by decide +kernel
theorem dX10_nextParting_8 : decode cX10_nextParting 8 = .ok (.ifCond .le 92, 3) := by decide +kernel
theorem dX10_nextParting_11 : decode cX10_nextParting 11 = .ok (.iconst 0, 1) := by decide +kernel
theorem dX10_nextParting_12 : decode cX10_nextParting 12 = .ok (.istore_n 2, 1) := by decide +kernel
theorem dX10_nextParting_13 : decode cX10_nextParting 13 = .ok (.iconst 0, 1) := by decide +kernel
theorem dX10_nextParting_14 : decode cX10_nextParting 14 = .ok (.istore_n 3, 1) := by decide +kernel
theorem dX10_nextParting_15 : decode cX10_nextParting 15 = .ok (.iload_n 3, 1) := by decide +kernel
theorem dX10_nextParting_16 : decode cX10_nextParting 16 = .ok (.iload_n 1, 1) := by decide +kernel
theorem dX10_nextParting_17 : decode cX10_nextParting 17 = .ok (.if_icmp .ge 30, 3) := by decide +kernel
theorem dX10_nextParting_20 : decode cX10_nextParting 20 = .ok (.aload_n 0, 1) := by decide +kernel
theorem dX10_nextParting_21 : decode cX10_nextParting 21 = .ok (.getfield 48, 3) := by decide +kernel
theorem dX10_nextParting_24 : decode cX10_nextParting 24 = .ok (.iload_n 3, 1) := by decide +kernel
theorem dX10_nextParting_25 : decode cX10_nextParting 25 = .ok (.iaload, 1) := by decide +kernel
theorem dX10_nextParting_26 : decode cX10_nextParting 26 = .ok (.iload_n 2, 1) := by decide +kernel
theorem dX10_nextParting_27 : decode cX10_nextParting 27 = .ok (.if_icmp .le 12, 3) := by decide +kernel
theorem dX10_nextParting_30 : decode cX10_nextParting 30 = .ok (.aload_n 0, 1) := by decide +kernel
theorem dX10_nextParting_31 : decode cX10_nextParting 31 = .ok (.getfield 48, 3) := by decide +kernel
theorem dX10_nextParting_34 : decode cX10_nextParting 34 = .ok (.iload_n 3, 1) := by decide +kernel
theorem dX10_nextParting_35 : decode cX10_nextParting 35 = .ok (.iaload, 1) := by decide +kernel
theorem dX10_nextParting_36 : decode cX10_nextParting 36 = .ok (.goto 4, 3) := by decide +kernel
theorem dX10_nextParting_39 : decode cX10_nextParting 39 = .ok (.iload_n 2, 1) := by decide +kernel
theorem dX10_nextParting_40 : decode cX10_nextParting 40 = .ok (.istore_n 2, 1) := by decide +kernel
theorem dX10_nextParting_41 : decode cX10_nextParting 41 = .ok (.iinc 3 1, 3) := by decide +kernel
theorem dX10_nextParting_44 : decode cX10_nextParting 44 = .ok (.goto (-29), 3) := by decide +kernel
theorem dX10_nextParting_47 : decode cX10_nextParting 47 = .ok (.aload_n 0, 1) := by decide +kernel
theorem dX10_nextParting_48 : decode cX10_nextParting 48 = .ok (.getfield 48, 3) := by decide +kernel
theorem dX10_nextParting_51 : decode cX10_nextParting 51 = .ok (.iload_n 1, 1) := by decide +kernel
theorem dX10_nextParting_52 : decode cX10_nextParting 52 = .ok (.iaload, 1) := by decide +kernel
theorem dX10_nextParting_53 : decode cX10_nextParting 53 = .ok (.iload_n 2, 1) := by decide +kernel
theorem dX10_nextParting_54 : decode cX10_nextParting 54 = .ok (.if_icmp .gt 40, 3) := by decide +kernel
theorem dX10_nextParting_57 : decode cX10_nextParting 57 = .ok (.aload_n 0, 1) := by decide +kernel
theorem dX10_nextParting_58 : decode cX10_nextParting 58 = .ok (.getfield 48, 3) := by decide +kernel
theorem dX10_nextParting_61 : decode cX10_nextParting 61 = .ok (.iload_n 1, 1) := by decide +kernel
theorem dX10_nextParting_62 : decode cX10_nextParting 62 = .ok (.dup2, 1) := by decide +kernel
theorem dX10_nextParting_63 : decode cX10_nextParting 63 = .ok (.iaload, 1) := by decide +kernel
theorem dX10_nextParting_64 : decode cX10_nextParting 64 = .ok (.iconst 1, 1) := by decide +kernel
theorem dX10_nextParting_65 : decode cX10_nextParting 65 = .ok (.iadd, 1) := by decide +kernel
theorem dX10_nextParting_66 : decode cX10_nextParting 66 = .ok (.iastore, 1) := by decide +kernel
theorem dX10_nextParting_67 : decode cX10_nextParting 67 = .ok (.iload_n 1, 1) := by decide +kernel
theorem dX10_nextParting_68 : decode cX10_nextParting 68 = .ok (.iconst 1, 1) := by decide +kernel
theorem dX10_nextParting_69 : decode cX10_nextParting 69 = .ok (.iadd, 1) := by decide +kernel
theorem dX10_nextParting_70 : decode cX10_nextParting 70 = .ok (.istore_n 3, 1) := by decide +kernel
theorem dX10_nextParting_71 : decode cX10_nextParting 71 = .ok (.iload_n 3, 1) := by decide +kernel
theorem dX10_nextParting_72 : decode cX10_nextParting 72 = .ok (.aload_n 0, 1) := by decide +kernel
theorem dX10_nextParting_73 : decode cX10_nextParting 73 = .ok (.getfield 7, 3) := by decide +kernel
theorem dX10_nextParting_76 : decode cX10_nextParting 76 = .ok (.if_icmp .ge 16, 3) := by decide +kernel
theorem dX10_nextParting_79 : decode cX10_nextParting 79 = .ok (.aload_n 0, 1) := by decide +kernel
theorem dX10_nextParting_80 : decode cX10_nextParting 80 = .ok (.getfield 48, 3) := by decide +kernel
theorem dX10_nextParting_83 : decode cX10_nextParting 83 = .ok (.iload_n 3, 1) := by decide +kernel
theorem dX10_nextParting_84 : decode cX10_nextParting 84 = .ok (.iconst 0, 1) := by decide +kernel
theorem dX10_nextParting_85 : decode cX10_nextParting 85 = .ok (.iastore, 1) := by decide +kernel
theorem dX10_nextParting_86 : decode cX10_nextParting 86 = .ok (.iinc 3 1, 3) := by decide +kernel
theorem dX10_nextParting_89 : decode cX10_nextParting 89 = .ok (.goto (-18), 3) := by decide +kernel
theorem dX10_nextParting_92 : decode cX10_nextParting 92 = .ok (.iconst 1, 1) := by decide +kernel
theorem dX10_nextParting_93 : decode cX10_nextParting 93 = .ok (.ireturn, 1) := by decide +kernel
theorem dX10_nextParting_94 : decode cX10_nextParting 94 = .ok (.iinc 1 (-1), 3) := by decide +kernel
theorem dX10_nextParting_97 : decode cX10_nextParting 97 = .ok (.goto (-90), 3) := by decide +kernel
theorem dX10_nextParting_100 : decode cX10_nextParting 100 = .ok (.iconst 0, 1) := by decide +kernel
theorem dX10_nextParting_101 : decode cX10_nextParting 101 = .ok (.ireturn, 1) := by decide +kernel
theorem dX10_beginPartings_0 : decode cX10_beginPartings 0 = .ok (.iconst 0, 1) := by decide +kernel
theorem dX10_beginPartings_1 : decode cX10_beginPartings 1 = .ok (.istore_n 1, 1) := by decide +kernel
theorem dX10_beginPartings_2 : decode cX10_beginPartings 2 = .ok (.iload_n 1, 1) := by decide +kernel
theorem dX10_beginPartings_3 : decode cX10_beginPartings 3 = .ok (.bipush 10, 2) := by decide +kernel
theorem dX10_beginPartings_5 : decode cX10_beginPartings 5 = .ok (.if_icmp .ge 16, 3) := by decide +kernel
theorem dX10_beginPartings_8 : decode cX10_beginPartings 8 = .ok (.aload_n 0, 1) := by decide +kernel
theorem dX10_beginPartings_9 : decode cX10_beginPartings 9 = .ok (.getfield 48, 3) := by decide +kernel
theorem dX10_beginPartings_12 : decode cX10_beginPartings 12 = .ok (.iload_n 1, 1) := by decide +kernel
theorem dX10_beginPartings_13 : decode cX10_beginPartings 13 = .ok (.iconst 0, 1) := by decide +kernel
theorem dX10_beginPartings_14 : decode cX10_beginPartings 14 = .ok (.iastore, 1) := by decide +kernel
theorem dX10_beginPartings_15 : decode cX10_beginPartings 15 = .ok (.iinc 1 1, 3) := by decide +kernel
theorem dX10_beginPartings_18 : decode cX10_beginPartings 18 = .ok (.goto (-16), 3) := by decide +kernel
theorem dX10_beginPartings_21 : decode cX10_beginPartings 21 = .ok (.return_, 1) := by decide +kernel
theorem dX10_isSmall_0 : decode cX10_isSmall 0 = .ok (.iconst 0, 1) := by decide +kernel
theorem dX10_isSmall_1 : decode cX10_isSmall 1 = .ok (.istore_n 2, 1) := by decide +kernel
theorem dX10_isSmall_2 : decode cX10_isSmall 2 = .ok (.iload_n 2, 1) := by decide +kernel
theorem dX10_isSmall_3 : decode cX10_isSmall 3 = .ok (.aload_n 0, 1) := by decide +kernel
theorem dX10_isSmall_4 : decode cX10_isSmall 4 = .ok (.getfield 7, 3) := by decide +kernel
theorem dX10_isSmall_7 : decode cX10_isSmall 7 = .ok (.if_icmp .ge 16, 3) := by decide +kernel
theorem dX10_isSmall_10 : decode cX10_isSmall 10 = .ok (.aload_n 0, 1) := by decide +kernel
theorem dX10_isSmall_11 : decode cX10_isSmall 11 = .ok (.getfield 51, 3) := by decide +kernel
theorem dX10_isSmall_14 : decode cX10_isSmall 14 = .ok (.iload_n 2, 1) := by decide +kernel
theorem dX10_isSmall_15 : decode cX10_isSmall 15 = .ok (.iconst 0, 1) := by decide +kernel
theorem dX10_isSmall_16 : decode cX10_isSmall 16 = .ok (.iastore, 1) := by decide +kernel
theorem dX10_isSmall_17 : decode cX10_isSmall 17 = .ok (.iinc 2 1, 3) := by decide +kernel
theorem dX10_isSmall_20 : decode cX10_isSmall 20 = .ok (.goto (-18), 3) := by decide +kernel
theorem dX10_isSmall_23 : decode cX10_isSmall 23 = .ok (.iconst 0, 1) := by decide +kernel
theorem dX10_isSmall_24 : decode cX10_isSmall 24 = .ok (.istore_n 2, 1) := by decide +kernel
theorem dX10_isSmall_25 : decode cX10_isSmall 25 = .ok (.iload_n 2, 1) := by decide +kernel
theorem dX10_isSmall_26 : decode cX10_isSmall 26 = .ok (.aload_n 0, 1) := by decide +kernel
theorem dX10_isSmall_27 : decode cX10_isSmall 27 = .ok (.getfield 7, 3) := by decide +kernel
theorem dX10_isSmall_30 : decode cX10_isSmall 30 = .ok (.if_icmp .ge 41, 3) := by decide +kernel
theorem dX10_isSmall_33 : decode cX10_isSmall 33 = .ok (.aload_n 0, 1) := by decide +kernel
theorem dX10_isSmall_34 : decode cX10_isSmall 34 = .ok (.getfield 51, 3) := by decide +kernel
theorem dX10_isSmall_37 : decode cX10_isSmall 37 = .ok (.aload_n 0, 1) := by decide +kernel
theorem dX10_isSmall_38 : decode cX10_isSmall 38 = .ok (.getfield 48, 3) := by decide +kernel
theorem dX10_isSmall_41 : decode cX10_isSmall 41 = .ok (.iload_n 2, 1) := by decide +kernel
theorem dX10_isSmall_42 : decode cX10_isSmall 42 = .ok (.iaload, 1) := by decide +kernel
theorem dX10_isSmall_43 : decode cX10_isSmall 43 = .ok (.dup2, 1) := by decide +kernel
theorem dX10_isSmall_44 : decode cX10_isSmall 44 = .ok (.iaload, 1) := by decide +kernel
theorem dX10_isSmall_45 : decode cX10_isSmall 45 = .ok (.iconst 1, 1) := by decide +kernel
theorem dX10_isSmall_46 : decode cX10_isSmall 46 = .ok (.iadd, 1) := by decide +kernel
theorem dX10_isSmall_47 : decode cX10_isSmall 47 = .ok (.iastore, 1) := by decide +kernel
theorem dX10_isSmall_48 : decode cX10_isSmall 48 = .ok (.aload_n 0, 1) := by decide +kernel
theorem dX10_isSmall_49 : decode cX10_isSmall 49 = .ok (.getfield 51, 3) := by decide +kernel
theorem dX10_isSmall_52 : decode cX10_isSmall 52 = .ok (.aload_n 0, 1) := by decide +kernel
theorem dX10_isSmall_53 : decode cX10_isSmall 53 = .ok (.getfield 48, 3) := by decide +kernel
theorem dX10_isSmall_56 : decode cX10_isSmall 56 = .ok (.iload_n 2, 1) := by decide +kernel
theorem dX10_isSmall_57 : decode cX10_isSmall 57 = .ok (.iaload, 1) := by decide +kernel
theorem dX10_isSmall_58 : decode cX10_isSmall 58 = .ok (.iaload, 1) := by decide +kernel
theorem dX10_isSmall_59 : decode cX10_isSmall 59 = .ok (.iload_n 1, 1) := by decide +kernel
theorem dX10_isSmall_60 : decode cX10_isSmall 60 = .ok (.if_icmp .le 5, 3) := by decide +kernel
theorem dX10_isSmall_63 : decode cX10_isSmall 63 = .ok (.iconst 0, 1) := by decide +kernel
theorem dX10_isSmall_64 : decode cX10_isSmall 64 = .ok (.ireturn, 1) := by decide +kernel
theorem dX10_isSmall_65 : decode cX10_isSmall 65 = .ok (.iinc 2 1, 3) := by decide +kernel
theorem dX10_isSmall_68 : decode cX10_isSmall 68 = .ok (.goto (-43), 3) := by decide +kernel
theorem dX10_isSmall_71 : decode cX10_isSmall 71 = .ok (.iconst 1, 1) := by decide +kernel
theorem dX10_isSmall_72 : decode cX10_isSmall 72 = .ok (.ireturn, 1) := by decide +kernel
set_option maxRecDepth 20000 in
theorem ggX10_isWithin_X10_its : GoodIn wsX10_isWithin wsX10_its := goodIn_r _ [6, 7, 8, 9, 10, 11, 12, 13, 14, 15, 16, 17, 18, 19, 20, 21, 22, 23, 24, 25, 26, 27, 28, 29, 30, 31, 32, 33, 34, 35, 36, 37, 38, 39, 40, 41, 42, 43, 44, 45, 46, 47, 48, 49, 50, 51, 52, 53, 54, 55, 56, 57, 58, 59, 60, 61] (by decide +kernel) (by decide +kernel)
set_option maxRecDepth 20000 in
theorem gX10_isWithin_X10_its : GoodIn wsX10_isWithin (wsV RX10 108 RX10 yX10_its wsX10_its) := goodIn_app (goodIn_of _ (by decide +kernel)) ggX10_isWithin_X10_its
theorem dX10_isWithin_0 : decode cX10_isWithin 0 = .ok (.aload_n 0, 1) := by decide +kernel
theorem dX10_isWithin_1 : decode cX10_isWithin 1 = .ok (.getfield 48, 3) := by decide +kernel
theorem dX10_isWithin_4 : decode cX10_isWithin 4 = .ok (.aload_n 0, 1) := by decide +kernel
theorem dX10_isWithin_5 : decode cX10_isWithin 5 = .ok (.iload_n 1, 1) := by decide +kernel
theorem dX10_isWithin_6 : decode cX10_isWithin 6 = .ok (.iconst 0, 1) := by decide +kernel
theorem dX10_isWithin_7 : decode cX10_isWithin 7 = .ok (.invokevirtual 108, 3) := by decide +kernel
theorem dX10_isWithin_10 : decode cX10_isWithin 10 = .ok (.iaload, 1) := by decide +kernel
