theorem dX10_isWithin_11 : decode cX10_isWithin 11 = .ok (.aload_n 0, 1) := by decide +kernel
theorem dX10_isWithin_12 : decode cX10_isWithin 12 = .ok (.getfield 48, 3) := by decide +kernel
theorem dX10_isWithin_15 : decode cX10_isWithin 15 = .ok (.aload_n 0, 1) := by decide +kernel
theorem dX10_isWithin_16 : decode cX10_isWithin 16 = .ok (.iload_n 1, 1) := by decide +kernel
theorem dX10_isWithin_17 : decode cX10_isWithin 17 = .ok (.iconst 1, 1) := by decide +kernel
theorem dX10_isWithin_18 : decode cX10_isWithin 18 = .ok (.invokevirtual 108, 3) := by decide +kernel
theorem dX10_isWithin_21 : decode cX10_isWithin 21 = .ok (.iaload, 1) := by decide +kernel
theorem dX10_isWithin_22 : decode cX10_isWithin 22 = .ok (.if_icmp .ne 7, 3) := by decide +kernel
theorem dX10_isWithin_25 : decode cX10_isWithin 25 = .ok (.iconst 1, 1) := by decide +kernel
theorem dX10_isWithin_26 : decode cX10_isWithin 26 = .ok (.goto 4, 3) := by decide +kernel
theorem dX10_isWithin_29 : decode cX10_isWithin 29 = .ok (.iconst 0, 1) := by decide +kernel
theorem dX10_isWithin_30 : decode cX10_isWithin 30 = .ok (.ireturn, 1) := by decide +kernel
set_option maxRecDepth 20000 in
theorem ggX10_small_X10_in : GoodIn wsX10_small wsX10_in := goodIn_r _ [9] (by decide +kernel) (by decide +kernel)
set_option maxRecDepth 20000 in
theorem gX10_small_X10_in : GoodIn wsX10_small (va_wsS RX10 97 yX10_in wsX10_in) := goodIn_app (goodIn_of _ (by decide +kernel)) ggX10_small_X10_in
set_option maxRecDepth 20000 in
theorem ggX10_small_X10_isSide : GoodIn wsX10_small wsX10_isSide := goodIn_r _ [12, 6, 7, 8, 9] (by decide +kernel) (by decide +kernel)
set_option maxRecDepth 20000 in
theorem gX10_small_X10_isSide : GoodIn wsX10_small (va_wsS RX10 276 yX10_isSide wsX10_isSide) := goodIn_app (goodIn_of _ (by decide +kernel)) ggX10_small_X10_isSide
set_option maxRecDepth 20000 in
theorem ggX10_small_X10_openOn : GoodIn wsX10_small wsX10_openOn := goodIn_r _ [16, 2, 17, 18, 19, 8, 20, 21, 22, 23, 24, 25, 26, 27, 28, 29, 30, 31, 32, 33, 34, 35, 36, 37, 38, 39, 40, 41, 42, 69, 70, 71, 72, 73, 74, 75, 76, 77, 78, 79, 80, 81, 82, 83, 84, 85, 86, 87, 88, 89, 90, 91, 92, 93, 94, 95, 96, 97, 98, 99, 100, 101, 102, 103, 104, 105, 106, 107, 108, 109, 110, 111, 112, 113, 114, 115, 116, 117, 118, 119, 120, 121, 122] (by decide +kernel) (by decide +kernel)
set_option maxRecDepth 20000 in
theorem gX10_small_X10_openOn : GoodIn wsX10_small (wsV RX10 266 RX10 yX10_openOn wsX10_openOn) := goodIn_app (goodIn_of _ (by decide +kernel)) ggX10_small_X10_openOn
set_option maxRecDepth 20000 in
theorem ggX10_small_X10_beginPartings : GoodIn wsX10_small wsX10_beginPartings := goodIn_r _ [46, 47, 69, 70, 71, 72, 73, 74, 75, 76, 77, 78, 79, 80, 81, 82, 83, 84, 85, 86, 87, 88, 89, 90, 91, 92, 93, 94, 95, 96, 97, 98, 99, 100, 101, 102, 103, 104, 105, 106, 107, 108, 109, 110, 111, 112, 113, 114, 115, 116, 117, 118, 119, 120, 121, 122] (by decide +kernel) (by decide +kernel)
set_option maxRecDepth 20000 in
theorem gX10_small_X10_beginPartings : GoodIn wsX10_small (wsV RX10 330 RX10 yX10_beginPartings wsX10_beginPartings) := goodIn_app (goodIn_of _ (by decide +kernel)) ggX10_small_X10_beginPartings
set_option maxRecDepth 20000 in
theorem ggX10_small_X10_beginCut : GoodIn wsX10_small wsX10_beginCut := goodIn_r _ [51, 3, 4, 5, 69, 70, 71, 72, 73, 74, 75, 76, 77, 78, 79, 80, 81, 82, 83, 84, 85, 86, 87, 88, 89, 90, 91, 92, 93, 94, 95, 96, 97, 98, 99, 100, 101, 102, 103, 104, 105, 106, 107, 108, 109, 110, 111, 112, 113, 114, 115, 116, 117, 118, 119, 120, 121, 122] (by decide +kernel) (by decide +kernel)
set_option maxRecDepth 20000 in
theorem gX10_small_X10_beginCut : GoodIn wsX10_small (wsV RX10 324 RX10 yX10_beginCut wsX10_beginCut) := goodIn_app (goodIn_of _ (by decide +kernel)) ggX10_small_X10_beginCut
set_option maxRecDepth 20000 in
theorem ggX10_small_X10_isWithin : GoodIn wsX10_small wsX10_isWithin := goodIn_r _ [55, 47, 35, 36, 37, 8, 38, 39, 69, 70, 71, 72, 73, 74, 75, 76, 77, 78, 79, 80, 81, 82, 83, 84, 85, 86, 87, 88, 89, 90, 91, 92, 93, 94, 95, 96, 97, 98, 99, 100, 101, 102, 103, 104, 105, 106, 107, 108, 109, 110, 111, 112, 113, 114, 115, 116, 117, 118, 119, 120, 121, 122] (by decide +kernel) (by decide +kernel)
set_option maxRecDepth 20000 in
theorem gX10_small_X10_isWithin : GoodIn wsX10_small (wsV RX10 333 RX10 yX10_isWithin wsX10_isWithin) := goodIn_app (goodIn_of _ (by decide +kernel)) ggX10_small_X10_isWithin
set_option maxRecDepth 20000 in
theorem ggX10_small_X10_countCut : GoodIn wsX10_small wsX10_countCut := goodIn_r _ [59, 3, 4, 5, 35, 36, 37, 8, 38, 39, 69, 70, 71, 72, 73, 74, 75, 76, 77, 78, 79, 80, 81, 82, 83, 84, 85, 86, 87, 88, 89, 90, 91, 92, 93, 94, 95, 96, 97, 98, 99, 100, 101, 102, 103, 104, 105, 106, 107, 108, 109, 110, 111, 112, 113, 114, 115, 116, 117, 118, 119, 120, 121, 122] (by decide +kernel) (by decide +kernel)
set_option maxRecDepth 20000 in
theorem gX10_small_X10_countCut : GoodIn wsX10_small (wsV RX10 327 RX10 yX10_countCut wsX10_countCut) := goodIn_app (goodIn_of _ (by decide +kernel)) ggX10_small_X10_countCut
set_option maxRecDepth 20000 in
theorem ggX10_small_X10_isSmall : GoodIn wsX10_small wsX10_isSmall := goodIn_r _ [63, 1, 64, 47, 69, 70, 71, 72, 73, 74, 75, 76, 77, 78, 79, 80, 81, 82, 83, 84, 85, 86, 87, 88, 89, 90, 91, 92, 93, 94, 95, 96, 97, 98, 99, 100, 101, 102, 103, 104, 105, 106, 107, 108, 109, 110, 111, 112, 113, 114, 115, 116, 117, 118, 119, 120, 121, 122] (by decide +kernel) (by decide +kernel)
set_option maxRecDepth 20000 in
theorem gX10_small_X10_isSmall : GoodIn wsX10_small (wsV RX10 336 RX10 yX10_isSmall wsX10_isSmall) := goodIn_app (goodIn_of _ (by decide +kernel)) ggX10_small_X10_isSmall
set_option maxRecDepth 20000 in
theorem ggX10_small_X10_nextParting : GoodIn wsX10_small wsX10_nextParting := goodIn_r _ [68, 1, 47, 69, 70, 71, 72, 73, 74, 75, 76, 77, 78, 79, 80, 81, 82, 83, 84, 85, 86, 87, 88, 89, 90, 91, 92, 93, 94, 95, 96, 97, 98, 99, 100, 101, 102, 103, 104, 105, 106, 107, 108, 109, 110, 111, 112, 113, 114, 115, 116, 117, 118, 119, 120, 121, 122] (by decide +kernel) (by decide +kernel)
set_option maxRecDepth 20000 in
theorem gX10_small_X10_nextParting : GoodIn wsX10_small (wsV RX10 339 RX10 yX10_nextParting wsX10_nextParting) := goodIn_app (goodIn_of _ (by decide +kernel)) ggX10_small_X10_nextParting
theorem dX10_small_0 : decode cX10_small 0 = .ok (.iload_n 1, 1) := by decide +kernel
theorem dX10_small_1 : decode cX10_small 1 = .ok (.iconst 1, 1) := by decide +kernel
theorem dX10_small_2 : decode cX10_small 2 = .ok (.bipush 10, 2) := by decide +kernel
theorem dX10_small_4 : decode cX10_small 4 = .ok (.invokestatic 97, 3) := by decide +kernel
theorem dX10_small_7 : decode cX10_small 7 = .ok (.ifCond .eq 10, 3) := by decide +kernel
theorem dX10_small_10 : decode cX10_small 10 = .ok (.iload_n 2, 1) := by decide +kernel
theorem dX10_small_11 : decode cX10_small 11 = .ok (.invokestatic 276, 3) := by decide +kernel
theorem dX10_small_14 : decode cX10_small 14 = .ok (.ifCond .ne 5, 3) := by decide +kernel
theorem dX10_small_17 : decode cX10_small 17 = .ok (.iconst (-1), 1) := by decide +kernel
theorem dX10_small_18 : decode cX10_small 18 = .ok (.ireturn, 1) := by decide +kernel
theorem dX10_small_19 : decode cX10_small 19 = .ok (.aload_n 0, 1) := by decide +kernel
theorem dX10_small_20 : decode cX10_small 20 = .ok (.getfield 7, 3) := by decide +kernel
theorem dX10_small_23 : decode cX10_small 23 = .ok (.bipush 7, 2) := by decide +kernel
theorem dX10_small_25 : decode cX10_small 25 = .ok (.if_icmp .le 6, 3) := by decide +kernel
theorem dX10_small_28 : decode cX10_small 28 = .ok (.bipush (-4), 2) := by decide +kernel
theorem dX10_small_30 : decode cX10_small 30 = .ok (.ireturn, 1) := by decide +kernel
theorem dX10_small_31 : decode cX10_small 31 = .ok (.aload_n 0, 1) := by decide +kernel
theorem dX10_small_32 : decode cX10_small 32 = .ok (.iconst 0, 1) := by decide +kernel
theorem dX10_small_33 : decode cX10_small 33 = .ok (.invokevirtual 266, 3) := by decide +kernel
theorem dX10_small_36 : decode cX10_small 36 = .ok (.istore_n 3, 1) := by decide +kernel
theorem dX10_small_37 : decode cX10_small 37 = .ok (.bipush (-3), 2) := by decide +kernel
theorem dX10_small_39 : decode cX10_small 39 = .ok (.istore 4, 2) := by decide +kernel
theorem dX10_small_41 : decode cX10_small 41 = .ok (.iconst 0, 1) := by decide +kernel
theorem dX10_small_42 : decode cX10_small 42 = .ok (.istore 5, 2) := by decide +kernel
theorem dX10_small_44 : decode cX10_small 44 = .ok (.aload_n 0, 1) := by decide +kernel
theorem dX10_small_45 : decode cX10_small 45 = .ok (.invokevirtual 330, 3) := by decide +kernel
theorem dX10_small_48 : decode cX10_small 48 = .ok (.iconst 1, 1) := by decide +kernel
theorem dX10_small_49 : decode cX10_small 49 = .ok (.istore 6, 2) := by decide +kernel
theorem dX10_small_51 : decode cX10_small 51 = .ok (.iload 6, 2) := by decide +kernel
theorem dX10_small_53 : decode cX10_small 53 = .ok (.ifCond .eq 130, 3) := by decide +kernel
theorem dX10_small_56 : decode cX10_small 56 = .ok (.aload_n 0, 1) := by decide +kernel
theorem dX10_small_57 : decode cX10_small 57 = .ok (.invokevirtual 324, 3) := by decide +kernel
theorem dX10_small_60 : decode cX10_small 60 = .ok (.iconst 0, 1) := by decide +kernel
theorem dX10_small_61 : decode cX10_small 61 = .ok (.istore 7, 2) := by decide +kernel
theorem dX10_small_63 : decode cX10_small 63 = .ok (.iload 7, 2) := by decide +kernel
theorem dX10_small_65 : decode cX10_small 65 = .ok (.aload_n 0, 1) := by decide +kernel
theorem dX10_small_66 : decode cX10_small 66 = .ok (.getfield 101, 3) := by decide +kernel
theorem dX10_small_69 : decode cX10_small 69 = .ok (.if_icmp .ge 34, 3) := by decide +kernel
theorem dX10_small_72 : decode cX10_small 72 = .ok (.iload_n 3, 1) := by decide +kernel
theorem dX10_small_73 : decode cX10_small 73 = .ok (.iload 7, 2) := by decide +kernel
theorem dX10_small_75 : decode cX10_small 75 = .ok (.ishr, 1) := by decide +kernel
theorem dX10_small_76 : decode cX10_small 76 = .ok (.iconst 1, 1) := by decide +kernel
theorem dX10_small_77 : decode cX10_small 77 = .ok (.iand, 1) := by decide +kernel
theorem dX10_small_78 : decode cX10_small 78 = .ok (.iconst 1, 1) := by decide +kernel
theorem dX10_small_79 : decode cX10_small 79 = .ok (.if_icmp .ne 18, 3) := by decide +kernel
theorem dX10_small_82 : decode cX10_small 82 = .ok (.aload_n 0, 1) := by decide +kernel
theorem dX10_small_83 : decode cX10_small 83 = .ok (.iload 7, 2) := by decide +kernel
theorem dX10_small_85 : decode cX10_small 85 = .ok (.invokevirtual 333, 3) := by decide +kernel
theorem dX10_small_88 : decode cX10_small 88 = .ok (.ifCond .ne 9, 3) := by decide +kernel
theorem dX10_small_91 : decode cX10_small 91 = .ok (.aload_n 0, 1) := by decide +kernel
theorem dX10_small_92 : decode cX10_small 92 = .ok (.iload 7, 2) := by decide +kernel
theorem dX10_small_94 : decode cX10_small 94 = .ok (.invokevirtual 327, 3) := by decide +kernel
theorem dX10_small_97 : decode cX10_small 97 = .ok (.iinc 7 1, 3) := by decide +kernel
theorem dX10_small_100 : decode cX10_small 100 = .ok (.goto (-37), 3) := by decide +kernel
theorem dX10_small_103 : decode cX10_small 103 = .ok (.iload 4, 2) := by decide +kernel
theorem dX10_small_105 : decode cX10_small 105 = .ok (.ifCond .lt 30, 3) := by decide +kernel
theorem dX10_small_108 : decode cX10_small 108 = .ok (.aload_n 0, 1) := by decide +kernel
theorem dX10_small_109 : decode cX10_small 109 = .ok (.getfield 315, 3) := by decide +kernel
theorem dX10_small_112 : decode cX10_small 112 = .ok (.iload 4, 2) := by decide +kernel
theorem dX10_small_114 : decode cX10_small 114 = .ok (.if_icmp .lt 21, 3) := by decide +kernel
theorem dX10_small_117 : decode cX10_small 117 = .ok (.aload_n 0, 1) := by decide +kernel
theorem dX10_small_118 : decode cX10_small 118 = .ok (.getfield 315, 3) := by decide +kernel
theorem dX10_small_121 : decode cX10_small 121 = .ok (.iload 4, 2) := by decide +kernel
theorem dX10_small_123 : decode cX10_small 123 = .ok (.if_icmp .ne 16, 3) := by decide +kernel
theorem dX10_small_126 : decode cX10_small 126 = .ok (.aload_n 0, 1) := by decide +kernel
theorem dX10_small_127 : decode cX10_small 127 = .ok (.getfield 318, 3) := by decide +kernel
theorem dX10_small_130 : decode cX10_small 130 = .ok (.iload 5, 2) := by decide +kernel
theorem dX10_small_132 : decode cX10_small 132 = .ok (.if_icmp .ge 7, 3) := by decide +kernel
theorem dX10_small_135 : decode cX10_small 135 = .ok (.iconst 1, 1) := by decide +kernel
theorem dX10_small_136 : decode cX10_small 136 = .ok (.goto 4, 3) := by decide +kernel
theorem dX10_small_139 : decode cX10_small 139 = .ok (.iconst 0, 1) := by decide +kernel
theorem dX10_small_140 : decode cX10_small 140 = .ok (.istore 7, 2) := by decide +kernel
theorem dX10_small_142 : decode cX10_small 142 = .ok (.iload 7, 2) := by decide +kernel
theorem dX10_small_144 : decode cX10_small 144 = .ok (.ifCond .eq 30, 3) := by decide +kernel
theorem dX10_small_147 : decode cX10_small 147 = .ok (.aload_n 0, 1) := by decide +kernel
theorem dX10_small_148 : decode cX10_small 148 = .ok (.getfield 321, 3) := by decide +kernel
theorem dX10_small_151 : decode cX10_small 151 = .ok (.ifCond .ne 23, 3) := by decide +kernel
theorem dX10_small_154 : decode cX10_small 154 = .ok (.aload_n 0, 1) := by decide +kernel
theorem dX10_small_155 : decode cX10_small 155 = .ok (.iload_n 1, 1) := by decide +kernel
theorem dX10_small_156 : decode cX10_small 156 = .ok (.invokevirtual 336, 3) := by decide +kernel
theorem dX10_small_159 : decode cX10_small 159 = .ok (.ifCond .eq 15, 3) := by decide +kernel
theorem dX10_small_162 : decode cX10_small 162 = .ok (.aload_n 0, 1) := by decide +kernel
theorem dX10_small_163 : decode cX10_small 163 = .ok (.getfield 315, 3) := by decide +kernel
theorem dX10_small_166 : decode cX10_small 166 = .ok (.istore 4, 2) := by decide +kernel
theorem dX10_small_168 : decode cX10_small 168 = .ok (.aload_n 0, 1) := by decide +kernel
theorem dX10_small_169 : decode cX10_small 169 = .ok (.getfield 318, 3) := by decide +kernel
theorem dX10_small_172 : decode cX10_small 172 = .ok (.istore 5, 2) := by decide +kernel
theorem dX10_small_174 : decode cX10_small 174 = .ok (.aload_n 0, 1) := by decide +kernel
theorem dX10_small_175 : decode cX10_small 175 = .ok (.invokevirtual 339, 3) := by decide +kernel
theorem dX10_small_178 : decode cX10_small 178 = .ok (.istore 6, 2) := by decide +kernel
theorem dX10_small_180 : decode cX10_small 180 = .ok (.goto (-129), 3) := by decide +kernel
theorem dX10_small_183 : decode cX10_small 183 = .ok (.iload 4, 2) := by decide +kernel
theorem dX10_small_185 : decode cX10_small 185 = .ok (.ifCond .ge 8, 3) := by decide +kernel
theorem dX10_small_188 : decode cX10_small 188 = .ok (.bipush (-3), 2) := by decide +kernel
theorem dX10_small_190 : decode cX10_small 190 = .ok (.goto 14, 3) := by decide +kernel
theorem dX10_small_193 : decode cX10_small 193 = .ok (.iload_n 2, 1) := by decide +kernel
theorem dX10_small_194 : decode cX10_small 194 = .ok (.ifCond .ne 8, 3) := by decide +kernel
theorem dX10_small_197 : decode cX10_small 197 = .ok (.iload 4, 2) := by decide +kernel
theorem dX10_small_199 : decode cX10_small 199 = .ok (.goto 5, 3) := by decide +kernel
theorem dX10_small_202 : decode cX10_small 202 = .ok (.iload 5, 2) := by decide +kernel
theorem dX10_small_204 : decode cX10_small 204 = .ok (.ireturn, 1) := by decide +kernel
set_option maxRecDepth 20000 in
theorem ggX10_sit_X10_in : GoodIn wsX10_sit wsX10_in := goodIn_r _ [6] (by decide +kernel) (by decide +kernel)
set_option maxRecDepth 20000 in
theorem gX10_sit_X10_in : GoodIn wsX10_sit (va_wsS RX10 97 yX10_in wsX10_in) := goodIn_app (goodIn_of _ (by decide +kernel)) ggX10_sit_X10_in
set_option maxRecDepth 20000 in
theorem ggX10_sit_X10_isSide : GoodIn wsX10_sit wsX10_isSide := goodIn_r _ [9, 3, 4, 5, 6] (by decide +kernel) (by decide +kernel)
set_option maxRecDepth 20000 in
theorem gX10_sit_X10_isSide : GoodIn wsX10_sit (va_wsS RX10 276 yX10_isSide wsX10_isSide) := goodIn_app (goodIn_of _ (by decide +kernel)) ggX10_sit_X10_isSide
set_option maxRecDepth 20000 in
theorem ggX10_sit_X10_beginPartings : GoodIn wsX10_sit wsX10_beginPartings := goodIn_r _ [13, 14, 33, 34, 35, 36, 37, 38, 39, 40, 41, 42, 43, 44, 45, 46, 47, 48, 49, 50, 51, 52, 53, 54, 55, 56, 57, 58, 59, 60, 61, 62, 63, 64, 65, 66, 67, 68, 69, 70, 71, 72, 73, 74, 75, 76, 77, 78, 79, 80, 81, 82, 83, 84, 85, 86] (by decide +kernel) (by decide +kernel)
set_option maxRecDepth 20000 in
theorem gX10_sit_X10_beginPartings : GoodIn wsX10_sit (wsV RX10 330 RX10 yX10_beginPartings wsX10_beginPartings) := goodIn_app (goodIn_of _ (by decide +kernel)) ggX10_sit_X10_beginPartings
set_option maxRecDepth 20000 in
theorem ggX10_sit_X10_isWithin : GoodIn wsX10_sit wsX10_isWithin := goodIn_r _ [18, 14, 19, 20, 21, 5, 22, 23, 33, 34, 35, 36, 37, 38, 39, 40, 41, 42, 43, 44, 45, 46, 47, 48, 49, 50, 51, 52, 53, 54, 55, 56, 57, 58, 59, 60, 61, 62, 63, 64, 65, 66, 67, 68, 69, 70, 71, 72, 73, 74, 75, 76, 77, 78, 79, 80, 81, 82, 83, 84, 85, 86] (by decide +kernel) (by decide +kernel)
set_option maxRecDepth 20000 in
theorem gX10_sit_X10_isWithin : GoodIn wsX10_sit (wsV RX10 333 RX10 yX10_isWithin wsX10_isWithin) := goodIn_app (goodIn_of _ (by decide +kernel)) ggX10_sit_X10_isWithin
set_option maxRecDepth 20000 in
theorem ggX10_sit_X10_its : GoodIn wsX10_sit wsX10_its := goodIn_r _ [22, 23, 33, 34, 35, 36, 37, 38, 39, 40, 41, 42, 43, 44, 45, 46, 47, 48, 49, 50, 51, 52, 53, 54, 55, 56, 57, 58, 59, 60, 61, 62, 63, 64, 65, 66, 67, 68, 69, 70, 71, 72, 73, 74, 75, 76, 77, 78, 79, 80, 81, 82, 83, 84, 85, 86] (by decide +kernel) (by decide +kernel)
set_option maxRecDepth 20000 in
theorem gX10_sit_X10_its : GoodIn wsX10_sit (wsV RX10 108 RX10 yX10_its wsX10_its) := goodIn_app (goodIn_of _ (by decide +kernel)) ggX10_sit_X10_its
set_option maxRecDepth 20000 in
theorem ggX10_sit_X10_isSmall : GoodIn wsX10_sit wsX10_isSmall := goodIn_r _ [27, 1, 28, 14, 33, 34, 35, 36, 37, 38, 39, 40, 41, 42, 43, 44, 45, 46, 47, 48, 49, 50, 51, 52, 53, 54, 55, 56, 57, 58, 59, 60, 61, 62, 63, 64, 65, 66, 67, 68, 69, 70, 71, 72, 73, 74, 75, 76, 77, 78, 79, 80, 81, 82, 83, 84, 85, 86] (by decide +kernel) (by decide +kernel)
set_option maxRecDepth 20000 in
theorem gX10_sit_X10_isSmall : GoodIn wsX10_sit (wsV RX10 336 RX10 yX10_isSmall wsX10_isSmall) := goodIn_app (goodIn_of _ (by decide +kernel)) ggX10_sit_X10_isSmall
set_option maxRecDepth 20000 in
theorem ggX10_sit_X10_nextParting : GoodIn wsX10_sit wsX10_nextParting := goodIn_r _ [32, 1, 14, 33, 34, 35, 36, 37, 38, 39, 40, 41, 42, 43, 44, 45, 46, 47, 48, 49, 50, 51, 52, 53, 54, 55, 56, 57, 58, 59, 60, 61, 62, 63, 64, 65, 66, 67, 68, 69, 70, 71, 72, 73, 74, 75, 76, 77, 78, 79, 80, 81, 82, 83, 84, 85, 86] (by decide +kernel) (by decide +kernel)
set_option maxRecDepth 20000 in
theorem gX10_sit_X10_nextParting : GoodIn wsX10_sit (wsV RX10 339 RX10 yX10_nextParting wsX10_nextParting) := goodIn_app (goodIn_of _ (by decide +kernel)) ggX10_sit_X10_nextParting
theorem dX10_sit_0 : decode cX10_sit 0 = .ok (.iload_n 1, 1) := by decide +kernel
theorem dX10_sit_1 : decode cX10_sit 1 = .ok (.iconst 1, 1) := by decide +kernel
theorem dX10_sit_2 : decode cX10_sit 2 = .ok (.bipush 10, 2) := by decide +kernel
theorem dX10_sit_4 : decode cX10_sit 4 = .ok (.invokestatic 97, 3) := by decide +kernel
theorem dX10_sit_7 : decode cX10_sit 7 = .ok (.ifCond .eq 10, 3) := by decide +kernel
theorem dX10_sit_10 : decode cX10_sit 10 = .ok (.iload_n 2, 1) := by decide +kernel
theorem dX10_sit_11 : decode cX10_sit 11 = .ok (.invokestatic 276, 3) := by decide +kernel
theorem dX10_sit_14 : decode cX10_sit 14 = .ok (.ifCond .ne 5, 3) := by decide +kernel
theorem dX10_sit_17 : decode cX10_sit 17 = .ok (.iconst (-1), 1) := by decide +kernel
theorem dX10_sit_18 : decode cX10_sit 18 = .ok (.ireturn, 1) := by decide +kernel
theorem dX10_sit_19 : decode cX10_sit 19 = .ok (.aload_n 0, 1) := by decide +kernel
theorem dX10_sit_20 : decode cX10_sit 20 = .ok (.getfield 7, 3) := by decide +kernel
theorem dX10_sit_23 : decode cX10_sit 23 = .ok (.bipush 7, 2) := by decide +kernel
theorem dX10_sit_25 : decode cX10_sit 25 = .ok (.if_icmp .le 6, 3) := by decide +kernel
theorem dX10_sit_28 : decode cX10_sit 28 = .ok (.bipush (-4), 2) := by decide +kernel
theorem dX10_sit_30 : decode cX10_sit 30 = .ok (.ireturn, 1) := by decide +kernel
theorem dX10_sit_31 : decode cX10_sit 31 = .ok (.iconst (-1), 1) := by decide +kernel
theorem dX10_sit_32 : decode cX10_sit 32 = .ok (.istore_n 3, 1) := by decide +kernel
theorem dX10_sit_33 : decode cX10_sit 33 = .ok (.iconst 0, 1) := by decide +kernel
theorem dX10_sit_34 : decode cX10_sit 34 = .ok (.istore 4, 2) := by decide +kernel
theorem dX10_sit_36 : decode cX10_sit 36 = .ok (.aload_n 0, 1) := by decide +kernel
theorem dX10_sit_37 : decode cX10_sit 37 = .ok (.invokevirtual 330, 3) := by decide +kernel
theorem dX10_sit_40 : decode cX10_sit 40 = .ok (.iconst 1, 1) := by decide +kernel
theorem dX10_sit_41 : decode cX10_sit 41 = .ok (.istore 5, 2) := by decide +kernel
theorem dX10_sit_43 : decode cX10_sit 43 = .ok (.iload 5, 2) := by decide +kernel
theorem dX10_sit_45 : decode cX10_sit 45 = .ok (.ifCond .eq 91, 3) := by decide +kernel
theorem dX10_sit_48 : decode cX10_sit 48 = .ok (.iconst 0, 1) := by decide +kernel
theorem dX10_sit_49 : decode cX10_sit 49 = .ok (.istore 6, 2) := by decide +kernel
theorem dX10_sit_51 : decode cX10_sit 51 = .ok (.iconst 0, 1) := by decide +kernel
theorem dX10_sit_52 : decode cX10_sit 52 = .ok (.istore 7, 2) := by decide +kernel
theorem dX10_sit_54 : decode cX10_sit 54 = .ok (.iload 7, 2) := by decide +kernel
theorem dX10_sit_56 : decode cX10_sit 56 = .ok (.aload_n 0, 1) := by decide +kernel
theorem dX10_sit_57 : decode cX10_sit 57 = .ok (.getfield 101, 3) := by decide +kernel
theorem dX10_sit_60 : decode cX10_sit 60 = .ok (.if_icmp .ge 34, 3) := by decide +kernel
theorem dX10_sit_63 : decode cX10_sit 63 = .ok (.iload 6, 2) := by decide +kernel
theorem dX10_sit_65 : decode cX10_sit 65 = .ok (.aload_n 0, 1) := by decide +kernel
theorem dX10_sit_66 : decode cX10_sit 66 = .ok (.iload 7, 2) := by decide +kernel
theorem dX10_sit_68 : decode cX10_sit 68 = .ok (.invokevirtual 333, 3) := by decide +kernel
theorem dX10_sit_71 : decode cX10_sit 71 = .ok (.ifCond .eq 13, 3) := by decide +kernel
theorem dX10_sit_74 : decode cX10_sit 74 = .ok (.aload_n 0, 1) := by decide +kernel
theorem dX10_sit_75 : decode cX10_sit 75 = .ok (.iload 7, 2) := by decide +kernel
theorem dX10_sit_77 : decode cX10_sit 77 = .ok (.iconst 2, 1) := by decide +kernel
theorem dX10_sit_78 : decode cX10_sit 78 = .ok (.invokevirtual 108, 3) := by decide +kernel
theorem dX10_sit_81 : decode cX10_sit 81 = .ok (.goto 4, 3) := by decide +kernel
theorem dX10_sit_84 : decode cX10_sit 84 = .ok (.iconst 0, 1) := by decide +kernel
theorem dX10_sit_85 : decode cX10_sit 85 = .ok (.iadd, 1) := by decide +kernel
theorem dX10_sit_86 : decode cX10_sit 86 = .ok (.istore 6, 2) := by decide +kernel
theorem dX10_sit_88 : decode cX10_sit 88 = .ok (.iinc 7 1, 3) := by decide +kernel
theorem dX10_sit_91 : decode cX10_sit 91 = .ok (.goto (-37), 3) := by decide +kernel
theorem dX10_sit_94 : decode cX10_sit 94 = .ok (.iload 6, 2) := by decide +kernel
theorem dX10_sit_96 : decode cX10_sit 96 = .ok (.iload_n 3, 1) := by decide +kernel
theorem dX10_sit_97 : decode cX10_sit 97 = .ok (.if_icmp .lt 30, 3) := by decide +kernel
theorem dX10_sit_100 : decode cX10_sit 100 = .ok (.aload_n 0, 1) := by decide +kernel
theorem dX10_sit_101 : decode cX10_sit 101 = .ok (.iload_n 1, 1) := by decide +kernel
theorem dX10_sit_102 : decode cX10_sit 102 = .ok (.invokevirtual 336, 3) := by decide +kernel
theorem dX10_sit_105 : decode cX10_sit 105 = .ok (.ifCond .eq 22, 3) := by decide +kernel
theorem dX10_sit_108 : decode cX10_sit 108 = .ok (.iload 6, 2) := by decide +kernel
theorem dX10_sit_110 : decode cX10_sit 110 = .ok (.iload_n 3, 1) := by decide +kernel
theorem dX10_sit_111 : decode cX10_sit 111 = .ok (.if_icmp .le 7, 3) := by decide +kernel
theorem dX10_sit_114 : decode cX10_sit 114 = .ok (.iconst 1, 1) := by decide +kernel
theorem dX10_sit_115 : decode cX10_sit 115 = .ok (.goto 7, 3) := by decide +kernel
theorem dX10_sit_118 : decode cX10_sit 118 = .ok (.iload 4, 2) := by decide +kernel
theorem dX10_sit_120 : decode cX10_sit 120 = .ok (.iconst 1, 1) := by decide +kernel
theorem dX10_sit_121 : decode cX10_sit 121 = .ok (.iadd, 1) := by decide +kernel
theorem dX10_sit_122 : decode cX10_sit 122 = .ok (.istore 4, 2) := by decide +kernel
theorem dX10_sit_124 : decode cX10_sit 124 = .ok (.iload 6, 2) := by decide +kernel
theorem dX10_sit_126 : decode cX10_sit 126 = .ok (.istore_n 3, 1) := by decide +kernel
theorem dX10_sit_127 : decode cX10_sit 127 = .ok (.aload_n 0, 1) := by decide +kernel
theorem dX10_sit_128 : decode cX10_sit 128 = .ok (.invokevirtual 339, 3) := by decide +kernel
theorem dX10_sit_131 : decode cX10_sit 131 = .ok (.istore 5, 2) := by decide +kernel
theorem dX10_sit_133 : decode cX10_sit 133 = .ok (.goto (-90), 3) := by decide +kernel
theorem dX10_sit_136 : decode cX10_sit 136 = .ok (.iload_n 2, 1) := by decide +kernel
theorem dX10_sit_137 : decode cX10_sit 137 = .ok (.ifCond .ne 7, 3) := by decide +kernel
theorem dX10_sit_140 : decode cX10_sit 140 = .ok (.iload_n 3, 1) := by decide +kernel
theorem dX10_sit_141 : decode cX10_sit 141 = .ok (.goto 5, 3) := by decide +kernel
theorem dX10_sit_144 : decode cX10_sit 144 = .ok (.iload 4, 2) := by decide +kernel
theorem dX10_sit_146 : decode cX10_sit 146 = .ok (.ireturn, 1) := by decide +kernel
set_option maxRecDepth 20000 in
theorem ggX10_findDays_X10_all : GoodIn wsX10_findDays wsX10_all := goodIn_r _ [6, 7, 43, 44, 45, 46, 47, 48, 49, 50, 51, 52, 53, 54, 55, 56, 57, 58, 59, 60, 61, 62, 63, 64, 65, 66, 67, 68, 69, 70, 71, 72, 73, 74, 75, 76, 77, 78, 79, 80, 81, 82, 83, 84, 85, 86, 87, 88, 89, 90, 91, 92, 93, 94, 95, 96] (by decide +kernel) (by decide +kernel)
set_option maxRecDepth 20000 in
theorem gX10_findDays_X10_all : GoodIn wsX10_findDays (wsV RX10 244 RX10 yX10_all wsX10_all) := goodIn_app (goodIn_of _ (by decide +kernel)) ggX10_findDays_X10_all
set_option maxRecDepth 20000 in
theorem ggX10_findDays_X10_openOn : GoodIn wsX10_findDays wsX10_openOn := goodIn_r _ [11, 12, 13, 14, 15, 5, 16, 17, 18, 19, 20, 21, 22, 23, 24, 25, 26, 27, 28, 29, 30, 31, 32, 33, 34, 35, 36, 37, 38, 43, 44, 45, 46, 47, 48, 49, 50, 51, 52, 53, 54, 55, 56, 57, 58, 59, 60, 61, 62, 63, 64, 65, 66, 67, 68, 69, 70, 71, 72, 73, 74, 75, 76, 77, 78, 79, 80, 81, 82, 83, 84, 85, 86, 87, 88, 89, 90, 91, 92, 93, 94, 95, 96] (by decide +kernel) (by decide +kernel)
set_option maxRecDepth 20000 in
theorem gX10_findDays_X10_openOn : GoodIn wsX10_findDays (wsV RX10 266 RX10 yX10_openOn wsX10_openOn) := goodIn_app (goodIn_of _ (by decide +kernel)) ggX10_findDays_X10_openOn
set_option maxRecDepth 20000 in
theorem ggX10_findDays_X10_around : GoodIn wsX10_findDays wsX10_around := goodIn_r _ [42, 12, 23, 24, 25, 5, 26, 27, 28, 29, 30, 31, 32, 33, 34, 35, 36, 37, 38, 43, 44, 45, 46, 47, 48, 49, 50, 51, 52, 53, 54, 55, 56, 57, 58, 59, 60, 61, 62, 63, 64, 65, 66, 67, 68, 69, 70, 71, 72, 73, 74, 75, 76, 77, 78, 79, 80, 81, 82, 83, 84, 85, 86, 87, 88, 89, 90, 91, 92, 93, 94, 95, 96] (by decide +kernel) (by decide +kernel)
set_option maxRecDepth 20000 in
theorem gX10_findDays_X10_around : GoodIn wsX10_findDays (wsV RX10 263 RX10 yX10_around wsX10_around) := goodIn_app (goodIn_of _ (by decide +kernel)) ggX10_findDays_X10_around
theorem dX10_findDays_0 : decode cX10_findDays 0 = .ok (.aload_n 0, 1) := by decide +kernel
theorem dX10_findDays_1 : decode cX10_findDays 1 = .ok (.getfield 54, 3) := by decide +kernel
theorem dX10_findDays_4 : decode cX10_findDays 4 = .ok (.iconst 0, 1) := by decide +kernel
theorem dX10_findDays_5 : decode cX10_findDays 5 = .ok (.iload_n 1, 1) := by decide +kernel
theorem dX10_findDays_6 : decode cX10_findDays 6 = .ok (.iastore, 1) := by decide +kernel
theorem dX10_findDays_7 : decode cX10_findDays 7 = .ok (.iconst 0, 1) := by decide +kernel
theorem dX10_findDays_8 : decode cX10_findDays 8 = .ok (.istore_n 2, 1) := by decide +kernel
theorem dX10_findDays_9 : decode cX10_findDays 9 = .ok (.iload_n 2, 1) := by decide +kernel
theorem dX10_findDays_10 : decode cX10_findDays 10 = .ok (.bipush 100, 2) := by decide +kernel
theorem dX10_findDays_12 : decode cX10_findDays 12 = .ok (.if_icmp .ge 52, 3) := by decide +kernel
theorem dX10_findDays_15 : decode cX10_findDays 15 = .ok (.aload_n 0, 1) := by decide +kernel
theorem dX10_findDays_16 : decode cX10_findDays 16 = .ok (.getfield 54, 3) := by decide +kernel
theorem dX10_findDays_19 : decode cX10_findDays 19 = .ok (.iload_n 2, 1) := by decide +kernel
theorem dX10_findDays_20 : decode cX10_findDays 20 = .ok (.iconst 1, 1) := by decide +kernel
theorem dX10_findDays_21 : decode cX10_findDays 21 = .ok (.iadd, 1) := by decide +kernel
theorem dX10_findDays_22 : decode cX10_findDays 22 = .ok (.aload_n 0, 1) := by decide +kernel
theorem dX10_findDays_23 : decode cX10_findDays 23 = .ok (.getfield 54, 3) := by decide +kernel
theorem dX10_findDays_26 : decode cX10_findDays 26 = .ok (.iload_n 2, 1) := by decide +kernel
theorem dX10_findDays_27 : decode cX10_findDays 27 = .ok (.iaload, 1) := by decide +kernel
theorem dX10_findDays_28 : decode cX10_findDays 28 = .ok (.aload_n 0, 1) := by decide +kernel
theorem dX10_findDays_29 : decode cX10_findDays 29 = .ok (.invokevirtual 244, 3) := by decide +kernel
theorem dX10_findDays_32 : decode cX10_findDays 32 = .ok (.if_icmp .ne 10, 3) := by decide +kernel
theorem dX10_findDays_35 : decode cX10_findDays 35 = .ok (.aload_n 0, 1) := by decide +kernel
theorem dX10_findDays_36 : decode cX10_findDays 36 = .ok (.invokevirtual 244, 3) := by decide +kernel
theorem dX10_findDays_39 : decode cX10_findDays 39 = .ok (.goto 18, 3) := by decide +kernel
theorem dX10_findDays_42 : decode cX10_findDays 42 = .ok (.aload_n 0, 1) := by decide +kernel
theorem dX10_findDays_43 : decode cX10_findDays 43 = .ok (.aload_n 0, 1) := by decide +kernel
theorem dX10_findDays_44 : decode cX10_findDays 44 = .ok (.getfield 54, 3) := by decide +kernel
theorem dX10_findDays_47 : decode cX10_findDays 47 = .ok (.iload_n 2, 1) := by decide +kernel
theorem dX10_findDays_48 : decode cX10_findDays 48 = .ok (.iaload, 1) := by decide +kernel
theorem dX10_findDays_49 : decode cX10_findDays 49 = .ok (.aload_n 0, 1) := by decide +kernel
theorem dX10_findDays_50 : decode cX10_findDays 50 = .ok (.iload_n 2, 1) := by decide +kernel
theorem dX10_findDays_51 : decode cX10_findDays 51 = .ok (.invokevirtual 266, 3) := by decide +kernel
theorem dX10_findDays_54 : decode cX10_findDays 54 = .ok (.invokevirtual 263, 3) := by decide +kernel
theorem dX10_findDays_57 : decode cX10_findDays 57 = .ok (.iastore, 1) := by decide +kernel
theorem dX10_findDays_58 : decode cX10_findDays 58 = .ok (.iinc 2 1, 3) := by decide +kernel
theorem dX10_findDays_61 : decode cX10_findDays 61 = .ok (.goto (-52), 3) := by decide +kernel
theorem dX10_findDays_64 : decode cX10_findDays 64 = .ok (.return_, 1) := by decide +kernel
theorem dX10_earlyOf_0 : decode cX10_earlyOf 0 = .ok (.iconst 0, 1) := by decide +kernel
theorem dX10_earlyOf_1 : decode cX10_earlyOf 1 = .ok (.istore_n 2, 1) := by decide +kernel
theorem dX10_earlyOf_2 : decode cX10_earlyOf 2 = .ok (.iload_n 2, 1) := by decide +kernel
theorem dX10_earlyOf_3 : decode cX10_earlyOf 3 = .ok (.bipush 100, 2) := by decide +kernel
theorem dX10_earlyOf_5 : decode cX10_earlyOf 5 = .ok (.if_icmp .gt 25, 3) := by decide +kernel
theorem dX10_earlyOf_8 : decode cX10_earlyOf 8 = .ok (.aload_n 0, 1) := by decide +kernel
theorem dX10_earlyOf_9 : decode cX10_earlyOf 9 = .ok (.getfield 54, 3) := by decide +kernel
theorem dX10_earlyOf_12 : decode cX10_earlyOf 12 = .ok (.iload_n 2, 1) := by decide +kernel
theorem dX10_earlyOf_13 : decode cX10_earlyOf 13 = .ok (.iaload, 1) := by decide +kernel
theorem dX10_earlyOf_14 : decode cX10_earlyOf 14 = .ok (.iload_n 1, 1) := by decide +kernel
theorem dX10_earlyOf_15 : decode cX10_earlyOf 15 = .ok (.ishr, 1) := by decide +kernel
theorem dX10_earlyOf_16 : decode cX10_earlyOf 16 = .ok (.iconst 1, 1) := by decide +kernel
theorem dX10_earlyOf_17 : decode cX10_earlyOf 17 = .ok (.iand, 1) := by decide +kernel
theorem dX10_earlyOf_18 : decode cX10_earlyOf 18 = .ok (.iconst 1, 1) := by decide +kernel
theorem dX10_earlyOf_19 : decode cX10_earlyOf 19 = .ok (.if_icmp .ne 5, 3) := by decide +kernel
theorem dX10_earlyOf_22 : decode cX10_earlyOf 22 = .ok (.iload_n 2, 1) := by decide +kernel
theorem dX10_earlyOf_23 : decode cX10_earlyOf 23 = .ok (.ireturn, 1) := by decide +kernel
theorem dX10_earlyOf_24 : decode cX10_earlyOf 24 = .ok (.iinc 2 1, 3) := by decide +kernel
theorem dX10_earlyOf_27 : decode cX10_earlyOf 27 = .ok (.goto (-25), 3) := by decide +kernel
theorem dX10_earlyOf_30 : decode cX10_earlyOf 30 = .ok (.bipush (-3), 2) := by decide +kernel
theorem dX10_earlyOf_32 : decode cX10_earlyOf 32 = .ok (.ireturn, 1) := by decide +kernel
set_option maxRecDepth 20000 in
theorem ggX10_early_X10_isPerson : GoodIn wsX10_early wsX10_isPerson := goodIn_r _ [5, 6, 7, 8, 4, 9, 58, 59, 60, 61, 62, 63, 64, 65, 66, 67, 68, 69, 70, 71, 72, 73, 74, 75, 76, 77, 78, 79, 80, 81, 82, 83, 84, 85, 86, 87, 88, 89, 90, 91, 92, 93, 94, 95, 96, 97, 98, 99, 100, 101, 102, 103, 104, 105, 106, 107, 108, 109, 110, 111] (by decide +kernel) (by decide +kernel)
set_option maxRecDepth 20000 in
theorem gX10_early_X10_isPerson : GoodIn wsX10_early (wsV RX10 104 RX10 yX10_isPerson wsX10_isPerson) := goodIn_app (goodIn_of _ (by decide +kernel)) ggX10_early_X10_isPerson
set_option maxRecDepth 20000 in
theorem ggX10_early_X10_findDays : GoodIn wsX10_early wsX10_findDays := goodIn_r _ [13, 14, 15, 16, 17, 4, 18, 6, 19, 20, 21, 22, 23, 24, 25, 26, 27, 28, 29, 30, 31, 32, 33, 34, 35, 36, 37, 38, 39, 40, 41, 42, 43, 44, 45, 46, 47, 48, 49, 50, 51, 52, 53, 58, 59, 60, 61, 62, 63, 64, 65, 66, 67, 68, 69, 70, 71, 72, 73, 74, 75, 76, 77, 78, 79, 80, 81, 82, 83, 84, 85, 86, 87, 88, 89, 90, 91, 92, 93, 94, 95, 96, 97, 98, 99, 100, 101, 102, 103, 104, 105, 106, 107, 108, 109, 110, 111] (by decide +kernel) (by decide +kernel)
set_option maxRecDepth 20000 in
theorem gX10_early_X10_findDays : GoodIn wsX10_early (wsV RX10 343 RX10 yX10_findDays wsX10_findDays) := goodIn_app (goodIn_of _ (by decide +kernel)) ggX10_early_X10_findDays
set_option maxRecDepth 20000 in
theorem ggX10_early_X10_earlyOf : GoodIn wsX10_early wsX10_earlyOf := goodIn_r _ [57, 14, 58, 59, 60, 61, 62, 63, 64, 65, 66, 67, 68, 69, 70, 71, 72, 73, 74, 75, 76, 77, 78, 79, 80, 81, 82, 83, 84, 85, 86, 87, 88, 89, 90, 91, 92, 93, 94, 95, 96, 97, 98, 99, 100, 101, 102, 103, 104, 105, 106, 107, 108, 109, 110, 111] (by decide +kernel) (by decide +kernel)
set_option maxRecDepth 20000 in
theorem gX10_early_X10_earlyOf : GoodIn wsX10_early (wsV RX10 346 RX10 yX10_earlyOf wsX10_earlyOf) := goodIn_app (goodIn_of _ (by decide +kernel)) ggX10_early_X10_earlyOf
theorem dX10_early_0 : decode cX10_early 0 = .ok (.aload_n 0, 1) := by decide +kernel
theorem dX10_early_1 : decode cX10_early 1 = .ok (.iload_n 1, 1) := by decide +kernel
theorem dX10_early_2 : decode cX10_early 2 = .ok (.invokevirtual 104, 3) := by decide +kernel
theorem dX10_early_5 : decode cX10_early 5 = .ok (.ifCond .eq 11, 3) := by decide +kernel
theorem dX10_early_8 : decode cX10_early 8 = .ok (.aload_n 0, 1) := by decide +kernel
theorem dX10_early_9 : decode cX10_early 9 = .ok (.iload_n 2, 1) := by decide +kernel
theorem dX10_early_10 : decode cX10_early 10 = .ok (.invokevirtual 104, 3) := by decide +kernel
theorem dX10_early_13 : decode cX10_early 13 = .ok (.ifCond .ne 5, 3) := by decide +kernel
theorem dX10_early_16 : decode cX10_early 16 = .ok (.iconst (-1), 1) := by decide +kernel
theorem dX10_early_17 : decode cX10_early 17 = .ok (.ireturn, 1) := by decide +kernel
theorem dX10_early_18 : decode cX10_early 18 = .ok (.aload_n 0, 1) := by decide +kernel
theorem dX10_early_19 : decode cX10_early 19 = .ok (.iconst 1, 1) := by decide +kernel
theorem dX10_early_20 : decode cX10_early 20 = .ok (.iload_n 1, 1) := by decide +kernel
theorem dX10_early_21 : decode cX10_early 21 = .ok (.ishl, 1) := by decide +kernel
theorem dX10_early_22 : decode cX10_early 22 = .ok (.invokevirtual 343, 3) := by decide +kernel
theorem dX10_early_25 : decode cX10_early 25 = .ok (.aload_n 0, 1) := by decide +kernel
theorem dX10_early_26 : decode cX10_early 26 = .ok (.iload_n 2, 1) := by decide +kernel
theorem dX10_early_27 : decode cX10_early 27 = .ok (.invokevirtual 346, 3) := by decide +kernel
theorem dX10_early_30 : decode cX10_early 30 = .ok (.ireturn, 1) := by decide +kernel
set_option maxRecDepth 20000 in
theorem ggX10_could_X10_isPerson : GoodIn wsX10_could wsX10_isPerson := goodIn_r _ [6, 7, 8, 9, 5, 10, 54, 55, 56, 57, 58, 59, 60, 61, 62, 63, 64, 65, 66, 67, 68, 69, 70, 71, 72, 73, 74, 75, 76, 77, 78, 79, 80, 81, 82, 83, 84, 85, 86, 87, 88, 89, 90, 91, 92, 93, 94, 95, 96, 97, 98, 99, 100, 101, 102, 103, 104, 105, 106, 107] (by decide +kernel) (by decide +kernel)
set_option maxRecDepth 20000 in
theorem gX10_could_X10_isPerson : GoodIn wsX10_could (wsV RX10 104 RX10 yX10_isPerson wsX10_isPerson) := goodIn_app (goodIn_of _ (by decide +kernel)) ggX10_could_X10_isPerson
set_option maxRecDepth 20000 in
theorem ggX10_could_X10_in : GoodIn wsX10_could wsX10_in := goodIn_r _ [10] (by decide +kernel) (by decide +kernel)
set_option maxRecDepth 20000 in
theorem gX10_could_X10_in : GoodIn wsX10_could (va_wsS RX10 97 yX10_in wsX10_in) := goodIn_app (goodIn_of _ (by decide +kernel)) ggX10_could_X10_in
set_option maxRecDepth 20000 in
theorem ggX10_could_X10_findDays : GoodIn wsX10_could wsX10_findDays := goodIn_r _ [14, 1, 15, 16, 17, 5, 18, 7, 19, 20, 21, 22, 23, 24, 25, 26, 27, 28, 29, 30, 31, 32, 33, 34, 35, 36, 37, 38, 39, 40, 41, 42, 43, 44, 45, 46, 47, 48, 49, 50, 51, 52, 53, 54, 55, 56, 57, 58, 59, 60, 61, 62, 63, 64, 65, 66, 67, 68, 69, 70, 71, 72, 73, 74, 75, 76, 77, 78, 79, 80, 81, 82, 83, 84, 85, 86, 87, 88, 89, 90, 91, 92, 93, 94, 95, 96, 97, 98, 99, 100, 101, 102, 103, 104, 105, 106, 107] (by decide +kernel) (by decide +kernel)
set_option maxRecDepth 20000 in
theorem gX10_could_X10_findDays : GoodIn wsX10_could (wsV RX10 343 RX10 yX10_findDays wsX10_findDays) := goodIn_app (goodIn_of _ (by decide +kernel)) ggX10_could_X10_findDays
theorem dX10_could_0 : decode cX10_could 0 = .ok (.aload_n 0, 1) := by decide +kernel
theorem dX10_could_1 : decode cX10_could 1 = .ok (.iload_n 1, 1) := by decide +kernel
theorem dX10_could_2 : decode cX10_could 2 = .ok (.invokevirtual 104, 3) := by decide +kernel
theorem dX10_could_5 : decode cX10_could 5 = .ok (.ifCond .eq 13, 3) := by decide +kernel
theorem dX10_could_8 : decode cX10_could 8 = .ok (.iload_n 2, 1) := by decide +kernel
theorem dX10_could_9 : decode cX10_could 9 = .ok (.iconst 0, 1) := by decide +kernel
theorem dX10_could_10 : decode cX10_could 10 = .ok (.bipush 100, 2) := by decide +kernel
theorem dX10_could_12 : decode cX10_could 12 = .ok (.invokestatic 97, 3) := by decide +kernel
theorem dX10_could_15 : decode cX10_could 15 = .ok (.ifCond .ne 5, 3) := by decide +kernel
theorem dX10_could_18 : decode cX10_could 18 = .ok (.iconst (-1), 1) := by decide +kernel
theorem dX10_could_19 : decode cX10_could 19 = .ok (.ireturn, 1) := by decide +kernel
theorem dX10_could_20 : decode cX10_could 20 = .ok (.aload_n 0, 1) := by decide +kernel
theorem dX10_could_21 : decode cX10_could 21 = .ok (.iconst 1, 1) := by decide +kernel
theorem dX10_could_22 : decode cX10_could 22 = .ok (.iload_n 1, 1) := by decide +kernel
theorem dX10_could_23 : decode cX10_could 23 = .ok (.ishl, 1) := by decide +kernel
theorem dX10_could_24 : decode cX10_could 24 = .ok (.invokevirtual 343, 3) := by decide +kernel
theorem dX10_could_27 : decode cX10_could 27 = .ok (.aload_n 0, 1) := by decide +kernel
theorem dX10_could_28 : decode cX10_could 28 = .ok (.getfield 54, 3) := by decide +kernel
theorem dX10_could_31 : decode cX10_could 31 = .ok (.iload_n 2, 1) := by decide +kernel
theorem dX10_could_32 : decode cX10_could 32 = .ok (.iaload, 1) := by decide +kernel
theorem dX10_could_33 : decode cX10_could 33 = .ok (.ireturn, 1) := by decide +kernel
theorem dX10_seed_0 : decode cX10_seed 0 = .ok (.aload_n 0, 1) := by decide +kernel
theorem dX10_seed_1 : decode cX10_seed 1 = .ok (.getfield 26, 3) := by decide +kernel
theorem dX10_seed_4 : decode cX10_seed 4 = .ok (.istore_n 2, 1) := by decide +kernel
theorem dX10_seed_5 : decode cX10_seed 5 = .ok (.aload_n 0, 1) := by decide +kernel
theorem dX10_seed_6 : decode cX10_seed 6 = .ok (.iload_n 1, 1) := by decide +kernel
theorem dX10_seed_7 : decode cX10_seed 7 = .ok (.putfield 26, 3) := by decide +kernel
theorem dX10_seed_10 : decode cX10_seed 10 = .ok (.iload_n 2, 1) := by decide +kernel
theorem dX10_seed_11 : decode cX10_seed 11 = .ok (.ireturn, 1) := by decide +kernel
set_option maxRecDepth 20000 in
theorem ggX10_run_X10_isPerson : GoodIn wsX10_run wsX10_isPerson := goodIn_r _ [8, 9, 10, 11, 7, 12, 39, 40, 41, 42, 43, 44, 45, 46, 47, 48, 49, 50, 51, 52, 53, 54, 55, 56, 57, 58, 59, 60, 61, 62, 63, 64, 65, 66, 67, 68, 69, 70, 71, 72, 73, 74, 75, 76, 77, 78, 79, 80, 81, 82, 83, 84, 85, 86, 87, 88, 89, 90, 91, 92] (by decide +kernel) (by decide +kernel)
set_option maxRecDepth 20000 in
theorem gX10_run_X10_isPerson : GoodIn wsX10_run (wsV RX10 104 RX10 yX10_isPerson wsX10_isPerson) := goodIn_app (goodIn_of _ (by decide +kernel)) ggX10_run_X10_isPerson
set_option maxRecDepth 20000 in
theorem ggX10_run_X10_in : GoodIn wsX10_run wsX10_in := goodIn_r _ [12] (by decide +kernel) (by decide +kernel)
set_option maxRecDepth 20000 in
theorem gX10_run_X10_in : GoodIn wsX10_run (va_wsS RX10 97 yX10_in wsX10_in) := goodIn_app (goodIn_of _ (by decide +kernel)) ggX10_run_X10_in
set_option maxRecDepth 20000 in
theorem ggX10_run_X10_isOpen : GoodIn wsX10_run wsX10_isOpen := goodIn_r _ [16, 17, 18, 19, 20, 7, 21, 22, 23, 24, 25, 26, 27, 28, 29, 30, 31, 32, 33, 34, 35, 36, 37, 38, 39, 40, 41, 42, 43, 44, 45, 46, 47, 48, 49, 50, 51, 52, 53, 54, 55, 56, 57, 58, 59, 60, 61, 62, 63, 64, 65, 66, 67, 68, 69, 70, 71, 72, 73, 74, 75, 76, 77, 78, 79, 80, 81, 82, 83, 84, 85, 86, 87, 88, 89, 90, 91, 92] (by decide +kernel) (by decide +kernel)
set_option maxRecDepth 20000 in
theorem gX10_run_X10_isOpen : GoodIn wsX10_run (wsV RX10 260 RX10 yX10_isOpen wsX10_isOpen) := goodIn_app (goodIn_of _ (by decide +kernel)) ggX10_run_X10_isOpen
set_option maxRecDepth 20000 in
theorem ggX10_run_X10_inSet : GoodIn wsX10_run wsX10_inSet := goodIn_r _ [26, 27, 28, 29, 7, 30, 31, 32, 33, 34, 35, 36, 37, 38, 39, 40, 41, 42, 43, 44, 45, 46, 47, 48, 49, 50, 51, 52, 53, 54, 55, 56, 57, 58, 59, 60, 61, 62, 63, 64, 65, 66, 67, 68, 69, 70, 71, 72, 73, 74, 75, 76, 77, 78, 79, 80, 81, 82, 83, 84, 85, 86, 87, 88, 89, 90, 91, 92] (by decide +kernel) (by decide +kernel)
set_option maxRecDepth 20000 in
theorem gX10_run_X10_inSet : GoodIn wsX10_run (wsV RX10 254 RX10 yX10_inSet wsX10_inSet) := goodIn_app (goodIn_of _ (by decide +kernel)) ggX10_run_X10_inSet
set_option maxRecDepth 20000 in
theorem ggX10_run_X10_its : GoodIn wsX10_run wsX10_its := goodIn_r _ [34, 35, 39, 40, 41, 42, 43, 44, 45, 46, 47, 48, 49, 50, 51, 52, 53, 54, 55, 56, 57, 58, 59, 60, 61, 62, 63, 64, 65, 66, 67, 68, 69, 70, 71, 72, 73, 74, 75, 76, 77, 78, 79, 80, 81, 82, 83, 84, 85, 86, 87, 88, 89, 90, 91, 92] (by decide +kernel) (by decide +kernel)
set_option maxRecDepth 20000 in
theorem gX10_run_X10_its : GoodIn wsX10_run (wsV RX10 108 RX10 yX10_its wsX10_its) := goodIn_app (goodIn_of _ (by decide +kernel)) ggX10_run_X10_its
set_option maxRecDepth 20000 in
theorem ggX10_run_X10_ends : GoodIn wsX10_run wsX10_ends := goodIn_r _ [30, 31, 32, 33, 7, 34, 35, 39, 40, 41, 42, 43, 44, 45, 46, 47, 48, 49, 50, 51, 52, 53, 54, 55, 56, 57, 58, 59, 60, 61, 62, 63, 64, 65, 66, 67, 68, 69, 70, 71, 72, 73, 74, 75, 76, 77, 78, 79, 80, 81, 82, 83, 84, 85, 86, 87, 88, 89, 90, 91, 92] (by decide +kernel) (by decide +kernel)
set_option maxRecDepth 20000 in
theorem gX10_run_X10_ends : GoodIn wsX10_run (wsV RX10 112 RX10 yX10_ends wsX10_ends) := goodIn_app (goodIn_of _ (by decide +kernel)) ggX10_run_X10_ends
theorem dX10_run_0 : decode cX10_run 0 = .ok (.aload_n 0, 1) := by decide +kernel
theorem dX10_run_1 : decode cX10_run 1 = .ok (.iload_n 1, 1) := by decide +kernel
theorem dX10_run_2 : decode cX10_run 2 = .ok (.invokevirtual 104, 3) := by decide +kernel
theorem dX10_run_5 : decode cX10_run 5 = .ok (.ifCond .eq 13, 3) := by decide +kernel
theorem dX10_run_8 : decode cX10_run 8 = .ok (.iload_n 2, 1) := by decide +kernel
theorem dX10_run_9 : decode cX10_run 9 = .ok (.iconst 0, 1) := by decide +kernel
theorem dX10_run_10 : decode cX10_run 10 = .ok (.bipush 20, 2) := by decide +kernel
theorem dX10_run_12 : decode cX10_run 12 = .ok (.invokestatic 97, 3) := by decide +kernel
theorem dX10_run_15 : decode cX10_run 15 = .ok (.ifCond .ne 5, 3) := by decide +kernel
theorem dX10_run_18 : decode cX10_run 18 = .ok (.iconst (-1), 1) := by decide +kernel
theorem dX10_run_19 : decode cX10_run 19 = .ok (.ireturn, 1) := by decide +kernel
theorem dX10_run_20 : decode cX10_run 20 = .ok (.iconst 1, 1) := by decide +kernel
theorem dX10_run_21 : decode cX10_run 21 = .ok (.iload_n 1, 1) := by decide +kernel
theorem dX10_run_22 : decode cX10_run 22 = .ok (.ishl, 1) := by decide +kernel
theorem dX10_run_23 : decode cX10_run 23 = .ok (.istore_n 3, 1) := by decide +kernel
theorem dX10_run_24 : decode cX10_run 24 = .ok (.iconst 0, 1) := by decide +kernel
theorem dX10_run_25 : decode cX10_run 25 = .ok (.istore 4, 2) := by decide +kernel
theorem dX10_run_27 : decode cX10_run 27 = .ok (.iload 4, 2) := by decide +kernel
theorem dX10_run_29 : decode cX10_run 29 = .ok (.iload_n 2, 1) := by decide +kernel
theorem dX10_run_30 : decode cX10_run 30 = .ok (.if_icmp .ge 105, 3) := by decide +kernel
theorem dX10_run_33 : decode cX10_run 33 = .ok (.iload_n 3, 1) := by decide +kernel
theorem dX10_run_34 : decode cX10_run 34 = .ok (.istore 5, 2) := by decide +kernel
theorem dX10_run_36 : decode cX10_run 36 = .ok (.iconst 0, 1) := by decide +kernel
theorem dX10_run_37 : decode cX10_run 37 = .ok (.istore 6, 2) := by decide +kernel
theorem dX10_run_39 : decode cX10_run 39 = .ok (.iload 6, 2) := by decide +kernel
theorem dX10_run_41 : decode cX10_run 41 = .ok (.aload_n 0, 1) := by decide +kernel
theorem dX10_run_42 : decode cX10_run 42 = .ok (.getfield 101, 3) := by decide +kernel
theorem dX10_run_45 : decode cX10_run 45 = .ok (.if_icmp .ge 81, 3) := by decide +kernel
theorem dX10_run_48 : decode cX10_run 48 = .ok (.aload_n 0, 1) := by decide +kernel
theorem dX10_run_49 : decode cX10_run 49 = .ok (.iload 6, 2) := by decide +kernel
theorem dX10_run_51 : decode cX10_run 51 = .ok (.iload 4, 2) := by decide +kernel
theorem dX10_run_53 : decode cX10_run 53 = .ok (.invokevirtual 260, 3) := by decide +kernel
theorem dX10_run_56 : decode cX10_run 56 = .ok (.ifCond .eq 64, 3) := by decide +kernel
theorem dX10_run_59 : decode cX10_run 59 = .ok (.aload_n 0, 1) := by decide +kernel
theorem dX10_run_60 : decode cX10_run 60 = .ok (.iload 6, 2) := by decide +kernel
theorem dX10_run_62 : decode cX10_run 62 = .ok (.iload_n 3, 1) := by decide +kernel
theorem dX10_run_63 : decode cX10_run 63 = .ok (.invokevirtual 254, 3) := by decide +kernel
theorem dX10_run_66 : decode cX10_run 66 = .ok (.iconst 1, 1) := by decide +kernel
theorem dX10_run_67 : decode cX10_run 67 = .ok (.if_icmp .ne 53, 3) := by decide +kernel
theorem dX10_run_70 : decode cX10_run 70 = .ok (.aload_n 0, 1) := by decide +kernel
theorem dX10_run_71 : decode cX10_run 71 = .ok (.aload_n 0, 1) := by decide +kernel
theorem dX10_run_72 : decode cX10_run 72 = .ok (.getfield 26, 3) := by decide +kernel
theorem dX10_run_75 : decode cX10_run 75 = .ok (.ldc_w 349, 3) := by decide +kernel
theorem dX10_run_78 : decode cX10_run 78 = .ok (.imul, 1) := by decide +kernel
theorem dX10_run_79 : decode cX10_run 79 = .ok (.sipush 12345, 3) := by decide +kernel
theorem dX10_run_82 : decode cX10_run 82 = .ok (.iadd, 1) := by decide +kernel
theorem dX10_run_83 : decode cX10_run 83 = .ok (.putfield 26, 3) := by decide +kernel
theorem dX10_run_86 : decode cX10_run 86 = .ok (.iload 5, 2) := by decide +kernel
theorem dX10_run_88 : decode cX10_run 88 = .ok (.aload_n 0, 1) := by decide +kernel
theorem dX10_run_89 : decode cX10_run 89 = .ok (.getfield 26, 3) := by decide +kernel
theorem dX10_run_92 : decode cX10_run 92 = .ok (.bipush 16, 2) := by decide +kernel
theorem dX10_run_94 : decode cX10_run 94 = .ok (.iushr, 1) := by decide +kernel
theorem dX10_run_95 : decode cX10_run 95 = .ok (.iconst 4, 1) := by decide +kernel
theorem dX10_run_96 : decode cX10_run 96 = .ok (.irem, 1) := by decide +kernel
theorem dX10_run_97 : decode cX10_run 97 = .ok (.aload_n 0, 1) := by decide +kernel
theorem dX10_run_98 : decode cX10_run 98 = .ok (.iload 6, 2) := by decide +kernel
theorem dX10_run_100 : decode cX10_run 100 = .ok (.iconst 3, 1) := by decide +kernel
theorem dX10_run_101 : decode cX10_run 101 = .ok (.invokevirtual 108, 3) := by decide +kernel
theorem dX10_run_104 : decode cX10_run 104 = .ok (.if_icmp .ge 12, 3) := by decide +kernel
theorem dX10_run_107 : decode cX10_run 107 = .ok (.aload_n 0, 1) := by decide +kernel
theorem dX10_run_108 : decode cX10_run 108 = .ok (.iload 6, 2) := by decide +kernel
theorem dX10_run_110 : decode cX10_run 110 = .ok (.invokevirtual 112, 3) := by decide +kernel
theorem dX10_run_113 : decode cX10_run 113 = .ok (.goto 4, 3) := by decide +kernel
theorem dX10_run_116 : decode cX10_run 116 = .ok (.iconst 0, 1) := by decide +kernel
theorem dX10_run_117 : decode cX10_run 117 = .ok (.ior, 1) := by decide +kernel
theorem dX10_run_118 : decode cX10_run 118 = .ok (.istore 5, 2) := by decide +kernel
theorem dX10_run_120 : decode cX10_run 120 = .ok (.iinc 6 1, 3) := by decide +kernel
theorem dX10_run_123 : decode cX10_run 123 = .ok (.goto (-84), 3) := by decide +kernel
theorem dX10_run_126 : decode cX10_run 126 = .ok (.iload 5, 2) := by decide +kernel
theorem dX10_run_128 : decode cX10_run 128 = .ok (.istore_n 3, 1) := by decide +kernel
theorem dX10_run_129 : decode cX10_run 129 = .ok (.iinc 4 1, 3) := by decide +kernel
theorem dX10_run_132 : decode cX10_run 132 = .ok (.goto (-105), 3) := by decide +kernel
theorem dX10_run_135 : decode cX10_run 135 = .ok (.iload_n 3, 1) := by decide +kernel
theorem dX10_run_136 : decode cX10_run 136 = .ok (.ireturn, 1) := by decide +kernel
theorem dX10_tells_0 : decode cX10_tells 0 = .ok (.iload_n 1, 1) := by decide +kernel
theorem dX10_tells_1 : decode cX10_tells 1 = .ok (.istore_n 3, 1) := by decide +kernel
theorem dX10_tells_2 : decode cX10_tells 2 = .ok (.iconst 0, 1) := by decide +kernel
theorem dX10_tells_3 : decode cX10_tells 3 = .ok (.istore 4, 2) := by decide +kernel
theorem dX10_tells_5 : decode cX10_tells 5 = .ok (.iload 4, 2) := by decide +kernel
theorem dX10_tells_7 : decode cX10_tells 7 = .ok (.aload_n 0, 1) := by decide +kernel
theorem dX10_tells_8 : decode cX10_tells 8 = .ok (.getfield 7, 3) := by decide +kernel
theorem dX10_tells_11 : decode cX10_tells 11 = .ok (.if_icmp .ge 33, 3) := by decide +kernel
theorem dX10_tells_14 : decode cX10_tells 14 = .ok (.iload_n 3, 1) := by decide +kernel
theorem dX10_tells_15 : decode cX10_tells 15 = .ok (.iload_n 1, 1) := by decide +kernel
theorem dX10_tells_16 : decode cX10_tells 16 = .ok (.iload 4, 2) := by decide +kernel
theorem dX10_tells_18 : decode cX10_tells 18 = .ok (.ishr, 1) := by decide +kernel
theorem dX10_tells_19 : decode cX10_tells 19 = .ok (.iconst 1, 1) := by decide +kernel
theorem dX10_tells_20 : decode cX10_tells 20 = .ok (.iand, 1) := by decide +kernel
theorem dX10_tells_21 : decode cX10_tells 21 = .ok (.iconst 1, 1) := by decide +kernel
theorem dX10_tells_22 : decode cX10_tells 22 = .ok (.if_icmp .ne 13, 3) := by decide +kernel
theorem dX10_tells_25 : decode cX10_tells 25 = .ok (.aload_n 0, 1) := by decide +kernel
theorem dX10_tells_26 : decode cX10_tells 26 = .ok (.getfield 61, 3) := by decide +kernel
theorem dX10_tells_29 : decode cX10_tells 29 = .ok (.iload 4, 2) := by decide +kernel
theorem dX10_tells_31 : decode cX10_tells 31 = .ok (.iaload, 1) := by decide +kernel
theorem dX10_tells_32 : decode cX10_tells 32 = .ok (.goto 4, 3) := by decide +kernel
theorem dX10_tells_35 : decode cX10_tells 35 = .ok (.iconst 0, 1) := by decide +kernel
theorem dX10_tells_36 : decode cX10_tells 36 = .ok (.ior, 1) := by decide +kernel
theorem dX10_tells_37 : decode cX10_tells 37 = .ok (.istore_n 3, 1) := by decide +kernel
theorem dX10_tells_38 : decode cX10_tells 38 = .ok (.iinc 4 1, 3) := by decide +kernel
theorem dX10_tells_41 : decode cX10_tells 41 = .ok (.goto (-36), 3) := by decide +kernel
theorem dX10_tells_44 : decode cX10_tells 44 = .ok (.iload_n 3, 1) := by decide +kernel
theorem dX10_tells_45 : decode cX10_tells 45 = .ok (.iload_n 2, 1) := by decide +kernel
theorem dX10_tells_46 : decode cX10_tells 46 = .ok (.iconst (-1), 1) := by decide +kernel
theorem dX10_tells_47 : decode cX10_tells 47 = .ok (.ixor, 1) := by decide +kernel
theorem dX10_tells_48 : decode cX10_tells 48 = .ok (.iand, 1) := by decide +kernel
theorem dX10_tells_49 : decode cX10_tells 49 = .ok (.ireturn, 1) := by decide +kernel
set_option maxRecDepth 20000 in
theorem ggX10_guards_X10_isPerson : GoodIn wsX10_guards wsX10_isPerson := goodIn_r _ [8, 1, 9, 10, 7, 11, 58, 59, 60, 61, 62, 63, 64, 65, 66, 67, 68, 69, 70, 71, 72, 73, 74, 75, 76, 77, 78, 79, 80, 81, 82, 83, 84, 85, 86, 87, 88, 89, 90, 91, 92, 93, 94, 95, 96, 97, 98, 99, 100, 101, 102, 103, 104, 105, 106, 107, 108, 109, 110, 111] (by decide +kernel) (by decide +kernel)
set_option maxRecDepth 20000 in
theorem gX10_guards_X10_isPerson : GoodIn wsX10_guards (wsV RX10 104 RX10 yX10_isPerson wsX10_isPerson) := goodIn_app (goodIn_of _ (by decide +kernel)) ggX10_guards_X10_isPerson
set_option maxRecDepth 20000 in
theorem ggX10_guards_X10_isSide : GoodIn wsX10_guards wsX10_isSide := goodIn_r _ [14, 9, 10, 7, 11] (by decide +kernel) (by decide +kernel)
set_option maxRecDepth 20000 in
theorem gX10_guards_X10_isSide : GoodIn wsX10_guards (va_wsS RX10 276 yX10_isSide wsX10_isSide) := goodIn_app (goodIn_of _ (by decide +kernel)) ggX10_guards_X10_isSide
set_option maxRecDepth 20000 in
theorem ggX10_guards_X10_openOn : GoodIn wsX10_guards wsX10_openOn := goodIn_r _ [18, 19, 20, 21, 22, 7, 23, 24, 25, 26, 27, 28, 29, 30, 31, 32, 33, 34, 35, 36, 37, 38, 39, 40, 41, 42, 43, 44, 45, 58, 59, 60, 61, 62, 63, 64, 65, 66, 67, 68, 69, 70, 71, 72, 73, 74, 75, 76, 77, 78, 79, 80, 81, 82, 83, 84, 85, 86, 87, 88, 89, 90, 91, 92, 93, 94, 95, 96, 97, 98, 99, 100, 101, 102, 103, 104, 105, 106, 107, 108, 109, 110, 111] (by decide +kernel) (by decide +kernel)
set_option maxRecDepth 20000 in
theorem gX10_guards_X10_openOn : GoodIn wsX10_guards (wsV RX10 266 RX10 yX10_openOn wsX10_openOn) := goodIn_app (goodIn_of _ (by decide +kernel)) ggX10_guards_X10_openOn
set_option maxRecDepth 20000 in
theorem ggX10_guards_X10_around : GoodIn wsX10_guards wsX10_around := goodIn_r _ [49, 19, 30, 31, 32, 7, 33, 34, 35, 36, 37, 38, 39, 40, 41, 42, 43, 44, 45, 58, 59, 60, 61, 62, 63, 64, 65, 66, 67, 68, 69, 70, 71, 72, 73, 74, 75, 76, 77, 78, 79, 80, 81, 82, 83, 84, 85, 86, 87, 88, 89, 90, 91, 92, 93, 94, 95, 96, 97, 98, 99, 100, 101, 102, 103, 104, 105, 106, 107, 108, 109, 110, 111] (by decide +kernel) (by decide +kernel)
set_option maxRecDepth 20000 in
theorem gX10_guards_X10_around : GoodIn wsX10_guards (wsV RX10 263 RX10 yX10_around wsX10_around) := goodIn_app (goodIn_of _ (by decide +kernel)) ggX10_guards_X10_around
set_option maxRecDepth 20000 in
theorem ggX10_guards_X10_all : GoodIn wsX10_guards wsX10_all := goodIn_r _ [53, 1, 58, 59, 60, 61, 62, 63, 64, 65, 66, 67, 68, 69, 70, 71, 72, 73, 74, 75, 76, 77, 78, 79, 80, 81, 82, 83, 84, 85, 86, 87, 88, 89, 90, 91, 92, 93, 94, 95, 96, 97, 98, 99, 100, 101, 102, 103, 104, 105, 106, 107, 108, 109, 110, 111] (by decide +kernel) (by decide +kernel)
set_option maxRecDepth 20000 in
theorem gX10_guards_X10_all : GoodIn wsX10_guards (wsV RX10 244 RX10 yX10_all wsX10_all) := goodIn_app (goodIn_of _ (by decide +kernel)) ggX10_guards_X10_all
set_option maxRecDepth 20000 in
theorem ggX10_guards_X10_ones : GoodIn wsX10_guards wsX10_ones := goodIn_r _ [45] (by decide +kernel) (by decide +kernel)
set_option maxRecDepth 20000 in
theorem gX10_guards_X10_ones : GoodIn wsX10_guards (va_wsS RX10 116 yX10_ones wsX10_ones) := goodIn_app (goodIn_of _ (by decide +kernel)) ggX10_guards_X10_ones
set_option maxRecDepth 20000 in
theorem ggX10_guards_X10_tells : GoodIn wsX10_guards wsX10_tells := goodIn_r _ [57, 1, 2, 58, 59, 60, 61, 62, 63, 64, 65, 66, 67, 68, 69, 70, 71, 72, 73, 74, 75, 76, 77, 78, 79, 80, 81, 82, 83, 84, 85, 86, 87, 88, 89, 90, 91, 92, 93, 94, 95, 96, 97, 98, 99, 100, 101, 102, 103, 104, 105, 106, 107, 108, 109, 110, 111] (by decide +kernel) (by decide +kernel)
set_option maxRecDepth 20000 in
theorem gX10_guards_X10_tells : GoodIn wsX10_guards (wsV RX10 350 RX10 yX10_tells wsX10_tells) := goodIn_app (goodIn_of _ (by decide +kernel)) ggX10_guards_X10_tells
theorem dX10_guards_0 : decode cX10_guards 0 = .ok (.aload_n 0, 1) := by decide +kernel
theorem dX10_guards_1 : decode cX10_guards 1 = .ok (.iload_n 1, 1) := by decide +kernel
theorem dX10_guards_2 : decode cX10_guards 2 = .ok (.invokevirtual 104, 3) := by decide +kernel
theorem dX10_guards_5 : decode cX10_guards 5 = .ok (.ifCond .eq 10, 3) := by decide +kernel
theorem dX10_guards_8 : decode cX10_guards 8 = .ok (.iload_n 2, 1) := by decide +kernel
theorem dX10_guards_9 : decode cX10_guards 9 = .ok (.invokestatic 276, 3) := by decide +kernel
theorem dX10_guards_12 : decode cX10_guards 12 = .ok (.ifCond .ne 5, 3) := by decide +kernel
theorem dX10_guards_15 : decode cX10_guards 15 = .ok (.iconst (-1), 1) := by decide +kernel
theorem dX10_guards_16 : decode cX10_guards 16 = .ok (.ireturn, 1) := by decide +kernel
theorem dX10_guards_17 : decode cX10_guards 17 = .ok (.aload_n 0, 1) := by decide +kernel
theorem dX10_guards_18 : decode cX10_guards 18 = .ok (.getfield 7, 3) := by decide +kernel
theorem dX10_guards_21 : decode cX10_guards 21 = .ok (.bipush 8, 2) := by decide +kernel
theorem dX10_guards_23 : decode cX10_guards 23 = .ok (.if_icmp .le 6, 3) := by decide +kernel
theorem dX10_guards_26 : decode cX10_guards 26 = .ok (.bipush (-4), 2) := by decide +kernel
theorem dX10_guards_28 : decode cX10_guards 28 = .ok (.ireturn, 1) := by decide +kernel
theorem dX10_guards_29 : decode cX10_guards 29 = .ok (.aload_n 0, 1) := by decide +kernel
theorem dX10_guards_30 : decode cX10_guards 30 = .ok (.iconst 0, 1) := by decide +kernel
theorem dX10_guards_31 : decode cX10_guards 31 = .ok (.invokevirtual 266, 3) := by decide +kernel
theorem dX10_guards_34 : decode cX10_guards 34 = .ok (.istore_n 3, 1) := by decide +kernel
theorem dX10_guards_35 : decode cX10_guards 35 = .ok (.iconst 0, 1) := by decide +kernel
theorem dX10_guards_36 : decode cX10_guards 36 = .ok (.istore 4, 2) := by decide +kernel
theorem dX10_guards_38 : decode cX10_guards 38 = .ok (.iload 4, 2) := by decide +kernel
theorem dX10_guards_40 : decode cX10_guards 40 = .ok (.aload_n 0, 1) := by decide +kernel
theorem dX10_guards_41 : decode cX10_guards 41 = .ok (.getfield 7, 3) := by decide +kernel
theorem dX10_guards_44 : decode cX10_guards 44 = .ok (.if_icmp .ge 25, 3) := by decide +kernel
theorem dX10_guards_47 : decode cX10_guards 47 = .ok (.aload_n 0, 1) := by decide +kernel
theorem dX10_guards_48 : decode cX10_guards 48 = .ok (.getfield 61, 3) := by decide +kernel
theorem dX10_guards_51 : decode cX10_guards 51 = .ok (.iload 4, 2) := by decide +kernel
theorem dX10_guards_53 : decode cX10_guards 53 = .ok (.aload_n 0, 1) := by decide +kernel
theorem dX10_guards_54 : decode cX10_guards 54 = .ok (.iconst 1, 1) := by decide +kernel
theorem dX10_guards_55 : decode cX10_guards 55 = .ok (.iload 4, 2) := by decide +kernel
theorem dX10_guards_57 : decode cX10_guards 57 = .ok (.ishl, 1) := by decide +kernel
theorem dX10_guards_58 : decode cX10_guards 58 = .ok (.iload_n 3, 1) := by decide +kernel
theorem dX10_guards_59 : decode cX10_guards 59 = .ok (.invokevirtual 263, 3) := by decide +kernel
theorem dX10_guards_62 : decode cX10_guards 62 = .ok (.iastore, 1) := by decide +kernel
theorem dX10_guards_63 : decode cX10_guards 63 = .ok (.iinc 4 1, 3) := by decide +kernel
theorem dX10_guards_66 : decode cX10_guards 66 = .ok (.goto (-28), 3) := by decide +kernel
theorem dX10_guards_69 : decode cX10_guards 69 = .ok (.bipush (-9), 2) := by decide +kernel
theorem dX10_guards_71 : decode cX10_guards 71 = .ok (.istore 4, 2) := by decide +kernel
theorem dX10_guards_73 : decode cX10_guards 73 = .ok (.aload_n 0, 1) := by decide +kernel
theorem dX10_guards_74 : decode cX10_guards 74 = .ok (.invokevirtual 244, 3) := by decide +kernel
theorem dX10_guards_77 : decode cX10_guards 77 = .ok (.istore 5, 2) := by decide +kernel
theorem dX10_guards_79 : decode cX10_guards 79 = .ok (.iload 5, 2) := by decide +kernel
theorem dX10_guards_81 : decode cX10_guards 81 = .ok (.ifCond .lt 197, 3) := by decide +kernel
theorem dX10_guards_84 : decode cX10_guards 84 = .ok (.iconst 0, 1) := by decide +kernel
theorem dX10_guards_85 : decode cX10_guards 85 = .ok (.istore 6, 2) := by decide +kernel
theorem dX10_guards_87 : decode cX10_guards 87 = .ok (.iload 6, 2) := by decide +kernel
theorem dX10_guards_89 : decode cX10_guards 89 = .ok (.aload_n 0, 1) := by decide +kernel
theorem dX10_guards_90 : decode cX10_guards 90 = .ok (.invokevirtual 244, 3) := by decide +kernel
theorem dX10_guards_93 : decode cX10_guards 93 = .ok (.if_icmp .gt 179, 3) := by decide +kernel
theorem dX10_guards_96 : decode cX10_guards 96 = .ok (.iload 6, 2) := by decide +kernel
theorem dX10_guards_98 : decode cX10_guards 98 = .ok (.iload 5, 2) := by decide +kernel
theorem dX10_guards_100 : decode cX10_guards 100 = .ok (.iand, 1) := by decide +kernel
theorem dX10_guards_101 : decode cX10_guards 101 = .ok (.ifCond .ne 165, 3) := by decide +kernel
theorem dX10_guards_104 : decode cX10_guards 104 = .ok (.iload 6, 2) := by decide +kernel
theorem dX10_guards_106 : decode cX10_guards 106 = .ok (.iload_n 1, 1) := by decide +kernel
theorem dX10_guards_107 : decode cX10_guards 107 = .ok (.ishr, 1) := by decide +kernel
theorem dX10_guards_108 : decode cX10_guards 108 = .ok (.iconst 1, 1) := by decide +kernel
theorem dX10_guards_109 : decode cX10_guards 109 = .ok (.iand, 1) := by decide +kernel
theorem dX10_guards_110 : decode cX10_guards 110 = .ok (.ifCond .ne 6, 3) := by decide +kernel
theorem dX10_guards_113 : decode cX10_guards 113 = .ok (.goto 153, 3) := by decide +kernel
theorem dX10_guards_116 : decode cX10_guards 116 = .ok (.iload 6, 2) := by decide +kernel
theorem dX10_guards_118 : decode cX10_guards 118 = .ok (.invokestatic 116, 3) := by decide +kernel
theorem dX10_guards_121 : decode cX10_guards 121 = .ok (.istore 7, 2) := by decide +kernel
theorem dX10_guards_123 : decode cX10_guards 123 = .ok (.bipush (-9), 2) := by decide +kernel
theorem dX10_guards_125 : decode cX10_guards 125 = .ok (.istore 8, 2) := by decide +kernel
theorem dX10_guards_127 : decode cX10_guards 127 = .ok (.aload_n 0, 1) := by decide +kernel
theorem dX10_guards_128 : decode cX10_guards 128 = .ok (.iload 6, 2) := by decide +kernel
theorem dX10_guards_130 : decode cX10_guards 130 = .ok (.iload 5, 2) := by decide +kernel
theorem dX10_guards_132 : decode cX10_guards 132 = .ok (.invokevirtual 350, 3) := by decide +kernel
theorem dX10_guards_135 : decode cX10_guards 135 = .ok (.iload 6, 2) := by decide +kernel
theorem dX10_guards_137 : decode cX10_guards 137 = .ok (.if_icmp .eq 92, 3) := by decide +kernel
theorem dX10_guards_140 : decode cX10_guards 140 = .ok (.iconst 0, 1) := by decide +kernel
theorem dX10_guards_141 : decode cX10_guards 141 = .ok (.istore 9, 2) := by decide +kernel
theorem dX10_guards_143 : decode cX10_guards 143 = .ok (.iload 9, 2) := by decide +kernel
theorem dX10_guards_145 : decode cX10_guards 145 = .ok (.aload_n 0, 1) := by decide +kernel
theorem dX10_guards_146 : decode cX10_guards 146 = .ok (.getfield 7, 3) := by decide +kernel
theorem dX10_guards_149 : decode cX10_guards 149 = .ok (.if_icmp .ge 80, 3) := by decide +kernel
theorem dX10_guards_152 : decode cX10_guards 152 = .ok (.iload 5, 2) := by decide +kernel
theorem dX10_guards_154 : decode cX10_guards 154 = .ok (.iconst 1, 1) := by decide +kernel
theorem dX10_guards_155 : decode cX10_guards 155 = .ok (.iload 9, 2) := by decide +kernel
theorem dX10_guards_157 : decode cX10_guards 157 = .ok (.ishl, 1) := by decide +kernel
theorem dX10_guards_158 : decode cX10_guards 158 = .ok (.ior, 1) := by decide +kernel
theorem dX10_guards_159 : decode cX10_guards 159 = .ok (.istore 10, 2) := by decide +kernel
theorem dX10_guards_161 : decode cX10_guards 161 = .ok (.iload 10, 2) := by decide +kernel
theorem dX10_guards_163 : decode cX10_guards 163 = .ok (.iload 5, 2) := by decide +kernel
theorem dX10_guards_165 : decode cX10_guards 165 = .ok (.if_icmp .eq 58, 3) := by decide +kernel
theorem dX10_guards_168 : decode cX10_guards 168 = .ok (.iload 6, 2) := by decide +kernel
theorem dX10_guards_170 : decode cX10_guards 170 = .ok (.iload 9, 2) := by decide +kernel
theorem dX10_guards_172 : decode cX10_guards 172 = .ok (.ishr, 1) := by decide +kernel
theorem dX10_guards_173 : decode cX10_guards 173 = .ok (.iconst 1, 1) := by decide +kernel
theorem dX10_guards_174 : decode cX10_guards 174 = .ok (.iand, 1) := by decide +kernel
theorem dX10_guards_175 : decode cX10_guards 175 = .ok (.iconst 1, 1) := by decide +kernel
theorem dX10_guards_176 : decode cX10_guards 176 = .ok (.if_icmp .ne 6, 3) := by decide +kernel
theorem dX10_guards_179 : decode cX10_guards 179 = .ok (.goto 44, 3) := by decide +kernel
theorem dX10_guards_182 : decode cX10_guards 182 = .ok (.aload_n 0, 1) := by decide +kernel
theorem dX10_guards_183 : decode cX10_guards 183 = .ok (.getfield 58, 3) := by decide +kernel
theorem dX10_guards_186 : decode cX10_guards 186 = .ok (.iload 10, 2) := by decide +kernel
theorem dX10_guards_188 : decode cX10_guards 188 = .ok (.bipush 8, 2) := by decide +kernel
theorem dX10_guards_190 : decode cX10_guards 190 = .ok (.ishl, 1) := by decide +kernel
theorem dX10_guards_191 : decode cX10_guards 191 = .ok (.aload_n 0, 1) := by decide +kernel
theorem dX10_guards_192 : decode cX10_guards 192 = .ok (.iload 6, 2) := by decide +kernel
theorem dX10_guards_194 : decode cX10_guards 194 = .ok (.iload 10, 2) := by decide +kernel
theorem dX10_guards_196 : decode cX10_guards 196 = .ok (.invokevirtual 350, 3) := by decide +kernel
theorem dX10_guards_199 : decode cX10_guards 199 = .ok (.ior, 1) := by decide +kernel
theorem dX10_guards_200 : decode cX10_guards 200 = .ok (.iaload, 1) := by decide +kernel
theorem dX10_guards_201 : decode cX10_guards 201 = .ok (.istore 11, 2) := by decide +kernel
theorem dX10_guards_203 : decode cX10_guards 203 = .ok (.iload 8, 2) := by decide +kernel
theorem dX10_guards_205 : decode cX10_guards 205 = .ok (.ifCond .lt 10, 3) := by decide +kernel
theorem dX10_guards_208 : decode cX10_guards 208 = .ok (.iload 11, 2) := by decide +kernel
theorem dX10_guards_210 : decode cX10_guards 210 = .ok (.iload 7, 2) := by decide +kernel
theorem dX10_guards_212 : decode cX10_guards 212 = .ok (.if_icmp .ge 11, 3) := by decide +kernel
theorem dX10_guards_215 : decode cX10_guards 215 = .ok (.iload 11, 2) := by decide +kernel
theorem dX10_guards_217 : decode cX10_guards 217 = .ok (.istore 7, 2) := by decide +kernel
theorem dX10_guards_219 : decode cX10_guards 219 = .ok (.iload 9, 2) := by decide +kernel
theorem dX10_guards_221 : decode cX10_guards 221 = .ok (.istore 8, 2) := by decide +kernel
theorem dX10_guards_223 : decode cX10_guards 223 = .ok (.iinc 9 1, 3) := by decide +kernel
theorem dX10_guards_226 : decode cX10_guards 226 = .ok (.goto (-83), 3) := by decide +kernel
theorem dX10_guards_229 : decode cX10_guards 229 = .ok (.aload_n 0, 1) := by decide +kernel
theorem dX10_guards_230 : decode cX10_guards 230 = .ok (.getfield 58, 3) := by decide +kernel
theorem dX10_guards_233 : decode cX10_guards 233 = .ok (.iload 5, 2) := by decide +kernel
theorem dX10_guards_235 : decode cX10_guards 235 = .ok (.bipush 8, 2) := by decide +kernel
theorem dX10_guards_237 : decode cX10_guards 237 = .ok (.ishl, 1) := by decide +kernel
theorem dX10_guards_238 : decode cX10_guards 238 = .ok (.iload 6, 2) := by decide +kernel
theorem dX10_guards_240 : decode cX10_guards 240 = .ok (.ior, 1) := by decide +kernel
theorem dX10_guards_241 : decode cX10_guards 241 = .ok (.iload 7, 2) := by decide +kernel
theorem dX10_guards_243 : decode cX10_guards 243 = .ok (.iastore, 1) := by decide +kernel
theorem dX10_guards_244 : decode cX10_guards 244 = .ok (.iload 5, 2) := by decide +kernel
theorem dX10_guards_246 : decode cX10_guards 246 = .ok (.ifCond .ne 16, 3) := by decide +kernel
theorem dX10_guards_249 : decode cX10_guards 249 = .ok (.iload 6, 2) := by decide +kernel
theorem dX10_guards_251 : decode cX10_guards 251 = .ok (.iconst 1, 1) := by decide +kernel
theorem dX10_guards_252 : decode cX10_guards 252 = .ok (.iload_n 1, 1) := by decide +kernel
theorem dX10_guards_253 : decode cX10_guards 253 = .ok (.ishl, 1) := by decide +kernel
theorem dX10_guards_254 : decode cX10_guards 254 = .ok (.if_icmp .ne 8, 3) := by decide +kernel
theorem dX10_guards_257 : decode cX10_guards 257 = .ok (.iload 8, 2) := by decide +kernel
theorem dX10_guards_259 : decode cX10_guards 259 = .ok (.goto 5, 3) := by decide +kernel
theorem dX10_guards_262 : decode cX10_guards 262 = .ok (.iload 4, 2) := by decide +kernel
theorem dX10_guards_264 : decode cX10_guards 264 = .ok (.istore 4, 2) := by decide +kernel
theorem dX10_guards_266 : decode cX10_guards 266 = .ok (.iinc 6 1, 3) := by decide +kernel
theorem dX10_guards_269 : decode cX10_guards 269 = .ok (.goto (-182), 3) := by decide +kernel
theorem dX10_guards_272 : decode cX10_guards 272 = .ok (.iinc 5 (-1), 3) := by decide +kernel
theorem dX10_guards_275 : decode cX10_guards 275 = .ok (.goto (-196), 3) := by decide +kernel
theorem dX10_guards_278 : decode cX10_guards 278 = .ok (.iload_n 2, 1) := by decide +kernel
theorem dX10_guards_279 : decode cX10_guards 279 = .ok (.ifCond .ne 14, 3) := by decide +kernel
theorem dX10_guards_282 : decode cX10_guards 282 = .ok (.aload_n 0, 1) := by decide +kernel
theorem dX10_guards_283 : decode cX10_guards 283 = .ok (.getfield 58, 3) := by decide +kernel
theorem dX10_guards_286 : decode cX10_guards 286 = .ok (.iconst 1, 1) := by decide +kernel
theorem dX10_guards_287 : decode cX10_guards 287 = .ok (.iload_n 1, 1) := by decide +kernel
theorem dX10_guards_288 : decode cX10_guards 288 = .ok (.ishl, 1) := by decide +kernel
theorem dX10_guards_289 : decode cX10_guards 289 = .ok (.iaload, 1) := by decide +kernel
theorem dX10_guards_290 : decode cX10_guards 290 = .ok (.goto 5, 3) := by decide +kernel
theorem dX10_guards_293 : decode cX10_guards 293 = .ok (.iload 4, 2) := by decide +kernel
theorem dX10_guards_295 : decode cX10_guards 295 = .ok (.ireturn, 1) := by decide +kernel
set_option maxRecDepth 20000 in
theorem ggX10_tieOfTwo_X10_ends : GoodIn wsX10_tieOfTwo wsX10_ends := goodIn_r _ [6, 7, 8, 9, 5, 10, 11, 12, 13, 14, 15, 16, 17, 18, 19, 20, 21, 22, 23, 24, 25, 26, 27, 28, 29, 30, 31, 32, 33, 34, 35, 36, 37, 38, 39, 40, 41, 42, 43, 44, 45, 46, 47, 48, 49, 50, 51, 52, 53, 54, 55, 56, 57, 58, 59, 60, 61, 62, 63, 64, 65] (by decide +kernel) (by decide +kernel)
set_option maxRecDepth 20000 in
theorem gX10_tieOfTwo_X10_ends : GoodIn wsX10_tieOfTwo (wsV RX10 112 RX10 yX10_ends wsX10_ends) := goodIn_app (goodIn_of _ (by decide +kernel)) ggX10_tieOfTwo_X10_ends
theorem dX10_tieOfTwo_0 : decode cX10_tieOfTwo 0 = .ok (.iconst 0, 1) := by decide +kernel
theorem dX10_tieOfTwo_1 : decode cX10_tieOfTwo 1 = .ok (.istore_n 3, 1) := by decide +kernel
theorem dX10_tieOfTwo_2 : decode cX10_tieOfTwo 2 = .ok (.iload_n 3, 1) := by decide +kernel
theorem dX10_tieOfTwo_3 : decode cX10_tieOfTwo 3 = .ok (.aload_n 0, 1) := by decide +kernel
theorem dX10_tieOfTwo_4 : decode cX10_tieOfTwo 4 = .ok (.getfield 101, 3) := by decide +kernel
theorem dX10_tieOfTwo_7 : decode cX10_tieOfTwo 7 = .ok (.if_icmp .ge 31, 3) := by decide +kernel
theorem dX10_tieOfTwo_10 : decode cX10_tieOfTwo 10 = .ok (.iload_n 1, 1) := by decide +kernel
theorem dX10_tieOfTwo_11 : decode cX10_tieOfTwo 11 = .ok (.iload_n 2, 1) := by decide +kernel
theorem dX10_tieOfTwo_12 : decode cX10_tieOfTwo 12 = .ok (.if_icmp .eq 20, 3) := by decide +kernel
theorem dX10_tieOfTwo_15 : decode cX10_tieOfTwo 15 = .ok (.aload_n 0, 1) := by decide +kernel
theorem dX10_tieOfTwo_16 : decode cX10_tieOfTwo 16 = .ok (.iload_n 3, 1) := by decide +kernel
theorem dX10_tieOfTwo_17 : decode cX10_tieOfTwo 17 = .ok (.invokevirtual 112, 3) := by decide +kernel
theorem dX10_tieOfTwo_20 : decode cX10_tieOfTwo 20 = .ok (.iconst 1, 1) := by decide +kernel
theorem dX10_tieOfTwo_21 : decode cX10_tieOfTwo 21 = .ok (.iload_n 1, 1) := by decide +kernel
theorem dX10_tieOfTwo_22 : decode cX10_tieOfTwo 22 = .ok (.ishl, 1) := by decide +kernel
theorem dX10_tieOfTwo_23 : decode cX10_tieOfTwo 23 = .ok (.iconst 1, 1) := by decide +kernel
theorem dX10_tieOfTwo_24 : decode cX10_tieOfTwo 24 = .ok (.iload_n 2, 1) := by decide +kernel
theorem dX10_tieOfTwo_25 : decode cX10_tieOfTwo 25 = .ok (.ishl, 1) := by decide +kernel
theorem dX10_tieOfTwo_26 : decode cX10_tieOfTwo 26 = .ok (.ior, 1) := by decide +kernel
theorem dX10_tieOfTwo_27 : decode cX10_tieOfTwo 27 = .ok (.if_icmp .ne 5, 3) := by decide +kernel
theorem dX10_tieOfTwo_30 : decode cX10_tieOfTwo 30 = .ok (.iload_n 3, 1) := by decide +kernel
theorem dX10_tieOfTwo_31 : decode cX10_tieOfTwo 31 = .ok (.ireturn, 1) := by decide +kernel
theorem dX10_tieOfTwo_32 : decode cX10_tieOfTwo 32 = .ok (.iinc 3 1, 3) := by decide +kernel
theorem dX10_tieOfTwo_35 : decode cX10_tieOfTwo 35 = .ok (.goto (-33), 3) := by decide +kernel
theorem dX10_tieOfTwo_38 : decode cX10_tieOfTwo 38 = .ok (.iconst (-1), 1) := by decide +kernel
theorem dX10_tieOfTwo_39 : decode cX10_tieOfTwo 39 = .ok (.ireturn, 1) := by decide +kernel
set_option maxRecDepth 20000 in
theorem ggX10_areOpen_X10_isPerson : GoodIn wsX10_areOpen wsX10_isPerson := goodIn_r _ [5, 6, 7, 8, 4, 9, 41, 42, 43, 44, 45, 46, 47, 48, 49, 50, 51, 52, 53, 54, 55, 56, 57, 58, 59, 60, 61, 62, 63, 64, 65, 66, 67, 68, 69, 70, 71, 72, 73, 74, 75, 76, 77, 78, 79, 80, 81, 82, 83, 84, 85, 86, 87, 88, 89, 90, 91, 92, 93, 94] (by decide +kernel) (by decide +kernel)
set_option maxRecDepth 20000 in
theorem gX10_areOpen_X10_isPerson : GoodIn wsX10_areOpen (wsV RX10 104 RX10 yX10_isPerson wsX10_isPerson) := goodIn_app (goodIn_of _ (by decide +kernel)) ggX10_areOpen_X10_isPerson
set_option maxRecDepth 20000 in
theorem ggX10_areOpen_X10_in : GoodIn wsX10_areOpen wsX10_in := goodIn_r _ [9] (by decide +kernel) (by decide +kernel)
set_option maxRecDepth 20000 in
theorem gX10_areOpen_X10_in : GoodIn wsX10_areOpen (va_wsS RX10 97 yX10_in wsX10_in) := goodIn_app (goodIn_of _ (by decide +kernel)) ggX10_areOpen_X10_in
set_option maxRecDepth 20000 in
theorem ggX10_areOpen_X10_tieOfTwo : GoodIn wsX10_areOpen wsX10_tieOfTwo := goodIn_r _ [13, 14, 15, 16, 17, 4, 18, 19, 20, 21, 22, 23, 41, 42, 43, 44, 45, 46, 47, 48, 49, 50, 51, 52, 53, 54, 55, 56, 57, 58, 59, 60, 61, 62, 63, 64, 65, 66, 67, 68, 69, 70, 71, 72, 73, 74, 75, 76, 77, 78, 79, 80, 81, 82, 83, 84, 85, 86, 87, 88, 89, 90, 91, 92, 93, 94] (by decide +kernel) (by decide +kernel)
set_option maxRecDepth 20000 in
theorem gX10_areOpen_X10_tieOfTwo : GoodIn wsX10_areOpen (wsV RX10 353 RX10 yX10_tieOfTwo wsX10_tieOfTwo) := goodIn_app (goodIn_of _ (by decide +kernel)) ggX10_areOpen_X10_tieOfTwo
set_option maxRecDepth 20000 in
theorem ggX10_areOpen_X10_isOpen : GoodIn wsX10_areOpen wsX10_isOpen := goodIn_r _ [27, 28, 29, 30, 31, 4, 32, 33, 34, 35, 36, 37, 15, 16, 17, 18, 19, 20, 21, 22, 23, 38, 39, 40, 41, 42, 43, 44, 45, 46, 47, 48, 49, 50, 51, 52, 53, 54, 55, 56, 57, 58, 59, 60, 61, 62, 63, 64, 65, 66, 67, 68, 69, 70, 71, 72, 73, 74, 75, 76, 77, 78, 79, 80, 81, 82, 83, 84, 85, 86, 87, 88, 89, 90, 91, 92, 93, 94] (by decide +kernel) (by decide +kernel)
set_option maxRecDepth 20000 in
theorem gX10_areOpen_X10_isOpen : GoodIn wsX10_areOpen (wsV RX10 260 RX10 yX10_isOpen wsX10_isOpen) := goodIn_app (goodIn_of _ (by decide +kernel)) ggX10_areOpen_X10_isOpen
theorem dX10_areOpen_0 : decode cX10_areOpen 0 = .ok (.aload_n 0, 1) := by decide +kernel
theorem dX10_areOpen_1 : decode cX10_areOpen 1 = .ok (.iload_n 1, 1) := by decide +kernel
theorem dX10_areOpen_2 : decode cX10_areOpen 2 = .ok (.invokevirtual 104, 3) := by decide +kernel
theorem dX10_areOpen_5 : decode cX10_areOpen 5 = .ok (.ifCond .eq 30, 3) := by decide +kernel
theorem dX10_areOpen_8 : decode cX10_areOpen 8 = .ok (.aload_n 0, 1) := by decide +kernel
theorem dX10_areOpen_9 : decode cX10_areOpen 9 = .ok (.iload_n 2, 1) := by decide +kernel
theorem dX10_areOpen_10 : decode cX10_areOpen 10 = .ok (.invokevirtual 104, 3) := by decide +kernel
theorem dX10_areOpen_13 : decode cX10_areOpen 13 = .ok (.ifCond .eq 22, 3) := by decide +kernel
theorem dX10_areOpen_16 : decode cX10_areOpen 16 = .ok (.iload_n 3, 1) := by decide +kernel
theorem dX10_areOpen_17 : decode cX10_areOpen 17 = .ok (.iconst 0, 1) := by decide +kernel
theorem dX10_areOpen_18 : decode cX10_areOpen 18 = .ok (.bipush 99, 2) := by decide +kernel
theorem dX10_areOpen_20 : decode cX10_areOpen 20 = .ok (.invokestatic 97, 3) := by decide +kernel
theorem dX10_areOpen_23 : decode cX10_areOpen 23 = .ok (.ifCond .eq 12, 3) := by decide +kernel
theorem dX10_areOpen_26 : decode cX10_areOpen 26 = .ok (.aload_n 0, 1) := by decide +kernel
theorem dX10_areOpen_27 : decode cX10_areOpen 27 = .ok (.iload_n 1, 1) := by decide +kernel
theorem dX10_areOpen_28 : decode cX10_areOpen 28 = .ok (.iload_n 2, 1) := by decide +kernel
theorem dX10_areOpen_29 : decode cX10_areOpen 29 = .ok (.invokevirtual 353, 3) := by decide +kernel
theorem dX10_areOpen_32 : decode cX10_areOpen 32 = .ok (.goto 4, 3) := by decide +kernel
theorem dX10_areOpen_35 : decode cX10_areOpen 35 = .ok (.iconst (-1), 1) := by decide +kernel
theorem dX10_areOpen_36 : decode cX10_areOpen 36 = .ok (.istore 4, 2) := by decide +kernel
theorem dX10_areOpen_38 : decode cX10_areOpen 38 = .ok (.iload 4, 2) := by decide +kernel
theorem dX10_areOpen_40 : decode cX10_areOpen 40 = .ok (.ifCond .lt 17, 3) := by decide +kernel
theorem dX10_areOpen_43 : decode cX10_areOpen 43 = .ok (.aload_n 0, 1) := by decide +kernel
theorem dX10_areOpen_44 : decode cX10_areOpen 44 = .ok (.iload 4, 2) := by decide +kernel
theorem dX10_areOpen_46 : decode cX10_areOpen 46 = .ok (.iload_n 3, 1) := by decide +kernel
theorem dX10_areOpen_47 : decode cX10_areOpen 47 = .ok (.invokevirtual 260, 3) := by decide +kernel
theorem dX10_areOpen_50 : decode cX10_areOpen 50 = .ok (.ifCond .eq 7, 3) := by decide +kernel
theorem dX10_areOpen_53 : decode cX10_areOpen 53 = .ok (.iconst 1, 1) := by decide +kernel
theorem dX10_areOpen_54 : decode cX10_areOpen 54 = .ok (.goto 4, 3) := by decide +kernel
theorem dX10_areOpen_57 : decode cX10_areOpen 57 = .ok (.iconst 0, 1) := by decide +kernel
theorem dX10_areOpen_58 : decode cX10_areOpen 58 = .ok (.ireturn, 1) := by decide +kernel
set_option maxRecDepth 20000 in
theorem ggX10_prove_X10_isPerson : GoodIn wsX10_prove wsX10_isPerson := goodIn_r _ [8, 9, 10, 11, 7, 12, 68, 69, 70, 71, 72, 73, 74, 75, 76, 77, 78, 79, 80, 81, 82, 83, 84, 85, 86, 87, 88, 89, 90, 91, 92, 93, 94, 95, 96, 97, 98, 99, 100, 101, 102, 103, 104, 105, 106, 107, 108, 109, 110, 111, 112, 113, 114, 115, 116, 117, 118, 119, 120, 121] (by decide +kernel) (by decide +kernel)
set_option maxRecDepth 20000 in
theorem gX10_prove_X10_isPerson : GoodIn wsX10_prove (wsV RX10 104 RX10 yX10_isPerson wsX10_isPerson) := goodIn_app (goodIn_of _ (by decide +kernel)) ggX10_prove_X10_isPerson
set_option maxRecDepth 20000 in
theorem ggX10_prove_X10_findDays : GoodIn wsX10_prove wsX10_findDays := goodIn_r _ [16, 1, 17, 18, 19, 7, 20, 9, 21, 22, 23, 24, 25, 26, 27, 28, 29, 30, 31, 32, 33, 34, 35, 36, 37, 38, 39, 40, 41, 42, 43, 44, 45, 46, 47, 48, 49, 50, 51, 52, 53, 54, 55, 68, 69, 70, 71, 72, 73, 74, 75, 76, 77, 78, 79, 80, 81, 82, 83, 84, 85, 86, 87, 88, 89, 90, 91, 92, 93, 94, 95, 96, 97, 98, 99, 100, 101, 102, 103, 104, 105, 106, 107, 108, 109, 110, 111, 112, 113, 114, 115, 116, 117, 118, 119, 120, 121] (by decide +kernel) (by decide +kernel)
set_option maxRecDepth 20000 in
theorem gX10_prove_X10_findDays : GoodIn wsX10_prove (wsV RX10 343 RX10 yX10_findDays wsX10_findDays) := goodIn_app (goodIn_of _ (by decide +kernel)) ggX10_prove_X10_findDays
set_option maxRecDepth 20000 in
theorem ggX10_prove_X10_earlyOf : GoodIn wsX10_prove wsX10_earlyOf := goodIn_r _ [59, 1, 68, 69, 70, 71, 72, 73, 74, 75, 76, 77, 78, 79, 80, 81, 82, 83, 84, 85, 86, 87, 88, 89, 90, 91, 92, 93, 94, 95, 96, 97, 98, 99, 100, 101, 102, 103, 104, 105, 106, 107, 108, 109, 110, 111, 112, 113, 114, 115, 116, 117, 118, 119, 120, 121] (by decide +kernel) (by decide +kernel)
set_option maxRecDepth 20000 in
theorem gX10_prove_X10_earlyOf : GoodIn wsX10_prove (wsV RX10 346 RX10 yX10_earlyOf wsX10_earlyOf) := goodIn_app (goodIn_of _ (by decide +kernel)) ggX10_prove_X10_earlyOf
set_option maxRecDepth 20000 in
theorem ggX10_prove_X10_areOpen : GoodIn wsX10_prove wsX10_areOpen := goodIn_r _ [63, 4, 5, 6, 7, 8, 9, 10, 11, 12, 64, 65, 66, 67, 25, 40, 41, 42, 43, 44, 45, 46, 47, 48, 26, 27, 28, 29, 30, 31, 32, 33, 34, 35, 36, 37, 38, 39, 49, 50, 51, 68, 69, 70, 71, 72, 73, 74, 75, 76, 77, 78, 79, 80, 81, 82, 83, 84, 85, 86, 87, 88, 89, 90, 91, 92, 93, 94, 95, 96, 97, 98, 99, 100, 101, 102, 103, 104, 105, 106, 107, 108, 109, 110, 111, 112, 113, 114, 115, 116, 117, 118, 119, 120, 121] (by decide +kernel) (by decide +kernel)
set_option maxRecDepth 20000 in
theorem gX10_prove_X10_areOpen : GoodIn wsX10_prove (wsV RX10 356 RX10 yX10_areOpen wsX10_areOpen) := goodIn_app (goodIn_of _ (by decide +kernel)) ggX10_prove_X10_areOpen
theorem dX10_prove_0 : decode cX10_prove 0 = .ok (.aload_n 0, 1) := by decide +kernel
theorem dX10_prove_1 : decode cX10_prove 1 = .ok (.iload_n 1, 1) := by decide +kernel
theorem dX10_prove_2 : decode cX10_prove 2 = .ok (.invokevirtual 104, 3) := by decide +kernel
theorem dX10_prove_5 : decode cX10_prove 5 = .ok (.ifCond .eq 11, 3) := by decide +kernel
theorem dX10_prove_8 : decode cX10_prove 8 = .ok (.aload_n 0, 1) := by decide +kernel
theorem dX10_prove_9 : decode cX10_prove 9 = .ok (.iload_n 2, 1) := by decide +kernel
theorem dX10_prove_10 : decode cX10_prove 10 = .ok (.invokevirtual 104, 3) := by decide +kernel
theorem dX10_prove_13 : decode cX10_prove 13 = .ok (.ifCond .ne 5, 3) := by decide +kernel
theorem dX10_prove_16 : decode cX10_prove 16 = .ok (.iconst (-1), 1) := by decide +kernel
theorem dX10_prove_17 : decode cX10_prove 17 = .ok (.ireturn, 1) := by decide +kernel
theorem dX10_prove_18 : decode cX10_prove 18 = .ok (.aload_n 0, 1) := by decide +kernel
theorem dX10_prove_19 : decode cX10_prove 19 = .ok (.iconst 1, 1) := by decide +kernel
theorem dX10_prove_20 : decode cX10_prove 20 = .ok (.iload_n 1, 1) := by decide +kernel
theorem dX10_prove_21 : decode cX10_prove 21 = .ok (.ishl, 1) := by decide +kernel
theorem dX10_prove_22 : decode cX10_prove 22 = .ok (.invokevirtual 343, 3) := by decide +kernel
theorem dX10_prove_25 : decode cX10_prove 25 = .ok (.aload_n 0, 1) := by decide +kernel
theorem dX10_prove_26 : decode cX10_prove 26 = .ok (.iload_n 2, 1) := by decide +kernel
theorem dX10_prove_27 : decode cX10_prove 27 = .ok (.invokevirtual 346, 3) := by decide +kernel
theorem dX10_prove_30 : decode cX10_prove 30 = .ok (.ifCond .ge 6, 3) := by decide +kernel
theorem dX10_prove_33 : decode cX10_prove 33 = .ok (.bipush (-3), 2) := by decide +kernel
theorem dX10_prove_35 : decode cX10_prove 35 = .ok (.ireturn, 1) := by decide +kernel
theorem dX10_prove_36 : decode cX10_prove 36 = .ok (.iconst 0, 1) := by decide +kernel
theorem dX10_prove_37 : decode cX10_prove 37 = .ok (.istore_n 3, 1) := by decide +kernel
theorem dX10_prove_38 : decode cX10_prove 38 = .ok (.iload_n 2, 1) := by decide +kernel
theorem dX10_prove_39 : decode cX10_prove 39 = .ok (.istore 4, 2) := by decide +kernel
theorem dX10_prove_41 : decode cX10_prove 41 = .ok (.iload 4, 2) := by decide +kernel
theorem dX10_prove_43 : decode cX10_prove 43 = .ok (.iload_n 1, 1) := by decide +kernel
theorem dX10_prove_44 : decode cX10_prove 44 = .ok (.if_icmp .eq 118, 3) := by decide +kernel
theorem dX10_prove_47 : decode cX10_prove 47 = .ok (.aload_n 0, 1) := by decide +kernel
theorem dX10_prove_48 : decode cX10_prove 48 = .ok (.iload 4, 2) := by decide +kernel
theorem dX10_prove_50 : decode cX10_prove 50 = .ok (.invokevirtual 346, 3) := by decide +kernel
theorem dX10_prove_53 : decode cX10_prove 53 = .ok (.iconst 1, 1) := by decide +kernel
theorem dX10_prove_54 : decode cX10_prove 54 = .ok (.isub, 1) := by decide +kernel
theorem dX10_prove_55 : decode cX10_prove 55 = .ok (.istore 5, 2) := by decide +kernel
theorem dX10_prove_57 : decode cX10_prove 57 = .ok (.iconst 0, 1) := by decide +kernel
theorem dX10_prove_58 : decode cX10_prove 58 = .ok (.istore 6, 2) := by decide +kernel
theorem dX10_prove_60 : decode cX10_prove 60 = .ok (.aload_n 0, 1) := by decide +kernel
theorem dX10_prove_61 : decode cX10_prove 61 = .ok (.getfield 54, 3) := by decide +kernel
theorem dX10_prove_64 : decode cX10_prove 64 = .ok (.iload 5, 2) := by decide +kernel
theorem dX10_prove_66 : decode cX10_prove 66 = .ok (.iaload, 1) := by decide +kernel
theorem dX10_prove_67 : decode cX10_prove 67 = .ok (.iload 6, 2) := by decide +kernel
theorem dX10_prove_69 : decode cX10_prove 69 = .ok (.ishr, 1) := by decide +kernel
theorem dX10_prove_70 : decode cX10_prove 70 = .ok (.iconst 1, 1) := by decide +kernel
theorem dX10_prove_71 : decode cX10_prove 71 = .ok (.iand, 1) := by decide +kernel
theorem dX10_prove_72 : decode cX10_prove 72 = .ok (.ifCond .eq 16, 3) := by decide +kernel
theorem dX10_prove_75 : decode cX10_prove 75 = .ok (.aload_n 0, 1) := by decide +kernel
theorem dX10_prove_76 : decode cX10_prove 76 = .ok (.iload 6, 2) := by decide +kernel
theorem dX10_prove_78 : decode cX10_prove 78 = .ok (.iload 4, 2) := by decide +kernel
theorem dX10_prove_80 : decode cX10_prove 80 = .ok (.iload 5, 2) := by decide +kernel
theorem dX10_prove_82 : decode cX10_prove 82 = .ok (.invokevirtual 356, 3) := by decide +kernel
theorem dX10_prove_85 : decode cX10_prove 85 = .ok (.ifCond .ne 9, 3) := by decide +kernel
theorem dX10_prove_88 : decode cX10_prove 88 = .ok (.iinc 6 1, 3) := by decide +kernel
theorem dX10_prove_91 : decode cX10_prove 91 = .ok (.goto (-31), 3) := by decide +kernel
theorem dX10_prove_94 : decode cX10_prove 94 = .ok (.iconst 3, 1) := by decide +kernel
theorem dX10_prove_95 : decode cX10_prove 95 = .ok (.iload_n 3, 1) := by decide +kernel
theorem dX10_prove_96 : decode cX10_prove 96 = .ok (.imul, 1) := by decide +kernel
theorem dX10_prove_97 : decode cX10_prove 97 = .ok (.iconst 1, 1) := by decide +kernel
theorem dX10_prove_98 : decode cX10_prove 98 = .ok (.isub, 1) := by decide +kernel
theorem dX10_prove_99 : decode cX10_prove 99 = .ok (.istore 7, 2) := by decide +kernel
theorem dX10_prove_101 : decode cX10_prove 101 = .ok (.iload 7, 2) := by decide +kernel
theorem dX10_prove_103 : decode cX10_prove 103 = .ok (.ifCond .lt 25, 3) := by decide +kernel
theorem dX10_prove_106 : decode cX10_prove 106 = .ok (.aload_n 0, 1) := by decide +kernel
theorem dX10_prove_107 : decode cX10_prove 107 = .ok (.getfield 64, 3) := by decide +kernel
theorem dX10_prove_110 : decode cX10_prove 110 = .ok (.iload 7, 2) := by decide +kernel
theorem dX10_prove_112 : decode cX10_prove 112 = .ok (.iconst 3, 1) := by decide +kernel
theorem dX10_prove_113 : decode cX10_prove 113 = .ok (.iadd, 1) := by decide +kernel
theorem dX10_prove_114 : decode cX10_prove 114 = .ok (.aload_n 0, 1) := by decide +kernel
theorem dX10_prove_115 : decode cX10_prove 115 = .ok (.getfield 64, 3) := by decide +kernel
theorem dX10_prove_118 : decode cX10_prove 118 = .ok (.iload 7, 2) := by decide +kernel
theorem dX10_prove_120 : decode cX10_prove 120 = .ok (.iaload, 1) := by decide +kernel
theorem dX10_prove_121 : decode cX10_prove 121 = .ok (.iastore, 1) := by decide +kernel
theorem dX10_prove_122 : decode cX10_prove 122 = .ok (.iinc 7 (-1), 3) := by decide +kernel
theorem dX10_prove_125 : decode cX10_prove 125 = .ok (.goto (-24), 3) := by decide +kernel
theorem dX10_prove_128 : decode cX10_prove 128 = .ok (.aload_n 0, 1) := by decide +kernel
theorem dX10_prove_129 : decode cX10_prove 129 = .ok (.getfield 64, 3) := by decide +kernel
theorem dX10_prove_132 : decode cX10_prove 132 = .ok (.iconst 0, 1) := by decide +kernel
theorem dX10_prove_133 : decode cX10_prove 133 = .ok (.iload 5, 2) := by decide +kernel
theorem dX10_prove_135 : decode cX10_prove 135 = .ok (.iastore, 1) := by decide +kernel
theorem dX10_prove_136 : decode cX10_prove 136 = .ok (.aload_n 0, 1) := by decide +kernel
theorem dX10_prove_137 : decode cX10_prove 137 = .ok (.getfield 64, 3) := by decide +kernel
theorem dX10_prove_140 : decode cX10_prove 140 = .ok (.iconst 1, 1) := by decide +kernel
theorem dX10_prove_141 : decode cX10_prove 141 = .ok (.iload 6, 2) := by decide +kernel
theorem dX10_prove_143 : decode cX10_prove 143 = .ok (.iastore, 1) := by decide +kernel
theorem dX10_prove_144 : decode cX10_prove 144 = .ok (.aload_n 0, 1) := by decide +kernel
theorem dX10_prove_145 : decode cX10_prove 145 = .ok (.getfield 64, 3) := by decide +kernel
theorem dX10_prove_148 : decode cX10_prove 148 = .ok (.iconst 2, 1) := by decide +kernel
theorem dX10_prove_149 : decode cX10_prove 149 = .ok (.iload 4, 2) := by decide +kernel
theorem dX10_prove_151 : decode cX10_prove 151 = .ok (.iastore, 1) := by decide +kernel
theorem dX10_prove_152 : decode cX10_prove 152 = .ok (.iinc 3 1, 3) := by decide +kernel
theorem dX10_prove_155 : decode cX10_prove 155 = .ok (.iload 6, 2) := by decide +kernel
theorem dX10_prove_157 : decode cX10_prove 157 = .ok (.istore 4, 2) := by decide +kernel
theorem dX10_prove_159 : decode cX10_prove 159 = .ok (.goto (-118), 3) := by decide +kernel
theorem dX10_prove_162 : decode cX10_prove 162 = .ok (.aload_n 0, 1) := by decide +kernel
theorem dX10_prove_163 : decode cX10_prove 163 = .ok (.iload_n 3, 1) := by decide +kernel
theorem dX10_prove_164 : decode cX10_prove 164 = .ok (.putfield 228, 3) := by decide +kernel
theorem dX10_prove_167 : decode cX10_prove 167 = .ok (.aload_n 0, 1) := by decide +kernel
theorem dX10_prove_168 : decode cX10_prove 168 = .ok (.getfield 228, 3) := by decide +kernel
theorem dX10_prove_171 : decode cX10_prove 171 = .ok (.ireturn, 1) := by decide +kernel
set_option maxRecDepth 20000 in
theorem ggX10_isRow_X10_in : GoodIn wsX10_isRow wsX10_in := goodIn_r _ [5] (by decide +kernel) (by decide +kernel)
set_option maxRecDepth 20000 in
theorem gX10_isRow_X10_in : GoodIn wsX10_isRow (va_wsS RX10 97 yX10_in wsX10_in) := goodIn_app (goodIn_of _ (by decide +kernel)) ggX10_isRow_X10_in
theorem dX10_isRow_0 : decode cX10_isRow 0 = .ok (.iload_n 1, 1) := by decide +kernel
theorem dX10_isRow_1 : decode cX10_isRow 1 = .ok (.iconst 0, 1) := by decide +kernel
theorem dX10_isRow_2 : decode cX10_isRow 2 = .ok (.aload_n 0, 1) := by decide +kernel
theorem dX10_isRow_3 : decode cX10_isRow 3 = .ok (.getfield 228, 3) := by decide +kernel
theorem dX10_isRow_6 : decode cX10_isRow 6 = .ok (.iconst 1, 1) := by decide +kernel
theorem dX10_isRow_7 : decode cX10_isRow 7 = .ok (.isub, 1) := by decide +kernel
theorem dX10_isRow_8 : decode cX10_isRow 8 = .ok (.invokestatic 97, 3) := by decide +kernel
theorem dX10_isRow_11 : decode cX10_isRow 11 = .ok (.ifCond .eq 16, 3) := by decide +kernel
theorem dX10_isRow_14 : decode cX10_isRow 14 = .ok (.iload_n 2, 1) := by decide +kernel
theorem dX10_isRow_15 : decode cX10_isRow 15 = .ok (.iconst 0, 1) := by decide +kernel
theorem dX10_isRow_16 : decode cX10_isRow 16 = .ok (.iconst 2, 1) := by decide +kernel
theorem dX10_isRow_17 : decode cX10_isRow 17 = .ok (.invokestatic 97, 3) := by decide +kernel
theorem dX10_isRow_20 : decode cX10_isRow 20 = .ok (.ifCond .eq 7, 3) := by decide +kernel
theorem dX10_isRow_23 : decode cX10_isRow 23 = .ok (.iconst 1, 1) := by decide +kernel
theorem dX10_isRow_24 : decode cX10_isRow 24 = .ok (.goto 4, 3) := by decide +kernel
theorem dX10_isRow_27 : decode cX10_isRow 27 = .ok (.iconst 0, 1) := by decide +kernel
theorem dX10_isRow_28 : decode cX10_isRow 28 = .ok (.ireturn, 1) := by decide +kernel
set_option maxRecDepth 20000 in
theorem ggX10_row_X10_isRow : GoodIn wsX10_row wsX10_isRow := goodIn_r _ [6, 7, 8, 9, 5, 10, 11, 12, 13, 14, 15, 16, 17, 18, 19, 20, 21, 22, 23, 24, 25, 26, 27, 28, 29, 30, 31, 32, 33, 34, 35, 36, 37, 38, 39, 40, 41, 42, 43, 44, 45, 46, 47, 48, 49, 50, 51, 52, 53, 54, 55, 56, 57, 58, 59, 60, 61, 62, 63, 64] (by decide +kernel) (by decide +kernel)
set_option maxRecDepth 20000 in
theorem gX10_row_X10_isRow : GoodIn wsX10_row (wsV RX10 359 RX10 yX10_isRow wsX10_isRow) := goodIn_app (goodIn_of _ (by decide +kernel)) ggX10_row_X10_isRow
theorem dX10_row_0 : decode cX10_row 0 = .ok (.aload_n 0, 1) := by decide +kernel
theorem dX10_row_1 : decode cX10_row 1 = .ok (.iload_n 1, 1) := by decide +kernel
theorem dX10_row_2 : decode cX10_row 2 = .ok (.iload_n 2, 1) := by decide +kernel
theorem dX10_row_3 : decode cX10_row 3 = .ok (.invokevirtual 359, 3) := by decide +kernel
theorem dX10_row_6 : decode cX10_row 6 = .ok (.ifCond .eq 16, 3) := by decide +kernel
theorem dX10_row_9 : decode cX10_row 9 = .ok (.aload_n 0, 1) := by decide +kernel
theorem dX10_row_10 : decode cX10_row 10 = .ok (.getfield 64, 3) := by decide +kernel
theorem dX10_row_13 : decode cX10_row 13 = .ok (.iconst 3, 1) := by decide +kernel
theorem dX10_row_14 : decode cX10_row 14 = .ok (.iload_n 1, 1) := by decide +kernel
theorem dX10_row_15 : decode cX10_row 15 = .ok (.imul, 1) := by decide +kernel
theorem dX10_row_16 : decode cX10_row 16 = .ok (.iload_n 2, 1) := by decide +kernel
theorem dX10_row_17 : decode cX10_row 17 = .ok (.iadd, 1) := by decide +kernel
theorem dX10_row_18 : decode cX10_row 18 = .ok (.iaload, 1) := by decide +kernel
theorem dX10_row_19 : decode cX10_row 19 = .ok (.goto 5, 3) := by decide +kernel
theorem dX10_row_22 : decode cX10_row 22 = .ok (.bipush (-9), 2) := by decide +kernel
theorem dX10_row_24 : decode cX10_row 24 = .ok (.ireturn, 1) := by decide +kernel
set_option maxRecDepth 20000 in
theorem ggX10_alterRow_X10_isRow : GoodIn wsX10_alterRow wsX10_isRow := goodIn_r _ [6, 7, 8, 9, 5, 10, 11, 12, 13, 14, 15, 16, 17, 18, 19, 20, 21, 22, 23, 24, 25, 26, 27, 28, 29, 30, 31, 32, 33, 34, 35, 36, 37, 38, 39, 40, 41, 42, 43, 44, 45, 46, 47, 48, 49, 50, 51, 52, 53, 54, 55, 56, 57, 58, 59, 60, 61, 62, 63, 64] (by decide +kernel) (by decide +kernel)
set_option maxRecDepth 20000 in
theorem gX10_alterRow_X10_isRow : GoodIn wsX10_alterRow (wsV RX10 359 RX10 yX10_isRow wsX10_isRow) := goodIn_app (goodIn_of _ (by decide +kernel)) ggX10_alterRow_X10_isRow
theorem dX10_alterRow_0 : decode cX10_alterRow 0 = .ok (.aload_n 0, 1) := by decide +kernel
theorem dX10_alterRow_1 : decode cX10_alterRow 1 = .ok (.iload_n 1, 1) := by decide +kernel
theorem dX10_alterRow_2 : decode cX10_alterRow 2 = .ok (.iload_n 2, 1) := by decide +kernel
theorem dX10_alterRow_3 : decode cX10_alterRow 3 = .ok (.invokevirtual 359, 3) := by decide +kernel
theorem dX10_alterRow_6 : decode cX10_alterRow 6 = .ok (.ifCond .ne 6, 3) := by decide +kernel
theorem dX10_alterRow_9 : decode cX10_alterRow 9 = .ok (.bipush (-9), 2) := by decide +kernel
theorem dX10_alterRow_11 : decode cX10_alterRow 11 = .ok (.ireturn, 1) := by decide +kernel
theorem dX10_alterRow_12 : decode cX10_alterRow 12 = .ok (.aload_n 0, 1) := by decide +kernel
theorem dX10_alterRow_13 : decode cX10_alterRow 13 = .ok (.getfield 64, 3) := by decide +kernel
theorem dX10_alterRow_16 : decode cX10_alterRow 16 = .ok (.iconst 3, 1) := by decide +kernel
theorem dX10_alterRow_17 : decode cX10_alterRow 17 = .ok (.iload_n 1, 1) := by decide +kernel
theorem dX10_alterRow_18 : decode cX10_alterRow 18 = .ok (.imul, 1) := by decide +kernel
theorem dX10_alterRow_19 : decode cX10_alterRow 19 = .ok (.iload_n 2, 1) := by decide +kernel
theorem dX10_alterRow_20 : decode cX10_alterRow 20 = .ok (.iadd, 1) := by decide +kernel
theorem dX10_alterRow_21 : decode cX10_alterRow 21 = .ok (.iaload, 1) := by decide +kernel
theorem dX10_alterRow_22 : decode cX10_alterRow 22 = .ok (.istore 4, 2) := by decide +kernel
theorem dX10_alterRow_24 : decode cX10_alterRow 24 = .ok (.aload_n 0, 1) := by decide +kernel
theorem dX10_alterRow_25 : decode cX10_alterRow 25 = .ok (.getfield 64, 3) := by decide +kernel
theorem dX10_alterRow_28 : decode cX10_alterRow 28 = .ok (.iconst 3, 1) := by decide +kernel
theorem dX10_alterRow_29 : decode cX10_alterRow 29 = .ok (.iload_n 1, 1) := by decide +kernel
theorem dX10_alterRow_30 : decode cX10_alterRow 30 = .ok (.imul, 1) := by decide +kernel
theorem dX10_alterRow_31 : decode cX10_alterRow 31 = .ok (.iload_n 2, 1) := by decide +kernel
theorem dX10_alterRow_32 : decode cX10_alterRow 32 = .ok (.iadd, 1) := by decide +kernel
theorem dX10_alterRow_33 : decode cX10_alterRow 33 = .ok (.iload_n 3, 1) := by decide +kernel
theorem dX10_alterRow_34 : decode cX10_alterRow 34 = .ok (.iastore, 1) := by decide +kernel
theorem dX10_alterRow_35 : decode cX10_alterRow 35 = .ok (.iload 4, 2) := by decide +kernel
theorem dX10_alterRow_37 : decode cX10_alterRow 37 = .ok (.ireturn, 1) := by decide +kernel
set_option maxRecDepth 20000 in
theorem ggX10_judge_X10_isPerson : GoodIn wsX10_judge wsX10_isPerson := goodIn_r _ [7, 8, 9, 10, 6, 11, 47, 48, 49, 50, 51, 52, 53, 54, 55, 56, 57, 58, 59, 60, 61, 62, 63, 64, 65, 66, 67, 68, 69, 70, 71, 72, 73, 74, 75, 76, 77, 78, 79, 80, 81, 82, 83, 84, 85, 86, 87, 88, 89, 90, 91, 92, 93, 94, 95, 96, 97, 98, 99, 100] (by decide +kernel) (by decide +kernel)
set_option maxRecDepth 20000 in
theorem gX10_judge_X10_isPerson : GoodIn wsX10_judge (wsV RX10 104 RX10 yX10_isPerson wsX10_isPerson) := goodIn_app (goodIn_of _ (by decide +kernel)) ggX10_judge_X10_isPerson
set_option maxRecDepth 20000 in
theorem ggX10_judge_X10_areOpen : GoodIn wsX10_judge wsX10_areOpen := goodIn_r _ [15, 3, 4, 5, 6, 7, 8, 9, 10, 11, 16, 17, 18, 19, 20, 21, 22, 23, 24, 25, 26, 27, 28, 29, 30, 31, 32, 33, 34, 35, 36, 37, 38, 39, 40, 41, 42, 43, 44, 45, 46, 47, 48, 49, 50, 51, 52, 53, 54, 55, 56, 57, 58, 59, 60, 61, 62, 63, 64, 65, 66, 67, 68, 69, 70, 71, 72, 73, 74, 75, 76, 77, 78, 79, 80, 81, 82, 83, 84, 85, 86, 87, 88, 89, 90, 91, 92, 93, 94, 95, 96, 97, 98, 99, 100] (by decide +kernel) (by decide +kernel)
set_option maxRecDepth 20000 in
theorem gX10_judge_X10_areOpen : GoodIn wsX10_judge (wsV RX10 356 RX10 yX10_areOpen wsX10_areOpen) := goodIn_app (goodIn_of _ (by decide +kernel)) ggX10_judge_X10_areOpen
theorem dX10_judge_0 : decode cX10_judge 0 = .ok (.aload_n 0, 1) := by decide +kernel
theorem dX10_judge_1 : decode cX10_judge 1 = .ok (.iload_n 1, 1) := by decide +kernel
theorem dX10_judge_2 : decode cX10_judge 2 = .ok (.invokevirtual 104, 3) := by decide +kernel
theorem dX10_judge_5 : decode cX10_judge 5 = .ok (.ifCond .eq 11, 3) := by decide +kernel
theorem dX10_judge_8 : decode cX10_judge 8 = .ok (.aload_n 0, 1) := by decide +kernel
theorem dX10_judge_9 : decode cX10_judge 9 = .ok (.iload_n 2, 1) := by decide +kernel
theorem dX10_judge_10 : decode cX10_judge 10 = .ok (.invokevirtual 104, 3) := by decide +kernel
theorem dX10_judge_13 : decode cX10_judge 13 = .ok (.ifCond .ne 5, 3) := by decide +kernel
theorem dX10_judge_16 : decode cX10_judge 16 = .ok (.iconst (-1), 1) := by decide +kernel
theorem dX10_judge_17 : decode cX10_judge 17 = .ok (.ireturn, 1) := by decide +kernel
theorem dX10_judge_18 : decode cX10_judge 18 = .ok (.iload_n 1, 1) := by decide +kernel
theorem dX10_judge_19 : decode cX10_judge 19 = .ok (.istore_n 3, 1) := by decide +kernel
theorem dX10_judge_20 : decode cX10_judge 20 = .ok (.iconst (-1), 1) := by decide +kernel
theorem dX10_judge_21 : decode cX10_judge 21 = .ok (.istore 4, 2) := by decide +kernel
theorem dX10_judge_23 : decode cX10_judge 23 = .ok (.iconst 0, 1) := by decide +kernel
theorem dX10_judge_24 : decode cX10_judge 24 = .ok (.istore 5, 2) := by decide +kernel
theorem dX10_judge_26 : decode cX10_judge 26 = .ok (.iload 5, 2) := by decide +kernel
theorem dX10_judge_28 : decode cX10_judge 28 = .ok (.aload_n 0, 1) := by decide +kernel
theorem dX10_judge_29 : decode cX10_judge 29 = .ok (.getfield 228, 3) := by decide +kernel
theorem dX10_judge_32 : decode cX10_judge 32 = .ok (.if_icmp .ge 84, 3) := by decide +kernel
theorem dX10_judge_35 : decode cX10_judge 35 = .ok (.aload_n 0, 1) := by decide +kernel
theorem dX10_judge_36 : decode cX10_judge 36 = .ok (.getfield 64, 3) := by decide +kernel
theorem dX10_judge_39 : decode cX10_judge 39 = .ok (.iconst 3, 1) := by decide +kernel
theorem dX10_judge_40 : decode cX10_judge 40 = .ok (.iload 5, 2) := by decide +kernel
theorem dX10_judge_42 : decode cX10_judge 42 = .ok (.imul, 1) := by decide +kernel
theorem dX10_judge_43 : decode cX10_judge 43 = .ok (.iaload, 1) := by decide +kernel
theorem dX10_judge_44 : decode cX10_judge 44 = .ok (.istore 6, 2) := by decide +kernel
theorem dX10_judge_46 : decode cX10_judge 46 = .ok (.iload 6, 2) := by decide +kernel
theorem dX10_judge_48 : decode cX10_judge 48 = .ok (.iload 4, 2) := by decide +kernel
theorem dX10_judge_50 : decode cX10_judge 50 = .ok (.if_icmp .le 39, 3) := by decide +kernel
theorem dX10_judge_53 : decode cX10_judge 53 = .ok (.aload_n 0, 1) := by decide +kernel
theorem dX10_judge_54 : decode cX10_judge 54 = .ok (.getfield 64, 3) := by decide +kernel
theorem dX10_judge_57 : decode cX10_judge 57 = .ok (.iconst 3, 1) := by decide +kernel
theorem dX10_judge_58 : decode cX10_judge 58 = .ok (.iload 5, 2) := by decide +kernel
theorem dX10_judge_60 : decode cX10_judge 60 = .ok (.imul, 1) := by decide +kernel
theorem dX10_judge_61 : decode cX10_judge 61 = .ok (.iconst 1, 1) := by decide +kernel
theorem dX10_judge_62 : decode cX10_judge 62 = .ok (.iadd, 1) := by decide +kernel
theorem dX10_judge_63 : decode cX10_judge 63 = .ok (.iaload, 1) := by decide +kernel
theorem dX10_judge_64 : decode cX10_judge 64 = .ok (.iload_n 3, 1) := by decide +kernel
theorem dX10_judge_65 : decode cX10_judge 65 = .ok (.if_icmp .ne 24, 3) := by decide +kernel
theorem dX10_judge_68 : decode cX10_judge 68 = .ok (.aload_n 0, 1) := by decide +kernel
theorem dX10_judge_69 : decode cX10_judge 69 = .ok (.iload_n 3, 1) := by decide +kernel
theorem dX10_judge_70 : decode cX10_judge 70 = .ok (.aload_n 0, 1) := by decide +kernel
theorem dX10_judge_71 : decode cX10_judge 71 = .ok (.getfield 64, 3) := by decide +kernel
theorem dX10_judge_74 : decode cX10_judge 74 = .ok (.iconst 3, 1) := by decide +kernel
theorem dX10_judge_75 : decode cX10_judge 75 = .ok (.iload 5, 2) := by decide +kernel
theorem dX10_judge_77 : decode cX10_judge 77 = .ok (.imul, 1) := by decide +kernel
theorem dX10_judge_78 : decode cX10_judge 78 = .ok (.iconst 2, 1) := by decide +kernel
theorem dX10_judge_79 : decode cX10_judge 79 = .ok (.iadd, 1) := by decide +kernel
theorem dX10_judge_80 : decode cX10_judge 80 = .ok (.iaload, 1) := by decide +kernel
theorem dX10_judge_81 : decode cX10_judge 81 = .ok (.iload 6, 2) := by decide +kernel
theorem dX10_judge_83 : decode cX10_judge 83 = .ok (.invokevirtual 356, 3) := by decide +kernel
theorem dX10_judge_86 : decode cX10_judge 86 = .ok (.ifCond .ne 8, 3) := by decide +kernel
theorem dX10_judge_89 : decode cX10_judge 89 = .ok (.iload 5, 2) := by decide +kernel
theorem dX10_judge_91 : decode cX10_judge 91 = .ok (.iconst 1, 1) := by decide +kernel
theorem dX10_judge_92 : decode cX10_judge 92 = .ok (.iadd, 1) := by decide +kernel
theorem dX10_judge_93 : decode cX10_judge 93 = .ok (.ireturn, 1) := by decide +kernel
theorem dX10_judge_94 : decode cX10_judge 94 = .ok (.iload 6, 2) := by decide +kernel
theorem dX10_judge_96 : decode cX10_judge 96 = .ok (.istore 4, 2) := by decide +kernel
theorem dX10_judge_98 : decode cX10_judge 98 = .ok (.aload_n 0, 1) := by decide +kernel
theorem dX10_judge_99 : decode cX10_judge 99 = .ok (.getfield 64, 3) := by decide +kernel
theorem dX10_judge_102 : decode cX10_judge 102 = .ok (.iconst 3, 1) := by decide +kernel
theorem dX10_judge_103 : decode cX10_judge 103 = .ok (.iload 5, 2) := by decide +kernel
theorem dX10_judge_105 : decode cX10_judge 105 = .ok (.imul, 1) := by decide +kernel
theorem dX10_judge_106 : decode cX10_judge 106 = .ok (.iconst 2, 1) := by decide +kernel
theorem dX10_judge_107 : decode cX10_judge 107 = .ok (.iadd, 1) := by decide +kernel
theorem dX10_judge_108 : decode cX10_judge 108 = .ok (.iaload, 1) := by decide +kernel
theorem dX10_judge_109 : decode cX10_judge 109 = .ok (.istore_n 3, 1) := by decide +kernel
theorem dX10_judge_110 : decode cX10_judge 110 = .ok (.iinc 5 1, 3) := by decide +kernel
theorem dX10_judge_113 : decode cX10_judge 113 = .ok (.goto (-87), 3) := by decide +kernel
theorem dX10_judge_116 : decode cX10_judge 116 = .ok (.iload_n 3, 1) := by decide +kernel
theorem dX10_judge_117 : decode cX10_judge 117 = .ok (.iload_n 2, 1) := by decide +kernel
theorem dX10_judge_118 : decode cX10_judge 118 = .ok (.if_icmp .ne 7, 3) := by decide +kernel
theorem dX10_judge_121 : decode cX10_judge 121 = .ok (.iconst 0, 1) := by decide +kernel
theorem dX10_judge_122 : decode cX10_judge 122 = .ok (.goto 6, 3) := by decide +kernel
theorem dX10_judge_125 : decode cX10_judge 125 = .ok (.sipush 222, 3) := by decide +kernel
theorem dX10_judge_128 : decode cX10_judge 128 = .ok (.ireturn, 1) := by decide +kernel
set_option maxRecDepth 20000 in
theorem ggX10_chair_X10_isSide : GoodIn wsX10_chair wsX10_isSide := goodIn_r _ [5, 6, 7, 4, 8] (by decide +kernel) (by decide +kernel)
set_option maxRecDepth 20000 in
theorem gX10_chair_X10_isSide : GoodIn wsX10_chair (va_wsS RX10 276 yX10_isSide wsX10_isSide) := goodIn_app (goodIn_of _ (by decide +kernel)) ggX10_chair_X10_isSide
set_option maxRecDepth 20000 in
theorem ggX10_chair_X10_openOn : GoodIn wsX10_chair wsX10_openOn := goodIn_r _ [12, 13, 14, 15, 16, 4, 17, 18, 19, 20, 21, 22, 23, 24, 25, 26, 27, 28, 29, 30, 31, 32, 33, 34, 35, 36, 37, 38, 39, 57, 58, 59, 60, 61, 62, 63, 64, 65, 66, 67, 68, 69, 70, 71, 72, 73, 74, 75, 76, 77, 78, 79, 80, 81, 82, 83, 84, 85, 86, 87, 88, 89, 90, 91, 92, 93, 94, 95, 96, 97, 98, 99, 100, 101, 102, 103, 104, 105, 106, 107, 108, 109, 110] (by decide +kernel) (by decide +kernel)
set_option maxRecDepth 20000 in
theorem gX10_chair_X10_openOn : GoodIn wsX10_chair (wsV RX10 266 RX10 yX10_openOn wsX10_openOn) := goodIn_app (goodIn_of _ (by decide +kernel)) ggX10_chair_X10_openOn
set_option maxRecDepth 20000 in
theorem ggX10_chair_X10_all : GoodIn wsX10_chair wsX10_all := goodIn_r _ [43, 1, 57, 58, 59, 60, 61, 62, 63, 64, 65, 66, 67, 68, 69, 70, 71, 72, 73, 74, 75, 76, 77, 78, 79, 80, 81, 82, 83, 84, 85, 86, 87, 88, 89, 90, 91, 92, 93, 94, 95, 96, 97, 98, 99, 100, 101, 102, 103, 104, 105, 106, 107, 108, 109, 110] (by decide +kernel) (by decide +kernel)
set_option maxRecDepth 20000 in
theorem gX10_chair_X10_all : GoodIn wsX10_chair (wsV RX10 244 RX10 yX10_all wsX10_all) := goodIn_app (goodIn_of _ (by decide +kernel)) ggX10_chair_X10_all
set_option maxRecDepth 20000 in
theorem ggX10_chair_X10_greatest : GoodIn wsX10_chair wsX10_greatest := goodIn_r _ [47, 48, 49, 50, 51, 4, 52, 53, 54, 55, 56, 13, 24, 25, 26, 27, 28, 29, 30, 31, 32, 33, 34, 35, 36, 37, 38, 39, 57, 58, 59, 60, 61, 62, 63, 64, 65, 66, 67, 68, 69, 70, 71, 72, 73, 74, 75, 76, 77, 78, 79, 80, 81, 82, 83, 84, 85, 86, 87, 88, 89, 90, 91, 92, 93, 94, 95, 96, 97, 98, 99, 100, 101, 102, 103, 104, 105, 106, 107, 108, 109, 110] (by decide +kernel) (by decide +kernel)
set_option maxRecDepth 20000 in
theorem gX10_chair_X10_greatest : GoodIn wsX10_chair (wsV RX10 279 RX10 yX10_greatest wsX10_greatest) := goodIn_app (goodIn_of _ (by decide +kernel)) ggX10_chair_X10_greatest
theorem dX10_chair_0 : decode cX10_chair 0 = .ok (.iload_n 1, 1) := by decide +kernel
theorem dX10_chair_1 : decode cX10_chair 1 = .ok (.invokestatic 276, 3) := by decide +kernel
theorem dX10_chair_4 : decode cX10_chair 4 = .ok (.ifCond .ne 5, 3) := by decide +kernel
theorem dX10_chair_7 : decode cX10_chair 7 = .ok (.iconst (-1), 1) := by decide +kernel
theorem dX10_chair_8 : decode cX10_chair 8 = .ok (.ireturn, 1) := by decide +kernel
theorem dX10_chair_9 : decode cX10_chair 9 = .ok (.aload_n 0, 1) := by decide +kernel
theorem dX10_chair_10 : decode cX10_chair 10 = .ok (.iconst 0, 1) := by decide +kernel
theorem dX10_chair_11 : decode cX10_chair 11 = .ok (.invokevirtual 266, 3) := by decide +kernel
theorem dX10_chair_14 : decode cX10_chair 14 = .ok (.istore_n 2, 1) := by decide +kernel
theorem dX10_chair_15 : decode cX10_chair 15 = .ok (.iconst (-1), 1) := by decide +kernel
theorem dX10_chair_16 : decode cX10_chair 16 = .ok (.istore_n 3, 1) := by decide +kernel
theorem dX10_chair_17 : decode cX10_chair 17 = .ok (.iconst 0, 1) := by decide +kernel
theorem dX10_chair_18 : decode cX10_chair 18 = .ok (.istore 4, 2) := by decide +kernel
theorem dX10_chair_20 : decode cX10_chair 20 = .ok (.iconst 0, 1) := by decide +kernel
theorem dX10_chair_21 : decode cX10_chair 21 = .ok (.istore 5, 2) := by decide +kernel
theorem dX10_chair_23 : decode cX10_chair 23 = .ok (.iload 5, 2) := by decide +kernel
theorem dX10_chair_25 : decode cX10_chair 25 = .ok (.aload_n 0, 1) := by decide +kernel
theorem dX10_chair_26 : decode cX10_chair 26 = .ok (.getfield 7, 3) := by decide +kernel
theorem dX10_chair_29 : decode cX10_chair 29 = .ok (.if_icmp .ge 45, 3) := by decide +kernel
theorem dX10_chair_32 : decode cX10_chair 32 = .ok (.aload_n 0, 1) := by decide +kernel
theorem dX10_chair_33 : decode cX10_chair 33 = .ok (.iload_n 2, 1) := by decide +kernel
theorem dX10_chair_34 : decode cX10_chair 34 = .ok (.aload_n 0, 1) := by decide +kernel
theorem dX10_chair_35 : decode cX10_chair 35 = .ok (.invokevirtual 244, 3) := by decide +kernel
theorem dX10_chair_38 : decode cX10_chair 38 = .ok (.iconst 1, 1) := by decide +kernel
theorem dX10_chair_39 : decode cX10_chair 39 = .ok (.iload 5, 2) := by decide +kernel
theorem dX10_chair_41 : decode cX10_chair 41 = .ok (.ishl, 1) := by decide +kernel
theorem dX10_chair_42 : decode cX10_chair 42 = .ok (.iconst (-1), 1) := by decide +kernel
theorem dX10_chair_43 : decode cX10_chair 43 = .ok (.ixor, 1) := by decide +kernel
theorem dX10_chair_44 : decode cX10_chair 44 = .ok (.iand, 1) := by decide +kernel
theorem dX10_chair_45 : decode cX10_chair 45 = .ok (.invokevirtual 279, 3) := by decide +kernel
theorem dX10_chair_48 : decode cX10_chair 48 = .ok (.istore 6, 2) := by decide +kernel
theorem dX10_chair_50 : decode cX10_chair 50 = .ok (.iload_n 3, 1) := by decide +kernel
theorem dX10_chair_51 : decode cX10_chair 51 = .ok (.ifCond .lt 10, 3) := by decide +kernel
theorem dX10_chair_54 : decode cX10_chair 54 = .ok (.iload 6, 2) := by decide +kernel
theorem dX10_chair_56 : decode cX10_chair 56 = .ok (.iload 4, 2) := by decide +kernel
theorem dX10_chair_58 : decode cX10_chair 58 = .ok (.if_icmp .ge 10, 3) := by decide +kernel
theorem dX10_chair_61 : decode cX10_chair 61 = .ok (.iload 5, 2) := by decide +kernel
theorem dX10_chair_63 : decode cX10_chair 63 = .ok (.istore_n 3, 1) := by decide +kernel
theorem dX10_chair_64 : decode cX10_chair 64 = .ok (.iload 6, 2) := by decide +kernel
theorem dX10_chair_66 : decode cX10_chair 66 = .ok (.istore 4, 2) := by decide +kernel
theorem dX10_chair_68 : decode cX10_chair 68 = .ok (.iinc 5 1, 3) := by decide +kernel
theorem dX10_chair_71 : decode cX10_chair 71 = .ok (.goto (-48), 3) := by decide +kernel
theorem dX10_chair_74 : decode cX10_chair 74 = .ok (.iload_n 1, 1) := by decide +kernel
theorem dX10_chair_75 : decode cX10_chair 75 = .ok (.ifCond .ne 7, 3) := by decide +kernel
theorem dX10_chair_78 : decode cX10_chair 78 = .ok (.iload_n 3, 1) := by decide +kernel
theorem dX10_chair_79 : decode cX10_chair 79 = .ok (.goto 5, 3) := by decide +kernel
theorem dX10_chair_82 : decode cX10_chair 82 = .ok (.iload 4, 2) := by decide +kernel
theorem dX10_chair_84 : decode cX10_chair 84 = .ok (.ireturn, 1) := by decide +kernel
set_option maxRecDepth 20000 in
theorem ggX10_meet_X10_all : GoodIn wsX10_meet wsX10_all := goodIn_r _ [5, 6, 52, 53, 54, 55, 56, 57, 58, 59, 60, 61, 62, 63, 64, 65, 66, 67, 68, 69, 70, 71, 72, 73, 74, 75, 76, 77, 78, 79, 80, 81, 82, 83, 84, 85, 86, 87, 88, 89, 90, 91, 92, 93, 94, 95, 96, 97, 98, 99, 100, 101, 102, 103, 104, 105] (by decide +kernel) (by decide +kernel)
set_option maxRecDepth 20000 in
theorem gX10_meet_X10_all : GoodIn wsX10_meet (wsV RX10 244 RX10 yX10_all wsX10_all) := goodIn_app (goodIn_of _ (by decide +kernel)) ggX10_meet_X10_all
set_option maxRecDepth 20000 in
theorem ggX10_meet_X10_in : GoodIn wsX10_meet wsX10_in := goodIn_r _ [9] (by decide +kernel) (by decide +kernel)
set_option maxRecDepth 20000 in
theorem gX10_meet_X10_in : GoodIn wsX10_meet (va_wsS RX10 97 yX10_in wsX10_in) := goodIn_app (goodIn_of _ (by decide +kernel)) ggX10_meet_X10_in
set_option maxRecDepth 20000 in
theorem ggX10_meet_X10_isSide : GoodIn wsX10_meet wsX10_isSide := goodIn_r _ [12, 7, 8, 4, 9] (by decide +kernel) (by decide +kernel)
set_option maxRecDepth 20000 in
theorem gX10_meet_X10_isSide : GoodIn wsX10_meet (va_wsS RX10 276 yX10_isSide wsX10_isSide) := goodIn_app (goodIn_of _ (by decide +kernel)) ggX10_meet_X10_isSide
set_option maxRecDepth 20000 in
theorem ggX10_meet_X10_openOn : GoodIn wsX10_meet wsX10_openOn := goodIn_r _ [16, 17, 18, 19, 20, 4, 21, 22, 23, 24, 25, 26, 27, 28, 29, 30, 31, 32, 33, 34, 35, 36, 37, 38, 39, 40, 41, 42, 43, 52, 53, 54, 55, 56, 57, 58, 59, 60, 61, 62, 63, 64, 65, 66, 67, 68, 69, 70, 71, 72, 73, 74, 75, 76, 77, 78, 79, 80, 81, 82, 83, 84, 85, 86, 87, 88, 89, 90, 91, 92, 93, 94, 95, 96, 97, 98, 99, 100, 101, 102, 103, 104, 105] (by decide +kernel) (by decide +kernel)
set_option maxRecDepth 20000 in
theorem gX10_meet_X10_openOn : GoodIn wsX10_meet (wsV RX10 266 RX10 yX10_openOn wsX10_openOn) := goodIn_app (goodIn_of _ (by decide +kernel)) ggX10_meet_X10_openOn
set_option maxRecDepth 20000 in
theorem ggX10_meet_X10_ones : GoodIn wsX10_meet wsX10_ones := goodIn_r _ [43] (by decide +kernel) (by decide +kernel)
set_option maxRecDepth 20000 in
theorem gX10_meet_X10_ones : GoodIn wsX10_meet (va_wsS RX10 116 yX10_ones wsX10_ones) := goodIn_app (goodIn_of _ (by decide +kernel)) ggX10_meet_X10_ones
set_option maxRecDepth 20000 in
theorem ggX10_meet_X10_joinedBy : GoodIn wsX10_meet wsX10_joinedBy := goodIn_r _ [47, 48, 49, 50, 4, 51, 17, 28, 29, 30, 31, 32, 33, 34, 35, 36, 37, 38, 39, 40, 41, 42, 43, 52, 53, 54, 55, 56, 57, 58, 59, 60, 61, 62, 63, 64, 65, 66, 67, 68, 69, 70, 71, 72, 73, 74, 75, 76, 77, 78, 79, 80, 81, 82, 83, 84, 85, 86, 87, 88, 89, 90, 91, 92, 93, 94, 95, 96, 97, 98, 99, 100, 101, 102, 103, 104, 105] (by decide +kernel) (by decide +kernel)
set_option maxRecDepth 20000 in
theorem gX10_meet_X10_joinedBy : GoodIn wsX10_meet (wsV RX10 269 RX10 yX10_joinedBy wsX10_joinedBy) := goodIn_app (goodIn_of _ (by decide +kernel)) ggX10_meet_X10_joinedBy
theorem dX10_meet_0 : decode cX10_meet 0 = .ok (.iload_n 1, 1) := by decide +kernel
theorem dX10_meet_1 : decode cX10_meet 1 = .ok (.iconst 1, 1) := by decide +kernel
theorem dX10_meet_2 : decode cX10_meet 2 = .ok (.aload_n 0, 1) := by decide +kernel
theorem dX10_meet_3 : decode cX10_meet 3 = .ok (.invokevirtual 244, 3) := by decide +kernel
theorem dX10_meet_6 : decode cX10_meet 6 = .ok (.invokestatic 97, 3) := by decide +kernel
theorem dX10_meet_9 : decode cX10_meet 9 = .ok (.ifCond .eq 10, 3) := by decide +kernel
theorem dX10_meet_12 : decode cX10_meet 12 = .ok (.iload_n 2, 1) := by decide +kernel
theorem dX10_meet_13 : decode cX10_meet 13 = .ok (.invokestatic 276, 3) := by decide +kernel
theorem dX10_meet_16 : decode cX10_meet 16 = .ok (.ifCond .ne 5, 3) := by decide +kernel
theorem dX10_meet_19 : decode cX10_meet 19 = .ok (.iconst (-1), 1) := by decide +kernel
theorem dX10_meet_20 : decode cX10_meet 20 = .ok (.ireturn, 1) := by decide +kernel
theorem dX10_meet_21 : decode cX10_meet 21 = .ok (.aload_n 0, 1) := by decide +kernel
theorem dX10_meet_22 : decode cX10_meet 22 = .ok (.iconst 0, 1) := by decide +kernel
theorem dX10_meet_23 : decode cX10_meet 23 = .ok (.invokevirtual 266, 3) := by decide +kernel
theorem dX10_meet_26 : decode cX10_meet 26 = .ok (.istore_n 3, 1) := by decide +kernel
theorem dX10_meet_27 : decode cX10_meet 27 = .ok (.bipush (-3), 2) := by decide +kernel
theorem dX10_meet_29 : decode cX10_meet 29 = .ok (.istore 4, 2) := by decide +kernel
theorem dX10_meet_31 : decode cX10_meet 31 = .ok (.iload_n 1, 1) := by decide +kernel
theorem dX10_meet_32 : decode cX10_meet 32 = .ok (.istore 5, 2) := by decide +kernel
theorem dX10_meet_34 : decode cX10_meet 34 = .ok (.iload 5, 2) := by decide +kernel
theorem dX10_meet_36 : decode cX10_meet 36 = .ok (.aload_n 0, 1) := by decide +kernel
theorem dX10_meet_37 : decode cX10_meet 37 = .ok (.invokevirtual 244, 3) := by decide +kernel
theorem dX10_meet_40 : decode cX10_meet 40 = .ok (.if_icmp .gt 78, 3) := by decide +kernel
theorem dX10_meet_43 : decode cX10_meet 43 = .ok (.iload 5, 2) := by decide +kernel
theorem dX10_meet_45 : decode cX10_meet 45 = .ok (.iload_n 1, 1) := by decide +kernel
theorem dX10_meet_46 : decode cX10_meet 46 = .ok (.iand, 1) := by decide +kernel
theorem dX10_meet_47 : decode cX10_meet 47 = .ok (.iload_n 1, 1) := by decide +kernel
theorem dX10_meet_48 : decode cX10_meet 48 = .ok (.if_icmp .ne 34, 3) := by decide +kernel
theorem dX10_meet_51 : decode cX10_meet 51 = .ok (.iload 4, 2) := by decide +kernel
theorem dX10_meet_53 : decode cX10_meet 53 = .ok (.ifCond .lt 25, 3) := by decide +kernel
theorem dX10_meet_56 : decode cX10_meet 56 = .ok (.iload 5, 2) := by decide +kernel
theorem dX10_meet_58 : decode cX10_meet 58 = .ok (.invokestatic 116, 3) := by decide +kernel
theorem dX10_meet_61 : decode cX10_meet 61 = .ok (.iload 4, 2) := by decide +kernel
theorem dX10_meet_63 : decode cX10_meet 63 = .ok (.ifCond .ge 7, 3) := by decide +kernel
theorem dX10_meet_66 : decode cX10_meet 66 = .ok (.iconst 0, 1) := by decide +kernel
theorem dX10_meet_67 : decode cX10_meet 67 = .ok (.goto 5, 3) := by decide +kernel
theorem dX10_meet_70 : decode cX10_meet 70 = .ok (.iload 4, 2) := by decide +kernel
theorem dX10_meet_72 : decode cX10_meet 72 = .ok (.invokestatic 116, 3) := by decide +kernel
theorem dX10_meet_75 : decode cX10_meet 75 = .ok (.if_icmp .ge 7, 3) := by decide +kernel
theorem dX10_meet_78 : decode cX10_meet 78 = .ok (.iconst 1, 1) := by decide +kernel
theorem dX10_meet_79 : decode cX10_meet 79 = .ok (.goto 4, 3) := by decide +kernel
theorem dX10_meet_82 : decode cX10_meet 82 = .ok (.iconst 0, 1) := by decide +kernel
theorem dX10_meet_83 : decode cX10_meet 83 = .ok (.istore 6, 2) := by decide +kernel
theorem dX10_meet_85 : decode cX10_meet 85 = .ok (.iload 6, 2) := by decide +kernel
theorem dX10_meet_87 : decode cX10_meet 87 = .ok (.ifCond .eq 25, 3) := by decide +kernel
theorem dX10_meet_90 : decode cX10_meet 90 = .ok (.aload_n 0, 1) := by decide +kernel
theorem dX10_meet_91 : decode cX10_meet 91 = .ok (.iload 5, 2) := by decide +kernel
theorem dX10_meet_93 : decode cX10_meet 93 = .ok (.iload 5, 2) := by decide +kernel
theorem dX10_meet_95 : decode cX10_meet 95 = .ok (.ineg, 1) := by decide +kernel
theorem dX10_meet_96 : decode cX10_meet 96 = .ok (.iand, 1) := by decide +kernel
theorem dX10_meet_97 : decode cX10_meet 97 = .ok (.iload_n 3, 1) := by decide +kernel
theorem dX10_meet_98 : decode cX10_meet 98 = .ok (.iload 5, 2) := by decide +kernel
theorem dX10_meet_100 : decode cX10_meet 100 = .ok (.invokevirtual 269, 3) := by decide +kernel
theorem dX10_meet_103 : decode cX10_meet 103 = .ok (.iload 5, 2) := by decide +kernel
theorem dX10_meet_105 : decode cX10_meet 105 = .ok (.if_icmp .ne 7, 3) := by decide +kernel
theorem dX10_meet_108 : decode cX10_meet 108 = .ok (.iload 5, 2) := by decide +kernel
theorem dX10_meet_110 : decode cX10_meet 110 = .ok (.istore 4, 2) := by decide +kernel
theorem dX10_meet_112 : decode cX10_meet 112 = .ok (.iinc 5 1, 3) := by decide +kernel
theorem dX10_meet_115 : decode cX10_meet 115 = .ok (.goto (-81), 3) := by decide +kernel
theorem dX10_meet_118 : decode cX10_meet 118 = .ok (.iload 4, 2) := by decide +kernel
theorem dX10_meet_120 : decode cX10_meet 120 = .ok (.ifCond .ge 8, 3) := by decide +kernel
theorem dX10_meet_123 : decode cX10_meet 123 = .ok (.bipush (-3), 2) := by decide +kernel
theorem dX10_meet_125 : decode cX10_meet 125 = .ok (.goto 17, 3) := by decide +kernel
theorem dX10_meet_128 : decode cX10_meet 128 = .ok (.iload_n 2, 1) := by decide +kernel
theorem dX10_meet_129 : decode cX10_meet 129 = .ok (.ifCond .ne 11, 3) := by decide +kernel
theorem dX10_meet_132 : decode cX10_meet 132 = .ok (.iload 4, 2) := by decide +kernel
theorem dX10_meet_134 : decode cX10_meet 134 = .ok (.invokestatic 116, 3) := by decide +kernel
theorem dX10_meet_137 : decode cX10_meet 137 = .ok (.goto 5, 3) := by decide +kernel
theorem dX10_meet_140 : decode cX10_meet 140 = .ok (.iload 4, 2) := by decide +kernel
theorem dX10_meet_142 : decode cX10_meet 142 = .ok (.ireturn, 1) := by decide +kernel
set_option maxRecDepth 20000 in
theorem ggX10_tell_X10_in : GoodIn wsX10_tell wsX10_in := goodIn_r _ [7] (by decide +kernel) (by decide +kernel)
set_option maxRecDepth 20000 in
theorem gX10_tell_X10_in : GoodIn wsX10_tell (va_wsS RX10 97 yX10_in wsX10_in) := goodIn_app (goodIn_of _ (by decide +kernel)) ggX10_tell_X10_in
set_option maxRecDepth 20000 in
theorem ggX10_tell_X10_isSide : GoodIn wsX10_tell wsX10_isSide := goodIn_r _ [10, 4, 5, 6, 7] (by decide +kernel) (by decide +kernel)
set_option maxRecDepth 20000 in
theorem gX10_tell_X10_isSide : GoodIn wsX10_tell (va_wsS RX10 276 yX10_isSide wsX10_isSide) := goodIn_app (goodIn_of _ (by decide +kernel)) ggX10_tell_X10_isSide
set_option maxRecDepth 20000 in
theorem ggX10_tell_X10_findDays : GoodIn wsX10_tell wsX10_findDays := goodIn_r _ [14, 3, 15, 16, 17, 6, 18, 1, 19, 20, 21, 22, 23, 24, 25, 26, 27, 28, 29, 30, 31, 32, 33, 34, 35, 36, 37, 38, 39, 40, 41, 42, 43, 44, 45, 46, 47, 48, 49, 50, 51, 52, 53, 54, 55, 56, 57, 58, 59, 60, 61, 62, 63, 64, 65, 66, 67, 68, 69, 70, 71, 72, 73, 74, 75, 76, 77, 78, 79, 80, 81, 82, 83, 84, 85, 86, 87, 88, 89, 90, 91, 92, 93, 94, 95, 96, 97, 98, 99, 100, 101, 102, 103, 104, 105, 106, 107] (by decide +kernel) (by decide +kernel)
set_option maxRecDepth 20000 in
theorem gX10_tell_X10_findDays : GoodIn wsX10_tell (wsV RX10 343 RX10 yX10_findDays wsX10_findDays) := goodIn_app (goodIn_of _ (by decide +kernel)) ggX10_tell_X10_findDays
set_option maxRecDepth 20000 in
theorem ggX10_tell_X10_all : GoodIn wsX10_tell wsX10_all := goodIn_r _ [18, 1, 54, 55, 56, 57, 58, 59, 60, 61, 62, 63, 64, 65, 66, 67, 68, 69, 70, 71, 72, 73, 74, 75, 76, 77, 78, 79, 80, 81, 82, 83, 84, 85, 86, 87, 88, 89, 90, 91, 92, 93, 94, 95, 96, 97, 98, 99, 100, 101, 102, 103, 104, 105, 106, 107] (by decide +kernel) (by decide +kernel)
set_option maxRecDepth 20000 in
theorem gX10_tell_X10_all : GoodIn wsX10_tell (wsV RX10 244 RX10 yX10_all wsX10_all) := goodIn_app (goodIn_of _ (by decide +kernel)) ggX10_tell_X10_all
set_option maxRecDepth 20000 in
theorem ggX10_tell_X10_ones : GoodIn wsX10_tell wsX10_ones := goodIn_r _ [49] (by decide +kernel) (by decide +kernel)
set_option maxRecDepth 20000 in
theorem gX10_tell_X10_ones : GoodIn wsX10_tell (va_wsS RX10 116 yX10_ones wsX10_ones) := goodIn_app (goodIn_of _ (by decide +kernel)) ggX10_tell_X10_ones
theorem dX10_tell_0 : decode cX10_tell 0 = .ok (.iload_n 1, 1) := by decide +kernel
theorem dX10_tell_1 : decode cX10_tell 1 = .ok (.iconst 0, 1) := by decide +kernel
theorem dX10_tell_2 : decode cX10_tell 2 = .ok (.bipush 100, 2) := by decide +kernel
theorem dX10_tell_4 : decode cX10_tell 4 = .ok (.invokestatic 97, 3) := by decide +kernel
theorem dX10_tell_7 : decode cX10_tell 7 = .ok (.ifCond .eq 10, 3) := by decide +kernel
theorem dX10_tell_10 : decode cX10_tell 10 = .ok (.iload_n 2, 1) := by decide +kernel
theorem dX10_tell_11 : decode cX10_tell 11 = .ok (.invokestatic 276, 3) := by decide +kernel
theorem dX10_tell_14 : decode cX10_tell 14 = .ok (.ifCond .ne 5, 3) := by decide +kernel
theorem dX10_tell_17 : decode cX10_tell 17 = .ok (.iconst (-1), 1) := by decide +kernel
theorem dX10_tell_18 : decode cX10_tell 18 = .ok (.ireturn, 1) := by decide +kernel
theorem dX10_tell_19 : decode cX10_tell 19 = .ok (.iconst 0, 1) := by decide +kernel
theorem dX10_tell_20 : decode cX10_tell 20 = .ok (.istore_n 3, 1) := by decide +kernel
theorem dX10_tell_21 : decode cX10_tell 21 = .ok (.iload_n 3, 1) := by decide +kernel
theorem dX10_tell_22 : decode cX10_tell 22 = .ok (.aload_n 0, 1) := by decide +kernel
theorem dX10_tell_23 : decode cX10_tell 23 = .ok (.getfield 7, 3) := by decide +kernel
theorem dX10_tell_26 : decode cX10_tell 26 = .ok (.if_icmp .ge 28, 3) := by decide +kernel
theorem dX10_tell_29 : decode cX10_tell 29 = .ok (.aload_n 0, 1) := by decide +kernel
theorem dX10_tell_30 : decode cX10_tell 30 = .ok (.iconst 1, 1) := by decide +kernel
theorem dX10_tell_31 : decode cX10_tell 31 = .ok (.iload_n 3, 1) := by decide +kernel
theorem dX10_tell_32 : decode cX10_tell 32 = .ok (.ishl, 1) := by decide +kernel
theorem dX10_tell_33 : decode cX10_tell 33 = .ok (.invokevirtual 343, 3) := by decide +kernel
theorem dX10_tell_36 : decode cX10_tell 36 = .ok (.aload_n 0, 1) := by decide +kernel
theorem dX10_tell_37 : decode cX10_tell 37 = .ok (.getfield 67, 3) := by decide +kernel
theorem dX10_tell_40 : decode cX10_tell 40 = .ok (.iload_n 3, 1) := by decide +kernel
theorem dX10_tell_41 : decode cX10_tell 41 = .ok (.aload_n 0, 1) := by decide +kernel
theorem dX10_tell_42 : decode cX10_tell 42 = .ok (.getfield 54, 3) := by decide +kernel
theorem dX10_tell_45 : decode cX10_tell 45 = .ok (.iload_n 1, 1) := by decide +kernel
theorem dX10_tell_46 : decode cX10_tell 46 = .ok (.iaload, 1) := by decide +kernel
theorem dX10_tell_47 : decode cX10_tell 47 = .ok (.iastore, 1) := by decide +kernel
theorem dX10_tell_48 : decode cX10_tell 48 = .ok (.iinc 3 1, 3) := by decide +kernel
theorem dX10_tell_51 : decode cX10_tell 51 = .ok (.goto (-30), 3) := by decide +kernel
theorem dX10_tell_54 : decode cX10_tell 54 = .ok (.iconst (-1), 1) := by decide +kernel
theorem dX10_tell_55 : decode cX10_tell 55 = .ok (.istore_n 3, 1) := by decide +kernel
theorem dX10_tell_56 : decode cX10_tell 56 = .ok (.iconst 1, 1) := by decide +kernel
theorem dX10_tell_57 : decode cX10_tell 57 = .ok (.istore 4, 2) := by decide +kernel
theorem dX10_tell_59 : decode cX10_tell 59 = .ok (.iload 4, 2) := by decide +kernel
theorem dX10_tell_61 : decode cX10_tell 61 = .ok (.aload_n 0, 1) := by decide +kernel
theorem dX10_tell_62 : decode cX10_tell 62 = .ok (.invokevirtual 244, 3) := by decide +kernel
theorem dX10_tell_65 : decode cX10_tell 65 = .ok (.if_icmp .gt 89, 3) := by decide +kernel
theorem dX10_tell_68 : decode cX10_tell 68 = .ok (.iconst 0, 1) := by decide +kernel
theorem dX10_tell_69 : decode cX10_tell 69 = .ok (.istore 5, 2) := by decide +kernel
theorem dX10_tell_71 : decode cX10_tell 71 = .ok (.iconst 0, 1) := by decide +kernel
theorem dX10_tell_72 : decode cX10_tell 72 = .ok (.istore 6, 2) := by decide +kernel
theorem dX10_tell_74 : decode cX10_tell 74 = .ok (.iload 6, 2) := by decide +kernel
theorem dX10_tell_76 : decode cX10_tell 76 = .ok (.aload_n 0, 1) := by decide +kernel
theorem dX10_tell_77 : decode cX10_tell 77 = .ok (.getfield 7, 3) := by decide +kernel
theorem dX10_tell_80 : decode cX10_tell 80 = .ok (.if_icmp .ge 36, 3) := by decide +kernel
theorem dX10_tell_83 : decode cX10_tell 83 = .ok (.iload 5, 2) := by decide +kernel
theorem dX10_tell_85 : decode cX10_tell 85 = .ok (.iload 4, 2) := by decide +kernel
theorem dX10_tell_87 : decode cX10_tell 87 = .ok (.iload 6, 2) := by decide +kernel
theorem dX10_tell_89 : decode cX10_tell 89 = .ok (.ishr, 1) := by decide +kernel
theorem dX10_tell_90 : decode cX10_tell 90 = .ok (.iconst 1, 1) := by decide +kernel
theorem dX10_tell_91 : decode cX10_tell 91 = .ok (.iand, 1) := by decide +kernel
theorem dX10_tell_92 : decode cX10_tell 92 = .ok (.iconst 1, 1) := by decide +kernel
theorem dX10_tell_93 : decode cX10_tell 93 = .ok (.if_icmp .ne 13, 3) := by decide +kernel
theorem dX10_tell_96 : decode cX10_tell 96 = .ok (.aload_n 0, 1) := by decide +kernel
theorem dX10_tell_97 : decode cX10_tell 97 = .ok (.getfield 67, 3) := by decide +kernel
theorem dX10_tell_100 : decode cX10_tell 100 = .ok (.iload 6, 2) := by decide +kernel
theorem dX10_tell_102 : decode cX10_tell 102 = .ok (.iaload, 1) := by decide +kernel
theorem dX10_tell_103 : decode cX10_tell 103 = .ok (.goto 4, 3) := by decide +kernel
theorem dX10_tell_106 : decode cX10_tell 106 = .ok (.iconst 0, 1) := by decide +kernel
theorem dX10_tell_107 : decode cX10_tell 107 = .ok (.ior, 1) := by decide +kernel
theorem dX10_tell_108 : decode cX10_tell 108 = .ok (.istore 5, 2) := by decide +kernel
theorem dX10_tell_110 : decode cX10_tell 110 = .ok (.iinc 6 1, 3) := by decide +kernel
theorem dX10_tell_113 : decode cX10_tell 113 = .ok (.goto (-39), 3) := by decide +kernel
theorem dX10_tell_116 : decode cX10_tell 116 = .ok (.iload 5, 2) := by decide +kernel
theorem dX10_tell_118 : decode cX10_tell 118 = .ok (.aload_n 0, 1) := by decide +kernel
theorem dX10_tell_119 : decode cX10_tell 119 = .ok (.invokevirtual 244, 3) := by decide +kernel
theorem dX10_tell_122 : decode cX10_tell 122 = .ok (.if_icmp .ne 24, 3) := by decide +kernel
theorem dX10_tell_125 : decode cX10_tell 125 = .ok (.iload_n 3, 1) := by decide +kernel
theorem dX10_tell_126 : decode cX10_tell 126 = .ok (.ifCond .lt 15, 3) := by decide +kernel
theorem dX10_tell_129 : decode cX10_tell 129 = .ok (.iload 4, 2) := by decide +kernel
theorem dX10_tell_131 : decode cX10_tell 131 = .ok (.invokestatic 116, 3) := by decide +kernel
theorem dX10_tell_134 : decode cX10_tell 134 = .ok (.iload_n 3, 1) := by decide +kernel
theorem dX10_tell_135 : decode cX10_tell 135 = .ok (.invokestatic 116, 3) := by decide +kernel
theorem dX10_tell_138 : decode cX10_tell 138 = .ok (.if_icmp .ge 8, 3) := by decide +kernel
theorem dX10_tell_141 : decode cX10_tell 141 = .ok (.iload 4, 2) := by decide +kernel
theorem dX10_tell_143 : decode cX10_tell 143 = .ok (.goto 4, 3) := by decide +kernel
theorem dX10_tell_146 : decode cX10_tell 146 = .ok (.iload_n 3, 1) := by decide +kernel
theorem dX10_tell_147 : decode cX10_tell 147 = .ok (.istore_n 3, 1) := by decide +kernel
theorem dX10_tell_148 : decode cX10_tell 148 = .ok (.iinc 4 1, 3) := by decide +kernel
theorem dX10_tell_151 : decode cX10_tell 151 = .ok (.goto (-92), 3) := by decide +kernel
theorem dX10_tell_154 : decode cX10_tell 154 = .ok (.iload_n 2, 1) := by decide +kernel
theorem dX10_tell_155 : decode cX10_tell 155 = .ok (.ifCond .ne 10, 3) := by decide +kernel
theorem dX10_tell_158 : decode cX10_tell 158 = .ok (.iload_n 3, 1) := by decide +kernel
theorem dX10_tell_159 : decode cX10_tell 159 = .ok (.invokestatic 116, 3) := by decide +kernel
theorem dX10_tell_162 : decode cX10_tell 162 = .ok (.goto 4, 3) := by decide +kernel
theorem dX10_tell_165 : decode cX10_tell 165 = .ok (.iload_n 3, 1) := by decide +kernel
theorem dX10_tell_166 : decode cX10_tell 166 = .ok (.ireturn, 1) := by decide +kernel
set_option maxRecDepth 20000 in
theorem ggX10_best_X10_isShelf : GoodIn wsX10_best wsX10_isShelf := goodIn_r _ [6, 7, 8, 5, 9] (by decide +kernel) (by decide +kernel)
set_option maxRecDepth 20000 in
theorem gX10_best_X10_isShelf : GoodIn wsX10_best (va_wsS RX10 362 yX10_isShelf wsX10_isShelf) := goodIn_app (goodIn_of _ (by decide +kernel)) ggX10_best_X10_isShelf
set_option maxRecDepth 20000 in
theorem ggX10_best_X10_isSide : GoodIn wsX10_best wsX10_isSide := goodIn_r _ [12, 7, 8, 5, 9] (by decide +kernel) (by decide +kernel)
set_option maxRecDepth 20000 in
theorem gX10_best_X10_isSide : GoodIn wsX10_best (va_wsS RX10 276 yX10_isSide wsX10_isSide) := goodIn_app (goodIn_of _ (by decide +kernel)) ggX10_best_X10_isSide
set_option maxRecDepth 20000 in
theorem ggX10_best_X10_lacksSort : GoodIn wsX10_best wsX10_lacksSort := goodIn_r _ [16, 17, 67, 68, 69, 70, 71, 72, 73, 74, 75, 76, 77, 78, 79, 80, 81, 82, 83, 84, 85, 86, 87, 88, 89, 90, 91, 92, 93, 94, 95, 96, 97, 98, 99, 100, 101, 102, 103, 104, 105, 106, 107, 108, 109, 110, 111, 112, 113, 114, 115, 116, 117, 118, 119, 120] (by decide +kernel) (by decide +kernel)
set_option maxRecDepth 20000 in
theorem gX10_best_X10_lacksSort : GoodIn wsX10_best (wsV RX10 365 RX10 yX10_lacksSort wsX10_lacksSort) := goodIn_app (goodIn_of _ (by decide +kernel)) ggX10_best_X10_lacksSort
set_option maxRecDepth 20000 in
theorem ggX10_best_X10_openOn : GoodIn wsX10_best wsX10_openOn := goodIn_r _ [21, 22, 23, 24, 25, 5, 26, 27, 28, 29, 30, 31, 32, 33, 34, 35, 36, 37, 38, 39, 40, 41, 42, 43, 44, 45, 46, 47, 48, 67, 68, 69, 70, 71, 72, 73, 74, 75, 76, 77, 78, 79, 80, 81, 82, 83, 84, 85, 86, 87, 88, 89, 90, 91, 92, 93, 94, 95, 96, 97, 98, 99, 100, 101, 102, 103, 104, 105, 106, 107, 108, 109, 110, 111, 112, 113, 114, 115, 116, 117, 118, 119, 120] (by decide +kernel) (by decide +kernel)
set_option maxRecDepth 20000 in
theorem gX10_best_X10_openOn : GoodIn wsX10_best (wsV RX10 266 RX10 yX10_openOn wsX10_openOn) := goodIn_app (goodIn_of _ (by decide +kernel)) ggX10_best_X10_openOn
set_option maxRecDepth 20000 in
theorem ggX10_best_X10_all : GoodIn wsX10_best wsX10_all := goodIn_r _ [52, 53, 67, 68, 69, 70, 71, 72, 73, 74, 75, 76, 77, 78, 79, 80, 81, 82, 83, 84, 85, 86, 87, 88, 89, 90, 91, 92, 93, 94, 95, 96, 97, 98, 99, 100, 101, 102, 103, 104, 105, 106, 107, 108, 109, 110, 111, 112, 113, 114, 115, 116, 117, 118, 119, 120] (by decide +kernel) (by decide +kernel)
set_option maxRecDepth 20000 in
theorem gX10_best_X10_all : GoodIn wsX10_best (wsV RX10 244 RX10 yX10_all wsX10_all) := goodIn_app (goodIn_of _ (by decide +kernel)) ggX10_best_X10_all
set_option maxRecDepth 20000 in
theorem ggX10_best_X10_greatest : GoodIn wsX10_best wsX10_greatest := goodIn_r _ [57, 58, 59, 60, 61, 5, 62, 63, 64, 65, 66, 22, 33, 34, 35, 36, 37, 38, 39, 40, 41, 42, 43, 44, 45, 46, 47, 48, 67, 68, 69, 70, 71, 72, 73, 74, 75, 76, 77, 78, 79, 80, 81, 82, 83, 84, 85, 86, 87, 88, 89, 90, 91, 92, 93, 94, 95, 96, 97, 98, 99, 100, 101, 102, 103, 104, 105, 106, 107, 108, 109, 110, 111, 112, 113, 114, 115, 116, 117, 118, 119, 120] (by decide +kernel) (by decide +kernel)
set_option maxRecDepth 20000 in
theorem gX10_best_X10_greatest : GoodIn wsX10_best (wsV RX10 279 RX10 yX10_greatest wsX10_greatest) := goodIn_app (goodIn_of _ (by decide +kernel)) ggX10_best_X10_greatest
theorem dX10_best_0 : decode cX10_best 0 = .ok (.iload_n 1, 1) := by decide +kernel
theorem dX10_best_1 : decode cX10_best 1 = .ok (.invokestatic 362, 3) := by decide +kernel
theorem dX10_best_4 : decode cX10_best 4 = .ok (.ifCond .eq 10, 3) := by decide +kernel
theorem dX10_best_7 : decode cX10_best 7 = .ok (.iload_n 2, 1) := by decide +kernel
theorem dX10_best_8 : decode cX10_best 8 = .ok (.invokestatic 276, 3) := by decide +kernel
theorem dX10_best_11 : decode cX10_best 11 = .ok (.ifCond .ne 5, 3) := by decide +kernel
theorem dX10_best_14 : decode cX10_best 14 = .ok (.iconst (-1), 1) := by decide +kernel
theorem dX10_best_15 : decode cX10_best 15 = .ok (.ireturn, 1) := by decide +kernel
theorem dX10_best_16 : decode cX10_best 16 = .ok (.aload_n 0, 1) := by decide +kernel
theorem dX10_best_17 : decode cX10_best 17 = .ok (.iload_n 1, 1) := by decide +kernel
theorem dX10_best_18 : decode cX10_best 18 = .ok (.iconst 2, 1) := by decide +kernel
theorem dX10_best_19 : decode cX10_best 19 = .ok (.invokevirtual 365, 3) := by decide +kernel
theorem dX10_best_22 : decode cX10_best 22 = .ok (.istore_n 3, 1) := by decide +kernel
theorem dX10_best_23 : decode cX10_best 23 = .ok (.iload_n 3, 1) := by decide +kernel
theorem dX10_best_24 : decode cX10_best 24 = .ok (.ifCond .eq 5, 3) := by decide +kernel
theorem dX10_best_27 : decode cX10_best 27 = .ok (.iload_n 3, 1) := by decide +kernel
theorem dX10_best_28 : decode cX10_best 28 = .ok (.ireturn, 1) := by decide +kernel
theorem dX10_best_29 : decode cX10_best 29 = .ok (.aload_n 0, 1) := by decide +kernel
theorem dX10_best_30 : decode cX10_best 30 = .ok (.iconst 0, 1) := by decide +kernel
theorem dX10_best_31 : decode cX10_best 31 = .ok (.invokevirtual 266, 3) := by decide +kernel
theorem dX10_best_34 : decode cX10_best 34 = .ok (.istore 4, 2) := by decide +kernel
theorem dX10_best_36 : decode cX10_best 36 = .ok (.bipush (-3), 2) := by decide +kernel
theorem dX10_best_38 : decode cX10_best 38 = .ok (.istore 5, 2) := by decide +kernel
theorem dX10_best_40 : decode cX10_best 40 = .ok (.iconst 0, 1) := by decide +kernel
theorem dX10_best_41 : decode cX10_best 41 = .ok (.istore 6, 2) := by decide +kernel
theorem dX10_best_43 : decode cX10_best 43 = .ok (.iconst 0, 1) := by decide +kernel
theorem dX10_best_44 : decode cX10_best 44 = .ok (.istore 7, 2) := by decide +kernel
theorem dX10_best_46 : decode cX10_best 46 = .ok (.iload 7, 2) := by decide +kernel
theorem dX10_best_48 : decode cX10_best 48 = .ok (.aload_n 0, 1) := by decide +kernel
theorem dX10_best_49 : decode cX10_best 49 = .ok (.getfield 73, 3) := by decide +kernel
theorem dX10_best_52 : decode cX10_best 52 = .ok (.iload_n 1, 1) := by decide +kernel
theorem dX10_best_53 : decode cX10_best 53 = .ok (.iaload, 1) := by decide +kernel
theorem dX10_best_54 : decode cX10_best 54 = .ok (.if_icmp .ge 57, 3) := by decide +kernel
theorem dX10_best_57 : decode cX10_best 57 = .ok (.aload_n 0, 1) := by decide +kernel
theorem dX10_best_58 : decode cX10_best 58 = .ok (.iload 4, 2) := by decide +kernel
theorem dX10_best_60 : decode cX10_best 60 = .ok (.aload_n 0, 1) := by decide +kernel
theorem dX10_best_61 : decode cX10_best 61 = .ok (.getfield 76, 3) := by decide +kernel
theorem dX10_best_64 : decode cX10_best 64 = .ok (.bipush 40, 2) := by decide +kernel
theorem dX10_best_66 : decode cX10_best 66 = .ok (.iload_n 1, 1) := by decide +kernel
theorem dX10_best_67 : decode cX10_best 67 = .ok (.imul, 1) := by decide +kernel
theorem dX10_best_68 : decode cX10_best 68 = .ok (.iload 7, 2) := by decide +kernel
theorem dX10_best_70 : decode cX10_best 70 = .ok (.iadd, 1) := by decide +kernel
theorem dX10_best_71 : decode cX10_best 71 = .ok (.laload, 1) := by decide +kernel
theorem dX10_best_72 : decode cX10_best 72 = .ok (.l2i, 1) := by decide +kernel
theorem dX10_best_73 : decode cX10_best 73 = .ok (.iconst (-1), 1) := by decide +kernel
theorem dX10_best_74 : decode cX10_best 74 = .ok (.ixor, 1) := by decide +kernel
theorem dX10_best_75 : decode cX10_best 75 = .ok (.iand, 1) := by decide +kernel
theorem dX10_best_76 : decode cX10_best 76 = .ok (.aload_n 0, 1) := by decide +kernel
theorem dX10_best_77 : decode cX10_best 77 = .ok (.invokevirtual 244, 3) := by decide +kernel
theorem dX10_best_80 : decode cX10_best 80 = .ok (.invokevirtual 279, 3) := by decide +kernel
theorem dX10_best_83 : decode cX10_best 83 = .ok (.istore 8, 2) := by decide +kernel
theorem dX10_best_85 : decode cX10_best 85 = .ok (.iload 5, 2) := by decide +kernel
theorem dX10_best_87 : decode cX10_best 87 = .ok (.ifCond .lt 10, 3) := by decide +kernel
theorem dX10_best_90 : decode cX10_best 90 = .ok (.iload 8, 2) := by decide +kernel
theorem dX10_best_92 : decode cX10_best 92 = .ok (.iload 6, 2) := by decide +kernel
theorem dX10_best_94 : decode cX10_best 94 = .ok (.if_icmp .ge 11, 3) := by decide +kernel
theorem dX10_best_97 : decode cX10_best 97 = .ok (.iload 7, 2) := by decide +kernel
theorem dX10_best_99 : decode cX10_best 99 = .ok (.istore 5, 2) := by decide +kernel
theorem dX10_best_101 : decode cX10_best 101 = .ok (.iload 8, 2) := by decide +kernel
theorem dX10_best_103 : decode cX10_best 103 = .ok (.istore 6, 2) := by decide +kernel
theorem dX10_best_105 : decode cX10_best 105 = .ok (.iinc 7 1, 3) := by decide +kernel
theorem dX10_best_108 : decode cX10_best 108 = .ok (.goto (-62), 3) := by decide +kernel
theorem dX10_best_111 : decode cX10_best 111 = .ok (.iload 5, 2) := by decide +kernel
theorem dX10_best_113 : decode cX10_best 113 = .ok (.ifCond .ge 8, 3) := by decide +kernel
theorem dX10_best_116 : decode cX10_best 116 = .ok (.bipush (-3), 2) := by decide +kernel
theorem dX10_best_118 : decode cX10_best 118 = .ok (.goto 14, 3) := by decide +kernel
theorem dX10_best_121 : decode cX10_best 121 = .ok (.iload_n 2, 1) := by decide +kernel
theorem dX10_best_122 : decode cX10_best 122 = .ok (.ifCond .ne 8, 3) := by decide +kernel
theorem dX10_best_125 : decode cX10_best 125 = .ok (.iload 5, 2) := by decide +kernel
theorem dX10_best_127 : decode cX10_best 127 = .ok (.goto 5, 3) := by decide +kernel
theorem dX10_best_130 : decode cX10_best 130 = .ok (.iload 6, 2) := by decide +kernel
theorem dX10_best_132 : decode cX10_best 132 = .ok (.ireturn, 1) := by decide +kernel
set_option maxRecDepth 20000 in
theorem ggX10_isShelf_X10_in : GoodIn wsX10_isShelf wsX10_in := goodIn_r _ [4] (by decide +kernel) (by decide +kernel)
set_option maxRecDepth 20000 in
theorem gX10_isShelf_X10_in : GoodIn wsX10_isShelf (va_wsS RX10 97 yX10_in wsX10_in) := goodIn_app (goodIn_of _ (by decide +kernel)) ggX10_isShelf_X10_in
theorem dX10_isShelf_0 : decode cX10_isShelf 0 = .ok (.iload_n 0, 1) := by decide +kernel
theorem dX10_isShelf_1 : decode cX10_isShelf 1 = .ok (.iconst 0, 1) := by decide +kernel
theorem dX10_isShelf_2 : decode cX10_isShelf 2 = .ok (.iconst 3, 1) := by decide +kernel
theorem dX10_isShelf_3 : decode cX10_isShelf 3 = .ok (.invokestatic 97, 3) := by decide +kernel
theorem dX10_isShelf_6 : decode cX10_isShelf 6 = .ok (.ireturn, 1) := by decide +kernel
set_option maxRecDepth 20000 in
theorem ggX10_sheet_X10_isShelf : GoodIn wsX10_sheet wsX10_isShelf := goodIn_r _ [7, 8, 9, 6, 10] (by decide +kernel) (by decide +kernel)
set_option maxRecDepth 20000 in
theorem gX10_sheet_X10_isShelf : GoodIn wsX10_sheet (va_wsS RX10 362 yX10_isShelf wsX10_isShelf) := goodIn_app (goodIn_of _ (by decide +kernel)) ggX10_sheet_X10_isShelf
set_option maxRecDepth 20000 in
theorem ggX10_sheet_X10_in : GoodIn wsX10_sheet wsX10_in := goodIn_r _ [10] (by decide +kernel) (by decide +kernel)
set_option maxRecDepth 20000 in
theorem gX10_sheet_X10_in : GoodIn wsX10_sheet (va_wsS RX10 97 yX10_in wsX10_in) := goodIn_app (goodIn_of _ (by decide +kernel)) ggX10_sheet_X10_in
theorem dX10_sheet_0 : decode cX10_sheet 0 = .ok (.iload_n 1, 1) := by decide +kernel
theorem dX10_sheet_1 : decode cX10_sheet 1 = .ok (.invokestatic 362, 3) := by decide +kernel
theorem dX10_sheet_4 : decode cX10_sheet 4 = .ok (.ifCond .eq 22, 3) := by decide +kernel
theorem dX10_sheet_7 : decode cX10_sheet 7 = .ok (.iload_n 2, 1) := by decide +kernel
theorem dX10_sheet_8 : decode cX10_sheet 8 = .ok (.iconst (-1), 1) := by decide +kernel
theorem dX10_sheet_9 : decode cX10_sheet 9 = .ok (.iconst 3, 1) := by decide +kernel
theorem dX10_sheet_10 : decode cX10_sheet 10 = .ok (.invokestatic 97, 3) := by decide +kernel
theorem dX10_sheet_13 : decode cX10_sheet 13 = .ok (.ifCond .eq 13, 3) := by decide +kernel
theorem dX10_sheet_16 : decode cX10_sheet 16 = .ok (.iload_n 2, 1) := by decide +kernel
theorem dX10_sheet_17 : decode cX10_sheet 17 = .ok (.ifCond .lt 11, 3) := by decide +kernel
theorem dX10_sheet_20 : decode cX10_sheet 20 = .ok (.iload_n 3, 1) := by decide +kernel
theorem dX10_sheet_21 : decode cX10_sheet 21 = .ok (.bipush 40, 2) := by decide +kernel
theorem dX10_sheet_23 : decode cX10_sheet 23 = .ok (.if_icmp .le 5, 3) := by decide +kernel
theorem dX10_sheet_26 : decode cX10_sheet 26 = .ok (.iconst (-1), 1) := by decide +kernel
theorem dX10_sheet_27 : decode cX10_sheet 27 = .ok (.ireturn, 1) := by decide +kernel
theorem dX10_sheet_28 : decode cX10_sheet 28 = .ok (.iload_n 2, 1) := by decide +kernel
theorem dX10_sheet_29 : decode cX10_sheet 29 = .ok (.ifCond .lt 10, 3) := by decide +kernel
theorem dX10_sheet_32 : decode cX10_sheet 32 = .ok (.iload_n 3, 1) := by decide +kernel
theorem dX10_sheet_33 : decode cX10_sheet 33 = .ok (.ifCond .ge 6, 3) := by decide +kernel
theorem dX10_sheet_36 : decode cX10_sheet 36 = .ok (.bipush (-14), 2) := by decide +kernel
theorem dX10_sheet_38 : decode cX10_sheet 38 = .ok (.ireturn, 1) := by decide +kernel
theorem dX10_sheet_39 : decode cX10_sheet 39 = .ok (.aload_n 0, 1) := by decide +kernel
theorem dX10_sheet_40 : decode cX10_sheet 40 = .ok (.getfield 70, 3) := by decide +kernel
theorem dX10_sheet_43 : decode cX10_sheet 43 = .ok (.iload_n 1, 1) := by decide +kernel
theorem dX10_sheet_44 : decode cX10_sheet 44 = .ok (.iload_n 2, 1) := by decide +kernel
theorem dX10_sheet_45 : decode cX10_sheet 45 = .ok (.iastore, 1) := by decide +kernel
theorem dX10_sheet_46 : decode cX10_sheet 46 = .ok (.aload_n 0, 1) := by decide +kernel
theorem dX10_sheet_47 : decode cX10_sheet 47 = .ok (.getfield 73, 3) := by decide +kernel
theorem dX10_sheet_50 : decode cX10_sheet 50 = .ok (.iload_n 1, 1) := by decide +kernel
theorem dX10_sheet_51 : decode cX10_sheet 51 = .ok (.iload_n 2, 1) := by decide +kernel
theorem dX10_sheet_52 : decode cX10_sheet 52 = .ok (.ifCond .ge 7, 3) := by decide +kernel
theorem dX10_sheet_55 : decode cX10_sheet 55 = .ok (.iconst 0, 1) := by decide +kernel
theorem dX10_sheet_56 : decode cX10_sheet 56 = .ok (.goto 4, 3) := by decide +kernel
theorem dX10_sheet_59 : decode cX10_sheet 59 = .ok (.iload_n 3, 1) := by decide +kernel
theorem dX10_sheet_60 : decode cX10_sheet 60 = .ok (.iastore, 1) := by decide +kernel
theorem dX10_sheet_61 : decode cX10_sheet 61 = .ok (.iconst 0, 1) := by decide +kernel
theorem dX10_sheet_62 : decode cX10_sheet 62 = .ok (.istore 4, 2) := by decide +kernel
theorem dX10_sheet_64 : decode cX10_sheet 64 = .ok (.iload 4, 2) := by decide +kernel
theorem dX10_sheet_66 : decode cX10_sheet 66 = .ok (.bipush 40, 2) := by decide +kernel
theorem dX10_sheet_68 : decode cX10_sheet 68 = .ok (.if_icmp .ge 22, 3) := by decide +kernel
theorem dX10_sheet_71 : decode cX10_sheet 71 = .ok (.aload_n 0, 1) := by decide +kernel
theorem dX10_sheet_72 : decode cX10_sheet 72 = .ok (.getfield 76, 3) := by decide +kernel
theorem dX10_sheet_75 : decode cX10_sheet 75 = .ok (.bipush 40, 2) := by decide +kernel
theorem dX10_sheet_77 : decode cX10_sheet 77 = .ok (.iload_n 1, 1) := by decide +kernel
theorem dX10_sheet_78 : decode cX10_sheet 78 = .ok (.imul, 1) := by decide +kernel
theorem dX10_sheet_79 : decode cX10_sheet 79 = .ok (.iload 4, 2) := by decide +kernel
theorem dX10_sheet_81 : decode cX10_sheet 81 = .ok (.iadd, 1) := by decide +kernel
theorem dX10_sheet_82 : decode cX10_sheet 82 = .ok (.lconst 0, 1) := by decide +kernel
theorem dX10_sheet_83 : decode cX10_sheet 83 = .ok (.lastore, 1) := by decide +kernel
theorem dX10_sheet_84 : decode cX10_sheet 84 = .ok (.iinc 4 1, 3) := by decide +kernel
theorem dX10_sheet_87 : decode cX10_sheet 87 = .ok (.goto (-23), 3) := by decide +kernel
theorem dX10_sheet_90 : decode cX10_sheet 90 = .ok (.iconst 1, 1) := by decide +kernel
theorem dX10_sheet_91 : decode cX10_sheet 91 = .ok (.ireturn, 1) := by decide +kernel
set_option maxRecDepth 20000 in
theorem ggX10_put_X10_isShelf : GoodIn wsX10_put wsX10_isShelf := goodIn_r _ [7, 8, 9, 6, 10] (by decide +kernel) (by decide +kernel)
set_option maxRecDepth 20000 in
theorem gX10_put_X10_isShelf : GoodIn wsX10_put (va_wsS RX10 362 yX10_isShelf wsX10_isShelf) := goodIn_app (goodIn_of _ (by decide +kernel)) ggX10_put_X10_isShelf
set_option maxRecDepth 20000 in
theorem ggX10_put_X10_in : GoodIn wsX10_put wsX10_in := goodIn_r _ [10] (by decide +kernel) (by decide +kernel)
set_option maxRecDepth 20000 in
theorem gX10_put_X10_in : GoodIn wsX10_put (va_wsS RX10 97 yX10_in wsX10_in) := goodIn_app (goodIn_of _ (by decide +kernel)) ggX10_put_X10_in
theorem dX10_put_0 : decode cX10_put 0 = .ok (.iload_n 1, 1) := by decide +kernel
theorem dX10_put_1 : decode cX10_put 1 = .ok (.invokestatic 362, 3) := by decide +kernel
theorem dX10_put_4 : decode cX10_put 4 = .ok (.ifCond .ne 5, 3) := by decide +kernel
theorem dX10_put_7 : decode cX10_put 7 = .ok (.iconst (-1), 1) := by decide +kernel
theorem dX10_put_8 : decode cX10_put 8 = .ok (.ireturn, 1) := by decide +kernel
theorem dX10_put_9 : decode cX10_put 9 = .ok (.aload_n 0, 1) := by decide +kernel
theorem dX10_put_10 : decode cX10_put 10 = .ok (.getfield 70, 3) := by decide +kernel
theorem dX10_put_13 : decode cX10_put 13 = .ok (.iload_n 1, 1) := by decide +kernel
theorem dX10_put_14 : decode cX10_put 14 = .ok (.iaload, 1) := by decide +kernel
theorem dX10_put_15 : decode cX10_put 15 = .ok (.ifCond .ge 6, 3) := by decide +kernel
theorem dX10_put_18 : decode cX10_put 18 = .ok (.bipush (-11), 2) := by decide +kernel
theorem dX10_put_20 : decode cX10_put 20 = .ok (.ireturn, 1) := by decide +kernel
theorem dX10_put_21 : decode cX10_put 21 = .ok (.iload_n 2, 1) := by decide +kernel
theorem dX10_put_22 : decode cX10_put 22 = .ok (.iconst 0, 1) := by decide +kernel
theorem dX10_put_23 : decode cX10_put 23 = .ok (.aload_n 0, 1) := by decide +kernel
theorem dX10_put_24 : decode cX10_put 24 = .ok (.getfield 73, 3) := by decide +kernel
theorem dX10_put_27 : decode cX10_put 27 = .ok (.iload_n 1, 1) := by decide +kernel
theorem dX10_put_28 : decode cX10_put 28 = .ok (.iaload, 1) := by decide +kernel
theorem dX10_put_29 : decode cX10_put 29 = .ok (.iconst 1, 1) := by decide +kernel
theorem dX10_put_30 : decode cX10_put 30 = .ok (.isub, 1) := by decide +kernel
theorem dX10_put_31 : decode cX10_put 31 = .ok (.invokestatic 97, 3) := by decide +kernel
theorem dX10_put_34 : decode cX10_put 34 = .ok (.ifCond .ne 6, 3) := by decide +kernel
theorem dX10_put_37 : decode cX10_put 37 = .ok (.bipush (-12), 2) := by decide +kernel
theorem dX10_put_39 : decode cX10_put 39 = .ok (.ireturn, 1) := by decide +kernel
theorem dX10_put_40 : decode cX10_put 40 = .ok (.aload_n 0, 1) := by decide +kernel
theorem dX10_put_41 : decode cX10_put 41 = .ok (.getfield 76, 3) := by decide +kernel
theorem dX10_put_44 : decode cX10_put 44 = .ok (.bipush 40, 2) := by decide +kernel
theorem dX10_put_46 : decode cX10_put 46 = .ok (.iload_n 1, 1) := by decide +kernel
theorem dX10_put_47 : decode cX10_put 47 = .ok (.imul, 1) := by decide +kernel
theorem dX10_put_48 : decode cX10_put 48 = .ok (.iload_n 2, 1) := by decide +kernel
theorem dX10_put_49 : decode cX10_put 49 = .ok (.iadd, 1) := by decide +kernel
theorem dX10_put_50 : decode cX10_put 50 = .ok (.aload_n 0, 1) := by decide +kernel
theorem dX10_put_51 : decode cX10_put 51 = .ok (.getfield 70, 3) := by decide +kernel
theorem dX10_put_54 : decode cX10_put 54 = .ok (.iload_n 1, 1) := by decide +kernel
theorem dX10_put_55 : decode cX10_put 55 = .ok (.iaload, 1) := by decide +kernel
theorem dX10_put_56 : decode cX10_put 56 = .ok (.ifCond .ne 9, 3) := by decide +kernel
theorem dX10_put_59 : decode cX10_put 59 = .ok (.iload_n 3, 1) := by decide +kernel
theorem dX10_put_60 : decode cX10_put 60 = .ok (.i2b, 1) := by decide +kernel
theorem dX10_put_61 : decode cX10_put 61 = .ok (.i2l, 1) := by decide +kernel
theorem dX10_put_62 : decode cX10_put 62 = .ok (.goto 21, 3) := by decide +kernel
theorem dX10_put_65 : decode cX10_put 65 = .ok (.aload_n 0, 1) := by decide +kernel
theorem dX10_put_66 : decode cX10_put 66 = .ok (.getfield 70, 3) := by decide +kernel
theorem dX10_put_69 : decode cX10_put 69 = .ok (.iload_n 1, 1) := by decide +kernel
theorem dX10_put_70 : decode cX10_put 70 = .ok (.iaload, 1) := by decide +kernel
theorem dX10_put_71 : decode cX10_put 71 = .ok (.iconst 1, 1) := by decide +kernel
theorem dX10_put_72 : decode cX10_put 72 = .ok (.if_icmp .ne 9, 3) := by decide +kernel
theorem dX10_put_75 : decode cX10_put 75 = .ok (.iload_n 3, 1) := by decide +kernel
theorem dX10_put_76 : decode cX10_put 76 = .ok (.i2s, 1) := by decide +kernel
theorem dX10_put_77 : decode cX10_put 77 = .ok (.i2l, 1) := by decide +kernel
theorem dX10_put_78 : decode cX10_put 78 = .ok (.goto 5, 3) := by decide +kernel
theorem dX10_put_81 : decode cX10_put 81 = .ok (.iload_n 3, 1) := by decide +kernel
theorem dX10_put_82 : decode cX10_put 82 = .ok (.i2l, 1) := by decide +kernel
theorem dX10_put_83 : decode cX10_put 83 = .ok (.lastore, 1) := by decide +kernel
theorem dX10_put_84 : decode cX10_put 84 = .ok (.iconst 1, 1) := by decide +kernel
theorem dX10_put_85 : decode cX10_put 85 = .ok (.ireturn, 1) := by decide +kernel
theorem dX10_lacksSort_0 : decode cX10_lacksSort 0 = .ok (.aload_n 0, 1) := by decide +kernel
theorem dX10_lacksSort_1 : decode cX10_lacksSort 1 = .ok (.getfield 70, 3) := by decide +kernel
theorem dX10_lacksSort_4 : decode cX10_lacksSort 4 = .ok (.iload_n 1, 1) := by decide +kernel
theorem dX10_lacksSort_5 : decode cX10_lacksSort 5 = .ok (.iaload, 1) := by decide +kernel
theorem dX10_lacksSort_6 : decode cX10_lacksSort 6 = .ok (.ifCond .ge 8, 3) := by decide +kernel
theorem dX10_lacksSort_9 : decode cX10_lacksSort 9 = .ok (.bipush (-11), 2) := by decide +kernel
theorem dX10_lacksSort_11 : decode cX10_lacksSort 11 = .ok (.goto 19, 3) := by decide +kernel
theorem dX10_lacksSort_14 : decode cX10_lacksSort 14 = .ok (.aload_n 0, 1) := by decide +kernel
theorem dX10_lacksSort_15 : decode cX10_lacksSort 15 = .ok (.getfield 70, 3) := by decide +kernel
theorem dX10_lacksSort_18 : decode cX10_lacksSort 18 = .ok (.iload_n 1, 1) := by decide +kernel
theorem dX10_lacksSort_19 : decode cX10_lacksSort 19 = .ok (.iaload, 1) := by decide +kernel
theorem dX10_lacksSort_20 : decode cX10_lacksSort 20 = .ok (.iload_n 2, 1) := by decide +kernel
theorem dX10_lacksSort_21 : decode cX10_lacksSort 21 = .ok (.if_icmp .eq 8, 3) := by decide +kernel
theorem dX10_lacksSort_24 : decode cX10_lacksSort 24 = .ok (.bipush (-13), 2) := by decide +kernel
theorem dX10_lacksSort_26 : decode cX10_lacksSort 26 = .ok (.goto 4, 3) := by decide +kernel
theorem dX10_lacksSort_29 : decode cX10_lacksSort 29 = .ok (.iconst 0, 1) := by decide +kernel
theorem dX10_lacksSort_30 : decode cX10_lacksSort 30 = .ok (.ireturn, 1) := by decide +kernel
set_option maxRecDepth 20000 in
theorem ggX10_item_X10_isShelf : GoodIn wsX10_item wsX10_isShelf := goodIn_r _ [6, 7, 8, 5, 9] (by decide +kernel) (by decide +kernel)
set_option maxRecDepth 20000 in
theorem gX10_item_X10_isShelf : GoodIn wsX10_item (va_wsS RX10 362 yX10_isShelf wsX10_isShelf) := goodIn_app (goodIn_of _ (by decide +kernel)) ggX10_item_X10_isShelf
set_option maxRecDepth 20000 in
theorem ggX10_item_X10_in : GoodIn wsX10_item wsX10_in := goodIn_r _ [9] (by decide +kernel) (by decide +kernel)
set_option maxRecDepth 20000 in
theorem gX10_item_X10_in : GoodIn wsX10_item (va_wsS RX10 97 yX10_in wsX10_in) := goodIn_app (goodIn_of _ (by decide +kernel)) ggX10_item_X10_in
set_option maxRecDepth 20000 in
theorem ggX10_item_X10_lacksSort : GoodIn wsX10_item wsX10_lacksSort := goodIn_r _ [13, 14, 15, 16, 17, 18, 19, 20, 21, 22, 23, 24, 25, 26, 27, 28, 29, 30, 31, 32, 33, 34, 35, 36, 37, 38, 39, 40, 41, 42, 43, 44, 45, 46, 47, 48, 49, 50, 51, 52, 53, 54, 55, 56, 57, 58, 59, 60, 61, 62, 63, 64, 65, 66, 67, 68] (by decide +kernel) (by decide +kernel)
set_option maxRecDepth 20000 in
theorem gX10_item_X10_lacksSort : GoodIn wsX10_item (wsV RX10 365 RX10 yX10_lacksSort wsX10_lacksSort) := goodIn_app (goodIn_of _ (by decide +kernel)) ggX10_item_X10_lacksSort
theorem dX10_item_0 : decode cX10_item 0 = .ok (.iload_n 1, 1) := by decide +kernel
theorem dX10_item_1 : decode cX10_item 1 = .ok (.invokestatic 362, 3) := by decide +kernel
theorem dX10_item_4 : decode cX10_item 4 = .ok (.ifCond .eq 12, 3) := by decide +kernel
theorem dX10_item_7 : decode cX10_item 7 = .ok (.iload_n 2, 1) := by decide +kernel
theorem dX10_item_8 : decode cX10_item 8 = .ok (.iconst 0, 1) := by decide +kernel
theorem dX10_item_9 : decode cX10_item 9 = .ok (.iconst 3, 1) := by decide +kernel
theorem dX10_item_10 : decode cX10_item 10 = .ok (.invokestatic 97, 3) := by decide +kernel
theorem dX10_item_13 : decode cX10_item 13 = .ok (.ifCond .ne 5, 3) := by decide +kernel
theorem dX10_item_16 : decode cX10_item 16 = .ok (.iconst (-1), 1) := by decide +kernel
theorem dX10_item_17 : decode cX10_item 17 = .ok (.ireturn, 1) := by decide +kernel
theorem dX10_item_18 : decode cX10_item 18 = .ok (.aload_n 0, 1) := by decide +kernel
theorem dX10_item_19 : decode cX10_item 19 = .ok (.iload_n 1, 1) := by decide +kernel
theorem dX10_item_20 : decode cX10_item 20 = .ok (.iload_n 2, 1) := by decide +kernel
theorem dX10_item_21 : decode cX10_item 21 = .ok (.invokevirtual 365, 3) := by decide +kernel
theorem dX10_item_24 : decode cX10_item 24 = .ok (.istore 4, 2) := by decide +kernel
theorem dX10_item_26 : decode cX10_item 26 = .ok (.iload 4, 2) := by decide +kernel
theorem dX10_item_28 : decode cX10_item 28 = .ok (.ifCond .eq 6, 3) := by decide +kernel
theorem dX10_item_31 : decode cX10_item 31 = .ok (.iload 4, 2) := by decide +kernel
theorem dX10_item_33 : decode cX10_item 33 = .ok (.ireturn, 1) := by decide +kernel
theorem dX10_item_34 : decode cX10_item 34 = .ok (.iload_n 3, 1) := by decide +kernel
theorem dX10_item_35 : decode cX10_item 35 = .ok (.iconst 0, 1) := by decide +kernel
theorem dX10_item_36 : decode cX10_item 36 = .ok (.aload_n 0, 1) := by decide +kernel
theorem dX10_item_37 : decode cX10_item 37 = .ok (.getfield 73, 3) := by decide +kernel
theorem dX10_item_40 : decode cX10_item 40 = .ok (.iload_n 1, 1) := by decide +kernel
theorem dX10_item_41 : decode cX10_item 41 = .ok (.iaload, 1) := by decide +kernel
theorem dX10_item_42 : decode cX10_item 42 = .ok (.iconst 1, 1) := by decide +kernel
theorem dX10_item_43 : decode cX10_item 43 = .ok (.isub, 1) := by decide +kernel
theorem dX10_item_44 : decode cX10_item 44 = .ok (.invokestatic 97, 3) := by decide +kernel
theorem dX10_item_47 : decode cX10_item 47 = .ok (.ifCond .eq 18, 3) := by decide +kernel
theorem dX10_item_50 : decode cX10_item 50 = .ok (.aload_n 0, 1) := by decide +kernel
theorem dX10_item_51 : decode cX10_item 51 = .ok (.getfield 76, 3) := by decide +kernel
theorem dX10_item_54 : decode cX10_item 54 = .ok (.bipush 40, 2) := by decide +kernel
theorem dX10_item_56 : decode cX10_item 56 = .ok (.iload_n 1, 1) := by decide +kernel
theorem dX10_item_57 : decode cX10_item 57 = .ok (.imul, 1) := by decide +kernel
theorem dX10_item_58 : decode cX10_item 58 = .ok (.iload_n 3, 1) := by decide +kernel
theorem dX10_item_59 : decode cX10_item 59 = .ok (.iadd, 1) := by decide +kernel
theorem dX10_item_60 : decode cX10_item 60 = .ok (.laload, 1) := by decide +kernel
theorem dX10_item_61 : decode cX10_item 61 = .ok (.l2i, 1) := by decide +kernel
theorem dX10_item_62 : decode cX10_item 62 = .ok (.goto 5, 3) := by decide +kernel
theorem dX10_item_65 : decode cX10_item 65 = .ok (.bipush (-12), 2) := by decide +kernel
theorem dX10_item_67 : decode cX10_item 67 = .ok (.ireturn, 1) := by decide +kernel
set_option maxRecDepth 20000 in
theorem ggX10_isHeld_X10_isCut : GoodIn wsX10_isHeld wsX10_isCut := goodIn_r _ [5, 6, 7, 8, 4, 9, 13, 14, 15, 16, 17, 18, 19, 20, 21, 22, 23, 24, 25, 26, 27, 28, 29, 30, 31, 32, 33, 34, 35, 36, 37, 38, 39, 40, 41, 42, 43, 44, 45, 46, 47, 48, 49, 50, 51, 52, 53, 54, 55, 56, 57, 58, 59, 60, 61, 62, 63, 64, 65, 66] (by decide +kernel) (by decide +kernel)
set_option maxRecDepth 20000 in
theorem gX10_isHeld_X10_isCut : GoodIn wsX10_isHeld (wsV RX10 251 RX10 yX10_isCut wsX10_isCut) := goodIn_app (goodIn_of _ (by decide +kernel)) ggX10_isHeld_X10_isCut
set_option maxRecDepth 20000 in
theorem ggX10_isHeld_X10_isShelf : GoodIn wsX10_isHeld wsX10_isShelf := goodIn_r _ [12, 7, 8, 4, 9] (by decide +kernel) (by decide +kernel)
set_option maxRecDepth 20000 in
theorem gX10_isHeld_X10_isShelf : GoodIn wsX10_isHeld (va_wsS RX10 362 yX10_isShelf wsX10_isShelf) := goodIn_app (goodIn_of _ (by decide +kernel)) ggX10_isHeld_X10_isShelf
theorem dX10_isHeld_0 : decode cX10_isHeld 0 = .ok (.iload_n 1, 1) := by decide +kernel
theorem dX10_isHeld_1 : decode cX10_isHeld 1 = .ok (.ifCond .ne 11, 3) := by decide +kernel
theorem dX10_isHeld_4 : decode cX10_isHeld 4 = .ok (.aload_n 0, 1) := by decide +kernel
theorem dX10_isHeld_5 : decode cX10_isHeld 5 = .ok (.iload_n 2, 1) := by decide +kernel
theorem dX10_isHeld_6 : decode cX10_isHeld 6 = .ok (.invokevirtual 251, 3) := by decide +kernel
theorem dX10_isHeld_9 : decode cX10_isHeld 9 = .ok (.goto 25, 3) := by decide +kernel
theorem dX10_isHeld_12 : decode cX10_isHeld 12 = .ok (.iload_n 1, 1) := by decide +kernel
theorem dX10_isHeld_13 : decode cX10_isHeld 13 = .ok (.iconst 1, 1) := by decide +kernel
theorem dX10_isHeld_14 : decode cX10_isHeld 14 = .ok (.if_icmp .ne 10, 3) := by decide +kernel
theorem dX10_isHeld_17 : decode cX10_isHeld 17 = .ok (.iload_n 2, 1) := by decide +kernel
theorem dX10_isHeld_18 : decode cX10_isHeld 18 = .ok (.invokestatic 362, 3) := by decide +kernel
theorem dX10_isHeld_21 : decode cX10_isHeld 21 = .ok (.goto 13, 3) := by decide +kernel
theorem dX10_isHeld_24 : decode cX10_isHeld 24 = .ok (.iload_n 1, 1) := by decide +kernel
theorem dX10_isHeld_25 : decode cX10_isHeld 25 = .ok (.iconst 2, 1) := by decide +kernel
theorem dX10_isHeld_26 : decode cX10_isHeld 26 = .ok (.if_icmp .ne 7, 3) := by decide +kernel
theorem dX10_isHeld_29 : decode cX10_isHeld 29 = .ok (.iconst 1, 1) := by decide +kernel
theorem dX10_isHeld_30 : decode cX10_isHeld 30 = .ok (.goto 4, 3) := by decide +kernel
theorem dX10_isHeld_33 : decode cX10_isHeld 33 = .ok (.iconst 0, 1) := by decide +kernel
theorem dX10_isHeld_34 : decode cX10_isHeld 34 = .ok (.ireturn, 1) := by decide +kernel
set_option maxRecDepth 20000 in
theorem ggX10_shelf_X10_isShelf : GoodIn wsX10_shelf wsX10_isShelf := goodIn_r _ [9, 10, 11, 8, 12] (by decide +kernel) (by decide +kernel)
set_option maxRecDepth 20000 in
theorem gX10_shelf_X10_isShelf : GoodIn wsX10_shelf (va_wsS RX10 362 yX10_isShelf wsX10_isShelf) := goodIn_app (goodIn_of _ (by decide +kernel)) ggX10_shelf_X10_isShelf
set_option maxRecDepth 20000 in
theorem ggX10_shelf_X10_isHeld : GoodIn wsX10_shelf wsX10_isHeld := goodIn_r _ [16, 17, 18, 19, 8, 20, 21, 10, 11, 12, 6, 7, 9, 22, 23, 24, 25, 26, 27, 28, 29, 30, 31, 32, 33, 34, 35, 36, 37, 38, 39, 40, 41, 42, 43, 44, 45, 46, 47, 48, 49, 50, 51, 52, 53, 54, 55, 56, 57, 58, 59, 60, 61, 62, 63, 64, 65, 66, 67, 68, 69, 70, 71, 72, 73, 74, 75] (by decide +kernel) (by decide +kernel)
set_option maxRecDepth 20000 in
theorem gX10_shelf_X10_isHeld : GoodIn wsX10_shelf (wsV RX10 368 RX10 yX10_isHeld wsX10_isHeld) := goodIn_app (goodIn_of _ (by decide +kernel)) ggX10_shelf_X10_isHeld
theorem dX10_shelf_0 : decode cX10_shelf 0 = .ok (.iload_n 1, 1) := by decide +kernel
theorem dX10_shelf_1 : decode cX10_shelf 1 = .ok (.invokestatic 362, 3) := by decide +kernel
theorem dX10_shelf_4 : decode cX10_shelf 4 = .ok (.ifCond .eq 12, 3) := by decide +kernel
theorem dX10_shelf_7 : decode cX10_shelf 7 = .ok (.aload_n 0, 1) := by decide +kernel
theorem dX10_shelf_8 : decode cX10_shelf 8 = .ok (.iload_n 2, 1) := by decide +kernel
theorem dX10_shelf_9 : decode cX10_shelf 9 = .ok (.iload_n 3, 1) := by decide +kernel
theorem dX10_shelf_10 : decode cX10_shelf 10 = .ok (.invokevirtual 368, 3) := by decide +kernel
theorem dX10_shelf_13 : decode cX10_shelf 13 = .ok (.ifCond .ne 5, 3) := by decide +kernel
theorem dX10_shelf_16 : decode cX10_shelf 16 = .ok (.iconst (-1), 1) := by decide +kernel
theorem dX10_shelf_17 : decode cX10_shelf 17 = .ok (.ireturn, 1) := by decide +kernel
theorem dX10_shelf_18 : decode cX10_shelf 18 = .ok (.aload_n 0, 1) := by decide +kernel
theorem dX10_shelf_19 : decode cX10_shelf 19 = .ok (.getfield 79, 3) := by decide +kernel
theorem dX10_shelf_22 : decode cX10_shelf 22 = .ok (.iload_n 1, 1) := by decide +kernel
theorem dX10_shelf_23 : decode cX10_shelf 23 = .ok (.iload_n 2, 1) := by decide +kernel
theorem dX10_shelf_24 : decode cX10_shelf 24 = .ok (.iconst 2, 1) := by decide +kernel
theorem dX10_shelf_25 : decode cX10_shelf 25 = .ok (.if_icmp .eq 17, 3) := by decide +kernel
theorem dX10_shelf_28 : decode cX10_shelf 28 = .ok (.iload_n 2, 1) := by decide +kernel
theorem dX10_shelf_29 : decode cX10_shelf 29 = .ok (.iconst 1, 1) := by decide +kernel
theorem dX10_shelf_30 : decode cX10_shelf 30 = .ok (.if_icmp .ne 16, 3) := by decide +kernel
theorem dX10_shelf_33 : decode cX10_shelf 33 = .ok (.aload_n 0, 1) := by decide +kernel
theorem dX10_shelf_34 : decode cX10_shelf 34 = .ok (.getfield 70, 3) := by decide +kernel
theorem dX10_shelf_37 : decode cX10_shelf 37 = .ok (.iload_n 3, 1) := by decide +kernel
theorem dX10_shelf_38 : decode cX10_shelf 38 = .ok (.iaload, 1) := by decide +kernel
theorem dX10_shelf_39 : decode cX10_shelf 39 = .ok (.ifCond .ge 7, 3) := by decide +kernel
theorem dX10_shelf_42 : decode cX10_shelf 42 = .ok (.iconst (-1), 1) := by decide +kernel
theorem dX10_shelf_43 : decode cX10_shelf 43 = .ok (.goto 4, 3) := by decide +kernel
theorem dX10_shelf_46 : decode cX10_shelf 46 = .ok (.iload_n 2, 1) := by decide +kernel
theorem dX10_shelf_47 : decode cX10_shelf 47 = .ok (.iastore, 1) := by decide +kernel
theorem dX10_shelf_48 : decode cX10_shelf 48 = .ok (.aload_n 0, 1) := by decide +kernel
theorem dX10_shelf_49 : decode cX10_shelf 49 = .ok (.getfield 82, 3) := by decide +kernel
theorem dX10_shelf_52 : decode cX10_shelf 52 = .ok (.iload_n 1, 1) := by decide +kernel
theorem dX10_shelf_53 : decode cX10_shelf 53 = .ok (.iload_n 2, 1) := by decide +kernel
theorem dX10_shelf_54 : decode cX10_shelf 54 = .ok (.iconst 1, 1) := by decide +kernel
theorem dX10_shelf_55 : decode cX10_shelf 55 = .ok (.if_icmp .ne 12, 3) := by decide +kernel
theorem dX10_shelf_58 : decode cX10_shelf 58 = .ok (.aload_n 0, 1) := by decide +kernel
theorem dX10_shelf_59 : decode cX10_shelf 59 = .ok (.getfield 70, 3) := by decide +kernel
theorem dX10_shelf_62 : decode cX10_shelf 62 = .ok (.iload_n 3, 1) := by decide +kernel
theorem dX10_shelf_63 : decode cX10_shelf 63 = .ok (.iaload, 1) := by decide +kernel
theorem dX10_shelf_64 : decode cX10_shelf 64 = .ok (.goto 4, 3) := by decide +kernel
theorem dX10_shelf_67 : decode cX10_shelf 67 = .ok (.iload_n 3, 1) := by decide +kernel
theorem dX10_shelf_68 : decode cX10_shelf 68 = .ok (.iastore, 1) := by decide +kernel
theorem dX10_shelf_69 : decode cX10_shelf 69 = .ok (.aload_n 0, 1) := by decide +kernel
theorem dX10_shelf_70 : decode cX10_shelf 70 = .ok (.getfield 85, 3) := by decide +kernel
theorem dX10_shelf_73 : decode cX10_shelf 73 = .ok (.iload_n 1, 1) := by decide +kernel
theorem dX10_shelf_74 : decode cX10_shelf 74 = .ok (.iload_n 2, 1) := by decide +kernel
theorem dX10_shelf_75 : decode cX10_shelf 75 = .ok (.iconst 1, 1) := by decide +kernel
theorem dX10_shelf_76 : decode cX10_shelf 76 = .ok (.if_icmp .ne 12, 3) := by decide +kernel
theorem dX10_shelf_79 : decode cX10_shelf 79 = .ok (.aload_n 0, 1) := by decide +kernel
theorem dX10_shelf_80 : decode cX10_shelf 80 = .ok (.getfield 73, 3) := by decide +kernel
theorem dX10_shelf_83 : decode cX10_shelf 83 = .ok (.iload_n 3, 1) := by decide +kernel
theorem dX10_shelf_84 : decode cX10_shelf 84 = .ok (.iaload, 1) := by decide +kernel
theorem dX10_shelf_85 : decode cX10_shelf 85 = .ok (.goto 4, 3) := by decide +kernel
theorem dX10_shelf_88 : decode cX10_shelf 88 = .ok (.iconst 0, 1) := by decide +kernel
theorem dX10_shelf_89 : decode cX10_shelf 89 = .ok (.iastore, 1) := by decide +kernel
theorem dX10_shelf_90 : decode cX10_shelf 90 = .ok (.iconst 1, 1) := by decide +kernel
theorem dX10_shelf_91 : decode cX10_shelf 91 = .ok (.ireturn, 1) := by decide +kernel
set_option maxRecDepth 20000 in
theorem ggX10_kindOn_X10_isCut : GoodIn wsX10_kindOn wsX10_isCut := goodIn_r _ [8, 9, 10, 11, 7, 12, 13, 14, 15, 16, 17, 18, 19, 20, 21, 22, 23, 24, 25, 26, 27, 28, 29, 30, 31, 32, 33, 34, 35, 36, 37, 38, 39, 40, 41, 42, 43, 44, 45, 46, 47, 48, 49, 50, 51, 52, 53, 54, 55, 56, 57, 58, 59, 60, 61, 62, 63, 64, 65, 66] (by decide +kernel) (by decide +kernel)
set_option maxRecDepth 20000 in
theorem gX10_kindOn_X10_isCut : GoodIn wsX10_kindOn (wsV RX10 251 RX10 yX10_isCut wsX10_isCut) := goodIn_app (goodIn_of _ (by decide +kernel)) ggX10_kindOn_X10_isCut
theorem dX10_kindOn_0 : decode cX10_kindOn 0 = .ok (.aload_n 0, 1) := by decide +kernel
theorem dX10_kindOn_1 : decode cX10_kindOn 1 = .ok (.getfield 79, 3) := by decide +kernel
theorem dX10_kindOn_4 : decode cX10_kindOn 4 = .ok (.iload_n 1, 1) := by decide +kernel
theorem dX10_kindOn_5 : decode cX10_kindOn 5 = .ok (.iaload, 1) := by decide +kernel
theorem dX10_kindOn_6 : decode cX10_kindOn 6 = .ok (.ifCond .eq 19, 3) := by decide +kernel
theorem dX10_kindOn_9 : decode cX10_kindOn 9 = .ok (.aload_n 0, 1) := by decide +kernel
theorem dX10_kindOn_10 : decode cX10_kindOn 10 = .ok (.getfield 79, 3) := by decide +kernel
theorem dX10_kindOn_13 : decode cX10_kindOn 13 = .ok (.iload_n 1, 1) := by decide +kernel
theorem dX10_kindOn_14 : decode cX10_kindOn 14 = .ok (.iaload, 1) := by decide +kernel
theorem dX10_kindOn_15 : decode cX10_kindOn 15 = .ok (.ifCond .ge 7, 3) := by decide +kernel
theorem dX10_kindOn_18 : decode cX10_kindOn 18 = .ok (.iconst (-1), 1) := by decide +kernel
theorem dX10_kindOn_19 : decode cX10_kindOn 19 = .ok (.goto 5, 3) := by decide +kernel
theorem dX10_kindOn_22 : decode cX10_kindOn 22 = .ok (.bipush 9, 2) := by decide +kernel
theorem dX10_kindOn_24 : decode cX10_kindOn 24 = .ok (.ireturn, 1) := by decide +kernel
theorem dX10_kindOn_25 : decode cX10_kindOn 25 = .ok (.aload_n 0, 1) := by decide +kernel
theorem dX10_kindOn_26 : decode cX10_kindOn 26 = .ok (.aload_n 0, 1) := by decide +kernel
theorem dX10_kindOn_27 : decode cX10_kindOn 27 = .ok (.getfield 82, 3) := by decide +kernel
theorem dX10_kindOn_30 : decode cX10_kindOn 30 = .ok (.iload_n 1, 1) := by decide +kernel
theorem dX10_kindOn_31 : decode cX10_kindOn 31 = .ok (.iaload, 1) := by decide +kernel
theorem dX10_kindOn_32 : decode cX10_kindOn 32 = .ok (.invokevirtual 251, 3) := by decide +kernel
theorem dX10_kindOn_35 : decode cX10_kindOn 35 = .ok (.ifCond .eq 19, 3) := by decide +kernel
theorem dX10_kindOn_38 : decode cX10_kindOn 38 = .ok (.aload_n 0, 1) := by decide +kernel
theorem dX10_kindOn_39 : decode cX10_kindOn 39 = .ok (.getfield 20, 3) := by decide +kernel
theorem dX10_kindOn_42 : decode cX10_kindOn 42 = .ok (.iconst 3, 1) := by decide +kernel
theorem dX10_kindOn_43 : decode cX10_kindOn 43 = .ok (.aload_n 0, 1) := by decide +kernel
theorem dX10_kindOn_44 : decode cX10_kindOn 44 = .ok (.getfield 82, 3) := by decide +kernel
theorem dX10_kindOn_47 : decode cX10_kindOn 47 = .ok (.iload_n 1, 1) := by decide +kernel
theorem dX10_kindOn_48 : decode cX10_kindOn 48 = .ok (.iaload, 1) := by decide +kernel
theorem dX10_kindOn_49 : decode cX10_kindOn 49 = .ok (.imul, 1) := by decide +kernel
theorem dX10_kindOn_50 : decode cX10_kindOn 50 = .ok (.iaload, 1) := by decide +kernel
theorem dX10_kindOn_51 : decode cX10_kindOn 51 = .ok (.goto 4, 3) := by decide +kernel
theorem dX10_kindOn_54 : decode cX10_kindOn 54 = .ok (.iconst (-1), 1) := by decide +kernel
theorem dX10_kindOn_55 : decode cX10_kindOn 55 = .ok (.ireturn, 1) := by decide +kernel
theorem dX10_isUnder_0 : decode cX10_isUnder 0 = .ok (.iload_n 1, 1) := by decide +kernel
theorem dX10_isUnder_1 : decode cX10_isUnder 1 = .ok (.ifCond .eq 43, 3) := by decide +kernel
theorem dX10_isUnder_4 : decode cX10_isUnder 4 = .ok (.iload_n 1, 1) := by decide +kernel
theorem dX10_isUnder_5 : decode cX10_isUnder 5 = .ok (.iload_n 0, 1) := by decide +kernel
theorem dX10_isUnder_6 : decode cX10_isUnder 6 = .ok (.if_icmp .eq 38, 3) := by decide +kernel
theorem dX10_isUnder_9 : decode cX10_isUnder 9 = .ok (.iload_n 1, 1) := by decide +kernel
theorem dX10_isUnder_10 : decode cX10_isUnder 10 = .ok (.iconst 1, 1) := by decide +kernel
theorem dX10_isUnder_11 : decode cX10_isUnder 11 = .ok (.if_icmp .ne 8, 3) := by decide +kernel
theorem dX10_isUnder_14 : decode cX10_isUnder 14 = .ok (.iload_n 0, 1) := by decide +kernel
theorem dX10_isUnder_15 : decode cX10_isUnder 15 = .ok (.iconst 4, 1) := by decide +kernel
theorem dX10_isUnder_16 : decode cX10_isUnder 16 = .ok (.if_icmp .eq 28, 3) := by decide +kernel
theorem dX10_isUnder_19 : decode cX10_isUnder 19 = .ok (.iload_n 1, 1) := by decide +kernel
theorem dX10_isUnder_20 : decode cX10_isUnder 20 = .ok (.iconst 2, 1) := by decide +kernel
theorem dX10_isUnder_21 : decode cX10_isUnder 21 = .ok (.if_icmp .ne 13, 3) := by decide +kernel
theorem dX10_isUnder_24 : decode cX10_isUnder 24 = .ok (.iload_n 0, 1) := by decide +kernel
theorem dX10_isUnder_25 : decode cX10_isUnder 25 = .ok (.iconst 3, 1) := by decide +kernel
theorem dX10_isUnder_26 : decode cX10_isUnder 26 = .ok (.if_icmp .eq 18, 3) := by decide +kernel
theorem dX10_isUnder_29 : decode cX10_isUnder 29 = .ok (.iload_n 0, 1) := by decide +kernel
theorem dX10_isUnder_30 : decode cX10_isUnder 30 = .ok (.iconst 5, 1) := by decide +kernel
theorem dX10_isUnder_31 : decode cX10_isUnder 31 = .ok (.if_icmp .eq 13, 3) := by decide +kernel
theorem dX10_isUnder_34 : decode cX10_isUnder 34 = .ok (.iload_n 1, 1) := by decide +kernel
theorem dX10_isUnder_35 : decode cX10_isUnder 35 = .ok (.iconst 3, 1) := by decide +kernel
theorem dX10_isUnder_36 : decode cX10_isUnder 36 = .ok (.if_icmp .ne 12, 3) := by decide +kernel
theorem dX10_isUnder_39 : decode cX10_isUnder 39 = .ok (.iload_n 0, 1) := by decide +kernel
theorem dX10_isUnder_40 : decode cX10_isUnder 40 = .ok (.iconst 5, 1) := by decide +kernel
theorem dX10_isUnder_41 : decode cX10_isUnder 41 = .ok (.if_icmp .ne 7, 3) := by decide +kernel
theorem dX10_isUnder_44 : decode cX10_isUnder 44 = .ok (.iconst 1, 1) := by decide +kernel
theorem dX10_isUnder_45 : decode cX10_isUnder 45 = .ok (.goto 4, 3) := by decide +kernel
theorem dX10_isUnder_48 : decode cX10_isUnder 48 = .ok (.iconst 0, 1) := by decide +kernel
theorem dX10_isUnder_49 : decode cX10_isUnder 49 = .ok (.ireturn, 1) := by decide +kernel
set_option maxRecDepth 20000 in
theorem ggX10_taken_X10_isShelf : GoodIn wsX10_taken wsX10_isShelf := goodIn_r _ [6, 7, 8, 5, 9] (by decide +kernel) (by decide +kernel)
set_option maxRecDepth 20000 in
theorem gX10_taken_X10_isShelf : GoodIn wsX10_taken (va_wsS RX10 362 yX10_isShelf wsX10_isShelf) := goodIn_app (goodIn_of _ (by decide +kernel)) ggX10_taken_X10_isShelf
set_option maxRecDepth 20000 in
theorem ggX10_taken_X10_in : GoodIn wsX10_taken wsX10_in := goodIn_r _ [9] (by decide +kernel) (by decide +kernel)
set_option maxRecDepth 20000 in
theorem gX10_taken_X10_in : GoodIn wsX10_taken (va_wsS RX10 97 yX10_in wsX10_in) := goodIn_app (goodIn_of _ (by decide +kernel)) ggX10_taken_X10_in
set_option maxRecDepth 20000 in
theorem ggX10_taken_X10_kindOn : GoodIn wsX10_taken wsX10_kindOn := goodIn_r _ [13, 14, 1, 15, 16, 17, 18, 5, 19, 20, 7, 8, 9, 24, 25, 26, 27, 28, 29, 30, 31, 32, 33, 34, 35, 36, 37, 38, 39, 40, 41, 42, 43, 44, 45, 46, 47, 48, 49, 50, 51, 52, 53, 54, 55, 56, 57, 58, 59, 60, 61, 62, 63, 64, 65, 66, 67, 68, 69, 70, 71, 72, 73, 74, 75, 76, 77] (by decide +kernel) (by decide +kernel)
set_option maxRecDepth 20000 in
theorem gX10_taken_X10_kindOn : GoodIn wsX10_taken (wsV RX10 371 RX10 yX10_kindOn wsX10_kindOn) := goodIn_app (goodIn_of _ (by decide +kernel)) ggX10_taken_X10_kindOn
set_option maxRecDepth 20000 in
theorem ggX10_taken_X10_isUnder : GoodIn wsX10_taken wsX10_isUnder := goodIn_r _ [23] (by decide +kernel) (by decide +kernel)
set_option maxRecDepth 20000 in
theorem gX10_taken_X10_isUnder : GoodIn wsX10_taken (va_wsS RX10 374 yX10_isUnder wsX10_isUnder) := goodIn_app (goodIn_of _ (by decide +kernel)) ggX10_taken_X10_isUnder
theorem dX10_taken_0 : decode cX10_taken 0 = .ok (.iload_n 1, 1) := by decide +kernel
theorem dX10_taken_1 : decode cX10_taken 1 = .ok (.invokestatic 362, 3) := by decide +kernel
theorem dX10_taken_4 : decode cX10_taken 4 = .ok (.ifCond .eq 24, 3) := by decide +kernel
theorem dX10_taken_7 : decode cX10_taken 7 = .ok (.iload_n 2, 1) := by decide +kernel
