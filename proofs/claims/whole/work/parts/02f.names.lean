theorem dX9_shelf_1 : decode cX9_shelf 1 = .ok (.invokestatic 309, 3) := by decide +kernel
theorem dX9_shelf_4 : decode cX9_shelf 4 = .ok (.ifCond .eq 12, 3) := by decide +kernel
theorem dX9_shelf_7 : decode cX9_shelf 7 = .ok (.iload_n 2, 1) := by decide +kernel
theorem dX9_shelf_8 : decode cX9_shelf 8 = .ok (.ifCond .lt 8, 3) := by decide +kernel
theorem dX9_shelf_11 : decode cX9_shelf 11 = .ok (.iload_n 2, 1) := by decide +kernel
theorem dX9_shelf_12 : decode cX9_shelf 12 = .ok (.iconst 2, 1) := by decide +kernel
theorem dX9_shelf_13 : decode cX9_shelf 13 = .ok (.if_icmp .le 5, 3) := by decide +kernel
theorem dX9_shelf_16 : decode cX9_shelf 16 = .ok (.iconst (-1), 1) := by decide +kernel
theorem dX9_shelf_17 : decode cX9_shelf 17 = .ok (.ireturn, 1) := by decide +kernel
theorem dX9_shelf_18 : decode cX9_shelf 18 = .ok (.iload_n 2, 1) := by decide +kernel
theorem dX9_shelf_19 : decode cX9_shelf 19 = .ok (.ifCond .ne 14, 3) := by decide +kernel
theorem dX9_shelf_22 : decode cX9_shelf 22 = .ok (.aload_n 0, 1) := by decide +kernel
theorem dX9_shelf_23 : decode cX9_shelf 23 = .ok (.getfield 10, 3) := by decide +kernel
theorem dX9_shelf_26 : decode cX9_shelf 26 = .ok (.iload_n 3, 1) := by decide +kernel
theorem dX9_shelf_27 : decode cX9_shelf 27 = .ok (.invokevirtual 162, 3) := by decide +kernel
theorem dX9_shelf_30 : decode cX9_shelf 30 = .ok (.ifCond .eq 15, 3) := by decide +kernel
theorem dX9_shelf_33 : decode cX9_shelf 33 = .ok (.iload_n 2, 1) := by decide +kernel
theorem dX9_shelf_34 : decode cX9_shelf 34 = .ok (.iconst 1, 1) := by decide +kernel
theorem dX9_shelf_35 : decode cX9_shelf 35 = .ok (.if_icmp .ne 12, 3) := by decide +kernel
theorem dX9_shelf_38 : decode cX9_shelf 38 = .ok (.iload_n 3, 1) := by decide +kernel
theorem dX9_shelf_39 : decode cX9_shelf 39 = .ok (.invokestatic 309, 3) := by decide +kernel
theorem dX9_shelf_42 : decode cX9_shelf 42 = .ok (.ifCond .ne 5, 3) := by decide +kernel
theorem dX9_shelf_45 : decode cX9_shelf 45 = .ok (.iconst (-1), 1) := by decide +kernel
theorem dX9_shelf_46 : decode cX9_shelf 46 = .ok (.ireturn, 1) := by decide +kernel
theorem dX9_shelf_47 : decode cX9_shelf 47 = .ok (.iload_n 2, 1) := by decide +kernel
theorem dX9_shelf_48 : decode cX9_shelf 48 = .ok (.ifCond .ne 15, 3) := by decide +kernel
theorem dX9_shelf_51 : decode cX9_shelf 51 = .ok (.aload_n 0, 1) := by decide +kernel
theorem dX9_shelf_52 : decode cX9_shelf 52 = .ok (.getfield 71, 3) := by decide +kernel
theorem dX9_shelf_55 : decode cX9_shelf 55 = .ok (.iload_n 1, 1) := by decide +kernel
theorem dX9_shelf_56 : decode cX9_shelf 56 = .ok (.iload_n 3, 1) := by decide +kernel
theorem dX9_shelf_57 : decode cX9_shelf 57 = .ok (.invokevirtual 334, 3) := by decide +kernel
theorem dX9_shelf_60 : decode cX9_shelf 60 = .ok (.goto 28, 3) := by decide +kernel
theorem dX9_shelf_63 : decode cX9_shelf 63 = .ok (.iload_n 2, 1) := by decide +kernel
theorem dX9_shelf_64 : decode cX9_shelf 64 = .ok (.iconst 1, 1) := by decide +kernel
theorem dX9_shelf_65 : decode cX9_shelf 65 = .ok (.if_icmp .ne 15, 3) := by decide +kernel
theorem dX9_shelf_68 : decode cX9_shelf 68 = .ok (.aload_n 0, 1) := by decide +kernel
theorem dX9_shelf_69 : decode cX9_shelf 69 = .ok (.getfield 71, 3) := by decide +kernel
theorem dX9_shelf_72 : decode cX9_shelf 72 = .ok (.iload_n 1, 1) := by decide +kernel
theorem dX9_shelf_73 : decode cX9_shelf 73 = .ok (.iload_n 3, 1) := by decide +kernel
theorem dX9_shelf_74 : decode cX9_shelf 74 = .ok (.invokevirtual 338, 3) := by decide +kernel
theorem dX9_shelf_77 : decode cX9_shelf 77 = .ok (.goto 11, 3) := by decide +kernel
theorem dX9_shelf_80 : decode cX9_shelf 80 = .ok (.aload_n 0, 1) := by decide +kernel
theorem dX9_shelf_81 : decode cX9_shelf 81 = .ok (.getfield 71, 3) := by decide +kernel
theorem dX9_shelf_84 : decode cX9_shelf 84 = .ok (.iload_n 1, 1) := by decide +kernel
theorem dX9_shelf_85 : decode cX9_shelf 85 = .ok (.invokevirtual 341, 3) := by decide +kernel
theorem dX9_shelf_88 : decode cX9_shelf 88 = .ok (.iconst 1, 1) := by decide +kernel
theorem dX9_shelf_89 : decode cX9_shelf 89 = .ok (.ireturn, 1) := by decide +kernel
set_option maxRecDepth 20000 in
theorem ggX9_taken_X2_hasPlace : GoodIn wsX9_taken wsX2_hasPlace := goodIn_r _ [9] (by decide +kernel) (by decide +kernel)
set_option maxRecDepth 20000 in
theorem gX9_taken_X2_hasPlace : GoodIn wsX9_taken (va_wsS RX9 309 yX2_hasPlace wsX2_hasPlace) := goodIn_app (goodIn_of _ (by decide +kernel)) ggX9_taken_X2_hasPlace
set_option maxRecDepth 20000 in
theorem ggX9_taken_X2_isRow : GoodIn wsX9_taken wsX2_isRow := goodIn_r _ [13, 14, 45, 46, 47, 48, 49, 50] (by decide +kernel) (by decide +kernel)
set_option maxRecDepth 20000 in
theorem gX9_taken_X2_isRow : GoodIn wsX9_taken (wsV RX9 344 RX2 yX2_isRow wsX2_isRow) := goodIn_app (goodIn_of _ (by decide +kernel)) ggX9_taken_X2_isRow
set_option maxRecDepth 20000 in
theorem ggX9_taken_X2_cutOn : GoodIn wsX9_taken wsX2_cutOn := goodIn_r _ [18, 14, 19, 45, 46, 47, 48, 49, 50] (by decide +kernel) (by decide +kernel)
set_option maxRecDepth 20000 in
theorem gX9_taken_X2_cutOn : GoodIn wsX9_taken (wsV RX9 353 RX2 yX2_cutOn wsX2_cutOn) := goodIn_app (goodIn_of _ (by decide +kernel)) ggX9_taken_X2_cutOn
set_option maxRecDepth 20000 in
theorem ggX9_taken_X8_hasCut : GoodIn wsX9_taken wsX8_hasCut := goodIn_r _ [24, 25, 51, 52, 53, 54, 55, 56, 57, 58, 59, 60, 61, 62, 63, 64] (by decide +kernel) (by decide +kernel)
set_option maxRecDepth 20000 in
theorem gX9_taken_X8_hasCut : GoodIn wsX9_taken (wsV RX9 162 RX8 yX8_hasCut wsX8_hasCut) := goodIn_app (goodIn_of _ (by decide +kernel)) ggX9_taken_X8_hasCut
set_option maxRecDepth 20000 in
theorem ggX9_taken_X8_isUnder : GoodIn wsX9_taken wsX8_isUnder := goodIn_r _ [28, 29, 30, 31, 23, 32] (by decide +kernel) (by decide +kernel)
set_option maxRecDepth 20000 in
theorem gX9_taken_X8_isUnder : GoodIn wsX9_taken (va_wsS RX9 356 yX8_isUnder wsX8_isUnder) := goodIn_app (goodIn_of _ (by decide +kernel)) ggX9_taken_X8_isUnder
theorem dX9_taken_0 : decode cX9_taken 0 = .ok (.iload_n 2, 1) := by decide +kernel
theorem dX9_taken_1 : decode cX9_taken 1 = .ok (.bipush 10, 2) := by decide +kernel
theorem dX9_taken_3 : decode cX9_taken 3 = .ok (.if_icmp .lt 13, 3) := by decide +kernel
theorem dX9_taken_6 : decode cX9_taken 6 = .ok (.iload_n 2, 1) := by decide +kernel
theorem dX9_taken_7 : decode cX9_taken 7 = .ok (.bipush 13, 2) := by decide +kernel
theorem dX9_taken_9 : decode cX9_taken 9 = .ok (.if_icmp .gt 7, 3) := by decide +kernel
theorem dX9_taken_12 : decode cX9_taken 12 = .ok (.iconst 1, 1) := by decide +kernel
theorem dX9_taken_13 : decode cX9_taken 13 = .ok (.goto 4, 3) := by decide +kernel
theorem dX9_taken_16 : decode cX9_taken 16 = .ok (.iconst 0, 1) := by decide +kernel
theorem dX9_taken_17 : decode cX9_taken 17 = .ok (.istore_n 3, 1) := by decide +kernel
theorem dX9_taken_18 : decode cX9_taken 18 = .ok (.iload_n 2, 1) := by decide +kernel
theorem dX9_taken_19 : decode cX9_taken 19 = .ok (.ifCond .lt 13, 3) := by decide +kernel
theorem dX9_taken_22 : decode cX9_taken 22 = .ok (.iload_n 2, 1) := by decide +kernel
theorem dX9_taken_23 : decode cX9_taken 23 = .ok (.bipush 6, 2) := by decide +kernel
theorem dX9_taken_25 : decode cX9_taken 25 = .ok (.if_icmp .gt 7, 3) := by decide +kernel
theorem dX9_taken_28 : decode cX9_taken 28 = .ok (.iconst 1, 1) := by decide +kernel
theorem dX9_taken_29 : decode cX9_taken 29 = .ok (.goto 4, 3) := by decide +kernel
theorem dX9_taken_32 : decode cX9_taken 32 = .ok (.iconst 0, 1) := by decide +kernel
theorem dX9_taken_33 : decode cX9_taken 33 = .ok (.istore 4, 2) := by decide +kernel
theorem dX9_taken_35 : decode cX9_taken 35 = .ok (.iload_n 1, 1) := by decide +kernel
theorem dX9_taken_36 : decode cX9_taken 36 = .ok (.invokestatic 309, 3) := by decide +kernel
theorem dX9_taken_39 : decode cX9_taken 39 = .ok (.ifCond .eq 12, 3) := by decide +kernel
theorem dX9_taken_42 : decode cX9_taken 42 = .ok (.iload_n 3, 1) := by decide +kernel
theorem dX9_taken_43 : decode cX9_taken 43 = .ok (.ifCond .ne 10, 3) := by decide +kernel
theorem dX9_taken_46 : decode cX9_taken 46 = .ok (.iload 4, 2) := by decide +kernel
theorem dX9_taken_48 : decode cX9_taken 48 = .ok (.ifCond .ne 5, 3) := by decide +kernel
theorem dX9_taken_51 : decode cX9_taken 51 = .ok (.iconst (-1), 1) := by decide +kernel
theorem dX9_taken_52 : decode cX9_taken 52 = .ok (.ireturn, 1) := by decide +kernel
theorem dX9_taken_53 : decode cX9_taken 53 = .ok (.aload_n 0, 1) := by decide +kernel
theorem dX9_taken_54 : decode cX9_taken 54 = .ok (.getfield 71, 3) := by decide +kernel
theorem dX9_taken_57 : decode cX9_taken 57 = .ok (.iload_n 1, 1) := by decide +kernel
theorem dX9_taken_58 : decode cX9_taken 58 = .ok (.invokevirtual 344, 3) := by decide +kernel
theorem dX9_taken_61 : decode cX9_taken 61 = .ok (.ifCond .eq 38, 3) := by decide +kernel
theorem dX9_taken_64 : decode cX9_taken 64 = .ok (.iload_n 3, 1) := by decide +kernel
theorem dX9_taken_65 : decode cX9_taken 65 = .ok (.ifCond .eq 31, 3) := by decide +kernel
theorem dX9_taken_68 : decode cX9_taken 68 = .ok (.aload_n 0, 1) := by decide +kernel
theorem dX9_taken_69 : decode cX9_taken 69 = .ok (.getfield 71, 3) := by decide +kernel
theorem dX9_taken_72 : decode cX9_taken 72 = .ok (.getfield 347, 3) := by decide +kernel
theorem dX9_taken_75 : decode cX9_taken 75 = .ok (.iload_n 1, 1) := by decide +kernel
theorem dX9_taken_76 : decode cX9_taken 76 = .ok (.iaload, 1) := by decide +kernel
theorem dX9_taken_77 : decode cX9_taken 77 = .ok (.iload_n 2, 1) := by decide +kernel
theorem dX9_taken_78 : decode cX9_taken 78 = .ok (.bipush 10, 2) := by decide +kernel
theorem dX9_taken_80 : decode cX9_taken 80 = .ok (.isub, 1) := by decide +kernel
theorem dX9_taken_81 : decode cX9_taken 81 = .ok (.if_icmp .ne 15, 3) := by decide +kernel
theorem dX9_taken_84 : decode cX9_taken 84 = .ok (.aload_n 0, 1) := by decide +kernel
theorem dX9_taken_85 : decode cX9_taken 85 = .ok (.getfield 71, 3) := by decide +kernel
theorem dX9_taken_88 : decode cX9_taken 88 = .ok (.getfield 350, 3) := by decide +kernel
theorem dX9_taken_91 : decode cX9_taken 91 = .ok (.iload_n 1, 1) := by decide +kernel
theorem dX9_taken_92 : decode cX9_taken 92 = .ok (.iaload, 1) := by decide +kernel
theorem dX9_taken_93 : decode cX9_taken 93 = .ok (.goto 5, 3) := by decide +kernel
theorem dX9_taken_96 : decode cX9_taken 96 = .ok (.bipush (-13), 2) := by decide +kernel
theorem dX9_taken_98 : decode cX9_taken 98 = .ok (.ireturn, 1) := by decide +kernel
theorem dX9_taken_99 : decode cX9_taken 99 = .ok (.aload_n 0, 1) := by decide +kernel
theorem dX9_taken_100 : decode cX9_taken 100 = .ok (.getfield 71, 3) := by decide +kernel
theorem dX9_taken_103 : decode cX9_taken 103 = .ok (.iload_n 1, 1) := by decide +kernel
theorem dX9_taken_104 : decode cX9_taken 104 = .ok (.invokevirtual 353, 3) := by decide +kernel
theorem dX9_taken_107 : decode cX9_taken 107 = .ok (.istore 5, 2) := by decide +kernel
theorem dX9_taken_109 : decode cX9_taken 109 = .ok (.aload_n 0, 1) := by decide +kernel
theorem dX9_taken_110 : decode cX9_taken 110 = .ok (.getfield 10, 3) := by decide +kernel
theorem dX9_taken_113 : decode cX9_taken 113 = .ok (.iload 5, 2) := by decide +kernel
theorem dX9_taken_115 : decode cX9_taken 115 = .ok (.invokevirtual 162, 3) := by decide +kernel
theorem dX9_taken_118 : decode cX9_taken 118 = .ok (.ifCond .ne 6, 3) := by decide +kernel
theorem dX9_taken_121 : decode cX9_taken 121 = .ok (.bipush (-11), 2) := by decide +kernel
theorem dX9_taken_123 : decode cX9_taken 123 = .ok (.ireturn, 1) := by decide +kernel
theorem dX9_taken_124 : decode cX9_taken 124 = .ok (.iload 4, 2) := by decide +kernel
theorem dX9_taken_126 : decode cX9_taken 126 = .ok (.ifCond .eq 25, 3) := by decide +kernel
theorem dX9_taken_129 : decode cX9_taken 129 = .ok (.aload_n 0, 1) := by decide +kernel
theorem dX9_taken_130 : decode cX9_taken 130 = .ok (.getfield 10, 3) := by decide +kernel
theorem dX9_taken_133 : decode cX9_taken 133 = .ok (.getfield 165, 3) := by decide +kernel
theorem dX9_taken_136 : decode cX9_taken 136 = .ok (.iload 5, 2) := by decide +kernel
theorem dX9_taken_138 : decode cX9_taken 138 = .ok (.iaload, 1) := by decide +kernel
theorem dX9_taken_139 : decode cX9_taken 139 = .ok (.iload_n 2, 1) := by decide +kernel
theorem dX9_taken_140 : decode cX9_taken 140 = .ok (.invokestatic 356, 3) := by decide +kernel
theorem dX9_taken_143 : decode cX9_taken 143 = .ok (.ifCond .eq 8, 3) := by decide +kernel
theorem dX9_taken_146 : decode cX9_taken 146 = .ok (.iload 5, 2) := by decide +kernel
theorem dX9_taken_148 : decode cX9_taken 148 = .ok (.goto 5, 3) := by decide +kernel
theorem dX9_taken_151 : decode cX9_taken 151 = .ok (.bipush (-13), 2) := by decide +kernel
theorem dX9_taken_153 : decode cX9_taken 153 = .ok (.ireturn, 1) := by decide +kernel
set_option maxRecDepth 20000 in
theorem ggX9_act_X0_forget : GoodIn wsX9_act wsX0_forget := goodIn_r _ [8, 9, 10, 73, 74, 75, 76, 77, 78] (by decide +kernel) (by decide +kernel)
set_option maxRecDepth 20000 in
theorem gX9_act_X0_forget : GoodIn wsX9_act (wsV RX9 359 RX0 yX0_forget wsX0_forget) := goodIn_app (goodIn_of _ (by decide +kernel)) ggX9_act_X0_forget
set_option maxRecDepth 20000 in
theorem ggX9_act_X2_hasPlace : GoodIn wsX9_act wsX2_hasPlace := goodIn_r _ [14] (by decide +kernel) (by decide +kernel)
set_option maxRecDepth 20000 in
theorem gX9_act_X2_hasPlace : GoodIn wsX9_act (va_wsS RX9 309 yX2_hasPlace wsX2_hasPlace) := goodIn_app (goodIn_of _ (by decide +kernel)) ggX9_act_X2_hasPlace
set_option maxRecDepth 20000 in
theorem ggX9_act_X2_cutOn : GoodIn wsX9_act wsX2_cutOn := goodIn_r _ [18, 19, 20, 79, 80, 81, 82, 83, 84] (by decide +kernel) (by decide +kernel)
set_option maxRecDepth 20000 in
theorem gX9_act_X2_cutOn : GoodIn wsX9_act (wsV RX9 353 RX2 yX2_cutOn wsX2_cutOn) := goodIn_app (goodIn_of _ (by decide +kernel)) ggX9_act_X2_cutOn
set_option maxRecDepth 20000 in
theorem ggX9_act_X8_hasCut : GoodIn wsX9_act wsX8_hasCut := goodIn_r _ [25, 26, 85, 86, 87, 88, 89, 90, 91, 92, 93, 94, 95, 96, 97, 98] (by decide +kernel) (by decide +kernel)
set_option maxRecDepth 20000 in
theorem gX9_act_X8_hasCut : GoodIn wsX9_act (wsV RX9 162 RX8 yX8_hasCut wsX8_hasCut) := goodIn_app (goodIn_of _ (by decide +kernel)) ggX9_act_X8_hasCut
set_option maxRecDepth 20000 in
theorem ggX9_act_X0_perform : GoodIn wsX9_act wsX0_perform := goodIn_r _ [30, 31, 32, 33, 34, 35, 10, 36, 37, 38, 7, 39, 40, 41, 42, 43, 9, 44, 45, 46, 47, 48, 49, 50, 51, 52, 53, 54, 55, 56, 57, 58, 59, 60, 85, 86, 87, 88, 89, 90, 91, 92, 93, 94, 95, 96, 97, 98, 73, 74, 75, 76, 77, 78] (by decide +kernel) (by decide +kernel)
set_option maxRecDepth 20000 in
theorem gX9_act_X0_perform : GoodIn wsX9_act (wsV RX9 362 RX0 yX0_perform wsX0_perform) := goodIn_app (goodIn_of _ (by decide +kernel)) ggX9_act_X0_perform
theorem dX9_act_0 : decode cX9_act 0 = .ok (.aload_n 0, 1) := by decide +kernel
theorem dX9_act_1 : decode cX9_act 1 = .ok (.getfield 78, 3) := by decide +kernel
theorem dX9_act_4 : decode cX9_act 4 = .ok (.invokevirtual 359, 3) := by decide +kernel
theorem dX9_act_7 : decode cX9_act 7 = .ok (.iload_n 1, 1) := by decide +kernel
theorem dX9_act_8 : decode cX9_act 8 = .ok (.invokestatic 309, 3) := by decide +kernel
theorem dX9_act_11 : decode cX9_act 11 = .ok (.ifCond .eq 12, 3) := by decide +kernel
theorem dX9_act_14 : decode cX9_act 14 = .ok (.iload_n 2, 1) := by decide +kernel
theorem dX9_act_15 : decode cX9_act 15 = .ok (.ifCond .lt 8, 3) := by decide +kernel
theorem dX9_act_18 : decode cX9_act 18 = .ok (.iload_n 2, 1) := by decide +kernel
theorem dX9_act_19 : decode cX9_act 19 = .ok (.iconst 3, 1) := by decide +kernel
theorem dX9_act_20 : decode cX9_act 20 = .ok (.if_icmp .le 5, 3) := by decide +kernel
theorem dX9_act_23 : decode cX9_act 23 = .ok (.iconst 0, 1) := by decide +kernel
theorem dX9_act_24 : decode cX9_act 24 = .ok (.ireturn, 1) := by decide +kernel
theorem dX9_act_25 : decode cX9_act 25 = .ok (.aload_n 0, 1) := by decide +kernel
theorem dX9_act_26 : decode cX9_act 26 = .ok (.getfield 71, 3) := by decide +kernel
theorem dX9_act_29 : decode cX9_act 29 = .ok (.iload_n 1, 1) := by decide +kernel
theorem dX9_act_30 : decode cX9_act 30 = .ok (.invokevirtual 353, 3) := by decide +kernel
theorem dX9_act_33 : decode cX9_act 33 = .ok (.istore 4, 2) := by decide +kernel
theorem dX9_act_35 : decode cX9_act 35 = .ok (.aload_n 0, 1) := by decide +kernel
theorem dX9_act_36 : decode cX9_act 36 = .ok (.getfield 10, 3) := by decide +kernel
theorem dX9_act_39 : decode cX9_act 39 = .ok (.iload 4, 2) := by decide +kernel
theorem dX9_act_41 : decode cX9_act 41 = .ok (.invokevirtual 162, 3) := by decide +kernel
theorem dX9_act_44 : decode cX9_act 44 = .ok (.ifCond .ne 5, 3) := by decide +kernel
theorem dX9_act_47 : decode cX9_act 47 = .ok (.iconst 0, 1) := by decide +kernel
theorem dX9_act_48 : decode cX9_act 48 = .ok (.ireturn, 1) := by decide +kernel
theorem dX9_act_49 : decode cX9_act 49 = .ok (.aload_n 0, 1) := by decide +kernel
theorem dX9_act_50 : decode cX9_act 50 = .ok (.getfield 78, 3) := by decide +kernel
theorem dX9_act_53 : decode cX9_act 53 = .ok (.aload_n 0, 1) := by decide +kernel
theorem dX9_act_54 : decode cX9_act 54 = .ok (.getfield 10, 3) := by decide +kernel
theorem dX9_act_57 : decode cX9_act 57 = .ok (.iload 4, 2) := by decide +kernel
theorem dX9_act_59 : decode cX9_act 59 = .ok (.iload_n 2, 1) := by decide +kernel
theorem dX9_act_60 : decode cX9_act 60 = .ok (.iload_n 3, 1) := by decide +kernel
theorem dX9_act_61 : decode cX9_act 61 = .ok (.invokevirtual 362, 3) := by decide +kernel
theorem dX9_act_64 : decode cX9_act 64 = .ok (.ireturn, 1) := by decide +kernel
theorem dX9_trace_0 : decode cX9_trace 0 = .ok (.iload_n 1, 1) := by decide +kernel
theorem dX9_trace_1 : decode cX9_trace 1 = .ok (.ifCond .lt 26, 3) := by decide +kernel
theorem dX9_trace_4 : decode cX9_trace 4 = .ok (.iload_n 1, 1) := by decide +kernel
theorem dX9_trace_5 : decode cX9_trace 5 = .ok (.aload_n 0, 1) := by decide +kernel
theorem dX9_trace_6 : decode cX9_trace 6 = .ok (.getfield 78, 3) := by decide +kernel
theorem dX9_trace_9 : decode cX9_trace 9 = .ok (.getfield 366, 3) := by decide +kernel
theorem dX9_trace_12 : decode cX9_trace 12 = .ok (.if_icmp .ge 15, 3) := by decide +kernel
theorem dX9_trace_15 : decode cX9_trace 15 = .ok (.aload_n 0, 1) := by decide +kernel
theorem dX9_trace_16 : decode cX9_trace 16 = .ok (.getfield 78, 3) := by decide +kernel
theorem dX9_trace_19 : decode cX9_trace 19 = .ok (.getfield 367, 3) := by decide +kernel
theorem dX9_trace_22 : decode cX9_trace 22 = .ok (.iload_n 1, 1) := by decide +kernel
theorem dX9_trace_23 : decode cX9_trace 23 = .ok (.iaload, 1) := by decide +kernel
theorem dX9_trace_24 : decode cX9_trace 24 = .ok (.goto 5, 3) := by decide +kernel
theorem dX9_trace_27 : decode cX9_trace 27 = .ok (.bipush (-3), 2) := by decide +kernel
theorem dX9_trace_29 : decode cX9_trace 29 = .ok (.ireturn, 1) := by decide +kernel
set_option maxRecDepth 20000 in
theorem ggX9_many_X8_howManyShow : GoodIn wsX9_many wsX8_howManyShow := goodIn_r _ [15, 16, 17, 63, 64, 65, 66, 67, 68, 69, 70, 71, 72, 73, 74, 75, 76] (by decide +kernel) (by decide +kernel)
set_option maxRecDepth 20000 in
theorem gX9_many_X8_howManyShow : GoodIn wsX9_many (wsV RX9 370 RX8 yX8_howManyShow wsX8_howManyShow) := goodIn_app (goodIn_of _ (by decide +kernel)) ggX9_many_X8_howManyShow
set_option maxRecDepth 20000 in
theorem ggX9_many_X8_unsureTies : GoodIn wsX9_many wsX8_unsureTies := goodIn_r _ [21, 22, 23, 24, 25, 26, 14, 27, 28, 29, 30, 31, 32, 33, 34, 35, 36, 37, 38, 39, 40, 41, 42, 43, 44, 45, 46, 47, 48, 49, 63, 64, 65, 66, 67, 68, 69, 70, 71, 72, 73, 74, 75, 76] (by decide +kernel) (by decide +kernel)
set_option maxRecDepth 20000 in
theorem gX9_many_X8_unsureTies : GoodIn wsX9_many (wsV RX9 224 RX8 yX8_unsureTies wsX8_unsureTies) := goodIn_app (goodIn_of _ (by decide +kernel)) ggX9_many_X8_unsureTies
set_option maxRecDepth 20000 in
theorem ggX9_many_J6_bitCount_0f7a4 : GoodIn wsX9_many wsJ6_bitCount_0f7a4 := goodIn_r _ [46, 47, 48, 49] (by decide +kernel) (by decide +kernel)
set_option maxRecDepth 20000 in
theorem gX9_many_J6_bitCount_0f7a4 : GoodIn wsX9_many (va_wsS RX9 227 yJ6_bitCount_0f7a4 wsJ6_bitCount_0f7a4) := goodIn_app (goodIn_of _ (by decide +kernel)) ggX9_many_J6_bitCount_0f7a4
theorem dX9_many_0 : decode cX9_many 0 = .ok (.iload_n 1, 1) := by decide +kernel
theorem dX9_many_1 : decode cX9_many 1 = .ok (.tableswitch 114 0 7 #[47, 55, 63, 71, 79, 87, 95, 103], 47) := by decide +kernel
theorem dX9_many_48 : decode cX9_many 48 = .ok (.aload_n 0, 1) := by decide +kernel
theorem dX9_many_49 : decode cX9_many 49 = .ok (.getfield 10, 3) := by decide +kernel
theorem dX9_many_52 : decode cX9_many 52 = .ok (.getfield 251, 3) := by decide +kernel
theorem dX9_many_55 : decode cX9_many 55 = .ok (.ireturn, 1) := by decide +kernel
theorem dX9_many_56 : decode cX9_many 56 = .ok (.aload_n 0, 1) := by decide +kernel
theorem dX9_many_57 : decode cX9_many 57 = .ok (.getfield 10, 3) := by decide +kernel
theorem dX9_many_60 : decode cX9_many 60 = .ok (.getfield 107, 3) := by decide +kernel
theorem dX9_many_63 : decode cX9_many 63 = .ok (.ireturn, 1) := by decide +kernel
theorem dX9_many_64 : decode cX9_many 64 = .ok (.aload_n 0, 1) := by decide +kernel
theorem dX9_many_65 : decode cX9_many 65 = .ok (.getfield 10, 3) := by decide +kernel
theorem dX9_many_68 : decode cX9_many 68 = .ok (.getfield 155, 3) := by decide +kernel
theorem dX9_many_71 : decode cX9_many 71 = .ok (.ireturn, 1) := by decide +kernel
theorem dX9_many_72 : decode cX9_many 72 = .ok (.aload_n 0, 1) := by decide +kernel
theorem dX9_many_73 : decode cX9_many 73 = .ok (.getfield 10, 3) := by decide +kernel
theorem dX9_many_76 : decode cX9_many 76 = .ok (.invokevirtual 370, 3) := by decide +kernel
theorem dX9_many_79 : decode cX9_many 79 = .ok (.ireturn, 1) := by decide +kernel
theorem dX9_many_80 : decode cX9_many 80 = .ok (.aload_n 0, 1) := by decide +kernel
theorem dX9_many_81 : decode cX9_many 81 = .ok (.getfield 64, 3) := by decide +kernel
theorem dX9_many_84 : decode cX9_many 84 = .ok (.getfield 104, 3) := by decide +kernel
theorem dX9_many_87 : decode cX9_many 87 = .ok (.ireturn, 1) := by decide +kernel
theorem dX9_many_88 : decode cX9_many 88 = .ok (.aload_n 0, 1) := by decide +kernel
theorem dX9_many_89 : decode cX9_many 89 = .ok (.getfield 29, 3) := by decide +kernel
theorem dX9_many_92 : decode cX9_many 92 = .ok (.getfield 86, 3) := by decide +kernel
theorem dX9_many_95 : decode cX9_many 95 = .ok (.ireturn, 1) := by decide +kernel
theorem dX9_many_96 : decode cX9_many 96 = .ok (.aload_n 0, 1) := by decide +kernel
theorem dX9_many_97 : decode cX9_many 97 = .ok (.getfield 78, 3) := by decide +kernel
theorem dX9_many_100 : decode cX9_many 100 = .ok (.getfield 366, 3) := by decide +kernel
theorem dX9_many_103 : decode cX9_many 103 = .ok (.ireturn, 1) := by decide +kernel
theorem dX9_many_104 : decode cX9_many 104 = .ok (.aload_n 0, 1) := by decide +kernel
theorem dX9_many_105 : decode cX9_many 105 = .ok (.getfield 10, 3) := by decide +kernel
theorem dX9_many_108 : decode cX9_many 108 = .ok (.invokevirtual 224, 3) := by decide +kernel
theorem dX9_many_111 : decode cX9_many 111 = .ok (.invokestatic 227, 3) := by decide +kernel
theorem dX9_many_114 : decode cX9_many 114 = .ok (.ireturn, 1) := by decide +kernel
theorem dX9_many_115 : decode cX9_many 115 = .ok (.iconst (-1), 1) := by decide +kernel
theorem dX9_many_116 : decode cX9_many 116 = .ok (.ireturn, 1) := by decide +kernel
set_option maxRecDepth 20000 in
theorem ggX9_keep_X8_become : GoodIn wsX9_keep wsX8_become := goodIn_r _ [8, 9, 10, 11, 12, 13, 14, 15, 16, 17, 18, 19, 20, 21, 22, 23, 24, 25, 26, 39, 40, 41, 42, 43, 44, 45, 46, 47, 48, 49, 50, 51, 52] (by decide +kernel) (by decide +kernel)
set_option maxRecDepth 20000 in
theorem gX9_keep_X8_become : GoodIn wsX9_keep (wsV RX9 100 RX8 yX8_become wsX8_become) := goodIn_app (goodIn_of _ (by decide +kernel)) ggX9_keep_X8_become
theorem dX9_keep_0 : decode cX9_keep 0 = .ok (.aload_n 0, 1) := by decide +kernel
theorem dX9_keep_1 : decode cX9_keep 1 = .ok (.getfield 19, 3) := by decide +kernel
theorem dX9_keep_4 : decode cX9_keep 4 = .ok (.aload_n 0, 1) := by decide +kernel
theorem dX9_keep_5 : decode cX9_keep 5 = .ok (.getfield 10, 3) := by decide +kernel
theorem dX9_keep_8 : decode cX9_keep 8 = .ok (.invokevirtual 100, 3) := by decide +kernel
theorem dX9_keep_11 : decode cX9_keep 11 = .ok (.aload_n 0, 1) := by decide +kernel
theorem dX9_keep_12 : decode cX9_keep 12 = .ok (.iconst 1, 1) := by decide +kernel
theorem dX9_keep_13 : decode cX9_keep 13 = .ok (.putfield 22, 3) := by decide +kernel
theorem dX9_keep_16 : decode cX9_keep 16 = .ok (.iconst 1, 1) := by decide +kernel
theorem dX9_keep_17 : decode cX9_keep 17 = .ok (.ireturn, 1) := by decide +kernel
set_option maxRecDepth 20000 in
theorem ggX9_back_X8_become : GoodIn wsX9_back wsX8_become := goodIn_r _ [9, 10, 11, 12, 13, 14, 15, 16, 17, 18, 19, 20, 21, 22, 23, 24, 25, 26, 27, 40, 41, 42, 43, 44, 45, 46, 47, 48, 49, 50, 51, 52, 53] (by decide +kernel) (by decide +kernel)
set_option maxRecDepth 20000 in
theorem gX9_back_X8_become : GoodIn wsX9_back (wsV RX9 100 RX8 yX8_become wsX8_become) := goodIn_app (goodIn_of _ (by decide +kernel)) ggX9_back_X8_become
theorem dX9_back_0 : decode cX9_back 0 = .ok (.aload_n 0, 1) := by decide +kernel
theorem dX9_back_1 : decode cX9_back 1 = .ok (.getfield 22, 3) := by decide +kernel
theorem dX9_back_4 : decode cX9_back 4 = .ok (.ifCond .ne 6, 3) := by decide +kernel
theorem dX9_back_7 : decode cX9_back 7 = .ok (.bipush (-3), 2) := by decide +kernel
theorem dX9_back_9 : decode cX9_back 9 = .ok (.ireturn, 1) := by decide +kernel
theorem dX9_back_10 : decode cX9_back 10 = .ok (.aload_n 0, 1) := by decide +kernel
theorem dX9_back_11 : decode cX9_back 11 = .ok (.getfield 10, 3) := by decide +kernel
theorem dX9_back_14 : decode cX9_back 14 = .ok (.aload_n 0, 1) := by decide +kernel
theorem dX9_back_15 : decode cX9_back 15 = .ok (.getfield 19, 3) := by decide +kernel
theorem dX9_back_18 : decode cX9_back 18 = .ok (.invokevirtual 100, 3) := by decide +kernel
theorem dX9_back_21 : decode cX9_back 21 = .ok (.aload_n 0, 1) := by decide +kernel
theorem dX9_back_22 : decode cX9_back 22 = .ok (.getfield 10, 3) := by decide +kernel
theorem dX9_back_25 : decode cX9_back 25 = .ok (.getfield 107, 3) := by decide +kernel
theorem dX9_back_28 : decode cX9_back 28 = .ok (.ireturn, 1) := by decide +kernel
theorem dX9_isEither_0 : decode cX9_isEither 0 = .ok (.iload_n 0, 1) := by decide +kernel
theorem dX9_isEither_1 : decode cX9_isEither 1 = .ok (.ifCond .eq 8, 3) := by decide +kernel
theorem dX9_isEither_4 : decode cX9_isEither 4 = .ok (.iload_n 0, 1) := by decide +kernel
theorem dX9_isEither_5 : decode cX9_isEither 5 = .ok (.iconst 1, 1) := by decide +kernel
theorem dX9_isEither_6 : decode cX9_isEither 6 = .ok (.if_icmp .ne 7, 3) := by decide +kernel
theorem dX9_isEither_9 : decode cX9_isEither 9 = .ok (.iconst 1, 1) := by decide +kernel
theorem dX9_isEither_10 : decode cX9_isEither 10 = .ok (.goto 4, 3) := by decide +kernel
theorem dX9_isEither_13 : decode cX9_isEither 13 = .ok (.iconst 0, 1) := by decide +kernel
theorem dX9_isEither_14 : decode cX9_isEither 14 = .ok (.ireturn, 1) := by decide +kernel
set_option maxRecDepth 20000 in
theorem ggX9_isPair_X8_hasPerson : GoodIn wsX9_isPair wsX8_hasPerson := goodIn_r _ [6, 7, 20, 21, 22, 23, 24, 25, 26, 27, 28, 29, 30, 31, 32, 33] (by decide +kernel) (by decide +kernel)
set_option maxRecDepth 20000 in
theorem gX9_isPair_X8_hasPerson : GoodIn wsX9_isPair (wsV RX9 146 RX8 yX8_hasPerson wsX8_hasPerson) := goodIn_app (goodIn_of _ (by decide +kernel)) ggX9_isPair_X8_hasPerson
theorem dX9_isPair_0 : decode cX9_isPair 0 = .ok (.aload_n 0, 1) := by decide +kernel
theorem dX9_isPair_1 : decode cX9_isPair 1 = .ok (.getfield 10, 3) := by decide +kernel
theorem dX9_isPair_4 : decode cX9_isPair 4 = .ok (.iload_n 1, 1) := by decide +kernel
theorem dX9_isPair_5 : decode cX9_isPair 5 = .ok (.invokevirtual 146, 3) := by decide +kernel
theorem dX9_isPair_8 : decode cX9_isPair 8 = .ok (.ifCond .eq 23, 3) := by decide +kernel
theorem dX9_isPair_11 : decode cX9_isPair 11 = .ok (.aload_n 0, 1) := by decide +kernel
theorem dX9_isPair_12 : decode cX9_isPair 12 = .ok (.getfield 10, 3) := by decide +kernel
theorem dX9_isPair_15 : decode cX9_isPair 15 = .ok (.iload_n 2, 1) := by decide +kernel
theorem dX9_isPair_16 : decode cX9_isPair 16 = .ok (.invokevirtual 146, 3) := by decide +kernel
theorem dX9_isPair_19 : decode cX9_isPair 19 = .ok (.ifCond .eq 12, 3) := by decide +kernel
theorem dX9_isPair_22 : decode cX9_isPair 22 = .ok (.iload_n 1, 1) := by decide +kernel
theorem dX9_isPair_23 : decode cX9_isPair 23 = .ok (.iload_n 2, 1) := by decide +kernel
theorem dX9_isPair_24 : decode cX9_isPair 24 = .ok (.if_icmp .eq 7, 3) := by decide +kernel
theorem dX9_isPair_27 : decode cX9_isPair 27 = .ok (.iconst 1, 1) := by decide +kernel
theorem dX9_isPair_28 : decode cX9_isPair 28 = .ok (.goto 4, 3) := by decide +kernel
theorem dX9_isPair_31 : decode cX9_isPair 31 = .ok (.iconst 0, 1) := by decide +kernel
theorem dX9_isPair_32 : decode cX9_isPair 32 = .ok (.ireturn, 1) := by decide +kernel
set_option maxRecDepth 20000 in
theorem ggX9_layOpenTies_X8_openTies : GoodIn wsX9_layOpenTies wsX8_openTies := goodIn_r _ [7, 8, 9, 10, 11, 6, 12, 13, 14, 15, 16, 17, 18, 19, 20, 21, 22, 23, 24, 25, 26, 27, 28, 29, 30, 31, 32, 33, 34, 60, 61, 62, 63, 64, 65, 66, 67, 68, 69, 70, 71, 72, 73] (by decide +kernel) (by decide +kernel)
set_option maxRecDepth 20000 in
theorem gX9_layOpenTies_X8_openTies : GoodIn wsX9_layOpenTies (wsV RX9 235 RX8 yX8_openTies wsX8_openTies) := goodIn_app (goodIn_of _ (by decide +kernel)) ggX9_layOpenTies_X8_openTies
set_option maxRecDepth 20000 in
theorem ggX9_layOpenTies_X3_lay : GoodIn wsX9_layOpenTies wsX3_lay := goodIn_r _ [39, 40, 41, 42, 43, 44, 45, 46, 47, 74, 60, 61, 62, 63, 64, 65, 66, 67, 68, 69, 70, 71, 72, 73] (by decide +kernel) (by decide +kernel)
set_option maxRecDepth 20000 in
theorem gX9_layOpenTies_X3_lay : GoodIn wsX9_layOpenTies (wsV RX9 321 RX3 yX3_lay wsX3_lay) := goodIn_app (goodIn_of _ (by decide +kernel)) ggX9_layOpenTies_X3_lay
theorem dX9_layOpenTies_0 : decode cX9_layOpenTies 0 = .ok (.aload_n 0, 1) := by decide +kernel
theorem dX9_layOpenTies_1 : decode cX9_layOpenTies 1 = .ok (.getfield 36, 3) := by decide +kernel
theorem dX9_layOpenTies_4 : decode cX9_layOpenTies 4 = .ok (.aload_n 0, 1) := by decide +kernel
theorem dX9_layOpenTies_5 : decode cX9_layOpenTies 5 = .ok (.getfield 10, 3) := by decide +kernel
theorem dX9_layOpenTies_8 : decode cX9_layOpenTies 8 = .ok (.aload_n 0, 1) := by decide +kernel
theorem dX9_layOpenTies_9 : decode cX9_layOpenTies 9 = .ok (.getfield 10, 3) := by decide +kernel
theorem dX9_layOpenTies_12 : decode cX9_layOpenTies 12 = .ok (.iconst 0, 1) := by decide +kernel
theorem dX9_layOpenTies_13 : decode cX9_layOpenTies 13 = .ok (.invokevirtual 235, 3) := by decide +kernel
theorem dX9_layOpenTies_16 : decode cX9_layOpenTies 16 = .ok (.invokevirtual 321, 3) := by decide +kernel
theorem dX9_layOpenTies_19 : decode cX9_layOpenTies 19 = .ok (.return_, 1) := by decide +kernel
set_option maxRecDepth 20000 in
theorem ggX9_countOrSet_J6_bitCount_0f7a4 : GoodIn wsX9_countOrSet wsJ6_bitCount_0f7a4 := goodIn_r _ [4, 5, 6, 7] (by decide +kernel) (by decide +kernel)
set_option maxRecDepth 20000 in
theorem gX9_countOrSet_J6_bitCount_0f7a4 : GoodIn wsX9_countOrSet (va_wsS RX9 227 yJ6_bitCount_0f7a4 wsJ6_bitCount_0f7a4) := goodIn_app (goodIn_of _ (by decide +kernel)) ggX9_countOrSet_J6_bitCount_0f7a4
theorem dX9_countOrSet_0 : decode cX9_countOrSet 0 = .ok (.iload_n 1, 1) := by decide +kernel
theorem dX9_countOrSet_1 : decode cX9_countOrSet 1 = .ok (.ifCond .ne 10, 3) := by decide +kernel
theorem dX9_countOrSet_4 : decode cX9_countOrSet 4 = .ok (.iload_n 0, 1) := by decide +kernel
theorem dX9_countOrSet_5 : decode cX9_countOrSet 5 = .ok (.invokestatic 227, 3) := by decide +kernel
theorem dX9_countOrSet_8 : decode cX9_countOrSet 8 = .ok (.goto 4, 3) := by decide +kernel
theorem dX9_countOrSet_11 : decode cX9_countOrSet 11 = .ok (.iload_n 0, 1) := by decide +kernel
theorem dX9_countOrSet_12 : decode cX9_countOrSet 12 = .ok (.ireturn, 1) := by decide +kernel
set_option maxRecDepth 20000 in
theorem ggX9_taleRefusal_X8_everybody : GoodIn wsX9_taleRefusal wsX8_everybody := goodIn_r _ [6, 7, 58, 59, 60, 61, 62, 63, 64, 65, 66, 67, 68, 69, 70, 71] (by decide +kernel) (by decide +kernel)
set_option maxRecDepth 20000 in
theorem gX9_taleRefusal_X8_everybody : GoodIn wsX9_taleRefusal (wsV RX9 180 RX8 yX8_everybody wsX8_everybody) := goodIn_app (goodIn_of _ (by decide +kernel)) ggX9_taleRefusal_X8_everybody
set_option maxRecDepth 20000 in
theorem ggX9_taleRefusal_X8_weightOf : GoodIn wsX9_taleRefusal wsX8_weightOf := goodIn_r _ [11, 7, 12, 58, 59, 60, 61, 62, 63, 64, 65, 66, 67, 68, 69, 70, 71] (by decide +kernel) (by decide +kernel)
set_option maxRecDepth 20000 in
theorem gX9_taleRefusal_X8_weightOf : GoodIn wsX9_taleRefusal (wsV RX9 373 RX8 yX8_weightOf wsX8_weightOf) := goodIn_app (goodIn_of _ (by decide +kernel)) ggX9_taleRefusal_X8_weightOf
set_option maxRecDepth 20000 in
theorem ggX9_taleRefusal_X8_unsureTies : GoodIn wsX9_taleRefusal wsX8_unsureTies := goodIn_r _ [16, 17, 18, 19, 20, 21, 5, 22, 23, 24, 25, 26, 27, 28, 29, 30, 31, 32, 33, 34, 35, 36, 37, 38, 39, 40, 41, 42, 43, 44, 58, 59, 60, 61, 62, 63, 64, 65, 66, 67, 68, 69, 70, 71] (by decide +kernel) (by decide +kernel)
set_option maxRecDepth 20000 in
theorem gX9_taleRefusal_X8_unsureTies : GoodIn wsX9_taleRefusal (wsV RX9 224 RX8 yX8_unsureTies wsX8_unsureTies) := goodIn_app (goodIn_of _ (by decide +kernel)) ggX9_taleRefusal_X8_unsureTies
set_option maxRecDepth 20000 in
theorem ggX9_taleRefusal_J6_bitCount_0f7a4 : GoodIn wsX9_taleRefusal wsJ6_bitCount_0f7a4 := goodIn_r _ [41, 42, 43, 44] (by decide +kernel) (by decide +kernel)
set_option maxRecDepth 20000 in
theorem gX9_taleRefusal_J6_bitCount_0f7a4 : GoodIn wsX9_taleRefusal (va_wsS RX9 227 yJ6_bitCount_0f7a4 wsJ6_bitCount_0f7a4) := goodIn_app (goodIn_of _ (by decide +kernel)) ggX9_taleRefusal_J6_bitCount_0f7a4
theorem dX9_taleRefusal_0 : decode cX9_taleRefusal 0 = .ok (.aload_n 0, 1) := by decide +kernel
theorem dX9_taleRefusal_1 : decode cX9_taleRefusal 1 = .ok (.getfield 10, 3) := by decide +kernel
theorem dX9_taleRefusal_4 : decode cX9_taleRefusal 4 = .ok (.aload_n 0, 1) := by decide +kernel
theorem dX9_taleRefusal_5 : decode cX9_taleRefusal 5 = .ok (.getfield 10, 3) := by decide +kernel
theorem dX9_taleRefusal_8 : decode cX9_taleRefusal 8 = .ok (.invokevirtual 180, 3) := by decide +kernel
theorem dX9_taleRefusal_11 : decode cX9_taleRefusal 11 = .ok (.invokevirtual 373, 3) := by decide +kernel
theorem dX9_taleRefusal_14 : decode cX9_taleRefusal 14 = .ok (.ifCond .ne 6, 3) := by decide +kernel
theorem dX9_taleRefusal_17 : decode cX9_taleRefusal 17 = .ok (.bipush (-3), 2) := by decide +kernel
theorem dX9_taleRefusal_19 : decode cX9_taleRefusal 19 = .ok (.ireturn, 1) := by decide +kernel
theorem dX9_taleRefusal_20 : decode cX9_taleRefusal 20 = .ok (.aload_n 0, 1) := by decide +kernel
theorem dX9_taleRefusal_21 : decode cX9_taleRefusal 21 = .ok (.getfield 10, 3) := by decide +kernel
theorem dX9_taleRefusal_24 : decode cX9_taleRefusal 24 = .ok (.invokevirtual 224, 3) := by decide +kernel
theorem dX9_taleRefusal_27 : decode cX9_taleRefusal 27 = .ok (.invokestatic 227, 3) := by decide +kernel
theorem dX9_taleRefusal_30 : decode cX9_taleRefusal 30 = .ok (.bipush 9, 2) := by decide +kernel
theorem dX9_taleRefusal_32 : decode cX9_taleRefusal 32 = .ok (.if_icmp .le 8, 3) := by decide +kernel
theorem dX9_taleRefusal_35 : decode cX9_taleRefusal 35 = .ok (.bipush (-4), 2) := by decide +kernel
theorem dX9_taleRefusal_37 : decode cX9_taleRefusal 37 = .ok (.goto 4, 3) := by decide +kernel
theorem dX9_taleRefusal_40 : decode cX9_taleRefusal 40 = .ok (.iconst 0, 1) := by decide +kernel
theorem dX9_taleRefusal_41 : decode cX9_taleRefusal 41 = .ok (.ireturn, 1) := by decide +kernel
theorem dX9_partOf_0 : decode cX9_partOf 0 = .ok (.lload_n 0, 1) := by decide +kernel
theorem dX9_partOf_1 : decode cX9_partOf 1 = .ok (.lstore 5, 2) := by decide +kernel
theorem dX9_partOf_3 : decode cX9_partOf 3 = .ok (.lload_n 2, 1) := by decide +kernel
theorem dX9_partOf_4 : decode cX9_partOf 4 = .ok (.lstore 7, 2) := by decide +kernel
theorem dX9_partOf_6 : decode cX9_partOf 6 = .ok (.iconst 0, 1) := by decide +kernel
theorem dX9_partOf_7 : decode cX9_partOf 7 = .ok (.istore 9, 2) := by decide +kernel
theorem dX9_partOf_9 : decode cX9_partOf 9 = .ok (.iload 9, 2) := by decide +kernel
theorem dX9_partOf_11 : decode cX9_partOf 11 = .ok (.sipush 200, 3) := by decide +kernel
theorem dX9_partOf_14 : decode cX9_partOf 14 = .ok (.if_icmp .ge 31, 3) := by decide +kernel
theorem dX9_partOf_17 : decode cX9_partOf 17 = .ok (.lload 7, 2) := by decide +kernel
theorem dX9_partOf_19 : decode cX9_partOf 19 = .ok (.lconst 0, 1) := by decide +kernel
theorem dX9_partOf_20 : decode cX9_partOf 20 = .ok (.lcmp, 1) := by decide +kernel
theorem dX9_partOf_21 : decode cX9_partOf 21 = .ok (.ifCond .eq 24, 3) := by decide +kernel
theorem dX9_partOf_24 : decode cX9_partOf 24 = .ok (.lload 5, 2) := by decide +kernel
theorem dX9_partOf_26 : decode cX9_partOf 26 = .ok (.lload 7, 2) := by decide +kernel
theorem dX9_partOf_28 : decode cX9_partOf 28 = .ok (.lrem, 1) := by decide +kernel
theorem dX9_partOf_29 : decode cX9_partOf 29 = .ok (.lstore 10, 2) := by decide +kernel
theorem dX9_partOf_31 : decode cX9_partOf 31 = .ok (.lload 7, 2) := by decide +kernel
theorem dX9_partOf_33 : decode cX9_partOf 33 = .ok (.lstore 5, 2) := by decide +kernel
theorem dX9_partOf_35 : decode cX9_partOf 35 = .ok (.lload 10, 2) := by decide +kernel
theorem dX9_partOf_37 : decode cX9_partOf 37 = .ok (.lstore 7, 2) := by decide +kernel
theorem dX9_partOf_39 : decode cX9_partOf 39 = .ok (.iinc 9 1, 3) := by decide +kernel
theorem dX9_partOf_42 : decode cX9_partOf 42 = .ok (.goto (-33), 3) := by decide +kernel
theorem dX9_partOf_45 : decode cX9_partOf 45 = .ok (.lload 5, 2) := by decide +kernel
theorem dX9_partOf_47 : decode cX9_partOf 47 = .ok (.lconst 0, 1) := by decide +kernel
theorem dX9_partOf_48 : decode cX9_partOf 48 = .ok (.lcmp, 1) := by decide +kernel
theorem dX9_partOf_49 : decode cX9_partOf 49 = .ok (.ifCond .ne 7, 3) := by decide +kernel
theorem dX9_partOf_52 : decode cX9_partOf 52 = .ok (.iload 4, 2) := by decide +kernel
theorem dX9_partOf_54 : decode cX9_partOf 54 = .ok (.i2l, 1) := by decide +kernel
theorem dX9_partOf_55 : decode cX9_partOf 55 = .ok (.lreturn, 1) := by decide +kernel
theorem dX9_partOf_56 : decode cX9_partOf 56 = .ok (.iload 4, 2) := by decide +kernel
theorem dX9_partOf_58 : decode cX9_partOf 58 = .ok (.ifCond .ne 7, 3) := by decide +kernel
theorem dX9_partOf_61 : decode cX9_partOf 61 = .ok (.lload_n 0, 1) := by decide +kernel
theorem dX9_partOf_62 : decode cX9_partOf 62 = .ok (.goto 4, 3) := by decide +kernel
theorem dX9_partOf_65 : decode cX9_partOf 65 = .ok (.lload_n 2, 1) := by decide +kernel
theorem dX9_partOf_66 : decode cX9_partOf 66 = .ok (.lload 5, 2) := by decide +kernel
theorem dX9_partOf_68 : decode cX9_partOf 68 = .ok (.ldiv, 1) := by decide +kernel
theorem dX9_partOf_69 : decode cX9_partOf 69 = .ok (.lreturn, 1) := by decide +kernel
set_option maxRecDepth 20000 in
theorem ggX9_leastKnowing_X3_isThreatened : GoodIn wsX9_leastKnowing wsX3_isThreatened := goodIn_r _ [12, 13, 14, 15, 11, 16, 17, 46] (by decide +kernel) (by decide +kernel)
set_option maxRecDepth 20000 in
theorem gX9_leastKnowing_X3_isThreatened : GoodIn wsX9_leastKnowing (wsV RX9 282 RX3 yX3_isThreatened wsX3_isThreatened) := goodIn_app (goodIn_of _ (by decide +kernel)) ggX9_leastKnowing_X3_isThreatened
set_option maxRecDepth 20000 in
theorem ggX9_leastKnowing_J6_bitCount_0f7a4 : GoodIn wsX9_leastKnowing wsJ6_bitCount_0f7a4 := goodIn_r _ [21, 22, 23, 24] (by decide +kernel) (by decide +kernel)
set_option maxRecDepth 20000 in
theorem gX9_leastKnowing_J6_bitCount_0f7a4 : GoodIn wsX9_leastKnowing (va_wsS RX9 227 yJ6_bitCount_0f7a4 wsJ6_bitCount_0f7a4) := goodIn_app (goodIn_of _ (by decide +kernel)) ggX9_leastKnowing_J6_bitCount_0f7a4
set_option maxRecDepth 20000 in
theorem ggX9_leastKnowing_X9_knowingWithout : GoodIn wsX9_leastKnowing wsX9_knowingWithout := goodIn_r _ [29, 1, 30, 14, 15, 11, 16, 17, 31, 32, 33, 28, 0, 2, 3, 4, 5, 6, 7, 8, 9, 10, 12, 13, 18, 19, 20, 21, 22, 23, 24, 25, 26, 27, 34, 35, 36, 37, 38, 39, 40, 41, 42, 43, 44, 45, 46, 47, 48, 49, 50, 51, 52, 53, 54, 55, 56, 57, 58, 59, 60] (by decide +kernel) (by decide +kernel)
set_option maxRecDepth 20000 in
theorem gX9_leastKnowing_X9_knowingWithout : GoodIn wsX9_leastKnowing (wsV RX9 285 RX9 yX9_knowingWithout wsX9_knowingWithout) := goodIn_app (goodIn_of _ (by decide +kernel)) ggX9_leastKnowing_X9_knowingWithout
theorem dX9_leastKnowing_0 : decode cX9_leastKnowing 0 = .ok (.iload_n 3, 1) := by decide +kernel
theorem dX9_leastKnowing_1 : decode cX9_leastKnowing 1 = .ok (.bipush 10, 2) := by decide +kernel
theorem dX9_leastKnowing_3 : decode cX9_leastKnowing 3 = .ok (.if_icmp .gt 15, 3) := by decide +kernel
theorem dX9_leastKnowing_6 : decode cX9_leastKnowing 6 = .ok (.aload_n 0, 1) := by decide +kernel
theorem dX9_leastKnowing_7 : decode cX9_leastKnowing 7 = .ok (.getfield 36, 3) := by decide +kernel
theorem dX9_leastKnowing_10 : decode cX9_leastKnowing 10 = .ok (.iload_n 1, 1) := by decide +kernel
theorem dX9_leastKnowing_11 : decode cX9_leastKnowing 11 = .ok (.iload_n 2, 1) := by decide +kernel
theorem dX9_leastKnowing_12 : decode cX9_leastKnowing 12 = .ok (.invokevirtual 282, 3) := by decide +kernel
theorem dX9_leastKnowing_15 : decode cX9_leastKnowing 15 = .ok (.ifCond .ne 8, 3) := by decide +kernel
theorem dX9_leastKnowing_18 : decode cX9_leastKnowing 18 = .ok (.iload_n 1, 1) := by decide +kernel
theorem dX9_leastKnowing_19 : decode cX9_leastKnowing 19 = .ok (.invokestatic 227, 3) := by decide +kernel
theorem dX9_leastKnowing_22 : decode cX9_leastKnowing 22 = .ok (.ireturn, 1) := by decide +kernel
theorem dX9_leastKnowing_23 : decode cX9_leastKnowing 23 = .ok (.bipush 11, 2) := by decide +kernel
theorem dX9_leastKnowing_25 : decode cX9_leastKnowing 25 = .ok (.istore 4, 2) := by decide +kernel
theorem dX9_leastKnowing_27 : decode cX9_leastKnowing 27 = .ok (.iconst 0, 1) := by decide +kernel
theorem dX9_leastKnowing_28 : decode cX9_leastKnowing 28 = .ok (.istore 5, 2) := by decide +kernel
theorem dX9_leastKnowing_30 : decode cX9_leastKnowing 30 = .ok (.iload 5, 2) := by decide +kernel
theorem dX9_leastKnowing_32 : decode cX9_leastKnowing 32 = .ok (.aload_n 0, 1) := by decide +kernel
theorem dX9_leastKnowing_33 : decode cX9_leastKnowing 33 = .ok (.getfield 10, 3) := by decide +kernel
theorem dX9_leastKnowing_36 : decode cX9_leastKnowing 36 = .ok (.getfield 251, 3) := by decide +kernel
theorem dX9_leastKnowing_39 : decode cX9_leastKnowing 39 = .ok (.if_icmp .ge 36, 3) := by decide +kernel
theorem dX9_leastKnowing_42 : decode cX9_leastKnowing 42 = .ok (.iload_n 1, 1) := by decide +kernel
theorem dX9_leastKnowing_43 : decode cX9_leastKnowing 43 = .ok (.iload_n 2, 1) := by decide +kernel
theorem dX9_leastKnowing_44 : decode cX9_leastKnowing 44 = .ok (.ior, 1) := by decide +kernel
theorem dX9_leastKnowing_45 : decode cX9_leastKnowing 45 = .ok (.iload 5, 2) := by decide +kernel
theorem dX9_leastKnowing_47 : decode cX9_leastKnowing 47 = .ok (.ishr, 1) := by decide +kernel
theorem dX9_leastKnowing_48 : decode cX9_leastKnowing 48 = .ok (.iconst 1, 1) := by decide +kernel
theorem dX9_leastKnowing_49 : decode cX9_leastKnowing 49 = .ok (.iand, 1) := by decide +kernel
theorem dX9_leastKnowing_50 : decode cX9_leastKnowing 50 = .ok (.ifCond .ne 19, 3) := by decide +kernel
theorem dX9_leastKnowing_53 : decode cX9_leastKnowing 53 = .ok (.iload 4, 2) := by decide +kernel
theorem dX9_leastKnowing_55 : decode cX9_leastKnowing 55 = .ok (.aload_n 0, 1) := by decide +kernel
theorem dX9_leastKnowing_56 : decode cX9_leastKnowing 56 = .ok (.iload 5, 2) := by decide +kernel
theorem dX9_leastKnowing_58 : decode cX9_leastKnowing 58 = .ok (.iload_n 1, 1) := by decide +kernel
theorem dX9_leastKnowing_59 : decode cX9_leastKnowing 59 = .ok (.iload_n 2, 1) := by decide +kernel
theorem dX9_leastKnowing_60 : decode cX9_leastKnowing 60 = .ok (.iload_n 3, 1) := by decide +kernel
theorem dX9_leastKnowing_61 : decode cX9_leastKnowing 61 = .ok (.invokevirtual 285, 3) := by decide +kernel
theorem dX9_leastKnowing_64 : decode cX9_leastKnowing 64 = .ok (.invokestatic 376, 3) := by decide +kernel
theorem dX9_leastKnowing_67 : decode cX9_leastKnowing 67 = .ok (.istore 4, 2) := by decide +kernel
theorem dX9_leastKnowing_69 : decode cX9_leastKnowing 69 = .ok (.iinc 5 1, 3) := by decide +kernel
theorem dX9_leastKnowing_72 : decode cX9_leastKnowing 72 = .ok (.goto (-42), 3) := by decide +kernel
theorem dX9_leastKnowing_75 : decode cX9_leastKnowing 75 = .ok (.iload 4, 2) := by decide +kernel
theorem dX9_leastKnowing_77 : decode cX9_leastKnowing 77 = .ok (.ireturn, 1) := by decide +kernel
set_option maxRecDepth 20000 in
theorem ggX9_knowingWithout_X3_around : GoodIn wsX9_knowingWithout wsX3_around := goodIn_r _ [6, 7, 46] (by decide +kernel) (by decide +kernel)
set_option maxRecDepth 20000 in
theorem gX9_knowingWithout_X3_around : GoodIn wsX9_knowingWithout (wsV RX9 381 RX3 yX3_around wsX3_around) := goodIn_app (goodIn_of _ (by decide +kernel)) ggX9_knowingWithout_X3_around
set_option maxRecDepth 20000 in
theorem ggX9_knowingWithout_X9_leastKnowing : GoodIn wsX9_knowingWithout wsX9_leastKnowing := goodIn_r _ [12, 1, 13, 14, 15, 16, 17, 18, 19, 20, 21, 5, 22, 23, 3, 4, 6, 7, 24, 25, 26, 27, 28, 29, 30, 31, 32, 33, 11, 0, 2, 8, 9, 10, 34, 35, 36, 37, 38, 39, 40, 41, 42, 43, 44, 45, 46, 47, 48, 49, 50, 51, 52, 53, 54, 55, 56, 57, 58, 59, 60] (by decide +kernel) (by decide +kernel)
set_option maxRecDepth 20000 in
theorem gX9_knowingWithout_X9_leastKnowing : GoodIn wsX9_knowingWithout (wsV RX9 384 RX9 yX9_leastKnowing wsX9_leastKnowing) := goodIn_app (goodIn_of _ (by decide +kernel)) ggX9_knowingWithout_X9_leastKnowing
theorem dX9_knowingWithout_0 : decode cX9_knowingWithout 0 = .ok (.iload_n 3, 1) := by decide +kernel
theorem dX9_knowingWithout_1 : decode cX9_knowingWithout 1 = .ok (.iconst 1, 1) := by decide +kernel
theorem dX9_knowingWithout_2 : decode cX9_knowingWithout 2 = .ok (.iload_n 1, 1) := by decide +kernel
theorem dX9_knowingWithout_3 : decode cX9_knowingWithout 3 = .ok (.ishl, 1) := by decide +kernel
theorem dX9_knowingWithout_4 : decode cX9_knowingWithout 4 = .ok (.ior, 1) := by decide +kernel
theorem dX9_knowingWithout_5 : decode cX9_knowingWithout 5 = .ok (.istore 5, 2) := by decide +kernel
theorem dX9_knowingWithout_7 : decode cX9_knowingWithout 7 = .ok (.aload_n 0, 1) := by decide +kernel
theorem dX9_knowingWithout_8 : decode cX9_knowingWithout 8 = .ok (.iload_n 2, 1) := by decide +kernel
theorem dX9_knowingWithout_9 : decode cX9_knowingWithout 9 = .ok (.aload_n 0, 1) := by decide +kernel
theorem dX9_knowingWithout_10 : decode cX9_knowingWithout 10 = .ok (.getfield 36, 3) := by decide +kernel
theorem dX9_knowingWithout_13 : decode cX9_knowingWithout 13 = .ok (.iload_n 2, 1) := by decide +kernel
theorem dX9_knowingWithout_14 : decode cX9_knowingWithout 14 = .ok (.invokevirtual 381, 3) := by decide +kernel
theorem dX9_knowingWithout_17 : decode cX9_knowingWithout 17 = .ok (.iload 5, 2) := by decide +kernel
theorem dX9_knowingWithout_19 : decode cX9_knowingWithout 19 = .ok (.iconst (-1), 1) := by decide +kernel
theorem dX9_knowingWithout_20 : decode cX9_knowingWithout 20 = .ok (.ixor, 1) := by decide +kernel
theorem dX9_knowingWithout_21 : decode cX9_knowingWithout 21 = .ok (.iand, 1) := by decide +kernel
theorem dX9_knowingWithout_22 : decode cX9_knowingWithout 22 = .ok (.ior, 1) := by decide +kernel
theorem dX9_knowingWithout_23 : decode cX9_knowingWithout 23 = .ok (.iload 5, 2) := by decide +kernel
theorem dX9_knowingWithout_25 : decode cX9_knowingWithout 25 = .ok (.iload 4, 2) := by decide +kernel
theorem dX9_knowingWithout_27 : decode cX9_knowingWithout 27 = .ok (.iconst 1, 1) := by decide +kernel
theorem dX9_knowingWithout_28 : decode cX9_knowingWithout 28 = .ok (.iadd, 1) := by decide +kernel
theorem dX9_knowingWithout_29 : decode cX9_knowingWithout 29 = .ok (.invokevirtual 384, 3) := by decide +kernel
theorem dX9_knowingWithout_32 : decode cX9_knowingWithout 32 = .ok (.ireturn, 1) := by decide +kernel
theorem dX10_init_0 : decode cX10_init 0 = .ok (.aload_n 0, 1) := by decide +kernel
theorem dX10_init_1 : decode cX10_init 1 = .ok (.invokespecial 1, 3) := by decide +kernel
theorem dX10_init_4 : decode cX10_init 4 = .ok (.aload_n 0, 1) := by decide +kernel
theorem dX10_init_5 : decode cX10_init 5 = .ok (.iconst 1, 1) := by decide +kernel
theorem dX10_init_6 : decode cX10_init 6 = .ok (.putfield 7, 3) := by decide +kernel
theorem dX10_init_9 : decode cX10_init 9 = .ok (.aload_n 0, 1) := by decide +kernel
theorem dX10_init_10 : decode cX10_init 10 = .ok (.bipush 10, 2) := by decide +kernel
theorem dX10_init_12 : decode cX10_init 12 = .ok (.newarray .int, 2) := by decide +kernel
theorem dX10_init_14 : decode cX10_init 14 = .ok (.dup, 1) := by decide +kernel
theorem dX10_init_15 : decode cX10_init 15 = .ok (.iconst 0, 1) := by decide +kernel
theorem dX10_init_16 : decode cX10_init 16 = .ok (.iconst 1, 1) := by decide +kernel
theorem dX10_init_17 : decode cX10_init 17 = .ok (.iastore, 1) := by decide +kernel
theorem dX10_init_18 : decode cX10_init 18 = .ok (.dup, 1) := by decide +kernel
theorem dX10_init_19 : decode cX10_init 19 = .ok (.iconst 1, 1) := by decide +kernel
theorem dX10_init_20 : decode cX10_init 20 = .ok (.iconst 0, 1) := by decide +kernel
theorem dX10_init_21 : decode cX10_init 21 = .ok (.iastore, 1) := by decide +kernel
theorem dX10_init_22 : decode cX10_init 22 = .ok (.dup, 1) := by decide +kernel
theorem dX10_init_23 : decode cX10_init 23 = .ok (.iconst 2, 1) := by decide +kernel
theorem dX10_init_24 : decode cX10_init 24 = .ok (.iconst 0, 1) := by decide +kernel
theorem dX10_init_25 : decode cX10_init 25 = .ok (.iastore, 1) := by decide +kernel
theorem dX10_init_26 : decode cX10_init 26 = .ok (.dup, 1) := by decide +kernel
theorem dX10_init_27 : decode cX10_init 27 = .ok (.iconst 3, 1) := by decide +kernel
theorem dX10_init_28 : decode cX10_init 28 = .ok (.iconst 0, 1) := by decide +kernel
theorem dX10_init_29 : decode cX10_init 29 = .ok (.iastore, 1) := by decide +kernel
theorem dX10_init_30 : decode cX10_init 30 = .ok (.dup, 1) := by decide +kernel
theorem dX10_init_31 : decode cX10_init 31 = .ok (.iconst 4, 1) := by decide +kernel
theorem dX10_init_32 : decode cX10_init 32 = .ok (.iconst 0, 1) := by decide +kernel
theorem dX10_init_33 : decode cX10_init 33 = .ok (.iastore, 1) := by decide +kernel
theorem dX10_init_34 : decode cX10_init 34 = .ok (.dup, 1) := by decide +kernel
theorem dX10_init_35 : decode cX10_init 35 = .ok (.iconst 5, 1) := by decide +kernel
theorem dX10_init_36 : decode cX10_init 36 = .ok (.iconst 0, 1) := by decide +kernel
theorem dX10_init_37 : decode cX10_init 37 = .ok (.iastore, 1) := by decide +kernel
theorem dX10_init_38 : decode cX10_init 38 = .ok (.dup, 1) := by decide +kernel
theorem dX10_init_39 : decode cX10_init 39 = .ok (.bipush 6, 2) := by decide +kernel
theorem dX10_init_41 : decode cX10_init 41 = .ok (.iconst 0, 1) := by decide +kernel
theorem dX10_init_42 : decode cX10_init 42 = .ok (.iastore, 1) := by decide +kernel
theorem dX10_init_43 : decode cX10_init 43 = .ok (.dup, 1) := by decide +kernel
theorem dX10_init_44 : decode cX10_init 44 = .ok (.bipush 7, 2) := by decide +kernel
theorem dX10_init_46 : decode cX10_init 46 = .ok (.iconst 0, 1) := by decide +kernel
theorem dX10_init_47 : decode cX10_init 47 = .ok (.iastore, 1) := by decide +kernel
theorem dX10_init_48 : decode cX10_init 48 = .ok (.dup, 1) := by decide +kernel
theorem dX10_init_49 : decode cX10_init 49 = .ok (.bipush 8, 2) := by decide +kernel
theorem dX10_init_51 : decode cX10_init 51 = .ok (.iconst 0, 1) := by decide +kernel
theorem dX10_init_52 : decode cX10_init 52 = .ok (.iastore, 1) := by decide +kernel
theorem dX10_init_53 : decode cX10_init 53 = .ok (.dup, 1) := by decide +kernel
theorem dX10_init_54 : decode cX10_init 54 = .ok (.bipush 9, 2) := by decide +kernel
theorem dX10_init_56 : decode cX10_init 56 = .ok (.iconst 0, 1) := by decide +kernel
theorem dX10_init_57 : decode cX10_init 57 = .ok (.iastore, 1) := by decide +kernel
theorem dX10_init_58 : decode cX10_init 58 = .ok (.putfield 13, 3) := by decide +kernel
theorem dX10_init_61 : decode cX10_init 61 = .ok (.aload_n 0, 1) := by decide +kernel
theorem dX10_init_62 : decode cX10_init 62 = .ok (.bipush 70, 2) := by decide +kernel
theorem dX10_init_64 : decode cX10_init 64 = .ok (.newarray .int, 2) := by decide +kernel
theorem dX10_init_66 : decode cX10_init 66 = .ok (.putfield 17, 3) := by decide +kernel
theorem dX10_init_69 : decode cX10_init 69 = .ok (.aload_n 0, 1) := by decide +kernel
theorem dX10_init_70 : decode cX10_init 70 = .ok (.bipush 24, 2) := by decide +kernel
theorem dX10_init_72 : decode cX10_init 72 = .ok (.newarray .int, 2) := by decide +kernel
theorem dX10_init_74 : decode cX10_init 74 = .ok (.putfield 20, 3) := by decide +kernel
theorem dX10_init_77 : decode cX10_init 77 = .ok (.aload_n 0, 1) := by decide +kernel
theorem dX10_init_78 : decode cX10_init 78 = .ok (.bipush 10, 2) := by decide +kernel
theorem dX10_init_80 : decode cX10_init 80 = .ok (.newarray .int, 2) := by decide +kernel
theorem dX10_init_82 : decode cX10_init 82 = .ok (.putfield 23, 3) := by decide +kernel
theorem dX10_init_85 : decode cX10_init 85 = .ok (.aload_n 0, 1) := by decide +kernel
theorem dX10_init_86 : decode cX10_init 86 = .ok (.iconst 1, 1) := by decide +kernel
theorem dX10_init_87 : decode cX10_init 87 = .ok (.putfield 26, 3) := by decide +kernel
theorem dX10_init_90 : decode cX10_init 90 = .ok (.aload_n 0, 1) := by decide +kernel
theorem dX10_init_91 : decode cX10_init 91 = .ok (.sipush 200, 3) := by decide +kernel
theorem dX10_init_94 : decode cX10_init 94 = .ok (.newarray .int, 2) := by decide +kernel
theorem dX10_init_96 : decode cX10_init 96 = .ok (.putfield 29, 3) := by decide +kernel
theorem dX10_init_99 : decode cX10_init 99 = .ok (.aload_n 0, 1) := by decide +kernel
theorem dX10_init_100 : decode cX10_init 100 = .ok (.bipush 10, 2) := by decide +kernel
theorem dX10_init_102 : decode cX10_init 102 = .ok (.newarray .int, 2) := by decide +kernel
theorem dX10_init_104 : decode cX10_init 104 = .ok (.putfield 32, 3) := by decide +kernel
theorem dX10_init_107 : decode cX10_init 107 = .ok (.aload_n 0, 1) := by decide +kernel
theorem dX10_init_108 : decode cX10_init 108 = .ok (.bipush 70, 2) := by decide +kernel
theorem dX10_init_110 : decode cX10_init 110 = .ok (.newarray .int, 2) := by decide +kernel
theorem dX10_init_112 : decode cX10_init 112 = .ok (.putfield 35, 3) := by decide +kernel
theorem dX10_init_115 : decode cX10_init 115 = .ok (.aload_n 0, 1) := by decide +kernel
theorem dX10_init_116 : decode cX10_init 116 = .ok (.bipush 24, 2) := by decide +kernel
theorem dX10_init_118 : decode cX10_init 118 = .ok (.newarray .int, 2) := by decide +kernel
theorem dX10_init_120 : decode cX10_init 120 = .ok (.putfield 38, 3) := by decide +kernel
theorem dX10_init_123 : decode cX10_init 123 = .ok (.aload_n 0, 1) := by decide +kernel
theorem dX10_init_124 : decode cX10_init 124 = .ok (.bipush 10, 2) := by decide +kernel
theorem dX10_init_126 : decode cX10_init 126 = .ok (.newarray .long, 2) := by decide +kernel
theorem dX10_init_128 : decode cX10_init 128 = .ok (.putfield 41, 3) := by decide +kernel
theorem dX10_init_131 : decode cX10_init 131 = .ok (.aload_n 0, 1) := by decide +kernel
theorem dX10_init_132 : decode cX10_init 132 = .ok (.bipush 10, 2) := by decide +kernel
theorem dX10_init_134 : decode cX10_init 134 = .ok (.newarray .long, 2) := by decide +kernel
theorem dX10_init_136 : decode cX10_init 136 = .ok (.putfield 45, 3) := by decide +kernel
theorem dX10_init_139 : decode cX10_init 139 = .ok (.aload_n 0, 1) := by decide +kernel
theorem dX10_init_140 : decode cX10_init 140 = .ok (.bipush 10, 2) := by decide +kernel
theorem dX10_init_142 : decode cX10_init 142 = .ok (.newarray .int, 2) := by decide +kernel
theorem dX10_init_144 : decode cX10_init 144 = .ok (.putfield 48, 3) := by decide +kernel
theorem dX10_init_147 : decode cX10_init 147 = .ok (.aload_n 0, 1) := by decide +kernel
theorem dX10_init_148 : decode cX10_init 148 = .ok (.bipush 10, 2) := by decide +kernel
theorem dX10_init_150 : decode cX10_init 150 = .ok (.newarray .int, 2) := by decide +kernel
theorem dX10_init_152 : decode cX10_init 152 = .ok (.putfield 51, 3) := by decide +kernel
theorem dX10_init_155 : decode cX10_init 155 = .ok (.aload_n 0, 1) := by decide +kernel
theorem dX10_init_156 : decode cX10_init 156 = .ok (.bipush 101, 2) := by decide +kernel
theorem dX10_init_158 : decode cX10_init 158 = .ok (.newarray .int, 2) := by decide +kernel
theorem dX10_init_160 : decode cX10_init 160 = .ok (.putfield 54, 3) := by decide +kernel
theorem dX10_init_163 : decode cX10_init 163 = .ok (.aload_n 0, 1) := by decide +kernel
theorem dX10_init_164 : decode cX10_init 164 = .ok (.ldc 57, 2) := by decide +kernel
theorem dX10_init_166 : decode cX10_init 166 = .ok (.newarray .int, 2) := by decide +kernel
theorem dX10_init_168 : decode cX10_init 168 = .ok (.putfield 58, 3) := by decide +kernel
theorem dX10_init_171 : decode cX10_init 171 = .ok (.aload_n 0, 1) := by decide +kernel
theorem dX10_init_172 : decode cX10_init 172 = .ok (.bipush 8, 2) := by decide +kernel
theorem dX10_init_174 : decode cX10_init 174 = .ok (.newarray .int, 2) := by decide +kernel
theorem dX10_init_176 : decode cX10_init 176 = .ok (.putfield 61, 3) := by decide +kernel
theorem dX10_init_179 : decode cX10_init 179 = .ok (.aload_n 0, 1) := by decide +kernel
theorem dX10_init_180 : decode cX10_init 180 = .ok (.bipush 30, 2) := by decide +kernel
theorem dX10_init_182 : decode cX10_init 182 = .ok (.newarray .int, 2) := by decide +kernel
theorem dX10_init_184 : decode cX10_init 184 = .ok (.putfield 64, 3) := by decide +kernel
theorem dX10_init_187 : decode cX10_init 187 = .ok (.aload_n 0, 1) := by decide +kernel
theorem dX10_init_188 : decode cX10_init 188 = .ok (.bipush 10, 2) := by decide +kernel
theorem dX10_init_190 : decode cX10_init 190 = .ok (.newarray .int, 2) := by decide +kernel
theorem dX10_init_192 : decode cX10_init 192 = .ok (.putfield 67, 3) := by decide +kernel
theorem dX10_init_195 : decode cX10_init 195 = .ok (.aload_n 0, 1) := by decide +kernel
theorem dX10_init_196 : decode cX10_init 196 = .ok (.iconst 4, 1) := by decide +kernel
theorem dX10_init_197 : decode cX10_init 197 = .ok (.newarray .int, 2) := by decide +kernel
theorem dX10_init_199 : decode cX10_init 199 = .ok (.dup, 1) := by decide +kernel
theorem dX10_init_200 : decode cX10_init 200 = .ok (.iconst 0, 1) := by decide +kernel
theorem dX10_init_201 : decode cX10_init 201 = .ok (.iconst (-1), 1) := by decide +kernel
theorem dX10_init_202 : decode cX10_init 202 = .ok (.iastore, 1) := by decide +kernel
theorem dX10_init_203 : decode cX10_init 203 = .ok (.dup, 1) := by decide +kernel
theorem dX10_init_204 : decode cX10_init 204 = .ok (.iconst 1, 1) := by decide +kernel
theorem dX10_init_205 : decode cX10_init 205 = .ok (.iconst (-1), 1) := by decide +kernel
theorem dX10_init_206 : decode cX10_init 206 = .ok (.iastore, 1) := by decide +kernel
theorem dX10_init_207 : decode cX10_init 207 = .ok (.dup, 1) := by decide +kernel
theorem dX10_init_208 : decode cX10_init 208 = .ok (.iconst 2, 1) := by decide +kernel
theorem dX10_init_209 : decode cX10_init 209 = .ok (.iconst (-1), 1) := by decide +kernel
theorem dX10_init_210 : decode cX10_init 210 = .ok (.iastore, 1) := by decide +kernel
theorem dX10_init_211 : decode cX10_init 211 = .ok (.dup, 1) := by decide +kernel
theorem dX10_init_212 : decode cX10_init 212 = .ok (.iconst 3, 1) := by decide +kernel
theorem dX10_init_213 : decode cX10_init 213 = .ok (.iconst (-1), 1) := by decide +kernel
theorem dX10_init_214 : decode cX10_init 214 = .ok (.iastore, 1) := by decide +kernel
theorem dX10_init_215 : decode cX10_init 215 = .ok (.putfield 70, 3) := by decide +kernel
theorem dX10_init_218 : decode cX10_init 218 = .ok (.aload_n 0, 1) := by decide +kernel
theorem dX10_init_219 : decode cX10_init 219 = .ok (.iconst 4, 1) := by decide +kernel
theorem dX10_init_220 : decode cX10_init 220 = .ok (.newarray .int, 2) := by decide +kernel
theorem dX10_init_222 : decode cX10_init 222 = .ok (.putfield 73, 3) := by decide +kernel
theorem dX10_init_225 : decode cX10_init 225 = .ok (.aload_n 0, 1) := by decide +kernel
theorem dX10_init_226 : decode cX10_init 226 = .ok (.sipush 160, 3) := by decide +kernel
theorem dX10_init_229 : decode cX10_init 229 = .ok (.newarray .long, 2) := by decide +kernel
theorem dX10_init_231 : decode cX10_init 231 = .ok (.putfield 76, 3) := by decide +kernel
theorem dX10_init_234 : decode cX10_init 234 = .ok (.aload_n 0, 1) := by decide +kernel
theorem dX10_init_235 : decode cX10_init 235 = .ok (.iconst 4, 1) := by decide +kernel
theorem dX10_init_236 : decode cX10_init 236 = .ok (.newarray .int, 2) := by decide +kernel
theorem dX10_init_238 : decode cX10_init 238 = .ok (.dup, 1) := by decide +kernel
theorem dX10_init_239 : decode cX10_init 239 = .ok (.iconst 0, 1) := by decide +kernel
theorem dX10_init_240 : decode cX10_init 240 = .ok (.iconst (-1), 1) := by decide +kernel
theorem dX10_init_241 : decode cX10_init 241 = .ok (.iastore, 1) := by decide +kernel
theorem dX10_init_242 : decode cX10_init 242 = .ok (.dup, 1) := by decide +kernel
theorem dX10_init_243 : decode cX10_init 243 = .ok (.iconst 1, 1) := by decide +kernel
theorem dX10_init_244 : decode cX10_init 244 = .ok (.iconst (-1), 1) := by decide +kernel
theorem dX10_init_245 : decode cX10_init 245 = .ok (.iastore, 1) := by decide +kernel
theorem dX10_init_246 : decode cX10_init 246 = .ok (.dup, 1) := by decide +kernel
theorem dX10_init_247 : decode cX10_init 247 = .ok (.iconst 2, 1) := by decide +kernel
theorem dX10_init_248 : decode cX10_init 248 = .ok (.iconst (-1), 1) := by decide +kernel
theorem dX10_init_249 : decode cX10_init 249 = .ok (.iastore, 1) := by decide +kernel
theorem dX10_init_250 : decode cX10_init 250 = .ok (.dup, 1) := by decide +kernel
theorem dX10_init_251 : decode cX10_init 251 = .ok (.iconst 3, 1) := by decide +kernel
theorem dX10_init_252 : decode cX10_init 252 = .ok (.iconst (-1), 1) := by decide +kernel
theorem dX10_init_253 : decode cX10_init 253 = .ok (.iastore, 1) := by decide +kernel
theorem dX10_init_254 : decode cX10_init 254 = .ok (.putfield 79, 3) := by decide +kernel
theorem dX10_init_257 : decode cX10_init 257 = .ok (.aload_n 0, 1) := by decide +kernel
theorem dX10_init_258 : decode cX10_init 258 = .ok (.iconst 4, 1) := by decide +kernel
theorem dX10_init_259 : decode cX10_init 259 = .ok (.newarray .int, 2) := by decide +kernel
theorem dX10_init_261 : decode cX10_init 261 = .ok (.putfield 82, 3) := by decide +kernel
theorem dX10_init_264 : decode cX10_init 264 = .ok (.aload_n 0, 1) := by decide +kernel
theorem dX10_init_265 : decode cX10_init 265 = .ok (.iconst 4, 1) := by decide +kernel
theorem dX10_init_266 : decode cX10_init 266 = .ok (.newarray .int, 2) := by decide +kernel
theorem dX10_init_268 : decode cX10_init 268 = .ok (.putfield 85, 3) := by decide +kernel
theorem dX10_init_271 : decode cX10_init 271 = .ok (.aload_n 0, 1) := by decide +kernel
theorem dX10_init_272 : decode cX10_init 272 = .ok (.bipush 30, 2) := by decide +kernel
theorem dX10_init_274 : decode cX10_init 274 = .ok (.newarray .int, 2) := by decide +kernel
theorem dX10_init_276 : decode cX10_init 276 = .ok (.putfield 88, 3) := by decide +kernel
theorem dX10_init_279 : decode cX10_init 279 = .ok (.aload_n 0, 1) := by decide +kernel
theorem dX10_init_280 : decode cX10_init 280 = .ok (.bipush 120, 2) := by decide +kernel
theorem dX10_init_282 : decode cX10_init 282 = .ok (.newarray .int, 2) := by decide +kernel
theorem dX10_init_284 : decode cX10_init 284 = .ok (.putfield 91, 3) := by decide +kernel
theorem dX10_init_287 : decode cX10_init 287 = .ok (.aload_n 0, 1) := by decide +kernel
theorem dX10_init_288 : decode cX10_init 288 = .ok (.iconst 4, 1) := by decide +kernel
theorem dX10_init_289 : decode cX10_init 289 = .ok (.newarray .int, 2) := by decide +kernel
theorem dX10_init_291 : decode cX10_init 291 = .ok (.putfield 94, 3) := by decide +kernel
theorem dX10_init_294 : decode cX10_init 294 = .ok (.return_, 1) := by decide +kernel
theorem dX10_in_0 : decode cX10_in 0 = .ok (.iload_n 0, 1) := by decide +kernel
theorem dX10_in_1 : decode cX10_in 1 = .ok (.iload_n 1, 1) := by decide +kernel
theorem dX10_in_2 : decode cX10_in 2 = .ok (.if_icmp .lt 12, 3) := by decide +kernel
theorem dX10_in_5 : decode cX10_in 5 = .ok (.iload_n 0, 1) := by decide +kernel
theorem dX10_in_6 : decode cX10_in 6 = .ok (.iload_n 2, 1) := by decide +kernel
theorem dX10_in_7 : decode cX10_in 7 = .ok (.if_icmp .gt 7, 3) := by decide +kernel
theorem dX10_in_10 : decode cX10_in 10 = .ok (.iconst 1, 1) := by decide +kernel
theorem dX10_in_11 : decode cX10_in 11 = .ok (.goto 4, 3) := by decide +kernel
theorem dX10_in_14 : decode cX10_in 14 = .ok (.iconst 0, 1) := by decide +kernel
theorem dX10_in_15 : decode cX10_in 15 = .ok (.ireturn, 1) := by decide +kernel
set_option maxRecDepth 20000 in
theorem ggX10_isPerson_X10_in : GoodIn wsX10_isPerson wsX10_in := goodIn_r _ [5] (by decide +kernel) (by decide +kernel)
set_option maxRecDepth 20000 in
theorem gX10_isPerson_X10_in : GoodIn wsX10_isPerson (va_wsS RX10 97 yX10_in wsX10_in) := goodIn_app (goodIn_of _ (by decide +kernel)) ggX10_isPerson_X10_in
theorem dX10_isPerson_0 : decode cX10_isPerson 0 = .ok (.iload_n 1, 1) := by decide +kernel
theorem dX10_isPerson_1 : decode cX10_isPerson 1 = .ok (.iconst 0, 1) := by decide +kernel
theorem dX10_isPerson_2 : decode cX10_isPerson 2 = .ok (.aload_n 0, 1) := by decide +kernel
theorem dX10_isPerson_3 : decode cX10_isPerson 3 = .ok (.getfield 7, 3) := by decide +kernel
theorem dX10_isPerson_6 : decode cX10_isPerson 6 = .ok (.iconst 1, 1) := by decide +kernel
theorem dX10_isPerson_7 : decode cX10_isPerson 7 = .ok (.isub, 1) := by decide +kernel
theorem dX10_isPerson_8 : decode cX10_isPerson 8 = .ok (.invokestatic 97, 3) := by decide +kernel
theorem dX10_isPerson_11 : decode cX10_isPerson 11 = .ok (.ireturn, 1) := by decide +kernel
set_option maxRecDepth 20000 in
theorem ggX10_isTie_X10_in : GoodIn wsX10_isTie wsX10_in := goodIn_r _ [5] (by decide +kernel) (by decide +kernel)
set_option maxRecDepth 20000 in
theorem gX10_isTie_X10_in : GoodIn wsX10_isTie (va_wsS RX10 97 yX10_in wsX10_in) := goodIn_app (goodIn_of _ (by decide +kernel)) ggX10_isTie_X10_in
theorem dX10_isTie_0 : decode cX10_isTie 0 = .ok (.iload_n 1, 1) := by decide +kernel
theorem dX10_isTie_1 : decode cX10_isTie 1 = .ok (.iconst 0, 1) := by decide +kernel
theorem dX10_isTie_2 : decode cX10_isTie 2 = .ok (.aload_n 0, 1) := by decide +kernel
theorem dX10_isTie_3 : decode cX10_isTie 3 = .ok (.getfield 101, 3) := by decide +kernel
theorem dX10_isTie_6 : decode cX10_isTie 6 = .ok (.iconst 1, 1) := by decide +kernel
theorem dX10_isTie_7 : decode cX10_isTie 7 = .ok (.isub, 1) := by decide +kernel
theorem dX10_isTie_8 : decode cX10_isTie 8 = .ok (.invokestatic 97, 3) := by decide +kernel
theorem dX10_isTie_11 : decode cX10_isTie 11 = .ok (.ireturn, 1) := by decide +kernel
set_option maxRecDepth 20000 in
theorem ggX10_areTwo_X10_isPerson : GoodIn wsX10_areTwo wsX10_isPerson := goodIn_r _ [5, 6, 7, 8, 4, 9, 10, 11, 12, 13, 14, 15, 16, 17, 18, 19, 20, 21, 22, 23, 24, 25, 26, 27, 28, 29, 30, 31, 32, 33, 34, 35, 36, 37, 38, 39, 40, 41, 42, 43, 44, 45, 46, 47, 48, 49, 50, 51, 52, 53, 54, 55, 56, 57, 58, 59, 60, 61, 62, 63] (by decide +kernel) (by decide +kernel)
set_option maxRecDepth 20000 in
theorem gX10_areTwo_X10_isPerson : GoodIn wsX10_areTwo (wsV RX10 104 RX10 yX10_isPerson wsX10_isPerson) := goodIn_app (goodIn_of _ (by decide +kernel)) ggX10_areTwo_X10_isPerson
theorem dX10_areTwo_0 : decode cX10_areTwo 0 = .ok (.aload_n 0, 1) := by decide +kernel
theorem dX10_areTwo_1 : decode cX10_areTwo 1 = .ok (.iload_n 1, 1) := by decide +kernel
theorem dX10_areTwo_2 : decode cX10_areTwo 2 = .ok (.invokevirtual 104, 3) := by decide +kernel
theorem dX10_areTwo_5 : decode cX10_areTwo 5 = .ok (.ifCond .eq 20, 3) := by decide +kernel
theorem dX10_areTwo_8 : decode cX10_areTwo 8 = .ok (.aload_n 0, 1) := by decide +kernel
theorem dX10_areTwo_9 : decode cX10_areTwo 9 = .ok (.iload_n 2, 1) := by decide +kernel
theorem dX10_areTwo_10 : decode cX10_areTwo 10 = .ok (.invokevirtual 104, 3) := by decide +kernel
theorem dX10_areTwo_13 : decode cX10_areTwo 13 = .ok (.ifCond .eq 12, 3) := by decide +kernel
theorem dX10_areTwo_16 : decode cX10_areTwo 16 = .ok (.iload_n 1, 1) := by decide +kernel
theorem dX10_areTwo_17 : decode cX10_areTwo 17 = .ok (.iload_n 2, 1) := by decide +kernel
theorem dX10_areTwo_18 : decode cX10_areTwo 18 = .ok (.if_icmp .eq 7, 3) := by decide +kernel
theorem dX10_areTwo_21 : decode cX10_areTwo 21 = .ok (.iconst 1, 1) := by decide +kernel
theorem dX10_areTwo_22 : decode cX10_areTwo 22 = .ok (.goto 4, 3) := by decide +kernel
theorem dX10_areTwo_25 : decode cX10_areTwo 25 = .ok (.iconst 0, 1) := by decide +kernel
theorem dX10_areTwo_26 : decode cX10_areTwo 26 = .ok (.ireturn, 1) := by decide +kernel
set_option maxRecDepth 20000 in
theorem ggX10_isSide_X10_in : GoodIn wsX10_isSide wsX10_in := goodIn_r _ [4] (by decide +kernel) (by decide +kernel)
set_option maxRecDepth 20000 in
theorem gX10_isSide_X10_in : GoodIn wsX10_isSide (va_wsS RX10 97 yX10_in wsX10_in) := goodIn_app (goodIn_of _ (by decide +kernel)) ggX10_isSide_X10_in
theorem dX10_isSide_0 : decode cX10_isSide 0 = .ok (.iload_n 0, 1) := by decide +kernel
theorem dX10_isSide_1 : decode cX10_isSide 1 = .ok (.iconst 0, 1) := by decide +kernel
theorem dX10_isSide_2 : decode cX10_isSide 2 = .ok (.iconst 1, 1) := by decide +kernel
theorem dX10_isSide_3 : decode cX10_isSide 3 = .ok (.invokestatic 97, 3) := by decide +kernel
theorem dX10_isSide_6 : decode cX10_isSide 6 = .ok (.ireturn, 1) := by decide +kernel
theorem dX10_all_0 : decode cX10_all 0 = .ok (.iconst 1, 1) := by decide +kernel
theorem dX10_all_1 : decode cX10_all 1 = .ok (.aload_n 0, 1) := by decide +kernel
theorem dX10_all_2 : decode cX10_all 2 = .ok (.getfield 7, 3) := by decide +kernel
theorem dX10_all_5 : decode cX10_all 5 = .ok (.ishl, 1) := by decide +kernel
theorem dX10_all_6 : decode cX10_all 6 = .ok (.iconst 1, 1) := by decide +kernel
theorem dX10_all_7 : decode cX10_all 7 = .ok (.isub, 1) := by decide +kernel
theorem dX10_all_8 : decode cX10_all 8 = .ok (.ireturn, 1) := by decide +kernel
theorem dX10_its_0 : decode cX10_its 0 = .ok (.aload_n 0, 1) := by decide +kernel
theorem dX10_its_1 : decode cX10_its 1 = .ok (.getfield 17, 3) := by decide +kernel
theorem dX10_its_4 : decode cX10_its 4 = .ok (.iconst 5, 1) := by decide +kernel
theorem dX10_its_5 : decode cX10_its 5 = .ok (.iload_n 1, 1) := by decide +kernel
theorem dX10_its_6 : decode cX10_its 6 = .ok (.imul, 1) := by decide +kernel
theorem dX10_its_7 : decode cX10_its 7 = .ok (.iload_n 2, 1) := by decide +kernel
theorem dX10_its_8 : decode cX10_its 8 = .ok (.iadd, 1) := by decide +kernel
theorem dX10_its_9 : decode cX10_its 9 = .ok (.iaload, 1) := by decide +kernel
theorem dX10_its_10 : decode cX10_its 10 = .ok (.ireturn, 1) := by decide +kernel
set_option maxRecDepth 20000 in
theorem ggX10_ends_X10_its : GoodIn wsX10_ends wsX10_its := goodIn_r _ [5, 6, 7, 8, 9, 10, 11, 12, 13, 14, 15, 16, 17, 18, 19, 20, 21, 22, 23, 24, 25, 26, 27, 28, 29, 30, 31, 32, 33, 34, 35, 36, 37, 38, 39, 40, 41, 42, 43, 44, 45, 46, 47, 48, 49, 50, 51, 52, 53, 54, 55, 56, 57, 58, 59, 60] (by decide +kernel) (by decide +kernel)
set_option maxRecDepth 20000 in
theorem gX10_ends_X10_its : GoodIn wsX10_ends (wsV RX10 108 RX10 yX10_its wsX10_its) := goodIn_app (goodIn_of _ (by decide +kernel)) ggX10_ends_X10_its
theorem dX10_ends_0 : decode cX10_ends 0 = .ok (.iconst 1, 1) := by decide +kernel
theorem dX10_ends_1 : decode cX10_ends 1 = .ok (.aload_n 0, 1) := by decide +kernel
theorem dX10_ends_2 : decode cX10_ends 2 = .ok (.iload_n 1, 1) := by decide +kernel
theorem dX10_ends_3 : decode cX10_ends 3 = .ok (.iconst 0, 1) := by decide +kernel
theorem dX10_ends_4 : decode cX10_ends 4 = .ok (.invokevirtual 108, 3) := by decide +kernel
theorem dX10_ends_7 : decode cX10_ends 7 = .ok (.ishl, 1) := by decide +kernel
theorem dX10_ends_8 : decode cX10_ends 8 = .ok (.iconst 1, 1) := by decide +kernel
theorem dX10_ends_9 : decode cX10_ends 9 = .ok (.aload_n 0, 1) := by decide +kernel
theorem dX10_ends_10 : decode cX10_ends 10 = .ok (.iload_n 1, 1) := by decide +kernel
theorem dX10_ends_11 : decode cX10_ends 11 = .ok (.iconst 1, 1) := by decide +kernel
theorem dX10_ends_12 : decode cX10_ends 12 = .ok (.invokevirtual 108, 3) := by decide +kernel
theorem dX10_ends_15 : decode cX10_ends 15 = .ok (.ishl, 1) := by decide +kernel
theorem dX10_ends_16 : decode cX10_ends 16 = .ok (.ior, 1) := by decide +kernel
theorem dX10_ends_17 : decode cX10_ends 17 = .ok (.ireturn, 1) := by decide +kernel
theorem dX10_ones_0 : decode cX10_ones 0 = .ok (.iconst 0, 1) := by decide +kernel
theorem dX10_ones_1 : decode cX10_ones 1 = .ok (.istore_n 1, 1) := by decide +kernel
theorem dX10_ones_2 : decode cX10_ones 2 = .ok (.iload_n 0, 1) := by decide +kernel
theorem dX10_ones_3 : decode cX10_ones 3 = .ok (.istore_n 2, 1) := by decide +kernel
theorem dX10_ones_4 : decode cX10_ones 4 = .ok (.iload_n 2, 1) := by decide +kernel
theorem dX10_ones_5 : decode cX10_ones 5 = .ok (.ifCond .eq 15, 3) := by decide +kernel
theorem dX10_ones_8 : decode cX10_ones 8 = .ok (.iinc 1 1, 3) := by decide +kernel
theorem dX10_ones_11 : decode cX10_ones 11 = .ok (.iload_n 2, 1) := by decide +kernel
theorem dX10_ones_12 : decode cX10_ones 12 = .ok (.iload_n 2, 1) := by decide +kernel
theorem dX10_ones_13 : decode cX10_ones 13 = .ok (.iconst 1, 1) := by decide +kernel
theorem dX10_ones_14 : decode cX10_ones 14 = .ok (.isub, 1) := by decide +kernel
theorem dX10_ones_15 : decode cX10_ones 15 = .ok (.iand, 1) := by decide +kernel
theorem dX10_ones_16 : decode cX10_ones 16 = .ok (.istore_n 2, 1) := by decide +kernel
theorem dX10_ones_17 : decode cX10_ones 17 = .ok (.goto (-13), 3) := by decide +kernel
theorem dX10_ones_20 : decode cX10_ones 20 = .ok (.iload_n 1, 1) := by decide +kernel
theorem dX10_ones_21 : decode cX10_ones 21 = .ok (.ireturn, 1) := by decide +kernel
set_option maxRecDepth 20000 in
theorem ggX10_inSet_X10_ends : GoodIn wsX10_inSet wsX10_ends := goodIn_r _ [5, 6, 7, 8, 4, 9, 10, 14, 15, 16, 17, 18, 19, 20, 21, 22, 23, 24, 25, 26, 27, 28, 29, 30, 31, 32, 33, 34, 35, 36, 37, 38, 39, 40, 41, 42, 43, 44, 45, 46, 47, 48, 49, 50, 51, 52, 53, 54, 55, 56, 57, 58, 59, 60, 61, 62, 63, 64, 65, 66, 67] (by decide +kernel) (by decide +kernel)
set_option maxRecDepth 20000 in
theorem gX10_inSet_X10_ends : GoodIn wsX10_inSet (wsV RX10 112 RX10 yX10_ends wsX10_ends) := goodIn_app (goodIn_of _ (by decide +kernel)) ggX10_inSet_X10_ends
set_option maxRecDepth 20000 in
theorem ggX10_inSet_X10_ones : GoodIn wsX10_inSet wsX10_ones := goodIn_r _ [13] (by decide +kernel) (by decide +kernel)
set_option maxRecDepth 20000 in
theorem gX10_inSet_X10_ones : GoodIn wsX10_inSet (va_wsS RX10 116 yX10_ones wsX10_ones) := goodIn_app (goodIn_of _ (by decide +kernel)) ggX10_inSet_X10_ones
theorem dX10_inSet_0 : decode cX10_inSet 0 = .ok (.aload_n 0, 1) := by decide +kernel
theorem dX10_inSet_1 : decode cX10_inSet 1 = .ok (.iload_n 1, 1) := by decide +kernel
theorem dX10_inSet_2 : decode cX10_inSet 2 = .ok (.invokevirtual 112, 3) := by decide +kernel
theorem dX10_inSet_5 : decode cX10_inSet 5 = .ok (.iload_n 2, 1) := by decide +kernel
theorem dX10_inSet_6 : decode cX10_inSet 6 = .ok (.iand, 1) := by decide +kernel
theorem dX10_inSet_7 : decode cX10_inSet 7 = .ok (.invokestatic 116, 3) := by decide +kernel
theorem dX10_inSet_10 : decode cX10_inSet 10 = .ok (.ireturn, 1) := by decide +kernel
set_option maxRecDepth 20000 in
theorem ggX10_feed_X10_in : GoodIn wsX10_feed wsX10_in := goodIn_r _ [7] (by decide +kernel) (by decide +kernel)
set_option maxRecDepth 20000 in
theorem gX10_feed_X10_in : GoodIn wsX10_feed (va_wsS RX10 97 yX10_in wsX10_in) := goodIn_app (goodIn_of _ (by decide +kernel)) ggX10_feed_X10_in
theorem dX10_feed_0 : decode cX10_feed 0 = .ok (.iload_n 3, 1) := by decide +kernel
theorem dX10_feed_1 : decode cX10_feed 1 = .ok (.iconst 1, 1) := by decide +kernel
theorem dX10_feed_2 : decode cX10_feed 2 = .ok (.bipush 8, 2) := by decide +kernel
theorem dX10_feed_4 : decode cX10_feed 4 = .ok (.invokestatic 97, 3) := by decide +kernel
theorem dX10_feed_7 : decode cX10_feed 7 = .ok (.ifCond .ne 5, 3) := by decide +kernel
theorem dX10_feed_10 : decode cX10_feed 10 = .ok (.iconst (-1), 1) := by decide +kernel
theorem dX10_feed_11 : decode cX10_feed 11 = .ok (.ireturn, 1) := by decide +kernel
theorem dX10_feed_12 : decode cX10_feed 12 = .ok (.aload_n 0, 1) := by decide +kernel
theorem dX10_feed_13 : decode cX10_feed 13 = .ok (.getfield 119, 3) := by decide +kernel
theorem dX10_feed_16 : decode cX10_feed 16 = .ok (.iload_n 3, 1) := by decide +kernel
theorem dX10_feed_17 : decode cX10_feed 17 = .ok (.iadd, 1) := by decide +kernel
theorem dX10_feed_18 : decode cX10_feed 18 = .ok (.sipush 200, 3) := by decide +kernel
theorem dX10_feed_21 : decode cX10_feed 21 = .ok (.if_icmp .le 6, 3) := by decide +kernel
theorem dX10_feed_24 : decode cX10_feed 24 = .ok (.bipush (-2), 2) := by decide +kernel
theorem dX10_feed_26 : decode cX10_feed 26 = .ok (.ireturn, 1) := by decide +kernel
theorem dX10_feed_27 : decode cX10_feed 27 = .ok (.iconst 0, 1) := by decide +kernel
theorem dX10_feed_28 : decode cX10_feed 28 = .ok (.istore 4, 2) := by decide +kernel
theorem dX10_feed_30 : decode cX10_feed 30 = .ok (.iload 4, 2) := by decide +kernel
theorem dX10_feed_32 : decode cX10_feed 32 = .ok (.iload_n 3, 1) := by decide +kernel
theorem dX10_feed_33 : decode cX10_feed 33 = .ok (.if_icmp .ge 40, 3) := by decide +kernel
theorem dX10_feed_36 : decode cX10_feed 36 = .ok (.aload_n 0, 1) := by decide +kernel
theorem dX10_feed_37 : decode cX10_feed 37 = .ok (.getfield 29, 3) := by decide +kernel
theorem dX10_feed_40 : decode cX10_feed 40 = .ok (.aload_n 0, 1) := by decide +kernel
theorem dX10_feed_41 : decode cX10_feed 41 = .ok (.getfield 119, 3) := by decide +kernel
theorem dX10_feed_44 : decode cX10_feed 44 = .ok (.lload_n 1, 1) := by decide +kernel
theorem dX10_feed_45 : decode cX10_feed 45 = .ok (.bipush 8, 2) := by decide +kernel
theorem dX10_feed_47 : decode cX10_feed 47 = .ok (.iload 4, 2) := by decide +kernel
theorem dX10_feed_49 : decode cX10_feed 49 = .ok (.imul, 1) := by decide +kernel
theorem dX10_feed_50 : decode cX10_feed 50 = .ok (.lshr, 1) := by decide +kernel
theorem dX10_feed_51 : decode cX10_feed 51 = .ok (.ldc2_w 122, 3) := by decide +kernel
theorem dX10_feed_54 : decode cX10_feed 54 = .ok (.land, 1) := by decide +kernel
theorem dX10_feed_55 : decode cX10_feed 55 = .ok (.l2i, 1) := by decide +kernel
theorem dX10_feed_56 : decode cX10_feed 56 = .ok (.iastore, 1) := by decide +kernel
theorem dX10_feed_57 : decode cX10_feed 57 = .ok (.aload_n 0, 1) := by decide +kernel
theorem dX10_feed_58 : decode cX10_feed 58 = .ok (.dup, 1) := by decide +kernel
theorem dX10_feed_59 : decode cX10_feed 59 = .ok (.getfield 119, 3) := by decide +kernel
theorem dX10_feed_62 : decode cX10_feed 62 = .ok (.iconst 1, 1) := by decide +kernel
theorem dX10_feed_63 : decode cX10_feed 63 = .ok (.iadd, 1) := by decide +kernel
theorem dX10_feed_64 : decode cX10_feed 64 = .ok (.putfield 119, 3) := by decide +kernel
theorem dX10_feed_67 : decode cX10_feed 67 = .ok (.iinc 4 1, 3) := by decide +kernel
theorem dX10_feed_70 : decode cX10_feed 70 = .ok (.goto (-40), 3) := by decide +kernel
theorem dX10_feed_73 : decode cX10_feed 73 = .ok (.aload_n 0, 1) := by decide +kernel
theorem dX10_feed_74 : decode cX10_feed 74 = .ok (.getfield 119, 3) := by decide +kernel
theorem dX10_feed_77 : decode cX10_feed 77 = .ok (.ireturn, 1) := by decide +kernel
theorem dX10_byteAt_0 : decode cX10_byteAt 0 = .ok (.iload_n 1, 1) := by decide +kernel
theorem dX10_byteAt_1 : decode cX10_byteAt 1 = .ok (.aload_n 0, 1) := by decide +kernel
theorem dX10_byteAt_2 : decode cX10_byteAt 2 = .ok (.getfield 119, 3) := by decide +kernel
theorem dX10_byteAt_5 : decode cX10_byteAt 5 = .ok (.if_icmp .ge 12, 3) := by decide +kernel
theorem dX10_byteAt_8 : decode cX10_byteAt 8 = .ok (.aload_n 0, 1) := by decide +kernel
theorem dX10_byteAt_9 : decode cX10_byteAt 9 = .ok (.getfield 29, 3) := by decide +kernel
theorem dX10_byteAt_12 : decode cX10_byteAt 12 = .ok (.iload_n 1, 1) := by decide +kernel
theorem dX10_byteAt_13 : decode cX10_byteAt 13 = .ok (.iaload, 1) := by decide +kernel
theorem dX10_byteAt_14 : decode cX10_byteAt 14 = .ok (.goto 4, 3) := by decide +kernel
theorem dX10_byteAt_17 : decode cX10_byteAt 17 = .ok (.iconst (-1), 1) := by decide +kernel
theorem dX10_byteAt_18 : decode cX10_byteAt 18 = .ok (.ireturn, 1) := by decide +kernel
set_option maxRecDepth 20000 in
theorem ggX10_isLetter_X10_in : GoodIn wsX10_isLetter wsX10_in := goodIn_r _ [4] (by decide +kernel) (by decide +kernel)
set_option maxRecDepth 20000 in
theorem gX10_isLetter_X10_in : GoodIn wsX10_isLetter (va_wsS RX10 97 yX10_in wsX10_in) := goodIn_app (goodIn_of _ (by decide +kernel)) ggX10_isLetter_X10_in
theorem dX10_isLetter_0 : decode cX10_isLetter 0 = .ok (.iload_n 0, 1) := by decide +kernel
theorem dX10_isLetter_1 : decode cX10_isLetter 1 = .ok (.bipush 97, 2) := by decide +kernel
theorem dX10_isLetter_3 : decode cX10_isLetter 3 = .ok (.bipush 122, 2) := by decide +kernel
theorem dX10_isLetter_5 : decode cX10_isLetter 5 = .ok (.invokestatic 97, 3) := by decide +kernel
theorem dX10_isLetter_8 : decode cX10_isLetter 8 = .ok (.ireturn, 1) := by decide +kernel
set_option maxRecDepth 20000 in
theorem ggX10_isDigit_X10_in : GoodIn wsX10_isDigit wsX10_in := goodIn_r _ [4] (by decide +kernel) (by decide +kernel)
set_option maxRecDepth 20000 in
theorem gX10_isDigit_X10_in : GoodIn wsX10_isDigit (va_wsS RX10 97 yX10_in wsX10_in) := goodIn_app (goodIn_of _ (by decide +kernel)) ggX10_isDigit_X10_in
theorem dX10_isDigit_0 : decode cX10_isDigit 0 = .ok (.iload_n 0, 1) := by decide +kernel
theorem dX10_isDigit_1 : decode cX10_isDigit 1 = .ok (.bipush 48, 2) := by decide +kernel
theorem dX10_isDigit_3 : decode cX10_isDigit 3 = .ok (.bipush 57, 2) := by decide +kernel
theorem dX10_isDigit_5 : decode cX10_isDigit 5 = .ok (.invokestatic 97, 3) := by decide +kernel
theorem dX10_isDigit_8 : decode cX10_isDigit 8 = .ok (.ireturn, 1) := by decide +kernel
set_option maxRecDepth 20000 in
theorem ggX10_advance_X10_byteAt : GoodIn wsX10_advance wsX10_byteAt := goodIn_r _ [13, 14, 15, 25, 26, 27, 28, 29, 30, 31, 32, 33, 34, 35, 36, 37, 38, 39, 40, 41, 42, 43, 44, 45, 46, 47, 48, 49, 50, 51, 52, 53, 54, 55, 56, 57, 58, 59, 60, 61, 62, 63, 64, 65, 66, 67, 68, 69, 70, 71, 72, 73, 74, 75, 76, 77, 78] (by decide +kernel) (by decide +kernel)
set_option maxRecDepth 20000 in
theorem gX10_advance_X10_byteAt : GoodIn wsX10_advance (wsV RX10 130 RX10 yX10_byteAt wsX10_byteAt) := goodIn_app (goodIn_of _ (by decide +kernel)) ggX10_advance_X10_byteAt
set_option maxRecDepth 20000 in
theorem ggX10_advance_X10_isLetter : GoodIn wsX10_advance wsX10_isLetter := goodIn_r _ [18, 19, 20, 12, 21] (by decide +kernel) (by decide +kernel)
set_option maxRecDepth 20000 in
theorem gX10_advance_X10_isLetter : GoodIn wsX10_advance (va_wsS RX10 133 yX10_isLetter wsX10_isLetter) := goodIn_app (goodIn_of _ (by decide +kernel)) ggX10_advance_X10_isLetter
set_option maxRecDepth 20000 in
theorem ggX10_advance_X10_isDigit : GoodIn wsX10_advance wsX10_isDigit := goodIn_r _ [24, 19, 20, 12, 21] (by decide +kernel) (by decide +kernel)
set_option maxRecDepth 20000 in
theorem gX10_advance_X10_isDigit : GoodIn wsX10_advance (va_wsS RX10 136 yX10_isDigit wsX10_isDigit) := goodIn_app (goodIn_of _ (by decide +kernel)) ggX10_advance_X10_isDigit
theorem dX10_advance_0 : decode cX10_advance 0 = .ok (.aload_n 0, 1) := by decide +kernel
theorem dX10_advance_1 : decode cX10_advance 1 = .ok (.aload_n 0, 1) := by decide +kernel
theorem dX10_advance_2 : decode cX10_advance 2 = .ok (.getfield 124, 3) := by decide +kernel
theorem dX10_advance_5 : decode cX10_advance 5 = .ok (.putfield 127, 3) := by decide +kernel
theorem dX10_advance_8 : decode cX10_advance 8 = .ok (.aload_n 0, 1) := by decide +kernel
theorem dX10_advance_9 : decode cX10_advance 9 = .ok (.aload_n 0, 1) := by decide +kernel
theorem dX10_advance_10 : decode cX10_advance 10 = .ok (.getfield 127, 3) := by decide +kernel
theorem dX10_advance_13 : decode cX10_advance 13 = .ok (.invokevirtual 130, 3) := by decide +kernel
theorem dX10_advance_16 : decode cX10_advance 16 = .ok (.bipush 32, 2) := by decide +kernel
theorem dX10_advance_18 : decode cX10_advance 18 = .ok (.if_icmp .ne 16, 3) := by decide +kernel
theorem dX10_advance_21 : decode cX10_advance 21 = .ok (.aload_n 0, 1) := by decide +kernel
theorem dX10_advance_22 : decode cX10_advance 22 = .ok (.dup, 1) := by decide +kernel
theorem dX10_advance_23 : decode cX10_advance 23 = .ok (.getfield 127, 3) := by decide +kernel
theorem dX10_advance_26 : decode cX10_advance 26 = .ok (.iconst 1, 1) := by decide +kernel
theorem dX10_advance_27 : decode cX10_advance 27 = .ok (.iadd, 1) := by decide +kernel
theorem dX10_advance_28 : decode cX10_advance 28 = .ok (.putfield 127, 3) := by decide +kernel
theorem dX10_advance_31 : decode cX10_advance 31 = .ok (.goto (-23), 3) := by decide +kernel
theorem dX10_advance_34 : decode cX10_advance 34 = .ok (.aload_n 0, 1) := by decide +kernel
theorem dX10_advance_35 : decode cX10_advance 35 = .ok (.aload_n 0, 1) := by decide +kernel
theorem dX10_advance_36 : decode cX10_advance 36 = .ok (.getfield 127, 3) := by decide +kernel
theorem dX10_advance_39 : decode cX10_advance 39 = .ok (.putfield 124, 3) := by decide +kernel
theorem dX10_advance_42 : decode cX10_advance 42 = .ok (.aload_n 0, 1) := by decide +kernel
theorem dX10_advance_43 : decode cX10_advance 43 = .ok (.aload_n 0, 1) := by decide +kernel
theorem dX10_advance_44 : decode cX10_advance 44 = .ok (.getfield 127, 3) := by decide +kernel
theorem dX10_advance_47 : decode cX10_advance 47 = .ok (.invokevirtual 130, 3) := by decide +kernel
theorem dX10_advance_50 : decode cX10_advance 50 = .ok (.istore_n 1, 1) := by decide +kernel
theorem dX10_advance_51 : decode cX10_advance 51 = .ok (.aload_n 0, 1) := by decide +kernel
theorem dX10_advance_52 : decode cX10_advance 52 = .ok (.iload_n 1, 1) := by decide +kernel
theorem dX10_advance_53 : decode cX10_advance 53 = .ok (.ifCond .ge 7, 3) := by decide +kernel
theorem dX10_advance_56 : decode cX10_advance 56 = .ok (.iconst 0, 1) := by decide +kernel
theorem dX10_advance_57 : decode cX10_advance 57 = .ok (.goto 26, 3) := by decide +kernel
theorem dX10_advance_60 : decode cX10_advance 60 = .ok (.iload_n 1, 1) := by decide +kernel
theorem dX10_advance_61 : decode cX10_advance 61 = .ok (.invokestatic 133, 3) := by decide +kernel
theorem dX10_advance_64 : decode cX10_advance 64 = .ok (.ifCond .eq 7, 3) := by decide +kernel
theorem dX10_advance_67 : decode cX10_advance 67 = .ok (.iconst 1, 1) := by decide +kernel
theorem dX10_advance_68 : decode cX10_advance 68 = .ok (.goto 15, 3) := by decide +kernel
theorem dX10_advance_71 : decode cX10_advance 71 = .ok (.iload_n 1, 1) := by decide +kernel
theorem dX10_advance_72 : decode cX10_advance 72 = .ok (.invokestatic 136, 3) := by decide +kernel
theorem dX10_advance_75 : decode cX10_advance 75 = .ok (.ifCond .eq 7, 3) := by decide +kernel
theorem dX10_advance_78 : decode cX10_advance 78 = .ok (.iconst 2, 1) := by decide +kernel
theorem dX10_advance_79 : decode cX10_advance 79 = .ok (.goto 4, 3) := by decide +kernel
theorem dX10_advance_82 : decode cX10_advance 82 = .ok (.iconst 3, 1) := by decide +kernel
theorem dX10_advance_83 : decode cX10_advance 83 = .ok (.putfield 139, 3) := by decide +kernel
theorem dX10_advance_86 : decode cX10_advance 86 = .ok (.aload_n 0, 1) := by decide +kernel
theorem dX10_advance_87 : decode cX10_advance 87 = .ok (.lconst 0, 1) := by decide +kernel
theorem dX10_advance_88 : decode cX10_advance 88 = .ok (.putfield 142, 3) := by decide +kernel
theorem dX10_advance_91 : decode cX10_advance 91 = .ok (.aload_n 0, 1) := by decide +kernel
theorem dX10_advance_92 : decode cX10_advance 92 = .ok (.aload_n 0, 1) := by decide +kernel
theorem dX10_advance_93 : decode cX10_advance 93 = .ok (.getfield 139, 3) := by decide +kernel
theorem dX10_advance_96 : decode cX10_advance 96 = .ok (.iconst 2, 1) := by decide +kernel
theorem dX10_advance_97 : decode cX10_advance 97 = .ok (.if_icmp .ne 7, 3) := by decide +kernel
theorem dX10_advance_100 : decode cX10_advance 100 = .ok (.iconst 0, 1) := by decide +kernel
theorem dX10_advance_101 : decode cX10_advance 101 = .ok (.goto 4, 3) := by decide +kernel
theorem dX10_advance_104 : decode cX10_advance 104 = .ok (.iload_n 1, 1) := by decide +kernel
theorem dX10_advance_105 : decode cX10_advance 105 = .ok (.putfield 146, 3) := by decide +kernel
theorem dX10_advance_108 : decode cX10_advance 108 = .ok (.aload_n 0, 1) := by decide +kernel
theorem dX10_advance_109 : decode cX10_advance 109 = .ok (.getfield 139, 3) := by decide +kernel
theorem dX10_advance_112 : decode cX10_advance 112 = .ok (.iconst 3, 1) := by decide +kernel
theorem dX10_advance_113 : decode cX10_advance 113 = .ok (.if_icmp .ne 13, 3) := by decide +kernel
theorem dX10_advance_116 : decode cX10_advance 116 = .ok (.aload_n 0, 1) := by decide +kernel
theorem dX10_advance_117 : decode cX10_advance 117 = .ok (.dup, 1) := by decide +kernel
theorem dX10_advance_118 : decode cX10_advance 118 = .ok (.getfield 124, 3) := by decide +kernel
theorem dX10_advance_121 : decode cX10_advance 121 = .ok (.iconst 1, 1) := by decide +kernel
theorem dX10_advance_122 : decode cX10_advance 122 = .ok (.iadd, 1) := by decide +kernel
theorem dX10_advance_123 : decode cX10_advance 123 = .ok (.putfield 124, 3) := by decide +kernel
theorem dX10_advance_126 : decode cX10_advance 126 = .ok (.aload_n 0, 1) := by decide +kernel
theorem dX10_advance_127 : decode cX10_advance 127 = .ok (.getfield 139, 3) := by decide +kernel
theorem dX10_advance_130 : decode cX10_advance 130 = .ok (.iconst 1, 1) := by decide +kernel
theorem dX10_advance_131 : decode cX10_advance 131 = .ok (.if_icmp .ne 76, 3) := by decide +kernel
theorem dX10_advance_134 : decode cX10_advance 134 = .ok (.aload_n 0, 1) := by decide +kernel
theorem dX10_advance_135 : decode cX10_advance 135 = .ok (.aload_n 0, 1) := by decide +kernel
theorem dX10_advance_136 : decode cX10_advance 136 = .ok (.getfield 124, 3) := by decide +kernel
theorem dX10_advance_139 : decode cX10_advance 139 = .ok (.invokevirtual 130, 3) := by decide +kernel
theorem dX10_advance_142 : decode cX10_advance 142 = .ok (.invokestatic 133, 3) := by decide +kernel
theorem dX10_advance_145 : decode cX10_advance 145 = .ok (.ifCond .eq 62, 3) := by decide +kernel
theorem dX10_advance_148 : decode cX10_advance 148 = .ok (.aload_n 0, 1) := by decide +kernel
theorem dX10_advance_149 : decode cX10_advance 149 = .ok (.aload_n 0, 1) := by decide +kernel
theorem dX10_advance_150 : decode cX10_advance 150 = .ok (.getfield 124, 3) := by decide +kernel
theorem dX10_advance_153 : decode cX10_advance 153 = .ok (.aload_n 0, 1) := by decide +kernel
theorem dX10_advance_154 : decode cX10_advance 154 = .ok (.getfield 127, 3) := by decide +kernel
theorem dX10_advance_157 : decode cX10_advance 157 = .ok (.isub, 1) := by decide +kernel
theorem dX10_advance_158 : decode cX10_advance 158 = .ok (.bipush 8, 2) := by decide +kernel
theorem dX10_advance_160 : decode cX10_advance 160 = .ok (.if_icmp .ge 28, 3) := by decide +kernel
theorem dX10_advance_163 : decode cX10_advance 163 = .ok (.ldc2_w 149, 3) := by decide +kernel
theorem dX10_advance_166 : decode cX10_advance 166 = .ok (.aload_n 0, 1) := by decide +kernel
theorem dX10_advance_167 : decode cX10_advance 167 = .ok (.getfield 142, 3) := by decide +kernel
theorem dX10_advance_170 : decode cX10_advance 170 = .ok (.lmul, 1) := by decide +kernel
theorem dX10_advance_171 : decode cX10_advance 171 = .ok (.aload_n 0, 1) := by decide +kernel
theorem dX10_advance_172 : decode cX10_advance 172 = .ok (.aload_n 0, 1) := by decide +kernel
theorem dX10_advance_173 : decode cX10_advance 173 = .ok (.getfield 124, 3) := by decide +kernel
theorem dX10_advance_176 : decode cX10_advance 176 = .ok (.invokevirtual 130, 3) := by decide +kernel
theorem dX10_advance_179 : decode cX10_advance 179 = .ok (.i2l, 1) := by decide +kernel
theorem dX10_advance_180 : decode cX10_advance 180 = .ok (.ladd, 1) := by decide +kernel
theorem dX10_advance_181 : decode cX10_advance 181 = .ok (.ldc2_w 151, 3) := by decide +kernel
theorem dX10_advance_184 : decode cX10_advance 184 = .ok (.lsub, 1) := by decide +kernel
theorem dX10_advance_185 : decode cX10_advance 185 = .ok (.goto 6, 3) := by decide +kernel
theorem dX10_advance_188 : decode cX10_advance 188 = .ok (.ldc2_w 153, 3) := by decide +kernel
theorem dX10_advance_191 : decode cX10_advance 191 = .ok (.putfield 142, 3) := by decide +kernel
theorem dX10_advance_194 : decode cX10_advance 194 = .ok (.aload_n 0, 1) := by decide +kernel
theorem dX10_advance_195 : decode cX10_advance 195 = .ok (.dup, 1) := by decide +kernel
theorem dX10_advance_196 : decode cX10_advance 196 = .ok (.getfield 124, 3) := by decide +kernel
theorem dX10_advance_199 : decode cX10_advance 199 = .ok (.iconst 1, 1) := by decide +kernel
theorem dX10_advance_200 : decode cX10_advance 200 = .ok (.iadd, 1) := by decide +kernel
theorem dX10_advance_201 : decode cX10_advance 201 = .ok (.putfield 124, 3) := by decide +kernel
theorem dX10_advance_204 : decode cX10_advance 204 = .ok (.goto (-78), 3) := by decide +kernel
theorem dX10_advance_207 : decode cX10_advance 207 = .ok (.aload_n 0, 1) := by decide +kernel
theorem dX10_advance_208 : decode cX10_advance 208 = .ok (.getfield 139, 3) := by decide +kernel
theorem dX10_advance_211 : decode cX10_advance 211 = .ok (.iconst 2, 1) := by decide +kernel
theorem dX10_advance_212 : decode cX10_advance 212 = .ok (.if_icmp .ne 70, 3) := by decide +kernel
theorem dX10_advance_215 : decode cX10_advance 215 = .ok (.aload_n 0, 1) := by decide +kernel
theorem dX10_advance_216 : decode cX10_advance 216 = .ok (.aload_n 0, 1) := by decide +kernel
theorem dX10_advance_217 : decode cX10_advance 217 = .ok (.getfield 124, 3) := by decide +kernel
theorem dX10_advance_220 : decode cX10_advance 220 = .ok (.invokevirtual 130, 3) := by decide +kernel
theorem dX10_advance_223 : decode cX10_advance 223 = .ok (.invokestatic 136, 3) := by decide +kernel
theorem dX10_advance_226 : decode cX10_advance 226 = .ok (.ifCond .eq 56, 3) := by decide +kernel
theorem dX10_advance_229 : decode cX10_advance 229 = .ok (.aload_n 0, 1) := by decide +kernel
theorem dX10_advance_230 : decode cX10_advance 230 = .ok (.aload_n 0, 1) := by decide +kernel
theorem dX10_advance_231 : decode cX10_advance 231 = .ok (.getfield 124, 3) := by decide +kernel
theorem dX10_advance_234 : decode cX10_advance 234 = .ok (.aload_n 0, 1) := by decide +kernel
theorem dX10_advance_235 : decode cX10_advance 235 = .ok (.getfield 127, 3) := by decide +kernel
theorem dX10_advance_238 : decode cX10_advance 238 = .ok (.isub, 1) := by decide +kernel
theorem dX10_advance_239 : decode cX10_advance 239 = .ok (.iconst 2, 1) := by decide +kernel
theorem dX10_advance_240 : decode cX10_advance 240 = .ok (.if_icmp .ge 25, 3) := by decide +kernel
theorem dX10_advance_243 : decode cX10_advance 243 = .ok (.bipush 10, 2) := by decide +kernel
theorem dX10_advance_245 : decode cX10_advance 245 = .ok (.aload_n 0, 1) := by decide +kernel
theorem dX10_advance_246 : decode cX10_advance 246 = .ok (.getfield 146, 3) := by decide +kernel
theorem dX10_advance_249 : decode cX10_advance 249 = .ok (.imul, 1) := by decide +kernel
theorem dX10_advance_250 : decode cX10_advance 250 = .ok (.aload_n 0, 1) := by decide +kernel
theorem dX10_advance_251 : decode cX10_advance 251 = .ok (.aload_n 0, 1) := by decide +kernel
theorem dX10_advance_252 : decode cX10_advance 252 = .ok (.getfield 124, 3) := by decide +kernel
theorem dX10_advance_255 : decode cX10_advance 255 = .ok (.invokevirtual 130, 3) := by decide +kernel
theorem dX10_advance_258 : decode cX10_advance 258 = .ok (.iadd, 1) := by decide +kernel
theorem dX10_advance_259 : decode cX10_advance 259 = .ok (.bipush 48, 2) := by decide +kernel
theorem dX10_advance_261 : decode cX10_advance 261 = .ok (.isub, 1) := by decide +kernel
theorem dX10_advance_262 : decode cX10_advance 262 = .ok (.goto 4, 3) := by decide +kernel
theorem dX10_advance_265 : decode cX10_advance 265 = .ok (.iconst (-1), 1) := by decide +kernel
theorem dX10_advance_266 : decode cX10_advance 266 = .ok (.putfield 146, 3) := by decide +kernel
theorem dX10_advance_269 : decode cX10_advance 269 = .ok (.aload_n 0, 1) := by decide +kernel
theorem dX10_advance_270 : decode cX10_advance 270 = .ok (.dup, 1) := by decide +kernel
theorem dX10_advance_271 : decode cX10_advance 271 = .ok (.getfield 124, 3) := by decide +kernel
theorem dX10_advance_274 : decode cX10_advance 274 = .ok (.iconst 1, 1) := by decide +kernel
theorem dX10_advance_275 : decode cX10_advance 275 = .ok (.iadd, 1) := by decide +kernel
theorem dX10_advance_276 : decode cX10_advance 276 = .ok (.putfield 124, 3) := by decide +kernel
theorem dX10_advance_279 : decode cX10_advance 279 = .ok (.goto (-72), 3) := by decide +kernel
theorem dX10_advance_282 : decode cX10_advance 282 = .ok (.return_, 1) := by decide +kernel
theorem dX10_isWord_0 : decode cX10_isWord 0 = .ok (.aload_n 0, 1) := by decide +kernel
theorem dX10_isWord_1 : decode cX10_isWord 1 = .ok (.getfield 139, 3) := by decide +kernel
theorem dX10_isWord_4 : decode cX10_isWord 4 = .ok (.iconst 1, 1) := by decide +kernel
theorem dX10_isWord_5 : decode cX10_isWord 5 = .ok (.if_icmp .ne 16, 3) := by decide +kernel
theorem dX10_isWord_8 : decode cX10_isWord 8 = .ok (.aload_n 0, 1) := by decide +kernel
theorem dX10_isWord_9 : decode cX10_isWord 9 = .ok (.getfield 142, 3) := by decide +kernel
theorem dX10_isWord_12 : decode cX10_isWord 12 = .ok (.lload_n 1, 1) := by decide +kernel
theorem dX10_isWord_13 : decode cX10_isWord 13 = .ok (.lcmp, 1) := by decide +kernel
theorem dX10_isWord_14 : decode cX10_isWord 14 = .ok (.ifCond .ne 7, 3) := by decide +kernel
theorem dX10_isWord_17 : decode cX10_isWord 17 = .ok (.iconst 1, 1) := by decide +kernel
theorem dX10_isWord_18 : decode cX10_isWord 18 = .ok (.goto 4, 3) := by decide +kernel
theorem dX10_isWord_21 : decode cX10_isWord 21 = .ok (.iconst 0, 1) := by decide +kernel
theorem dX10_isWord_22 : decode cX10_isWord 22 = .ok (.ireturn, 1) := by decide +kernel
set_option maxRecDepth 20000 in
theorem ggX10_wantWord_X10_isWord : GoodIn wsX10_wantWord wsX10_isWord := goodIn_r _ [6, 7, 8, 34, 35, 36, 37, 38, 39, 40, 41, 42, 43, 44, 45, 46, 47, 48, 49, 50, 51, 52, 53, 54, 55, 56, 57, 58, 59, 60, 61, 62, 63, 64, 65, 66, 67, 68, 69, 70, 71, 72, 73, 74, 75, 76, 77, 78, 79, 80, 81, 82, 83, 84, 85, 86, 87] (by decide +kernel) (by decide +kernel)
set_option maxRecDepth 20000 in
theorem gX10_wantWord_X10_isWord : GoodIn wsX10_wantWord (wsV RX10 159 RX10 yX10_isWord wsX10_isWord) := goodIn_app (goodIn_of _ (by decide +kernel)) ggX10_wantWord_X10_isWord
set_option maxRecDepth 20000 in
theorem ggX10_wantWord_X10_advance : GoodIn wsX10_wantWord wsX10_advance := goodIn_r _ [12, 13, 14, 7, 8, 15, 16, 17, 18, 19, 20, 21, 5, 22, 23, 24, 25, 26, 27, 28, 29, 30, 31, 32, 33, 34, 35, 36, 37, 38, 39, 40, 41, 42, 43, 44, 45, 46, 47, 48, 49, 50, 51, 52, 53, 54, 55, 56, 57, 58, 59, 60, 61, 62, 63, 64, 65, 66, 67, 68, 69, 70, 71, 72, 73, 74, 75, 76, 77, 78, 79, 80, 81, 82, 83, 84, 85, 86, 87] (by decide +kernel) (by decide +kernel)
set_option maxRecDepth 20000 in
theorem gX10_wantWord_X10_advance : GoodIn wsX10_wantWord (wsV RX10 163 RX10 yX10_advance wsX10_advance) := goodIn_app (goodIn_of _ (by decide +kernel)) ggX10_wantWord_X10_advance
theorem dX10_wantWord_0 : decode cX10_wantWord 0 = .ok (.aload_n 0, 1) := by decide +kernel
theorem dX10_wantWord_1 : decode cX10_wantWord 1 = .ok (.aload_n 0, 1) := by decide +kernel
theorem dX10_wantWord_2 : decode cX10_wantWord 2 = .ok (.getfield 155, 3) := by decide +kernel
theorem dX10_wantWord_5 : decode cX10_wantWord 5 = .ok (.ifCond .eq 15, 3) := by decide +kernel
theorem dX10_wantWord_8 : decode cX10_wantWord 8 = .ok (.aload_n 0, 1) := by decide +kernel
theorem dX10_wantWord_9 : decode cX10_wantWord 9 = .ok (.lload_n 1, 1) := by decide +kernel
theorem dX10_wantWord_10 : decode cX10_wantWord 10 = .ok (.invokevirtual 159, 3) := by decide +kernel
theorem dX10_wantWord_13 : decode cX10_wantWord 13 = .ok (.ifCond .eq 7, 3) := by decide +kernel
theorem dX10_wantWord_16 : decode cX10_wantWord 16 = .ok (.iconst 1, 1) := by decide +kernel
theorem dX10_wantWord_17 : decode cX10_wantWord 17 = .ok (.goto 4, 3) := by decide +kernel
theorem dX10_wantWord_20 : decode cX10_wantWord 20 = .ok (.iconst 0, 1) := by decide +kernel
theorem dX10_wantWord_21 : decode cX10_wantWord 21 = .ok (.putfield 155, 3) := by decide +kernel
theorem dX10_wantWord_24 : decode cX10_wantWord 24 = .ok (.aload_n 0, 1) := by decide +kernel
theorem dX10_wantWord_25 : decode cX10_wantWord 25 = .ok (.getfield 155, 3) := by decide +kernel
theorem dX10_wantWord_28 : decode cX10_wantWord 28 = .ok (.ifCond .eq 7, 3) := by decide +kernel
theorem dX10_wantWord_31 : decode cX10_wantWord 31 = .ok (.aload_n 0, 1) := by decide +kernel
theorem dX10_wantWord_32 : decode cX10_wantWord 32 = .ok (.invokevirtual 163, 3) := by decide +kernel
theorem dX10_wantWord_35 : decode cX10_wantWord 35 = .ok (.return_, 1) := by decide +kernel
set_option maxRecDepth 20000 in
theorem ggX10_wantNumber_X10_in : GoodIn wsX10_wantNumber wsX10_in := goodIn_r _ [7] (by decide +kernel) (by decide +kernel)
set_option maxRecDepth 20000 in
theorem gX10_wantNumber_X10_in : GoodIn wsX10_wantNumber (va_wsS RX10 97 yX10_in wsX10_in) := goodIn_app (goodIn_of _ (by decide +kernel)) ggX10_wantNumber_X10_in
set_option maxRecDepth 20000 in
theorem ggX10_wantNumber_X10_advance : GoodIn wsX10_wantNumber wsX10_advance := goodIn_r _ [11, 12, 13, 3, 14, 1, 15, 16, 17, 18, 19, 20, 6, 21, 22, 23, 24, 25, 26, 4, 5, 7, 27, 28, 29, 30, 31, 32, 33, 34, 35, 36, 37, 38, 39, 40, 41, 42, 43, 44, 45, 46, 47, 48, 49, 50, 51, 52, 53, 54, 55, 56, 57, 58, 59, 60, 61, 62, 63, 64, 65, 66, 67, 68, 69, 70, 71, 72, 73, 74, 75, 76, 77, 78, 79, 80, 81, 82, 83] (by decide +kernel) (by decide +kernel)
set_option maxRecDepth 20000 in
theorem gX10_wantNumber_X10_advance : GoodIn wsX10_wantNumber (wsV RX10 163 RX10 yX10_advance wsX10_advance) := goodIn_app (goodIn_of _ (by decide +kernel)) ggX10_wantNumber_X10_advance
theorem dX10_wantNumber_0 : decode cX10_wantNumber 0 = .ok (.aload_n 0, 1) := by decide +kernel
theorem dX10_wantNumber_1 : decode cX10_wantNumber 1 = .ok (.getfield 146, 3) := by decide +kernel
theorem dX10_wantNumber_4 : decode cX10_wantNumber 4 = .ok (.istore_n 3, 1) := by decide +kernel
theorem dX10_wantNumber_5 : decode cX10_wantNumber 5 = .ok (.aload_n 0, 1) := by decide +kernel
theorem dX10_wantNumber_6 : decode cX10_wantNumber 6 = .ok (.aload_n 0, 1) := by decide +kernel
theorem dX10_wantNumber_7 : decode cX10_wantNumber 7 = .ok (.getfield 155, 3) := by decide +kernel
theorem dX10_wantNumber_10 : decode cX10_wantNumber 10 = .ok (.ifCond .eq 24, 3) := by decide +kernel
theorem dX10_wantNumber_13 : decode cX10_wantNumber 13 = .ok (.aload_n 0, 1) := by decide +kernel
theorem dX10_wantNumber_14 : decode cX10_wantNumber 14 = .ok (.getfield 139, 3) := by decide +kernel
theorem dX10_wantNumber_17 : decode cX10_wantNumber 17 = .ok (.iconst 2, 1) := by decide +kernel
theorem dX10_wantNumber_18 : decode cX10_wantNumber 18 = .ok (.if_icmp .ne 16, 3) := by decide +kernel
theorem dX10_wantNumber_21 : decode cX10_wantNumber 21 = .ok (.iload_n 3, 1) := by decide +kernel
theorem dX10_wantNumber_22 : decode cX10_wantNumber 22 = .ok (.iload_n 1, 1) := by decide +kernel
theorem dX10_wantNumber_23 : decode cX10_wantNumber 23 = .ok (.iload_n 2, 1) := by decide +kernel
theorem dX10_wantNumber_24 : decode cX10_wantNumber 24 = .ok (.invokestatic 97, 3) := by decide +kernel
theorem dX10_wantNumber_27 : decode cX10_wantNumber 27 = .ok (.ifCond .eq 7, 3) := by decide +kernel
theorem dX10_wantNumber_30 : decode cX10_wantNumber 30 = .ok (.iconst 1, 1) := by decide +kernel
theorem dX10_wantNumber_31 : decode cX10_wantNumber 31 = .ok (.goto 4, 3) := by decide +kernel
theorem dX10_wantNumber_34 : decode cX10_wantNumber 34 = .ok (.iconst 0, 1) := by decide +kernel
theorem dX10_wantNumber_35 : decode cX10_wantNumber 35 = .ok (.putfield 155, 3) := by decide +kernel
theorem dX10_wantNumber_38 : decode cX10_wantNumber 38 = .ok (.aload_n 0, 1) := by decide +kernel
theorem dX10_wantNumber_39 : decode cX10_wantNumber 39 = .ok (.getfield 155, 3) := by decide +kernel
theorem dX10_wantNumber_42 : decode cX10_wantNumber 42 = .ok (.ifCond .eq 7, 3) := by decide +kernel
theorem dX10_wantNumber_45 : decode cX10_wantNumber 45 = .ok (.aload_n 0, 1) := by decide +kernel
theorem dX10_wantNumber_46 : decode cX10_wantNumber 46 = .ok (.invokevirtual 163, 3) := by decide +kernel
theorem dX10_wantNumber_49 : decode cX10_wantNumber 49 = .ok (.iload_n 3, 1) := by decide +kernel
theorem dX10_wantNumber_50 : decode cX10_wantNumber 50 = .ok (.ireturn, 1) := by decide +kernel
set_option maxRecDepth 20000 in
theorem ggX10_wantEnd_X10_advance : GoodIn wsX10_wantEnd wsX10_advance := goodIn_r _ [8, 9, 10, 2, 11, 3, 12, 13, 14, 15, 16, 17, 7, 18, 19, 20, 21, 22, 23, 24, 25, 26, 27, 28, 29, 30, 31, 32, 33, 34, 35, 36, 37, 38, 39, 40, 41, 42, 43, 44, 45, 46, 47, 48, 49, 50, 51, 52, 53, 54, 55, 56, 57, 58, 59, 60, 61, 62, 63, 64, 65, 66, 67, 68, 69, 70, 71, 72, 73, 74, 75, 76, 77, 78, 79, 80, 81, 82, 83] (by decide +kernel) (by decide +kernel)
set_option maxRecDepth 20000 in
theorem gX10_wantEnd_X10_advance : GoodIn wsX10_wantEnd (wsV RX10 163 RX10 yX10_advance wsX10_advance) := goodIn_app (goodIn_of _ (by decide +kernel)) ggX10_wantEnd_X10_advance
theorem dX10_wantEnd_0 : decode cX10_wantEnd 0 = .ok (.aload_n 0, 1) := by decide +kernel
theorem dX10_wantEnd_1 : decode cX10_wantEnd 1 = .ok (.aload_n 0, 1) := by decide +kernel
theorem dX10_wantEnd_2 : decode cX10_wantEnd 2 = .ok (.getfield 155, 3) := by decide +kernel
theorem dX10_wantEnd_5 : decode cX10_wantEnd 5 = .ok (.ifCond .eq 24, 3) := by decide +kernel
theorem dX10_wantEnd_8 : decode cX10_wantEnd 8 = .ok (.aload_n 0, 1) := by decide +kernel
theorem dX10_wantEnd_9 : decode cX10_wantEnd 9 = .ok (.getfield 139, 3) := by decide +kernel
theorem dX10_wantEnd_12 : decode cX10_wantEnd 12 = .ok (.iconst 3, 1) := by decide +kernel
theorem dX10_wantEnd_13 : decode cX10_wantEnd 13 = .ok (.if_icmp .ne 16, 3) := by decide +kernel
theorem dX10_wantEnd_16 : decode cX10_wantEnd 16 = .ok (.aload_n 0, 1) := by decide +kernel
theorem dX10_wantEnd_17 : decode cX10_wantEnd 17 = .ok (.getfield 146, 3) := by decide +kernel
theorem dX10_wantEnd_20 : decode cX10_wantEnd 20 = .ok (.bipush 59, 2) := by decide +kernel
theorem dX10_wantEnd_22 : decode cX10_wantEnd 22 = .ok (.if_icmp .ne 7, 3) := by decide +kernel
theorem dX10_wantEnd_25 : decode cX10_wantEnd 25 = .ok (.iconst 1, 1) := by decide +kernel
theorem dX10_wantEnd_26 : decode cX10_wantEnd 26 = .ok (.goto 4, 3) := by decide +kernel
theorem dX10_wantEnd_29 : decode cX10_wantEnd 29 = .ok (.iconst 0, 1) := by decide +kernel
theorem dX10_wantEnd_30 : decode cX10_wantEnd 30 = .ok (.putfield 155, 3) := by decide +kernel
theorem dX10_wantEnd_33 : decode cX10_wantEnd 33 = .ok (.aload_n 0, 1) := by decide +kernel
theorem dX10_wantEnd_34 : decode cX10_wantEnd 34 = .ok (.getfield 155, 3) := by decide +kernel
theorem dX10_wantEnd_37 : decode cX10_wantEnd 37 = .ok (.ifCond .eq 7, 3) := by decide +kernel
theorem dX10_wantEnd_40 : decode cX10_wantEnd 40 = .ok (.aload_n 0, 1) := by decide +kernel
theorem dX10_wantEnd_41 : decode cX10_wantEnd 41 = .ok (.invokevirtual 163, 3) := by decide +kernel
theorem dX10_wantEnd_44 : decode cX10_wantEnd 44 = .ok (.return_, 1) := by decide +kernel
theorem dX10_isFreshTie_0 : decode cX10_isFreshTie 0 = .ok (.iconst 0, 1) := by decide +kernel
theorem dX10_isFreshTie_1 : decode cX10_isFreshTie 1 = .ok (.istore_n 3, 1) := by decide +kernel
theorem dX10_isFreshTie_2 : decode cX10_isFreshTie 2 = .ok (.iload_n 3, 1) := by decide +kernel
theorem dX10_isFreshTie_3 : decode cX10_isFreshTie 3 = .ok (.aload_n 0, 1) := by decide +kernel
theorem dX10_isFreshTie_4 : decode cX10_isFreshTie 4 = .ok (.getfield 166, 3) := by decide +kernel
theorem dX10_isFreshTie_7 : decode cX10_isFreshTie 7 = .ok (.if_icmp .ge 55, 3) := by decide +kernel
theorem dX10_isFreshTie_10 : decode cX10_isFreshTie 10 = .ok (.aload_n 0, 1) := by decide +kernel
theorem dX10_isFreshTie_11 : decode cX10_isFreshTie 11 = .ok (.getfield 35, 3) := by decide +kernel
theorem dX10_isFreshTie_14 : decode cX10_isFreshTie 14 = .ok (.iconst 5, 1) := by decide +kernel
theorem dX10_isFreshTie_15 : decode cX10_isFreshTie 15 = .ok (.iload_n 3, 1) := by decide +kernel
theorem dX10_isFreshTie_16 : decode cX10_isFreshTie 16 = .ok (.imul, 1) := by decide +kernel
theorem dX10_isFreshTie_17 : decode cX10_isFreshTie 17 = .ok (.iaload, 1) := by decide +kernel
theorem dX10_isFreshTie_18 : decode cX10_isFreshTie 18 = .ok (.iload_n 1, 1) := by decide +kernel
theorem dX10_isFreshTie_19 : decode cX10_isFreshTie 19 = .ok (.iload_n 2, 1) := by decide +kernel
theorem dX10_isFreshTie_20 : decode cX10_isFreshTie 20 = .ok (.if_icmp .ge 7, 3) := by decide +kernel
theorem dX10_isFreshTie_23 : decode cX10_isFreshTie 23 = .ok (.iload_n 1, 1) := by decide +kernel
theorem dX10_isFreshTie_24 : decode cX10_isFreshTie 24 = .ok (.goto 4, 3) := by decide +kernel
theorem dX10_isFreshTie_27 : decode cX10_isFreshTie 27 = .ok (.iload_n 2, 1) := by decide +kernel
theorem dX10_isFreshTie_28 : decode cX10_isFreshTie 28 = .ok (.if_icmp .ne 28, 3) := by decide +kernel
theorem dX10_isFreshTie_31 : decode cX10_isFreshTie 31 = .ok (.aload_n 0, 1) := by decide +kernel
theorem dX10_isFreshTie_32 : decode cX10_isFreshTie 32 = .ok (.getfield 35, 3) := by decide +kernel
theorem dX10_isFreshTie_35 : decode cX10_isFreshTie 35 = .ok (.iconst 5, 1) := by decide +kernel
theorem dX10_isFreshTie_36 : decode cX10_isFreshTie 36 = .ok (.iload_n 3, 1) := by decide +kernel
theorem dX10_isFreshTie_37 : decode cX10_isFreshTie 37 = .ok (.imul, 1) := by decide +kernel
theorem dX10_isFreshTie_38 : decode cX10_isFreshTie 38 = .ok (.iconst 1, 1) := by decide +kernel
theorem dX10_isFreshTie_39 : decode cX10_isFreshTie 39 = .ok (.iadd, 1) := by decide +kernel
theorem dX10_isFreshTie_40 : decode cX10_isFreshTie 40 = .ok (.iaload, 1) := by decide +kernel
theorem dX10_isFreshTie_41 : decode cX10_isFreshTie 41 = .ok (.iload_n 1, 1) := by decide +kernel
theorem dX10_isFreshTie_42 : decode cX10_isFreshTie 42 = .ok (.iload_n 2, 1) := by decide +kernel
theorem dX10_isFreshTie_43 : decode cX10_isFreshTie 43 = .ok (.if_icmp .ge 7, 3) := by decide +kernel
theorem dX10_isFreshTie_46 : decode cX10_isFreshTie 46 = .ok (.iload_n 2, 1) := by decide +kernel
theorem dX10_isFreshTie_47 : decode cX10_isFreshTie 47 = .ok (.goto 4, 3) := by decide +kernel
theorem dX10_isFreshTie_50 : decode cX10_isFreshTie 50 = .ok (.iload_n 1, 1) := by decide +kernel
theorem dX10_isFreshTie_51 : decode cX10_isFreshTie 51 = .ok (.if_icmp .ne 5, 3) := by decide +kernel
theorem dX10_isFreshTie_54 : decode cX10_isFreshTie 54 = .ok (.iconst 1, 1) := by decide +kernel
theorem dX10_isFreshTie_55 : decode cX10_isFreshTie 55 = .ok (.ireturn, 1) := by decide +kernel
theorem dX10_isFreshTie_56 : decode cX10_isFreshTie 56 = .ok (.iinc 3 1, 3) := by decide +kernel
theorem dX10_isFreshTie_59 : decode cX10_isFreshTie 59 = .ok (.goto (-57), 3) := by decide +kernel
theorem dX10_isFreshTie_62 : decode cX10_isFreshTie 62 = .ok (.iconst 0, 1) := by decide +kernel
theorem dX10_isFreshTie_63 : decode cX10_isFreshTie 63 = .ok (.ireturn, 1) := by decide +kernel
set_option maxRecDepth 20000 in
theorem ggX10_wantTie_X10_wantWord : GoodIn wsX10_wantTie wsX10_wantWord := goodIn_r _ [15, 1, 16, 17, 18, 14, 19, 5, 20, 21, 22, 23, 24, 25, 26, 6, 27, 28, 29, 30, 31, 32, 33, 34, 35, 36, 37, 38, 39, 40, 41, 42, 43, 44, 57, 58, 59, 60, 61, 62, 63, 64, 65, 66, 67, 68, 69, 70, 71, 72, 73, 74, 75, 76, 77, 78, 79, 80, 81, 82, 83, 84, 85, 86, 87, 88, 89, 90, 91, 92, 93, 94, 95, 96, 97, 98, 99, 100, 101, 102, 103, 104, 105, 106, 107, 108, 109, 110] (by decide +kernel) (by decide +kernel)
set_option maxRecDepth 20000 in
theorem gX10_wantTie_X10_wantWord : GoodIn wsX10_wantTie (wsV RX10 171 RX10 yX10_wantWord wsX10_wantWord) := goodIn_app (goodIn_of _ (by decide +kernel)) ggX10_wantTie_X10_wantWord
set_option maxRecDepth 20000 in
theorem ggX10_wantTie_X10_wantNumber : GoodIn wsX10_wantTie wsX10_wantNumber := goodIn_r _ [48, 6, 1, 5, 39, 40, 14, 41, 21, 22, 23, 24, 25, 26, 20, 27, 28, 29, 30, 31, 32, 33, 34, 35, 36, 37, 38, 42, 43, 44, 57, 58, 59, 60, 61, 62, 63, 64, 65, 66, 67, 68, 69, 70, 71, 72, 73, 74, 75, 76, 77, 78, 79, 80, 81, 82, 83, 84, 85, 86, 87, 88, 89, 90, 91, 92, 93, 94, 95, 96, 97, 98, 99, 100, 101, 102, 103, 104, 105, 106, 107, 108, 109, 110] (by decide +kernel) (by decide +kernel)
set_option maxRecDepth 20000 in
theorem gX10_wantTie_X10_wantNumber : GoodIn wsX10_wantTie (wsV RX10 178 RX10 yX10_wantNumber wsX10_wantNumber) := goodIn_app (goodIn_of _ (by decide +kernel)) ggX10_wantTie_X10_wantNumber
set_option maxRecDepth 20000 in
theorem ggX10_wantTie_X10_isFreshTie : GoodIn wsX10_wantTie wsX10_isFreshTie := goodIn_r _ [52, 2, 10, 57, 58, 59, 60, 61, 62, 63, 64, 65, 66, 67, 68, 69, 70, 71, 72, 73, 74, 75, 76, 77, 78, 79, 80, 81, 82, 83, 84, 85, 86, 87, 88, 89, 90, 91, 92, 93, 94, 95, 96, 97, 98, 99, 100, 101, 102, 103, 104, 105, 106, 107, 108, 109, 110] (by decide +kernel) (by decide +kernel)
set_option maxRecDepth 20000 in
theorem gX10_wantTie_X10_isFreshTie : GoodIn wsX10_wantTie (wsV RX10 181 RX10 yX10_isFreshTie wsX10_isFreshTie) := goodIn_app (goodIn_of _ (by decide +kernel)) ggX10_wantTie_X10_isFreshTie
set_option maxRecDepth 20000 in
theorem ggX10_wantTie_X10_isWord : GoodIn wsX10_wantTie wsX10_isWord := goodIn_r _ [19, 5, 20, 57, 58, 59, 60, 61, 62, 63, 64, 65, 66, 67, 68, 69, 70, 71, 72, 73, 74, 75, 76, 77, 78, 79, 80, 81, 82, 83, 84, 85, 86, 87, 88, 89, 90, 91, 92, 93, 94, 95, 96, 97, 98, 99, 100, 101, 102, 103, 104, 105, 106, 107, 108, 109, 110] (by decide +kernel) (by decide +kernel)
set_option maxRecDepth 20000 in
theorem gX10_wantTie_X10_isWord : GoodIn wsX10_wantTie (wsV RX10 159 RX10 yX10_isWord wsX10_isWord) := goodIn_app (goodIn_of _ (by decide +kernel)) ggX10_wantTie_X10_isWord
set_option maxRecDepth 20000 in
theorem ggX10_wantTie_X10_advance : GoodIn wsX10_wantTie wsX10_advance := goodIn_r _ [24, 25, 26, 5, 20, 6, 27, 28, 29, 30, 31, 32, 14, 33, 34, 35, 36, 37, 38, 39, 40, 41, 42, 43, 44, 57, 58, 59, 60, 61, 62, 63, 64, 65, 66, 67, 68, 69, 70, 71, 72, 73, 74, 75, 76, 77, 78, 79, 80, 81, 82, 83, 84, 85, 86, 87, 88, 89, 90, 91, 92, 93, 94, 95, 96, 97, 98, 99, 100, 101, 102, 103, 104, 105, 106, 107, 108, 109, 110] (by decide +kernel) (by decide +kernel)
set_option maxRecDepth 20000 in
theorem gX10_wantTie_X10_advance : GoodIn wsX10_wantTie (wsV RX10 163 RX10 yX10_advance wsX10_advance) := goodIn_app (goodIn_of _ (by decide +kernel)) ggX10_wantTie_X10_advance
set_option maxRecDepth 20000 in
theorem ggX10_wantTie_X10_wantEnd : GoodIn wsX10_wantTie wsX10_wantEnd := goodIn_r _ [56, 1, 5, 6, 21, 22, 23, 14, 24, 25, 26, 20, 27, 28, 29, 30, 31, 32, 33, 34, 35, 36, 37, 38, 39, 40, 41, 42, 43, 44, 57, 58, 59, 60, 61, 62, 63, 64, 65, 66, 67, 68, 69, 70, 71, 72, 73, 74, 75, 76, 77, 78, 79, 80, 81, 82, 83, 84, 85, 86, 87, 88, 89, 90, 91, 92, 93, 94, 95, 96, 97, 98, 99, 100, 101, 102, 103, 104, 105, 106, 107, 108, 109, 110] (by decide +kernel) (by decide +kernel)
set_option maxRecDepth 20000 in
theorem gX10_wantTie_X10_wantEnd : GoodIn wsX10_wantTie (wsV RX10 191 RX10 yX10_wantEnd wsX10_wantEnd) := goodIn_app (goodIn_of _ (by decide +kernel)) ggX10_wantTie_X10_wantEnd
theorem dX10_wantTie_0 : decode cX10_wantTie 0 = .ok (.aload_n 0, 1) := by decide +kernel
theorem dX10_wantTie_1 : decode cX10_wantTie 1 = .ok (.aload_n 0, 1) := by decide +kernel
theorem dX10_wantTie_2 : decode cX10_wantTie 2 = .ok (.getfield 155, 3) := by decide +kernel
theorem dX10_wantTie_5 : decode cX10_wantTie 5 = .ok (.ifCond .eq 16, 3) := by decide +kernel
theorem dX10_wantTie_8 : decode cX10_wantTie 8 = .ok (.aload_n 0, 1) := by decide +kernel
theorem dX10_wantTie_9 : decode cX10_wantTie 9 = .ok (.getfield 166, 3) := by decide +kernel
theorem dX10_wantTie_12 : decode cX10_wantTie 12 = .ok (.bipush 14, 2) := by decide +kernel
theorem dX10_wantTie_14 : decode cX10_wantTie 14 = .ok (.if_icmp .ge 7, 3) := by decide +kernel
theorem dX10_wantTie_17 : decode cX10_wantTie 17 = .ok (.iconst 1, 1) := by decide +kernel
theorem dX10_wantTie_18 : decode cX10_wantTie 18 = .ok (.goto 4, 3) := by decide +kernel
theorem dX10_wantTie_21 : decode cX10_wantTie 21 = .ok (.iconst 0, 1) := by decide +kernel
theorem dX10_wantTie_22 : decode cX10_wantTie 22 = .ok (.putfield 155, 3) := by decide +kernel
theorem dX10_wantTie_25 : decode cX10_wantTie 25 = .ok (.aload_n 0, 1) := by decide +kernel
theorem dX10_wantTie_26 : decode cX10_wantTie 26 = .ok (.ldc2_w 169, 3) := by decide +kernel
theorem dX10_wantTie_29 : decode cX10_wantTie 29 = .ok (.invokevirtual 171, 3) := by decide +kernel
theorem dX10_wantTie_32 : decode cX10_wantTie 32 = .ok (.aload_n 0, 1) := by decide +kernel
theorem dX10_wantTie_33 : decode cX10_wantTie 33 = .ok (.iconst 0, 1) := by decide +kernel
theorem dX10_wantTie_34 : decode cX10_wantTie 34 = .ok (.aload_n 0, 1) := by decide +kernel
theorem dX10_wantTie_35 : decode cX10_wantTie 35 = .ok (.getfield 175, 3) := by decide +kernel
theorem dX10_wantTie_38 : decode cX10_wantTie 38 = .ok (.iconst 1, 1) := by decide +kernel
theorem dX10_wantTie_39 : decode cX10_wantTie 39 = .ok (.isub, 1) := by decide +kernel
theorem dX10_wantTie_40 : decode cX10_wantTie 40 = .ok (.invokevirtual 178, 3) := by decide +kernel
theorem dX10_wantTie_43 : decode cX10_wantTie 43 = .ok (.istore_n 1, 1) := by decide +kernel
theorem dX10_wantTie_44 : decode cX10_wantTie 44 = .ok (.aload_n 0, 1) := by decide +kernel
theorem dX10_wantTie_45 : decode cX10_wantTie 45 = .ok (.aload_n 0, 1) := by decide +kernel
theorem dX10_wantTie_46 : decode cX10_wantTie 46 = .ok (.getfield 155, 3) := by decide +kernel
theorem dX10_wantTie_49 : decode cX10_wantTie 49 = .ok (.ifCond .eq 35, 3) := by decide +kernel
theorem dX10_wantTie_52 : decode cX10_wantTie 52 = .ok (.aload_n 0, 1) := by decide +kernel
theorem dX10_wantTie_53 : decode cX10_wantTie 53 = .ok (.getfield 139, 3) := by decide +kernel
theorem dX10_wantTie_56 : decode cX10_wantTie 56 = .ok (.iconst 2, 1) := by decide +kernel
theorem dX10_wantTie_57 : decode cX10_wantTie 57 = .ok (.if_icmp .ne 23, 3) := by decide +kernel
theorem dX10_wantTie_60 : decode cX10_wantTie 60 = .ok (.aload_n 0, 1) := by decide +kernel
theorem dX10_wantTie_61 : decode cX10_wantTie 61 = .ok (.getfield 146, 3) := by decide +kernel
theorem dX10_wantTie_64 : decode cX10_wantTie 64 = .ok (.iload_n 1, 1) := by decide +kernel
theorem dX10_wantTie_65 : decode cX10_wantTie 65 = .ok (.if_icmp .eq 19, 3) := by decide +kernel
theorem dX10_wantTie_68 : decode cX10_wantTie 68 = .ok (.aload_n 0, 1) := by decide +kernel
theorem dX10_wantTie_69 : decode cX10_wantTie 69 = .ok (.iload_n 1, 1) := by decide +kernel
theorem dX10_wantTie_70 : decode cX10_wantTie 70 = .ok (.aload_n 0, 1) := by decide +kernel
theorem dX10_wantTie_71 : decode cX10_wantTie 71 = .ok (.getfield 146, 3) := by decide +kernel
theorem dX10_wantTie_74 : decode cX10_wantTie 74 = .ok (.invokevirtual 181, 3) := by decide +kernel
theorem dX10_wantTie_77 : decode cX10_wantTie 77 = .ok (.ifCond .ne 7, 3) := by decide +kernel
theorem dX10_wantTie_80 : decode cX10_wantTie 80 = .ok (.iconst 1, 1) := by decide +kernel
theorem dX10_wantTie_81 : decode cX10_wantTie 81 = .ok (.goto 4, 3) := by decide +kernel
theorem dX10_wantTie_84 : decode cX10_wantTie 84 = .ok (.iconst 0, 1) := by decide +kernel
theorem dX10_wantTie_85 : decode cX10_wantTie 85 = .ok (.putfield 155, 3) := by decide +kernel
theorem dX10_wantTie_88 : decode cX10_wantTie 88 = .ok (.aload_n 0, 1) := by decide +kernel
theorem dX10_wantTie_89 : decode cX10_wantTie 89 = .ok (.iconst 0, 1) := by decide +kernel
theorem dX10_wantTie_90 : decode cX10_wantTie 90 = .ok (.aload_n 0, 1) := by decide +kernel
theorem dX10_wantTie_91 : decode cX10_wantTie 91 = .ok (.getfield 175, 3) := by decide +kernel
theorem dX10_wantTie_94 : decode cX10_wantTie 94 = .ok (.iconst 1, 1) := by decide +kernel
theorem dX10_wantTie_95 : decode cX10_wantTie 95 = .ok (.isub, 1) := by decide +kernel
theorem dX10_wantTie_96 : decode cX10_wantTie 96 = .ok (.invokevirtual 178, 3) := by decide +kernel
theorem dX10_wantTie_99 : decode cX10_wantTie 99 = .ok (.istore_n 2, 1) := by decide +kernel
theorem dX10_wantTie_100 : decode cX10_wantTie 100 = .ok (.iconst 1, 1) := by decide +kernel
theorem dX10_wantTie_101 : decode cX10_wantTie 101 = .ok (.istore_n 3, 1) := by decide +kernel
theorem dX10_wantTie_102 : decode cX10_wantTie 102 = .ok (.iconst 4, 1) := by decide +kernel
theorem dX10_wantTie_103 : decode cX10_wantTie 103 = .ok (.istore 4, 2) := by decide +kernel
theorem dX10_wantTie_105 : decode cX10_wantTie 105 = .ok (.iconst 0, 1) := by decide +kernel
theorem dX10_wantTie_106 : decode cX10_wantTie 106 = .ok (.istore 5, 2) := by decide +kernel
theorem dX10_wantTie_108 : decode cX10_wantTie 108 = .ok (.iconst 0, 1) := by decide +kernel
theorem dX10_wantTie_109 : decode cX10_wantTie 109 = .ok (.istore 6, 2) := by decide +kernel
theorem dX10_wantTie_111 : decode cX10_wantTie 111 = .ok (.aload_n 0, 1) := by decide +kernel
theorem dX10_wantTie_112 : decode cX10_wantTie 112 = .ok (.getfield 155, 3) := by decide +kernel
theorem dX10_wantTie_115 : decode cX10_wantTie 115 = .ok (.istore 7, 2) := by decide +kernel
theorem dX10_wantTie_117 : decode cX10_wantTie 117 = .ok (.aload_n 0, 1) := by decide +kernel
theorem dX10_wantTie_118 : decode cX10_wantTie 118 = .ok (.getfield 155, 3) := by decide +kernel
theorem dX10_wantTie_121 : decode cX10_wantTie 121 = .ok (.ifCond .eq 163, 3) := by decide +kernel
theorem dX10_wantTie_124 : decode cX10_wantTie 124 = .ok (.iload 7, 2) := by decide +kernel
theorem dX10_wantTie_126 : decode cX10_wantTie 126 = .ok (.ifCond .eq 158, 3) := by decide +kernel
theorem dX10_wantTie_129 : decode cX10_wantTie 129 = .ok (.aload_n 0, 1) := by decide +kernel
theorem dX10_wantTie_130 : decode cX10_wantTie 130 = .ok (.ldc2_w 185, 3) := by decide +kernel
theorem dX10_wantTie_133 : decode cX10_wantTie 133 = .ok (.invokevirtual 159, 3) := by decide +kernel
theorem dX10_wantTie_136 : decode cX10_wantTie 136 = .ok (.ifCond .eq 7, 3) := by decide +kernel
theorem dX10_wantTie_139 : decode cX10_wantTie 139 = .ok (.iconst 2, 1) := by decide +kernel
theorem dX10_wantTie_140 : decode cX10_wantTie 140 = .ok (.goto 32, 3) := by decide +kernel
theorem dX10_wantTie_143 : decode cX10_wantTie 143 = .ok (.aload_n 0, 1) := by decide +kernel
theorem dX10_wantTie_144 : decode cX10_wantTie 144 = .ok (.ldc2_w 187, 3) := by decide +kernel
theorem dX10_wantTie_147 : decode cX10_wantTie 147 = .ok (.invokevirtual 159, 3) := by decide +kernel
theorem dX10_wantTie_150 : decode cX10_wantTie 150 = .ok (.ifCond .eq 7, 3) := by decide +kernel
theorem dX10_wantTie_153 : decode cX10_wantTie 153 = .ok (.iconst 3, 1) := by decide +kernel
theorem dX10_wantTie_154 : decode cX10_wantTie 154 = .ok (.goto 18, 3) := by decide +kernel
theorem dX10_wantTie_157 : decode cX10_wantTie 157 = .ok (.aload_n 0, 1) := by decide +kernel
theorem dX10_wantTie_158 : decode cX10_wantTie 158 = .ok (.ldc2_w 189, 3) := by decide +kernel
theorem dX10_wantTie_161 : decode cX10_wantTie 161 = .ok (.invokevirtual 159, 3) := by decide +kernel
theorem dX10_wantTie_164 : decode cX10_wantTie 164 = .ok (.ifCond .eq 7, 3) := by decide +kernel
theorem dX10_wantTie_167 : decode cX10_wantTie 167 = .ok (.iconst 4, 1) := by decide +kernel
theorem dX10_wantTie_168 : decode cX10_wantTie 168 = .ok (.goto 4, 3) := by decide +kernel
theorem dX10_wantTie_171 : decode cX10_wantTie 171 = .ok (.iconst 0, 1) := by decide +kernel
theorem dX10_wantTie_172 : decode cX10_wantTie 172 = .ok (.istore 8, 2) := by decide +kernel
theorem dX10_wantTie_174 : decode cX10_wantTie 174 = .ok (.iload 8, 2) := by decide +kernel
theorem dX10_wantTie_176 : decode cX10_wantTie 176 = .ok (.ifCond .le 7, 3) := by decide +kernel
theorem dX10_wantTie_179 : decode cX10_wantTie 179 = .ok (.iconst 1, 1) := by decide +kernel
theorem dX10_wantTie_180 : decode cX10_wantTie 180 = .ok (.goto 4, 3) := by decide +kernel
theorem dX10_wantTie_183 : decode cX10_wantTie 183 = .ok (.iconst 0, 1) := by decide +kernel
theorem dX10_wantTie_184 : decode cX10_wantTie 184 = .ok (.istore 7, 2) := by decide +kernel
theorem dX10_wantTie_186 : decode cX10_wantTie 186 = .ok (.iload 7, 2) := by decide +kernel
theorem dX10_wantTie_188 : decode cX10_wantTie 188 = .ok (.ifCond .eq 93, 3) := by decide +kernel
theorem dX10_wantTie_191 : decode cX10_wantTie 191 = .ok (.aload_n 0, 1) := by decide +kernel
theorem dX10_wantTie_192 : decode cX10_wantTie 192 = .ok (.iload 6, 2) := by decide +kernel
theorem dX10_wantTie_194 : decode cX10_wantTie 194 = .ok (.iload 8, 2) := by decide +kernel
theorem dX10_wantTie_196 : decode cX10_wantTie 196 = .ok (.ishr, 1) := by decide +kernel
theorem dX10_wantTie_197 : decode cX10_wantTie 197 = .ok (.iconst 1, 1) := by decide +kernel
theorem dX10_wantTie_198 : decode cX10_wantTie 198 = .ok (.iand, 1) := by decide +kernel
theorem dX10_wantTie_199 : decode cX10_wantTie 199 = .ok (.ifCond .ne 7, 3) := by decide +kernel
theorem dX10_wantTie_202 : decode cX10_wantTie 202 = .ok (.iconst 1, 1) := by decide +kernel
theorem dX10_wantTie_203 : decode cX10_wantTie 203 = .ok (.goto 4, 3) := by decide +kernel
theorem dX10_wantTie_206 : decode cX10_wantTie 206 = .ok (.iconst 0, 1) := by decide +kernel
theorem dX10_wantTie_207 : decode cX10_wantTie 207 = .ok (.putfield 155, 3) := by decide +kernel
theorem dX10_wantTie_210 : decode cX10_wantTie 210 = .ok (.iload 6, 2) := by decide +kernel
theorem dX10_wantTie_212 : decode cX10_wantTie 212 = .ok (.iconst 1, 1) := by decide +kernel
theorem dX10_wantTie_213 : decode cX10_wantTie 213 = .ok (.iload 8, 2) := by decide +kernel
theorem dX10_wantTie_215 : decode cX10_wantTie 215 = .ok (.ishl, 1) := by decide +kernel
theorem dX10_wantTie_216 : decode cX10_wantTie 216 = .ok (.ior, 1) := by decide +kernel
theorem dX10_wantTie_217 : decode cX10_wantTie 217 = .ok (.istore 6, 2) := by decide +kernel
theorem dX10_wantTie_219 : decode cX10_wantTie 219 = .ok (.aload_n 0, 1) := by decide +kernel
theorem dX10_wantTie_220 : decode cX10_wantTie 220 = .ok (.getfield 155, 3) := by decide +kernel
theorem dX10_wantTie_223 : decode cX10_wantTie 223 = .ok (.ifCond .eq 58, 3) := by decide +kernel
theorem dX10_wantTie_226 : decode cX10_wantTie 226 = .ok (.aload_n 0, 1) := by decide +kernel
theorem dX10_wantTie_227 : decode cX10_wantTie 227 = .ok (.invokevirtual 163, 3) := by decide +kernel
theorem dX10_wantTie_230 : decode cX10_wantTie 230 = .ok (.iload 8, 2) := by decide +kernel
theorem dX10_wantTie_232 : decode cX10_wantTie 232 = .ok (.iconst 2, 1) := by decide +kernel
theorem dX10_wantTie_233 : decode cX10_wantTie 233 = .ok (.if_icmp .ne 13, 3) := by decide +kernel
theorem dX10_wantTie_236 : decode cX10_wantTie 236 = .ok (.aload_n 0, 1) := by decide +kernel
theorem dX10_wantTie_237 : decode cX10_wantTie 237 = .ok (.iconst 0, 1) := by decide +kernel
theorem dX10_wantTie_238 : decode cX10_wantTie 238 = .ok (.bipush 99, 2) := by decide +kernel
theorem dX10_wantTie_240 : decode cX10_wantTie 240 = .ok (.invokevirtual 178, 3) := by decide +kernel
theorem dX10_wantTie_243 : decode cX10_wantTie 243 = .ok (.goto 4, 3) := by decide +kernel
theorem dX10_wantTie_246 : decode cX10_wantTie 246 = .ok (.iload_n 3, 1) := by decide +kernel
theorem dX10_wantTie_247 : decode cX10_wantTie 247 = .ok (.istore_n 3, 1) := by decide +kernel
theorem dX10_wantTie_248 : decode cX10_wantTie 248 = .ok (.iload 8, 2) := by decide +kernel
theorem dX10_wantTie_250 : decode cX10_wantTie 250 = .ok (.iconst 3, 1) := by decide +kernel
theorem dX10_wantTie_251 : decode cX10_wantTie 251 = .ok (.if_icmp .ne 12, 3) := by decide +kernel
theorem dX10_wantTie_254 : decode cX10_wantTie 254 = .ok (.aload_n 0, 1) := by decide +kernel
theorem dX10_wantTie_255 : decode cX10_wantTie 255 = .ok (.iconst 1, 1) := by decide +kernel
theorem dX10_wantTie_256 : decode cX10_wantTie 256 = .ok (.iconst 4, 1) := by decide +kernel
theorem dX10_wantTie_257 : decode cX10_wantTie 257 = .ok (.invokevirtual 178, 3) := by decide +kernel
theorem dX10_wantTie_260 : decode cX10_wantTie 260 = .ok (.goto 5, 3) := by decide +kernel
theorem dX10_wantTie_263 : decode cX10_wantTie 263 = .ok (.iload 4, 2) := by decide +kernel
theorem dX10_wantTie_265 : decode cX10_wantTie 265 = .ok (.istore 4, 2) := by decide +kernel
theorem dX10_wantTie_267 : decode cX10_wantTie 267 = .ok (.iload 8, 2) := by decide +kernel
theorem dX10_wantTie_269 : decode cX10_wantTie 269 = .ok (.iconst 4, 1) := by decide +kernel
theorem dX10_wantTie_270 : decode cX10_wantTie 270 = .ok (.if_icmp .ne 7, 3) := by decide +kernel
theorem dX10_wantTie_273 : decode cX10_wantTie 273 = .ok (.iconst 1, 1) := by decide +kernel
theorem dX10_wantTie_274 : decode cX10_wantTie 274 = .ok (.goto 5, 3) := by decide +kernel
theorem dX10_wantTie_277 : decode cX10_wantTie 277 = .ok (.iload 5, 2) := by decide +kernel
theorem dX10_wantTie_279 : decode cX10_wantTie 279 = .ok (.istore 5, 2) := by decide +kernel
theorem dX10_wantTie_281 : decode cX10_wantTie 281 = .ok (.goto (-164), 3) := by decide +kernel
theorem dX10_wantTie_284 : decode cX10_wantTie 284 = .ok (.aload_n 0, 1) := by decide +kernel
theorem dX10_wantTie_285 : decode cX10_wantTie 285 = .ok (.invokevirtual 191, 3) := by decide +kernel
theorem dX10_wantTie_288 : decode cX10_wantTie 288 = .ok (.aload_n 0, 1) := by decide +kernel
theorem dX10_wantTie_289 : decode cX10_wantTie 289 = .ok (.getfield 155, 3) := by decide +kernel
theorem dX10_wantTie_292 : decode cX10_wantTie 292 = .ok (.ifCond .eq 89, 3) := by decide +kernel
theorem dX10_wantTie_295 : decode cX10_wantTie 295 = .ok (.iconst 5, 1) := by decide +kernel
theorem dX10_wantTie_296 : decode cX10_wantTie 296 = .ok (.aload_n 0, 1) := by decide +kernel
theorem dX10_wantTie_297 : decode cX10_wantTie 297 = .ok (.getfield 166, 3) := by decide +kernel
theorem dX10_wantTie_300 : decode cX10_wantTie 300 = .ok (.imul, 1) := by decide +kernel
theorem dX10_wantTie_301 : decode cX10_wantTie 301 = .ok (.istore 8, 2) := by decide +kernel
theorem dX10_wantTie_303 : decode cX10_wantTie 303 = .ok (.aload_n 0, 1) := by decide +kernel
theorem dX10_wantTie_304 : decode cX10_wantTie 304 = .ok (.getfield 35, 3) := by decide +kernel
theorem dX10_wantTie_307 : decode cX10_wantTie 307 = .ok (.iload 8, 2) := by decide +kernel
theorem dX10_wantTie_309 : decode cX10_wantTie 309 = .ok (.iload_n 1, 1) := by decide +kernel
theorem dX10_wantTie_310 : decode cX10_wantTie 310 = .ok (.iload_n 2, 1) := by decide +kernel
theorem dX10_wantTie_311 : decode cX10_wantTie 311 = .ok (.if_icmp .ge 7, 3) := by decide +kernel
theorem dX10_wantTie_314 : decode cX10_wantTie 314 = .ok (.iload_n 1, 1) := by decide +kernel
theorem dX10_wantTie_315 : decode cX10_wantTie 315 = .ok (.goto 4, 3) := by decide +kernel
theorem dX10_wantTie_318 : decode cX10_wantTie 318 = .ok (.iload_n 2, 1) := by decide +kernel
theorem dX10_wantTie_319 : decode cX10_wantTie 319 = .ok (.iastore, 1) := by decide +kernel
theorem dX10_wantTie_320 : decode cX10_wantTie 320 = .ok (.aload_n 0, 1) := by decide +kernel
theorem dX10_wantTie_321 : decode cX10_wantTie 321 = .ok (.getfield 35, 3) := by decide +kernel
theorem dX10_wantTie_324 : decode cX10_wantTie 324 = .ok (.iload 8, 2) := by decide +kernel
theorem dX10_wantTie_326 : decode cX10_wantTie 326 = .ok (.iconst 1, 1) := by decide +kernel
theorem dX10_wantTie_327 : decode cX10_wantTie 327 = .ok (.iadd, 1) := by decide +kernel
theorem dX10_wantTie_328 : decode cX10_wantTie 328 = .ok (.iload_n 1, 1) := by decide +kernel
theorem dX10_wantTie_329 : decode cX10_wantTie 329 = .ok (.iload_n 2, 1) := by decide +kernel
theorem dX10_wantTie_330 : decode cX10_wantTie 330 = .ok (.if_icmp .ge 7, 3) := by decide +kernel
theorem dX10_wantTie_333 : decode cX10_wantTie 333 = .ok (.iload_n 2, 1) := by decide +kernel
theorem dX10_wantTie_334 : decode cX10_wantTie 334 = .ok (.goto 4, 3) := by decide +kernel
theorem dX10_wantTie_337 : decode cX10_wantTie 337 = .ok (.iload_n 1, 1) := by decide +kernel
theorem dX10_wantTie_338 : decode cX10_wantTie 338 = .ok (.iastore, 1) := by decide +kernel
theorem dX10_wantTie_339 : decode cX10_wantTie 339 = .ok (.aload_n 0, 1) := by decide +kernel
theorem dX10_wantTie_340 : decode cX10_wantTie 340 = .ok (.getfield 35, 3) := by decide +kernel
theorem dX10_wantTie_343 : decode cX10_wantTie 343 = .ok (.iload 8, 2) := by decide +kernel
theorem dX10_wantTie_345 : decode cX10_wantTie 345 = .ok (.iconst 2, 1) := by decide +kernel
theorem dX10_wantTie_346 : decode cX10_wantTie 346 = .ok (.iadd, 1) := by decide +kernel
theorem dX10_wantTie_347 : decode cX10_wantTie 347 = .ok (.iload_n 3, 1) := by decide +kernel
theorem dX10_wantTie_348 : decode cX10_wantTie 348 = .ok (.iastore, 1) := by decide +kernel
theorem dX10_wantTie_349 : decode cX10_wantTie 349 = .ok (.aload_n 0, 1) := by decide +kernel
theorem dX10_wantTie_350 : decode cX10_wantTie 350 = .ok (.getfield 35, 3) := by decide +kernel
theorem dX10_wantTie_353 : decode cX10_wantTie 353 = .ok (.iload 8, 2) := by decide +kernel
theorem dX10_wantTie_355 : decode cX10_wantTie 355 = .ok (.iconst 3, 1) := by decide +kernel
theorem dX10_wantTie_356 : decode cX10_wantTie 356 = .ok (.iadd, 1) := by decide +kernel
theorem dX10_wantTie_357 : decode cX10_wantTie 357 = .ok (.iload 4, 2) := by decide +kernel
theorem dX10_wantTie_359 : decode cX10_wantTie 359 = .ok (.iastore, 1) := by decide +kernel
theorem dX10_wantTie_360 : decode cX10_wantTie 360 = .ok (.aload_n 0, 1) := by decide +kernel
theorem dX10_wantTie_361 : decode cX10_wantTie 361 = .ok (.getfield 35, 3) := by decide +kernel
theorem dX10_wantTie_364 : decode cX10_wantTie 364 = .ok (.iload 8, 2) := by decide +kernel
theorem dX10_wantTie_366 : decode cX10_wantTie 366 = .ok (.iconst 4, 1) := by decide +kernel
theorem dX10_wantTie_367 : decode cX10_wantTie 367 = .ok (.iadd, 1) := by decide +kernel
theorem dX10_wantTie_368 : decode cX10_wantTie 368 = .ok (.iload 5, 2) := by decide +kernel
theorem dX10_wantTie_370 : decode cX10_wantTie 370 = .ok (.iastore, 1) := by decide +kernel
theorem dX10_wantTie_371 : decode cX10_wantTie 371 = .ok (.aload_n 0, 1) := by decide +kernel
theorem dX10_wantTie_372 : decode cX10_wantTie 372 = .ok (.dup, 1) := by decide +kernel
theorem dX10_wantTie_373 : decode cX10_wantTie 373 = .ok (.getfield 166, 3) := by decide +kernel
theorem dX10_wantTie_376 : decode cX10_wantTie 376 = .ok (.iconst 1, 1) := by decide +kernel
theorem dX10_wantTie_377 : decode cX10_wantTie 377 = .ok (.iadd, 1) := by decide +kernel
theorem dX10_wantTie_378 : decode cX10_wantTie 378 = .ok (.putfield 166, 3) := by decide +kernel
theorem dX10_wantTie_381 : decode cX10_wantTie 381 = .ok (.return_, 1) := by decide +kernel
set_option maxRecDepth 20000 in
theorem ggX10_wantFirst_X10_wantWord : GoodIn wsX10_wantFirst wsX10_wantWord := goodIn_r _ [10, 4, 11, 12, 13, 9, 14, 15, 16, 17, 18, 19, 20, 21, 22, 23, 24, 25, 26, 27, 28, 29, 30, 31, 32, 33, 34, 35, 36, 37, 38, 39, 40, 41, 50, 51, 52, 53, 54, 55, 56, 57, 58, 59, 60, 61, 62, 63, 64, 65, 66, 67, 68, 69, 70, 71, 72, 73, 74, 75, 76, 77, 78, 79, 80, 81, 82, 83, 84, 85, 86, 87, 88, 89, 90, 91, 92, 93, 94, 95, 96, 97, 98, 99, 100, 101, 102, 103] (by decide +kernel) (by decide +kernel)
set_option maxRecDepth 20000 in
theorem gX10_wantFirst_X10_wantWord : GoodIn wsX10_wantFirst (wsV RX10 171 RX10 yX10_wantWord wsX10_wantWord) := goodIn_app (goodIn_of _ (by decide +kernel)) ggX10_wantFirst_X10_wantWord
set_option maxRecDepth 20000 in
theorem ggX10_wantFirst_X10_wantNumber : GoodIn wsX10_wantFirst wsX10_wantNumber := goodIn_r _ [45, 23, 4, 15, 36, 37, 9, 38, 17, 18, 19, 20, 21, 22, 16, 24, 25, 26, 27, 28, 29, 30, 31, 32, 33, 34, 35, 39, 40, 41, 50, 51, 52, 53, 54, 55, 56, 57, 58, 59, 60, 61, 62, 63, 64, 65, 66, 67, 68, 69, 70, 71, 72, 73, 74, 75, 76, 77, 78, 79, 80, 81, 82, 83, 84, 85, 86, 87, 88, 89, 90, 91, 92, 93, 94, 95, 96, 97, 98, 99, 100, 101, 102, 103] (by decide +kernel) (by decide +kernel)
set_option maxRecDepth 20000 in
theorem gX10_wantFirst_X10_wantNumber : GoodIn wsX10_wantFirst (wsV RX10 178 RX10 yX10_wantNumber wsX10_wantNumber) := goodIn_app (goodIn_of _ (by decide +kernel)) ggX10_wantFirst_X10_wantNumber
set_option maxRecDepth 20000 in
theorem ggX10_wantFirst_X10_wantEnd : GoodIn wsX10_wantFirst wsX10_wantEnd := goodIn_r _ [49, 4, 15, 23, 17, 18, 19, 9, 20, 21, 22, 16, 24, 25, 26, 27, 28, 29, 30, 31, 32, 33, 34, 35, 36, 37, 38, 39, 40, 41, 50, 51, 52, 53, 54, 55, 56, 57, 58, 59, 60, 61, 62, 63, 64, 65, 66, 67, 68, 69, 70, 71, 72, 73, 74, 75, 76, 77, 78, 79, 80, 81, 82, 83, 84, 85, 86, 87, 88, 89, 90, 91, 92, 93, 94, 95, 96, 97, 98, 99, 100, 101, 102, 103] (by decide +kernel) (by decide +kernel)
set_option maxRecDepth 20000 in
theorem gX10_wantFirst_X10_wantEnd : GoodIn wsX10_wantFirst (wsV RX10 191 RX10 yX10_wantEnd wsX10_wantEnd) := goodIn_app (goodIn_of _ (by decide +kernel)) ggX10_wantFirst_X10_wantEnd
theorem dX10_wantFirst_0 : decode cX10_wantFirst 0 = .ok (.aload_n 0, 1) := by decide +kernel
theorem dX10_wantFirst_1 : decode cX10_wantFirst 1 = .ok (.ldc2_w 194, 3) := by decide +kernel
theorem dX10_wantFirst_4 : decode cX10_wantFirst 4 = .ok (.invokevirtual 171, 3) := by decide +kernel
theorem dX10_wantFirst_7 : decode cX10_wantFirst 7 = .ok (.aload_n 0, 1) := by decide +kernel
theorem dX10_wantFirst_8 : decode cX10_wantFirst 8 = .ok (.iconst 0, 1) := by decide +kernel
theorem dX10_wantFirst_9 : decode cX10_wantFirst 9 = .ok (.aload_n 0, 1) := by decide +kernel
theorem dX10_wantFirst_10 : decode cX10_wantFirst 10 = .ok (.getfield 175, 3) := by decide +kernel
theorem dX10_wantFirst_13 : decode cX10_wantFirst 13 = .ok (.iconst 1, 1) := by decide +kernel
theorem dX10_wantFirst_14 : decode cX10_wantFirst 14 = .ok (.isub, 1) := by decide +kernel
theorem dX10_wantFirst_15 : decode cX10_wantFirst 15 = .ok (.invokevirtual 178, 3) := by decide +kernel
theorem dX10_wantFirst_18 : decode cX10_wantFirst 18 = .ok (.istore_n 1, 1) := by decide +kernel
theorem dX10_wantFirst_19 : decode cX10_wantFirst 19 = .ok (.aload_n 0, 1) := by decide +kernel
theorem dX10_wantFirst_20 : decode cX10_wantFirst 20 = .ok (.ldc2_w 196, 3) := by decide +kernel
theorem dX10_wantFirst_23 : decode cX10_wantFirst 23 = .ok (.invokevirtual 171, 3) := by decide +kernel
theorem dX10_wantFirst_26 : decode cX10_wantFirst 26 = .ok (.aload_n 0, 1) := by decide +kernel
theorem dX10_wantFirst_27 : decode cX10_wantFirst 27 = .ok (.iconst 0, 1) := by decide +kernel
theorem dX10_wantFirst_28 : decode cX10_wantFirst 28 = .ok (.bipush 9, 2) := by decide +kernel
theorem dX10_wantFirst_30 : decode cX10_wantFirst 30 = .ok (.invokevirtual 178, 3) := by decide +kernel
theorem dX10_wantFirst_33 : decode cX10_wantFirst 33 = .ok (.istore_n 2, 1) := by decide +kernel
theorem dX10_wantFirst_34 : decode cX10_wantFirst 34 = .ok (.aload_n 0, 1) := by decide +kernel
theorem dX10_wantFirst_35 : decode cX10_wantFirst 35 = .ok (.invokevirtual 191, 3) := by decide +kernel
theorem dX10_wantFirst_38 : decode cX10_wantFirst 38 = .ok (.aload_n 0, 1) := by decide +kernel
theorem dX10_wantFirst_39 : decode cX10_wantFirst 39 = .ok (.getfield 155, 3) := by decide +kernel
theorem dX10_wantFirst_42 : decode cX10_wantFirst 42 = .ok (.ifCond .eq 10, 3) := by decide +kernel
theorem dX10_wantFirst_45 : decode cX10_wantFirst 45 = .ok (.aload_n 0, 1) := by decide +kernel
theorem dX10_wantFirst_46 : decode cX10_wantFirst 46 = .ok (.getfield 32, 3) := by decide +kernel
theorem dX10_wantFirst_49 : decode cX10_wantFirst 49 = .ok (.iload_n 1, 1) := by decide +kernel
theorem dX10_wantFirst_50 : decode cX10_wantFirst 50 = .ok (.iload_n 2, 1) := by decide +kernel
theorem dX10_wantFirst_51 : decode cX10_wantFirst 51 = .ok (.iastore, 1) := by decide +kernel
theorem dX10_wantFirst_52 : decode cX10_wantFirst 52 = .ok (.return_, 1) := by decide +kernel
theorem dX10_addCut_0 : decode cX10_addCut 0 = .ok (.aload_n 0, 1) := by decide +kernel
theorem dX10_addCut_1 : decode cX10_addCut 1 = .ok (.getfield 38, 3) := by decide +kernel
theorem dX10_addCut_4 : decode cX10_addCut 4 = .ok (.iconst 3, 1) := by decide +kernel
theorem dX10_addCut_5 : decode cX10_addCut 5 = .ok (.aload_n 0, 1) := by decide +kernel
theorem dX10_addCut_6 : decode cX10_addCut 6 = .ok (.getfield 198, 3) := by decide +kernel
theorem dX10_addCut_9 : decode cX10_addCut 9 = .ok (.imul, 1) := by decide +kernel
theorem dX10_addCut_10 : decode cX10_addCut 10 = .ok (.iload_n 1, 1) := by decide +kernel
theorem dX10_addCut_11 : decode cX10_addCut 11 = .ok (.iastore, 1) := by decide +kernel
theorem dX10_addCut_12 : decode cX10_addCut 12 = .ok (.aload_n 0, 1) := by decide +kernel
theorem dX10_addCut_13 : decode cX10_addCut 13 = .ok (.getfield 38, 3) := by decide +kernel
theorem dX10_addCut_16 : decode cX10_addCut 16 = .ok (.iconst 3, 1) := by decide +kernel
theorem dX10_addCut_17 : decode cX10_addCut 17 = .ok (.aload_n 0, 1) := by decide +kernel
theorem dX10_addCut_18 : decode cX10_addCut 18 = .ok (.getfield 198, 3) := by decide +kernel
theorem dX10_addCut_21 : decode cX10_addCut 21 = .ok (.imul, 1) := by decide +kernel
theorem dX10_addCut_22 : decode cX10_addCut 22 = .ok (.iconst 1, 1) := by decide +kernel
theorem dX10_addCut_23 : decode cX10_addCut 23 = .ok (.iadd, 1) := by decide +kernel
theorem dX10_addCut_24 : decode cX10_addCut 24 = .ok (.iload_n 2, 1) := by decide +kernel
theorem dX10_addCut_25 : decode cX10_addCut 25 = .ok (.iastore, 1) := by decide +kernel
theorem dX10_addCut_26 : decode cX10_addCut 26 = .ok (.aload_n 0, 1) := by decide +kernel
theorem dX10_addCut_27 : decode cX10_addCut 27 = .ok (.getfield 38, 3) := by decide +kernel
theorem dX10_addCut_30 : decode cX10_addCut 30 = .ok (.iconst 3, 1) := by decide +kernel
theorem dX10_addCut_31 : decode cX10_addCut 31 = .ok (.aload_n 0, 1) := by decide +kernel
theorem dX10_addCut_32 : decode cX10_addCut 32 = .ok (.getfield 198, 3) := by decide +kernel
theorem dX10_addCut_35 : decode cX10_addCut 35 = .ok (.imul, 1) := by decide +kernel
theorem dX10_addCut_36 : decode cX10_addCut 36 = .ok (.iconst 2, 1) := by decide +kernel
theorem dX10_addCut_37 : decode cX10_addCut 37 = .ok (.iadd, 1) := by decide +kernel
theorem dX10_addCut_38 : decode cX10_addCut 38 = .ok (.iload_n 3, 1) := by decide +kernel
theorem dX10_addCut_39 : decode cX10_addCut 39 = .ok (.iastore, 1) := by decide +kernel
theorem dX10_addCut_40 : decode cX10_addCut 40 = .ok (.aload_n 0, 1) := by decide +kernel
theorem dX10_addCut_41 : decode cX10_addCut 41 = .ok (.dup, 1) := by decide +kernel
theorem dX10_addCut_42 : decode cX10_addCut 42 = .ok (.getfield 198, 3) := by decide +kernel
theorem dX10_addCut_45 : decode cX10_addCut 45 = .ok (.iconst 1, 1) := by decide +kernel
theorem dX10_addCut_46 : decode cX10_addCut 46 = .ok (.iadd, 1) := by decide +kernel
theorem dX10_addCut_47 : decode cX10_addCut 47 = .ok (.putfield 198, 3) := by decide +kernel
theorem dX10_addCut_50 : decode cX10_addCut 50 = .ok (.return_, 1) := by decide +kernel
set_option maxRecDepth 20000 in
theorem ggX10_wantSeat_X10_wantWord : GoodIn wsX10_wantSeat wsX10_wantWord := goodIn_r _ [10, 1, 11, 12, 13, 9, 14, 15, 16, 17, 18, 19, 20, 21, 22, 23, 24, 25, 26, 27, 28, 29, 30, 31, 32, 33, 34, 35, 36, 37, 38, 39, 40, 41, 55, 56, 57, 58, 59, 60, 61, 62, 63, 64, 65, 66, 67, 68, 69, 70, 71, 72, 73, 74, 75, 76, 77, 78, 79, 80, 81, 82, 83, 84, 85, 86, 87, 88, 89, 90, 91, 92, 93, 94, 95, 96, 97, 98, 99, 100, 101, 102, 103, 104, 105, 106, 107, 108] (by decide +kernel) (by decide +kernel)
set_option maxRecDepth 20000 in
theorem gX10_wantSeat_X10_wantWord : GoodIn wsX10_wantSeat (wsV RX10 171 RX10 yX10_wantWord wsX10_wantWord) := goodIn_app (goodIn_of _ (by decide +kernel)) ggX10_wantSeat_X10_wantWord
set_option maxRecDepth 20000 in
theorem ggX10_wantSeat_X10_wantNumber : GoodIn wsX10_wantSeat wsX10_wantNumber := goodIn_r _ [45, 23, 1, 15, 36, 37, 9, 38, 17, 18, 19, 20, 21, 22, 16, 24, 25, 26, 27, 28, 29, 30, 31, 32, 33, 34, 35, 39, 40, 41, 55, 56, 57, 58, 59, 60, 61, 62, 63, 64, 65, 66, 67, 68, 69, 70, 71, 72, 73, 74, 75, 76, 77, 78, 79, 80, 81, 82, 83, 84, 85, 86, 87, 88, 89, 90, 91, 92, 93, 94, 95, 96, 97, 98, 99, 100, 101, 102, 103, 104, 105, 106, 107, 108] (by decide +kernel) (by decide +kernel)
set_option maxRecDepth 20000 in
theorem gX10_wantSeat_X10_wantNumber : GoodIn wsX10_wantSeat (wsV RX10 178 RX10 yX10_wantNumber wsX10_wantNumber) := goodIn_app (goodIn_of _ (by decide +kernel)) ggX10_wantSeat_X10_wantNumber
set_option maxRecDepth 20000 in
theorem ggX10_wantSeat_X10_isWord : GoodIn wsX10_wantSeat wsX10_isWord := goodIn_r _ [14, 15, 16, 55, 56, 57, 58, 59, 60, 61, 62, 63, 64, 65, 66, 67, 68, 69, 70, 71, 72, 73, 74, 75, 76, 77, 78, 79, 80, 81, 82, 83, 84, 85, 86, 87, 88, 89, 90, 91, 92, 93, 94, 95, 96, 97, 98, 99, 100, 101, 102, 103, 104, 105, 106, 107, 108] (by decide +kernel) (by decide +kernel)
set_option maxRecDepth 20000 in
theorem gX10_wantSeat_X10_isWord : GoodIn wsX10_wantSeat (wsV RX10 159 RX10 yX10_isWord wsX10_isWord) := goodIn_app (goodIn_of _ (by decide +kernel)) ggX10_wantSeat_X10_isWord
set_option maxRecDepth 20000 in
theorem ggX10_wantSeat_X10_advance : GoodIn wsX10_wantSeat wsX10_advance := goodIn_r _ [20, 21, 22, 15, 16, 23, 24, 25, 26, 27, 28, 29, 9, 30, 31, 32, 33, 34, 35, 36, 37, 38, 39, 40, 41, 55, 56, 57, 58, 59, 60, 61, 62, 63, 64, 65, 66, 67, 68, 69, 70, 71, 72, 73, 74, 75, 76, 77, 78, 79, 80, 81, 82, 83, 84, 85, 86, 87, 88, 89, 90, 91, 92, 93, 94, 95, 96, 97, 98, 99, 100, 101, 102, 103, 104, 105, 106, 107, 108] (by decide +kernel) (by decide +kernel)
set_option maxRecDepth 20000 in
theorem gX10_wantSeat_X10_advance : GoodIn wsX10_wantSeat (wsV RX10 163 RX10 yX10_advance wsX10_advance) := goodIn_app (goodIn_of _ (by decide +kernel)) ggX10_wantSeat_X10_advance
set_option maxRecDepth 20000 in
theorem ggX10_wantSeat_X10_wantEnd : GoodIn wsX10_wantSeat wsX10_wantEnd := goodIn_r _ [49, 1, 15, 23, 17, 18, 19, 9, 20, 21, 22, 16, 24, 25, 26, 27, 28, 29, 30, 31, 32, 33, 34, 35, 36, 37, 38, 39, 40, 41, 55, 56, 57, 58, 59, 60, 61, 62, 63, 64, 65, 66, 67, 68, 69, 70, 71, 72, 73, 74, 75, 76, 77, 78, 79, 80, 81, 82, 83, 84, 85, 86, 87, 88, 89, 90, 91, 92, 93, 94, 95, 96, 97, 98, 99, 100, 101, 102, 103, 104, 105, 106, 107, 108] (by decide +kernel) (by decide +kernel)
set_option maxRecDepth 20000 in
theorem gX10_wantSeat_X10_wantEnd : GoodIn wsX10_wantSeat (wsV RX10 191 RX10 yX10_wantEnd wsX10_wantEnd) := goodIn_app (goodIn_of _ (by decide +kernel)) ggX10_wantSeat_X10_wantEnd
set_option maxRecDepth 20000 in
theorem ggX10_wantSeat_X10_addCut : GoodIn wsX10_wantSeat wsX10_addCut := goodIn_r _ [53, 54, 2, 55, 56, 57, 58, 59, 60, 61, 62, 63, 64, 65, 66, 67, 68, 69, 70, 71, 72, 73, 74, 75, 76, 77, 78, 79, 80, 81, 82, 83, 84, 85, 86, 87, 88, 89, 90, 91, 92, 93, 94, 95, 96, 97, 98, 99, 100, 101, 102, 103, 104, 105, 106, 107, 108] (by decide +kernel) (by decide +kernel)
set_option maxRecDepth 20000 in
theorem gX10_wantSeat_X10_addCut : GoodIn wsX10_wantSeat (wsV RX10 205 RX10 yX10_addCut wsX10_addCut) := goodIn_app (goodIn_of _ (by decide +kernel)) ggX10_wantSeat_X10_addCut
theorem dX10_wantSeat_0 : decode cX10_wantSeat 0 = .ok (.aload_n 0, 1) := by decide +kernel
theorem dX10_wantSeat_1 : decode cX10_wantSeat 1 = .ok (.aload_n 0, 1) := by decide +kernel
theorem dX10_wantSeat_2 : decode cX10_wantSeat 2 = .ok (.getfield 155, 3) := by decide +kernel
theorem dX10_wantSeat_5 : decode cX10_wantSeat 5 = .ok (.ifCond .eq 16, 3) := by decide +kernel
theorem dX10_wantSeat_8 : decode cX10_wantSeat 8 = .ok (.aload_n 0, 1) := by decide +kernel
theorem dX10_wantSeat_9 : decode cX10_wantSeat 9 = .ok (.getfield 198, 3) := by decide +kernel
theorem dX10_wantSeat_12 : decode cX10_wantSeat 12 = .ok (.bipush 8, 2) := by decide +kernel
theorem dX10_wantSeat_14 : decode cX10_wantSeat 14 = .ok (.if_icmp .ge 7, 3) := by decide +kernel
theorem dX10_wantSeat_17 : decode cX10_wantSeat 17 = .ok (.iconst 1, 1) := by decide +kernel
theorem dX10_wantSeat_18 : decode cX10_wantSeat 18 = .ok (.goto 4, 3) := by decide +kernel
theorem dX10_wantSeat_21 : decode cX10_wantSeat 21 = .ok (.iconst 0, 1) := by decide +kernel
theorem dX10_wantSeat_22 : decode cX10_wantSeat 22 = .ok (.putfield 155, 3) := by decide +kernel
theorem dX10_wantSeat_25 : decode cX10_wantSeat 25 = .ok (.aload_n 0, 1) := by decide +kernel
theorem dX10_wantSeat_26 : decode cX10_wantSeat 26 = .ok (.ldc2_w 201, 3) := by decide +kernel
theorem dX10_wantSeat_29 : decode cX10_wantSeat 29 = .ok (.invokevirtual 171, 3) := by decide +kernel
theorem dX10_wantSeat_32 : decode cX10_wantSeat 32 = .ok (.aload_n 0, 1) := by decide +kernel
theorem dX10_wantSeat_33 : decode cX10_wantSeat 33 = .ok (.iconst 0, 1) := by decide +kernel
theorem dX10_wantSeat_34 : decode cX10_wantSeat 34 = .ok (.aload_n 0, 1) := by decide +kernel
theorem dX10_wantSeat_35 : decode cX10_wantSeat 35 = .ok (.getfield 175, 3) := by decide +kernel
theorem dX10_wantSeat_38 : decode cX10_wantSeat 38 = .ok (.iconst 1, 1) := by decide +kernel
theorem dX10_wantSeat_39 : decode cX10_wantSeat 39 = .ok (.isub, 1) := by decide +kernel
theorem dX10_wantSeat_40 : decode cX10_wantSeat 40 = .ok (.invokevirtual 178, 3) := by decide +kernel
theorem dX10_wantSeat_43 : decode cX10_wantSeat 43 = .ok (.istore_n 1, 1) := by decide +kernel
theorem dX10_wantSeat_44 : decode cX10_wantSeat 44 = .ok (.aload_n 0, 1) := by decide +kernel
theorem dX10_wantSeat_45 : decode cX10_wantSeat 45 = .ok (.getfield 155, 3) := by decide +kernel
theorem dX10_wantSeat_48 : decode cX10_wantSeat 48 = .ok (.ifCond .eq 9, 3) := by decide +kernel
theorem dX10_wantSeat_51 : decode cX10_wantSeat 51 = .ok (.iconst 1, 1) := by decide +kernel
theorem dX10_wantSeat_52 : decode cX10_wantSeat 52 = .ok (.iload_n 1, 1) := by decide +kernel
theorem dX10_wantSeat_53 : decode cX10_wantSeat 53 = .ok (.ishl, 1) := by decide +kernel
theorem dX10_wantSeat_54 : decode cX10_wantSeat 54 = .ok (.goto 4, 3) := by decide +kernel
theorem dX10_wantSeat_57 : decode cX10_wantSeat 57 = .ok (.iconst 0, 1) := by decide +kernel
theorem dX10_wantSeat_58 : decode cX10_wantSeat 58 = .ok (.istore_n 2, 1) := by decide +kernel
theorem dX10_wantSeat_59 : decode cX10_wantSeat 59 = .ok (.aload_n 0, 1) := by decide +kernel
theorem dX10_wantSeat_60 : decode cX10_wantSeat 60 = .ok (.getfield 155, 3) := by decide +kernel
theorem dX10_wantSeat_63 : decode cX10_wantSeat 63 = .ok (.ifCond .eq 49, 3) := by decide +kernel
theorem dX10_wantSeat_66 : decode cX10_wantSeat 66 = .ok (.aload_n 0, 1) := by decide +kernel
theorem dX10_wantSeat_67 : decode cX10_wantSeat 67 = .ok (.ldc2_w 203, 3) := by decide +kernel
theorem dX10_wantSeat_70 : decode cX10_wantSeat 70 = .ok (.invokevirtual 159, 3) := by decide +kernel
theorem dX10_wantSeat_73 : decode cX10_wantSeat 73 = .ok (.ifCond .eq 39, 3) := by decide +kernel
theorem dX10_wantSeat_76 : decode cX10_wantSeat 76 = .ok (.aload_n 0, 1) := by decide +kernel
theorem dX10_wantSeat_77 : decode cX10_wantSeat 77 = .ok (.invokevirtual 163, 3) := by decide +kernel
theorem dX10_wantSeat_80 : decode cX10_wantSeat 80 = .ok (.aload_n 0, 1) := by decide +kernel
theorem dX10_wantSeat_81 : decode cX10_wantSeat 81 = .ok (.iconst 0, 1) := by decide +kernel
theorem dX10_wantSeat_82 : decode cX10_wantSeat 82 = .ok (.aload_n 0, 1) := by decide +kernel
theorem dX10_wantSeat_83 : decode cX10_wantSeat 83 = .ok (.getfield 175, 3) := by decide +kernel
theorem dX10_wantSeat_86 : decode cX10_wantSeat 86 = .ok (.iconst 1, 1) := by decide +kernel
theorem dX10_wantSeat_87 : decode cX10_wantSeat 87 = .ok (.isub, 1) := by decide +kernel
theorem dX10_wantSeat_88 : decode cX10_wantSeat 88 = .ok (.invokevirtual 178, 3) := by decide +kernel
theorem dX10_wantSeat_91 : decode cX10_wantSeat 91 = .ok (.istore_n 1, 1) := by decide +kernel
theorem dX10_wantSeat_92 : decode cX10_wantSeat 92 = .ok (.iload_n 2, 1) := by decide +kernel
theorem dX10_wantSeat_93 : decode cX10_wantSeat 93 = .ok (.aload_n 0, 1) := by decide +kernel
theorem dX10_wantSeat_94 : decode cX10_wantSeat 94 = .ok (.getfield 155, 3) := by decide +kernel
theorem dX10_wantSeat_97 : decode cX10_wantSeat 97 = .ok (.ifCond .eq 9, 3) := by decide +kernel
theorem dX10_wantSeat_100 : decode cX10_wantSeat 100 = .ok (.iconst 1, 1) := by decide +kernel
theorem dX10_wantSeat_101 : decode cX10_wantSeat 101 = .ok (.iload_n 1, 1) := by decide +kernel
theorem dX10_wantSeat_102 : decode cX10_wantSeat 102 = .ok (.ishl, 1) := by decide +kernel
theorem dX10_wantSeat_103 : decode cX10_wantSeat 103 = .ok (.goto 4, 3) := by decide +kernel
theorem dX10_wantSeat_106 : decode cX10_wantSeat 106 = .ok (.iconst 0, 1) := by decide +kernel
theorem dX10_wantSeat_107 : decode cX10_wantSeat 107 = .ok (.ior, 1) := by decide +kernel
theorem dX10_wantSeat_108 : decode cX10_wantSeat 108 = .ok (.istore_n 2, 1) := by decide +kernel
theorem dX10_wantSeat_109 : decode cX10_wantSeat 109 = .ok (.goto (-50), 3) := by decide +kernel
theorem dX10_wantSeat_112 : decode cX10_wantSeat 112 = .ok (.aload_n 0, 1) := by decide +kernel
theorem dX10_wantSeat_113 : decode cX10_wantSeat 113 = .ok (.invokevirtual 191, 3) := by decide +kernel
theorem dX10_wantSeat_116 : decode cX10_wantSeat 116 = .ok (.aload_n 0, 1) := by decide +kernel
theorem dX10_wantSeat_117 : decode cX10_wantSeat 117 = .ok (.getfield 155, 3) := by decide +kernel
theorem dX10_wantSeat_120 : decode cX10_wantSeat 120 = .ok (.ifCond .eq 10, 3) := by decide +kernel
theorem dX10_wantSeat_123 : decode cX10_wantSeat 123 = .ok (.aload_n 0, 1) := by decide +kernel
theorem dX10_wantSeat_124 : decode cX10_wantSeat 124 = .ok (.iconst 5, 1) := by decide +kernel
theorem dX10_wantSeat_125 : decode cX10_wantSeat 125 = .ok (.iload_n 2, 1) := by decide +kernel
theorem dX10_wantSeat_126 : decode cX10_wantSeat 126 = .ok (.iconst 0, 1) := by decide +kernel
theorem dX10_wantSeat_127 : decode cX10_wantSeat 127 = .ok (.invokevirtual 205, 3) := by decide +kernel
theorem dX10_wantSeat_130 : decode cX10_wantSeat 130 = .ok (.return_, 1) := by decide +kernel
set_option maxRecDepth 20000 in
theorem ggX10_wantLate_X10_wantWord : GoodIn wsX10_wantLate wsX10_wantWord := goodIn_r _ [9, 1, 10, 11, 12, 8, 13, 14, 15, 16, 17, 18, 19, 20, 21, 22, 23, 24, 25, 26, 27, 28, 29, 30, 31, 32, 33, 34, 35, 36, 37, 38, 39, 40, 54, 55, 56, 57, 58, 59, 60, 61, 62, 63, 64, 65, 66, 67, 68, 69, 70, 71, 72, 73, 74, 75, 76, 77, 78, 79, 80, 81, 82, 83, 84, 85, 86, 87, 88, 89, 90, 91, 92, 93, 94, 95, 96, 97, 98, 99, 100, 101, 102, 103, 104, 105, 106, 107] (by decide +kernel) (by decide +kernel)
set_option maxRecDepth 20000 in
theorem gX10_wantLate_X10_wantWord : GoodIn wsX10_wantLate (wsV RX10 171 RX10 yX10_wantWord wsX10_wantWord) := goodIn_app (goodIn_of _ (by decide +kernel)) ggX10_wantLate_X10_wantWord
set_option maxRecDepth 20000 in
theorem ggX10_wantLate_X10_wantNumber : GoodIn wsX10_wantLate wsX10_wantNumber := goodIn_r _ [44, 22, 1, 14, 35, 36, 8, 37, 16, 17, 18, 19, 20, 21, 15, 23, 24, 25, 26, 27, 28, 29, 30, 31, 32, 33, 34, 38, 39, 40, 54, 55, 56, 57, 58, 59, 60, 61, 62, 63, 64, 65, 66, 67, 68, 69, 70, 71, 72, 73, 74, 75, 76, 77, 78, 79, 80, 81, 82, 83, 84, 85, 86, 87, 88, 89, 90, 91, 92, 93, 94, 95, 96, 97, 98, 99, 100, 101, 102, 103, 104, 105, 106, 107] (by decide +kernel) (by decide +kernel)
set_option maxRecDepth 20000 in
theorem gX10_wantLate_X10_wantNumber : GoodIn wsX10_wantLate (wsV RX10 178 RX10 yX10_wantNumber wsX10_wantNumber) := goodIn_app (goodIn_of _ (by decide +kernel)) ggX10_wantLate_X10_wantNumber
set_option maxRecDepth 20000 in
theorem ggX10_wantLate_X10_wantEnd : GoodIn wsX10_wantLate wsX10_wantEnd := goodIn_r _ [48, 1, 14, 22, 16, 17, 18, 8, 19, 20, 21, 15, 23, 24, 25, 26, 27, 28, 29, 30, 31, 32, 33, 34, 35, 36, 37, 38, 39, 40, 54, 55, 56, 57, 58, 59, 60, 61, 62, 63, 64, 65, 66, 67, 68, 69, 70, 71, 72, 73, 74, 75, 76, 77, 78, 79, 80, 81, 82, 83, 84, 85, 86, 87, 88, 89, 90, 91, 92, 93, 94, 95, 96, 97, 98, 99, 100, 101, 102, 103, 104, 105, 106, 107] (by decide +kernel) (by decide +kernel)
set_option maxRecDepth 20000 in
theorem gX10_wantLate_X10_wantEnd : GoodIn wsX10_wantLate (wsV RX10 191 RX10 yX10_wantEnd wsX10_wantEnd) := goodIn_app (goodIn_of _ (by decide +kernel)) ggX10_wantLate_X10_wantEnd
set_option maxRecDepth 20000 in
theorem ggX10_wantLate_X10_addCut : GoodIn wsX10_wantLate wsX10_addCut := goodIn_r _ [52, 53, 2, 54, 55, 56, 57, 58, 59, 60, 61, 62, 63, 64, 65, 66, 67, 68, 69, 70, 71, 72, 73, 74, 75, 76, 77, 78, 79, 80, 81, 82, 83, 84, 85, 86, 87, 88, 89, 90, 91, 92, 93, 94, 95, 96, 97, 98, 99, 100, 101, 102, 103, 104, 105, 106, 107] (by decide +kernel) (by decide +kernel)
set_option maxRecDepth 20000 in
theorem gX10_wantLate_X10_addCut : GoodIn wsX10_wantLate (wsV RX10 205 RX10 yX10_addCut wsX10_addCut) := goodIn_app (goodIn_of _ (by decide +kernel)) ggX10_wantLate_X10_addCut
theorem dX10_wantLate_0 : decode cX10_wantLate 0 = .ok (.aload_n 0, 1) := by decide +kernel
theorem dX10_wantLate_1 : decode cX10_wantLate 1 = .ok (.aload_n 0, 1) := by decide +kernel
theorem dX10_wantLate_2 : decode cX10_wantLate 2 = .ok (.getfield 155, 3) := by decide +kernel
theorem dX10_wantLate_5 : decode cX10_wantLate 5 = .ok (.ifCond .eq 16, 3) := by decide +kernel
theorem dX10_wantLate_8 : decode cX10_wantLate 8 = .ok (.aload_n 0, 1) := by decide +kernel
theorem dX10_wantLate_9 : decode cX10_wantLate 9 = .ok (.getfield 198, 3) := by decide +kernel
theorem dX10_wantLate_12 : decode cX10_wantLate 12 = .ok (.bipush 8, 2) := by decide +kernel
theorem dX10_wantLate_14 : decode cX10_wantLate 14 = .ok (.if_icmp .ge 7, 3) := by decide +kernel
theorem dX10_wantLate_17 : decode cX10_wantLate 17 = .ok (.iconst 1, 1) := by decide +kernel
theorem dX10_wantLate_18 : decode cX10_wantLate 18 = .ok (.goto 4, 3) := by decide +kernel
theorem dX10_wantLate_21 : decode cX10_wantLate 21 = .ok (.iconst 0, 1) := by decide +kernel
theorem dX10_wantLate_22 : decode cX10_wantLate 22 = .ok (.putfield 155, 3) := by decide +kernel
theorem dX10_wantLate_25 : decode cX10_wantLate 25 = .ok (.aload_n 0, 1) := by decide +kernel
theorem dX10_wantLate_26 : decode cX10_wantLate 26 = .ok (.ldc2_w 209, 3) := by decide +kernel
theorem dX10_wantLate_29 : decode cX10_wantLate 29 = .ok (.invokevirtual 171, 3) := by decide +kernel
theorem dX10_wantLate_32 : decode cX10_wantLate 32 = .ok (.aload_n 0, 1) := by decide +kernel
theorem dX10_wantLate_33 : decode cX10_wantLate 33 = .ok (.iconst 0, 1) := by decide +kernel
theorem dX10_wantLate_34 : decode cX10_wantLate 34 = .ok (.aload_n 0, 1) := by decide +kernel
theorem dX10_wantLate_35 : decode cX10_wantLate 35 = .ok (.getfield 166, 3) := by decide +kernel
theorem dX10_wantLate_38 : decode cX10_wantLate 38 = .ok (.iconst 1, 1) := by decide +kernel
theorem dX10_wantLate_39 : decode cX10_wantLate 39 = .ok (.isub, 1) := by decide +kernel
theorem dX10_wantLate_40 : decode cX10_wantLate 40 = .ok (.invokevirtual 178, 3) := by decide +kernel
theorem dX10_wantLate_43 : decode cX10_wantLate 43 = .ok (.istore_n 1, 1) := by decide +kernel
theorem dX10_wantLate_44 : decode cX10_wantLate 44 = .ok (.aload_n 0, 1) := by decide +kernel
theorem dX10_wantLate_45 : decode cX10_wantLate 45 = .ok (.iconst 0, 1) := by decide +kernel
theorem dX10_wantLate_46 : decode cX10_wantLate 46 = .ok (.bipush 99, 2) := by decide +kernel
theorem dX10_wantLate_48 : decode cX10_wantLate 48 = .ok (.invokevirtual 178, 3) := by decide +kernel
theorem dX10_wantLate_51 : decode cX10_wantLate 51 = .ok (.istore_n 2, 1) := by decide +kernel
theorem dX10_wantLate_52 : decode cX10_wantLate 52 = .ok (.aload_n 0, 1) := by decide +kernel
theorem dX10_wantLate_53 : decode cX10_wantLate 53 = .ok (.invokevirtual 191, 3) := by decide +kernel
theorem dX10_wantLate_56 : decode cX10_wantLate 56 = .ok (.aload_n 0, 1) := by decide +kernel
theorem dX10_wantLate_57 : decode cX10_wantLate 57 = .ok (.getfield 155, 3) := by decide +kernel
theorem dX10_wantLate_60 : decode cX10_wantLate 60 = .ok (.ifCond .eq 10, 3) := by decide +kernel
theorem dX10_wantLate_63 : decode cX10_wantLate 63 = .ok (.aload_n 0, 1) := by decide +kernel
theorem dX10_wantLate_64 : decode cX10_wantLate 64 = .ok (.iconst 4, 1) := by decide +kernel
theorem dX10_wantLate_65 : decode cX10_wantLate 65 = .ok (.iload_n 1, 1) := by decide +kernel
theorem dX10_wantLate_66 : decode cX10_wantLate 66 = .ok (.iload_n 2, 1) := by decide +kernel
theorem dX10_wantLate_67 : decode cX10_wantLate 67 = .ok (.invokevirtual 205, 3) := by decide +kernel
theorem dX10_wantLate_70 : decode cX10_wantLate 70 = .ok (.return_, 1) := by decide +kernel
set_option maxRecDepth 20000 in
theorem ggX10_wantWorks_X10_wantWord : GoodIn wsX10_wantWorks wsX10_wantWord := goodIn_r _ [16, 1, 17, 18, 19, 15, 20, 7, 21, 22, 23, 24, 25, 26, 27, 28, 29, 30, 31, 32, 33, 34, 35, 36, 37, 38, 39, 40, 41, 42, 43, 44, 45, 46, 86, 87, 88, 89, 90, 91, 92, 93, 94, 95, 96, 97, 98, 99, 100, 101, 102, 103, 104, 105, 106, 107, 108, 109, 110, 111, 112, 113, 114, 115, 116, 117, 118, 119, 120, 121, 122, 123, 124, 125, 126, 127, 128, 129, 130, 131, 132, 133, 134, 135, 136, 137, 138, 139] (by decide +kernel) (by decide +kernel)
set_option maxRecDepth 20000 in
theorem gX10_wantWorks_X10_wantWord : GoodIn wsX10_wantWorks (wsV RX10 171 RX10 yX10_wantWord wsX10_wantWord) := goodIn_app (goodIn_of _ (by decide +kernel)) ggX10_wantWorks_X10_wantWord
set_option maxRecDepth 20000 in
theorem ggX10_wantWorks_X10_wantNumber : GoodIn wsX10_wantWorks wsX10_wantNumber := goodIn_r _ [50, 28, 1, 7, 41, 42, 15, 43, 22, 23, 24, 25, 26, 27, 21, 29, 30, 31, 32, 33, 34, 35, 36, 37, 38, 39, 40, 44, 45, 46, 86, 87, 88, 89, 90, 91, 92, 93, 94, 95, 96, 97, 98, 99, 100, 101, 102, 103, 104, 105, 106, 107, 108, 109, 110, 111, 112, 113, 114, 115, 116, 117, 118, 119, 120, 121, 122, 123, 124, 125, 126, 127, 128, 129, 130, 131, 132, 133, 134, 135, 136, 137, 138, 139] (by decide +kernel) (by decide +kernel)
set_option maxRecDepth 20000 in
theorem gX10_wantWorks_X10_wantNumber : GoodIn wsX10_wantWorks (wsV RX10 178 RX10 yX10_wantNumber wsX10_wantNumber) := goodIn_app (goodIn_of _ (by decide +kernel)) ggX10_wantWorks_X10_wantNumber
set_option maxRecDepth 20000 in
theorem ggX10_wantWorks_X10_wantEnd : GoodIn wsX10_wantWorks wsX10_wantEnd := goodIn_r _ [54, 1, 7, 28, 22, 23, 24, 15, 25, 26, 27, 21, 29, 30, 31, 32, 33, 34, 35, 36, 37, 38, 39, 40, 41, 42, 43, 44, 45, 46, 86, 87, 88, 89, 90, 91, 92, 93, 94, 95, 96, 97, 98, 99, 100, 101, 102, 103, 104, 105, 106, 107, 108, 109, 110, 111, 112, 113, 114, 115, 116, 117, 118, 119, 120, 121, 122, 123, 124, 125, 126, 127, 128, 129, 130, 131, 132, 133, 134, 135, 136, 137, 138, 139] (by decide +kernel) (by decide +kernel)
set_option maxRecDepth 20000 in
theorem gX10_wantWorks_X10_wantEnd : GoodIn wsX10_wantWorks (wsV RX10 191 RX10 yX10_wantEnd wsX10_wantEnd) := goodIn_app (goodIn_of _ (by decide +kernel)) ggX10_wantWorks_X10_wantEnd
set_option maxRecDepth 20000 in
theorem ggX10_wantWorks_X10_isWord : GoodIn wsX10_wantWorks wsX10_isWord := goodIn_r _ [20, 7, 21, 86, 87, 88, 89, 90, 91, 92, 93, 94, 95, 96, 97, 98, 99, 100, 101, 102, 103, 104, 105, 106, 107, 108, 109, 110, 111, 112, 113, 114, 115, 116, 117, 118, 119, 120, 121, 122, 123, 124, 125, 126, 127, 128, 129, 130, 131, 132, 133, 134, 135, 136, 137, 138, 139] (by decide +kernel) (by decide +kernel)
set_option maxRecDepth 20000 in
theorem gX10_wantWorks_X10_isWord : GoodIn wsX10_wantWorks (wsV RX10 159 RX10 yX10_isWord wsX10_isWord) := goodIn_app (goodIn_of _ (by decide +kernel)) ggX10_wantWorks_X10_isWord
set_option maxRecDepth 20000 in
theorem ggX10_wantWorks_X10_wantTie : GoodIn wsX10_wantWorks wsX10_wantTie := goodIn_r _ [58, 1, 2, 8, 5, 7, 28, 59, 60, 61, 62, 12, 13, 14, 15, 16, 17, 18, 19, 20, 21, 22, 23, 24, 25, 26, 27, 29, 30, 31, 32, 33, 34, 35, 36, 37, 38, 39, 40, 41, 42, 43, 44, 45, 46, 47, 48, 49, 50, 63, 64, 65, 66, 51, 52, 53, 54, 86, 87, 88, 89, 90, 91, 92, 93, 94, 95, 96, 97, 98, 99, 100, 101, 102, 103, 104, 105, 106, 107, 108, 109, 110, 111, 112, 113, 114, 115, 116, 117, 118, 119, 120, 121, 122, 123, 124, 125, 126, 127, 128, 129, 130, 131, 132, 133, 134, 135, 136, 137, 138, 139] (by decide +kernel) (by decide +kernel)
set_option maxRecDepth 20000 in
theorem gX10_wantWorks_X10_wantTie : GoodIn wsX10_wantWorks (wsV RX10 213 RX10 yX10_wantTie wsX10_wantTie) := goodIn_app (goodIn_of _ (by decide +kernel)) ggX10_wantWorks_X10_wantTie
set_option maxRecDepth 20000 in
theorem ggX10_wantWorks_X10_wantFirst : GoodIn wsX10_wantWorks wsX10_wantFirst := goodIn_r _ [70, 9, 5, 71, 1, 6, 12, 13, 14, 15, 16, 17, 18, 19, 20, 7, 21, 22, 23, 24, 25, 26, 27, 28, 29, 30, 31, 32, 33, 34, 35, 36, 37, 38, 39, 40, 41, 42, 43, 44, 45, 46, 47, 48, 49, 50, 51, 52, 53, 54, 86, 87, 88, 89, 90, 91, 92, 93, 94, 95, 96, 97, 98, 99, 100, 101, 102, 103, 104, 105, 106, 107, 108, 109, 110, 111, 112, 113, 114, 115, 116, 117, 118, 119, 120, 121, 122, 123, 124, 125, 126, 127, 128, 129, 130, 131, 132, 133, 134, 135, 136, 137, 138, 139] (by decide +kernel) (by decide +kernel)
set_option maxRecDepth 20000 in
theorem gX10_wantWorks_X10_wantFirst : GoodIn wsX10_wantWorks (wsV RX10 216 RX10 yX10_wantFirst wsX10_wantFirst) := goodIn_app (goodIn_of _ (by decide +kernel)) ggX10_wantWorks_X10_wantFirst
set_option maxRecDepth 20000 in
theorem ggX10_wantWorks_X10_wantSeat : GoodIn wsX10_wantWorks wsX10_wantSeat := goodIn_r _ [75, 1, 3, 10, 5, 76, 12, 13, 14, 15, 16, 17, 18, 19, 20, 7, 21, 22, 23, 24, 25, 26, 27, 28, 29, 30, 31, 32, 33, 34, 35, 36, 37, 38, 39, 40, 41, 42, 43, 44, 45, 46, 47, 48, 49, 50, 51, 52, 53, 54, 77, 78, 79, 80, 81, 86, 87, 88, 89, 90, 91, 92, 93, 94, 95, 96, 97, 98, 99, 100, 101, 102, 103, 104, 105, 106, 107, 108, 109, 110, 111, 112, 113, 114, 115, 116, 117, 118, 119, 120, 121, 122, 123, 124, 125, 126, 127, 128, 129, 130, 131, 132, 133, 134, 135, 136, 137, 138, 139] (by decide +kernel) (by decide +kernel)
set_option maxRecDepth 20000 in
theorem gX10_wantWorks_X10_wantSeat : GoodIn wsX10_wantWorks (wsV RX10 219 RX10 yX10_wantSeat wsX10_wantSeat) := goodIn_app (goodIn_of _ (by decide +kernel)) ggX10_wantWorks_X10_wantSeat
set_option maxRecDepth 20000 in
theorem ggX10_wantWorks_X10_wantLate : GoodIn wsX10_wantWorks wsX10_wantLate := goodIn_r _ [85, 1, 3, 11, 2, 12, 13, 14, 15, 16, 17, 18, 19, 20, 7, 21, 22, 23, 24, 25, 26, 27, 28, 29, 30, 31, 32, 33, 34, 35, 36, 37, 38, 39, 40, 41, 42, 43, 44, 45, 46, 47, 48, 49, 50, 51, 52, 53, 54, 77, 78, 79, 80, 81, 86, 87, 88, 89, 90, 91, 92, 93, 94, 95, 96, 97, 98, 99, 100, 101, 102, 103, 104, 105, 106, 107, 108, 109, 110, 111, 112, 113, 114, 115, 116, 117, 118, 119, 120, 121, 122, 123, 124, 125, 126, 127, 128, 129, 130, 131, 132, 133, 134, 135, 136, 137, 138, 139] (by decide +kernel) (by decide +kernel)
set_option maxRecDepth 20000 in
theorem gX10_wantWorks_X10_wantLate : GoodIn wsX10_wantWorks (wsV RX10 222 RX10 yX10_wantLate wsX10_wantLate) := goodIn_app (goodIn_of _ (by decide +kernel)) ggX10_wantWorks_X10_wantLate
theorem dX10_wantWorks_0 : decode cX10_wantWorks 0 = .ok (.aload_n 0, 1) := by decide +kernel
theorem dX10_wantWorks_1 : decode cX10_wantWorks 1 = .ok (.iconst 1, 1) := by decide +kernel
theorem dX10_wantWorks_2 : decode cX10_wantWorks 2 = .ok (.putfield 155, 3) := by decide +kernel
theorem dX10_wantWorks_5 : decode cX10_wantWorks 5 = .ok (.aload_n 0, 1) := by decide +kernel
theorem dX10_wantWorks_6 : decode cX10_wantWorks 6 = .ok (.iconst 0, 1) := by decide +kernel
theorem dX10_wantWorks_7 : decode cX10_wantWorks 7 = .ok (.putfield 166, 3) := by decide +kernel
theorem dX10_wantWorks_10 : decode cX10_wantWorks 10 = .ok (.aload_n 0, 1) := by decide +kernel
theorem dX10_wantWorks_11 : decode cX10_wantWorks 11 = .ok (.iconst 0, 1) := by decide +kernel
theorem dX10_wantWorks_12 : decode cX10_wantWorks 12 = .ok (.putfield 198, 3) := by decide +kernel
theorem dX10_wantWorks_15 : decode cX10_wantWorks 15 = .ok (.aload_n 0, 1) := by decide +kernel
theorem dX10_wantWorks_16 : decode cX10_wantWorks 16 = .ok (.ldc2_w 211, 3) := by decide +kernel
theorem dX10_wantWorks_19 : decode cX10_wantWorks 19 = .ok (.invokevirtual 171, 3) := by decide +kernel
theorem dX10_wantWorks_22 : decode cX10_wantWorks 22 = .ok (.aload_n 0, 1) := by decide +kernel
theorem dX10_wantWorks_23 : decode cX10_wantWorks 23 = .ok (.aload_n 0, 1) := by decide +kernel
theorem dX10_wantWorks_24 : decode cX10_wantWorks 24 = .ok (.iconst 1, 1) := by decide +kernel
theorem dX10_wantWorks_25 : decode cX10_wantWorks 25 = .ok (.bipush 10, 2) := by decide +kernel
theorem dX10_wantWorks_27 : decode cX10_wantWorks 27 = .ok (.invokevirtual 178, 3) := by decide +kernel
theorem dX10_wantWorks_30 : decode cX10_wantWorks 30 = .ok (.putfield 175, 3) := by decide +kernel
theorem dX10_wantWorks_33 : decode cX10_wantWorks 33 = .ok (.aload_n 0, 1) := by decide +kernel
theorem dX10_wantWorks_34 : decode cX10_wantWorks 34 = .ok (.invokevirtual 191, 3) := by decide +kernel
theorem dX10_wantWorks_37 : decode cX10_wantWorks 37 = .ok (.iconst 0, 1) := by decide +kernel
theorem dX10_wantWorks_38 : decode cX10_wantWorks 38 = .ok (.istore_n 1, 1) := by decide +kernel
theorem dX10_wantWorks_39 : decode cX10_wantWorks 39 = .ok (.iload_n 1, 1) := by decide +kernel
theorem dX10_wantWorks_40 : decode cX10_wantWorks 40 = .ok (.bipush 10, 2) := by decide +kernel
theorem dX10_wantWorks_42 : decode cX10_wantWorks 42 = .ok (.if_icmp .ge 16, 3) := by decide +kernel
theorem dX10_wantWorks_45 : decode cX10_wantWorks 45 = .ok (.aload_n 0, 1) := by decide +kernel
theorem dX10_wantWorks_46 : decode cX10_wantWorks 46 = .ok (.getfield 32, 3) := by decide +kernel
theorem dX10_wantWorks_49 : decode cX10_wantWorks 49 = .ok (.iload_n 1, 1) := by decide +kernel
theorem dX10_wantWorks_50 : decode cX10_wantWorks 50 = .ok (.iconst 1, 1) := by decide +kernel
theorem dX10_wantWorks_51 : decode cX10_wantWorks 51 = .ok (.iastore, 1) := by decide +kernel
theorem dX10_wantWorks_52 : decode cX10_wantWorks 52 = .ok (.iinc 1 1, 3) := by decide +kernel
theorem dX10_wantWorks_55 : decode cX10_wantWorks 55 = .ok (.goto (-16), 3) := by decide +kernel
theorem dX10_wantWorks_58 : decode cX10_wantWorks 58 = .ok (.aload_n 0, 1) := by decide +kernel
theorem dX10_wantWorks_59 : decode cX10_wantWorks 59 = .ok (.getfield 155, 3) := by decide +kernel
theorem dX10_wantWorks_62 : decode cX10_wantWorks 62 = .ok (.ifCond .eq 86, 3) := by decide +kernel
theorem dX10_wantWorks_65 : decode cX10_wantWorks 65 = .ok (.aload_n 0, 1) := by decide +kernel
theorem dX10_wantWorks_66 : decode cX10_wantWorks 66 = .ok (.getfield 139, 3) := by decide +kernel
theorem dX10_wantWorks_69 : decode cX10_wantWorks 69 = .ok (.ifCond .eq 79, 3) := by decide +kernel
theorem dX10_wantWorks_72 : decode cX10_wantWorks 72 = .ok (.aload_n 0, 1) := by decide +kernel
theorem dX10_wantWorks_73 : decode cX10_wantWorks 73 = .ok (.ldc2_w 169, 3) := by decide +kernel
theorem dX10_wantWorks_76 : decode cX10_wantWorks 76 = .ok (.invokevirtual 159, 3) := by decide +kernel
theorem dX10_wantWorks_79 : decode cX10_wantWorks 79 = .ok (.ifCond .eq 10, 3) := by decide +kernel
theorem dX10_wantWorks_82 : decode cX10_wantWorks 82 = .ok (.aload_n 0, 1) := by decide +kernel
theorem dX10_wantWorks_83 : decode cX10_wantWorks 83 = .ok (.invokevirtual 213, 3) := by decide +kernel
theorem dX10_wantWorks_86 : decode cX10_wantWorks 86 = .ok (.goto (-28), 3) := by decide +kernel
theorem dX10_wantWorks_89 : decode cX10_wantWorks 89 = .ok (.aload_n 0, 1) := by decide +kernel
theorem dX10_wantWorks_90 : decode cX10_wantWorks 90 = .ok (.ldc2_w 194, 3) := by decide +kernel
theorem dX10_wantWorks_93 : decode cX10_wantWorks 93 = .ok (.invokevirtual 159, 3) := by decide +kernel
theorem dX10_wantWorks_96 : decode cX10_wantWorks 96 = .ok (.ifCond .eq 10, 3) := by decide +kernel
theorem dX10_wantWorks_99 : decode cX10_wantWorks 99 = .ok (.aload_n 0, 1) := by decide +kernel
theorem dX10_wantWorks_100 : decode cX10_wantWorks 100 = .ok (.invokevirtual 216, 3) := by decide +kernel
theorem dX10_wantWorks_103 : decode cX10_wantWorks 103 = .ok (.goto (-45), 3) := by decide +kernel
theorem dX10_wantWorks_106 : decode cX10_wantWorks 106 = .ok (.aload_n 0, 1) := by decide +kernel
theorem dX10_wantWorks_107 : decode cX10_wantWorks 107 = .ok (.ldc2_w 201, 3) := by decide +kernel
theorem dX10_wantWorks_110 : decode cX10_wantWorks 110 = .ok (.invokevirtual 159, 3) := by decide +kernel
theorem dX10_wantWorks_113 : decode cX10_wantWorks 113 = .ok (.ifCond .eq 10, 3) := by decide +kernel
theorem dX10_wantWorks_116 : decode cX10_wantWorks 116 = .ok (.aload_n 0, 1) := by decide +kernel
theorem dX10_wantWorks_117 : decode cX10_wantWorks 117 = .ok (.invokevirtual 219, 3) := by decide +kernel
theorem dX10_wantWorks_120 : decode cX10_wantWorks 120 = .ok (.goto (-62), 3) := by decide +kernel
theorem dX10_wantWorks_123 : decode cX10_wantWorks 123 = .ok (.aload_n 0, 1) := by decide +kernel
theorem dX10_wantWorks_124 : decode cX10_wantWorks 124 = .ok (.ldc2_w 209, 3) := by decide +kernel
theorem dX10_wantWorks_127 : decode cX10_wantWorks 127 = .ok (.invokevirtual 159, 3) := by decide +kernel
theorem dX10_wantWorks_130 : decode cX10_wantWorks 130 = .ok (.ifCond .eq 10, 3) := by decide +kernel
theorem dX10_wantWorks_133 : decode cX10_wantWorks 133 = .ok (.aload_n 0, 1) := by decide +kernel
theorem dX10_wantWorks_134 : decode cX10_wantWorks 134 = .ok (.invokevirtual 222, 3) := by decide +kernel
theorem dX10_wantWorks_137 : decode cX10_wantWorks 137 = .ok (.goto (-79), 3) := by decide +kernel
theorem dX10_wantWorks_140 : decode cX10_wantWorks 140 = .ok (.aload_n 0, 1) := by decide +kernel
theorem dX10_wantWorks_141 : decode cX10_wantWorks 141 = .ok (.iconst 0, 1) := by decide +kernel
theorem dX10_wantWorks_142 : decode cX10_wantWorks 142 = .ok (.putfield 155, 3) := by decide +kernel
theorem dX10_wantWorks_145 : decode cX10_wantWorks 145 = .ok (.goto (-87), 3) := by decide +kernel
theorem dX10_wantWorks_148 : decode cX10_wantWorks 148 = .ok (.return_, 1) := by decide +kernel
theorem dX10_begin_0 : decode cX10_begin 0 = .ok (.aload_n 0, 1) := by decide +kernel
theorem dX10_begin_1 : decode cX10_begin 1 = .ok (.iload_n 1, 1) := by decide +kernel
theorem dX10_begin_2 : decode cX10_begin 2 = .ok (.putfield 7, 3) := by decide +kernel
theorem dX10_begin_5 : decode cX10_begin 5 = .ok (.aload_n 0, 1) := by decide +kernel
theorem dX10_begin_6 : decode cX10_begin 6 = .ok (.iconst 0, 1) := by decide +kernel
theorem dX10_begin_7 : decode cX10_begin 7 = .ok (.putfield 101, 3) := by decide +kernel
theorem dX10_begin_10 : decode cX10_begin 10 = .ok (.aload_n 0, 1) := by decide +kernel
theorem dX10_begin_11 : decode cX10_begin 11 = .ok (.iconst 0, 1) := by decide +kernel
theorem dX10_begin_12 : decode cX10_begin 12 = .ok (.putfield 225, 3) := by decide +kernel
theorem dX10_begin_15 : decode cX10_begin 15 = .ok (.aload_n 0, 1) := by decide +kernel
theorem dX10_begin_16 : decode cX10_begin 16 = .ok (.iconst 0, 1) := by decide +kernel
theorem dX10_begin_17 : decode cX10_begin 17 = .ok (.putfield 228, 3) := by decide +kernel
theorem dX10_begin_20 : decode cX10_begin 20 = .ok (.iconst 0, 1) := by decide +kernel
theorem dX10_begin_21 : decode cX10_begin 21 = .ok (.istore_n 2, 1) := by decide +kernel
theorem dX10_begin_22 : decode cX10_begin 22 = .ok (.iload_n 2, 1) := by decide +kernel
theorem dX10_begin_23 : decode cX10_begin 23 = .ok (.bipush 10, 2) := by decide +kernel
theorem dX10_begin_25 : decode cX10_begin 25 = .ok (.if_icmp .ge 23, 3) := by decide +kernel
theorem dX10_begin_28 : decode cX10_begin 28 = .ok (.aload_n 0, 1) := by decide +kernel
theorem dX10_begin_29 : decode cX10_begin 29 = .ok (.getfield 13, 3) := by decide +kernel
theorem dX10_begin_32 : decode cX10_begin 32 = .ok (.iload_n 2, 1) := by decide +kernel
theorem dX10_begin_33 : decode cX10_begin 33 = .ok (.iconst 1, 1) := by decide +kernel
theorem dX10_begin_34 : decode cX10_begin 34 = .ok (.iastore, 1) := by decide +kernel
theorem dX10_begin_35 : decode cX10_begin 35 = .ok (.aload_n 0, 1) := by decide +kernel
theorem dX10_begin_36 : decode cX10_begin 36 = .ok (.getfield 23, 3) := by decide +kernel
theorem dX10_begin_39 : decode cX10_begin 39 = .ok (.iload_n 2, 1) := by decide +kernel
theorem dX10_begin_40 : decode cX10_begin 40 = .ok (.iconst 0, 1) := by decide +kernel
theorem dX10_begin_41 : decode cX10_begin 41 = .ok (.iastore, 1) := by decide +kernel
theorem dX10_begin_42 : decode cX10_begin 42 = .ok (.iinc 2 1, 3) := by decide +kernel
theorem dX10_begin_45 : decode cX10_begin 45 = .ok (.goto (-23), 3) := by decide +kernel
theorem dX10_begin_48 : decode cX10_begin 48 = .ok (.return_, 1) := by decide +kernel
set_option maxRecDepth 20000 in
theorem ggX10_works_X10_advance : GoodIn wsX10_works wsX10_advance := goodIn_r _ [20, 1, 4, 21, 22, 23, 24, 25, 26, 27, 28, 29, 19, 30, 2, 31, 32, 33, 34, 35, 36, 37, 38, 39, 40, 102, 103, 104, 105, 106, 107, 108, 109, 110, 111, 112, 113, 114, 115, 116, 117, 118, 119, 120, 121, 122, 123, 124, 125, 126, 127, 128, 129, 130, 131, 132, 133, 134, 135, 136, 137, 138, 139, 140, 141, 142, 143, 144, 145, 146, 147, 148, 149, 150, 151, 152, 153, 154, 155] (by decide +kernel) (by decide +kernel)
set_option maxRecDepth 20000 in
theorem gX10_works_X10_advance : GoodIn wsX10_works (wsV RX10 163 RX10 yX10_advance wsX10_advance) := goodIn_app (goodIn_of _ (by decide +kernel)) ggX10_works_X10_advance
set_option maxRecDepth 20000 in
theorem ggX10_works_X10_wantWorks : GoodIn wsX10_works wsX10_wantWorks := goodIn_r _ [44, 3, 6, 8, 45, 5, 11, 21, 46, 47, 48, 49, 50, 51, 52, 19, 53, 54, 55, 56, 57, 22, 16, 17, 18, 20, 1, 4, 23, 24, 25, 26, 27, 28, 29, 30, 2, 31, 32, 33, 34, 35, 36, 37, 38, 39, 40, 58, 59, 60, 61, 62, 63, 64, 65, 66, 67, 68, 69, 70, 71, 72, 13, 73, 74, 75, 76, 77, 78, 79, 80, 81, 82, 83, 84, 85, 86, 87, 88, 89, 90, 15, 91, 92, 93, 94, 102, 103, 104, 105, 106, 107, 108, 109, 110, 111, 112, 113, 114, 115, 116, 117, 118, 119, 120, 121, 122, 123, 124, 125, 126, 127, 128, 129, 130, 131, 132, 133, 134, 135, 136, 137, 138, 139, 140, 141, 142, 143, 144, 145, 146, 147, 148, 149, 150, 151, 152, 153, 154, 155] (by decide +kernel) (by decide +kernel)
set_option maxRecDepth 20000 in
theorem gX10_works_X10_wantWorks : GoodIn wsX10_works (wsV RX10 231 RX10 yX10_wantWorks wsX10_wantWorks) := goodIn_app (goodIn_of _ (by decide +kernel)) ggX10_works_X10_wantWorks
set_option maxRecDepth 20000 in
theorem ggX10_works_X10_begin : GoodIn wsX10_works wsX10_begin := goodIn_r _ [98, 99, 7, 9, 100, 10, 101, 102, 103, 104, 105, 106, 107, 108, 109, 110, 111, 112, 113, 114, 115, 116, 117, 118, 119, 120, 121, 122, 123, 124, 125, 126, 127, 128, 129, 130, 131, 132, 133, 134, 135, 136, 137, 138, 139, 140, 141, 142, 143, 144, 145, 146, 147, 148, 149, 150, 151, 152, 153, 154, 155] (by decide +kernel) (by decide +kernel)
