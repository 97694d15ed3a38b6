theorem dX9_tie_84 : decode cX9_tie 84 = .ok (.iastore, 1) := by decide +kernel
theorem dX9_tie_85 : decode cX9_tie 85 = .ok (.aload_n 0, 1) := by decide +kernel
theorem dX9_tie_86 : decode cX9_tie 86 = .ok (.getfield 10, 3) := by decide +kernel
theorem dX9_tie_89 : decode cX9_tie 89 = .ok (.getfield 129, 3) := by decide +kernel
theorem dX9_tie_92 : decode cX9_tie 92 = .ok (.iload 6, 2) := by decide +kernel
theorem dX9_tie_94 : decode cX9_tie 94 = .ok (.iload 4, 2) := by decide +kernel
theorem dX9_tie_96 : decode cX9_tie 96 = .ok (.iastore, 1) := by decide +kernel
theorem dX9_tie_97 : decode cX9_tie 97 = .ok (.aload_n 0, 1) := by decide +kernel
theorem dX9_tie_98 : decode cX9_tie 98 = .ok (.getfield 10, 3) := by decide +kernel
theorem dX9_tie_101 : decode cX9_tie 101 = .ok (.getfield 132, 3) := by decide +kernel
theorem dX9_tie_104 : decode cX9_tie 104 = .ok (.iload 6, 2) := by decide +kernel
theorem dX9_tie_106 : decode cX9_tie 106 = .ok (.iload 5, 2) := by decide +kernel
theorem dX9_tie_108 : decode cX9_tie 108 = .ok (.bastore, 1) := by decide +kernel
theorem dX9_tie_109 : decode cX9_tie 109 = .ok (.iload 6, 2) := by decide +kernel
theorem dX9_tie_111 : decode cX9_tie 111 = .ok (.ireturn, 1) := by decide +kernel
set_option maxRecDepth 20000 in
theorem ggX9_tieOf_X8_hasTie : GoodIn wsX9_tieOf wsX8_hasTie := goodIn_r _ [11, 12, 25, 26, 27, 28, 29, 30, 31, 32, 33, 34, 35, 36, 37, 38] (by decide +kernel) (by decide +kernel)
set_option maxRecDepth 20000 in
theorem gX9_tieOf_X8_hasTie : GoodIn wsX9_tieOf (wsV RX9 136 RX8 yX8_hasTie wsX8_hasTie) := goodIn_app (goodIn_of _ (by decide +kernel)) ggX9_tieOf_X8_hasTie
theorem dX9_tieOf_0 : decode cX9_tieOf 0 = .ok (.aload_n 0, 1) := by decide +kernel
theorem dX9_tieOf_1 : decode cX9_tieOf 1 = .ok (.getfield 10, 3) := by decide +kernel
theorem dX9_tieOf_4 : decode cX9_tieOf 4 = .ok (.iload_n 1, 1) := by decide +kernel
theorem dX9_tieOf_5 : decode cX9_tieOf 5 = .ok (.invokevirtual 136, 3) := by decide +kernel
theorem dX9_tieOf_8 : decode cX9_tieOf 8 = .ok (.ifCond .ne 5, 3) := by decide +kernel
theorem dX9_tieOf_11 : decode cX9_tieOf 11 = .ok (.iconst (-1), 1) := by decide +kernel
theorem dX9_tieOf_12 : decode cX9_tieOf 12 = .ok (.ireturn, 1) := by decide +kernel
theorem dX9_tieOf_13 : decode cX9_tieOf 13 = .ok (.iload_n 2, 1) := by decide +kernel
theorem dX9_tieOf_14 : decode cX9_tieOf 14 = .ok (.tableswitch 92 0 4 #[34, 44, 54, 64, 74], 34) := by decide +kernel
theorem dX9_tieOf_48 : decode cX9_tieOf 48 = .ok (.aload_n 0, 1) := by decide +kernel
theorem dX9_tieOf_49 : decode cX9_tieOf 49 = .ok (.getfield 10, 3) := by decide +kernel
theorem dX9_tieOf_52 : decode cX9_tieOf 52 = .ok (.getfield 140, 3) := by decide +kernel
theorem dX9_tieOf_55 : decode cX9_tieOf 55 = .ok (.iload_n 1, 1) := by decide +kernel
theorem dX9_tieOf_56 : decode cX9_tieOf 56 = .ok (.iaload, 1) := by decide +kernel
theorem dX9_tieOf_57 : decode cX9_tieOf 57 = .ok (.ireturn, 1) := by decide +kernel
theorem dX9_tieOf_58 : decode cX9_tieOf 58 = .ok (.aload_n 0, 1) := by decide +kernel
theorem dX9_tieOf_59 : decode cX9_tieOf 59 = .ok (.getfield 10, 3) := by decide +kernel
theorem dX9_tieOf_62 : decode cX9_tieOf 62 = .ok (.getfield 143, 3) := by decide +kernel
theorem dX9_tieOf_65 : decode cX9_tieOf 65 = .ok (.iload_n 1, 1) := by decide +kernel
theorem dX9_tieOf_66 : decode cX9_tieOf 66 = .ok (.iaload, 1) := by decide +kernel
theorem dX9_tieOf_67 : decode cX9_tieOf 67 = .ok (.ireturn, 1) := by decide +kernel
theorem dX9_tieOf_68 : decode cX9_tieOf 68 = .ok (.aload_n 0, 1) := by decide +kernel
theorem dX9_tieOf_69 : decode cX9_tieOf 69 = .ok (.getfield 10, 3) := by decide +kernel
theorem dX9_tieOf_72 : decode cX9_tieOf 72 = .ok (.getfield 125, 3) := by decide +kernel
theorem dX9_tieOf_75 : decode cX9_tieOf 75 = .ok (.iload_n 1, 1) := by decide +kernel
theorem dX9_tieOf_76 : decode cX9_tieOf 76 = .ok (.iaload, 1) := by decide +kernel
theorem dX9_tieOf_77 : decode cX9_tieOf 77 = .ok (.ireturn, 1) := by decide +kernel
theorem dX9_tieOf_78 : decode cX9_tieOf 78 = .ok (.aload_n 0, 1) := by decide +kernel
theorem dX9_tieOf_79 : decode cX9_tieOf 79 = .ok (.getfield 10, 3) := by decide +kernel
theorem dX9_tieOf_82 : decode cX9_tieOf 82 = .ok (.getfield 129, 3) := by decide +kernel
theorem dX9_tieOf_85 : decode cX9_tieOf 85 = .ok (.iload_n 1, 1) := by decide +kernel
theorem dX9_tieOf_86 : decode cX9_tieOf 86 = .ok (.iaload, 1) := by decide +kernel
theorem dX9_tieOf_87 : decode cX9_tieOf 87 = .ok (.ireturn, 1) := by decide +kernel
theorem dX9_tieOf_88 : decode cX9_tieOf 88 = .ok (.aload_n 0, 1) := by decide +kernel
theorem dX9_tieOf_89 : decode cX9_tieOf 89 = .ok (.getfield 10, 3) := by decide +kernel
theorem dX9_tieOf_92 : decode cX9_tieOf 92 = .ok (.getfield 132, 3) := by decide +kernel
theorem dX9_tieOf_95 : decode cX9_tieOf 95 = .ok (.iload_n 1, 1) := by decide +kernel
theorem dX9_tieOf_96 : decode cX9_tieOf 96 = .ok (.baload, 1) := by decide +kernel
theorem dX9_tieOf_97 : decode cX9_tieOf 97 = .ok (.ifCond .eq 7, 3) := by decide +kernel
theorem dX9_tieOf_100 : decode cX9_tieOf 100 = .ok (.iconst 1, 1) := by decide +kernel
theorem dX9_tieOf_101 : decode cX9_tieOf 101 = .ok (.goto 4, 3) := by decide +kernel
theorem dX9_tieOf_104 : decode cX9_tieOf 104 = .ok (.iconst 0, 1) := by decide +kernel
theorem dX9_tieOf_105 : decode cX9_tieOf 105 = .ok (.ireturn, 1) := by decide +kernel
theorem dX9_tieOf_106 : decode cX9_tieOf 106 = .ok (.iconst (-1), 1) := by decide +kernel
theorem dX9_tieOf_107 : decode cX9_tieOf 107 = .ok (.ireturn, 1) := by decide +kernel
set_option maxRecDepth 20000 in
theorem ggX9_first_X8_hasPerson : GoodIn wsX9_first wsX8_hasPerson := goodIn_r _ [7, 8, 21, 22, 23, 24, 25, 26, 27, 28, 29, 30, 31, 32, 33, 34] (by decide +kernel) (by decide +kernel)
set_option maxRecDepth 20000 in
theorem gX9_first_X8_hasPerson : GoodIn wsX9_first (wsV RX9 146 RX8 yX8_hasPerson wsX8_hasPerson) := goodIn_app (goodIn_of _ (by decide +kernel)) ggX9_first_X8_hasPerson
theorem dX9_first_0 : decode cX9_first 0 = .ok (.aload_n 0, 1) := by decide +kernel
theorem dX9_first_1 : decode cX9_first 1 = .ok (.getfield 10, 3) := by decide +kernel
theorem dX9_first_4 : decode cX9_first 4 = .ok (.iload_n 1, 1) := by decide +kernel
theorem dX9_first_5 : decode cX9_first 5 = .ok (.invokevirtual 146, 3) := by decide +kernel
theorem dX9_first_8 : decode cX9_first 8 = .ok (.ifCond .eq 13, 3) := by decide +kernel
theorem dX9_first_11 : decode cX9_first 11 = .ok (.iload_n 2, 1) := by decide +kernel
theorem dX9_first_12 : decode cX9_first 12 = .ok (.ifCond .lt 9, 3) := by decide +kernel
theorem dX9_first_15 : decode cX9_first 15 = .ok (.iload_n 2, 1) := by decide +kernel
theorem dX9_first_16 : decode cX9_first 16 = .ok (.bipush 9, 2) := by decide +kernel
theorem dX9_first_18 : decode cX9_first 18 = .ok (.if_icmp .le 5, 3) := by decide +kernel
theorem dX9_first_21 : decode cX9_first 21 = .ok (.iconst (-1), 1) := by decide +kernel
theorem dX9_first_22 : decode cX9_first 22 = .ok (.ireturn, 1) := by decide +kernel
theorem dX9_first_23 : decode cX9_first 23 = .ok (.aload_n 0, 1) := by decide +kernel
theorem dX9_first_24 : decode cX9_first 24 = .ok (.getfield 10, 3) := by decide +kernel
theorem dX9_first_27 : decode cX9_first 27 = .ok (.getfield 149, 3) := by decide +kernel
theorem dX9_first_30 : decode cX9_first 30 = .ok (.iload_n 1, 1) := by decide +kernel
theorem dX9_first_31 : decode cX9_first 31 = .ok (.iaload, 1) := by decide +kernel
theorem dX9_first_32 : decode cX9_first 32 = .ok (.istore_n 3, 1) := by decide +kernel
theorem dX9_first_33 : decode cX9_first 33 = .ok (.aload_n 0, 1) := by decide +kernel
theorem dX9_first_34 : decode cX9_first 34 = .ok (.getfield 10, 3) := by decide +kernel
theorem dX9_first_37 : decode cX9_first 37 = .ok (.getfield 149, 3) := by decide +kernel
theorem dX9_first_40 : decode cX9_first 40 = .ok (.iload_n 1, 1) := by decide +kernel
theorem dX9_first_41 : decode cX9_first 41 = .ok (.iload_n 2, 1) := by decide +kernel
theorem dX9_first_42 : decode cX9_first 42 = .ok (.iastore, 1) := by decide +kernel
theorem dX9_first_43 : decode cX9_first 43 = .ok (.iload_n 3, 1) := by decide +kernel
theorem dX9_first_44 : decode cX9_first 44 = .ok (.ireturn, 1) := by decide +kernel
set_option maxRecDepth 20000 in
theorem ggX9_cut_X8_hasTie : GoodIn wsX9_cut wsX8_hasTie := goodIn_r _ [7, 8, 38, 39, 40, 41, 42, 43, 44, 45, 46, 47, 48, 49, 50, 51] (by decide +kernel) (by decide +kernel)
set_option maxRecDepth 20000 in
theorem gX9_cut_X8_hasTie : GoodIn wsX9_cut (wsV RX9 136 RX8 yX8_hasTie wsX8_hasTie) := goodIn_app (goodIn_of _ (by decide +kernel)) ggX9_cut_X8_hasTie
set_option maxRecDepth 20000 in
theorem ggX9_cut_X8_hasSet : GoodIn wsX9_cut wsX8_hasSet := goodIn_r _ [12, 13, 14, 15, 6, 16, 17, 38, 39, 40, 41, 42, 43, 44, 45, 46, 47, 48, 49, 50, 51] (by decide +kernel) (by decide +kernel)
set_option maxRecDepth 20000 in
theorem gX9_cut_X8_hasSet : GoodIn wsX9_cut (wsV RX9 152 RX8 yX8_hasSet wsX8_hasSet) := goodIn_app (goodIn_of _ (by decide +kernel)) ggX9_cut_X8_hasSet
set_option maxRecDepth 20000 in
theorem ggX9_cut_X8_addCut : GoodIn wsX9_cut wsX8_addCut := goodIn_r _ [21, 22, 23, 24, 25, 38, 39, 40, 41, 42, 43, 44, 45, 46, 47, 48, 49, 50, 51] (by decide +kernel) (by decide +kernel)
set_option maxRecDepth 20000 in
theorem gX9_cut_X8_addCut : GoodIn wsX9_cut (wsV RX9 158 RX8 yX8_addCut wsX8_addCut) := goodIn_app (goodIn_of _ (by decide +kernel)) ggX9_cut_X8_addCut
theorem dX9_cut_0 : decode cX9_cut 0 = .ok (.iload_n 1, 1) := by decide +kernel
theorem dX9_cut_1 : decode cX9_cut 1 = .ok (.iconst 1, 1) := by decide +kernel
theorem dX9_cut_2 : decode cX9_cut 2 = .ok (.if_icmp .lt 19, 3) := by decide +kernel
theorem dX9_cut_5 : decode cX9_cut 5 = .ok (.iload_n 1, 1) := by decide +kernel
theorem dX9_cut_6 : decode cX9_cut 6 = .ok (.bipush 6, 2) := by decide +kernel
theorem dX9_cut_8 : decode cX9_cut 8 = .ok (.if_icmp .gt 13, 3) := by decide +kernel
theorem dX9_cut_11 : decode cX9_cut 11 = .ok (.iload_n 3, 1) := by decide +kernel
theorem dX9_cut_12 : decode cX9_cut 12 = .ok (.ifCond .lt 9, 3) := by decide +kernel
theorem dX9_cut_15 : decode cX9_cut 15 = .ok (.iload_n 3, 1) := by decide +kernel
theorem dX9_cut_16 : decode cX9_cut 16 = .ok (.bipush 99, 2) := by decide +kernel
theorem dX9_cut_18 : decode cX9_cut 18 = .ok (.if_icmp .le 5, 3) := by decide +kernel
theorem dX9_cut_21 : decode cX9_cut 21 = .ok (.iconst (-1), 1) := by decide +kernel
theorem dX9_cut_22 : decode cX9_cut 22 = .ok (.ireturn, 1) := by decide +kernel
theorem dX9_cut_23 : decode cX9_cut 23 = .ok (.iload_n 1, 1) := by decide +kernel
theorem dX9_cut_24 : decode cX9_cut 24 = .ok (.iconst 1, 1) := by decide +kernel
theorem dX9_cut_25 : decode cX9_cut 25 = .ok (.if_icmp .eq 8, 3) := by decide +kernel
theorem dX9_cut_28 : decode cX9_cut 28 = .ok (.iload_n 1, 1) := by decide +kernel
theorem dX9_cut_29 : decode cX9_cut 29 = .ok (.iconst 4, 1) := by decide +kernel
theorem dX9_cut_30 : decode cX9_cut 30 = .ok (.if_icmp .ne 7, 3) := by decide +kernel
theorem dX9_cut_33 : decode cX9_cut 33 = .ok (.iconst 1, 1) := by decide +kernel
theorem dX9_cut_34 : decode cX9_cut 34 = .ok (.goto 4, 3) := by decide +kernel
theorem dX9_cut_37 : decode cX9_cut 37 = .ok (.iconst 0, 1) := by decide +kernel
theorem dX9_cut_38 : decode cX9_cut 38 = .ok (.istore 4, 2) := by decide +kernel
theorem dX9_cut_40 : decode cX9_cut 40 = .ok (.iload 4, 2) := by decide +kernel
theorem dX9_cut_42 : decode cX9_cut 42 = .ok (.ifCond .eq 17, 3) := by decide +kernel
theorem dX9_cut_45 : decode cX9_cut 45 = .ok (.aload_n 0, 1) := by decide +kernel
theorem dX9_cut_46 : decode cX9_cut 46 = .ok (.getfield 10, 3) := by decide +kernel
theorem dX9_cut_49 : decode cX9_cut 49 = .ok (.iload_n 2, 1) := by decide +kernel
theorem dX9_cut_50 : decode cX9_cut 50 = .ok (.invokevirtual 136, 3) := by decide +kernel
theorem dX9_cut_53 : decode cX9_cut 53 = .ok (.ifCond .ne 19, 3) := by decide +kernel
theorem dX9_cut_56 : decode cX9_cut 56 = .ok (.goto 14, 3) := by decide +kernel
theorem dX9_cut_59 : decode cX9_cut 59 = .ok (.aload_n 0, 1) := by decide +kernel
theorem dX9_cut_60 : decode cX9_cut 60 = .ok (.getfield 10, 3) := by decide +kernel
theorem dX9_cut_63 : decode cX9_cut 63 = .ok (.iload_n 2, 1) := by decide +kernel
theorem dX9_cut_64 : decode cX9_cut 64 = .ok (.invokevirtual 152, 3) := by decide +kernel
theorem dX9_cut_67 : decode cX9_cut 67 = .ok (.ifCond .ne 5, 3) := by decide +kernel
theorem dX9_cut_70 : decode cX9_cut 70 = .ok (.iconst (-1), 1) := by decide +kernel
theorem dX9_cut_71 : decode cX9_cut 71 = .ok (.ireturn, 1) := by decide +kernel
theorem dX9_cut_72 : decode cX9_cut 72 = .ok (.aload_n 0, 1) := by decide +kernel
theorem dX9_cut_73 : decode cX9_cut 73 = .ok (.getfield 10, 3) := by decide +kernel
theorem dX9_cut_76 : decode cX9_cut 76 = .ok (.getfield 155, 3) := by decide +kernel
theorem dX9_cut_79 : decode cX9_cut 79 = .ok (.bipush 8, 2) := by decide +kernel
theorem dX9_cut_81 : decode cX9_cut 81 = .ok (.if_icmp .lt 8, 3) := by decide +kernel
theorem dX9_cut_84 : decode cX9_cut 84 = .ok (.bipush (-2), 2) := by decide +kernel
theorem dX9_cut_86 : decode cX9_cut 86 = .ok (.goto 13, 3) := by decide +kernel
theorem dX9_cut_89 : decode cX9_cut 89 = .ok (.aload_n 0, 1) := by decide +kernel
theorem dX9_cut_90 : decode cX9_cut 90 = .ok (.getfield 10, 3) := by decide +kernel
theorem dX9_cut_93 : decode cX9_cut 93 = .ok (.iload_n 1, 1) := by decide +kernel
theorem dX9_cut_94 : decode cX9_cut 94 = .ok (.iload_n 2, 1) := by decide +kernel
theorem dX9_cut_95 : decode cX9_cut 95 = .ok (.iload_n 3, 1) := by decide +kernel
theorem dX9_cut_96 : decode cX9_cut 96 = .ok (.invokevirtual 158, 3) := by decide +kernel
theorem dX9_cut_99 : decode cX9_cut 99 = .ok (.ireturn, 1) := by decide +kernel
set_option maxRecDepth 20000 in
theorem ggX9_cutOf_X8_hasCut : GoodIn wsX9_cutOf wsX8_hasCut := goodIn_r _ [9, 10, 23, 24, 25, 26, 27, 28, 29, 30, 31, 32, 33, 34, 35, 36] (by decide +kernel) (by decide +kernel)
set_option maxRecDepth 20000 in
theorem gX9_cutOf_X8_hasCut : GoodIn wsX9_cutOf (wsV RX9 162 RX8 yX8_hasCut wsX8_hasCut) := goodIn_app (goodIn_of _ (by decide +kernel)) ggX9_cutOf_X8_hasCut
theorem dX9_cutOf_0 : decode cX9_cutOf 0 = .ok (.aload_n 0, 1) := by decide +kernel
theorem dX9_cutOf_1 : decode cX9_cutOf 1 = .ok (.getfield 10, 3) := by decide +kernel
theorem dX9_cutOf_4 : decode cX9_cutOf 4 = .ok (.iload_n 1, 1) := by decide +kernel
theorem dX9_cutOf_5 : decode cX9_cutOf 5 = .ok (.invokevirtual 162, 3) := by decide +kernel
theorem dX9_cutOf_8 : decode cX9_cutOf 8 = .ok (.ifCond .ne 5, 3) := by decide +kernel
theorem dX9_cutOf_11 : decode cX9_cutOf 11 = .ok (.iconst (-1), 1) := by decide +kernel
theorem dX9_cutOf_12 : decode cX9_cutOf 12 = .ok (.ireturn, 1) := by decide +kernel
theorem dX9_cutOf_13 : decode cX9_cutOf 13 = .ok (.iload_n 2, 1) := by decide +kernel
theorem dX9_cutOf_14 : decode cX9_cutOf 14 = .ok (.tableswitch 56 0 2 #[26, 36, 46], 26) := by decide +kernel
theorem dX9_cutOf_40 : decode cX9_cutOf 40 = .ok (.aload_n 0, 1) := by decide +kernel
theorem dX9_cutOf_41 : decode cX9_cutOf 41 = .ok (.getfield 10, 3) := by decide +kernel
theorem dX9_cutOf_44 : decode cX9_cutOf 44 = .ok (.getfield 165, 3) := by decide +kernel
theorem dX9_cutOf_47 : decode cX9_cutOf 47 = .ok (.iload_n 1, 1) := by decide +kernel
theorem dX9_cutOf_48 : decode cX9_cutOf 48 = .ok (.iaload, 1) := by decide +kernel
theorem dX9_cutOf_49 : decode cX9_cutOf 49 = .ok (.ireturn, 1) := by decide +kernel
theorem dX9_cutOf_50 : decode cX9_cutOf 50 = .ok (.aload_n 0, 1) := by decide +kernel
theorem dX9_cutOf_51 : decode cX9_cutOf 51 = .ok (.getfield 10, 3) := by decide +kernel
theorem dX9_cutOf_54 : decode cX9_cutOf 54 = .ok (.getfield 168, 3) := by decide +kernel
theorem dX9_cutOf_57 : decode cX9_cutOf 57 = .ok (.iload_n 1, 1) := by decide +kernel
theorem dX9_cutOf_58 : decode cX9_cutOf 58 = .ok (.iaload, 1) := by decide +kernel
theorem dX9_cutOf_59 : decode cX9_cutOf 59 = .ok (.ireturn, 1) := by decide +kernel
theorem dX9_cutOf_60 : decode cX9_cutOf 60 = .ok (.aload_n 0, 1) := by decide +kernel
theorem dX9_cutOf_61 : decode cX9_cutOf 61 = .ok (.getfield 10, 3) := by decide +kernel
theorem dX9_cutOf_64 : decode cX9_cutOf 64 = .ok (.getfield 171, 3) := by decide +kernel
theorem dX9_cutOf_67 : decode cX9_cutOf 67 = .ok (.iload_n 1, 1) := by decide +kernel
theorem dX9_cutOf_68 : decode cX9_cutOf 68 = .ok (.iaload, 1) := by decide +kernel
theorem dX9_cutOf_69 : decode cX9_cutOf 69 = .ok (.ireturn, 1) := by decide +kernel
theorem dX9_cutOf_70 : decode cX9_cutOf 70 = .ok (.iconst (-1), 1) := by decide +kernel
theorem dX9_cutOf_71 : decode cX9_cutOf 71 = .ok (.ireturn, 1) := by decide +kernel
theorem dX9_uncut_0 : decode cX9_uncut 0 = .ok (.aload_n 0, 1) := by decide +kernel
theorem dX9_uncut_1 : decode cX9_uncut 1 = .ok (.getfield 10, 3) := by decide +kernel
theorem dX9_uncut_4 : decode cX9_uncut 4 = .ok (.getfield 155, 3) := by decide +kernel
theorem dX9_uncut_7 : decode cX9_uncut 7 = .ok (.ifCond .ne 6, 3) := by decide +kernel
theorem dX9_uncut_10 : decode cX9_uncut 10 = .ok (.bipush (-3), 2) := by decide +kernel
theorem dX9_uncut_12 : decode cX9_uncut 12 = .ok (.ireturn, 1) := by decide +kernel
theorem dX9_uncut_13 : decode cX9_uncut 13 = .ok (.aload_n 0, 1) := by decide +kernel
theorem dX9_uncut_14 : decode cX9_uncut 14 = .ok (.getfield 10, 3) := by decide +kernel
theorem dX9_uncut_17 : decode cX9_uncut 17 = .ok (.dup, 1) := by decide +kernel
theorem dX9_uncut_18 : decode cX9_uncut 18 = .ok (.getfield 155, 3) := by decide +kernel
theorem dX9_uncut_21 : decode cX9_uncut 21 = .ok (.iconst 1, 1) := by decide +kernel
theorem dX9_uncut_22 : decode cX9_uncut 22 = .ok (.isub, 1) := by decide +kernel
theorem dX9_uncut_23 : decode cX9_uncut 23 = .ok (.putfield 155, 3) := by decide +kernel
theorem dX9_uncut_26 : decode cX9_uncut 26 = .ok (.aload_n 0, 1) := by decide +kernel
theorem dX9_uncut_27 : decode cX9_uncut 27 = .ok (.getfield 10, 3) := by decide +kernel
theorem dX9_uncut_30 : decode cX9_uncut 30 = .ok (.getfield 155, 3) := by decide +kernel
theorem dX9_uncut_33 : decode cX9_uncut 33 = .ok (.ireturn, 1) := by decide +kernel
set_option maxRecDepth 20000 in
theorem ggX9_open_X8_hasTie : GoodIn wsX9_open wsX8_hasTie := goodIn_r _ [6, 7, 46, 47, 48, 49, 50, 51, 52, 53, 54, 55, 56, 57, 58, 59] (by decide +kernel) (by decide +kernel)
set_option maxRecDepth 20000 in
theorem gX9_open_X8_hasTie : GoodIn wsX9_open (wsV RX9 136 RX8 yX8_hasTie wsX8_hasTie) := goodIn_app (goodIn_of _ (by decide +kernel)) ggX9_open_X8_hasTie
set_option maxRecDepth 20000 in
theorem ggX9_open_X8_isOpen : GoodIn wsX9_open wsX8_isOpen := goodIn_r _ [11, 12, 13, 14, 15, 5, 16, 17, 18, 19, 20, 21, 22, 23, 24, 25, 26, 27, 28, 29, 30, 31, 32, 33, 46, 47, 48, 49, 50, 51, 52, 53, 54, 55, 56, 57, 58, 59] (by decide +kernel) (by decide +kernel)
set_option maxRecDepth 20000 in
theorem gX9_open_X8_isOpen : GoodIn wsX9_open (wsV RX9 174 RX8 yX8_isOpen wsX8_isOpen) := goodIn_app (goodIn_of _ (by decide +kernel)) ggX9_open_X8_isOpen
theorem dX9_open_0 : decode cX9_open 0 = .ok (.aload_n 0, 1) := by decide +kernel
theorem dX9_open_1 : decode cX9_open 1 = .ok (.getfield 10, 3) := by decide +kernel
theorem dX9_open_4 : decode cX9_open 4 = .ok (.iload_n 1, 1) := by decide +kernel
theorem dX9_open_5 : decode cX9_open 5 = .ok (.invokevirtual 136, 3) := by decide +kernel
theorem dX9_open_8 : decode cX9_open 8 = .ok (.ifCond .eq 13, 3) := by decide +kernel
theorem dX9_open_11 : decode cX9_open 11 = .ok (.iload_n 2, 1) := by decide +kernel
theorem dX9_open_12 : decode cX9_open 12 = .ok (.ifCond .lt 9, 3) := by decide +kernel
theorem dX9_open_15 : decode cX9_open 15 = .ok (.iload_n 2, 1) := by decide +kernel
theorem dX9_open_16 : decode cX9_open 16 = .ok (.bipush 100, 2) := by decide +kernel
theorem dX9_open_18 : decode cX9_open 18 = .ok (.if_icmp .lt 5, 3) := by decide +kernel
theorem dX9_open_21 : decode cX9_open 21 = .ok (.iconst (-1), 1) := by decide +kernel
theorem dX9_open_22 : decode cX9_open 22 = .ok (.ireturn, 1) := by decide +kernel
theorem dX9_open_23 : decode cX9_open 23 = .ok (.aload_n 0, 1) := by decide +kernel
theorem dX9_open_24 : decode cX9_open 24 = .ok (.getfield 10, 3) := by decide +kernel
theorem dX9_open_27 : decode cX9_open 27 = .ok (.iload_n 1, 1) := by decide +kernel
theorem dX9_open_28 : decode cX9_open 28 = .ok (.iload_n 2, 1) := by decide +kernel
theorem dX9_open_29 : decode cX9_open 29 = .ok (.invokevirtual 174, 3) := by decide +kernel
theorem dX9_open_32 : decode cX9_open 32 = .ok (.ifCond .eq 7, 3) := by decide +kernel
theorem dX9_open_35 : decode cX9_open 35 = .ok (.iconst 1, 1) := by decide +kernel
theorem dX9_open_36 : decode cX9_open 36 = .ok (.goto 4, 3) := by decide +kernel
theorem dX9_open_39 : decode cX9_open 39 = .ok (.iconst 0, 1) := by decide +kernel
theorem dX9_open_40 : decode cX9_open 40 = .ok (.ireturn, 1) := by decide +kernel
set_option maxRecDepth 20000 in
theorem ggX9_joined_X8_hasPerson : GoodIn wsX9_joined wsX8_hasPerson := goodIn_r _ [7, 8, 79, 80, 81, 82, 83, 84, 85, 86, 87, 88, 89, 90, 91, 92] (by decide +kernel) (by decide +kernel)
set_option maxRecDepth 20000 in
theorem gX9_joined_X8_hasPerson : GoodIn wsX9_joined (wsV RX9 146 RX8 yX8_hasPerson wsX8_hasPerson) := goodIn_app (goodIn_of _ (by decide +kernel)) ggX9_joined_X8_hasPerson
set_option maxRecDepth 20000 in
theorem ggX9_joined_X9_layOpenTies : GoodIn wsX9_joined wsX9_layOpenTies := goodIn_r _ [13, 2, 1, 14, 15, 16, 6, 17, 18, 19, 20, 21, 22, 23, 24, 25, 26, 27, 28, 29, 30, 31, 32, 33, 34, 35, 36, 37, 38, 39, 40, 41, 42, 43, 44, 45, 46, 47, 48, 49, 50, 51, 52, 53, 54, 55, 56, 57, 67, 68, 69, 70, 71, 72, 73, 74, 75, 76, 77, 78, 79, 80, 81, 82, 83, 84, 85, 86, 87, 88, 89, 90, 91, 92, 93] (by decide +kernel) (by decide +kernel)
set_option maxRecDepth 20000 in
theorem gX9_joined_X9_layOpenTies : GoodIn wsX9_joined (wsV RX9 177 RX9 yX9_layOpenTies wsX9_layOpenTies) := goodIn_app (goodIn_of _ (by decide +kernel)) ggX9_joined_X9_layOpenTies
set_option maxRecDepth 20000 in
theorem ggX9_joined_X8_everybody : GoodIn wsX9_joined wsX8_everybody := goodIn_r _ [61, 8, 79, 80, 81, 82, 83, 84, 85, 86, 87, 88, 89, 90, 91, 92] (by decide +kernel) (by decide +kernel)
set_option maxRecDepth 20000 in
theorem gX9_joined_X8_everybody : GoodIn wsX9_joined (wsV RX9 180 RX8 yX8_everybody wsX8_everybody) := goodIn_app (goodIn_of _ (by decide +kernel)) ggX9_joined_X8_everybody
set_option maxRecDepth 20000 in
theorem ggX9_joined_X3_flood : GoodIn wsX9_joined wsX3_flood := goodIn_r _ [65, 50, 66, 39, 40, 41, 42, 43, 44, 93] (by decide +kernel) (by decide +kernel)
set_option maxRecDepth 20000 in
theorem gX9_joined_X3_flood : GoodIn wsX9_joined (wsV RX9 184 RX3 yX3_flood wsX3_flood) := goodIn_app (goodIn_of _ (by decide +kernel)) ggX9_joined_X3_flood
theorem dX9_joined_0 : decode cX9_joined 0 = .ok (.aload_n 0, 1) := by decide +kernel
theorem dX9_joined_1 : decode cX9_joined 1 = .ok (.getfield 10, 3) := by decide +kernel
theorem dX9_joined_4 : decode cX9_joined 4 = .ok (.iload_n 1, 1) := by decide +kernel
theorem dX9_joined_5 : decode cX9_joined 5 = .ok (.invokevirtual 146, 3) := by decide +kernel
theorem dX9_joined_8 : decode cX9_joined 8 = .ok (.ifCond .ne 5, 3) := by decide +kernel
theorem dX9_joined_11 : decode cX9_joined 11 = .ok (.iconst (-1), 1) := by decide +kernel
theorem dX9_joined_12 : decode cX9_joined 12 = .ok (.ireturn, 1) := by decide +kernel
theorem dX9_joined_13 : decode cX9_joined 13 = .ok (.aload_n 0, 1) := by decide +kernel
theorem dX9_joined_14 : decode cX9_joined 14 = .ok (.invokevirtual 177, 3) := by decide +kernel
theorem dX9_joined_17 : decode cX9_joined 17 = .ok (.aload_n 0, 1) := by decide +kernel
theorem dX9_joined_18 : decode cX9_joined 18 = .ok (.getfield 36, 3) := by decide +kernel
theorem dX9_joined_21 : decode cX9_joined 21 = .ok (.iconst 1, 1) := by decide +kernel
theorem dX9_joined_22 : decode cX9_joined 22 = .ok (.iload_n 1, 1) := by decide +kernel
theorem dX9_joined_23 : decode cX9_joined 23 = .ok (.ishl, 1) := by decide +kernel
theorem dX9_joined_24 : decode cX9_joined 24 = .ok (.aload_n 0, 1) := by decide +kernel
theorem dX9_joined_25 : decode cX9_joined 25 = .ok (.getfield 10, 3) := by decide +kernel
theorem dX9_joined_28 : decode cX9_joined 28 = .ok (.invokevirtual 180, 3) := by decide +kernel
theorem dX9_joined_31 : decode cX9_joined 31 = .ok (.invokevirtual 184, 3) := by decide +kernel
theorem dX9_joined_34 : decode cX9_joined 34 = .ok (.ireturn, 1) := by decide +kernel
set_option maxRecDepth 20000 in
theorem ggX9_sets_X9_isEither : GoodIn wsX9_sets wsX9_isEither := goodIn_r _ [6] (by decide +kernel) (by decide +kernel)
set_option maxRecDepth 20000 in
theorem gX9_sets_X9_isEither : GoodIn wsX9_sets (va_wsS RX9 187 yX9_isEither wsX9_isEither) := goodIn_app (goodIn_of _ (by decide +kernel)) ggX9_sets_X9_isEither
set_option maxRecDepth 20000 in
theorem ggX9_sets_X9_layOpenTies : GoodIn wsX9_sets wsX9_layOpenTies := goodIn_r _ [10, 1, 2, 11, 12, 13, 14, 15, 16, 17, 18, 19, 20, 21, 22, 23, 24, 25, 26, 27, 28, 29, 30, 31, 32, 33, 34, 35, 36, 37, 38, 39, 40, 41, 42, 43, 44, 45, 46, 47, 48, 49, 50, 51, 52, 53, 54, 55, 78, 79, 80, 81, 82, 83, 84, 85, 86, 87, 88, 89, 90, 91, 92, 93, 94, 95, 96, 97, 98, 99, 100, 101, 102, 103, 104] (by decide +kernel) (by decide +kernel)
set_option maxRecDepth 20000 in
theorem gX9_sets_X9_layOpenTies : GoodIn wsX9_sets (wsV RX9 177 RX9 yX9_layOpenTies wsX9_layOpenTies) := goodIn_app (goodIn_of _ (by decide +kernel)) ggX9_sets_X9_layOpenTies
set_option maxRecDepth 20000 in
theorem ggX9_sets_X8_everybody : GoodIn wsX9_sets wsX8_everybody := goodIn_r _ [59, 60, 90, 91, 92, 93, 94, 95, 96, 97, 98, 99, 100, 101, 102, 103] (by decide +kernel) (by decide +kernel)
set_option maxRecDepth 20000 in
theorem gX9_sets_X8_everybody : GoodIn wsX9_sets (wsV RX9 180 RX8 yX8_everybody wsX8_everybody) := goodIn_app (goodIn_of _ (by decide +kernel)) ggX9_sets_X8_everybody
set_option maxRecDepth 20000 in
theorem ggX9_sets_X3_howManySets : GoodIn wsX9_sets wsX3_howManySets := goodIn_r _ [64, 65, 66, 67, 46, 68, 48, 69, 37, 38, 39, 40, 41, 42, 104] (by decide +kernel) (by decide +kernel)
set_option maxRecDepth 20000 in
theorem gX9_sets_X3_howManySets : GoodIn wsX9_sets (wsV RX9 190 RX3 yX3_howManySets wsX3_howManySets) := goodIn_app (goodIn_of _ (by decide +kernel)) ggX9_sets_X3_howManySets
set_option maxRecDepth 20000 in
theorem ggX9_sets_X3_greatestSet : GoodIn wsX9_sets wsX3_greatestSet := goodIn_r _ [73, 74, 75, 76, 77, 65, 66, 67, 46, 68, 48, 69, 37, 38, 39, 40, 41, 42, 104] (by decide +kernel) (by decide +kernel)
set_option maxRecDepth 20000 in
theorem gX9_sets_X3_greatestSet : GoodIn wsX9_sets (wsV RX9 194 RX3 yX3_greatestSet wsX3_greatestSet) := goodIn_app (goodIn_of _ (by decide +kernel)) ggX9_sets_X3_greatestSet
theorem dX9_sets_0 : decode cX9_sets 0 = .ok (.iload_n 1, 1) := by decide +kernel
theorem dX9_sets_1 : decode cX9_sets 1 = .ok (.invokestatic 187, 3) := by decide +kernel
theorem dX9_sets_4 : decode cX9_sets 4 = .ok (.ifCond .ne 5, 3) := by decide +kernel
theorem dX9_sets_7 : decode cX9_sets 7 = .ok (.iconst (-1), 1) := by decide +kernel
theorem dX9_sets_8 : decode cX9_sets 8 = .ok (.ireturn, 1) := by decide +kernel
theorem dX9_sets_9 : decode cX9_sets 9 = .ok (.aload_n 0, 1) := by decide +kernel
theorem dX9_sets_10 : decode cX9_sets 10 = .ok (.invokevirtual 177, 3) := by decide +kernel
theorem dX9_sets_13 : decode cX9_sets 13 = .ok (.iload_n 1, 1) := by decide +kernel
theorem dX9_sets_14 : decode cX9_sets 14 = .ok (.ifCond .ne 20, 3) := by decide +kernel
theorem dX9_sets_17 : decode cX9_sets 17 = .ok (.aload_n 0, 1) := by decide +kernel
theorem dX9_sets_18 : decode cX9_sets 18 = .ok (.getfield 36, 3) := by decide +kernel
theorem dX9_sets_21 : decode cX9_sets 21 = .ok (.aload_n 0, 1) := by decide +kernel
theorem dX9_sets_22 : decode cX9_sets 22 = .ok (.getfield 10, 3) := by decide +kernel
theorem dX9_sets_25 : decode cX9_sets 25 = .ok (.invokevirtual 180, 3) := by decide +kernel
theorem dX9_sets_28 : decode cX9_sets 28 = .ok (.invokevirtual 190, 3) := by decide +kernel
theorem dX9_sets_31 : decode cX9_sets 31 = .ok (.goto 17, 3) := by decide +kernel
theorem dX9_sets_34 : decode cX9_sets 34 = .ok (.aload_n 0, 1) := by decide +kernel
theorem dX9_sets_35 : decode cX9_sets 35 = .ok (.getfield 36, 3) := by decide +kernel
theorem dX9_sets_38 : decode cX9_sets 38 = .ok (.aload_n 0, 1) := by decide +kernel
theorem dX9_sets_39 : decode cX9_sets 39 = .ok (.getfield 10, 3) := by decide +kernel
theorem dX9_sets_42 : decode cX9_sets 42 = .ok (.invokevirtual 180, 3) := by decide +kernel
theorem dX9_sets_45 : decode cX9_sets 45 = .ok (.invokevirtual 194, 3) := by decide +kernel
theorem dX9_sets_48 : decode cX9_sets 48 = .ok (.ireturn, 1) := by decide +kernel
set_option maxRecDepth 20000 in
theorem ggX9_chance_X8_hasPerson : GoodIn wsX9_chance wsX8_hasPerson := goodIn_r _ [8, 9, 122, 123, 124, 125, 126, 127, 128, 129, 130, 131, 132, 133, 134, 135] (by decide +kernel) (by decide +kernel)
set_option maxRecDepth 20000 in
theorem gX9_chance_X8_hasPerson : GoodIn wsX9_chance (wsV RX9 146 RX8 yX8_hasPerson wsX8_hasPerson) := goodIn_app (goodIn_of _ (by decide +kernel)) ggX9_chance_X8_hasPerson
set_option maxRecDepth 20000 in
theorem ggX9_chance_X9_isEither : GoodIn wsX9_chance wsX9_isEither := goodIn_r _ [13] (by decide +kernel) (by decide +kernel)
set_option maxRecDepth 20000 in
theorem gX9_chance_X9_isEither : GoodIn wsX9_chance (va_wsS RX9 187 yX9_isEither wsX9_isEither) := goodIn_app (goodIn_of _ (by decide +kernel)) ggX9_chance_X9_isEither
set_option maxRecDepth 20000 in
theorem ggX9_chance_X9_taleRefusal : GoodIn wsX9_chance wsX9_taleRefusal := goodIn_r _ [17, 1, 18, 19, 20, 7, 21, 9, 22, 23, 24, 25, 26, 27, 28, 29, 30, 31, 32, 33, 34, 35, 36, 37, 38, 39, 40, 41, 42, 43, 44, 45, 46, 47, 48, 49, 50, 51, 52, 53, 54, 55, 56, 57, 58, 59, 110, 111, 112, 113, 114, 115, 116, 117, 118, 119, 120, 121, 122, 123, 124, 125, 126, 127, 128, 129, 130, 131, 132, 133, 134, 135] (by decide +kernel) (by decide +kernel)
set_option maxRecDepth 20000 in
theorem gX9_chance_X9_taleRefusal : GoodIn wsX9_chance (wsV RX9 197 RX9 yX9_taleRefusal wsX9_taleRefusal) := goodIn_app (goodIn_of _ (by decide +kernel)) ggX9_chance_X9_taleRefusal
set_option maxRecDepth 20000 in
theorem ggX9_chance_X6_gather : GoodIn wsX9_chance wsX6_gather := goodIn_r _ [64, 65, 66, 67, 68, 69, 28, 29, 7, 30, 31, 32, 33, 34, 35, 36, 37, 38, 39, 40, 41, 42, 43, 44, 45, 46, 47, 48, 49, 50, 51, 52, 53, 54, 55, 56, 57, 58, 70, 71, 72, 73, 136, 137, 138, 122, 123, 124, 125, 126, 127, 128, 129, 130, 131, 132, 133, 134, 135] (by decide +kernel) (by decide +kernel)
set_option maxRecDepth 20000 in
theorem gX9_chance_X6_gather : GoodIn wsX9_chance (wsV RX9 200 RX6 yX6_gather wsX6_gather) := goodIn_app (goodIn_of _ (by decide +kernel)) ggX9_chance_X6_gather
set_option maxRecDepth 20000 in
theorem ggX9_chance_X6_oddsToKnow : GoodIn wsX9_chance wsX6_oddsToKnow := goodIn_r _ [77, 66, 78, 79, 80, 63, 81, 65, 68, 82, 83, 84, 85, 86, 87, 88, 89, 90, 91, 92, 93, 94, 95, 96, 19, 20, 7, 21, 9, 97, 98, 99, 100, 101, 53, 54, 55, 56, 57, 58, 102, 23, 24, 25, 26, 136, 137, 138, 122, 123, 124, 125, 126, 127, 128, 129, 130, 131, 132, 133, 134, 135, 139] (by decide +kernel) (by decide +kernel)
set_option maxRecDepth 20000 in
theorem gX9_chance_X6_oddsToKnow : GoodIn wsX9_chance (wsV RX9 203 RX6 yX6_oddsToKnow wsX6_oddsToKnow) := goodIn_app (goodIn_of _ (by decide +kernel)) ggX9_chance_X6_oddsToKnow
set_option maxRecDepth 20000 in
theorem ggX9_chance_X6_allOdds : GoodIn wsX9_chance wsX6_allOdds := goodIn_r _ [106, 66, 96, 19, 20, 7, 21, 9, 102, 23, 24, 25, 26, 136, 137, 138, 122, 123, 124, 125, 126, 127, 128, 129, 130, 131, 132, 133, 134, 135] (by decide +kernel) (by decide +kernel)
set_option maxRecDepth 20000 in
theorem gX9_chance_X6_allOdds : GoodIn wsX9_chance (wsV RX9 207 RX6 yX6_allOdds wsX6_allOdds) := goodIn_app (goodIn_of _ (by decide +kernel)) ggX9_chance_X6_allOdds
set_option maxRecDepth 20000 in
theorem ggX9_chance_X9_partOf : GoodIn wsX9_chance wsX9_partOf := goodIn_r _ [109] (by decide +kernel) (by decide +kernel)
set_option maxRecDepth 20000 in
theorem gX9_chance_X9_partOf : GoodIn wsX9_chance (va_wsS RX9 211 yX9_partOf wsX9_partOf) := goodIn_app (goodIn_of _ (by decide +kernel)) ggX9_chance_X9_partOf
theorem dX9_chance_0 : decode cX9_chance 0 = .ok (.aload_n 0, 1) := by decide +kernel
theorem dX9_chance_1 : decode cX9_chance 1 = .ok (.getfield 10, 3) := by decide +kernel
theorem dX9_chance_4 : decode cX9_chance 4 = .ok (.iload_n 1, 1) := by decide +kernel
theorem dX9_chance_5 : decode cX9_chance 5 = .ok (.invokevirtual 146, 3) := by decide +kernel
theorem dX9_chance_8 : decode cX9_chance 8 = .ok (.ifCond .eq 10, 3) := by decide +kernel
theorem dX9_chance_11 : decode cX9_chance 11 = .ok (.iload_n 2, 1) := by decide +kernel
theorem dX9_chance_12 : decode cX9_chance 12 = .ok (.invokestatic 187, 3) := by decide +kernel
theorem dX9_chance_15 : decode cX9_chance 15 = .ok (.ifCond .ne 5, 3) := by decide +kernel
theorem dX9_chance_18 : decode cX9_chance 18 = .ok (.iconst (-1), 1) := by decide +kernel
theorem dX9_chance_19 : decode cX9_chance 19 = .ok (.ireturn, 1) := by decide +kernel
theorem dX9_chance_20 : decode cX9_chance 20 = .ok (.aload_n 0, 1) := by decide +kernel
theorem dX9_chance_21 : decode cX9_chance 21 = .ok (.invokevirtual 197, 3) := by decide +kernel
theorem dX9_chance_24 : decode cX9_chance 24 = .ok (.istore_n 3, 1) := by decide +kernel
theorem dX9_chance_25 : decode cX9_chance 25 = .ok (.iload_n 3, 1) := by decide +kernel
theorem dX9_chance_26 : decode cX9_chance 26 = .ok (.ifCond .eq 5, 3) := by decide +kernel
theorem dX9_chance_29 : decode cX9_chance 29 = .ok (.iload_n 3, 1) := by decide +kernel
theorem dX9_chance_30 : decode cX9_chance 30 = .ok (.ireturn, 1) := by decide +kernel
theorem dX9_chance_31 : decode cX9_chance 31 = .ok (.aload_n 0, 1) := by decide +kernel
theorem dX9_chance_32 : decode cX9_chance 32 = .ok (.getfield 43, 3) := by decide +kernel
theorem dX9_chance_35 : decode cX9_chance 35 = .ok (.aload_n 0, 1) := by decide +kernel
theorem dX9_chance_36 : decode cX9_chance 36 = .ok (.getfield 10, 3) := by decide +kernel
theorem dX9_chance_39 : decode cX9_chance 39 = .ok (.invokevirtual 200, 3) := by decide +kernel
theorem dX9_chance_42 : decode cX9_chance 42 = .ok (.aload_n 0, 1) := by decide +kernel
theorem dX9_chance_43 : decode cX9_chance 43 = .ok (.getfield 43, 3) := by decide +kernel
theorem dX9_chance_46 : decode cX9_chance 46 = .ok (.aload_n 0, 1) := by decide +kernel
theorem dX9_chance_47 : decode cX9_chance 47 = .ok (.getfield 10, 3) := by decide +kernel
theorem dX9_chance_50 : decode cX9_chance 50 = .ok (.aload_n 0, 1) := by decide +kernel
theorem dX9_chance_51 : decode cX9_chance 51 = .ok (.getfield 36, 3) := by decide +kernel
theorem dX9_chance_54 : decode cX9_chance 54 = .ok (.iload_n 1, 1) := by decide +kernel
theorem dX9_chance_55 : decode cX9_chance 55 = .ok (.invokevirtual 203, 3) := by decide +kernel
theorem dX9_chance_58 : decode cX9_chance 58 = .ok (.aload_n 0, 1) := by decide +kernel
theorem dX9_chance_59 : decode cX9_chance 59 = .ok (.getfield 43, 3) := by decide +kernel
theorem dX9_chance_62 : decode cX9_chance 62 = .ok (.aload_n 0, 1) := by decide +kernel
theorem dX9_chance_63 : decode cX9_chance 63 = .ok (.getfield 10, 3) := by decide +kernel
theorem dX9_chance_66 : decode cX9_chance 66 = .ok (.invokevirtual 207, 3) := by decide +kernel
theorem dX9_chance_69 : decode cX9_chance 69 = .ok (.iload_n 2, 1) := by decide +kernel
theorem dX9_chance_70 : decode cX9_chance 70 = .ok (.invokestatic 211, 3) := by decide +kernel
theorem dX9_chance_73 : decode cX9_chance 73 = .ok (.l2i, 1) := by decide +kernel
theorem dX9_chance_74 : decode cX9_chance 74 = .ok (.ireturn, 1) := by decide +kernel
set_option maxRecDepth 20000 in
theorem ggX9_reach_X9_isEither : GoodIn wsX9_reach wsX9_isEither := goodIn_r _ [8] (by decide +kernel) (by decide +kernel)
set_option maxRecDepth 20000 in
theorem gX9_reach_X9_isEither : GoodIn wsX9_reach (va_wsS RX9 187 yX9_isEither wsX9_isEither) := goodIn_app (goodIn_of _ (by decide +kernel)) ggX9_reach_X9_isEither
set_option maxRecDepth 20000 in
theorem ggX9_reach_X9_taleRefusal : GoodIn wsX9_reach wsX9_taleRefusal := goodIn_r _ [12, 3, 13, 14, 15, 16, 17, 18, 19, 20, 21, 22, 23, 24, 25, 26, 27, 28, 29, 30, 31, 32, 33, 34, 35, 36, 37, 38, 39, 40, 41, 42, 43, 44, 45, 46, 47, 48, 49, 50, 51, 52, 53, 54, 55, 56, 108, 109, 110, 111, 112, 113, 114, 115, 116, 117, 118, 119, 120, 121, 122, 123, 124, 125, 126, 127, 128, 129, 130, 131, 132, 133] (by decide +kernel) (by decide +kernel)
set_option maxRecDepth 20000 in
theorem gX9_reach_X9_taleRefusal : GoodIn wsX9_reach (wsV RX9 197 RX9 yX9_taleRefusal wsX9_taleRefusal) := goodIn_app (goodIn_of _ (by decide +kernel)) ggX9_reach_X9_taleRefusal
set_option maxRecDepth 20000 in
theorem ggX9_reach_X6_gather : GoodIn wsX9_reach wsX6_gather := goodIn_r _ [61, 62, 63, 64, 65, 66, 25, 26, 16, 27, 28, 29, 30, 31, 32, 33, 34, 35, 36, 37, 38, 39, 40, 41, 42, 43, 44, 45, 46, 47, 48, 49, 50, 51, 52, 53, 54, 55, 67, 68, 69, 70, 134, 135, 136, 120, 121, 122, 123, 124, 125, 126, 127, 128, 129, 130, 131, 132, 133] (by decide +kernel) (by decide +kernel)
set_option maxRecDepth 20000 in
theorem gX9_reach_X6_gather : GoodIn wsX9_reach (wsV RX9 200 RX6 yX6_gather wsX6_gather) := goodIn_app (goodIn_of _ (by decide +kernel)) ggX9_reach_X6_gather
set_option maxRecDepth 20000 in
theorem ggX9_reach_X6_meanKnowing : GoodIn wsX9_reach wsX6_meanKnowing := goodIn_r _ [74, 63, 75, 76, 77, 60, 78, 62, 65, 79, 80, 81, 82, 83, 84, 85, 86, 87, 88, 89, 90, 91, 92, 93, 14, 15, 16, 17, 18, 94, 95, 96, 97, 98, 50, 51, 52, 53, 54, 55, 99, 20, 21, 22, 23, 100, 134, 135, 136, 120, 121, 122, 123, 124, 125, 126, 127, 128, 129, 130, 131, 132, 133, 137] (by decide +kernel) (by decide +kernel)
set_option maxRecDepth 20000 in
theorem gX9_reach_X6_meanKnowing : GoodIn wsX9_reach (wsV RX9 217 RX6 yX6_meanKnowing wsX6_meanKnowing) := goodIn_app (goodIn_of _ (by decide +kernel)) ggX9_reach_X6_meanKnowing
set_option maxRecDepth 20000 in
theorem ggX9_reach_X6_allOdds : GoodIn wsX9_reach wsX6_allOdds := goodIn_r _ [104, 63, 93, 14, 15, 16, 17, 18, 99, 20, 21, 22, 23, 134, 135, 136, 120, 121, 122, 123, 124, 125, 126, 127, 128, 129, 130, 131, 132, 133] (by decide +kernel) (by decide +kernel)
set_option maxRecDepth 20000 in
theorem gX9_reach_X6_allOdds : GoodIn wsX9_reach (wsV RX9 207 RX6 yX6_allOdds wsX6_allOdds) := goodIn_app (goodIn_of _ (by decide +kernel)) ggX9_reach_X6_allOdds
set_option maxRecDepth 20000 in
theorem ggX9_reach_X9_partOf : GoodIn wsX9_reach wsX9_partOf := goodIn_r _ [107] (by decide +kernel) (by decide +kernel)
set_option maxRecDepth 20000 in
theorem gX9_reach_X9_partOf : GoodIn wsX9_reach (va_wsS RX9 211 yX9_partOf wsX9_partOf) := goodIn_app (goodIn_of _ (by decide +kernel)) ggX9_reach_X9_partOf
theorem dX9_reach_0 : decode cX9_reach 0 = .ok (.iload_n 1, 1) := by decide +kernel
theorem dX9_reach_1 : decode cX9_reach 1 = .ok (.invokestatic 187, 3) := by decide +kernel
theorem dX9_reach_4 : decode cX9_reach 4 = .ok (.ifCond .ne 7, 3) := by decide +kernel
theorem dX9_reach_7 : decode cX9_reach 7 = .ok (.ldc2_w 215, 3) := by decide +kernel
theorem dX9_reach_10 : decode cX9_reach 10 = .ok (.lreturn, 1) := by decide +kernel
theorem dX9_reach_11 : decode cX9_reach 11 = .ok (.aload_n 0, 1) := by decide +kernel
theorem dX9_reach_12 : decode cX9_reach 12 = .ok (.invokevirtual 197, 3) := by decide +kernel
theorem dX9_reach_15 : decode cX9_reach 15 = .ok (.istore_n 2, 1) := by decide +kernel
theorem dX9_reach_16 : decode cX9_reach 16 = .ok (.iload_n 2, 1) := by decide +kernel
theorem dX9_reach_17 : decode cX9_reach 17 = .ok (.ifCond .eq 6, 3) := by decide +kernel
theorem dX9_reach_20 : decode cX9_reach 20 = .ok (.iload_n 2, 1) := by decide +kernel
theorem dX9_reach_21 : decode cX9_reach 21 = .ok (.i2l, 1) := by decide +kernel
theorem dX9_reach_22 : decode cX9_reach 22 = .ok (.lreturn, 1) := by decide +kernel
theorem dX9_reach_23 : decode cX9_reach 23 = .ok (.aload_n 0, 1) := by decide +kernel
theorem dX9_reach_24 : decode cX9_reach 24 = .ok (.getfield 43, 3) := by decide +kernel
theorem dX9_reach_27 : decode cX9_reach 27 = .ok (.aload_n 0, 1) := by decide +kernel
theorem dX9_reach_28 : decode cX9_reach 28 = .ok (.getfield 10, 3) := by decide +kernel
theorem dX9_reach_31 : decode cX9_reach 31 = .ok (.invokevirtual 200, 3) := by decide +kernel
theorem dX9_reach_34 : decode cX9_reach 34 = .ok (.aload_n 0, 1) := by decide +kernel
theorem dX9_reach_35 : decode cX9_reach 35 = .ok (.getfield 43, 3) := by decide +kernel
theorem dX9_reach_38 : decode cX9_reach 38 = .ok (.aload_n 0, 1) := by decide +kernel
theorem dX9_reach_39 : decode cX9_reach 39 = .ok (.getfield 10, 3) := by decide +kernel
theorem dX9_reach_42 : decode cX9_reach 42 = .ok (.aload_n 0, 1) := by decide +kernel
theorem dX9_reach_43 : decode cX9_reach 43 = .ok (.getfield 36, 3) := by decide +kernel
theorem dX9_reach_46 : decode cX9_reach 46 = .ok (.invokevirtual 217, 3) := by decide +kernel
theorem dX9_reach_49 : decode cX9_reach 49 = .ok (.aload_n 0, 1) := by decide +kernel
theorem dX9_reach_50 : decode cX9_reach 50 = .ok (.getfield 43, 3) := by decide +kernel
theorem dX9_reach_53 : decode cX9_reach 53 = .ok (.aload_n 0, 1) := by decide +kernel
theorem dX9_reach_54 : decode cX9_reach 54 = .ok (.getfield 10, 3) := by decide +kernel
theorem dX9_reach_57 : decode cX9_reach 57 = .ok (.invokevirtual 207, 3) := by decide +kernel
theorem dX9_reach_60 : decode cX9_reach 60 = .ok (.iload_n 1, 1) := by decide +kernel
theorem dX9_reach_61 : decode cX9_reach 61 = .ok (.invokestatic 211, 3) := by decide +kernel
theorem dX9_reach_64 : decode cX9_reach 64 = .ok (.lreturn, 1) := by decide +kernel
set_option maxRecDepth 20000 in
theorem ggX9_seen_X8_hasPerson : GoodIn wsX9_seen wsX8_hasPerson := goodIn_r _ [7, 8, 21, 22, 23, 24, 25, 26, 27, 28, 29, 30, 31, 32, 33, 34] (by decide +kernel) (by decide +kernel)
set_option maxRecDepth 20000 in
theorem gX9_seen_X8_hasPerson : GoodIn wsX9_seen (wsV RX9 146 RX8 yX8_hasPerson wsX8_hasPerson) := goodIn_app (goodIn_of _ (by decide +kernel)) ggX9_seen_X8_hasPerson
theorem dX9_seen_0 : decode cX9_seen 0 = .ok (.aload_n 0, 1) := by decide +kernel
theorem dX9_seen_1 : decode cX9_seen 1 = .ok (.getfield 10, 3) := by decide +kernel
theorem dX9_seen_4 : decode cX9_seen 4 = .ok (.iload_n 1, 1) := by decide +kernel
theorem dX9_seen_5 : decode cX9_seen 5 = .ok (.invokevirtual 146, 3) := by decide +kernel
theorem dX9_seen_8 : decode cX9_seen 8 = .ok (.ifCond .eq 13, 3) := by decide +kernel
theorem dX9_seen_11 : decode cX9_seen 11 = .ok (.iload_n 2, 1) := by decide +kernel
theorem dX9_seen_12 : decode cX9_seen 12 = .ok (.iconst (-1), 1) := by decide +kernel
theorem dX9_seen_13 : decode cX9_seen 13 = .ok (.if_icmp .lt 8, 3) := by decide +kernel
theorem dX9_seen_16 : decode cX9_seen 16 = .ok (.iload_n 2, 1) := by decide +kernel
theorem dX9_seen_17 : decode cX9_seen 17 = .ok (.iconst 1, 1) := by decide +kernel
theorem dX9_seen_18 : decode cX9_seen 18 = .ok (.if_icmp .le 5, 3) := by decide +kernel
theorem dX9_seen_21 : decode cX9_seen 21 = .ok (.iconst (-1), 1) := by decide +kernel
theorem dX9_seen_22 : decode cX9_seen 22 = .ok (.ireturn, 1) := by decide +kernel
theorem dX9_seen_23 : decode cX9_seen 23 = .ok (.aload_n 0, 1) := by decide +kernel
theorem dX9_seen_24 : decode cX9_seen 24 = .ok (.getfield 10, 3) := by decide +kernel
theorem dX9_seen_27 : decode cX9_seen 27 = .ok (.getfield 221, 3) := by decide +kernel
theorem dX9_seen_30 : decode cX9_seen 30 = .ok (.iload_n 1, 1) := by decide +kernel
theorem dX9_seen_31 : decode cX9_seen 31 = .ok (.iaload, 1) := by decide +kernel
theorem dX9_seen_32 : decode cX9_seen 32 = .ok (.istore_n 3, 1) := by decide +kernel
theorem dX9_seen_33 : decode cX9_seen 33 = .ok (.aload_n 0, 1) := by decide +kernel
theorem dX9_seen_34 : decode cX9_seen 34 = .ok (.getfield 10, 3) := by decide +kernel
theorem dX9_seen_37 : decode cX9_seen 37 = .ok (.getfield 221, 3) := by decide +kernel
theorem dX9_seen_40 : decode cX9_seen 40 = .ok (.iload_n 1, 1) := by decide +kernel
theorem dX9_seen_41 : decode cX9_seen 41 = .ok (.iload_n 2, 1) := by decide +kernel
theorem dX9_seen_42 : decode cX9_seen 42 = .ok (.iastore, 1) := by decide +kernel
theorem dX9_seen_43 : decode cX9_seen 43 = .ok (.iload_n 3, 1) := by decide +kernel
theorem dX9_seen_44 : decode cX9_seen 44 = .ok (.ifCond .ge 8, 3) := by decide +kernel
theorem dX9_seen_47 : decode cX9_seen 47 = .ok (.bipush (-9), 2) := by decide +kernel
theorem dX9_seen_49 : decode cX9_seen 49 = .ok (.goto 4, 3) := by decide +kernel
theorem dX9_seen_52 : decode cX9_seen 52 = .ok (.iload_n 3, 1) := by decide +kernel
theorem dX9_seen_53 : decode cX9_seen 53 = .ok (.ireturn, 1) := by decide +kernel
set_option maxRecDepth 20000 in
theorem ggX9_who_X8_hasPerson : GoodIn wsX9_who wsX8_hasPerson := goodIn_r _ [8, 9, 118, 119, 120, 121, 122, 123, 124, 125, 126, 127, 128, 129, 130, 131] (by decide +kernel) (by decide +kernel)
set_option maxRecDepth 20000 in
theorem gX9_who_X8_hasPerson : GoodIn wsX9_who (wsV RX9 146 RX8 yX8_hasPerson wsX8_hasPerson) := goodIn_app (goodIn_of _ (by decide +kernel)) ggX9_who_X8_hasPerson
set_option maxRecDepth 20000 in
theorem ggX9_who_X9_isEither : GoodIn wsX9_who wsX9_isEither := goodIn_r _ [13] (by decide +kernel) (by decide +kernel)
set_option maxRecDepth 20000 in
theorem gX9_who_X9_isEither : GoodIn wsX9_who (va_wsS RX9 187 yX9_isEither wsX9_isEither) := goodIn_app (goodIn_of _ (by decide +kernel)) ggX9_who_X9_isEither
set_option maxRecDepth 20000 in
theorem ggX9_who_X8_unsureTies : GoodIn wsX9_who wsX8_unsureTies := goodIn_r _ [17, 18, 19, 20, 21, 22, 7, 23, 24, 25, 26, 27, 28, 29, 30, 31, 32, 33, 34, 35, 36, 37, 38, 39, 40, 41, 42, 43, 44, 45, 118, 119, 120, 121, 122, 123, 124, 125, 126, 127, 128, 129, 130, 131] (by decide +kernel) (by decide +kernel)
set_option maxRecDepth 20000 in
theorem gX9_who_X8_unsureTies : GoodIn wsX9_who (wsV RX9 224 RX8 yX8_unsureTies wsX8_unsureTies) := goodIn_app (goodIn_of _ (by decide +kernel)) ggX9_who_X8_unsureTies
set_option maxRecDepth 20000 in
theorem ggX9_who_J6_bitCount_0f7a4 : GoodIn wsX9_who wsJ6_bitCount_0f7a4 := goodIn_r _ [42, 43, 44, 45] (by decide +kernel) (by decide +kernel)
set_option maxRecDepth 20000 in
theorem gX9_who_J6_bitCount_0f7a4 : GoodIn wsX9_who (va_wsS RX9 227 yJ6_bitCount_0f7a4 wsJ6_bitCount_0f7a4) := goodIn_app (goodIn_of _ (by decide +kernel)) ggX9_who_J6_bitCount_0f7a4
set_option maxRecDepth 20000 in
theorem ggX9_who_X6_gather : GoodIn wsX9_who wsX6_gather := goodIn_r _ [51, 52, 53, 54, 55, 56, 15, 16, 7, 17, 18, 19, 20, 21, 22, 23, 24, 25, 26, 27, 28, 29, 30, 31, 32, 33, 34, 35, 36, 37, 38, 39, 40, 41, 42, 43, 44, 45, 57, 58, 59, 60, 132, 133, 134, 118, 119, 120, 121, 122, 123, 124, 125, 126, 127, 128, 129, 130, 131] (by decide +kernel) (by decide +kernel)
set_option maxRecDepth 20000 in
theorem gX9_who_X6_gather : GoodIn wsX9_who (wsV RX9 200 RX6 yX6_gather wsX6_gather) := goodIn_app (goodIn_of _ (by decide +kernel)) ggX9_who_X6_gather
set_option maxRecDepth 20000 in
theorem ggX9_who_X8_everybody : GoodIn wsX9_who wsX8_everybody := goodIn_r _ [64, 9, 118, 119, 120, 121, 122, 123, 124, 125, 126, 127, 128, 129, 130, 131] (by decide +kernel) (by decide +kernel)
set_option maxRecDepth 20000 in
theorem gX9_who_X8_everybody : GoodIn wsX9_who (wsV RX9 180 RX8 yX8_everybody wsX8_everybody) := goodIn_app (goodIn_of _ (by decide +kernel)) ggX9_who_X8_everybody
set_option maxRecDepth 20000 in
theorem ggX9_who_X6_oddsShown : GoodIn wsX9_who wsX6_oddsShown := goodIn_r _ [68, 53, 69, 70, 71, 50, 72, 52, 55, 73, 74, 75, 76, 77, 78, 79, 80, 81, 82, 83, 84, 85, 86, 87, 62, 63, 7, 64, 9, 88, 89, 90, 91, 92, 40, 41, 42, 43, 44, 45, 93, 94, 95, 96, 97, 98, 99, 100, 101, 102, 132, 133, 134, 118, 119, 120, 121, 122, 123, 124, 125, 126, 127, 128, 129, 130, 131, 135] (by decide +kernel) (by decide +kernel)
set_option maxRecDepth 20000 in
theorem gX9_who_X6_oddsShown : GoodIn wsX9_who (wsV RX9 232 RX6 yX6_oddsShown wsX6_oddsShown) := goodIn_app (goodIn_of _ (by decide +kernel)) ggX9_who_X6_oddsShown
set_option maxRecDepth 20000 in
theorem ggX9_who_X9_partOf : GoodIn wsX9_who wsX9_partOf := goodIn_r _ [105] (by decide +kernel) (by decide +kernel)
set_option maxRecDepth 20000 in
theorem gX9_who_X9_partOf : GoodIn wsX9_who (va_wsS RX9 211 yX9_partOf wsX9_partOf) := goodIn_app (goodIn_of _ (by decide +kernel)) ggX9_who_X9_partOf
theorem dX9_who_0 : decode cX9_who 0 = .ok (.aload_n 0, 1) := by decide +kernel
theorem dX9_who_1 : decode cX9_who 1 = .ok (.getfield 10, 3) := by decide +kernel
theorem dX9_who_4 : decode cX9_who 4 = .ok (.iload_n 1, 1) := by decide +kernel
theorem dX9_who_5 : decode cX9_who 5 = .ok (.invokevirtual 146, 3) := by decide +kernel
theorem dX9_who_8 : decode cX9_who 8 = .ok (.ifCond .eq 10, 3) := by decide +kernel
theorem dX9_who_11 : decode cX9_who 11 = .ok (.iload_n 2, 1) := by decide +kernel
theorem dX9_who_12 : decode cX9_who 12 = .ok (.invokestatic 187, 3) := by decide +kernel
theorem dX9_who_15 : decode cX9_who 15 = .ok (.ifCond .ne 5, 3) := by decide +kernel
theorem dX9_who_18 : decode cX9_who 18 = .ok (.iconst (-1), 1) := by decide +kernel
theorem dX9_who_19 : decode cX9_who 19 = .ok (.ireturn, 1) := by decide +kernel
theorem dX9_who_20 : decode cX9_who 20 = .ok (.aload_n 0, 1) := by decide +kernel
theorem dX9_who_21 : decode cX9_who 21 = .ok (.getfield 10, 3) := by decide +kernel
theorem dX9_who_24 : decode cX9_who 24 = .ok (.invokevirtual 224, 3) := by decide +kernel
theorem dX9_who_27 : decode cX9_who 27 = .ok (.invokestatic 227, 3) := by decide +kernel
theorem dX9_who_30 : decode cX9_who 30 = .ok (.bipush 9, 2) := by decide +kernel
theorem dX9_who_32 : decode cX9_who 32 = .ok (.if_icmp .le 6, 3) := by decide +kernel
theorem dX9_who_35 : decode cX9_who 35 = .ok (.bipush (-4), 2) := by decide +kernel
theorem dX9_who_37 : decode cX9_who 37 = .ok (.ireturn, 1) := by decide +kernel
theorem dX9_who_38 : decode cX9_who 38 = .ok (.aload_n 0, 1) := by decide +kernel
theorem dX9_who_39 : decode cX9_who 39 = .ok (.getfield 43, 3) := by decide +kernel
theorem dX9_who_42 : decode cX9_who 42 = .ok (.aload_n 0, 1) := by decide +kernel
theorem dX9_who_43 : decode cX9_who 43 = .ok (.getfield 10, 3) := by decide +kernel
theorem dX9_who_46 : decode cX9_who 46 = .ok (.invokevirtual 200, 3) := by decide +kernel
theorem dX9_who_49 : decode cX9_who 49 = .ok (.aload_n 0, 1) := by decide +kernel
theorem dX9_who_50 : decode cX9_who 50 = .ok (.getfield 43, 3) := by decide +kernel
theorem dX9_who_53 : decode cX9_who 53 = .ok (.aload_n 0, 1) := by decide +kernel
theorem dX9_who_54 : decode cX9_who 54 = .ok (.getfield 10, 3) := by decide +kernel
theorem dX9_who_57 : decode cX9_who 57 = .ok (.aload_n 0, 1) := by decide +kernel
theorem dX9_who_58 : decode cX9_who 58 = .ok (.getfield 36, 3) := by decide +kernel
theorem dX9_who_61 : decode cX9_who 61 = .ok (.aload_n 0, 1) := by decide +kernel
theorem dX9_who_62 : decode cX9_who 62 = .ok (.getfield 10, 3) := by decide +kernel
theorem dX9_who_65 : decode cX9_who 65 = .ok (.invokevirtual 180, 3) := by decide +kernel
theorem dX9_who_68 : decode cX9_who 68 = .ok (.invokevirtual 232, 3) := by decide +kernel
theorem dX9_who_71 : decode cX9_who 71 = .ok (.lstore_n 3, 1) := by decide +kernel
theorem dX9_who_72 : decode cX9_who 72 = .ok (.lload_n 3, 1) := by decide +kernel
theorem dX9_who_73 : decode cX9_who 73 = .ok (.lconst 0, 1) := by decide +kernel
theorem dX9_who_74 : decode cX9_who 74 = .ok (.lcmp, 1) := by decide +kernel
theorem dX9_who_75 : decode cX9_who 75 = .ok (.ifCond .ne 6, 3) := by decide +kernel
theorem dX9_who_78 : decode cX9_who 78 = .ok (.bipush (-3), 2) := by decide +kernel
theorem dX9_who_80 : decode cX9_who 80 = .ok (.ireturn, 1) := by decide +kernel
theorem dX9_who_81 : decode cX9_who 81 = .ok (.aload_n 0, 1) := by decide +kernel
theorem dX9_who_82 : decode cX9_who 82 = .ok (.getfield 43, 3) := by decide +kernel
theorem dX9_who_85 : decode cX9_who 85 = .ok (.aload_n 0, 1) := by decide +kernel
theorem dX9_who_86 : decode cX9_who 86 = .ok (.getfield 10, 3) := by decide +kernel
theorem dX9_who_89 : decode cX9_who 89 = .ok (.aload_n 0, 1) := by decide +kernel
theorem dX9_who_90 : decode cX9_who 90 = .ok (.getfield 36, 3) := by decide +kernel
theorem dX9_who_93 : decode cX9_who 93 = .ok (.iconst 1, 1) := by decide +kernel
theorem dX9_who_94 : decode cX9_who 94 = .ok (.iload_n 1, 1) := by decide +kernel
theorem dX9_who_95 : decode cX9_who 95 = .ok (.ishl, 1) := by decide +kernel
theorem dX9_who_96 : decode cX9_who 96 = .ok (.invokevirtual 232, 3) := by decide +kernel
theorem dX9_who_99 : decode cX9_who 99 = .ok (.lload_n 3, 1) := by decide +kernel
theorem dX9_who_100 : decode cX9_who 100 = .ok (.iload_n 2, 1) := by decide +kernel
theorem dX9_who_101 : decode cX9_who 101 = .ok (.invokestatic 211, 3) := by decide +kernel
theorem dX9_who_104 : decode cX9_who 104 = .ok (.l2i, 1) := by decide +kernel
theorem dX9_who_105 : decode cX9_who 105 = .ok (.ireturn, 1) := by decide +kernel
set_option maxRecDepth 20000 in
theorem ggX9_fewest_X9_isPair : GoodIn wsX9_fewest wsX9_isPair := goodIn_r _ [7, 1, 8, 9, 10, 11, 12, 13, 71, 72, 73, 74, 75, 76, 77, 78, 79, 80, 81, 82, 83, 84, 85, 86, 87, 88, 89, 90, 91, 92, 93, 94, 95, 96] (by decide +kernel) (by decide +kernel)
set_option maxRecDepth 20000 in
theorem gX9_fewest_X9_isPair : GoodIn wsX9_fewest (wsV RX9 114 RX9 yX9_isPair wsX9_isPair) := goodIn_app (goodIn_of _ (by decide +kernel)) ggX9_fewest_X9_isPair
set_option maxRecDepth 20000 in
theorem ggX9_fewest_X9_isEither : GoodIn wsX9_fewest wsX9_isEither := goodIn_r _ [16] (by decide +kernel) (by decide +kernel)
set_option maxRecDepth 20000 in
theorem gX9_fewest_X9_isEither : GoodIn wsX9_fewest (va_wsS RX9 187 yX9_isEither wsX9_isEither) := goodIn_app (goodIn_of _ (by decide +kernel)) ggX9_fewest_X9_isEither
set_option maxRecDepth 20000 in
theorem ggX9_fewest_X8_openTies : GoodIn wsX9_fewest wsX8_openTies := goodIn_r _ [20, 21, 22, 23, 24, 11, 25, 26, 27, 28, 29, 30, 31, 32, 33, 34, 35, 36, 37, 38, 39, 40, 41, 42, 43, 44, 45, 46, 47, 83, 84, 85, 86, 87, 88, 89, 90, 91, 92, 93, 94, 95, 96] (by decide +kernel) (by decide +kernel)
set_option maxRecDepth 20000 in
theorem gX9_fewest_X8_openTies : GoodIn wsX9_fewest (wsV RX9 235 RX8 yX8_openTies wsX8_openTies) := goodIn_app (goodIn_of _ (by decide +kernel)) ggX9_fewest_X8_openTies
set_option maxRecDepth 20000 in
theorem ggX9_fewest_X8_everybody : GoodIn wsX9_fewest wsX8_everybody := goodIn_r _ [51, 13, 83, 84, 85, 86, 87, 88, 89, 90, 91, 92, 93, 94, 95, 96] (by decide +kernel) (by decide +kernel)
set_option maxRecDepth 20000 in
theorem gX9_fewest_X8_everybody : GoodIn wsX9_fewest (wsV RX9 180 RX8 yX8_everybody wsX8_everybody) := goodIn_app (goodIn_of _ (by decide +kernel)) ggX9_fewest_X8_everybody
set_option maxRecDepth 20000 in
theorem ggX9_fewest_X4_halve : GoodIn wsX9_fewest wsX4_halve := goodIn_r _ [56, 57, 97, 98] (by decide +kernel) (by decide +kernel)
set_option maxRecDepth 20000 in
theorem gX9_fewest_X4_halve : GoodIn wsX9_fewest (wsV RX9 238 RX4 yX4_halve wsX4_halve) := goodIn_app (goodIn_of _ (by decide +kernel)) ggX9_fewest_X4_halve
set_option maxRecDepth 20000 in
theorem ggX9_fewest_X4_cost : GoodIn wsX9_fewest wsX4_cost := goodIn_r _ [61, 62, 63, 64, 65, 66, 67, 55, 68, 57, 69, 70, 83, 84, 85, 86, 87, 88, 89, 90, 91, 92, 93, 94, 95, 96, 97, 98] (by decide +kernel) (by decide +kernel)
set_option maxRecDepth 20000 in
theorem gX9_fewest_X4_cost : GoodIn wsX9_fewest (wsV RX9 241 RX4 yX4_cost wsX4_cost) := goodIn_app (goodIn_of _ (by decide +kernel)) ggX9_fewest_X4_cost
theorem dX9_fewest_0 : decode cX9_fewest 0 = .ok (.aload_n 0, 1) := by decide +kernel
theorem dX9_fewest_1 : decode cX9_fewest 1 = .ok (.iload_n 1, 1) := by decide +kernel
theorem dX9_fewest_2 : decode cX9_fewest 2 = .ok (.iload_n 2, 1) := by decide +kernel
theorem dX9_fewest_3 : decode cX9_fewest 3 = .ok (.invokevirtual 114, 3) := by decide +kernel
theorem dX9_fewest_6 : decode cX9_fewest 6 = .ok (.ifCond .eq 10, 3) := by decide +kernel
theorem dX9_fewest_9 : decode cX9_fewest 9 = .ok (.iload_n 3, 1) := by decide +kernel
theorem dX9_fewest_10 : decode cX9_fewest 10 = .ok (.invokestatic 187, 3) := by decide +kernel
theorem dX9_fewest_13 : decode cX9_fewest 13 = .ok (.ifCond .ne 5, 3) := by decide +kernel
theorem dX9_fewest_16 : decode cX9_fewest 16 = .ok (.iconst (-1), 1) := by decide +kernel
theorem dX9_fewest_17 : decode cX9_fewest 17 = .ok (.ireturn, 1) := by decide +kernel
theorem dX9_fewest_18 : decode cX9_fewest 18 = .ok (.aload_n 0, 1) := by decide +kernel
theorem dX9_fewest_19 : decode cX9_fewest 19 = .ok (.getfield 10, 3) := by decide +kernel
theorem dX9_fewest_22 : decode cX9_fewest 22 = .ok (.iconst 0, 1) := by decide +kernel
theorem dX9_fewest_23 : decode cX9_fewest 23 = .ok (.invokevirtual 235, 3) := by decide +kernel
theorem dX9_fewest_26 : decode cX9_fewest 26 = .ok (.istore 4, 2) := by decide +kernel
theorem dX9_fewest_28 : decode cX9_fewest 28 = .ok (.bipush (-3), 2) := by decide +kernel
theorem dX9_fewest_30 : decode cX9_fewest 30 = .ok (.istore 5, 2) := by decide +kernel
theorem dX9_fewest_32 : decode cX9_fewest 32 = .ok (.iconst 0, 1) := by decide +kernel
theorem dX9_fewest_33 : decode cX9_fewest 33 = .ok (.istore 6, 2) := by decide +kernel
theorem dX9_fewest_35 : decode cX9_fewest 35 = .ok (.iload 6, 2) := by decide +kernel
theorem dX9_fewest_37 : decode cX9_fewest 37 = .ok (.aload_n 0, 1) := by decide +kernel
theorem dX9_fewest_38 : decode cX9_fewest 38 = .ok (.getfield 10, 3) := by decide +kernel
theorem dX9_fewest_41 : decode cX9_fewest 41 = .ok (.invokevirtual 180, 3) := by decide +kernel
theorem dX9_fewest_44 : decode cX9_fewest 44 = .ok (.if_icmp .gt 96, 3) := by decide +kernel
theorem dX9_fewest_47 : decode cX9_fewest 47 = .ok (.iload 6, 2) := by decide +kernel
theorem dX9_fewest_49 : decode cX9_fewest 49 = .ok (.iload_n 1, 1) := by decide +kernel
theorem dX9_fewest_50 : decode cX9_fewest 50 = .ok (.ishr, 1) := by decide +kernel
theorem dX9_fewest_51 : decode cX9_fewest 51 = .ok (.iconst 1, 1) := by decide +kernel
theorem dX9_fewest_52 : decode cX9_fewest 52 = .ok (.iand, 1) := by decide +kernel
theorem dX9_fewest_53 : decode cX9_fewest 53 = .ok (.ifCond .eq 81, 3) := by decide +kernel
theorem dX9_fewest_56 : decode cX9_fewest 56 = .ok (.iload 6, 2) := by decide +kernel
theorem dX9_fewest_58 : decode cX9_fewest 58 = .ok (.iload_n 2, 1) := by decide +kernel
theorem dX9_fewest_59 : decode cX9_fewest 59 = .ok (.ishr, 1) := by decide +kernel
theorem dX9_fewest_60 : decode cX9_fewest 60 = .ok (.iconst 1, 1) := by decide +kernel
theorem dX9_fewest_61 : decode cX9_fewest 61 = .ok (.iand, 1) := by decide +kernel
theorem dX9_fewest_62 : decode cX9_fewest 62 = .ok (.ifCond .eq 6, 3) := by decide +kernel
theorem dX9_fewest_65 : decode cX9_fewest 65 = .ok (.goto 69, 3) := by decide +kernel
theorem dX9_fewest_68 : decode cX9_fewest 68 = .ok (.aload_n 0, 1) := by decide +kernel
theorem dX9_fewest_69 : decode cX9_fewest 69 = .ok (.getfield 50, 3) := by decide +kernel
theorem dX9_fewest_72 : decode cX9_fewest 72 = .ok (.iload 6, 2) := by decide +kernel
theorem dX9_fewest_74 : decode cX9_fewest 74 = .ok (.invokevirtual 238, 3) := by decide +kernel
theorem dX9_fewest_77 : decode cX9_fewest 77 = .ok (.aload_n 0, 1) := by decide +kernel
theorem dX9_fewest_78 : decode cX9_fewest 78 = .ok (.getfield 50, 3) := by decide +kernel
theorem dX9_fewest_81 : decode cX9_fewest 81 = .ok (.aload_n 0, 1) := by decide +kernel
theorem dX9_fewest_82 : decode cX9_fewest 82 = .ok (.getfield 10, 3) := by decide +kernel
theorem dX9_fewest_85 : decode cX9_fewest 85 = .ok (.iload 4, 2) := by decide +kernel
theorem dX9_fewest_87 : decode cX9_fewest 87 = .ok (.invokevirtual 241, 3) := by decide +kernel
theorem dX9_fewest_90 : decode cX9_fewest 90 = .ok (.istore 7, 2) := by decide +kernel
theorem dX9_fewest_92 : decode cX9_fewest 92 = .ok (.iload_n 3, 1) := by decide +kernel
theorem dX9_fewest_93 : decode cX9_fewest 93 = .ok (.ifCond .ne 12, 3) := by decide +kernel
theorem dX9_fewest_96 : decode cX9_fewest 96 = .ok (.iload 7, 2) := by decide +kernel
theorem dX9_fewest_98 : decode cX9_fewest 98 = .ok (.sipush 2048, 3) := by decide +kernel
theorem dX9_fewest_101 : decode cX9_fewest 101 = .ok (.idiv, 1) := by decide +kernel
theorem dX9_fewest_102 : decode cX9_fewest 102 = .ok (.goto 9, 3) := by decide +kernel
theorem dX9_fewest_105 : decode cX9_fewest 105 = .ok (.iload 7, 2) := by decide +kernel
theorem dX9_fewest_107 : decode cX9_fewest 107 = .ok (.sipush 2048, 3) := by decide +kernel
theorem dX9_fewest_110 : decode cX9_fewest 110 = .ok (.irem, 1) := by decide +kernel
theorem dX9_fewest_111 : decode cX9_fewest 111 = .ok (.istore 8, 2) := by decide +kernel
theorem dX9_fewest_113 : decode cX9_fewest 113 = .ok (.iload 7, 2) := by decide +kernel
theorem dX9_fewest_115 : decode cX9_fewest 115 = .ok (.ifCond .lt 19, 3) := by decide +kernel
theorem dX9_fewest_118 : decode cX9_fewest 118 = .ok (.iload 5, 2) := by decide +kernel
theorem dX9_fewest_120 : decode cX9_fewest 120 = .ok (.ifCond .lt 10, 3) := by decide +kernel
theorem dX9_fewest_123 : decode cX9_fewest 123 = .ok (.iload 8, 2) := by decide +kernel
theorem dX9_fewest_125 : decode cX9_fewest 125 = .ok (.iload 5, 2) := by decide +kernel
theorem dX9_fewest_127 : decode cX9_fewest 127 = .ok (.if_icmp .ge 7, 3) := by decide +kernel
theorem dX9_fewest_130 : decode cX9_fewest 130 = .ok (.iload 8, 2) := by decide +kernel
theorem dX9_fewest_132 : decode cX9_fewest 132 = .ok (.istore 5, 2) := by decide +kernel
theorem dX9_fewest_134 : decode cX9_fewest 134 = .ok (.iinc 6 1, 3) := by decide +kernel
theorem dX9_fewest_137 : decode cX9_fewest 137 = .ok (.goto (-102), 3) := by decide +kernel
theorem dX9_fewest_140 : decode cX9_fewest 140 = .ok (.iload 5, 2) := by decide +kernel
theorem dX9_fewest_142 : decode cX9_fewest 142 = .ok (.ireturn, 1) := by decide +kernel
set_option maxRecDepth 20000 in
theorem ggX9_between_X9_isPair : GoodIn wsX9_between wsX9_isPair := goodIn_r _ [8, 3, 9, 10, 11, 12, 13, 14, 79, 80, 81, 82, 83, 84, 85, 86, 87, 88, 89, 90, 92, 93, 94, 95, 96, 97, 98, 99, 100, 101, 102, 103, 104, 105] (by decide +kernel) (by decide +kernel)
set_option maxRecDepth 20000 in
theorem gX9_between_X9_isPair : GoodIn wsX9_between (wsV RX9 114 RX9 yX9_isPair wsX9_isPair) := goodIn_app (goodIn_of _ (by decide +kernel)) ggX9_between_X9_isPair
set_option maxRecDepth 20000 in
theorem ggX9_between_X9_isEither : GoodIn wsX9_between wsX9_isEither := goodIn_r _ [17] (by decide +kernel) (by decide +kernel)
set_option maxRecDepth 20000 in
theorem gX9_between_X9_isEither : GoodIn wsX9_between (va_wsS RX9 187 yX9_isEither wsX9_isEither) := goodIn_app (goodIn_of _ (by decide +kernel)) ggX9_between_X9_isEither
set_option maxRecDepth 20000 in
theorem ggX9_between_X9_layOpenTies : GoodIn wsX9_between wsX9_layOpenTies := goodIn_r _ [21, 1, 3, 22, 23, 24, 12, 25, 26, 27, 28, 29, 30, 31, 32, 33, 34, 35, 36, 37, 38, 39, 40, 41, 42, 43, 44, 45, 46, 47, 48, 49, 50, 51, 52, 53, 54, 55, 56, 57, 58, 59, 60, 61, 62, 63, 64, 65, 79, 80, 81, 82, 83, 84, 85, 86, 87, 88, 89, 90, 92, 93, 94, 95, 96, 97, 98, 99, 100, 101, 102, 103, 104, 105, 91] (by decide +kernel) (by decide +kernel)
set_option maxRecDepth 20000 in
theorem gX9_between_X9_layOpenTies : GoodIn wsX9_between (wsV RX9 177 RX9 yX9_layOpenTies wsX9_layOpenTies) := goodIn_app (goodIn_of _ (by decide +kernel)) ggX9_between_X9_layOpenTies
set_option maxRecDepth 20000 in
theorem ggX9_between_X8_everybody : GoodIn wsX9_between wsX8_everybody := goodIn_r _ [69, 14, 92, 93, 94, 95, 96, 97, 98, 99, 100, 101, 102, 103, 104, 105] (by decide +kernel) (by decide +kernel)
set_option maxRecDepth 20000 in
theorem gX9_between_X8_everybody : GoodIn wsX9_between (wsV RX9 180 RX8 yX8_everybody wsX8_everybody) := goodIn_app (goodIn_of _ (by decide +kernel)) ggX9_between_X8_everybody
set_option maxRecDepth 20000 in
theorem ggX9_between_J6_bitCount_0f7a4 : GoodIn wsX9_between wsJ6_bitCount_0f7a4 := goodIn_r _ [49, 50, 51, 52] (by decide +kernel) (by decide +kernel)
set_option maxRecDepth 20000 in
theorem gX9_between_J6_bitCount_0f7a4 : GoodIn wsX9_between (va_wsS RX9 227 yJ6_bitCount_0f7a4 wsJ6_bitCount_0f7a4) := goodIn_app (goodIn_of _ (by decide +kernel)) ggX9_between_J6_bitCount_0f7a4
set_option maxRecDepth 20000 in
theorem ggX9_between_X3_flood : GoodIn wsX9_between wsX3_flood := goodIn_r _ [74, 58, 75, 47, 48, 49, 50, 51, 52, 91] (by decide +kernel) (by decide +kernel)
set_option maxRecDepth 20000 in
theorem gX9_between_X3_flood : GoodIn wsX9_between (wsV RX9 184 RX3 yX3_flood wsX3_flood) := goodIn_app (goodIn_of _ (by decide +kernel)) ggX9_between_X3_flood
set_option maxRecDepth 20000 in
theorem ggX9_between_X9_countOrSet : GoodIn wsX9_between wsX9_countOrSet := goodIn_r _ [78, 70, 47, 48, 49, 50, 51, 52] (by decide +kernel) (by decide +kernel)
set_option maxRecDepth 20000 in
theorem gX9_between_X9_countOrSet : GoodIn wsX9_between (va_wsS RX9 248 yX9_countOrSet wsX9_countOrSet) := goodIn_app (goodIn_of _ (by decide +kernel)) ggX9_between_X9_countOrSet
theorem dX9_between_0 : decode cX9_between 0 = .ok (.aload_n 0, 1) := by decide +kernel
theorem dX9_between_1 : decode cX9_between 1 = .ok (.iload_n 1, 1) := by decide +kernel
theorem dX9_between_2 : decode cX9_between 2 = .ok (.iload_n 2, 1) := by decide +kernel
theorem dX9_between_3 : decode cX9_between 3 = .ok (.invokevirtual 114, 3) := by decide +kernel
theorem dX9_between_6 : decode cX9_between 6 = .ok (.ifCond .eq 10, 3) := by decide +kernel
theorem dX9_between_9 : decode cX9_between 9 = .ok (.iload_n 3, 1) := by decide +kernel
theorem dX9_between_10 : decode cX9_between 10 = .ok (.invokestatic 187, 3) := by decide +kernel
theorem dX9_between_13 : decode cX9_between 13 = .ok (.ifCond .ne 5, 3) := by decide +kernel
theorem dX9_between_16 : decode cX9_between 16 = .ok (.iconst (-1), 1) := by decide +kernel
theorem dX9_between_17 : decode cX9_between 17 = .ok (.ireturn, 1) := by decide +kernel
theorem dX9_between_18 : decode cX9_between 18 = .ok (.aload_n 0, 1) := by decide +kernel
theorem dX9_between_19 : decode cX9_between 19 = .ok (.invokevirtual 177, 3) := by decide +kernel
theorem dX9_between_22 : decode cX9_between 22 = .ok (.aload_n 0, 1) := by decide +kernel
theorem dX9_between_23 : decode cX9_between 23 = .ok (.getfield 36, 3) := by decide +kernel
theorem dX9_between_26 : decode cX9_between 26 = .ok (.getfield 245, 3) := by decide +kernel
theorem dX9_between_29 : decode cX9_between 29 = .ok (.iload_n 1, 1) := by decide +kernel
theorem dX9_between_30 : decode cX9_between 30 = .ok (.iaload, 1) := by decide +kernel
theorem dX9_between_31 : decode cX9_between 31 = .ok (.iload_n 2, 1) := by decide +kernel
theorem dX9_between_32 : decode cX9_between 32 = .ok (.ishr, 1) := by decide +kernel
theorem dX9_between_33 : decode cX9_between 33 = .ok (.iconst 1, 1) := by decide +kernel
theorem dX9_between_34 : decode cX9_between 34 = .ok (.iand, 1) := by decide +kernel
theorem dX9_between_35 : decode cX9_between 35 = .ok (.ifCond .eq 6, 3) := by decide +kernel
theorem dX9_between_38 : decode cX9_between 38 = .ok (.bipush (-3), 2) := by decide +kernel
theorem dX9_between_40 : decode cX9_between 40 = .ok (.ireturn, 1) := by decide +kernel
theorem dX9_between_41 : decode cX9_between 41 = .ok (.aload_n 0, 1) := by decide +kernel
theorem dX9_between_42 : decode cX9_between 42 = .ok (.getfield 10, 3) := by decide +kernel
theorem dX9_between_45 : decode cX9_between 45 = .ok (.invokevirtual 180, 3) := by decide +kernel
theorem dX9_between_48 : decode cX9_between 48 = .ok (.istore 4, 2) := by decide +kernel
theorem dX9_between_50 : decode cX9_between 50 = .ok (.iconst 1, 1) := by decide +kernel
theorem dX9_between_51 : decode cX9_between 51 = .ok (.iload_n 1, 1) := by decide +kernel
theorem dX9_between_52 : decode cX9_between 52 = .ok (.ishl, 1) := by decide +kernel
theorem dX9_between_53 : decode cX9_between 53 = .ok (.iconst 1, 1) := by decide +kernel
theorem dX9_between_54 : decode cX9_between 54 = .ok (.iload_n 2, 1) := by decide +kernel
theorem dX9_between_55 : decode cX9_between 55 = .ok (.ishl, 1) := by decide +kernel
theorem dX9_between_56 : decode cX9_between 56 = .ok (.ior, 1) := by decide +kernel
theorem dX9_between_57 : decode cX9_between 57 = .ok (.istore 5, 2) := by decide +kernel
theorem dX9_between_59 : decode cX9_between 59 = .ok (.iload 4, 2) := by decide +kernel
theorem dX9_between_61 : decode cX9_between 61 = .ok (.iload 5, 2) := by decide +kernel
theorem dX9_between_63 : decode cX9_between 63 = .ok (.iconst (-1), 1) := by decide +kernel
theorem dX9_between_64 : decode cX9_between 64 = .ok (.ixor, 1) := by decide +kernel
theorem dX9_between_65 : decode cX9_between 65 = .ok (.iand, 1) := by decide +kernel
theorem dX9_between_66 : decode cX9_between 66 = .ok (.istore 6, 2) := by decide +kernel
theorem dX9_between_68 : decode cX9_between 68 = .ok (.iconst 0, 1) := by decide +kernel
theorem dX9_between_69 : decode cX9_between 69 = .ok (.istore 7, 2) := by decide +kernel
theorem dX9_between_71 : decode cX9_between 71 = .ok (.iload 7, 2) := by decide +kernel
theorem dX9_between_73 : decode cX9_between 73 = .ok (.iload 4, 2) := by decide +kernel
theorem dX9_between_75 : decode cX9_between 75 = .ok (.if_icmp .gt 70, 3) := by decide +kernel
theorem dX9_between_78 : decode cX9_between 78 = .ok (.iload 7, 2) := by decide +kernel
theorem dX9_between_80 : decode cX9_between 80 = .ok (.iload 5, 2) := by decide +kernel
theorem dX9_between_82 : decode cX9_between 82 = .ok (.iand, 1) := by decide +kernel
theorem dX9_between_83 : decode cX9_between 83 = .ok (.ifCond .ne 20, 3) := by decide +kernel
theorem dX9_between_86 : decode cX9_between 86 = .ok (.iload 7, 2) := by decide +kernel
theorem dX9_between_88 : decode cX9_between 88 = .ok (.invokestatic 227, 3) := by decide +kernel
theorem dX9_between_91 : decode cX9_between 91 = .ok (.iload 6, 2) := by decide +kernel
theorem dX9_between_93 : decode cX9_between 93 = .ok (.invokestatic 227, 3) := by decide +kernel
theorem dX9_between_96 : decode cX9_between 96 = .ok (.if_icmp .ge 7, 3) := by decide +kernel
theorem dX9_between_99 : decode cX9_between 99 = .ok (.iconst 1, 1) := by decide +kernel
theorem dX9_between_100 : decode cX9_between 100 = .ok (.goto 4, 3) := by decide +kernel
theorem dX9_between_103 : decode cX9_between 103 = .ok (.iconst 0, 1) := by decide +kernel
theorem dX9_between_104 : decode cX9_between 104 = .ok (.istore 8, 2) := by decide +kernel
theorem dX9_between_106 : decode cX9_between 106 = .ok (.iload 8, 2) := by decide +kernel
theorem dX9_between_108 : decode cX9_between 108 = .ok (.ifCond .eq 31, 3) := by decide +kernel
theorem dX9_between_111 : decode cX9_between 111 = .ok (.aload_n 0, 1) := by decide +kernel
theorem dX9_between_112 : decode cX9_between 112 = .ok (.getfield 36, 3) := by decide +kernel
theorem dX9_between_115 : decode cX9_between 115 = .ok (.iconst 1, 1) := by decide +kernel
theorem dX9_between_116 : decode cX9_between 116 = .ok (.iload_n 1, 1) := by decide +kernel
theorem dX9_between_117 : decode cX9_between 117 = .ok (.ishl, 1) := by decide +kernel
theorem dX9_between_118 : decode cX9_between 118 = .ok (.iload 4, 2) := by decide +kernel
theorem dX9_between_120 : decode cX9_between 120 = .ok (.iload 7, 2) := by decide +kernel
theorem dX9_between_122 : decode cX9_between 122 = .ok (.iconst (-1), 1) := by decide +kernel
theorem dX9_between_123 : decode cX9_between 123 = .ok (.ixor, 1) := by decide +kernel
theorem dX9_between_124 : decode cX9_between 124 = .ok (.iand, 1) := by decide +kernel
theorem dX9_between_125 : decode cX9_between 125 = .ok (.invokevirtual 184, 3) := by decide +kernel
theorem dX9_between_128 : decode cX9_between 128 = .ok (.iload_n 2, 1) := by decide +kernel
theorem dX9_between_129 : decode cX9_between 129 = .ok (.ishr, 1) := by decide +kernel
theorem dX9_between_130 : decode cX9_between 130 = .ok (.iconst 1, 1) := by decide +kernel
theorem dX9_between_131 : decode cX9_between 131 = .ok (.iand, 1) := by decide +kernel
theorem dX9_between_132 : decode cX9_between 132 = .ok (.ifCond .ne 7, 3) := by decide +kernel
theorem dX9_between_135 : decode cX9_between 135 = .ok (.iload 7, 2) := by decide +kernel
theorem dX9_between_137 : decode cX9_between 137 = .ok (.istore 6, 2) := by decide +kernel
theorem dX9_between_139 : decode cX9_between 139 = .ok (.iinc 7 1, 3) := by decide +kernel
theorem dX9_between_142 : decode cX9_between 142 = .ok (.goto (-71), 3) := by decide +kernel
theorem dX9_between_145 : decode cX9_between 145 = .ok (.iload 6, 2) := by decide +kernel
theorem dX9_between_147 : decode cX9_between 147 = .ok (.iload_n 3, 1) := by decide +kernel
theorem dX9_between_148 : decode cX9_between 148 = .ok (.invokestatic 248, 3) := by decide +kernel
theorem dX9_between_151 : decode cX9_between 151 = .ok (.ireturn, 1) := by decide +kernel
set_option maxRecDepth 20000 in
theorem ggX9_small_X9_isEither : GoodIn wsX9_small wsX9_isEither := goodIn_r _ [7] (by decide +kernel) (by decide +kernel)
set_option maxRecDepth 20000 in
theorem gX9_small_X9_isEither : GoodIn wsX9_small (va_wsS RX9 187 yX9_isEither wsX9_isEither) := goodIn_app (goodIn_of _ (by decide +kernel)) ggX9_small_X9_isEither
set_option maxRecDepth 20000 in
theorem ggX9_small_X8_openTies : GoodIn wsX9_small wsX8_openTies := goodIn_r _ [12, 13, 14, 15, 16, 11, 17, 18, 19, 20, 21, 22, 23, 24, 25, 26, 27, 28, 29, 30, 31, 32, 33, 34, 35, 36, 37, 38, 39, 95, 96, 97, 98, 99, 100, 101, 102, 103, 104, 105, 106, 107, 108] (by decide +kernel) (by decide +kernel)
set_option maxRecDepth 20000 in
theorem gX9_small_X8_openTies : GoodIn wsX9_small (wsV RX9 235 RX8 yX8_openTies wsX8_openTies) := goodIn_app (goodIn_of _ (by decide +kernel)) ggX9_small_X8_openTies
set_option maxRecDepth 20000 in
theorem ggX9_small_X4_begin : GoodIn wsX9_small wsX4_begin := goodIn_r _ [44, 45, 46, 47, 48, 49, 50, 51, 52, 53, 54, 109, 110] (by decide +kernel) (by decide +kernel)
set_option maxRecDepth 20000 in
theorem gX9_small_X4_begin : GoodIn wsX9_small (wsV RX9 254 RX4 yX4_begin wsX4_begin) := goodIn_app (goodIn_of _ (by decide +kernel)) ggX9_small_X4_begin
set_option maxRecDepth 20000 in
theorem ggX9_small_X4_holds : GoodIn wsX9_small wsX4_holds := goodIn_r _ [58, 49, 50, 109, 110] (by decide +kernel) (by decide +kernel)
set_option maxRecDepth 20000 in
theorem gX9_small_X4_holds : GoodIn wsX9_small (wsV RX9 257 RX4 yX4_holds wsX4_holds) := goodIn_app (goodIn_of _ (by decide +kernel)) ggX9_small_X4_holds
set_option maxRecDepth 20000 in
theorem ggX9_small_X4_cost : GoodIn wsX9_small wsX4_cost := goodIn_r _ [62, 63, 64, 65, 66, 67, 68, 43, 69, 50, 70, 71, 95, 96, 97, 98, 99, 100, 101, 102, 103, 104, 105, 106, 107, 108, 109, 110] (by decide +kernel) (by decide +kernel)
set_option maxRecDepth 20000 in
theorem gX9_small_X4_cost : GoodIn wsX9_small (wsV RX9 241 RX4 yX4_cost wsX4_cost) := goodIn_app (goodIn_of _ (by decide +kernel)) ggX9_small_X4_cost
set_option maxRecDepth 20000 in
theorem ggX9_small_X4_advance : GoodIn wsX9_small wsX4_advance := goodIn_r _ [75, 49, 50, 76, 77, 78, 43, 79, 80, 81, 47, 82, 109, 110] (by decide +kernel) (by decide +kernel)
set_option maxRecDepth 20000 in
theorem gX9_small_X4_advance : GoodIn wsX9_small (wsV RX9 260 RX4 yX4_advance wsX4_advance) := goodIn_app (goodIn_of _ (by decide +kernel)) ggX9_small_X4_advance
theorem dX9_small_0 : decode cX9_small 0 = .ok (.iload_n 1, 1) := by decide +kernel
theorem dX9_small_1 : decode cX9_small 1 = .ok (.iconst 1, 1) := by decide +kernel
theorem dX9_small_2 : decode cX9_small 2 = .ok (.if_icmp .lt 16, 3) := by decide +kernel
theorem dX9_small_5 : decode cX9_small 5 = .ok (.iload_n 1, 1) := by decide +kernel
theorem dX9_small_6 : decode cX9_small 6 = .ok (.bipush 10, 2) := by decide +kernel
theorem dX9_small_8 : decode cX9_small 8 = .ok (.if_icmp .gt 10, 3) := by decide +kernel
theorem dX9_small_11 : decode cX9_small 11 = .ok (.iload_n 2, 1) := by decide +kernel
theorem dX9_small_12 : decode cX9_small 12 = .ok (.invokestatic 187, 3) := by decide +kernel
theorem dX9_small_15 : decode cX9_small 15 = .ok (.ifCond .ne 5, 3) := by decide +kernel
theorem dX9_small_18 : decode cX9_small 18 = .ok (.iconst (-1), 1) := by decide +kernel
theorem dX9_small_19 : decode cX9_small 19 = .ok (.ireturn, 1) := by decide +kernel
theorem dX9_small_20 : decode cX9_small 20 = .ok (.aload_n 0, 1) := by decide +kernel
theorem dX9_small_21 : decode cX9_small 21 = .ok (.getfield 10, 3) := by decide +kernel
theorem dX9_small_24 : decode cX9_small 24 = .ok (.getfield 251, 3) := by decide +kernel
theorem dX9_small_27 : decode cX9_small 27 = .ok (.bipush 7, 2) := by decide +kernel
theorem dX9_small_29 : decode cX9_small 29 = .ok (.if_icmp .le 6, 3) := by decide +kernel
theorem dX9_small_32 : decode cX9_small 32 = .ok (.bipush (-4), 2) := by decide +kernel
theorem dX9_small_34 : decode cX9_small 34 = .ok (.ireturn, 1) := by decide +kernel
theorem dX9_small_35 : decode cX9_small 35 = .ok (.aload_n 0, 1) := by decide +kernel
theorem dX9_small_36 : decode cX9_small 36 = .ok (.getfield 10, 3) := by decide +kernel
theorem dX9_small_39 : decode cX9_small 39 = .ok (.iconst 0, 1) := by decide +kernel
theorem dX9_small_40 : decode cX9_small 40 = .ok (.invokevirtual 235, 3) := by decide +kernel
theorem dX9_small_43 : decode cX9_small 43 = .ok (.istore_n 3, 1) := by decide +kernel
theorem dX9_small_44 : decode cX9_small 44 = .ok (.bipush (-3), 2) := by decide +kernel
theorem dX9_small_46 : decode cX9_small 46 = .ok (.istore 4, 2) := by decide +kernel
theorem dX9_small_48 : decode cX9_small 48 = .ok (.aload_n 0, 1) := by decide +kernel
theorem dX9_small_49 : decode cX9_small 49 = .ok (.getfield 50, 3) := by decide +kernel
theorem dX9_small_52 : decode cX9_small 52 = .ok (.aload_n 0, 1) := by decide +kernel
theorem dX9_small_53 : decode cX9_small 53 = .ok (.getfield 10, 3) := by decide +kernel
theorem dX9_small_56 : decode cX9_small 56 = .ok (.getfield 251, 3) := by decide +kernel
theorem dX9_small_59 : decode cX9_small 59 = .ok (.invokevirtual 254, 3) := by decide +kernel
theorem dX9_small_62 : decode cX9_small 62 = .ok (.istore 5, 2) := by decide +kernel
theorem dX9_small_64 : decode cX9_small 64 = .ok (.iconst 0, 1) := by decide +kernel
theorem dX9_small_65 : decode cX9_small 65 = .ok (.istore 6, 2) := by decide +kernel
theorem dX9_small_67 : decode cX9_small 67 = .ok (.iload 6, 2) := by decide +kernel
theorem dX9_small_69 : decode cX9_small 69 = .ok (.sipush 877, 3) := by decide +kernel
theorem dX9_small_72 : decode cX9_small 72 = .ok (.if_icmp .ge 74, 3) := by decide +kernel
theorem dX9_small_75 : decode cX9_small 75 = .ok (.iload 5, 2) := by decide +kernel
theorem dX9_small_77 : decode cX9_small 77 = .ok (.ifCond .eq 69, 3) := by decide +kernel
theorem dX9_small_80 : decode cX9_small 80 = .ok (.aload_n 0, 1) := by decide +kernel
theorem dX9_small_81 : decode cX9_small 81 = .ok (.getfield 50, 3) := by decide +kernel
theorem dX9_small_84 : decode cX9_small 84 = .ok (.iload_n 1, 1) := by decide +kernel
theorem dX9_small_85 : decode cX9_small 85 = .ok (.invokevirtual 257, 3) := by decide +kernel
theorem dX9_small_88 : decode cX9_small 88 = .ok (.ifCond .eq 18, 3) := by decide +kernel
theorem dX9_small_91 : decode cX9_small 91 = .ok (.aload_n 0, 1) := by decide +kernel
theorem dX9_small_92 : decode cX9_small 92 = .ok (.getfield 50, 3) := by decide +kernel
theorem dX9_small_95 : decode cX9_small 95 = .ok (.aload_n 0, 1) := by decide +kernel
theorem dX9_small_96 : decode cX9_small 96 = .ok (.getfield 10, 3) := by decide +kernel
theorem dX9_small_99 : decode cX9_small 99 = .ok (.iload_n 3, 1) := by decide +kernel
theorem dX9_small_100 : decode cX9_small 100 = .ok (.invokevirtual 241, 3) := by decide +kernel
theorem dX9_small_103 : decode cX9_small 103 = .ok (.goto 5, 3) := by decide +kernel
theorem dX9_small_106 : decode cX9_small 106 = .ok (.bipush (-3), 2) := by decide +kernel
theorem dX9_small_108 : decode cX9_small 108 = .ok (.istore 7, 2) := by decide +kernel
theorem dX9_small_110 : decode cX9_small 110 = .ok (.iload 7, 2) := by decide +kernel
theorem dX9_small_112 : decode cX9_small 112 = .ok (.ifCond .lt 19, 3) := by decide +kernel
theorem dX9_small_115 : decode cX9_small 115 = .ok (.iload 4, 2) := by decide +kernel
theorem dX9_small_117 : decode cX9_small 117 = .ok (.ifCond .lt 10, 3) := by decide +kernel
theorem dX9_small_120 : decode cX9_small 120 = .ok (.iload 7, 2) := by decide +kernel
theorem dX9_small_122 : decode cX9_small 122 = .ok (.iload 4, 2) := by decide +kernel
theorem dX9_small_124 : decode cX9_small 124 = .ok (.if_icmp .ge 7, 3) := by decide +kernel
theorem dX9_small_127 : decode cX9_small 127 = .ok (.iload 7, 2) := by decide +kernel
theorem dX9_small_129 : decode cX9_small 129 = .ok (.istore 4, 2) := by decide +kernel
theorem dX9_small_131 : decode cX9_small 131 = .ok (.aload_n 0, 1) := by decide +kernel
theorem dX9_small_132 : decode cX9_small 132 = .ok (.getfield 50, 3) := by decide +kernel
theorem dX9_small_135 : decode cX9_small 135 = .ok (.invokevirtual 260, 3) := by decide +kernel
theorem dX9_small_138 : decode cX9_small 138 = .ok (.istore 5, 2) := by decide +kernel
theorem dX9_small_140 : decode cX9_small 140 = .ok (.iinc 6 1, 3) := by decide +kernel
theorem dX9_small_143 : decode cX9_small 143 = .ok (.goto (-76), 3) := by decide +kernel
theorem dX9_small_146 : decode cX9_small 146 = .ok (.iload 4, 2) := by decide +kernel
theorem dX9_small_148 : decode cX9_small 148 = .ok (.ifCond .ge 6, 3) := by decide +kernel
theorem dX9_small_151 : decode cX9_small 151 = .ok (.bipush (-3), 2) := by decide +kernel
theorem dX9_small_153 : decode cX9_small 153 = .ok (.ireturn, 1) := by decide +kernel
theorem dX9_small_154 : decode cX9_small 154 = .ok (.iload_n 2, 1) := by decide +kernel
theorem dX9_small_155 : decode cX9_small 155 = .ok (.ifCond .ne 12, 3) := by decide +kernel
theorem dX9_small_158 : decode cX9_small 158 = .ok (.iload 4, 2) := by decide +kernel
theorem dX9_small_160 : decode cX9_small 160 = .ok (.sipush 2048, 3) := by decide +kernel
theorem dX9_small_163 : decode cX9_small 163 = .ok (.idiv, 1) := by decide +kernel
theorem dX9_small_164 : decode cX9_small 164 = .ok (.goto 9, 3) := by decide +kernel
theorem dX9_small_167 : decode cX9_small 167 = .ok (.iload 4, 2) := by decide +kernel
theorem dX9_small_169 : decode cX9_small 169 = .ok (.sipush 2048, 3) := by decide +kernel
theorem dX9_small_172 : decode cX9_small 172 = .ok (.irem, 1) := by decide +kernel
theorem dX9_small_173 : decode cX9_small 173 = .ok (.ireturn, 1) := by decide +kernel
set_option maxRecDepth 20000 in
theorem ggX9_sit_X9_isEither : GoodIn wsX9_sit wsX9_isEither := goodIn_r _ [7] (by decide +kernel) (by decide +kernel)
set_option maxRecDepth 20000 in
theorem gX9_sit_X9_isEither : GoodIn wsX9_sit (va_wsS RX9 187 yX9_isEither wsX9_isEither) := goodIn_app (goodIn_of _ (by decide +kernel)) ggX9_sit_X9_isEither
set_option maxRecDepth 20000 in
theorem ggX9_sit_X4_begin : GoodIn wsX9_sit wsX4_begin := goodIn_r _ [12, 13, 14, 15, 16, 17, 18, 19, 20, 21, 22, 76, 77] (by decide +kernel) (by decide +kernel)
set_option maxRecDepth 20000 in
theorem gX9_sit_X4_begin : GoodIn wsX9_sit (wsV RX9 254 RX4 yX4_begin wsX4_begin) := goodIn_app (goodIn_of _ (by decide +kernel)) ggX9_sit_X4_begin
set_option maxRecDepth 20000 in
theorem ggX9_sit_X4_holds : GoodIn wsX9_sit wsX4_holds := goodIn_r _ [26, 17, 18, 76, 77] (by decide +kernel) (by decide +kernel)
set_option maxRecDepth 20000 in
theorem gX9_sit_X4_holds : GoodIn wsX9_sit (wsV RX9 257 RX4 yX4_holds wsX4_holds) := goodIn_app (goodIn_of _ (by decide +kernel)) ggX9_sit_X4_holds
set_option maxRecDepth 20000 in
theorem ggX9_sit_X4_worthWithin : GoodIn wsX9_sit wsX4_worthWithin := goodIn_r _ [30, 31, 32, 33, 34, 35, 11, 36, 18, 37, 38, 62, 63, 64, 65, 66, 67, 68, 69, 70, 71, 72, 73, 74, 75, 76, 77] (by decide +kernel) (by decide +kernel)
set_option maxRecDepth 20000 in
theorem gX9_sit_X4_worthWithin : GoodIn wsX9_sit (wsV RX9 264 RX4 yX4_worthWithin wsX4_worthWithin) := goodIn_app (goodIn_of _ (by decide +kernel)) ggX9_sit_X4_worthWithin
set_option maxRecDepth 20000 in
theorem ggX9_sit_X4_advance : GoodIn wsX9_sit wsX4_advance := goodIn_r _ [42, 17, 18, 43, 44, 45, 11, 46, 47, 48, 15, 49, 76, 77] (by decide +kernel) (by decide +kernel)
set_option maxRecDepth 20000 in
theorem gX9_sit_X4_advance : GoodIn wsX9_sit (wsV RX9 260 RX4 yX4_advance wsX4_advance) := goodIn_app (goodIn_of _ (by decide +kernel)) ggX9_sit_X4_advance
theorem dX9_sit_0 : decode cX9_sit 0 = .ok (.iload_n 1, 1) := by decide +kernel
theorem dX9_sit_1 : decode cX9_sit 1 = .ok (.iconst 1, 1) := by decide +kernel
theorem dX9_sit_2 : decode cX9_sit 2 = .ok (.if_icmp .lt 16, 3) := by decide +kernel
theorem dX9_sit_5 : decode cX9_sit 5 = .ok (.iload_n 1, 1) := by decide +kernel
theorem dX9_sit_6 : decode cX9_sit 6 = .ok (.bipush 10, 2) := by decide +kernel
theorem dX9_sit_8 : decode cX9_sit 8 = .ok (.if_icmp .gt 10, 3) := by decide +kernel
theorem dX9_sit_11 : decode cX9_sit 11 = .ok (.iload_n 2, 1) := by decide +kernel
theorem dX9_sit_12 : decode cX9_sit 12 = .ok (.invokestatic 187, 3) := by decide +kernel
theorem dX9_sit_15 : decode cX9_sit 15 = .ok (.ifCond .ne 5, 3) := by decide +kernel
theorem dX9_sit_18 : decode cX9_sit 18 = .ok (.iconst (-1), 1) := by decide +kernel
theorem dX9_sit_19 : decode cX9_sit 19 = .ok (.ireturn, 1) := by decide +kernel
theorem dX9_sit_20 : decode cX9_sit 20 = .ok (.aload_n 0, 1) := by decide +kernel
theorem dX9_sit_21 : decode cX9_sit 21 = .ok (.getfield 10, 3) := by decide +kernel
theorem dX9_sit_24 : decode cX9_sit 24 = .ok (.getfield 251, 3) := by decide +kernel
theorem dX9_sit_27 : decode cX9_sit 27 = .ok (.bipush 7, 2) := by decide +kernel
theorem dX9_sit_29 : decode cX9_sit 29 = .ok (.if_icmp .le 6, 3) := by decide +kernel
theorem dX9_sit_32 : decode cX9_sit 32 = .ok (.bipush (-4), 2) := by decide +kernel
theorem dX9_sit_34 : decode cX9_sit 34 = .ok (.ireturn, 1) := by decide +kernel
theorem dX9_sit_35 : decode cX9_sit 35 = .ok (.iconst (-1), 1) := by decide +kernel
theorem dX9_sit_36 : decode cX9_sit 36 = .ok (.istore_n 3, 1) := by decide +kernel
theorem dX9_sit_37 : decode cX9_sit 37 = .ok (.iconst 0, 1) := by decide +kernel
theorem dX9_sit_38 : decode cX9_sit 38 = .ok (.istore 4, 2) := by decide +kernel
theorem dX9_sit_40 : decode cX9_sit 40 = .ok (.aload_n 0, 1) := by decide +kernel
theorem dX9_sit_41 : decode cX9_sit 41 = .ok (.getfield 50, 3) := by decide +kernel
theorem dX9_sit_44 : decode cX9_sit 44 = .ok (.aload_n 0, 1) := by decide +kernel
theorem dX9_sit_45 : decode cX9_sit 45 = .ok (.getfield 10, 3) := by decide +kernel
theorem dX9_sit_48 : decode cX9_sit 48 = .ok (.getfield 251, 3) := by decide +kernel
theorem dX9_sit_51 : decode cX9_sit 51 = .ok (.invokevirtual 254, 3) := by decide +kernel
theorem dX9_sit_54 : decode cX9_sit 54 = .ok (.istore 5, 2) := by decide +kernel
theorem dX9_sit_56 : decode cX9_sit 56 = .ok (.iconst 0, 1) := by decide +kernel
theorem dX9_sit_57 : decode cX9_sit 57 = .ok (.istore 6, 2) := by decide +kernel
theorem dX9_sit_59 : decode cX9_sit 59 = .ok (.iload 6, 2) := by decide +kernel
theorem dX9_sit_61 : decode cX9_sit 61 = .ok (.sipush 877, 3) := by decide +kernel
theorem dX9_sit_64 : decode cX9_sit 64 = .ok (.if_icmp .ge 72, 3) := by decide +kernel
theorem dX9_sit_67 : decode cX9_sit 67 = .ok (.iload 5, 2) := by decide +kernel
theorem dX9_sit_69 : decode cX9_sit 69 = .ok (.ifCond .eq 67, 3) := by decide +kernel
theorem dX9_sit_72 : decode cX9_sit 72 = .ok (.aload_n 0, 1) := by decide +kernel
theorem dX9_sit_73 : decode cX9_sit 73 = .ok (.getfield 50, 3) := by decide +kernel
theorem dX9_sit_76 : decode cX9_sit 76 = .ok (.iload_n 1, 1) := by decide +kernel
theorem dX9_sit_77 : decode cX9_sit 77 = .ok (.invokevirtual 257, 3) := by decide +kernel
theorem dX9_sit_80 : decode cX9_sit 80 = .ok (.ifCond .eq 17, 3) := by decide +kernel
theorem dX9_sit_83 : decode cX9_sit 83 = .ok (.aload_n 0, 1) := by decide +kernel
theorem dX9_sit_84 : decode cX9_sit 84 = .ok (.getfield 50, 3) := by decide +kernel
theorem dX9_sit_87 : decode cX9_sit 87 = .ok (.aload_n 0, 1) := by decide +kernel
theorem dX9_sit_88 : decode cX9_sit 88 = .ok (.getfield 10, 3) := by decide +kernel
theorem dX9_sit_91 : decode cX9_sit 91 = .ok (.invokevirtual 264, 3) := by decide +kernel
theorem dX9_sit_94 : decode cX9_sit 94 = .ok (.goto 4, 3) := by decide +kernel
theorem dX9_sit_97 : decode cX9_sit 97 = .ok (.iconst (-1), 1) := by decide +kernel
theorem dX9_sit_98 : decode cX9_sit 98 = .ok (.istore 7, 2) := by decide +kernel
theorem dX9_sit_100 : decode cX9_sit 100 = .ok (.iload 7, 2) := by decide +kernel
theorem dX9_sit_102 : decode cX9_sit 102 = .ok (.iload_n 3, 1) := by decide +kernel
theorem dX9_sit_103 : decode cX9_sit 103 = .ok (.if_icmp .le 9, 3) := by decide +kernel
theorem dX9_sit_106 : decode cX9_sit 106 = .ok (.iload 7, 2) := by decide +kernel
theorem dX9_sit_108 : decode cX9_sit 108 = .ok (.istore_n 3, 1) := by decide +kernel
theorem dX9_sit_109 : decode cX9_sit 109 = .ok (.iconst 0, 1) := by decide +kernel
theorem dX9_sit_110 : decode cX9_sit 110 = .ok (.istore 4, 2) := by decide +kernel
theorem dX9_sit_112 : decode cX9_sit 112 = .ok (.iload 7, 2) := by decide +kernel
theorem dX9_sit_114 : decode cX9_sit 114 = .ok (.iload_n 3, 1) := by decide +kernel
theorem dX9_sit_115 : decode cX9_sit 115 = .ok (.if_icmp .ne 6, 3) := by decide +kernel
theorem dX9_sit_118 : decode cX9_sit 118 = .ok (.iinc 4 1, 3) := by decide +kernel
theorem dX9_sit_121 : decode cX9_sit 121 = .ok (.aload_n 0, 1) := by decide +kernel
theorem dX9_sit_122 : decode cX9_sit 122 = .ok (.getfield 50, 3) := by decide +kernel
theorem dX9_sit_125 : decode cX9_sit 125 = .ok (.invokevirtual 260, 3) := by decide +kernel
theorem dX9_sit_128 : decode cX9_sit 128 = .ok (.istore 5, 2) := by decide +kernel
theorem dX9_sit_130 : decode cX9_sit 130 = .ok (.iinc 6 1, 3) := by decide +kernel
theorem dX9_sit_133 : decode cX9_sit 133 = .ok (.goto (-74), 3) := by decide +kernel
theorem dX9_sit_136 : decode cX9_sit 136 = .ok (.iload_n 2, 1) := by decide +kernel
theorem dX9_sit_137 : decode cX9_sit 137 = .ok (.ifCond .ne 7, 3) := by decide +kernel
theorem dX9_sit_140 : decode cX9_sit 140 = .ok (.iload_n 3, 1) := by decide +kernel
theorem dX9_sit_141 : decode cX9_sit 141 = .ok (.goto 5, 3) := by decide +kernel
theorem dX9_sit_144 : decode cX9_sit 144 = .ok (.iload 4, 2) := by decide +kernel
theorem dX9_sit_146 : decode cX9_sit 146 = .ok (.ireturn, 1) := by decide +kernel
set_option maxRecDepth 20000 in
theorem ggX9_early_X8_hasPerson : GoodIn wsX9_early wsX8_hasPerson := goodIn_r _ [8, 9, 70, 71, 72, 73, 74, 75, 76, 77, 78, 79, 80, 81, 82, 83] (by decide +kernel) (by decide +kernel)
set_option maxRecDepth 20000 in
theorem gX9_early_X8_hasPerson : GoodIn wsX9_early (wsV RX9 146 RX8 yX8_hasPerson wsX8_hasPerson) := goodIn_app (goodIn_of _ (by decide +kernel)) ggX9_early_X8_hasPerson
set_option maxRecDepth 20000 in
theorem ggX9_early_X1_follow : GoodIn wsX9_early wsX1_follow := goodIn_r _ [14, 15, 16, 17, 18, 19, 20, 21, 22, 13, 23, 24, 25, 26, 27, 28, 29, 30, 7, 31, 32, 33, 34, 35, 36, 37, 38, 39, 40, 41, 42, 43, 44, 45, 46, 47, 48, 49, 50, 51, 52, 53, 54, 55, 68, 69, 70, 71, 72, 73, 74, 75, 76, 77, 78, 79, 80, 81, 82, 83] (by decide +kernel) (by decide +kernel)
set_option maxRecDepth 20000 in
theorem gX9_early_X1_follow : GoodIn wsX9_early (wsV RX9 268 RX1 yX1_follow wsX1_follow) := goodIn_app (goodIn_of _ (by decide +kernel)) ggX9_early_X1_follow
theorem dX9_early_0 : decode cX9_early 0 = .ok (.aload_n 0, 1) := by decide +kernel
theorem dX9_early_1 : decode cX9_early 1 = .ok (.getfield 10, 3) := by decide +kernel
theorem dX9_early_4 : decode cX9_early 4 = .ok (.iload_n 1, 1) := by decide +kernel
theorem dX9_early_5 : decode cX9_early 5 = .ok (.invokevirtual 146, 3) := by decide +kernel
theorem dX9_early_8 : decode cX9_early 8 = .ok (.ifCond .eq 14, 3) := by decide +kernel
theorem dX9_early_11 : decode cX9_early 11 = .ok (.aload_n 0, 1) := by decide +kernel
theorem dX9_early_12 : decode cX9_early 12 = .ok (.getfield 10, 3) := by decide +kernel
theorem dX9_early_15 : decode cX9_early 15 = .ok (.iload_n 2, 1) := by decide +kernel
theorem dX9_early_16 : decode cX9_early 16 = .ok (.invokevirtual 146, 3) := by decide +kernel
theorem dX9_early_19 : decode cX9_early 19 = .ok (.ifCond .ne 5, 3) := by decide +kernel
theorem dX9_early_22 : decode cX9_early 22 = .ok (.iconst (-1), 1) := by decide +kernel
theorem dX9_early_23 : decode cX9_early 23 = .ok (.ireturn, 1) := by decide +kernel
theorem dX9_early_24 : decode cX9_early 24 = .ok (.aload_n 0, 1) := by decide +kernel
theorem dX9_early_25 : decode cX9_early 25 = .ok (.getfield 57, 3) := by decide +kernel
theorem dX9_early_28 : decode cX9_early 28 = .ok (.aload_n 0, 1) := by decide +kernel
theorem dX9_early_29 : decode cX9_early 29 = .ok (.getfield 10, 3) := by decide +kernel
theorem dX9_early_32 : decode cX9_early 32 = .ok (.iload_n 1, 1) := by decide +kernel
theorem dX9_early_33 : decode cX9_early 33 = .ok (.invokevirtual 268, 3) := by decide +kernel
theorem dX9_early_36 : decode cX9_early 36 = .ok (.aload_n 0, 1) := by decide +kernel
theorem dX9_early_37 : decode cX9_early 37 = .ok (.getfield 57, 3) := by decide +kernel
theorem dX9_early_40 : decode cX9_early 40 = .ok (.getfield 272, 3) := by decide +kernel
theorem dX9_early_43 : decode cX9_early 43 = .ok (.iload_n 2, 1) := by decide +kernel
theorem dX9_early_44 : decode cX9_early 44 = .ok (.iaload, 1) := by decide +kernel
theorem dX9_early_45 : decode cX9_early 45 = .ok (.ireturn, 1) := by decide +kernel
set_option maxRecDepth 20000 in
theorem ggX9_could_X8_hasPerson : GoodIn wsX9_could wsX8_hasPerson := goodIn_r _ [7, 8, 71, 72, 73, 74, 75, 76, 77, 78, 79, 80, 81, 82, 83, 84] (by decide +kernel) (by decide +kernel)
set_option maxRecDepth 20000 in
theorem gX9_could_X8_hasPerson : GoodIn wsX9_could (wsV RX9 146 RX8 yX8_hasPerson wsX8_hasPerson) := goodIn_app (goodIn_of _ (by decide +kernel)) ggX9_could_X8_hasPerson
set_option maxRecDepth 20000 in
theorem ggX9_could_X1_follow : GoodIn wsX9_could wsX1_follow := goodIn_r _ [13, 14, 15, 16, 17, 18, 19, 20, 21, 12, 22, 23, 24, 25, 26, 27, 28, 29, 6, 30, 31, 32, 33, 34, 35, 36, 37, 38, 39, 40, 41, 42, 43, 44, 45, 46, 47, 48, 49, 50, 51, 52, 53, 54, 85, 86, 71, 72, 73, 74, 75, 76, 77, 78, 79, 80, 81, 82, 83, 84] (by decide +kernel) (by decide +kernel)
set_option maxRecDepth 20000 in
theorem gX9_could_X1_follow : GoodIn wsX9_could (wsV RX9 268 RX1 yX1_follow wsX1_follow) := goodIn_app (goodIn_of _ (by decide +kernel)) ggX9_could_X1_follow
set_option maxRecDepth 20000 in
theorem ggX9_could_X1_knowingBehind : GoodIn wsX9_could wsX1_knowingBehind := goodIn_r _ [58, 14, 85, 86] (by decide +kernel) (by decide +kernel)
set_option maxRecDepth 20000 in
theorem gX9_could_X1_knowingBehind : GoodIn wsX9_could (wsV RX9 275 RX1 yX1_knowingBehind wsX1_knowingBehind) := goodIn_app (goodIn_of _ (by decide +kernel)) ggX9_could_X1_knowingBehind
theorem dX9_could_0 : decode cX9_could 0 = .ok (.aload_n 0, 1) := by decide +kernel
theorem dX9_could_1 : decode cX9_could 1 = .ok (.getfield 10, 3) := by decide +kernel
theorem dX9_could_4 : decode cX9_could 4 = .ok (.iload_n 1, 1) := by decide +kernel
theorem dX9_could_5 : decode cX9_could 5 = .ok (.invokevirtual 146, 3) := by decide +kernel
theorem dX9_could_8 : decode cX9_could 8 = .ok (.ifCond .eq 13, 3) := by decide +kernel
theorem dX9_could_11 : decode cX9_could 11 = .ok (.iload_n 2, 1) := by decide +kernel
theorem dX9_could_12 : decode cX9_could 12 = .ok (.ifCond .lt 9, 3) := by decide +kernel
theorem dX9_could_15 : decode cX9_could 15 = .ok (.iload_n 2, 1) := by decide +kernel
theorem dX9_could_16 : decode cX9_could 16 = .ok (.bipush 100, 2) := by decide +kernel
theorem dX9_could_18 : decode cX9_could 18 = .ok (.if_icmp .le 5, 3) := by decide +kernel
theorem dX9_could_21 : decode cX9_could 21 = .ok (.iconst (-1), 1) := by decide +kernel
theorem dX9_could_22 : decode cX9_could 22 = .ok (.ireturn, 1) := by decide +kernel
theorem dX9_could_23 : decode cX9_could 23 = .ok (.aload_n 0, 1) := by decide +kernel
theorem dX9_could_24 : decode cX9_could 24 = .ok (.getfield 57, 3) := by decide +kernel
theorem dX9_could_27 : decode cX9_could 27 = .ok (.aload_n 0, 1) := by decide +kernel
theorem dX9_could_28 : decode cX9_could 28 = .ok (.getfield 10, 3) := by decide +kernel
theorem dX9_could_31 : decode cX9_could 31 = .ok (.iload_n 1, 1) := by decide +kernel
theorem dX9_could_32 : decode cX9_could 32 = .ok (.invokevirtual 268, 3) := by decide +kernel
theorem dX9_could_35 : decode cX9_could 35 = .ok (.aload_n 0, 1) := by decide +kernel
theorem dX9_could_36 : decode cX9_could 36 = .ok (.getfield 57, 3) := by decide +kernel
theorem dX9_could_39 : decode cX9_could 39 = .ok (.iload_n 2, 1) := by decide +kernel
theorem dX9_could_40 : decode cX9_could 40 = .ok (.invokevirtual 275, 3) := by decide +kernel
theorem dX9_could_43 : decode cX9_could 43 = .ok (.ireturn, 1) := by decide +kernel
theorem dX9_seed_0 : decode cX9_seed 0 = .ok (.aload_n 0, 1) := by decide +kernel
theorem dX9_seed_1 : decode cX9_seed 1 = .ok (.getfield 10, 3) := by decide +kernel
theorem dX9_seed_4 : decode cX9_seed 4 = .ok (.getfield 97, 3) := by decide +kernel
theorem dX9_seed_7 : decode cX9_seed 7 = .ok (.istore_n 2, 1) := by decide +kernel
theorem dX9_seed_8 : decode cX9_seed 8 = .ok (.aload_n 0, 1) := by decide +kernel
theorem dX9_seed_9 : decode cX9_seed 9 = .ok (.getfield 10, 3) := by decide +kernel
theorem dX9_seed_12 : decode cX9_seed 12 = .ok (.iload_n 1, 1) := by decide +kernel
theorem dX9_seed_13 : decode cX9_seed 13 = .ok (.putfield 97, 3) := by decide +kernel
theorem dX9_seed_16 : decode cX9_seed 16 = .ok (.iload_n 2, 1) := by decide +kernel
theorem dX9_seed_17 : decode cX9_seed 17 = .ok (.ireturn, 1) := by decide +kernel
set_option maxRecDepth 20000 in
theorem ggX9_run_X8_hasPerson : GoodIn wsX9_run wsX8_hasPerson := goodIn_r _ [7, 8, 61, 62, 63, 64, 65, 66, 67, 68, 69, 70, 71, 72, 73, 74] (by decide +kernel) (by decide +kernel)
set_option maxRecDepth 20000 in
theorem gX9_run_X8_hasPerson : GoodIn wsX9_run (wsV RX9 146 RX8 yX8_hasPerson wsX8_hasPerson) := goodIn_app (goodIn_of _ (by decide +kernel)) ggX9_run_X8_hasPerson
set_option maxRecDepth 20000 in
theorem ggX9_run_X1_chanceDay : GoodIn wsX9_run wsX1_chanceDay := goodIn_r _ [13, 14, 15, 16, 17, 18, 19, 12, 20, 21, 22, 23, 6, 24, 25, 26, 27, 28, 29, 30, 31, 32, 33, 34, 35, 36, 37, 38, 39, 40, 41, 42, 43, 44, 45, 46, 47, 48, 61, 62, 63, 64, 65, 66, 67, 68, 69, 70, 71, 72, 73, 74] (by decide +kernel) (by decide +kernel)
set_option maxRecDepth 20000 in
theorem gX9_run_X1_chanceDay : GoodIn wsX9_run (wsV RX9 278 RX1 yX1_chanceDay wsX1_chanceDay) := goodIn_app (goodIn_of _ (by decide +kernel)) ggX9_run_X1_chanceDay
theorem dX9_run_0 : decode cX9_run 0 = .ok (.aload_n 0, 1) := by decide +kernel
theorem dX9_run_1 : decode cX9_run 1 = .ok (.getfield 10, 3) := by decide +kernel
theorem dX9_run_4 : decode cX9_run 4 = .ok (.iload_n 1, 1) := by decide +kernel
theorem dX9_run_5 : decode cX9_run 5 = .ok (.invokevirtual 146, 3) := by decide +kernel
theorem dX9_run_8 : decode cX9_run 8 = .ok (.ifCond .eq 13, 3) := by decide +kernel
theorem dX9_run_11 : decode cX9_run 11 = .ok (.iload_n 2, 1) := by decide +kernel
theorem dX9_run_12 : decode cX9_run 12 = .ok (.ifCond .lt 9, 3) := by decide +kernel
theorem dX9_run_15 : decode cX9_run 15 = .ok (.iload_n 2, 1) := by decide +kernel
theorem dX9_run_16 : decode cX9_run 16 = .ok (.bipush 20, 2) := by decide +kernel
theorem dX9_run_18 : decode cX9_run 18 = .ok (.if_icmp .le 5, 3) := by decide +kernel
theorem dX9_run_21 : decode cX9_run 21 = .ok (.iconst (-1), 1) := by decide +kernel
theorem dX9_run_22 : decode cX9_run 22 = .ok (.ireturn, 1) := by decide +kernel
theorem dX9_run_23 : decode cX9_run 23 = .ok (.iconst 1, 1) := by decide +kernel
theorem dX9_run_24 : decode cX9_run 24 = .ok (.iload_n 1, 1) := by decide +kernel
theorem dX9_run_25 : decode cX9_run 25 = .ok (.ishl, 1) := by decide +kernel
theorem dX9_run_26 : decode cX9_run 26 = .ok (.istore_n 3, 1) := by decide +kernel
theorem dX9_run_27 : decode cX9_run 27 = .ok (.iconst 0, 1) := by decide +kernel
theorem dX9_run_28 : decode cX9_run 28 = .ok (.istore 4, 2) := by decide +kernel
theorem dX9_run_30 : decode cX9_run 30 = .ok (.iload 4, 2) := by decide +kernel
theorem dX9_run_32 : decode cX9_run 32 = .ok (.iload_n 2, 1) := by decide +kernel
theorem dX9_run_33 : decode cX9_run 33 = .ok (.if_icmp .ge 24, 3) := by decide +kernel
theorem dX9_run_36 : decode cX9_run 36 = .ok (.aload_n 0, 1) := by decide +kernel
theorem dX9_run_37 : decode cX9_run 37 = .ok (.getfield 57, 3) := by decide +kernel
theorem dX9_run_40 : decode cX9_run 40 = .ok (.aload_n 0, 1) := by decide +kernel
theorem dX9_run_41 : decode cX9_run 41 = .ok (.getfield 10, 3) := by decide +kernel
theorem dX9_run_44 : decode cX9_run 44 = .ok (.iload_n 3, 1) := by decide +kernel
theorem dX9_run_45 : decode cX9_run 45 = .ok (.iload 4, 2) := by decide +kernel
theorem dX9_run_47 : decode cX9_run 47 = .ok (.invokevirtual 278, 3) := by decide +kernel
theorem dX9_run_50 : decode cX9_run 50 = .ok (.istore_n 3, 1) := by decide +kernel
theorem dX9_run_51 : decode cX9_run 51 = .ok (.iinc 4 1, 3) := by decide +kernel
theorem dX9_run_54 : decode cX9_run 54 = .ok (.goto (-24), 3) := by decide +kernel
theorem dX9_run_57 : decode cX9_run 57 = .ok (.iload_n 3, 1) := by decide +kernel
theorem dX9_run_58 : decode cX9_run 58 = .ok (.ireturn, 1) := by decide +kernel
set_option maxRecDepth 20000 in
theorem ggX9_guards_X8_hasPerson : GoodIn wsX9_guards wsX8_hasPerson := goodIn_r _ [8, 9, 96, 97, 98, 99, 100, 101, 102, 103, 104, 105, 106, 107, 108, 109] (by decide +kernel) (by decide +kernel)
set_option maxRecDepth 20000 in
theorem gX9_guards_X8_hasPerson : GoodIn wsX9_guards (wsV RX9 146 RX8 yX8_hasPerson wsX8_hasPerson) := goodIn_app (goodIn_of _ (by decide +kernel)) ggX9_guards_X8_hasPerson
set_option maxRecDepth 20000 in
theorem ggX9_guards_X9_isEither : GoodIn wsX9_guards wsX9_isEither := goodIn_r _ [13] (by decide +kernel) (by decide +kernel)
set_option maxRecDepth 20000 in
theorem gX9_guards_X9_isEither : GoodIn wsX9_guards (va_wsS RX9 187 yX9_isEither wsX9_isEither) := goodIn_app (goodIn_of _ (by decide +kernel)) ggX9_guards_X9_isEither
set_option maxRecDepth 20000 in
theorem ggX9_guards_X9_layOpenTies : GoodIn wsX9_guards wsX9_layOpenTies := goodIn_r _ [17, 3, 1, 18, 19, 20, 7, 21, 22, 23, 24, 25, 26, 27, 28, 29, 30, 31, 32, 33, 34, 35, 36, 37, 38, 39, 40, 41, 42, 43, 44, 45, 46, 47, 48, 49, 50, 51, 52, 53, 54, 55, 56, 57, 58, 59, 60, 61, 84, 85, 86, 87, 88, 89, 90, 91, 92, 93, 94, 95, 96, 97, 98, 99, 100, 101, 102, 103, 104, 105, 106, 107, 108, 109, 110] (by decide +kernel) (by decide +kernel)
set_option maxRecDepth 20000 in
theorem gX9_guards_X9_layOpenTies : GoodIn wsX9_guards (wsV RX9 177 RX9 yX9_layOpenTies wsX9_layOpenTies) := goodIn_app (goodIn_of _ (by decide +kernel)) ggX9_guards_X9_layOpenTies
set_option maxRecDepth 20000 in
theorem ggX9_guards_X3_isThreatened : GoodIn wsX9_guards wsX3_isThreatened := goodIn_r _ [65, 66, 67, 68, 52, 69, 54, 110] (by decide +kernel) (by decide +kernel)
set_option maxRecDepth 20000 in
theorem gX9_guards_X3_isThreatened : GoodIn wsX9_guards (wsV RX9 282 RX3 yX3_isThreatened wsX3_isThreatened) := goodIn_app (goodIn_of _ (by decide +kernel)) ggX9_guards_X3_isThreatened
set_option maxRecDepth 20000 in
theorem ggX9_guards_X9_knowingWithout : GoodIn wsX9_guards wsX9_knowingWithout := goodIn_r _ [73, 3, 74, 67, 68, 52, 69, 54, 75, 76, 77, 12, 78, 1, 2, 79, 80, 81, 82, 62, 63, 64, 65, 66, 83, 43, 44, 45, 46, 47, 48, 70, 71, 72, 84, 85, 86, 87, 88, 89, 90, 91, 92, 93, 94, 95, 110, 96, 97, 98, 99, 100, 101, 102, 103, 104, 105, 106, 107, 108, 109] (by decide +kernel) (by decide +kernel)
set_option maxRecDepth 20000 in
theorem gX9_guards_X9_knowingWithout : GoodIn wsX9_guards (wsV RX9 285 RX9 yX9_knowingWithout wsX9_knowingWithout) := goodIn_app (goodIn_of _ (by decide +kernel)) ggX9_guards_X9_knowingWithout
theorem dX9_guards_0 : decode cX9_guards 0 = .ok (.aload_n 0, 1) := by decide +kernel
theorem dX9_guards_1 : decode cX9_guards 1 = .ok (.getfield 10, 3) := by decide +kernel
theorem dX9_guards_4 : decode cX9_guards 4 = .ok (.iload_n 1, 1) := by decide +kernel
theorem dX9_guards_5 : decode cX9_guards 5 = .ok (.invokevirtual 146, 3) := by decide +kernel
theorem dX9_guards_8 : decode cX9_guards 8 = .ok (.ifCond .eq 10, 3) := by decide +kernel
theorem dX9_guards_11 : decode cX9_guards 11 = .ok (.iload_n 2, 1) := by decide +kernel
theorem dX9_guards_12 : decode cX9_guards 12 = .ok (.invokestatic 187, 3) := by decide +kernel
theorem dX9_guards_15 : decode cX9_guards 15 = .ok (.ifCond .ne 5, 3) := by decide +kernel
theorem dX9_guards_18 : decode cX9_guards 18 = .ok (.iconst (-1), 1) := by decide +kernel
theorem dX9_guards_19 : decode cX9_guards 19 = .ok (.ireturn, 1) := by decide +kernel
theorem dX9_guards_20 : decode cX9_guards 20 = .ok (.aload_n 0, 1) := by decide +kernel
theorem dX9_guards_21 : decode cX9_guards 21 = .ok (.getfield 10, 3) := by decide +kernel
theorem dX9_guards_24 : decode cX9_guards 24 = .ok (.getfield 251, 3) := by decide +kernel
theorem dX9_guards_27 : decode cX9_guards 27 = .ok (.bipush 8, 2) := by decide +kernel
theorem dX9_guards_29 : decode cX9_guards 29 = .ok (.if_icmp .le 6, 3) := by decide +kernel
theorem dX9_guards_32 : decode cX9_guards 32 = .ok (.bipush (-4), 2) := by decide +kernel
theorem dX9_guards_34 : decode cX9_guards 34 = .ok (.ireturn, 1) := by decide +kernel
theorem dX9_guards_35 : decode cX9_guards 35 = .ok (.aload_n 0, 1) := by decide +kernel
theorem dX9_guards_36 : decode cX9_guards 36 = .ok (.invokevirtual 177, 3) := by decide +kernel
theorem dX9_guards_39 : decode cX9_guards 39 = .ok (.iconst 1, 1) := by decide +kernel
theorem dX9_guards_40 : decode cX9_guards 40 = .ok (.iload_n 1, 1) := by decide +kernel
theorem dX9_guards_41 : decode cX9_guards 41 = .ok (.ishl, 1) := by decide +kernel
theorem dX9_guards_42 : decode cX9_guards 42 = .ok (.istore_n 3, 1) := by decide +kernel
theorem dX9_guards_43 : decode cX9_guards 43 = .ok (.aload_n 0, 1) := by decide +kernel
theorem dX9_guards_44 : decode cX9_guards 44 = .ok (.getfield 36, 3) := by decide +kernel
theorem dX9_guards_47 : decode cX9_guards 47 = .ok (.iload_n 3, 1) := by decide +kernel
theorem dX9_guards_48 : decode cX9_guards 48 = .ok (.iconst 0, 1) := by decide +kernel
theorem dX9_guards_49 : decode cX9_guards 49 = .ok (.invokevirtual 282, 3) := by decide +kernel
theorem dX9_guards_52 : decode cX9_guards 52 = .ok (.ifCond .ne 14, 3) := by decide +kernel
theorem dX9_guards_55 : decode cX9_guards 55 = .ok (.iload_n 2, 1) := by decide +kernel
theorem dX9_guards_56 : decode cX9_guards 56 = .ok (.ifCond .ne 7, 3) := by decide +kernel
theorem dX9_guards_59 : decode cX9_guards 59 = .ok (.iconst 1, 1) := by decide +kernel
theorem dX9_guards_60 : decode cX9_guards 60 = .ok (.goto 5, 3) := by decide +kernel
theorem dX9_guards_63 : decode cX9_guards 63 = .ok (.bipush (-9), 2) := by decide +kernel
theorem dX9_guards_65 : decode cX9_guards 65 = .ok (.ireturn, 1) := by decide +kernel
theorem dX9_guards_66 : decode cX9_guards 66 = .ok (.bipush 11, 2) := by decide +kernel
theorem dX9_guards_68 : decode cX9_guards 68 = .ok (.istore 4, 2) := by decide +kernel
theorem dX9_guards_70 : decode cX9_guards 70 = .ok (.bipush (-9), 2) := by decide +kernel
theorem dX9_guards_72 : decode cX9_guards 72 = .ok (.istore 5, 2) := by decide +kernel
theorem dX9_guards_74 : decode cX9_guards 74 = .ok (.iconst 0, 1) := by decide +kernel
theorem dX9_guards_75 : decode cX9_guards 75 = .ok (.istore 6, 2) := by decide +kernel
theorem dX9_guards_77 : decode cX9_guards 77 = .ok (.iload 6, 2) := by decide +kernel
theorem dX9_guards_79 : decode cX9_guards 79 = .ok (.aload_n 0, 1) := by decide +kernel
theorem dX9_guards_80 : decode cX9_guards 80 = .ok (.getfield 10, 3) := by decide +kernel
theorem dX9_guards_83 : decode cX9_guards 83 = .ok (.getfield 251, 3) := by decide +kernel
theorem dX9_guards_86 : decode cX9_guards 86 = .ok (.if_icmp .ge 46, 3) := by decide +kernel
theorem dX9_guards_89 : decode cX9_guards 89 = .ok (.iload 6, 2) := by decide +kernel
theorem dX9_guards_91 : decode cX9_guards 91 = .ok (.iload_n 1, 1) := by decide +kernel
theorem dX9_guards_92 : decode cX9_guards 92 = .ok (.if_icmp .ne 8, 3) := by decide +kernel
theorem dX9_guards_95 : decode cX9_guards 95 = .ok (.iload 4, 2) := by decide +kernel
theorem dX9_guards_97 : decode cX9_guards 97 = .ok (.goto 12, 3) := by decide +kernel
theorem dX9_guards_100 : decode cX9_guards 100 = .ok (.aload_n 0, 1) := by decide +kernel
theorem dX9_guards_101 : decode cX9_guards 101 = .ok (.iload 6, 2) := by decide +kernel
theorem dX9_guards_103 : decode cX9_guards 103 = .ok (.iload_n 3, 1) := by decide +kernel
theorem dX9_guards_104 : decode cX9_guards 104 = .ok (.iconst 0, 1) := by decide +kernel
theorem dX9_guards_105 : decode cX9_guards 105 = .ok (.iconst 0, 1) := by decide +kernel
theorem dX9_guards_106 : decode cX9_guards 106 = .ok (.invokevirtual 285, 3) := by decide +kernel
theorem dX9_guards_109 : decode cX9_guards 109 = .ok (.istore 7, 2) := by decide +kernel
theorem dX9_guards_111 : decode cX9_guards 111 = .ok (.iload 7, 2) := by decide +kernel
theorem dX9_guards_113 : decode cX9_guards 113 = .ok (.iload 4, 2) := by decide +kernel
theorem dX9_guards_115 : decode cX9_guards 115 = .ok (.if_icmp .ge 11, 3) := by decide +kernel
theorem dX9_guards_118 : decode cX9_guards 118 = .ok (.iload 7, 2) := by decide +kernel
theorem dX9_guards_120 : decode cX9_guards 120 = .ok (.istore 4, 2) := by decide +kernel
theorem dX9_guards_122 : decode cX9_guards 122 = .ok (.iload 6, 2) := by decide +kernel
theorem dX9_guards_124 : decode cX9_guards 124 = .ok (.istore 5, 2) := by decide +kernel
theorem dX9_guards_126 : decode cX9_guards 126 = .ok (.iinc 6 1, 3) := by decide +kernel
theorem dX9_guards_129 : decode cX9_guards 129 = .ok (.goto (-52), 3) := by decide +kernel
theorem dX9_guards_132 : decode cX9_guards 132 = .ok (.iload_n 2, 1) := by decide +kernel
theorem dX9_guards_133 : decode cX9_guards 133 = .ok (.ifCond .ne 8, 3) := by decide +kernel
theorem dX9_guards_136 : decode cX9_guards 136 = .ok (.iload 4, 2) := by decide +kernel
theorem dX9_guards_138 : decode cX9_guards 138 = .ok (.goto 5, 3) := by decide +kernel
theorem dX9_guards_141 : decode cX9_guards 141 = .ok (.iload 5, 2) := by decide +kernel
theorem dX9_guards_143 : decode cX9_guards 143 = .ok (.ireturn, 1) := by decide +kernel
set_option maxRecDepth 20000 in
theorem ggX9_prove_X8_hasPerson : GoodIn wsX9_prove wsX8_hasPerson := goodIn_r _ [10, 11, 107, 108, 109, 110, 111, 112, 113, 114, 115, 116, 117, 118, 119, 120] (by decide +kernel) (by decide +kernel)
set_option maxRecDepth 20000 in
theorem gX9_prove_X8_hasPerson : GoodIn wsX9_prove (wsV RX9 146 RX8 yX8_hasPerson wsX8_hasPerson) := goodIn_app (goodIn_of _ (by decide +kernel)) ggX9_prove_X8_hasPerson
set_option maxRecDepth 20000 in
theorem ggX9_prove_X1_follow : GoodIn wsX9_prove wsX1_follow := goodIn_r _ [16, 17, 18, 19, 20, 21, 22, 23, 24, 15, 25, 26, 27, 28, 29, 30, 31, 32, 9, 33, 34, 35, 36, 37, 38, 39, 40, 41, 42, 43, 44, 45, 46, 47, 48, 49, 50, 51, 52, 53, 54, 55, 56, 57, 103, 104, 107, 108, 109, 110, 111, 112, 113, 114, 115, 116, 117, 118, 119, 120] (by decide +kernel) (by decide +kernel)
set_option maxRecDepth 20000 in
theorem gX9_prove_X1_follow : GoodIn wsX9_prove (wsV RX9 268 RX1 yX1_follow wsX1_follow) := goodIn_app (goodIn_of _ (by decide +kernel)) ggX9_prove_X1_follow
set_option maxRecDepth 20000 in
theorem ggX9_prove_X5_tellHow : GoodIn wsX9_prove wsX5_tellHow := goodIn_r _ [62, 63, 64, 65, 66, 67, 68, 69, 70, 71, 72, 15, 73, 17, 74, 75, 61, 76, 77, 78, 79, 80, 81, 82, 83, 9, 84, 85, 34, 86, 35, 87, 88, 89, 90, 44, 45, 46, 47, 48, 49, 50, 51, 52, 53, 54, 55, 56, 31, 32, 33, 57, 37, 38, 39, 40, 41, 42, 103, 104, 105, 106, 107, 108, 109, 110, 111, 112, 113, 114, 115, 116, 117, 118, 119, 120] (by decide +kernel) (by decide +kernel)
set_option maxRecDepth 20000 in
theorem gX9_prove_X5_tellHow : GoodIn wsX9_prove (wsV RX9 289 RX5 yX5_tellHow wsX5_tellHow) := goodIn_app (goodIn_of _ (by decide +kernel)) ggX9_prove_X5_tellHow
theorem dX9_prove_0 : decode cX9_prove 0 = .ok (.aload_n 0, 1) := by decide +kernel
theorem dX9_prove_1 : decode cX9_prove 1 = .ok (.getfield 10, 3) := by decide +kernel
theorem dX9_prove_4 : decode cX9_prove 4 = .ok (.iload_n 1, 1) := by decide +kernel
theorem dX9_prove_5 : decode cX9_prove 5 = .ok (.invokevirtual 146, 3) := by decide +kernel
theorem dX9_prove_8 : decode cX9_prove 8 = .ok (.ifCond .eq 14, 3) := by decide +kernel
theorem dX9_prove_11 : decode cX9_prove 11 = .ok (.aload_n 0, 1) := by decide +kernel
theorem dX9_prove_12 : decode cX9_prove 12 = .ok (.getfield 10, 3) := by decide +kernel
theorem dX9_prove_15 : decode cX9_prove 15 = .ok (.iload_n 2, 1) := by decide +kernel
theorem dX9_prove_16 : decode cX9_prove 16 = .ok (.invokevirtual 146, 3) := by decide +kernel
theorem dX9_prove_19 : decode cX9_prove 19 = .ok (.ifCond .ne 5, 3) := by decide +kernel
theorem dX9_prove_22 : decode cX9_prove 22 = .ok (.iconst (-1), 1) := by decide +kernel
theorem dX9_prove_23 : decode cX9_prove 23 = .ok (.ireturn, 1) := by decide +kernel
theorem dX9_prove_24 : decode cX9_prove 24 = .ok (.aload_n 0, 1) := by decide +kernel
theorem dX9_prove_25 : decode cX9_prove 25 = .ok (.getfield 57, 3) := by decide +kernel
theorem dX9_prove_28 : decode cX9_prove 28 = .ok (.aload_n 0, 1) := by decide +kernel
theorem dX9_prove_29 : decode cX9_prove 29 = .ok (.getfield 10, 3) := by decide +kernel
theorem dX9_prove_32 : decode cX9_prove 32 = .ok (.iload_n 1, 1) := by decide +kernel
theorem dX9_prove_33 : decode cX9_prove 33 = .ok (.invokevirtual 268, 3) := by decide +kernel
theorem dX9_prove_36 : decode cX9_prove 36 = .ok (.aload_n 0, 1) := by decide +kernel
theorem dX9_prove_37 : decode cX9_prove 37 = .ok (.getfield 57, 3) := by decide +kernel
theorem dX9_prove_40 : decode cX9_prove 40 = .ok (.getfield 272, 3) := by decide +kernel
theorem dX9_prove_43 : decode cX9_prove 43 = .ok (.iload_n 2, 1) := by decide +kernel
theorem dX9_prove_44 : decode cX9_prove 44 = .ok (.iaload, 1) := by decide +kernel
theorem dX9_prove_45 : decode cX9_prove 45 = .ok (.ifCond .ge 6, 3) := by decide +kernel
theorem dX9_prove_48 : decode cX9_prove 48 = .ok (.bipush (-3), 2) := by decide +kernel
theorem dX9_prove_50 : decode cX9_prove 50 = .ok (.ireturn, 1) := by decide +kernel
theorem dX9_prove_51 : decode cX9_prove 51 = .ok (.aload_n 0, 1) := by decide +kernel
theorem dX9_prove_52 : decode cX9_prove 52 = .ok (.getfield 64, 3) := by decide +kernel
theorem dX9_prove_55 : decode cX9_prove 55 = .ok (.aload_n 0, 1) := by decide +kernel
theorem dX9_prove_56 : decode cX9_prove 56 = .ok (.getfield 10, 3) := by decide +kernel
theorem dX9_prove_59 : decode cX9_prove 59 = .ok (.aload_n 0, 1) := by decide +kernel
theorem dX9_prove_60 : decode cX9_prove 60 = .ok (.getfield 57, 3) := by decide +kernel
theorem dX9_prove_63 : decode cX9_prove 63 = .ok (.iload_n 2, 1) := by decide +kernel
theorem dX9_prove_64 : decode cX9_prove 64 = .ok (.invokevirtual 289, 3) := by decide +kernel
theorem dX9_prove_67 : decode cX9_prove 67 = .ok (.aload_n 0, 1) := by decide +kernel
theorem dX9_prove_68 : decode cX9_prove 68 = .ok (.getfield 64, 3) := by decide +kernel
theorem dX9_prove_71 : decode cX9_prove 71 = .ok (.getfield 104, 3) := by decide +kernel
theorem dX9_prove_74 : decode cX9_prove 74 = .ok (.ireturn, 1) := by decide +kernel
set_option maxRecDepth 20000 in
theorem ggX9_row_X5_has : GoodIn wsX9_row wsX5_has := goodIn_r _ [7, 8, 21, 22] (by decide +kernel) (by decide +kernel)
set_option maxRecDepth 20000 in
theorem gX9_row_X5_has : GoodIn wsX9_row (wsV RX9 293 RX5 yX5_has wsX5_has) := goodIn_app (goodIn_of _ (by decide +kernel)) ggX9_row_X5_has
theorem dX9_row_0 : decode cX9_row 0 = .ok (.aload_n 0, 1) := by decide +kernel
theorem dX9_row_1 : decode cX9_row 1 = .ok (.getfield 64, 3) := by decide +kernel
theorem dX9_row_4 : decode cX9_row 4 = .ok (.iload_n 1, 1) := by decide +kernel
theorem dX9_row_5 : decode cX9_row 5 = .ok (.iload_n 2, 1) := by decide +kernel
theorem dX9_row_6 : decode cX9_row 6 = .ok (.invokevirtual 293, 3) := by decide +kernel
theorem dX9_row_9 : decode cX9_row 9 = .ok (.ifCond .eq 17, 3) := by decide +kernel
theorem dX9_row_12 : decode cX9_row 12 = .ok (.aload_n 0, 1) := by decide +kernel
theorem dX9_row_13 : decode cX9_row 13 = .ok (.getfield 64, 3) := by decide +kernel
theorem dX9_row_16 : decode cX9_row 16 = .ok (.getfield 296, 3) := by decide +kernel
theorem dX9_row_19 : decode cX9_row 19 = .ok (.iload_n 1, 1) := by decide +kernel
theorem dX9_row_20 : decode cX9_row 20 = .ok (.aaload, 1) := by decide +kernel
theorem dX9_row_21 : decode cX9_row 21 = .ok (.iload_n 2, 1) := by decide +kernel
theorem dX9_row_22 : decode cX9_row 22 = .ok (.iaload, 1) := by decide +kernel
theorem dX9_row_23 : decode cX9_row 23 = .ok (.goto 5, 3) := by decide +kernel
theorem dX9_row_26 : decode cX9_row 26 = .ok (.bipush (-9), 2) := by decide +kernel
theorem dX9_row_28 : decode cX9_row 28 = .ok (.ireturn, 1) := by decide +kernel
set_option maxRecDepth 20000 in
theorem ggX9_alterRow_X5_has : GoodIn wsX9_alterRow wsX5_has := goodIn_r _ [7, 8, 21, 22] (by decide +kernel) (by decide +kernel)
set_option maxRecDepth 20000 in
theorem gX9_alterRow_X5_has : GoodIn wsX9_alterRow (wsV RX9 293 RX5 yX5_has wsX5_has) := goodIn_app (goodIn_of _ (by decide +kernel)) ggX9_alterRow_X5_has
theorem dX9_alterRow_0 : decode cX9_alterRow 0 = .ok (.aload_n 0, 1) := by decide +kernel
theorem dX9_alterRow_1 : decode cX9_alterRow 1 = .ok (.getfield 64, 3) := by decide +kernel
theorem dX9_alterRow_4 : decode cX9_alterRow 4 = .ok (.iload_n 1, 1) := by decide +kernel
theorem dX9_alterRow_5 : decode cX9_alterRow 5 = .ok (.iload_n 2, 1) := by decide +kernel
theorem dX9_alterRow_6 : decode cX9_alterRow 6 = .ok (.invokevirtual 293, 3) := by decide +kernel
theorem dX9_alterRow_9 : decode cX9_alterRow 9 = .ok (.ifCond .ne 6, 3) := by decide +kernel
theorem dX9_alterRow_12 : decode cX9_alterRow 12 = .ok (.bipush (-9), 2) := by decide +kernel
theorem dX9_alterRow_14 : decode cX9_alterRow 14 = .ok (.ireturn, 1) := by decide +kernel
theorem dX9_alterRow_15 : decode cX9_alterRow 15 = .ok (.aload_n 0, 1) := by decide +kernel
theorem dX9_alterRow_16 : decode cX9_alterRow 16 = .ok (.getfield 64, 3) := by decide +kernel
theorem dX9_alterRow_19 : decode cX9_alterRow 19 = .ok (.getfield 296, 3) := by decide +kernel
theorem dX9_alterRow_22 : decode cX9_alterRow 22 = .ok (.iload_n 1, 1) := by decide +kernel
theorem dX9_alterRow_23 : decode cX9_alterRow 23 = .ok (.aaload, 1) := by decide +kernel
theorem dX9_alterRow_24 : decode cX9_alterRow 24 = .ok (.iload_n 2, 1) := by decide +kernel
theorem dX9_alterRow_25 : decode cX9_alterRow 25 = .ok (.iaload, 1) := by decide +kernel
theorem dX9_alterRow_26 : decode cX9_alterRow 26 = .ok (.istore 4, 2) := by decide +kernel
theorem dX9_alterRow_28 : decode cX9_alterRow 28 = .ok (.aload_n 0, 1) := by decide +kernel
theorem dX9_alterRow_29 : decode cX9_alterRow 29 = .ok (.getfield 64, 3) := by decide +kernel
theorem dX9_alterRow_32 : decode cX9_alterRow 32 = .ok (.getfield 296, 3) := by decide +kernel
theorem dX9_alterRow_35 : decode cX9_alterRow 35 = .ok (.iload_n 1, 1) := by decide +kernel
theorem dX9_alterRow_36 : decode cX9_alterRow 36 = .ok (.aaload, 1) := by decide +kernel
theorem dX9_alterRow_37 : decode cX9_alterRow 37 = .ok (.iload_n 2, 1) := by decide +kernel
theorem dX9_alterRow_38 : decode cX9_alterRow 38 = .ok (.iload_n 3, 1) := by decide +kernel
theorem dX9_alterRow_39 : decode cX9_alterRow 39 = .ok (.iastore, 1) := by decide +kernel
theorem dX9_alterRow_40 : decode cX9_alterRow 40 = .ok (.iload 4, 2) := by decide +kernel
theorem dX9_alterRow_42 : decode cX9_alterRow 42 = .ok (.ireturn, 1) := by decide +kernel
set_option maxRecDepth 20000 in
theorem ggX9_judge_X8_hasPerson : GoodIn wsX9_judge wsX8_hasPerson := goodIn_r _ [7, 8, 69, 70, 71, 72, 73, 74, 75, 76, 77, 78, 79, 80, 81, 82] (by decide +kernel) (by decide +kernel)
set_option maxRecDepth 20000 in
theorem gX9_judge_X8_hasPerson : GoodIn wsX9_judge (wsV RX9 146 RX8 yX8_hasPerson wsX8_hasPerson) := goodIn_app (goodIn_of _ (by decide +kernel)) ggX9_judge_X8_hasPerson
set_option maxRecDepth 20000 in
theorem ggX9_judge_X5_verdict : GoodIn wsX9_judge wsX5_verdict := goodIn_r _ [13, 14, 15, 16, 17, 12, 18, 19, 20, 21, 6, 22, 23, 24, 25, 26, 27, 28, 29, 30, 31, 32, 33, 34, 35, 36, 37, 38, 39, 40, 41, 42, 43, 44, 45, 46, 47, 48, 49, 50, 51, 52, 53, 54, 55, 56, 83, 84, 69, 70, 71, 72, 73, 74, 75, 76, 77, 78, 79, 80, 81, 82] (by decide +kernel) (by decide +kernel)
set_option maxRecDepth 20000 in
theorem gX9_judge_X5_verdict : GoodIn wsX9_judge (wsV RX9 300 RX5 yX5_verdict wsX5_verdict) := goodIn_app (goodIn_of _ (by decide +kernel)) ggX9_judge_X5_verdict
theorem dX9_judge_0 : decode cX9_judge 0 = .ok (.aload_n 0, 1) := by decide +kernel
theorem dX9_judge_1 : decode cX9_judge 1 = .ok (.getfield 10, 3) := by decide +kernel
theorem dX9_judge_4 : decode cX9_judge 4 = .ok (.iload_n 1, 1) := by decide +kernel
theorem dX9_judge_5 : decode cX9_judge 5 = .ok (.invokevirtual 146, 3) := by decide +kernel
theorem dX9_judge_8 : decode cX9_judge 8 = .ok (.ifCond .eq 14, 3) := by decide +kernel
theorem dX9_judge_11 : decode cX9_judge 11 = .ok (.aload_n 0, 1) := by decide +kernel
theorem dX9_judge_12 : decode cX9_judge 12 = .ok (.getfield 10, 3) := by decide +kernel
theorem dX9_judge_15 : decode cX9_judge 15 = .ok (.iload_n 2, 1) := by decide +kernel
theorem dX9_judge_16 : decode cX9_judge 16 = .ok (.invokevirtual 146, 3) := by decide +kernel
theorem dX9_judge_19 : decode cX9_judge 19 = .ok (.ifCond .ne 5, 3) := by decide +kernel
theorem dX9_judge_22 : decode cX9_judge 22 = .ok (.iconst (-1), 1) := by decide +kernel
theorem dX9_judge_23 : decode cX9_judge 23 = .ok (.ireturn, 1) := by decide +kernel
theorem dX9_judge_24 : decode cX9_judge 24 = .ok (.aload_n 0, 1) := by decide +kernel
theorem dX9_judge_25 : decode cX9_judge 25 = .ok (.getfield 64, 3) := by decide +kernel
theorem dX9_judge_28 : decode cX9_judge 28 = .ok (.aload_n 0, 1) := by decide +kernel
theorem dX9_judge_29 : decode cX9_judge 29 = .ok (.getfield 10, 3) := by decide +kernel
theorem dX9_judge_32 : decode cX9_judge 32 = .ok (.iload_n 1, 1) := by decide +kernel
theorem dX9_judge_33 : decode cX9_judge 33 = .ok (.iload_n 2, 1) := by decide +kernel
theorem dX9_judge_34 : decode cX9_judge 34 = .ok (.invokevirtual 300, 3) := by decide +kernel
theorem dX9_judge_37 : decode cX9_judge 37 = .ok (.ireturn, 1) := by decide +kernel
set_option maxRecDepth 20000 in
theorem ggX9_chair_X9_isEither : GoodIn wsX9_chair wsX9_isEither := goodIn_r _ [7] (by decide +kernel) (by decide +kernel)
set_option maxRecDepth 20000 in
theorem gX9_chair_X9_isEither : GoodIn wsX9_chair (va_wsS RX9 187 yX9_isEither wsX9_isEither) := goodIn_app (goodIn_of _ (by decide +kernel)) ggX9_chair_X9_isEither
set_option maxRecDepth 20000 in
theorem ggX9_chair_X9_layOpenTies : GoodIn wsX9_chair wsX9_layOpenTies := goodIn_r _ [11, 3, 1, 12, 13, 14, 15, 16, 17, 18, 19, 20, 21, 22, 23, 24, 25, 26, 27, 28, 29, 30, 31, 32, 33, 34, 35, 36, 37, 38, 39, 40, 41, 42, 43, 44, 45, 46, 47, 48, 49, 50, 51, 52, 53, 54, 55, 56, 75, 76, 77, 78, 79, 80, 81, 82, 83, 84, 85, 86, 87, 88, 89, 90, 91, 92, 93, 94, 95, 96, 97, 98, 99, 100, 101] (by decide +kernel) (by decide +kernel)
set_option maxRecDepth 20000 in
theorem gX9_chair_X9_layOpenTies : GoodIn wsX9_chair (wsV RX9 177 RX9 yX9_layOpenTies wsX9_layOpenTies) := goodIn_app (goodIn_of _ (by decide +kernel)) ggX9_chair_X9_layOpenTies
set_option maxRecDepth 20000 in
theorem ggX9_chair_X8_everybody : GoodIn wsX9_chair wsX8_everybody := goodIn_r _ [60, 61, 87, 88, 89, 90, 91, 92, 93, 94, 95, 96, 97, 98, 99, 100] (by decide +kernel) (by decide +kernel)
set_option maxRecDepth 20000 in
theorem gX9_chair_X8_everybody : GoodIn wsX9_chair (wsV RX9 180 RX8 yX8_everybody wsX8_everybody) := goodIn_app (goodIn_of _ (by decide +kernel)) ggX9_chair_X8_everybody
set_option maxRecDepth 20000 in
theorem ggX9_chair_X3_greatestSet : GoodIn wsX9_chair wsX3_greatestSet := goodIn_r _ [65, 66, 67, 68, 69, 70, 71, 72, 47, 73, 49, 74, 38, 39, 40, 41, 42, 43, 101] (by decide +kernel) (by decide +kernel)
set_option maxRecDepth 20000 in
theorem gX9_chair_X3_greatestSet : GoodIn wsX9_chair (wsV RX9 194 RX3 yX3_greatestSet wsX3_greatestSet) := goodIn_app (goodIn_of _ (by decide +kernel)) ggX9_chair_X3_greatestSet
theorem dX9_chair_0 : decode cX9_chair 0 = .ok (.iload_n 1, 1) := by decide +kernel
theorem dX9_chair_1 : decode cX9_chair 1 = .ok (.invokestatic 187, 3) := by decide +kernel
theorem dX9_chair_4 : decode cX9_chair 4 = .ok (.ifCond .ne 5, 3) := by decide +kernel
theorem dX9_chair_7 : decode cX9_chair 7 = .ok (.iconst (-1), 1) := by decide +kernel
theorem dX9_chair_8 : decode cX9_chair 8 = .ok (.ireturn, 1) := by decide +kernel
theorem dX9_chair_9 : decode cX9_chair 9 = .ok (.aload_n 0, 1) := by decide +kernel
theorem dX9_chair_10 : decode cX9_chair 10 = .ok (.invokevirtual 177, 3) := by decide +kernel
theorem dX9_chair_13 : decode cX9_chair 13 = .ok (.bipush 11, 2) := by decide +kernel
theorem dX9_chair_15 : decode cX9_chair 15 = .ok (.istore_n 2, 1) := by decide +kernel
theorem dX9_chair_16 : decode cX9_chair 16 = .ok (.iconst 0, 1) := by decide +kernel
theorem dX9_chair_17 : decode cX9_chair 17 = .ok (.istore_n 3, 1) := by decide +kernel
theorem dX9_chair_18 : decode cX9_chair 18 = .ok (.iconst 0, 1) := by decide +kernel
theorem dX9_chair_19 : decode cX9_chair 19 = .ok (.istore 4, 2) := by decide +kernel
theorem dX9_chair_21 : decode cX9_chair 21 = .ok (.iload 4, 2) := by decide +kernel
theorem dX9_chair_23 : decode cX9_chair 23 = .ok (.aload_n 0, 1) := by decide +kernel
theorem dX9_chair_24 : decode cX9_chair 24 = .ok (.getfield 10, 3) := by decide +kernel
theorem dX9_chair_27 : decode cX9_chair 27 = .ok (.getfield 251, 3) := by decide +kernel
theorem dX9_chair_30 : decode cX9_chair 30 = .ok (.if_icmp .ge 44, 3) := by decide +kernel
theorem dX9_chair_33 : decode cX9_chair 33 = .ok (.aload_n 0, 1) := by decide +kernel
theorem dX9_chair_34 : decode cX9_chair 34 = .ok (.getfield 36, 3) := by decide +kernel
theorem dX9_chair_37 : decode cX9_chair 37 = .ok (.aload_n 0, 1) := by decide +kernel
theorem dX9_chair_38 : decode cX9_chair 38 = .ok (.getfield 10, 3) := by decide +kernel
theorem dX9_chair_41 : decode cX9_chair 41 = .ok (.invokevirtual 180, 3) := by decide +kernel
theorem dX9_chair_44 : decode cX9_chair 44 = .ok (.iconst 1, 1) := by decide +kernel
theorem dX9_chair_45 : decode cX9_chair 45 = .ok (.iload 4, 2) := by decide +kernel
theorem dX9_chair_47 : decode cX9_chair 47 = .ok (.ishl, 1) := by decide +kernel
theorem dX9_chair_48 : decode cX9_chair 48 = .ok (.iconst (-1), 1) := by decide +kernel
theorem dX9_chair_49 : decode cX9_chair 49 = .ok (.ixor, 1) := by decide +kernel
theorem dX9_chair_50 : decode cX9_chair 50 = .ok (.iand, 1) := by decide +kernel
theorem dX9_chair_51 : decode cX9_chair 51 = .ok (.invokevirtual 194, 3) := by decide +kernel
theorem dX9_chair_54 : decode cX9_chair 54 = .ok (.istore 5, 2) := by decide +kernel
theorem dX9_chair_56 : decode cX9_chair 56 = .ok (.iload 5, 2) := by decide +kernel
theorem dX9_chair_58 : decode cX9_chair 58 = .ok (.iload_n 2, 1) := by decide +kernel
theorem dX9_chair_59 : decode cX9_chair 59 = .ok (.if_icmp .ge 9, 3) := by decide +kernel
theorem dX9_chair_62 : decode cX9_chair 62 = .ok (.iload 5, 2) := by decide +kernel
theorem dX9_chair_64 : decode cX9_chair 64 = .ok (.istore_n 2, 1) := by decide +kernel
theorem dX9_chair_65 : decode cX9_chair 65 = .ok (.iload 4, 2) := by decide +kernel
theorem dX9_chair_67 : decode cX9_chair 67 = .ok (.istore_n 3, 1) := by decide +kernel
theorem dX9_chair_68 : decode cX9_chair 68 = .ok (.iinc 4 1, 3) := by decide +kernel
theorem dX9_chair_71 : decode cX9_chair 71 = .ok (.goto (-50), 3) := by decide +kernel
theorem dX9_chair_74 : decode cX9_chair 74 = .ok (.iload_n 1, 1) := by decide +kernel
theorem dX9_chair_75 : decode cX9_chair 75 = .ok (.ifCond .ne 7, 3) := by decide +kernel
theorem dX9_chair_78 : decode cX9_chair 78 = .ok (.iload_n 3, 1) := by decide +kernel
theorem dX9_chair_79 : decode cX9_chair 79 = .ok (.goto 4, 3) := by decide +kernel
theorem dX9_chair_82 : decode cX9_chair 82 = .ok (.iload_n 2, 1) := by decide +kernel
theorem dX9_chair_83 : decode cX9_chair 83 = .ok (.ireturn, 1) := by decide +kernel
set_option maxRecDepth 20000 in
theorem ggX9_meet_X8_hasSet : GoodIn wsX9_meet wsX8_hasSet := goodIn_r _ [7, 8, 9, 10, 6, 11, 12, 87, 88, 89, 90, 91, 92, 93, 94, 95, 96, 97, 98, 99, 100] (by decide +kernel) (by decide +kernel)
set_option maxRecDepth 20000 in
theorem gX9_meet_X8_hasSet : GoodIn wsX9_meet (wsV RX9 152 RX8 yX8_hasSet wsX8_hasSet) := goodIn_app (goodIn_of _ (by decide +kernel)) ggX9_meet_X8_hasSet
set_option maxRecDepth 20000 in
theorem ggX9_meet_X9_isEither : GoodIn wsX9_meet wsX9_isEither := goodIn_r _ [16] (by decide +kernel) (by decide +kernel)
set_option maxRecDepth 20000 in
theorem gX9_meet_X9_isEither : GoodIn wsX9_meet (va_wsS RX9 187 yX9_isEither wsX9_isEither) := goodIn_app (goodIn_of _ (by decide +kernel)) ggX9_meet_X9_isEither
set_option maxRecDepth 20000 in
theorem ggX9_meet_X9_layOpenTies : GoodIn wsX9_meet wsX9_layOpenTies := goodIn_r _ [20, 2, 1, 21, 22, 23, 6, 24, 25, 26, 27, 28, 29, 30, 31, 32, 33, 34, 35, 36, 37, 38, 39, 40, 41, 42, 43, 44, 45, 46, 47, 48, 49, 50, 51, 52, 53, 54, 55, 56, 57, 58, 59, 60, 61, 62, 63, 64, 75, 76, 77, 78, 79, 80, 81, 82, 83, 84, 85, 86, 87, 88, 89, 90, 91, 92, 93, 94, 95, 96, 97, 98, 99, 100, 101] (by decide +kernel) (by decide +kernel)
set_option maxRecDepth 20000 in
theorem gX9_meet_X9_layOpenTies : GoodIn wsX9_meet (wsV RX9 177 RX9 yX9_layOpenTies wsX9_layOpenTies) := goodIn_app (goodIn_of _ (by decide +kernel)) ggX9_meet_X9_layOpenTies
set_option maxRecDepth 20000 in
theorem ggX9_meet_X8_everybody : GoodIn wsX9_meet wsX8_everybody := goodIn_r _ [11, 12, 87, 88, 89, 90, 91, 92, 93, 94, 95, 96, 97, 98, 99, 100] (by decide +kernel) (by decide +kernel)
set_option maxRecDepth 20000 in
theorem gX9_meet_X8_everybody : GoodIn wsX9_meet (wsV RX9 180 RX8 yX8_everybody wsX8_everybody) := goodIn_app (goodIn_of _ (by decide +kernel)) ggX9_meet_X8_everybody
set_option maxRecDepth 20000 in
theorem ggX9_meet_J6_bitCount_0f7a4 : GoodIn wsX9_meet wsJ6_bitCount_0f7a4 := goodIn_r _ [48, 49, 50, 51] (by decide +kernel) (by decide +kernel)
set_option maxRecDepth 20000 in
theorem gX9_meet_J6_bitCount_0f7a4 : GoodIn wsX9_meet (va_wsS RX9 227 yJ6_bitCount_0f7a4 wsJ6_bitCount_0f7a4) := goodIn_app (goodIn_of _ (by decide +kernel)) ggX9_meet_J6_bitCount_0f7a4
set_option maxRecDepth 20000 in
theorem ggX9_meet_X3_flood : GoodIn wsX9_meet wsX3_flood := goodIn_r _ [70, 57, 71, 46, 47, 48, 49, 50, 51, 101] (by decide +kernel) (by decide +kernel)
set_option maxRecDepth 20000 in
theorem gX9_meet_X3_flood : GoodIn wsX9_meet (wsV RX9 184 RX3 yX3_flood wsX3_flood) := goodIn_app (goodIn_of _ (by decide +kernel)) ggX9_meet_X3_flood
set_option maxRecDepth 20000 in
theorem ggX9_meet_X9_countOrSet : GoodIn wsX9_meet wsX9_countOrSet := goodIn_r _ [74, 66, 46, 47, 48, 49, 50, 51] (by decide +kernel) (by decide +kernel)
set_option maxRecDepth 20000 in
theorem gX9_meet_X9_countOrSet : GoodIn wsX9_meet (va_wsS RX9 248 yX9_countOrSet wsX9_countOrSet) := goodIn_app (goodIn_of _ (by decide +kernel)) ggX9_meet_X9_countOrSet
theorem dX9_meet_0 : decode cX9_meet 0 = .ok (.iload_n 1, 1) := by decide +kernel
theorem dX9_meet_1 : decode cX9_meet 1 = .ok (.ifCond .eq 21, 3) := by decide +kernel
theorem dX9_meet_4 : decode cX9_meet 4 = .ok (.aload_n 0, 1) := by decide +kernel
theorem dX9_meet_5 : decode cX9_meet 5 = .ok (.getfield 10, 3) := by decide +kernel
theorem dX9_meet_8 : decode cX9_meet 8 = .ok (.iload_n 1, 1) := by decide +kernel
theorem dX9_meet_9 : decode cX9_meet 9 = .ok (.invokevirtual 152, 3) := by decide +kernel
theorem dX9_meet_12 : decode cX9_meet 12 = .ok (.ifCond .eq 10, 3) := by decide +kernel
theorem dX9_meet_15 : decode cX9_meet 15 = .ok (.iload_n 2, 1) := by decide +kernel
theorem dX9_meet_16 : decode cX9_meet 16 = .ok (.invokestatic 187, 3) := by decide +kernel
theorem dX9_meet_19 : decode cX9_meet 19 = .ok (.ifCond .ne 5, 3) := by decide +kernel
theorem dX9_meet_22 : decode cX9_meet 22 = .ok (.iconst (-1), 1) := by decide +kernel
theorem dX9_meet_23 : decode cX9_meet 23 = .ok (.ireturn, 1) := by decide +kernel
theorem dX9_meet_24 : decode cX9_meet 24 = .ok (.aload_n 0, 1) := by decide +kernel
theorem dX9_meet_25 : decode cX9_meet 25 = .ok (.invokevirtual 177, 3) := by decide +kernel
theorem dX9_meet_28 : decode cX9_meet 28 = .ok (.iconst 0, 1) := by decide +kernel
theorem dX9_meet_29 : decode cX9_meet 29 = .ok (.istore_n 3, 1) := by decide +kernel
theorem dX9_meet_30 : decode cX9_meet 30 = .ok (.iload_n 1, 1) := by decide +kernel
theorem dX9_meet_31 : decode cX9_meet 31 = .ok (.istore 4, 2) := by decide +kernel
theorem dX9_meet_33 : decode cX9_meet 33 = .ok (.iload 4, 2) := by decide +kernel
theorem dX9_meet_35 : decode cX9_meet 35 = .ok (.aload_n 0, 1) := by decide +kernel
theorem dX9_meet_36 : decode cX9_meet 36 = .ok (.getfield 10, 3) := by decide +kernel
theorem dX9_meet_39 : decode cX9_meet 39 = .ok (.invokevirtual 180, 3) := by decide +kernel
theorem dX9_meet_42 : decode cX9_meet 42 = .ok (.if_icmp .gt 68, 3) := by decide +kernel
theorem dX9_meet_45 : decode cX9_meet 45 = .ok (.iload_n 3, 1) := by decide +kernel
theorem dX9_meet_46 : decode cX9_meet 46 = .ok (.ifCond .eq 15, 3) := by decide +kernel
theorem dX9_meet_49 : decode cX9_meet 49 = .ok (.iload 4, 2) := by decide +kernel
theorem dX9_meet_51 : decode cX9_meet 51 = .ok (.invokestatic 227, 3) := by decide +kernel
theorem dX9_meet_54 : decode cX9_meet 54 = .ok (.iload_n 3, 1) := by decide +kernel
theorem dX9_meet_55 : decode cX9_meet 55 = .ok (.invokestatic 227, 3) := by decide +kernel
theorem dX9_meet_58 : decode cX9_meet 58 = .ok (.if_icmp .ge 7, 3) := by decide +kernel
theorem dX9_meet_61 : decode cX9_meet 61 = .ok (.iconst 1, 1) := by decide +kernel
theorem dX9_meet_62 : decode cX9_meet 62 = .ok (.goto 4, 3) := by decide +kernel
theorem dX9_meet_65 : decode cX9_meet 65 = .ok (.iconst 0, 1) := by decide +kernel
theorem dX9_meet_66 : decode cX9_meet 66 = .ok (.istore 5, 2) := by decide +kernel
theorem dX9_meet_68 : decode cX9_meet 68 = .ok (.iload 5, 2) := by decide +kernel
theorem dX9_meet_70 : decode cX9_meet 70 = .ok (.ifCond .eq 34, 3) := by decide +kernel
theorem dX9_meet_73 : decode cX9_meet 73 = .ok (.iload 4, 2) := by decide +kernel
theorem dX9_meet_75 : decode cX9_meet 75 = .ok (.iload_n 1, 1) := by decide +kernel
theorem dX9_meet_76 : decode cX9_meet 76 = .ok (.iand, 1) := by decide +kernel
theorem dX9_meet_77 : decode cX9_meet 77 = .ok (.iload_n 1, 1) := by decide +kernel
theorem dX9_meet_78 : decode cX9_meet 78 = .ok (.if_icmp .ne 26, 3) := by decide +kernel
theorem dX9_meet_81 : decode cX9_meet 81 = .ok (.aload_n 0, 1) := by decide +kernel
theorem dX9_meet_82 : decode cX9_meet 82 = .ok (.getfield 36, 3) := by decide +kernel
theorem dX9_meet_85 : decode cX9_meet 85 = .ok (.iload 4, 2) := by decide +kernel
theorem dX9_meet_87 : decode cX9_meet 87 = .ok (.iload 4, 2) := by decide +kernel
theorem dX9_meet_89 : decode cX9_meet 89 = .ok (.ineg, 1) := by decide +kernel
theorem dX9_meet_90 : decode cX9_meet 90 = .ok (.iand, 1) := by decide +kernel
theorem dX9_meet_91 : decode cX9_meet 91 = .ok (.iload 4, 2) := by decide +kernel
theorem dX9_meet_93 : decode cX9_meet 93 = .ok (.invokevirtual 184, 3) := by decide +kernel
theorem dX9_meet_96 : decode cX9_meet 96 = .ok (.iload 4, 2) := by decide +kernel
theorem dX9_meet_98 : decode cX9_meet 98 = .ok (.if_icmp .ne 6, 3) := by decide +kernel
theorem dX9_meet_101 : decode cX9_meet 101 = .ok (.iload 4, 2) := by decide +kernel
theorem dX9_meet_103 : decode cX9_meet 103 = .ok (.istore_n 3, 1) := by decide +kernel
theorem dX9_meet_104 : decode cX9_meet 104 = .ok (.iinc 4 1, 3) := by decide +kernel
theorem dX9_meet_107 : decode cX9_meet 107 = .ok (.goto (-74), 3) := by decide +kernel
theorem dX9_meet_110 : decode cX9_meet 110 = .ok (.iload_n 3, 1) := by decide +kernel
theorem dX9_meet_111 : decode cX9_meet 111 = .ok (.ifCond .ne 8, 3) := by decide +kernel
theorem dX9_meet_114 : decode cX9_meet 114 = .ok (.bipush (-3), 2) := by decide +kernel
theorem dX9_meet_116 : decode cX9_meet 116 = .ok (.goto 8, 3) := by decide +kernel
theorem dX9_meet_119 : decode cX9_meet 119 = .ok (.iload_n 3, 1) := by decide +kernel
theorem dX9_meet_120 : decode cX9_meet 120 = .ok (.iload_n 2, 1) := by decide +kernel
theorem dX9_meet_121 : decode cX9_meet 121 = .ok (.invokestatic 248, 3) := by decide +kernel
theorem dX9_meet_124 : decode cX9_meet 124 = .ok (.ireturn, 1) := by decide +kernel
set_option maxRecDepth 20000 in
theorem ggX9_tell_X9_isEither : GoodIn wsX9_tell wsX9_isEither := goodIn_r _ [6] (by decide +kernel) (by decide +kernel)
set_option maxRecDepth 20000 in
theorem gX9_tell_X9_isEither : GoodIn wsX9_tell (va_wsS RX9 187 yX9_isEither wsX9_isEither) := goodIn_app (goodIn_of _ (by decide +kernel)) ggX9_tell_X9_isEither
set_option maxRecDepth 20000 in
theorem ggX9_tell_X8_everybody : GoodIn wsX9_tell wsX8_everybody := goodIn_r _ [11, 12, 88, 89, 90, 91, 92, 93, 94, 95, 96, 97, 98, 99, 100, 101] (by decide +kernel) (by decide +kernel)
set_option maxRecDepth 20000 in
theorem gX9_tell_X8_everybody : GoodIn wsX9_tell (wsV RX9 180 RX8 yX8_everybody wsX8_everybody) := goodIn_app (goodIn_of _ (by decide +kernel)) ggX9_tell_X8_everybody
set_option maxRecDepth 20000 in
theorem ggX9_tell_X1_fillReached : GoodIn wsX9_tell wsX1_fillReached := goodIn_r _ [17, 18, 19, 20, 21, 22, 16, 23, 24, 25, 26, 27, 28, 29, 30, 31, 32, 33, 34, 35, 36, 37, 38, 10, 39, 40, 41, 42, 43, 44, 45, 46, 47, 48, 49, 50, 51, 52, 53, 54, 55, 56, 57, 58, 59, 60, 61, 62, 63, 64, 65, 66, 67, 88, 89, 90, 91, 92, 93, 94, 95, 96, 97, 98, 99, 100, 101, 102, 103] (by decide +kernel) (by decide +kernel)
set_option maxRecDepth 20000 in
theorem gX9_tell_X1_fillReached : GoodIn wsX9_tell (wsV RX9 303 RX1 yX1_fillReached wsX1_fillReached) := goodIn_app (goodIn_of _ (by decide +kernel)) ggX9_tell_X1_fillReached
set_option maxRecDepth 20000 in
theorem ggX9_tell_J6_bitCount_0f7a4 : GoodIn wsX9_tell wsJ6_bitCount_0f7a4 := goodIn_r _ [45, 46, 47, 48] (by decide +kernel) (by decide +kernel)
set_option maxRecDepth 20000 in
theorem gX9_tell_J6_bitCount_0f7a4 : GoodIn wsX9_tell (va_wsS RX9 227 yJ6_bitCount_0f7a4 wsJ6_bitCount_0f7a4) := goodIn_app (goodIn_of _ (by decide +kernel)) ggX9_tell_J6_bitCount_0f7a4
set_option maxRecDepth 20000 in
theorem ggX9_tell_X1_reachedBy : GoodIn wsX9_tell wsX1_reachedBy := goodIn_r _ [72, 19, 102, 103] (by decide +kernel) (by decide +kernel)
set_option maxRecDepth 20000 in
theorem gX9_tell_X1_reachedBy : GoodIn wsX9_tell (wsV RX9 306 RX1 yX1_reachedBy wsX1_reachedBy) := goodIn_app (goodIn_of _ (by decide +kernel)) ggX9_tell_X1_reachedBy
set_option maxRecDepth 20000 in
theorem ggX9_tell_X9_countOrSet : GoodIn wsX9_tell wsX9_countOrSet := goodIn_r _ [75, 68, 43, 44, 45, 46, 47, 48] (by decide +kernel) (by decide +kernel)
set_option maxRecDepth 20000 in
theorem gX9_tell_X9_countOrSet : GoodIn wsX9_tell (va_wsS RX9 248 yX9_countOrSet wsX9_countOrSet) := goodIn_app (goodIn_of _ (by decide +kernel)) ggX9_tell_X9_countOrSet
theorem dX9_tell_0 : decode cX9_tell 0 = .ok (.iload_n 1, 1) := by decide +kernel
theorem dX9_tell_1 : decode cX9_tell 1 = .ok (.ifCond .lt 16, 3) := by decide +kernel
theorem dX9_tell_4 : decode cX9_tell 4 = .ok (.iload_n 1, 1) := by decide +kernel
theorem dX9_tell_5 : decode cX9_tell 5 = .ok (.bipush 100, 2) := by decide +kernel
theorem dX9_tell_7 : decode cX9_tell 7 = .ok (.if_icmp .gt 10, 3) := by decide +kernel
theorem dX9_tell_10 : decode cX9_tell 10 = .ok (.iload_n 2, 1) := by decide +kernel
theorem dX9_tell_11 : decode cX9_tell 11 = .ok (.invokestatic 187, 3) := by decide +kernel
theorem dX9_tell_14 : decode cX9_tell 14 = .ok (.ifCond .ne 5, 3) := by decide +kernel
theorem dX9_tell_17 : decode cX9_tell 17 = .ok (.iconst (-1), 1) := by decide +kernel
theorem dX9_tell_18 : decode cX9_tell 18 = .ok (.ireturn, 1) := by decide +kernel
theorem dX9_tell_19 : decode cX9_tell 19 = .ok (.aload_n 0, 1) := by decide +kernel
theorem dX9_tell_20 : decode cX9_tell 20 = .ok (.getfield 10, 3) := by decide +kernel
theorem dX9_tell_23 : decode cX9_tell 23 = .ok (.invokevirtual 180, 3) := by decide +kernel
theorem dX9_tell_26 : decode cX9_tell 26 = .ok (.istore_n 3, 1) := by decide +kernel
theorem dX9_tell_27 : decode cX9_tell 27 = .ok (.aload_n 0, 1) := by decide +kernel
theorem dX9_tell_28 : decode cX9_tell 28 = .ok (.getfield 57, 3) := by decide +kernel
theorem dX9_tell_31 : decode cX9_tell 31 = .ok (.aload_n 0, 1) := by decide +kernel
theorem dX9_tell_32 : decode cX9_tell 32 = .ok (.getfield 10, 3) := by decide +kernel
theorem dX9_tell_35 : decode cX9_tell 35 = .ok (.iload_n 1, 1) := by decide +kernel
theorem dX9_tell_36 : decode cX9_tell 36 = .ok (.invokevirtual 303, 3) := by decide +kernel
theorem dX9_tell_39 : decode cX9_tell 39 = .ok (.iload_n 3, 1) := by decide +kernel
theorem dX9_tell_40 : decode cX9_tell 40 = .ok (.istore 4, 2) := by decide +kernel
theorem dX9_tell_42 : decode cX9_tell 42 = .ok (.iconst 0, 1) := by decide +kernel
theorem dX9_tell_43 : decode cX9_tell 43 = .ok (.istore 5, 2) := by decide +kernel
theorem dX9_tell_45 : decode cX9_tell 45 = .ok (.iload 5, 2) := by decide +kernel
theorem dX9_tell_47 : decode cX9_tell 47 = .ok (.iload_n 3, 1) := by decide +kernel
theorem dX9_tell_48 : decode cX9_tell 48 = .ok (.if_icmp .gt 51, 3) := by decide +kernel
theorem dX9_tell_51 : decode cX9_tell 51 = .ok (.iload 5, 2) := by decide +kernel
theorem dX9_tell_53 : decode cX9_tell 53 = .ok (.invokestatic 227, 3) := by decide +kernel
theorem dX9_tell_56 : decode cX9_tell 56 = .ok (.iload 4, 2) := by decide +kernel
theorem dX9_tell_58 : decode cX9_tell 58 = .ok (.invokestatic 227, 3) := by decide +kernel
theorem dX9_tell_61 : decode cX9_tell 61 = .ok (.if_icmp .ge 7, 3) := by decide +kernel
theorem dX9_tell_64 : decode cX9_tell 64 = .ok (.iconst 1, 1) := by decide +kernel
theorem dX9_tell_65 : decode cX9_tell 65 = .ok (.goto 4, 3) := by decide +kernel
theorem dX9_tell_68 : decode cX9_tell 68 = .ok (.iconst 0, 1) := by decide +kernel
theorem dX9_tell_69 : decode cX9_tell 69 = .ok (.istore 6, 2) := by decide +kernel
theorem dX9_tell_71 : decode cX9_tell 71 = .ok (.iload 6, 2) := by decide +kernel
theorem dX9_tell_73 : decode cX9_tell 73 = .ok (.ifCond .eq 20, 3) := by decide +kernel
theorem dX9_tell_76 : decode cX9_tell 76 = .ok (.aload_n 0, 1) := by decide +kernel
theorem dX9_tell_77 : decode cX9_tell 77 = .ok (.getfield 57, 3) := by decide +kernel
theorem dX9_tell_80 : decode cX9_tell 80 = .ok (.iload 5, 2) := by decide +kernel
theorem dX9_tell_82 : decode cX9_tell 82 = .ok (.invokevirtual 306, 3) := by decide +kernel
theorem dX9_tell_85 : decode cX9_tell 85 = .ok (.iload_n 3, 1) := by decide +kernel
theorem dX9_tell_86 : decode cX9_tell 86 = .ok (.if_icmp .ne 7, 3) := by decide +kernel
theorem dX9_tell_89 : decode cX9_tell 89 = .ok (.iload 5, 2) := by decide +kernel
theorem dX9_tell_91 : decode cX9_tell 91 = .ok (.istore 4, 2) := by decide +kernel
theorem dX9_tell_93 : decode cX9_tell 93 = .ok (.iinc 5 1, 3) := by decide +kernel
theorem dX9_tell_96 : decode cX9_tell 96 = .ok (.goto (-51), 3) := by decide +kernel
theorem dX9_tell_99 : decode cX9_tell 99 = .ok (.iload 4, 2) := by decide +kernel
theorem dX9_tell_101 : decode cX9_tell 101 = .ok (.iload_n 2, 1) := by decide +kernel
theorem dX9_tell_102 : decode cX9_tell 102 = .ok (.invokestatic 248, 3) := by decide +kernel
theorem dX9_tell_105 : decode cX9_tell 105 = .ok (.ireturn, 1) := by decide +kernel
set_option maxRecDepth 20000 in
theorem ggX9_best_X2_hasPlace : GoodIn wsX9_best wsX2_hasPlace := goodIn_r _ [9] (by decide +kernel) (by decide +kernel)
set_option maxRecDepth 20000 in
theorem gX9_best_X2_hasPlace : GoodIn wsX9_best (va_wsS RX9 309 yX2_hasPlace wsX2_hasPlace) := goodIn_app (goodIn_of _ (by decide +kernel)) ggX9_best_X2_hasPlace
set_option maxRecDepth 20000 in
theorem ggX9_best_X9_isEither : GoodIn wsX9_best wsX9_isEither := goodIn_r _ [13] (by decide +kernel) (by decide +kernel)
set_option maxRecDepth 20000 in
theorem gX9_best_X9_isEither : GoodIn wsX9_best (va_wsS RX9 187 yX9_isEither wsX9_isEither) := goodIn_app (goodIn_of _ (by decide +kernel)) ggX9_best_X9_isEither
set_option maxRecDepth 20000 in
theorem ggX9_best_X2_refusalOf : GoodIn wsX9_best wsX2_refusalOf := goodIn_r _ [17, 18, 94, 95, 96, 97, 98, 99] (by decide +kernel) (by decide +kernel)
set_option maxRecDepth 20000 in
theorem gX9_best_X2_refusalOf : GoodIn wsX9_best (wsV RX9 312 RX2 yX2_refusalOf wsX2_refusalOf) := goodIn_app (goodIn_of _ (by decide +kernel)) ggX9_best_X2_refusalOf
set_option maxRecDepth 20000 in
theorem ggX9_best_X8_openTies : GoodIn wsX9_best wsX8_openTies := goodIn_r _ [23, 24, 25, 26, 27, 22, 28, 29, 30, 31, 32, 33, 34, 35, 36, 37, 38, 39, 40, 41, 42, 43, 44, 45, 46, 47, 48, 49, 50, 100, 101, 102, 103, 104, 105, 106, 107, 108, 109, 110, 111, 112, 113] (by decide +kernel) (by decide +kernel)
set_option maxRecDepth 20000 in
theorem gX9_best_X8_openTies : GoodIn wsX9_best (wsV RX9 235 RX8 yX8_openTies wsX8_openTies) := goodIn_app (goodIn_of _ (by decide +kernel)) ggX9_best_X8_openTies
set_option maxRecDepth 20000 in
theorem ggX9_best_X3_lay : GoodIn wsX9_best wsX3_lay := goodIn_r _ [55, 56, 57, 58, 59, 60, 61, 62, 63, 114, 100, 101, 102, 103, 104, 105, 106, 107, 108, 109, 110, 111, 112, 113] (by decide +kernel) (by decide +kernel)
set_option maxRecDepth 20000 in
theorem gX9_best_X3_lay : GoodIn wsX9_best (wsV RX9 321 RX3 yX3_lay wsX3_lay) := goodIn_app (goodIn_of _ (by decide +kernel)) ggX9_best_X3_lay
set_option maxRecDepth 20000 in
theorem ggX9_best_X8_everybody : GoodIn wsX9_best wsX8_everybody := goodIn_r _ [67, 68, 100, 101, 102, 103, 104, 105, 106, 107, 108, 109, 110, 111, 112, 113] (by decide +kernel) (by decide +kernel)
set_option maxRecDepth 20000 in
theorem gX9_best_X8_everybody : GoodIn wsX9_best (wsV RX9 180 RX8 yX8_everybody wsX8_everybody) := goodIn_app (goodIn_of _ (by decide +kernel)) ggX9_best_X8_everybody
set_option maxRecDepth 20000 in
theorem ggX9_best_X3_greatestSet : GoodIn wsX9_best wsX3_greatestSet := goodIn_r _ [72, 73, 74, 75, 76, 77, 78, 79, 54, 80, 56, 81, 45, 46, 47, 48, 49, 50, 114] (by decide +kernel) (by decide +kernel)
set_option maxRecDepth 20000 in
theorem gX9_best_X3_greatestSet : GoodIn wsX9_best (wsV RX9 194 RX3 yX3_greatestSet wsX3_greatestSet) := goodIn_app (goodIn_of _ (by decide +kernel)) ggX9_best_X3_greatestSet
theorem dX9_best_0 : decode cX9_best 0 = .ok (.iload_n 1, 1) := by decide +kernel
theorem dX9_best_1 : decode cX9_best 1 = .ok (.invokestatic 309, 3) := by decide +kernel
theorem dX9_best_4 : decode cX9_best 4 = .ok (.ifCond .eq 10, 3) := by decide +kernel
theorem dX9_best_7 : decode cX9_best 7 = .ok (.iload_n 2, 1) := by decide +kernel
theorem dX9_best_8 : decode cX9_best 8 = .ok (.invokestatic 187, 3) := by decide +kernel
theorem dX9_best_11 : decode cX9_best 11 = .ok (.ifCond .ne 5, 3) := by decide +kernel
theorem dX9_best_14 : decode cX9_best 14 = .ok (.iconst (-1), 1) := by decide +kernel
theorem dX9_best_15 : decode cX9_best 15 = .ok (.ireturn, 1) := by decide +kernel
theorem dX9_best_16 : decode cX9_best 16 = .ok (.aload_n 0, 1) := by decide +kernel
theorem dX9_best_17 : decode cX9_best 17 = .ok (.getfield 71, 3) := by decide +kernel
theorem dX9_best_20 : decode cX9_best 20 = .ok (.iload_n 1, 1) := by decide +kernel
theorem dX9_best_21 : decode cX9_best 21 = .ok (.iconst 2, 1) := by decide +kernel
theorem dX9_best_22 : decode cX9_best 22 = .ok (.invokevirtual 312, 3) := by decide +kernel
theorem dX9_best_25 : decode cX9_best 25 = .ok (.istore_n 3, 1) := by decide +kernel
theorem dX9_best_26 : decode cX9_best 26 = .ok (.iload_n 3, 1) := by decide +kernel
theorem dX9_best_27 : decode cX9_best 27 = .ok (.ifCond .eq 5, 3) := by decide +kernel
theorem dX9_best_30 : decode cX9_best 30 = .ok (.iload_n 3, 1) := by decide +kernel
theorem dX9_best_31 : decode cX9_best 31 = .ok (.ireturn, 1) := by decide +kernel
theorem dX9_best_32 : decode cX9_best 32 = .ok (.aload_n 0, 1) := by decide +kernel
theorem dX9_best_33 : decode cX9_best 33 = .ok (.getfield 10, 3) := by decide +kernel
theorem dX9_best_36 : decode cX9_best 36 = .ok (.iconst 0, 1) := by decide +kernel
theorem dX9_best_37 : decode cX9_best 37 = .ok (.invokevirtual 235, 3) := by decide +kernel
theorem dX9_best_40 : decode cX9_best 40 = .ok (.istore 4, 2) := by decide +kernel
theorem dX9_best_42 : decode cX9_best 42 = .ok (.bipush (-3), 2) := by decide +kernel
theorem dX9_best_44 : decode cX9_best 44 = .ok (.istore 5, 2) := by decide +kernel
theorem dX9_best_46 : decode cX9_best 46 = .ok (.bipush 11, 2) := by decide +kernel
theorem dX9_best_48 : decode cX9_best 48 = .ok (.istore 6, 2) := by decide +kernel
theorem dX9_best_50 : decode cX9_best 50 = .ok (.iconst 0, 1) := by decide +kernel
theorem dX9_best_51 : decode cX9_best 51 = .ok (.istore 7, 2) := by decide +kernel
theorem dX9_best_53 : decode cX9_best 53 = .ok (.iload 7, 2) := by decide +kernel
theorem dX9_best_55 : decode cX9_best 55 = .ok (.aload_n 0, 1) := by decide +kernel
theorem dX9_best_56 : decode cX9_best 56 = .ok (.getfield 71, 3) := by decide +kernel
theorem dX9_best_59 : decode cX9_best 59 = .ok (.getfield 315, 3) := by decide +kernel
theorem dX9_best_62 : decode cX9_best 62 = .ok (.iload_n 1, 1) := by decide +kernel
theorem dX9_best_63 : decode cX9_best 63 = .ok (.iaload, 1) := by decide +kernel
theorem dX9_best_64 : decode cX9_best 64 = .ok (.if_icmp .ge 68, 3) := by decide +kernel
theorem dX9_best_67 : decode cX9_best 67 = .ok (.aload_n 0, 1) := by decide +kernel
theorem dX9_best_68 : decode cX9_best 68 = .ok (.getfield 36, 3) := by decide +kernel
theorem dX9_best_71 : decode cX9_best 71 = .ok (.aload_n 0, 1) := by decide +kernel
theorem dX9_best_72 : decode cX9_best 72 = .ok (.getfield 10, 3) := by decide +kernel
theorem dX9_best_75 : decode cX9_best 75 = .ok (.iload 4, 2) := by decide +kernel
theorem dX9_best_77 : decode cX9_best 77 = .ok (.aload_n 0, 1) := by decide +kernel
theorem dX9_best_78 : decode cX9_best 78 = .ok (.getfield 71, 3) := by decide +kernel
theorem dX9_best_81 : decode cX9_best 81 = .ok (.getfield 318, 3) := by decide +kernel
theorem dX9_best_84 : decode cX9_best 84 = .ok (.iload_n 1, 1) := by decide +kernel
theorem dX9_best_85 : decode cX9_best 85 = .ok (.aaload, 1) := by decide +kernel
theorem dX9_best_86 : decode cX9_best 86 = .ok (.iload 7, 2) := by decide +kernel
theorem dX9_best_88 : decode cX9_best 88 = .ok (.iaload, 1) := by decide +kernel
theorem dX9_best_89 : decode cX9_best 89 = .ok (.iconst (-1), 1) := by decide +kernel
theorem dX9_best_90 : decode cX9_best 90 = .ok (.ixor, 1) := by decide +kernel
theorem dX9_best_91 : decode cX9_best 91 = .ok (.iand, 1) := by decide +kernel
theorem dX9_best_92 : decode cX9_best 92 = .ok (.invokevirtual 321, 3) := by decide +kernel
theorem dX9_best_95 : decode cX9_best 95 = .ok (.aload_n 0, 1) := by decide +kernel
theorem dX9_best_96 : decode cX9_best 96 = .ok (.getfield 36, 3) := by decide +kernel
theorem dX9_best_99 : decode cX9_best 99 = .ok (.aload_n 0, 1) := by decide +kernel
theorem dX9_best_100 : decode cX9_best 100 = .ok (.getfield 10, 3) := by decide +kernel
theorem dX9_best_103 : decode cX9_best 103 = .ok (.invokevirtual 180, 3) := by decide +kernel
theorem dX9_best_106 : decode cX9_best 106 = .ok (.invokevirtual 194, 3) := by decide +kernel
theorem dX9_best_109 : decode cX9_best 109 = .ok (.istore 8, 2) := by decide +kernel
theorem dX9_best_111 : decode cX9_best 111 = .ok (.iload 8, 2) := by decide +kernel
theorem dX9_best_113 : decode cX9_best 113 = .ok (.iload 6, 2) := by decide +kernel
theorem dX9_best_115 : decode cX9_best 115 = .ok (.if_icmp .ge 11, 3) := by decide +kernel
theorem dX9_best_118 : decode cX9_best 118 = .ok (.iload 8, 2) := by decide +kernel
theorem dX9_best_120 : decode cX9_best 120 = .ok (.istore 6, 2) := by decide +kernel
theorem dX9_best_122 : decode cX9_best 122 = .ok (.iload 7, 2) := by decide +kernel
theorem dX9_best_124 : decode cX9_best 124 = .ok (.istore 5, 2) := by decide +kernel
theorem dX9_best_126 : decode cX9_best 126 = .ok (.iinc 7 1, 3) := by decide +kernel
theorem dX9_best_129 : decode cX9_best 129 = .ok (.goto (-76), 3) := by decide +kernel
theorem dX9_best_132 : decode cX9_best 132 = .ok (.iload_n 2, 1) := by decide +kernel
theorem dX9_best_133 : decode cX9_best 133 = .ok (.ifCond .eq 8, 3) := by decide +kernel
theorem dX9_best_136 : decode cX9_best 136 = .ok (.iload 5, 2) := by decide +kernel
theorem dX9_best_138 : decode cX9_best 138 = .ok (.ifCond .ge 8, 3) := by decide +kernel
theorem dX9_best_141 : decode cX9_best 141 = .ok (.iload 5, 2) := by decide +kernel
theorem dX9_best_143 : decode cX9_best 143 = .ok (.goto 5, 3) := by decide +kernel
theorem dX9_best_146 : decode cX9_best 146 = .ok (.iload 6, 2) := by decide +kernel
theorem dX9_best_148 : decode cX9_best 148 = .ok (.ireturn, 1) := by decide +kernel
set_option maxRecDepth 20000 in
theorem ggX9_sheet_X2_hasPlace : GoodIn wsX9_sheet wsX2_hasPlace := goodIn_r _ [5] (by decide +kernel) (by decide +kernel)
set_option maxRecDepth 20000 in
theorem gX9_sheet_X2_hasPlace : GoodIn wsX9_sheet (va_wsS RX9 309 yX2_hasPlace wsX2_hasPlace) := goodIn_app (goodIn_of _ (by decide +kernel)) ggX9_sheet_X2_hasPlace
set_option maxRecDepth 20000 in
theorem ggX9_sheet_X2_renew : GoodIn wsX9_sheet wsX2_renew := goodIn_r _ [9, 10, 11, 12, 13, 14, 15, 16, 29, 30, 31, 32, 33, 34] (by decide +kernel) (by decide +kernel)
set_option maxRecDepth 20000 in
theorem gX9_sheet_X2_renew : GoodIn wsX9_sheet (wsV RX9 324 RX2 yX2_renew wsX2_renew) := goodIn_app (goodIn_of _ (by decide +kernel)) ggX9_sheet_X2_renew
theorem dX9_sheet_0 : decode cX9_sheet 0 = .ok (.iload_n 1, 1) := by decide +kernel
theorem dX9_sheet_1 : decode cX9_sheet 1 = .ok (.invokestatic 309, 3) := by decide +kernel
theorem dX9_sheet_4 : decode cX9_sheet 4 = .ok (.ifCond .eq 13, 3) := by decide +kernel
theorem dX9_sheet_7 : decode cX9_sheet 7 = .ok (.iload_n 2, 1) := by decide +kernel
theorem dX9_sheet_8 : decode cX9_sheet 8 = .ok (.iconst (-1), 1) := by decide +kernel
theorem dX9_sheet_9 : decode cX9_sheet 9 = .ok (.if_icmp .lt 8, 3) := by decide +kernel
theorem dX9_sheet_12 : decode cX9_sheet 12 = .ok (.iload_n 2, 1) := by decide +kernel
theorem dX9_sheet_13 : decode cX9_sheet 13 = .ok (.iconst 3, 1) := by decide +kernel
theorem dX9_sheet_14 : decode cX9_sheet 14 = .ok (.if_icmp .le 5, 3) := by decide +kernel
theorem dX9_sheet_17 : decode cX9_sheet 17 = .ok (.iconst (-1), 1) := by decide +kernel
theorem dX9_sheet_18 : decode cX9_sheet 18 = .ok (.ireturn, 1) := by decide +kernel
theorem dX9_sheet_19 : decode cX9_sheet 19 = .ok (.iload_n 2, 1) := by decide +kernel
theorem dX9_sheet_20 : decode cX9_sheet 20 = .ok (.iconst (-1), 1) := by decide +kernel
theorem dX9_sheet_21 : decode cX9_sheet 21 = .ok (.if_icmp .eq 11, 3) := by decide +kernel
theorem dX9_sheet_24 : decode cX9_sheet 24 = .ok (.iload_n 3, 1) := by decide +kernel
theorem dX9_sheet_25 : decode cX9_sheet 25 = .ok (.bipush 40, 2) := by decide +kernel
theorem dX9_sheet_27 : decode cX9_sheet 27 = .ok (.if_icmp .le 5, 3) := by decide +kernel
theorem dX9_sheet_30 : decode cX9_sheet 30 = .ok (.iconst (-1), 1) := by decide +kernel
theorem dX9_sheet_31 : decode cX9_sheet 31 = .ok (.ireturn, 1) := by decide +kernel
theorem dX9_sheet_32 : decode cX9_sheet 32 = .ok (.iload_n 2, 1) := by decide +kernel
theorem dX9_sheet_33 : decode cX9_sheet 33 = .ok (.iconst (-1), 1) := by decide +kernel
theorem dX9_sheet_34 : decode cX9_sheet 34 = .ok (.if_icmp .eq 10, 3) := by decide +kernel
theorem dX9_sheet_37 : decode cX9_sheet 37 = .ok (.iload_n 3, 1) := by decide +kernel
theorem dX9_sheet_38 : decode cX9_sheet 38 = .ok (.ifCond .ge 6, 3) := by decide +kernel
theorem dX9_sheet_41 : decode cX9_sheet 41 = .ok (.bipush (-14), 2) := by decide +kernel
theorem dX9_sheet_43 : decode cX9_sheet 43 = .ok (.ireturn, 1) := by decide +kernel
theorem dX9_sheet_44 : decode cX9_sheet 44 = .ok (.aload_n 0, 1) := by decide +kernel
theorem dX9_sheet_45 : decode cX9_sheet 45 = .ok (.getfield 71, 3) := by decide +kernel
theorem dX9_sheet_48 : decode cX9_sheet 48 = .ok (.iload_n 1, 1) := by decide +kernel
theorem dX9_sheet_49 : decode cX9_sheet 49 = .ok (.iload_n 2, 1) := by decide +kernel
theorem dX9_sheet_50 : decode cX9_sheet 50 = .ok (.iload_n 3, 1) := by decide +kernel
theorem dX9_sheet_51 : decode cX9_sheet 51 = .ok (.invokevirtual 324, 3) := by decide +kernel
theorem dX9_sheet_54 : decode cX9_sheet 54 = .ok (.iconst 1, 1) := by decide +kernel
theorem dX9_sheet_55 : decode cX9_sheet 55 = .ok (.ireturn, 1) := by decide +kernel
set_option maxRecDepth 20000 in
theorem ggX9_put_X2_hasPlace : GoodIn wsX9_put wsX2_hasPlace := goodIn_r _ [8] (by decide +kernel) (by decide +kernel)
set_option maxRecDepth 20000 in
theorem gX9_put_X2_hasPlace : GoodIn wsX9_put (va_wsS RX9 309 yX2_hasPlace wsX2_hasPlace) := goodIn_app (goodIn_of _ (by decide +kernel)) ggX9_put_X2_hasPlace
set_option maxRecDepth 20000 in
theorem ggX9_put_X2_narrowed : GoodIn wsX9_put wsX2_narrowed := goodIn_r _ [11] (by decide +kernel) (by decide +kernel)
set_option maxRecDepth 20000 in
theorem gX9_put_X2_narrowed : GoodIn wsX9_put (va_wsS RX9 331 yX2_narrowed wsX2_narrowed) := goodIn_app (goodIn_of _ (by decide +kernel)) ggX9_put_X2_narrowed
theorem dX9_put_0 : decode cX9_put 0 = .ok (.iload_n 1, 1) := by decide +kernel
theorem dX9_put_1 : decode cX9_put 1 = .ok (.invokestatic 309, 3) := by decide +kernel
theorem dX9_put_4 : decode cX9_put 4 = .ok (.ifCond .ne 5, 3) := by decide +kernel
theorem dX9_put_7 : decode cX9_put 7 = .ok (.iconst (-1), 1) := by decide +kernel
theorem dX9_put_8 : decode cX9_put 8 = .ok (.ireturn, 1) := by decide +kernel
theorem dX9_put_9 : decode cX9_put 9 = .ok (.aload_n 0, 1) := by decide +kernel
theorem dX9_put_10 : decode cX9_put 10 = .ok (.getfield 71, 3) := by decide +kernel
theorem dX9_put_13 : decode cX9_put 13 = .ok (.getfield 328, 3) := by decide +kernel
theorem dX9_put_16 : decode cX9_put 16 = .ok (.iload_n 1, 1) := by decide +kernel
theorem dX9_put_17 : decode cX9_put 17 = .ok (.iaload, 1) := by decide +kernel
theorem dX9_put_18 : decode cX9_put 18 = .ok (.iconst (-1), 1) := by decide +kernel
theorem dX9_put_19 : decode cX9_put 19 = .ok (.if_icmp .ne 6, 3) := by decide +kernel
theorem dX9_put_22 : decode cX9_put 22 = .ok (.bipush (-11), 2) := by decide +kernel
theorem dX9_put_24 : decode cX9_put 24 = .ok (.ireturn, 1) := by decide +kernel
theorem dX9_put_25 : decode cX9_put 25 = .ok (.iload_n 2, 1) := by decide +kernel
theorem dX9_put_26 : decode cX9_put 26 = .ok (.ifCond .lt 16, 3) := by decide +kernel
theorem dX9_put_29 : decode cX9_put 29 = .ok (.iload_n 2, 1) := by decide +kernel
theorem dX9_put_30 : decode cX9_put 30 = .ok (.aload_n 0, 1) := by decide +kernel
theorem dX9_put_31 : decode cX9_put 31 = .ok (.getfield 71, 3) := by decide +kernel
theorem dX9_put_34 : decode cX9_put 34 = .ok (.getfield 315, 3) := by decide +kernel
theorem dX9_put_37 : decode cX9_put 37 = .ok (.iload_n 1, 1) := by decide +kernel
theorem dX9_put_38 : decode cX9_put 38 = .ok (.iaload, 1) := by decide +kernel
theorem dX9_put_39 : decode cX9_put 39 = .ok (.if_icmp .lt 6, 3) := by decide +kernel
theorem dX9_put_42 : decode cX9_put 42 = .ok (.bipush (-12), 2) := by decide +kernel
theorem dX9_put_44 : decode cX9_put 44 = .ok (.ireturn, 1) := by decide +kernel
theorem dX9_put_45 : decode cX9_put 45 = .ok (.aload_n 0, 1) := by decide +kernel
theorem dX9_put_46 : decode cX9_put 46 = .ok (.getfield 71, 3) := by decide +kernel
theorem dX9_put_49 : decode cX9_put 49 = .ok (.getfield 318, 3) := by decide +kernel
theorem dX9_put_52 : decode cX9_put 52 = .ok (.iload_n 1, 1) := by decide +kernel
theorem dX9_put_53 : decode cX9_put 53 = .ok (.aaload, 1) := by decide +kernel
theorem dX9_put_54 : decode cX9_put 54 = .ok (.iload_n 2, 1) := by decide +kernel
theorem dX9_put_55 : decode cX9_put 55 = .ok (.iload_n 3, 1) := by decide +kernel
theorem dX9_put_56 : decode cX9_put 56 = .ok (.aload_n 0, 1) := by decide +kernel
theorem dX9_put_57 : decode cX9_put 57 = .ok (.getfield 71, 3) := by decide +kernel
theorem dX9_put_60 : decode cX9_put 60 = .ok (.getfield 328, 3) := by decide +kernel
theorem dX9_put_63 : decode cX9_put 63 = .ok (.iload_n 1, 1) := by decide +kernel
theorem dX9_put_64 : decode cX9_put 64 = .ok (.iaload, 1) := by decide +kernel
theorem dX9_put_65 : decode cX9_put 65 = .ok (.invokestatic 331, 3) := by decide +kernel
theorem dX9_put_68 : decode cX9_put 68 = .ok (.iastore, 1) := by decide +kernel
theorem dX9_put_69 : decode cX9_put 69 = .ok (.iconst 1, 1) := by decide +kernel
theorem dX9_put_70 : decode cX9_put 70 = .ok (.ireturn, 1) := by decide +kernel
set_option maxRecDepth 20000 in
theorem ggX9_item_X2_hasPlace : GoodIn wsX9_item wsX2_hasPlace := goodIn_r _ [7] (by decide +kernel) (by decide +kernel)
set_option maxRecDepth 20000 in
theorem gX9_item_X2_hasPlace : GoodIn wsX9_item (va_wsS RX9 309 yX2_hasPlace wsX2_hasPlace) := goodIn_app (goodIn_of _ (by decide +kernel)) ggX9_item_X2_hasPlace
set_option maxRecDepth 20000 in
theorem ggX9_item_X2_refusalOf : GoodIn wsX9_item wsX2_refusalOf := goodIn_r _ [11, 12, 25, 26, 27, 28, 29, 30] (by decide +kernel) (by decide +kernel)
set_option maxRecDepth 20000 in
theorem gX9_item_X2_refusalOf : GoodIn wsX9_item (wsV RX9 312 RX2 yX2_refusalOf wsX2_refusalOf) := goodIn_app (goodIn_of _ (by decide +kernel)) ggX9_item_X2_refusalOf
theorem dX9_item_0 : decode cX9_item 0 = .ok (.iload_n 1, 1) := by decide +kernel
theorem dX9_item_1 : decode cX9_item 1 = .ok (.invokestatic 309, 3) := by decide +kernel
theorem dX9_item_4 : decode cX9_item 4 = .ok (.ifCond .eq 12, 3) := by decide +kernel
theorem dX9_item_7 : decode cX9_item 7 = .ok (.iload_n 2, 1) := by decide +kernel
theorem dX9_item_8 : decode cX9_item 8 = .ok (.ifCond .lt 8, 3) := by decide +kernel
theorem dX9_item_11 : decode cX9_item 11 = .ok (.iload_n 2, 1) := by decide +kernel
theorem dX9_item_12 : decode cX9_item 12 = .ok (.iconst 3, 1) := by decide +kernel
theorem dX9_item_13 : decode cX9_item 13 = .ok (.if_icmp .le 5, 3) := by decide +kernel
theorem dX9_item_16 : decode cX9_item 16 = .ok (.iconst (-1), 1) := by decide +kernel
theorem dX9_item_17 : decode cX9_item 17 = .ok (.ireturn, 1) := by decide +kernel
theorem dX9_item_18 : decode cX9_item 18 = .ok (.aload_n 0, 1) := by decide +kernel
theorem dX9_item_19 : decode cX9_item 19 = .ok (.getfield 71, 3) := by decide +kernel
theorem dX9_item_22 : decode cX9_item 22 = .ok (.iload_n 1, 1) := by decide +kernel
theorem dX9_item_23 : decode cX9_item 23 = .ok (.iload_n 2, 1) := by decide +kernel
theorem dX9_item_24 : decode cX9_item 24 = .ok (.invokevirtual 312, 3) := by decide +kernel
theorem dX9_item_27 : decode cX9_item 27 = .ok (.istore 4, 2) := by decide +kernel
theorem dX9_item_29 : decode cX9_item 29 = .ok (.iload 4, 2) := by decide +kernel
theorem dX9_item_31 : decode cX9_item 31 = .ok (.ifCond .eq 6, 3) := by decide +kernel
theorem dX9_item_34 : decode cX9_item 34 = .ok (.iload 4, 2) := by decide +kernel
theorem dX9_item_36 : decode cX9_item 36 = .ok (.ireturn, 1) := by decide +kernel
theorem dX9_item_37 : decode cX9_item 37 = .ok (.iload_n 3, 1) := by decide +kernel
theorem dX9_item_38 : decode cX9_item 38 = .ok (.ifCond .lt 16, 3) := by decide +kernel
theorem dX9_item_41 : decode cX9_item 41 = .ok (.iload_n 3, 1) := by decide +kernel
theorem dX9_item_42 : decode cX9_item 42 = .ok (.aload_n 0, 1) := by decide +kernel
theorem dX9_item_43 : decode cX9_item 43 = .ok (.getfield 71, 3) := by decide +kernel
theorem dX9_item_46 : decode cX9_item 46 = .ok (.getfield 315, 3) := by decide +kernel
theorem dX9_item_49 : decode cX9_item 49 = .ok (.iload_n 1, 1) := by decide +kernel
theorem dX9_item_50 : decode cX9_item 50 = .ok (.iaload, 1) := by decide +kernel
theorem dX9_item_51 : decode cX9_item 51 = .ok (.if_icmp .lt 6, 3) := by decide +kernel
theorem dX9_item_54 : decode cX9_item 54 = .ok (.bipush (-12), 2) := by decide +kernel
theorem dX9_item_56 : decode cX9_item 56 = .ok (.ireturn, 1) := by decide +kernel
theorem dX9_item_57 : decode cX9_item 57 = .ok (.aload_n 0, 1) := by decide +kernel
theorem dX9_item_58 : decode cX9_item 58 = .ok (.getfield 71, 3) := by decide +kernel
theorem dX9_item_61 : decode cX9_item 61 = .ok (.getfield 318, 3) := by decide +kernel
theorem dX9_item_64 : decode cX9_item 64 = .ok (.iload_n 1, 1) := by decide +kernel
theorem dX9_item_65 : decode cX9_item 65 = .ok (.aaload, 1) := by decide +kernel
theorem dX9_item_66 : decode cX9_item 66 = .ok (.iload_n 3, 1) := by decide +kernel
theorem dX9_item_67 : decode cX9_item 67 = .ok (.iaload, 1) := by decide +kernel
theorem dX9_item_68 : decode cX9_item 68 = .ok (.ireturn, 1) := by decide +kernel
set_option maxRecDepth 20000 in
theorem ggX9_shelf_X2_hasPlace : GoodIn wsX9_shelf wsX2_hasPlace := goodIn_r _ [6] (by decide +kernel) (by decide +kernel)
set_option maxRecDepth 20000 in
theorem gX9_shelf_X2_hasPlace : GoodIn wsX9_shelf (va_wsS RX9 309 yX2_hasPlace wsX2_hasPlace) := goodIn_app (goodIn_of _ (by decide +kernel)) ggX9_shelf_X2_hasPlace
set_option maxRecDepth 20000 in
theorem ggX9_shelf_X8_hasCut : GoodIn wsX9_shelf wsX8_hasCut := goodIn_r _ [11, 12, 42, 43, 44, 45, 46, 47, 48, 49, 50, 51, 52, 53, 54, 55] (by decide +kernel) (by decide +kernel)
set_option maxRecDepth 20000 in
theorem gX9_shelf_X8_hasCut : GoodIn wsX9_shelf (wsV RX9 162 RX8 yX8_hasCut wsX8_hasCut) := goodIn_app (goodIn_of _ (by decide +kernel)) ggX9_shelf_X8_hasCut
set_option maxRecDepth 20000 in
theorem ggX9_shelf_X2_holdCut : GoodIn wsX9_shelf wsX2_holdCut := goodIn_r _ [16, 17, 18, 56, 57, 58, 59, 60, 61] (by decide +kernel) (by decide +kernel)
set_option maxRecDepth 20000 in
theorem gX9_shelf_X2_holdCut : GoodIn wsX9_shelf (wsV RX9 334 RX2 yX2_holdCut wsX2_holdCut) := goodIn_app (goodIn_of _ (by decide +kernel)) ggX9_shelf_X2_holdCut
set_option maxRecDepth 20000 in
theorem ggX9_shelf_X2_holdRow : GoodIn wsX9_shelf wsX2_holdRow := goodIn_r _ [22, 17, 23, 24, 18, 25, 56, 57, 58, 59, 60, 61] (by decide +kernel) (by decide +kernel)
set_option maxRecDepth 20000 in
theorem gX9_shelf_X2_holdRow : GoodIn wsX9_shelf (wsV RX9 338 RX2 yX2_holdRow wsX2_holdRow) := goodIn_app (goodIn_of _ (by decide +kernel)) ggX9_shelf_X2_holdRow
set_option maxRecDepth 20000 in
theorem ggX9_shelf_X2_holdNothing : GoodIn wsX9_shelf wsX2_holdNothing := goodIn_r _ [29, 17, 56, 57, 58, 59, 60, 61] (by decide +kernel) (by decide +kernel)
set_option maxRecDepth 20000 in
theorem gX9_shelf_X2_holdNothing : GoodIn wsX9_shelf (wsV RX9 341 RX2 yX2_holdNothing wsX2_holdNothing) := goodIn_app (goodIn_of _ (by decide +kernel)) ggX9_shelf_X2_holdNothing
theorem dX9_shelf_0 : decode cX9_shelf 0 = .ok (.iload_n 1, 1) := by decide +kernel
