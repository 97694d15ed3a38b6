theorem dX10_taken_8 : decode cX10_taken 8 = .ok (.iconst 0, 1) := by decide +kernel
theorem dX10_taken_9 : decode cX10_taken 9 = .ok (.bipush 6, 2) := by decide +kernel
theorem dX10_taken_11 : decode cX10_taken 11 = .ok (.invokestatic 97, 3) := by decide +kernel
theorem dX10_taken_14 : decode cX10_taken 14 = .ok (.ifCond .ne 16, 3) := by decide +kernel
theorem dX10_taken_17 : decode cX10_taken 17 = .ok (.iload_n 2, 1) := by decide +kernel
theorem dX10_taken_18 : decode cX10_taken 18 = .ok (.bipush 10, 2) := by decide +kernel
theorem dX10_taken_20 : decode cX10_taken 20 = .ok (.bipush 13, 2) := by decide +kernel
theorem dX10_taken_22 : decode cX10_taken 22 = .ok (.invokestatic 97, 3) := by decide +kernel
theorem dX10_taken_25 : decode cX10_taken 25 = .ok (.ifCond .ne 5, 3) := by decide +kernel
theorem dX10_taken_28 : decode cX10_taken 28 = .ok (.iconst (-1), 1) := by decide +kernel
theorem dX10_taken_29 : decode cX10_taken 29 = .ok (.ireturn, 1) := by decide +kernel
theorem dX10_taken_30 : decode cX10_taken 30 = .ok (.aload_n 0, 1) := by decide +kernel
theorem dX10_taken_31 : decode cX10_taken 31 = .ok (.iload_n 1, 1) := by decide +kernel
theorem dX10_taken_32 : decode cX10_taken 32 = .ok (.invokevirtual 371, 3) := by decide +kernel
theorem dX10_taken_35 : decode cX10_taken 35 = .ok (.istore_n 3, 1) := by decide +kernel
theorem dX10_taken_36 : decode cX10_taken 36 = .ok (.iload_n 3, 1) := by decide +kernel
theorem dX10_taken_37 : decode cX10_taken 37 = .ok (.ifCond .ge 6, 3) := by decide +kernel
theorem dX10_taken_40 : decode cX10_taken 40 = .ok (.bipush (-11), 2) := by decide +kernel
theorem dX10_taken_42 : decode cX10_taken 42 = .ok (.ireturn, 1) := by decide +kernel
theorem dX10_taken_43 : decode cX10_taken 43 = .ok (.iload_n 3, 1) := by decide +kernel
theorem dX10_taken_44 : decode cX10_taken 44 = .ok (.bipush 9, 2) := by decide +kernel
theorem dX10_taken_46 : decode cX10_taken 46 = .ok (.if_icmp .ne 28, 3) := by decide +kernel
theorem dX10_taken_49 : decode cX10_taken 49 = .ok (.iload_n 2, 1) := by decide +kernel
theorem dX10_taken_50 : decode cX10_taken 50 = .ok (.bipush 10, 2) := by decide +kernel
theorem dX10_taken_52 : decode cX10_taken 52 = .ok (.aload_n 0, 1) := by decide +kernel
theorem dX10_taken_53 : decode cX10_taken 53 = .ok (.getfield 82, 3) := by decide +kernel
theorem dX10_taken_56 : decode cX10_taken 56 = .ok (.iload_n 1, 1) := by decide +kernel
theorem dX10_taken_57 : decode cX10_taken 57 = .ok (.iaload, 1) := by decide +kernel
theorem dX10_taken_58 : decode cX10_taken 58 = .ok (.iadd, 1) := by decide +kernel
theorem dX10_taken_59 : decode cX10_taken 59 = .ok (.if_icmp .ne 12, 3) := by decide +kernel
theorem dX10_taken_62 : decode cX10_taken 62 = .ok (.aload_n 0, 1) := by decide +kernel
theorem dX10_taken_63 : decode cX10_taken 63 = .ok (.getfield 85, 3) := by decide +kernel
theorem dX10_taken_66 : decode cX10_taken 66 = .ok (.iload_n 1, 1) := by decide +kernel
theorem dX10_taken_67 : decode cX10_taken 67 = .ok (.iaload, 1) := by decide +kernel
theorem dX10_taken_68 : decode cX10_taken 68 = .ok (.goto 5, 3) := by decide +kernel
theorem dX10_taken_71 : decode cX10_taken 71 = .ok (.bipush (-13), 2) := by decide +kernel
theorem dX10_taken_73 : decode cX10_taken 73 = .ok (.ireturn, 1) := by decide +kernel
theorem dX10_taken_74 : decode cX10_taken 74 = .ok (.iload_n 2, 1) := by decide +kernel
theorem dX10_taken_75 : decode cX10_taken 75 = .ok (.bipush 10, 2) := by decide +kernel
theorem dX10_taken_77 : decode cX10_taken 77 = .ok (.if_icmp .ge 20, 3) := by decide +kernel
theorem dX10_taken_80 : decode cX10_taken 80 = .ok (.iload_n 3, 1) := by decide +kernel
theorem dX10_taken_81 : decode cX10_taken 81 = .ok (.iload_n 2, 1) := by decide +kernel
theorem dX10_taken_82 : decode cX10_taken 82 = .ok (.invokestatic 374, 3) := by decide +kernel
theorem dX10_taken_85 : decode cX10_taken 85 = .ok (.ifCond .eq 12, 3) := by decide +kernel
theorem dX10_taken_88 : decode cX10_taken 88 = .ok (.aload_n 0, 1) := by decide +kernel
theorem dX10_taken_89 : decode cX10_taken 89 = .ok (.getfield 82, 3) := by decide +kernel
theorem dX10_taken_92 : decode cX10_taken 92 = .ok (.iload_n 1, 1) := by decide +kernel
theorem dX10_taken_93 : decode cX10_taken 93 = .ok (.iaload, 1) := by decide +kernel
theorem dX10_taken_94 : decode cX10_taken 94 = .ok (.goto 5, 3) := by decide +kernel
theorem dX10_taken_97 : decode cX10_taken 97 = .ok (.bipush (-13), 2) := by decide +kernel
theorem dX10_taken_99 : decode cX10_taken 99 = .ok (.ireturn, 1) := by decide +kernel
theorem dX10_ran_0 : decode cX10_ran 0 = .ok (.aload_n 0, 1) := by decide +kernel
theorem dX10_ran_1 : decode cX10_ran 1 = .ok (.getfield 377, 3) := by decide +kernel
theorem dX10_ran_4 : decode cX10_ran 4 = .ok (.bipush 30, 2) := by decide +kernel
theorem dX10_ran_6 : decode cX10_ran 6 = .ok (.if_icmp .ge 23, 3) := by decide +kernel
theorem dX10_ran_9 : decode cX10_ran 9 = .ok (.aload_n 0, 1) := by decide +kernel
theorem dX10_ran_10 : decode cX10_ran 10 = .ok (.getfield 88, 3) := by decide +kernel
theorem dX10_ran_13 : decode cX10_ran 13 = .ok (.aload_n 0, 1) := by decide +kernel
theorem dX10_ran_14 : decode cX10_ran 14 = .ok (.getfield 377, 3) := by decide +kernel
theorem dX10_ran_17 : decode cX10_ran 17 = .ok (.iload_n 1, 1) := by decide +kernel
theorem dX10_ran_18 : decode cX10_ran 18 = .ok (.iastore, 1) := by decide +kernel
theorem dX10_ran_19 : decode cX10_ran 19 = .ok (.aload_n 0, 1) := by decide +kernel
theorem dX10_ran_20 : decode cX10_ran 20 = .ok (.dup, 1) := by decide +kernel
theorem dX10_ran_21 : decode cX10_ran 21 = .ok (.getfield 377, 3) := by decide +kernel
theorem dX10_ran_24 : decode cX10_ran 24 = .ok (.iconst 1, 1) := by decide +kernel
theorem dX10_ran_25 : decode cX10_ran 25 = .ok (.iadd, 1) := by decide +kernel
theorem dX10_ran_26 : decode cX10_ran 26 = .ok (.putfield 377, 3) := by decide +kernel
theorem dX10_ran_29 : decode cX10_ran 29 = .ok (.return_, 1) := by decide +kernel
set_option maxRecDepth 20000 in
theorem ggX10_plainParts_X10_ran : GoodIn wsX10_plainParts wsX10_ran := goodIn_r _ [6, 7, 8, 9, 10, 11, 12, 13, 14, 15, 16, 17, 18, 19, 20, 21, 22, 23, 24, 25, 26, 27, 28, 29, 30, 31, 32, 33, 34, 35, 36, 37, 38, 39, 40, 41, 42, 43, 44, 45, 46, 47, 48, 49, 50, 51, 52, 53, 54, 55, 56, 57, 58, 59, 60, 61, 62] (by decide +kernel) (by decide +kernel)
set_option maxRecDepth 20000 in
theorem gX10_plainParts_X10_ran : GoodIn wsX10_plainParts (wsV RX10 380 RX10 yX10_ran wsX10_ran) := goodIn_app (goodIn_of _ (by decide +kernel)) ggX10_plainParts_X10_ran
theorem dX10_plainParts_0 : decode cX10_plainParts 0 = .ok (.aload_n 0, 1) := by decide +kernel
theorem dX10_plainParts_1 : decode cX10_plainParts 1 = .ok (.bipush 10, 2) := by decide +kernel
theorem dX10_plainParts_3 : decode cX10_plainParts 3 = .ok (.invokevirtual 380, 3) := by decide +kernel
theorem dX10_plainParts_6 : decode cX10_plainParts 6 = .ok (.iload_n 1, 1) := by decide +kernel
theorem dX10_plainParts_7 : decode cX10_plainParts 7 = .ok (.aload_n 0, 1) := by decide +kernel
theorem dX10_plainParts_8 : decode cX10_plainParts 8 = .ok (.getfield 383, 3) := by decide +kernel
theorem dX10_plainParts_11 : decode cX10_plainParts 11 = .ok (.iadd, 1) := by decide +kernel
theorem dX10_plainParts_12 : decode cX10_plainParts 12 = .ok (.ireturn, 1) := by decide +kernel
set_option maxRecDepth 20000 in
theorem ggX10_tableParts_X10_ran : GoodIn wsX10_tableParts wsX10_ran := goodIn_r _ [5, 6, 7, 13, 14, 15, 16, 17, 18, 19, 20, 21, 22, 23, 24, 25, 26, 27, 28, 29, 30, 31, 32, 33, 34, 35, 36, 37, 38, 39, 40, 41, 42, 43, 44, 45, 46, 47, 48, 49, 50, 51, 52, 53, 54, 55, 56, 57, 58, 59, 60, 61, 62, 63, 64, 65, 66] (by decide +kernel) (by decide +kernel)
set_option maxRecDepth 20000 in
theorem gX10_tableParts_X10_ran : GoodIn wsX10_tableParts (wsV RX10 380 RX10 yX10_ran wsX10_ran) := goodIn_app (goodIn_of _ (by decide +kernel)) ggX10_tableParts_X10_ran
set_option maxRecDepth 20000 in
theorem ggX10_tableParts_X10_plainParts : GoodIn wsX10_tableParts wsX10_plainParts := goodIn_r _ [11, 12, 1, 2, 3, 4, 5, 6, 7, 13, 14, 15, 16, 17, 18, 19, 20, 21, 22, 23, 24, 25, 26, 27, 28, 29, 30, 31, 32, 33, 34, 35, 36, 37, 38, 39, 40, 41, 42, 43, 44, 45, 46, 47, 48, 49, 50, 51, 52, 53, 54, 55, 56, 57, 58, 59, 60, 61, 62, 63, 64, 65, 66] (by decide +kernel) (by decide +kernel)
set_option maxRecDepth 20000 in
theorem gX10_tableParts_X10_plainParts : GoodIn wsX10_tableParts (wsV RX10 386 RX10 yX10_plainParts wsX10_plainParts) := goodIn_app (goodIn_of _ (by decide +kernel)) ggX10_tableParts_X10_plainParts
theorem dX10_tableParts_0 : decode cX10_tableParts 0 = .ok (.aload_n 0, 1) := by decide +kernel
theorem dX10_tableParts_1 : decode cX10_tableParts 1 = .ok (.bipush 30, 2) := by decide +kernel
theorem dX10_tableParts_3 : decode cX10_tableParts 3 = .ok (.invokevirtual 380, 3) := by decide +kernel
theorem dX10_tableParts_6 : decode cX10_tableParts 6 = .ok (.aload_n 0, 1) := by decide +kernel
theorem dX10_tableParts_7 : decode cX10_tableParts 7 = .ok (.iload_n 1, 1) := by decide +kernel
theorem dX10_tableParts_8 : decode cX10_tableParts 8 = .ok (.invokevirtual 386, 3) := by decide +kernel
theorem dX10_tableParts_11 : decode cX10_tableParts 11 = .ok (.iconst 3, 1) := by decide +kernel
theorem dX10_tableParts_12 : decode cX10_tableParts 12 = .ok (.imul, 1) := by decide +kernel
theorem dX10_tableParts_13 : decode cX10_tableParts 13 = .ok (.ireturn, 1) := by decide +kernel
set_option maxRecDepth 20000 in
theorem ggX10_partsIt_X10_tableParts : GoodIn wsX10_partsIt wsX10_tableParts := goodIn_r _ [8, 9, 10, 11, 7, 12, 13, 14, 15, 16, 17, 18, 2, 19, 20, 21, 22, 23, 24, 25, 26, 27, 28, 29, 30, 31, 32, 33, 34, 35, 36, 37, 38, 39, 40, 41, 42, 43, 44, 45, 46, 47, 48, 49, 50, 51, 52, 53, 54, 55, 56, 57, 58, 59, 60, 61, 62, 63, 64, 65, 66, 67, 68, 69, 70, 71, 72] (by decide +kernel) (by decide +kernel)
set_option maxRecDepth 20000 in
theorem gX10_partsIt_X10_tableParts : GoodIn wsX10_partsIt (wsV RX10 392 RX10 yX10_tableParts wsX10_tableParts) := goodIn_app (goodIn_of _ (by decide +kernel)) ggX10_partsIt_X10_tableParts
set_option maxRecDepth 20000 in
theorem ggX10_partsIt_X10_ran : GoodIn wsX10_partsIt wsX10_ran := goodIn_r _ [12, 13, 14, 19, 20, 21, 22, 23, 24, 25, 26, 27, 28, 29, 30, 31, 32, 33, 34, 35, 36, 37, 38, 39, 40, 41, 42, 43, 44, 45, 46, 47, 48, 49, 50, 51, 52, 53, 54, 55, 56, 57, 58, 59, 60, 61, 62, 63, 64, 65, 66, 67, 68, 69, 70, 71, 72] (by decide +kernel) (by decide +kernel)
set_option maxRecDepth 20000 in
theorem gX10_partsIt_X10_ran : GoodIn wsX10_partsIt (wsV RX10 380 RX10 yX10_ran wsX10_ran) := goodIn_app (goodIn_of _ (by decide +kernel)) ggX10_partsIt_X10_ran
set_option maxRecDepth 20000 in
theorem ggX10_partsIt_X10_plainParts : GoodIn wsX10_partsIt wsX10_plainParts := goodIn_r _ [18, 2, 9, 10, 11, 7, 12, 13, 14, 19, 20, 21, 22, 23, 24, 25, 26, 27, 28, 29, 30, 31, 32, 33, 34, 35, 36, 37, 38, 39, 40, 41, 42, 43, 44, 45, 46, 47, 48, 49, 50, 51, 52, 53, 54, 55, 56, 57, 58, 59, 60, 61, 62, 63, 64, 65, 66, 67, 68, 69, 70, 71, 72] (by decide +kernel) (by decide +kernel)
set_option maxRecDepth 20000 in
theorem gX10_partsIt_X10_plainParts : GoodIn wsX10_partsIt (wsV RX10 386 RX10 yX10_plainParts wsX10_plainParts) := goodIn_app (goodIn_of _ (by decide +kernel)) ggX10_partsIt_X10_plainParts
theorem dX10_partsIt_0 : decode cX10_partsIt 0 = .ok (.aload_n 0, 1) := by decide +kernel
theorem dX10_partsIt_1 : decode cX10_partsIt 1 = .ok (.getfield 389, 3) := by decide +kernel
theorem dX10_partsIt_4 : decode cX10_partsIt 4 = .ok (.tableswitch 90 2 6 #[36, 42, 59, 42, 73], 36) := by decide +kernel
theorem dX10_partsIt_40 : decode cX10_partsIt 40 = .ok (.aload_n 0, 1) := by decide +kernel
theorem dX10_partsIt_41 : decode cX10_partsIt 41 = .ok (.iload_n 1, 1) := by decide +kernel
theorem dX10_partsIt_42 : decode cX10_partsIt 42 = .ok (.invokevirtual 392, 3) := by decide +kernel
theorem dX10_partsIt_45 : decode cX10_partsIt 45 = .ok (.ireturn, 1) := by decide +kernel
theorem dX10_partsIt_46 : decode cX10_partsIt 46 = .ok (.aload_n 0, 1) := by decide +kernel
theorem dX10_partsIt_47 : decode cX10_partsIt 47 = .ok (.bipush 41, 2) := by decide +kernel
theorem dX10_partsIt_49 : decode cX10_partsIt 49 = .ok (.invokevirtual 380, 3) := by decide +kernel
theorem dX10_partsIt_52 : decode cX10_partsIt 52 = .ok (.aload_n 0, 1) := by decide +kernel
theorem dX10_partsIt_53 : decode cX10_partsIt 53 = .ok (.iload_n 1, 1) := by decide +kernel
theorem dX10_partsIt_54 : decode cX10_partsIt 54 = .ok (.invokevirtual 392, 3) := by decide +kernel
theorem dX10_partsIt_57 : decode cX10_partsIt 57 = .ok (.aload_n 0, 1) := by decide +kernel
theorem dX10_partsIt_58 : decode cX10_partsIt 58 = .ok (.getfield 383, 3) := by decide +kernel
theorem dX10_partsIt_61 : decode cX10_partsIt 61 = .ok (.isub, 1) := by decide +kernel
theorem dX10_partsIt_62 : decode cX10_partsIt 62 = .ok (.ireturn, 1) := by decide +kernel
theorem dX10_partsIt_63 : decode cX10_partsIt 63 = .ok (.aload_n 0, 1) := by decide +kernel
theorem dX10_partsIt_64 : decode cX10_partsIt 64 = .ok (.bipush 50, 2) := by decide +kernel
theorem dX10_partsIt_66 : decode cX10_partsIt 66 = .ok (.invokevirtual 380, 3) := by decide +kernel
theorem dX10_partsIt_69 : decode cX10_partsIt 69 = .ok (.iconst 0, 1) := by decide +kernel
theorem dX10_partsIt_70 : decode cX10_partsIt 70 = .ok (.aload_n 0, 1) := by decide +kernel
theorem dX10_partsIt_71 : decode cX10_partsIt 71 = .ok (.iload_n 1, 1) := by decide +kernel
theorem dX10_partsIt_72 : decode cX10_partsIt 72 = .ok (.invokevirtual 386, 3) := by decide +kernel
theorem dX10_partsIt_75 : decode cX10_partsIt 75 = .ok (.isub, 1) := by decide +kernel
theorem dX10_partsIt_76 : decode cX10_partsIt 76 = .ok (.ireturn, 1) := by decide +kernel
theorem dX10_partsIt_77 : decode cX10_partsIt 77 = .ok (.aload_n 0, 1) := by decide +kernel
theorem dX10_partsIt_78 : decode cX10_partsIt 78 = .ok (.bipush 70, 2) := by decide +kernel
theorem dX10_partsIt_80 : decode cX10_partsIt 80 = .ok (.invokevirtual 380, 3) := by decide +kernel
theorem dX10_partsIt_83 : decode cX10_partsIt 83 = .ok (.aload_n 0, 1) := by decide +kernel
theorem dX10_partsIt_84 : decode cX10_partsIt 84 = .ok (.iload_n 1, 1) := by decide +kernel
theorem dX10_partsIt_85 : decode cX10_partsIt 85 = .ok (.invokevirtual 386, 3) := by decide +kernel
theorem dX10_partsIt_88 : decode cX10_partsIt 88 = .ok (.aload_n 0, 1) := by decide +kernel
theorem dX10_partsIt_89 : decode cX10_partsIt 89 = .ok (.getfield 395, 3) := by decide +kernel
theorem dX10_partsIt_92 : decode cX10_partsIt 92 = .ok (.ixor, 1) := by decide +kernel
theorem dX10_partsIt_93 : decode cX10_partsIt 93 = .ok (.ireturn, 1) := by decide +kernel
theorem dX10_partsIt_94 : decode cX10_partsIt 94 = .ok (.aload_n 0, 1) := by decide +kernel
theorem dX10_partsIt_95 : decode cX10_partsIt 95 = .ok (.iload_n 1, 1) := by decide +kernel
theorem dX10_partsIt_96 : decode cX10_partsIt 96 = .ok (.invokevirtual 386, 3) := by decide +kernel
theorem dX10_partsIt_99 : decode cX10_partsIt 99 = .ok (.ireturn, 1) := by decide +kernel
set_option maxRecDepth 20000 in
theorem ggX10_plainCosts_X10_ran : GoodIn wsX10_plainCosts wsX10_ran := goodIn_r _ [5, 6, 7, 23, 24, 25, 26, 27, 28, 29, 30, 31, 32, 33, 34, 35, 36, 37, 38, 39, 40, 41, 42, 43, 44, 45, 46, 47, 48, 49, 50, 51, 52, 53, 54, 55, 56, 57, 58, 59, 60, 61, 62, 63, 64, 65, 66, 67, 68, 69, 70, 71, 72, 73, 74, 75, 76] (by decide +kernel) (by decide +kernel)
set_option maxRecDepth 20000 in
theorem gX10_plainCosts_X10_ran : GoodIn wsX10_plainCosts (wsV RX10 380 RX10 yX10_ran wsX10_ran) := goodIn_app (goodIn_of _ (by decide +kernel)) ggX10_plainCosts_X10_ran
set_option maxRecDepth 20000 in
theorem ggX10_plainCosts_X10_partsIt : GoodIn wsX10_plainCosts wsX10_partsIt := goodIn_r _ [11, 12, 13, 14, 15, 16, 17, 4, 18, 1, 2, 3, 5, 6, 7, 19, 20, 21, 22, 23, 24, 25, 26, 27, 28, 29, 30, 31, 32, 33, 34, 35, 36, 37, 38, 39, 40, 41, 42, 43, 44, 45, 46, 47, 48, 49, 50, 51, 52, 53, 54, 55, 56, 57, 58, 59, 60, 61, 62, 63, 64, 65, 66, 67, 68, 69, 70, 71, 72, 73, 74, 75, 76] (by decide +kernel) (by decide +kernel)
set_option maxRecDepth 20000 in
theorem gX10_plainCosts_X10_partsIt : GoodIn wsX10_plainCosts (wsV RX10 398 RX10 yX10_partsIt wsX10_partsIt) := goodIn_app (goodIn_of _ (by decide +kernel)) ggX10_plainCosts_X10_partsIt
theorem dX10_plainCosts_0 : decode cX10_plainCosts 0 = .ok (.aload_n 0, 1) := by decide +kernel
theorem dX10_plainCosts_1 : decode cX10_plainCosts 1 = .ok (.bipush 11, 2) := by decide +kernel
theorem dX10_plainCosts_3 : decode cX10_plainCosts 3 = .ok (.invokevirtual 380, 3) := by decide +kernel
theorem dX10_plainCosts_6 : decode cX10_plainCosts 6 = .ok (.aload_n 0, 1) := by decide +kernel
theorem dX10_plainCosts_7 : decode cX10_plainCosts 7 = .ok (.iload_n 1, 1) := by decide +kernel
theorem dX10_plainCosts_8 : decode cX10_plainCosts 8 = .ok (.invokevirtual 398, 3) := by decide +kernel
theorem dX10_plainCosts_11 : decode cX10_plainCosts 11 = .ok (.iconst 2, 1) := by decide +kernel
theorem dX10_plainCosts_12 : decode cX10_plainCosts 12 = .ok (.imul, 1) := by decide +kernel
theorem dX10_plainCosts_13 : decode cX10_plainCosts 13 = .ok (.ireturn, 1) := by decide +kernel
set_option maxRecDepth 20000 in
theorem ggX10_tieCosts_X10_ran : GoodIn wsX10_tieCosts wsX10_ran := goodIn_r _ [6, 7, 8, 27, 28, 29, 30, 31, 32, 33, 34, 35, 36, 37, 38, 39, 40, 41, 42, 43, 44, 45, 46, 47, 48, 49, 50, 51, 52, 53, 54, 55, 56, 57, 58, 59, 60, 61, 62, 63, 64, 65, 66, 67, 68, 69, 70, 71, 72, 73, 74, 75, 76, 77, 78, 79, 80] (by decide +kernel) (by decide +kernel)
set_option maxRecDepth 20000 in
theorem gX10_tieCosts_X10_ran : GoodIn wsX10_tieCosts (wsV RX10 380 RX10 yX10_ran wsX10_ran) := goodIn_app (goodIn_of _ (by decide +kernel)) ggX10_tieCosts_X10_ran
set_option maxRecDepth 20000 in
theorem ggX10_tieCosts_X10_plainCosts : GoodIn wsX10_tieCosts wsX10_plainCosts := goodIn_r _ [12, 2, 3, 4, 5, 6, 7, 8, 13, 14, 15, 16, 17, 18, 1, 19, 20, 21, 22, 23, 24, 25, 26, 27, 28, 29, 30, 31, 32, 33, 34, 35, 36, 37, 38, 39, 40, 41, 42, 43, 44, 45, 46, 47, 48, 49, 50, 51, 52, 53, 54, 55, 56, 57, 58, 59, 60, 61, 62, 63, 64, 65, 66, 67, 68, 69, 70, 71, 72, 73, 74, 75, 76, 77, 78, 79, 80] (by decide +kernel) (by decide +kernel)
set_option maxRecDepth 20000 in
theorem gX10_tieCosts_X10_plainCosts : GoodIn wsX10_tieCosts (wsV RX10 401 RX10 yX10_plainCosts wsX10_plainCosts) := goodIn_app (goodIn_of _ (by decide +kernel)) ggX10_tieCosts_X10_plainCosts
theorem dX10_tieCosts_0 : decode cX10_tieCosts 0 = .ok (.aload_n 0, 1) := by decide +kernel
theorem dX10_tieCosts_1 : decode cX10_tieCosts 1 = .ok (.bipush 20, 2) := by decide +kernel
theorem dX10_tieCosts_3 : decode cX10_tieCosts 3 = .ok (.invokevirtual 380, 3) := by decide +kernel
theorem dX10_tieCosts_6 : decode cX10_tieCosts 6 = .ok (.aload_n 0, 1) := by decide +kernel
theorem dX10_tieCosts_7 : decode cX10_tieCosts 7 = .ok (.iload_n 1, 1) := by decide +kernel
theorem dX10_tieCosts_8 : decode cX10_tieCosts 8 = .ok (.invokevirtual 401, 3) := by decide +kernel
theorem dX10_tieCosts_11 : decode cX10_tieCosts 11 = .ok (.aload_n 0, 1) := by decide +kernel
theorem dX10_tieCosts_12 : decode cX10_tieCosts 12 = .ok (.getfield 395, 3) := by decide +kernel
theorem dX10_tieCosts_15 : decode cX10_tieCosts 15 = .ok (.isub, 1) := by decide +kernel
theorem dX10_tieCosts_16 : decode cX10_tieCosts 16 = .ok (.ireturn, 1) := by decide +kernel
set_option maxRecDepth 20000 in
theorem ggX10_costsIt_X10_tieCosts : GoodIn wsX10_costsIt wsX10_tieCosts := goodIn_r _ [8, 3, 9, 10, 11, 7, 12, 13, 14, 15, 16, 17, 18, 19, 20, 21, 22, 1, 2, 23, 24, 25, 26, 27, 28, 29, 30, 40, 41, 42, 43, 44, 45, 46, 47, 48, 49, 50, 51, 52, 53, 54, 55, 56, 57, 58, 59, 60, 61, 62, 63, 64, 65, 66, 67, 68, 69, 70, 71, 72, 73, 74, 75, 76, 77, 78, 79, 80, 81, 82, 83, 84, 85, 86, 87, 88, 89, 90, 91, 92, 93] (by decide +kernel) (by decide +kernel)
set_option maxRecDepth 20000 in
theorem gX10_costsIt_X10_tieCosts : GoodIn wsX10_costsIt (wsV RX10 404 RX10 yX10_tieCosts wsX10_tieCosts) := goodIn_app (goodIn_of _ (by decide +kernel)) ggX10_costsIt_X10_tieCosts
set_option maxRecDepth 20000 in
theorem ggX10_costsIt_X10_ran : GoodIn wsX10_costsIt wsX10_ran := goodIn_r _ [12, 13, 14, 40, 41, 42, 43, 44, 45, 46, 47, 48, 49, 50, 51, 52, 53, 54, 55, 56, 57, 58, 59, 60, 61, 62, 63, 64, 65, 66, 67, 68, 69, 70, 71, 72, 73, 74, 75, 76, 77, 78, 79, 80, 81, 82, 83, 84, 85, 86, 87, 88, 89, 90, 91, 92, 93] (by decide +kernel) (by decide +kernel)
set_option maxRecDepth 20000 in
theorem gX10_costsIt_X10_ran : GoodIn wsX10_costsIt (wsV RX10 380 RX10 yX10_ran wsX10_ran) := goodIn_app (goodIn_of _ (by decide +kernel)) ggX10_costsIt_X10_ran
set_option maxRecDepth 20000 in
theorem ggX10_costsIt_X10_partsIt : GoodIn wsX10_costsIt wsX10_partsIt := goodIn_r _ [22, 1, 2, 3, 23, 24, 25, 7, 26, 9, 10, 11, 12, 13, 14, 27, 28, 29, 30, 40, 41, 42, 43, 44, 45, 46, 47, 48, 49, 50, 51, 52, 53, 54, 55, 56, 57, 58, 59, 60, 61, 62, 63, 64, 65, 66, 67, 68, 69, 70, 71, 72, 73, 74, 75, 76, 77, 78, 79, 80, 81, 82, 83, 84, 85, 86, 87, 88, 89, 90, 91, 92, 93] (by decide +kernel) (by decide +kernel)
set_option maxRecDepth 20000 in
theorem gX10_costsIt_X10_partsIt : GoodIn wsX10_costsIt (wsV RX10 398 RX10 yX10_partsIt wsX10_partsIt) := goodIn_app (goodIn_of _ (by decide +kernel)) ggX10_costsIt_X10_partsIt
set_option maxRecDepth 20000 in
theorem ggX10_costsIt_X10_plainCosts : GoodIn wsX10_costsIt wsX10_plainCosts := goodIn_r _ [18, 9, 10, 11, 7, 12, 13, 14, 19, 20, 21, 22, 1, 2, 3, 23, 24, 25, 26, 27, 28, 29, 30, 40, 41, 42, 43, 44, 45, 46, 47, 48, 49, 50, 51, 52, 53, 54, 55, 56, 57, 58, 59, 60, 61, 62, 63, 64, 65, 66, 67, 68, 69, 70, 71, 72, 73, 74, 75, 76, 77, 78, 79, 80, 81, 82, 83, 84, 85, 86, 87, 88, 89, 90, 91, 92, 93] (by decide +kernel) (by decide +kernel)
set_option maxRecDepth 20000 in
theorem gX10_costsIt_X10_plainCosts : GoodIn wsX10_costsIt (wsV RX10 401 RX10 yX10_plainCosts wsX10_plainCosts) := goodIn_app (goodIn_of _ (by decide +kernel)) ggX10_costsIt_X10_plainCosts
set_option maxRecDepth 20000 in
theorem ggX10_costsIt_X10_sharesIt : GoodIn wsX10_costsIt wsX10_sharesIt := goodIn_r _ [34, 1, 35, 3, 9, 10, 11, 7, 12, 13, 14, 36, 37, 38, 39, 2, 19, 20, 21, 22, 23, 24, 25, 26, 27, 28, 29, 30, 40, 41, 42, 43, 44, 45, 46, 47, 48, 49, 50, 51, 52, 53, 54, 55, 56, 57, 58, 59, 60, 61, 62, 63, 64, 65, 66, 67, 68, 69, 70, 71, 72, 73, 74, 75, 76, 77, 78, 79, 80, 81, 82, 83, 84, 85, 86, 87, 88, 89, 90, 91, 92, 93] (by decide +kernel) (by decide +kernel)
set_option maxRecDepth 20000 in
theorem gX10_costsIt_X10_sharesIt : GoodIn wsX10_costsIt (wsV RX10 407 RX10 yX10_sharesIt wsX10_sharesIt) := goodIn_app (goodIn_of _ (by decide +kernel)) ggX10_costsIt_X10_sharesIt
theorem dX10_costsIt_0 : decode cX10_costsIt 0 = .ok (.iconst 0, 1) := by decide +kernel
theorem dX10_costsIt_1 : decode cX10_costsIt 1 = .ok (.istore_n 2, 1) := by decide +kernel
theorem dX10_costsIt_2 : decode cX10_costsIt 2 = .ok (.aload_n 0, 1) := by decide +kernel
theorem dX10_costsIt_3 : decode cX10_costsIt 3 = .ok (.getfield 389, 3) := by decide +kernel
theorem dX10_costsIt_6 : decode cX10_costsIt 6 = .ok (.tableswitch 86 1 5 #[34, 86, 86, 40, 63], 34) := by decide +kernel
theorem dX10_costsIt_40 : decode cX10_costsIt 40 = .ok (.aload_n 0, 1) := by decide +kernel
theorem dX10_costsIt_41 : decode cX10_costsIt 41 = .ok (.iload_n 1, 1) := by decide +kernel
theorem dX10_costsIt_42 : decode cX10_costsIt 42 = .ok (.invokevirtual 404, 3) := by decide +kernel
theorem dX10_costsIt_45 : decode cX10_costsIt 45 = .ok (.ireturn, 1) := by decide +kernel
theorem dX10_costsIt_46 : decode cX10_costsIt 46 = .ok (.aload_n 0, 1) := by decide +kernel
theorem dX10_costsIt_47 : decode cX10_costsIt 47 = .ok (.bipush 51, 2) := by decide +kernel
theorem dX10_costsIt_49 : decode cX10_costsIt 49 = .ok (.invokevirtual 380, 3) := by decide +kernel
theorem dX10_costsIt_52 : decode cX10_costsIt 52 = .ok (.aload_n 0, 1) := by decide +kernel
theorem dX10_costsIt_53 : decode cX10_costsIt 53 = .ok (.iload_n 1, 1) := by decide +kernel
theorem dX10_costsIt_54 : decode cX10_costsIt 54 = .ok (.invokevirtual 404, 3) := by decide +kernel
theorem dX10_costsIt_57 : decode cX10_costsIt 57 = .ok (.istore_n 2, 1) := by decide +kernel
theorem dX10_costsIt_58 : decode cX10_costsIt 58 = .ok (.iload_n 2, 1) := by decide +kernel
theorem dX10_costsIt_59 : decode cX10_costsIt 59 = .ok (.aload_n 0, 1) := by decide +kernel
theorem dX10_costsIt_60 : decode cX10_costsIt 60 = .ok (.aload_n 0, 1) := by decide +kernel
theorem dX10_costsIt_61 : decode cX10_costsIt 61 = .ok (.getfield 383, 3) := by decide +kernel
theorem dX10_costsIt_64 : decode cX10_costsIt 64 = .ok (.invokevirtual 398, 3) := by decide +kernel
theorem dX10_costsIt_67 : decode cX10_costsIt 67 = .ok (.iadd, 1) := by decide +kernel
theorem dX10_costsIt_68 : decode cX10_costsIt 68 = .ok (.ireturn, 1) := by decide +kernel
theorem dX10_costsIt_69 : decode cX10_costsIt 69 = .ok (.aload_n 0, 1) := by decide +kernel
theorem dX10_costsIt_70 : decode cX10_costsIt 70 = .ok (.bipush 60, 2) := by decide +kernel
theorem dX10_costsIt_72 : decode cX10_costsIt 72 = .ok (.invokevirtual 380, 3) := by decide +kernel
theorem dX10_costsIt_75 : decode cX10_costsIt 75 = .ok (.aload_n 0, 1) := by decide +kernel
theorem dX10_costsIt_76 : decode cX10_costsIt 76 = .ok (.iload_n 1, 1) := by decide +kernel
theorem dX10_costsIt_77 : decode cX10_costsIt 77 = .ok (.invokevirtual 401, 3) := by decide +kernel
theorem dX10_costsIt_80 : decode cX10_costsIt 80 = .ok (.istore_n 2, 1) := by decide +kernel
theorem dX10_costsIt_81 : decode cX10_costsIt 81 = .ok (.iload_n 2, 1) := by decide +kernel
theorem dX10_costsIt_82 : decode cX10_costsIt 82 = .ok (.aload_n 0, 1) := by decide +kernel
theorem dX10_costsIt_83 : decode cX10_costsIt 83 = .ok (.aload_n 0, 1) := by decide +kernel
theorem dX10_costsIt_84 : decode cX10_costsIt 84 = .ok (.getfield 395, 3) := by decide +kernel
theorem dX10_costsIt_87 : decode cX10_costsIt 87 = .ok (.invokevirtual 407, 3) := by decide +kernel
theorem dX10_costsIt_90 : decode cX10_costsIt 90 = .ok (.iadd, 1) := by decide +kernel
theorem dX10_costsIt_91 : decode cX10_costsIt 91 = .ok (.ireturn, 1) := by decide +kernel
theorem dX10_costsIt_92 : decode cX10_costsIt 92 = .ok (.aload_n 0, 1) := by decide +kernel
theorem dX10_costsIt_93 : decode cX10_costsIt 93 = .ok (.iload_n 1, 1) := by decide +kernel
theorem dX10_costsIt_94 : decode cX10_costsIt 94 = .ok (.invokevirtual 401, 3) := by decide +kernel
theorem dX10_costsIt_97 : decode cX10_costsIt 97 = .ok (.ireturn, 1) := by decide +kernel
set_option maxRecDepth 20000 in
theorem ggX10_plainShares_X10_ran : GoodIn wsX10_plainShares wsX10_ran := goodIn_r _ [8, 9, 10, 11, 12, 13, 14, 15, 16, 17, 18, 19, 20, 21, 22, 23, 24, 25, 26, 27, 28, 29, 30, 31, 32, 33, 34, 35, 36, 37, 38, 39, 40, 41, 42, 43, 44, 45, 46, 47, 48, 49, 50, 51, 52, 53, 54, 55, 56, 57, 58, 59, 60, 61, 62, 63, 64] (by decide +kernel) (by decide +kernel)
set_option maxRecDepth 20000 in
theorem gX10_plainShares_X10_ran : GoodIn wsX10_plainShares (wsV RX10 380 RX10 yX10_ran wsX10_ran) := goodIn_app (goodIn_of _ (by decide +kernel)) ggX10_plainShares_X10_ran
theorem dX10_plainShares_0 : decode cX10_plainShares 0 = .ok (.aload_n 0, 1) := by decide +kernel
theorem dX10_plainShares_1 : decode cX10_plainShares 1 = .ok (.bipush 12, 2) := by decide +kernel
theorem dX10_plainShares_3 : decode cX10_plainShares 3 = .ok (.invokevirtual 380, 3) := by decide +kernel
theorem dX10_plainShares_6 : decode cX10_plainShares 6 = .ok (.aload_n 0, 1) := by decide +kernel
theorem dX10_plainShares_7 : decode cX10_plainShares 7 = .ok (.getfield 395, 3) := by decide +kernel
theorem dX10_plainShares_10 : decode cX10_plainShares 10 = .ok (.aload_n 0, 1) := by decide +kernel
theorem dX10_plainShares_11 : decode cX10_plainShares 11 = .ok (.getfield 383, 3) := by decide +kernel
theorem dX10_plainShares_14 : decode cX10_plainShares 14 = .ok (.if_icmp .ne 10, 3) := by decide +kernel
theorem dX10_plainShares_17 : decode cX10_plainShares 17 = .ok (.aload_n 0, 1) := by decide +kernel
theorem dX10_plainShares_18 : decode cX10_plainShares 18 = .ok (.iconst 1, 1) := by decide +kernel
theorem dX10_plainShares_19 : decode cX10_plainShares 19 = .ok (.putfield 410, 3) := by decide +kernel
theorem dX10_plainShares_22 : decode cX10_plainShares 22 = .ok (.iconst 0, 1) := by decide +kernel
theorem dX10_plainShares_23 : decode cX10_plainShares 23 = .ok (.ireturn, 1) := by decide +kernel
theorem dX10_plainShares_24 : decode cX10_plainShares 24 = .ok (.iload_n 1, 1) := by decide +kernel
theorem dX10_plainShares_25 : decode cX10_plainShares 25 = .ok (.aload_n 0, 1) := by decide +kernel
theorem dX10_plainShares_26 : decode cX10_plainShares 26 = .ok (.getfield 395, 3) := by decide +kernel
theorem dX10_plainShares_29 : decode cX10_plainShares 29 = .ok (.aload_n 0, 1) := by decide +kernel
theorem dX10_plainShares_30 : decode cX10_plainShares 30 = .ok (.getfield 383, 3) := by decide +kernel
theorem dX10_plainShares_33 : decode cX10_plainShares 33 = .ok (.isub, 1) := by decide +kernel
theorem dX10_plainShares_34 : decode cX10_plainShares 34 = .ok (.idiv, 1) := by decide +kernel
theorem dX10_plainShares_35 : decode cX10_plainShares 35 = .ok (.ireturn, 1) := by decide +kernel
set_option maxRecDepth 20000 in
theorem ggX10_sharesIt_X10_ran : GoodIn wsX10_sharesIt wsX10_ran := goodIn_r _ [8, 9, 10, 28, 29, 30, 31, 32, 33, 34, 35, 36, 37, 38, 39, 40, 41, 42, 43, 44, 45, 46, 47, 48, 49, 50, 51, 52, 53, 54, 55, 56, 57, 58, 59, 60, 61, 62, 63, 64, 65, 66, 67, 68, 69, 70, 71, 72, 73, 74, 75, 76, 77, 78, 79, 80, 81] (by decide +kernel) (by decide +kernel)
set_option maxRecDepth 20000 in
theorem gX10_sharesIt_X10_ran : GoodIn wsX10_sharesIt (wsV RX10 380 RX10 yX10_ran wsX10_ran) := goodIn_app (goodIn_of _ (by decide +kernel)) ggX10_sharesIt_X10_ran
set_option maxRecDepth 20000 in
theorem ggX10_sharesIt_X10_plainShares : GoodIn wsX10_sharesIt wsX10_plainShares := goodIn_r _ [14, 3, 15, 2, 4, 5, 6, 7, 8, 9, 10, 28, 29, 30, 31, 32, 33, 34, 35, 36, 37, 38, 39, 40, 41, 42, 43, 44, 45, 46, 47, 48, 49, 50, 51, 52, 53, 54, 55, 56, 57, 58, 59, 60, 61, 62, 63, 64, 65, 66, 67, 68, 69, 70, 71, 72, 73, 74, 75, 76, 77, 78, 79, 80, 81] (by decide +kernel) (by decide +kernel)
set_option maxRecDepth 20000 in
theorem gX10_sharesIt_X10_plainShares : GoodIn wsX10_sharesIt (wsV RX10 413 RX10 yX10_plainShares wsX10_plainShares) := goodIn_app (goodIn_of _ (by decide +kernel)) ggX10_sharesIt_X10_plainShares
set_option maxRecDepth 20000 in
theorem ggX10_sharesIt_X10_partsIt : GoodIn wsX10_sharesIt wsX10_partsIt := goodIn_r _ [19, 1, 15, 3, 20, 21, 22, 7, 23, 4, 5, 6, 8, 9, 10, 24, 25, 26, 27, 28, 29, 30, 31, 32, 33, 34, 35, 36, 37, 38, 39, 40, 41, 42, 43, 44, 45, 46, 47, 48, 49, 50, 51, 52, 53, 54, 55, 56, 57, 58, 59, 60, 61, 62, 63, 64, 65, 66, 67, 68, 69, 70, 71, 72, 73, 74, 75, 76, 77, 78, 79, 80, 81] (by decide +kernel) (by decide +kernel)
set_option maxRecDepth 20000 in
theorem gX10_sharesIt_X10_partsIt : GoodIn wsX10_sharesIt (wsV RX10 398 RX10 yX10_partsIt wsX10_partsIt) := goodIn_app (goodIn_of _ (by decide +kernel)) ggX10_sharesIt_X10_partsIt
theorem dX10_sharesIt_0 : decode cX10_sharesIt 0 = .ok (.aload_n 0, 1) := by decide +kernel
theorem dX10_sharesIt_1 : decode cX10_sharesIt 1 = .ok (.getfield 389, 3) := by decide +kernel
theorem dX10_sharesIt_4 : decode cX10_sharesIt 4 = .ok (.iconst 3, 1) := by decide +kernel
theorem dX10_sharesIt_5 : decode cX10_sharesIt 5 = .ok (.if_icmp .eq 11, 3) := by decide +kernel
theorem dX10_sharesIt_8 : decode cX10_sharesIt 8 = .ok (.aload_n 0, 1) := by decide +kernel
theorem dX10_sharesIt_9 : decode cX10_sharesIt 9 = .ok (.getfield 389, 3) := by decide +kernel
theorem dX10_sharesIt_12 : decode cX10_sharesIt 12 = .ok (.iconst 5, 1) := by decide +kernel
theorem dX10_sharesIt_13 : decode cX10_sharesIt 13 = .ok (.if_icmp .ne 19, 3) := by decide +kernel
theorem dX10_sharesIt_16 : decode cX10_sharesIt 16 = .ok (.aload_n 0, 1) := by decide +kernel
theorem dX10_sharesIt_17 : decode cX10_sharesIt 17 = .ok (.bipush 40, 2) := by decide +kernel
theorem dX10_sharesIt_19 : decode cX10_sharesIt 19 = .ok (.invokevirtual 380, 3) := by decide +kernel
theorem dX10_sharesIt_22 : decode cX10_sharesIt 22 = .ok (.aload_n 0, 1) := by decide +kernel
theorem dX10_sharesIt_23 : decode cX10_sharesIt 23 = .ok (.iload_n 1, 1) := by decide +kernel
theorem dX10_sharesIt_24 : decode cX10_sharesIt 24 = .ok (.iconst 2, 1) := by decide +kernel
theorem dX10_sharesIt_25 : decode cX10_sharesIt 25 = .ok (.iadd, 1) := by decide +kernel
theorem dX10_sharesIt_26 : decode cX10_sharesIt 26 = .ok (.invokevirtual 413, 3) := by decide +kernel
theorem dX10_sharesIt_29 : decode cX10_sharesIt 29 = .ok (.iconst 1, 1) := by decide +kernel
theorem dX10_sharesIt_30 : decode cX10_sharesIt 30 = .ok (.ixor, 1) := by decide +kernel
theorem dX10_sharesIt_31 : decode cX10_sharesIt 31 = .ok (.ireturn, 1) := by decide +kernel
theorem dX10_sharesIt_32 : decode cX10_sharesIt 32 = .ok (.aload_n 0, 1) := by decide +kernel
theorem dX10_sharesIt_33 : decode cX10_sharesIt 33 = .ok (.getfield 389, 3) := by decide +kernel
theorem dX10_sharesIt_36 : decode cX10_sharesIt 36 = .ok (.bipush 6, 2) := by decide +kernel
theorem dX10_sharesIt_38 : decode cX10_sharesIt 38 = .ok (.if_icmp .ne 37, 3) := by decide +kernel
theorem dX10_sharesIt_41 : decode cX10_sharesIt 41 = .ok (.aload_n 0, 1) := by decide +kernel
theorem dX10_sharesIt_42 : decode cX10_sharesIt 42 = .ok (.bipush 71, 2) := by decide +kernel
theorem dX10_sharesIt_44 : decode cX10_sharesIt 44 = .ok (.invokevirtual 380, 3) := by decide +kernel
theorem dX10_sharesIt_47 : decode cX10_sharesIt 47 = .ok (.aload_n 0, 1) := by decide +kernel
theorem dX10_sharesIt_48 : decode cX10_sharesIt 48 = .ok (.iload_n 1, 1) := by decide +kernel
theorem dX10_sharesIt_49 : decode cX10_sharesIt 49 = .ok (.invokevirtual 413, 3) := by decide +kernel
theorem dX10_sharesIt_52 : decode cX10_sharesIt 52 = .ok (.istore_n 2, 1) := by decide +kernel
theorem dX10_sharesIt_53 : decode cX10_sharesIt 53 = .ok (.aload_n 0, 1) := by decide +kernel
theorem dX10_sharesIt_54 : decode cX10_sharesIt 54 = .ok (.getfield 410, 3) := by decide +kernel
theorem dX10_sharesIt_57 : decode cX10_sharesIt 57 = .ok (.ifCond .eq 7, 3) := by decide +kernel
theorem dX10_sharesIt_60 : decode cX10_sharesIt 60 = .ok (.iconst 0, 1) := by decide +kernel
theorem dX10_sharesIt_61 : decode cX10_sharesIt 61 = .ok (.goto 13, 3) := by decide +kernel
theorem dX10_sharesIt_64 : decode cX10_sharesIt 64 = .ok (.iload_n 2, 1) := by decide +kernel
theorem dX10_sharesIt_65 : decode cX10_sharesIt 65 = .ok (.aload_n 0, 1) := by decide +kernel
theorem dX10_sharesIt_66 : decode cX10_sharesIt 66 = .ok (.aload_n 0, 1) := by decide +kernel
theorem dX10_sharesIt_67 : decode cX10_sharesIt 67 = .ok (.getfield 395, 3) := by decide +kernel
theorem dX10_sharesIt_70 : decode cX10_sharesIt 70 = .ok (.invokevirtual 398, 3) := by decide +kernel
theorem dX10_sharesIt_73 : decode cX10_sharesIt 73 = .ok (.iadd, 1) := by decide +kernel
theorem dX10_sharesIt_74 : decode cX10_sharesIt 74 = .ok (.ireturn, 1) := by decide +kernel
theorem dX10_sharesIt_75 : decode cX10_sharesIt 75 = .ok (.aload_n 0, 1) := by decide +kernel
theorem dX10_sharesIt_76 : decode cX10_sharesIt 76 = .ok (.iload_n 1, 1) := by decide +kernel
theorem dX10_sharesIt_77 : decode cX10_sharesIt 77 = .ok (.invokevirtual 413, 3) := by decide +kernel
theorem dX10_sharesIt_80 : decode cX10_sharesIt 80 = .ok (.ireturn, 1) := by decide +kernel
set_option maxRecDepth 20000 in
theorem ggX10_plainTells_X10_ran : GoodIn wsX10_plainTells wsX10_ran := goodIn_r _ [6, 7, 8, 44, 45, 46, 47, 48, 49, 50, 51, 52, 53, 54, 55, 56, 57, 58, 59, 60, 61, 62, 63, 64, 65, 66, 67, 68, 69, 70, 71, 72, 73, 74, 75, 76, 77, 78, 79, 80, 81, 82, 83, 84, 85, 86, 87, 88, 89, 90, 91, 92, 93, 94, 95, 96, 97] (by decide +kernel) (by decide +kernel)
set_option maxRecDepth 20000 in
theorem gX10_plainTells_X10_ran : GoodIn wsX10_plainTells (wsV RX10 380 RX10 yX10_ran wsX10_ran) := goodIn_app (goodIn_of _ (by decide +kernel)) ggX10_plainTells_X10_ran
set_option maxRecDepth 20000 in
theorem ggX10_plainTells_X10_costsIt : GoodIn wsX10_plainTells wsX10_costsIt := goodIn_r _ [12, 13, 14, 1, 15, 16, 17, 5, 18, 2, 3, 4, 6, 7, 8, 19, 20, 21, 22, 23, 24, 25, 26, 27, 28, 29, 30, 31, 32, 33, 34, 35, 36, 37, 38, 39, 40, 41, 42, 43, 44, 45, 46, 47, 48, 49, 50, 51, 52, 53, 54, 55, 56, 57, 58, 59, 60, 61, 62, 63, 64, 65, 66, 67, 68, 69, 70, 71, 72, 73, 74, 75, 76, 77, 78, 79, 80, 81, 82, 83, 84, 85, 86, 87, 88, 89, 90, 91, 92, 93, 94, 95, 96, 97] (by decide +kernel) (by decide +kernel)
set_option maxRecDepth 20000 in
theorem gX10_plainTells_X10_costsIt : GoodIn wsX10_plainTells (wsV RX10 416 RX10 yX10_costsIt wsX10_costsIt) := goodIn_app (goodIn_of _ (by decide +kernel)) ggX10_plainTells_X10_costsIt
theorem dX10_plainTells_0 : decode cX10_plainTells 0 = .ok (.aload_n 0, 1) := by decide +kernel
theorem dX10_plainTells_1 : decode cX10_plainTells 1 = .ok (.bipush 13, 2) := by decide +kernel
theorem dX10_plainTells_3 : decode cX10_plainTells 3 = .ok (.invokevirtual 380, 3) := by decide +kernel
theorem dX10_plainTells_6 : decode cX10_plainTells 6 = .ok (.aload_n 0, 1) := by decide +kernel
theorem dX10_plainTells_7 : decode cX10_plainTells 7 = .ok (.iload_n 1, 1) := by decide +kernel
theorem dX10_plainTells_8 : decode cX10_plainTells 8 = .ok (.invokevirtual 416, 3) := by decide +kernel
theorem dX10_plainTells_11 : decode cX10_plainTells 11 = .ok (.aload_n 0, 1) := by decide +kernel
theorem dX10_plainTells_12 : decode cX10_plainTells 12 = .ok (.getfield 395, 3) := by decide +kernel
theorem dX10_plainTells_15 : decode cX10_plainTells 15 = .ok (.ixor, 1) := by decide +kernel
theorem dX10_plainTells_16 : decode cX10_plainTells 16 = .ok (.ireturn, 1) := by decide +kernel
set_option maxRecDepth 20000 in
theorem ggX10_tableTells_X10_ran : GoodIn wsX10_tableTells wsX10_ran := goodIn_r _ [7, 8, 9, 48, 49, 50, 51, 52, 53, 54, 55, 56, 57, 58, 59, 60, 61, 62, 63, 64, 65, 66, 67, 68, 69, 70, 71, 72, 73, 74, 75, 76, 77, 78, 79, 80, 81, 82, 83, 84, 85, 86, 87, 88, 89, 90, 91, 92, 93, 94, 95, 96, 97, 98, 99, 100, 101] (by decide +kernel) (by decide +kernel)
set_option maxRecDepth 20000 in
theorem gX10_tableTells_X10_ran : GoodIn wsX10_tableTells (wsV RX10 380 RX10 yX10_ran wsX10_ran) := goodIn_app (goodIn_of _ (by decide +kernel)) ggX10_tableTells_X10_ran
set_option maxRecDepth 20000 in
theorem ggX10_tableTells_X10_plainTells : GoodIn wsX10_tableTells wsX10_plainTells := goodIn_r _ [13, 14, 3, 4, 5, 6, 7, 8, 9, 15, 16, 17, 18, 19, 2, 20, 21, 22, 23, 24, 25, 26, 27, 28, 29, 30, 31, 32, 33, 34, 35, 36, 37, 38, 39, 40, 41, 42, 43, 1, 44, 45, 46, 47, 48, 49, 50, 51, 52, 53, 54, 55, 56, 57, 58, 59, 60, 61, 62, 63, 64, 65, 66, 67, 68, 69, 70, 71, 72, 73, 74, 75, 76, 77, 78, 79, 80, 81, 82, 83, 84, 85, 86, 87, 88, 89, 90, 91, 92, 93, 94, 95, 96, 97, 98, 99, 100, 101] (by decide +kernel) (by decide +kernel)
set_option maxRecDepth 20000 in
theorem gX10_tableTells_X10_plainTells : GoodIn wsX10_tableTells (wsV RX10 419 RX10 yX10_plainTells wsX10_plainTells) := goodIn_app (goodIn_of _ (by decide +kernel)) ggX10_tableTells_X10_plainTells
set_option maxRecDepth 20000 in
theorem ggX10_tableTells_X10_sharesIt : GoodIn wsX10_tableTells wsX10_sharesIt := goodIn_r _ [43, 19, 1, 14, 3, 4, 5, 6, 7, 8, 9, 44, 45, 46, 47, 2, 28, 29, 30, 31, 32, 33, 34, 35, 36, 37, 38, 39, 48, 49, 50, 51, 52, 53, 54, 55, 56, 57, 58, 59, 60, 61, 62, 63, 64, 65, 66, 67, 68, 69, 70, 71, 72, 73, 74, 75, 76, 77, 78, 79, 80, 81, 82, 83, 84, 85, 86, 87, 88, 89, 90, 91, 92, 93, 94, 95, 96, 97, 98, 99, 100, 101] (by decide +kernel) (by decide +kernel)
set_option maxRecDepth 20000 in
theorem gX10_tableTells_X10_sharesIt : GoodIn wsX10_tableTells (wsV RX10 407 RX10 yX10_sharesIt wsX10_sharesIt) := goodIn_app (goodIn_of _ (by decide +kernel)) ggX10_tableTells_X10_sharesIt
theorem dX10_tableTells_0 : decode cX10_tableTells 0 = .ok (.aload_n 0, 1) := by decide +kernel
theorem dX10_tableTells_1 : decode cX10_tableTells 1 = .ok (.bipush 31, 2) := by decide +kernel
theorem dX10_tableTells_3 : decode cX10_tableTells 3 = .ok (.invokevirtual 380, 3) := by decide +kernel
theorem dX10_tableTells_6 : decode cX10_tableTells 6 = .ok (.aload_n 0, 1) := by decide +kernel
theorem dX10_tableTells_7 : decode cX10_tableTells 7 = .ok (.iload_n 1, 1) := by decide +kernel
theorem dX10_tableTells_8 : decode cX10_tableTells 8 = .ok (.invokevirtual 419, 3) := by decide +kernel
theorem dX10_tableTells_11 : decode cX10_tableTells 11 = .ok (.istore_n 2, 1) := by decide +kernel
theorem dX10_tableTells_12 : decode cX10_tableTells 12 = .ok (.aload_n 0, 1) := by decide +kernel
theorem dX10_tableTells_13 : decode cX10_tableTells 13 = .ok (.getfield 410, 3) := by decide +kernel
theorem dX10_tableTells_16 : decode cX10_tableTells 16 = .ok (.ifCond .eq 7, 3) := by decide +kernel
theorem dX10_tableTells_19 : decode cX10_tableTells 19 = .ok (.iconst 0, 1) := by decide +kernel
theorem dX10_tableTells_20 : decode cX10_tableTells 20 = .ok (.goto 13, 3) := by decide +kernel
theorem dX10_tableTells_23 : decode cX10_tableTells 23 = .ok (.iload_n 2, 1) := by decide +kernel
theorem dX10_tableTells_24 : decode cX10_tableTells 24 = .ok (.aload_n 0, 1) := by decide +kernel
theorem dX10_tableTells_25 : decode cX10_tableTells 25 = .ok (.aload_n 0, 1) := by decide +kernel
theorem dX10_tableTells_26 : decode cX10_tableTells 26 = .ok (.getfield 383, 3) := by decide +kernel
theorem dX10_tableTells_29 : decode cX10_tableTells 29 = .ok (.invokevirtual 407, 3) := by decide +kernel
theorem dX10_tableTells_32 : decode cX10_tableTells 32 = .ok (.iadd, 1) := by decide +kernel
theorem dX10_tableTells_33 : decode cX10_tableTells 33 = .ok (.ireturn, 1) := by decide +kernel
set_option maxRecDepth 20000 in
theorem ggX10_tellsIt_X10_ran : GoodIn wsX10_tellsIt wsX10_ran := goodIn_r _ [6, 7, 8, 52, 53, 54, 55, 56, 57, 58, 59, 60, 61, 62, 63, 64, 65, 66, 67, 68, 69, 70, 71, 72, 73, 74, 75, 76, 77, 78, 79, 80, 81, 82, 83, 84, 85, 86, 87, 88, 89, 90, 91, 92, 93, 94, 95, 96, 97, 98, 99, 100, 101, 102, 103, 104, 105] (by decide +kernel) (by decide +kernel)
set_option maxRecDepth 20000 in
theorem gX10_tellsIt_X10_ran : GoodIn wsX10_tellsIt (wsV RX10 380 RX10 yX10_ran wsX10_ran) := goodIn_app (goodIn_of _ (by decide +kernel)) ggX10_tellsIt_X10_ran
set_option maxRecDepth 20000 in
theorem ggX10_tellsIt_X10_tableTells : GoodIn wsX10_tellsIt wsX10_tableTells := goodIn_r _ [12, 13, 14, 2, 3, 4, 5, 6, 7, 8, 15, 16, 17, 18, 19, 20, 21, 22, 23, 1, 24, 25, 26, 27, 28, 29, 30, 31, 32, 33, 34, 35, 36, 37, 38, 39, 40, 41, 42, 43, 44, 45, 46, 47, 48, 49, 50, 51, 52, 53, 54, 55, 56, 57, 58, 59, 60, 61, 62, 63, 64, 65, 66, 67, 68, 69, 70, 71, 72, 73, 74, 75, 76, 77, 78, 79, 80, 81, 82, 83, 84, 85, 86, 87, 88, 89, 90, 91, 92, 93, 94, 95, 96, 97, 98, 99, 100, 101, 102, 103, 104, 105] (by decide +kernel) (by decide +kernel)
set_option maxRecDepth 20000 in
theorem gX10_tellsIt_X10_tableTells : GoodIn wsX10_tellsIt (wsV RX10 422 RX10 yX10_tableTells wsX10_tableTells) := goodIn_app (goodIn_of _ (by decide +kernel)) ggX10_tellsIt_X10_tableTells
set_option maxRecDepth 20000 in
theorem ggX10_tellsIt_X10_plainTells : GoodIn wsX10_tellsIt wsX10_plainTells := goodIn_r _ [18, 19, 2, 3, 4, 5, 6, 7, 8, 20, 21, 22, 23, 1, 14, 24, 25, 26, 27, 28, 29, 30, 31, 32, 33, 34, 35, 36, 37, 38, 39, 40, 41, 42, 43, 44, 45, 46, 47, 13, 48, 49, 50, 51, 52, 53, 54, 55, 56, 57, 58, 59, 60, 61, 62, 63, 64, 65, 66, 67, 68, 69, 70, 71, 72, 73, 74, 75, 76, 77, 78, 79, 80, 81, 82, 83, 84, 85, 86, 87, 88, 89, 90, 91, 92, 93, 94, 95, 96, 97, 98, 99, 100, 101, 102, 103, 104, 105] (by decide +kernel) (by decide +kernel)
set_option maxRecDepth 20000 in
theorem gX10_tellsIt_X10_plainTells : GoodIn wsX10_tellsIt (wsV RX10 419 RX10 yX10_plainTells wsX10_plainTells) := goodIn_app (goodIn_of _ (by decide +kernel)) ggX10_tellsIt_X10_plainTells
theorem dX10_tellsIt_0 : decode cX10_tellsIt 0 = .ok (.aload_n 0, 1) := by decide +kernel
theorem dX10_tellsIt_1 : decode cX10_tellsIt 1 = .ok (.getfield 389, 3) := by decide +kernel
theorem dX10_tellsIt_4 : decode cX10_tellsIt 4 = .ok (.iconst 5, 1) := by decide +kernel
theorem dX10_tellsIt_5 : decode cX10_tellsIt 5 = .ok (.if_icmp .ne 17, 3) := by decide +kernel
theorem dX10_tellsIt_8 : decode cX10_tellsIt 8 = .ok (.aload_n 0, 1) := by decide +kernel
theorem dX10_tellsIt_9 : decode cX10_tellsIt 9 = .ok (.bipush 61, 2) := by decide +kernel
theorem dX10_tellsIt_11 : decode cX10_tellsIt 11 = .ok (.invokevirtual 380, 3) := by decide +kernel
theorem dX10_tellsIt_14 : decode cX10_tellsIt 14 = .ok (.aload_n 0, 1) := by decide +kernel
theorem dX10_tellsIt_15 : decode cX10_tellsIt 15 = .ok (.iload_n 1, 1) := by decide +kernel
theorem dX10_tellsIt_16 : decode cX10_tellsIt 16 = .ok (.invokevirtual 422, 3) := by decide +kernel
theorem dX10_tellsIt_19 : decode cX10_tellsIt 19 = .ok (.iconst 2, 1) := by decide +kernel
theorem dX10_tellsIt_20 : decode cX10_tellsIt 20 = .ok (.imul, 1) := by decide +kernel
theorem dX10_tellsIt_21 : decode cX10_tellsIt 21 = .ok (.ireturn, 1) := by decide +kernel
theorem dX10_tellsIt_22 : decode cX10_tellsIt 22 = .ok (.aload_n 0, 1) := by decide +kernel
theorem dX10_tellsIt_23 : decode cX10_tellsIt 23 = .ok (.getfield 389, 3) := by decide +kernel
theorem dX10_tellsIt_26 : decode cX10_tellsIt 26 = .ok (.iconst 2, 1) := by decide +kernel
theorem dX10_tellsIt_27 : decode cX10_tellsIt 27 = .ok (.if_icmp .eq 11, 3) := by decide +kernel
theorem dX10_tellsIt_30 : decode cX10_tellsIt 30 = .ok (.aload_n 0, 1) := by decide +kernel
theorem dX10_tellsIt_31 : decode cX10_tellsIt 31 = .ok (.getfield 389, 3) := by decide +kernel
theorem dX10_tellsIt_34 : decode cX10_tellsIt 34 = .ok (.iconst 3, 1) := by decide +kernel
theorem dX10_tellsIt_35 : decode cX10_tellsIt 35 = .ok (.if_icmp .ne 11, 3) := by decide +kernel
theorem dX10_tellsIt_38 : decode cX10_tellsIt 38 = .ok (.aload_n 0, 1) := by decide +kernel
theorem dX10_tellsIt_39 : decode cX10_tellsIt 39 = .ok (.iload_n 1, 1) := by decide +kernel
theorem dX10_tellsIt_40 : decode cX10_tellsIt 40 = .ok (.invokevirtual 422, 3) := by decide +kernel
theorem dX10_tellsIt_43 : decode cX10_tellsIt 43 = .ok (.goto 8, 3) := by decide +kernel
theorem dX10_tellsIt_46 : decode cX10_tellsIt 46 = .ok (.aload_n 0, 1) := by decide +kernel
theorem dX10_tellsIt_47 : decode cX10_tellsIt 47 = .ok (.iload_n 1, 1) := by decide +kernel
theorem dX10_tellsIt_48 : decode cX10_tellsIt 48 = .ok (.invokevirtual 419, 3) := by decide +kernel
theorem dX10_tellsIt_51 : decode cX10_tellsIt 51 = .ok (.ireturn, 1) := by decide +kernel
set_option maxRecDepth 20000 in
theorem ggX10_act_X10_isShelf : GoodIn wsX10_act wsX10_isShelf := goodIn_r _ [11, 12, 13, 10, 14] (by decide +kernel) (by decide +kernel)
set_option maxRecDepth 20000 in
theorem gX10_act_X10_isShelf : GoodIn wsX10_act (va_wsS RX10 362 yX10_isShelf wsX10_isShelf) := goodIn_app (goodIn_of _ (by decide +kernel)) ggX10_act_X10_isShelf
set_option maxRecDepth 20000 in
theorem ggX10_act_X10_kindOn : GoodIn wsX10_act wsX10_kindOn := goodIn_r _ [18, 19, 3, 5, 20, 21, 22, 10, 23, 24, 12, 13, 14, 74, 75, 76, 77, 78, 79, 80, 81, 82, 83, 84, 85, 86, 87, 88, 89, 90, 91, 92, 93, 94, 95, 96, 97, 98, 99, 100, 101, 102, 103, 104, 105, 106, 107, 108, 109, 110, 111, 112, 113, 114, 115, 116, 117, 118, 119, 120, 121, 122, 123, 124, 125, 126, 127] (by decide +kernel) (by decide +kernel)
set_option maxRecDepth 20000 in
theorem gX10_act_X10_kindOn : GoodIn wsX10_act (wsV RX10 371 RX10 yX10_kindOn wsX10_kindOn) := goodIn_app (goodIn_of _ (by decide +kernel)) ggX10_act_X10_kindOn
set_option maxRecDepth 20000 in
theorem ggX10_act_X10_in : GoodIn wsX10_act wsX10_in := goodIn_r _ [14] (by decide +kernel) (by decide +kernel)
set_option maxRecDepth 20000 in
theorem gX10_act_X10_in : GoodIn wsX10_act (va_wsS RX10 97 yX10_in wsX10_in) := goodIn_app (goodIn_of _ (by decide +kernel)) ggX10_act_X10_in
set_option maxRecDepth 20000 in
theorem ggX10_act_X10_partsIt : GoodIn wsX10_act wsX10_partsIt := goodIn_r _ [28, 2, 4, 6, 29, 30, 31, 10, 32, 33, 34, 35, 36, 1, 37, 38, 39, 40, 41, 74, 75, 76, 77, 78, 79, 80, 81, 82, 83, 84, 85, 86, 87, 88, 89, 90, 91, 92, 93, 94, 95, 96, 97, 98, 99, 100, 101, 102, 103, 104, 105, 106, 107, 108, 109, 110, 111, 112, 113, 114, 115, 116, 117, 118, 119, 120, 121, 122, 123, 124, 125, 126, 127] (by decide +kernel) (by decide +kernel)
set_option maxRecDepth 20000 in
theorem gX10_act_X10_partsIt : GoodIn wsX10_act (wsV RX10 398 RX10 yX10_partsIt wsX10_partsIt) := goodIn_app (goodIn_of _ (by decide +kernel)) ggX10_act_X10_partsIt
set_option maxRecDepth 20000 in
theorem ggX10_act_X10_costsIt : GoodIn wsX10_act wsX10_costsIt := goodIn_r _ [45, 2, 4, 6, 46, 47, 48, 10, 49, 33, 34, 35, 36, 1, 37, 50, 51, 52, 53, 25, 26, 27, 28, 29, 30, 31, 32, 38, 39, 40, 41, 54, 55, 56, 57, 7, 58, 59, 60, 61, 74, 75, 76, 77, 78, 79, 80, 81, 82, 83, 84, 85, 86, 87, 88, 89, 90, 91, 92, 93, 94, 95, 96, 97, 98, 99, 100, 101, 102, 103, 104, 105, 106, 107, 108, 109, 110, 111, 112, 113, 114, 115, 116, 117, 118, 119, 120, 121, 122, 123, 124, 125, 126, 127] (by decide +kernel) (by decide +kernel)
set_option maxRecDepth 20000 in
theorem gX10_act_X10_costsIt : GoodIn wsX10_act (wsV RX10 416 RX10 yX10_costsIt wsX10_costsIt) := goodIn_app (goodIn_of _ (by decide +kernel)) ggX10_act_X10_costsIt
set_option maxRecDepth 20000 in
theorem ggX10_act_X10_sharesIt : GoodIn wsX10_act wsX10_sharesIt := goodIn_r _ [57, 2, 7, 6, 33, 34, 35, 10, 36, 1, 37, 58, 59, 60, 61, 4, 25, 26, 27, 28, 29, 30, 31, 32, 38, 39, 40, 41, 74, 75, 76, 77, 78, 79, 80, 81, 82, 83, 84, 85, 86, 87, 88, 89, 90, 91, 92, 93, 94, 95, 96, 97, 98, 99, 100, 101, 102, 103, 104, 105, 106, 107, 108, 109, 110, 111, 112, 113, 114, 115, 116, 117, 118, 119, 120, 121, 122, 123, 124, 125, 126, 127] (by decide +kernel) (by decide +kernel)
set_option maxRecDepth 20000 in
theorem gX10_act_X10_sharesIt : GoodIn wsX10_act (wsV RX10 407 RX10 yX10_sharesIt wsX10_sharesIt) := goodIn_app (goodIn_of _ (by decide +kernel)) ggX10_act_X10_sharesIt
set_option maxRecDepth 20000 in
theorem ggX10_act_X10_tellsIt : GoodIn wsX10_act wsX10_tellsIt := goodIn_r _ [65, 2, 33, 34, 35, 10, 36, 1, 37, 66, 67, 68, 69, 7, 4, 70, 71, 72, 73, 6, 42, 43, 44, 45, 46, 47, 48, 49, 50, 51, 52, 53, 25, 26, 27, 28, 29, 30, 31, 32, 38, 39, 40, 41, 54, 55, 56, 57, 58, 59, 60, 61, 74, 75, 76, 77, 78, 79, 80, 81, 82, 83, 84, 85, 86, 87, 88, 89, 90, 91, 92, 93, 94, 95, 96, 97, 98, 99, 100, 101, 102, 103, 104, 105, 106, 107, 108, 109, 110, 111, 112, 113, 114, 115, 116, 117, 118, 119, 120, 121, 122, 123, 124, 125, 126, 127] (by decide +kernel) (by decide +kernel)
set_option maxRecDepth 20000 in
theorem gX10_act_X10_tellsIt : GoodIn wsX10_act (wsV RX10 425 RX10 yX10_tellsIt wsX10_tellsIt) := goodIn_app (goodIn_of _ (by decide +kernel)) ggX10_act_X10_tellsIt
theorem dX10_act_0 : decode cX10_act 0 = .ok (.aload_n 0, 1) := by decide +kernel
theorem dX10_act_1 : decode cX10_act 1 = .ok (.iconst 0, 1) := by decide +kernel
theorem dX10_act_2 : decode cX10_act 2 = .ok (.putfield 377, 3) := by decide +kernel
theorem dX10_act_5 : decode cX10_act 5 = .ok (.iload_n 1, 1) := by decide +kernel
theorem dX10_act_6 : decode cX10_act 6 = .ok (.invokestatic 362, 3) := by decide +kernel
theorem dX10_act_9 : decode cX10_act 9 = .ok (.ifCond .eq 11, 3) := by decide +kernel
theorem dX10_act_12 : decode cX10_act 12 = .ok (.aload_n 0, 1) := by decide +kernel
theorem dX10_act_13 : decode cX10_act 13 = .ok (.iload_n 1, 1) := by decide +kernel
theorem dX10_act_14 : decode cX10_act 14 = .ok (.invokevirtual 371, 3) := by decide +kernel
theorem dX10_act_17 : decode cX10_act 17 = .ok (.goto 4, 3) := by decide +kernel
theorem dX10_act_20 : decode cX10_act 20 = .ok (.iconst (-1), 1) := by decide +kernel
theorem dX10_act_21 : decode cX10_act 21 = .ok (.istore 4, 2) := by decide +kernel
theorem dX10_act_23 : decode cX10_act 23 = .ok (.iload_n 2, 1) := by decide +kernel
theorem dX10_act_24 : decode cX10_act 24 = .ok (.iconst 0, 1) := by decide +kernel
theorem dX10_act_25 : decode cX10_act 25 = .ok (.iconst 3, 1) := by decide +kernel
theorem dX10_act_26 : decode cX10_act 26 = .ok (.invokestatic 97, 3) := by decide +kernel
theorem dX10_act_29 : decode cX10_act 29 = .ok (.ifCond .eq 14, 3) := by decide +kernel
theorem dX10_act_32 : decode cX10_act 32 = .ok (.iload 4, 2) := by decide +kernel
theorem dX10_act_34 : decode cX10_act 34 = .ok (.iconst 1, 1) := by decide +kernel
theorem dX10_act_35 : decode cX10_act 35 = .ok (.bipush 6, 2) := by decide +kernel
theorem dX10_act_37 : decode cX10_act 37 = .ok (.invokestatic 97, 3) := by decide +kernel
theorem dX10_act_40 : decode cX10_act 40 = .ok (.ifCond .ne 5, 3) := by decide +kernel
theorem dX10_act_43 : decode cX10_act 43 = .ok (.iconst 0, 1) := by decide +kernel
theorem dX10_act_44 : decode cX10_act 44 = .ok (.ireturn, 1) := by decide +kernel
theorem dX10_act_45 : decode cX10_act 45 = .ok (.aload_n 0, 1) := by decide +kernel
theorem dX10_act_46 : decode cX10_act 46 = .ok (.iload 4, 2) := by decide +kernel
theorem dX10_act_48 : decode cX10_act 48 = .ok (.putfield 389, 3) := by decide +kernel
theorem dX10_act_51 : decode cX10_act 51 = .ok (.aload_n 0, 1) := by decide +kernel
theorem dX10_act_52 : decode cX10_act 52 = .ok (.aload_n 0, 1) := by decide +kernel
theorem dX10_act_53 : decode cX10_act 53 = .ok (.getfield 82, 3) := by decide +kernel
theorem dX10_act_56 : decode cX10_act 56 = .ok (.iload_n 1, 1) := by decide +kernel
theorem dX10_act_57 : decode cX10_act 57 = .ok (.iaload, 1) := by decide +kernel
theorem dX10_act_58 : decode cX10_act 58 = .ok (.putfield 383, 3) := by decide +kernel
theorem dX10_act_61 : decode cX10_act 61 = .ok (.aload_n 0, 1) := by decide +kernel
theorem dX10_act_62 : decode cX10_act 62 = .ok (.aload_n 0, 1) := by decide +kernel
theorem dX10_act_63 : decode cX10_act 63 = .ok (.getfield 20, 3) := by decide +kernel
theorem dX10_act_66 : decode cX10_act 66 = .ok (.iconst 3, 1) := by decide +kernel
theorem dX10_act_67 : decode cX10_act 67 = .ok (.aload_n 0, 1) := by decide +kernel
theorem dX10_act_68 : decode cX10_act 68 = .ok (.getfield 383, 3) := by decide +kernel
theorem dX10_act_71 : decode cX10_act 71 = .ok (.imul, 1) := by decide +kernel
theorem dX10_act_72 : decode cX10_act 72 = .ok (.iconst 1, 1) := by decide +kernel
theorem dX10_act_73 : decode cX10_act 73 = .ok (.iadd, 1) := by decide +kernel
theorem dX10_act_74 : decode cX10_act 74 = .ok (.iaload, 1) := by decide +kernel
theorem dX10_act_75 : decode cX10_act 75 = .ok (.putfield 395, 3) := by decide +kernel
theorem dX10_act_78 : decode cX10_act 78 = .ok (.aload_n 0, 1) := by decide +kernel
theorem dX10_act_79 : decode cX10_act 79 = .ok (.iconst 0, 1) := by decide +kernel
theorem dX10_act_80 : decode cX10_act 80 = .ok (.putfield 410, 3) := by decide +kernel
theorem dX10_act_83 : decode cX10_act 83 = .ok (.iload_n 2, 1) := by decide +kernel
theorem dX10_act_84 : decode cX10_act 84 = .ok (.ifCond .ne 11, 3) := by decide +kernel
theorem dX10_act_87 : decode cX10_act 87 = .ok (.aload_n 0, 1) := by decide +kernel
theorem dX10_act_88 : decode cX10_act 88 = .ok (.iload_n 3, 1) := by decide +kernel
theorem dX10_act_89 : decode cX10_act 89 = .ok (.invokevirtual 398, 3) := by decide +kernel
theorem dX10_act_92 : decode cX10_act 92 = .ok (.goto 34, 3) := by decide +kernel
theorem dX10_act_95 : decode cX10_act 95 = .ok (.iload_n 2, 1) := by decide +kernel
theorem dX10_act_96 : decode cX10_act 96 = .ok (.iconst 1, 1) := by decide +kernel
theorem dX10_act_97 : decode cX10_act 97 = .ok (.if_icmp .ne 11, 3) := by decide +kernel
theorem dX10_act_100 : decode cX10_act 100 = .ok (.aload_n 0, 1) := by decide +kernel
theorem dX10_act_101 : decode cX10_act 101 = .ok (.iload_n 3, 1) := by decide +kernel
theorem dX10_act_102 : decode cX10_act 102 = .ok (.invokevirtual 416, 3) := by decide +kernel
theorem dX10_act_105 : decode cX10_act 105 = .ok (.goto 21, 3) := by decide +kernel
theorem dX10_act_108 : decode cX10_act 108 = .ok (.iload_n 2, 1) := by decide +kernel
theorem dX10_act_109 : decode cX10_act 109 = .ok (.iconst 2, 1) := by decide +kernel
theorem dX10_act_110 : decode cX10_act 110 = .ok (.if_icmp .ne 11, 3) := by decide +kernel
theorem dX10_act_113 : decode cX10_act 113 = .ok (.aload_n 0, 1) := by decide +kernel
theorem dX10_act_114 : decode cX10_act 114 = .ok (.iload_n 3, 1) := by decide +kernel
theorem dX10_act_115 : decode cX10_act 115 = .ok (.invokevirtual 407, 3) := by decide +kernel
theorem dX10_act_118 : decode cX10_act 118 = .ok (.goto 8, 3) := by decide +kernel
theorem dX10_act_121 : decode cX10_act 121 = .ok (.aload_n 0, 1) := by decide +kernel
theorem dX10_act_122 : decode cX10_act 122 = .ok (.iload_n 3, 1) := by decide +kernel
theorem dX10_act_123 : decode cX10_act 123 = .ok (.invokevirtual 425, 3) := by decide +kernel
theorem dX10_act_126 : decode cX10_act 126 = .ok (.istore 5, 2) := by decide +kernel
theorem dX10_act_128 : decode cX10_act 128 = .ok (.aload_n 0, 1) := by decide +kernel
theorem dX10_act_129 : decode cX10_act 129 = .ok (.getfield 410, 3) := by decide +kernel
theorem dX10_act_132 : decode cX10_act 132 = .ok (.ifCond .eq 8, 3) := by decide +kernel
theorem dX10_act_135 : decode cX10_act 135 = .ok (.bipush (-15), 2) := by decide +kernel
theorem dX10_act_137 : decode cX10_act 137 = .ok (.goto 5, 3) := by decide +kernel
theorem dX10_act_140 : decode cX10_act 140 = .ok (.iload 5, 2) := by decide +kernel
theorem dX10_act_142 : decode cX10_act 142 = .ok (.ireturn, 1) := by decide +kernel
set_option maxRecDepth 20000 in
theorem ggX10_trace_X10_in : GoodIn wsX10_trace wsX10_in := goodIn_r _ [6] (by decide +kernel) (by decide +kernel)
set_option maxRecDepth 20000 in
theorem gX10_trace_X10_in : GoodIn wsX10_trace (va_wsS RX10 97 yX10_in wsX10_in) := goodIn_app (goodIn_of _ (by decide +kernel)) ggX10_trace_X10_in
theorem dX10_trace_0 : decode cX10_trace 0 = .ok (.iload_n 1, 1) := by decide +kernel
theorem dX10_trace_1 : decode cX10_trace 1 = .ok (.iconst 0, 1) := by decide +kernel
theorem dX10_trace_2 : decode cX10_trace 2 = .ok (.aload_n 0, 1) := by decide +kernel
theorem dX10_trace_3 : decode cX10_trace 3 = .ok (.getfield 377, 3) := by decide +kernel
theorem dX10_trace_6 : decode cX10_trace 6 = .ok (.iconst 1, 1) := by decide +kernel
theorem dX10_trace_7 : decode cX10_trace 7 = .ok (.isub, 1) := by decide +kernel
theorem dX10_trace_8 : decode cX10_trace 8 = .ok (.invokestatic 97, 3) := by decide +kernel
theorem dX10_trace_11 : decode cX10_trace 11 = .ok (.ifCond .eq 12, 3) := by decide +kernel
theorem dX10_trace_14 : decode cX10_trace 14 = .ok (.aload_n 0, 1) := by decide +kernel
theorem dX10_trace_15 : decode cX10_trace 15 = .ok (.getfield 88, 3) := by decide +kernel
theorem dX10_trace_18 : decode cX10_trace 18 = .ok (.iload_n 1, 1) := by decide +kernel
theorem dX10_trace_19 : decode cX10_trace 19 = .ok (.iaload, 1) := by decide +kernel
theorem dX10_trace_20 : decode cX10_trace 20 = .ok (.goto 5, 3) := by decide +kernel
theorem dX10_trace_23 : decode cX10_trace 23 = .ok (.bipush (-3), 2) := by decide +kernel
theorem dX10_trace_25 : decode cX10_trace 25 = .ok (.ireturn, 1) := by decide +kernel
set_option maxRecDepth 20000 in
theorem ggX10_many_X10_unsure : GoodIn wsX10_many wsX10_unsure := goodIn_r _ [12, 2, 13, 14, 15, 11, 16, 17, 18, 19, 20, 3, 21, 22, 23, 24, 25, 26, 27, 28, 29, 30, 31, 32, 33, 34, 35, 36, 37, 38, 39, 40, 41, 42, 43, 44, 45, 46, 47, 48, 49, 50, 51, 52, 53, 54, 55, 56, 57, 58, 59, 60, 61, 62, 63, 64, 65, 66, 67, 68, 69, 70, 71, 72, 73, 74, 75, 76, 77, 78, 79, 80, 81, 82, 83, 84, 85, 86, 87, 88, 89, 90, 91, 92, 93, 94, 95] (by decide +kernel) (by decide +kernel)
set_option maxRecDepth 20000 in
theorem gX10_many_X10_unsure : GoodIn wsX10_many (wsV RX10 282 RX10 yX10_unsure wsX10_unsure) := goodIn_app (goodIn_of _ (by decide +kernel)) ggX10_many_X10_unsure
set_option maxRecDepth 20000 in
theorem ggX10_many_X10_ones : GoodIn wsX10_many wsX10_ones := goodIn_r _ [41] (by decide +kernel) (by decide +kernel)
set_option maxRecDepth 20000 in
theorem gX10_many_X10_ones : GoodIn wsX10_many (va_wsS RX10 116 yX10_ones wsX10_ones) := goodIn_app (goodIn_of _ (by decide +kernel)) ggX10_many_X10_ones
theorem dX10_many_0 : decode cX10_many 0 = .ok (.iconst 0, 1) := by decide +kernel
theorem dX10_many_1 : decode cX10_many 1 = .ok (.istore_n 2, 1) := by decide +kernel
theorem dX10_many_2 : decode cX10_many 2 = .ok (.iload_n 1, 1) := by decide +kernel
theorem dX10_many_3 : decode cX10_many 3 = .ok (.tableswitch 118 0 7 #[45, 50, 55, 60, 95, 100, 105, 110], 45) := by decide +kernel
theorem dX10_many_48 : decode cX10_many 48 = .ok (.aload_n 0, 1) := by decide +kernel
theorem dX10_many_49 : decode cX10_many 49 = .ok (.getfield 7, 3) := by decide +kernel
theorem dX10_many_52 : decode cX10_many 52 = .ok (.ireturn, 1) := by decide +kernel
theorem dX10_many_53 : decode cX10_many 53 = .ok (.aload_n 0, 1) := by decide +kernel
theorem dX10_many_54 : decode cX10_many 54 = .ok (.getfield 101, 3) := by decide +kernel
theorem dX10_many_57 : decode cX10_many 57 = .ok (.ireturn, 1) := by decide +kernel
theorem dX10_many_58 : decode cX10_many 58 = .ok (.aload_n 0, 1) := by decide +kernel
theorem dX10_many_59 : decode cX10_many 59 = .ok (.getfield 225, 3) := by decide +kernel
theorem dX10_many_62 : decode cX10_many 62 = .ok (.ireturn, 1) := by decide +kernel
theorem dX10_many_63 : decode cX10_many 63 = .ok (.iconst 0, 1) := by decide +kernel
theorem dX10_many_64 : decode cX10_many 64 = .ok (.istore_n 3, 1) := by decide +kernel
theorem dX10_many_65 : decode cX10_many 65 = .ok (.iload_n 3, 1) := by decide +kernel
theorem dX10_many_66 : decode cX10_many 66 = .ok (.aload_n 0, 1) := by decide +kernel
theorem dX10_many_67 : decode cX10_many 67 = .ok (.getfield 7, 3) := by decide +kernel
theorem dX10_many_70 : decode cX10_many 70 = .ok (.if_icmp .ge 26, 3) := by decide +kernel
theorem dX10_many_73 : decode cX10_many 73 = .ok (.iload_n 2, 1) := by decide +kernel
theorem dX10_many_74 : decode cX10_many 74 = .ok (.aload_n 0, 1) := by decide +kernel
theorem dX10_many_75 : decode cX10_many 75 = .ok (.getfield 23, 3) := by decide +kernel
theorem dX10_many_78 : decode cX10_many 78 = .ok (.iload_n 3, 1) := by decide +kernel
theorem dX10_many_79 : decode cX10_many 79 = .ok (.iaload, 1) := by decide +kernel
theorem dX10_many_80 : decode cX10_many 80 = .ok (.ifCond .le 7, 3) := by decide +kernel
theorem dX10_many_83 : decode cX10_many 83 = .ok (.iconst 1, 1) := by decide +kernel
theorem dX10_many_84 : decode cX10_many 84 = .ok (.goto 4, 3) := by decide +kernel
theorem dX10_many_87 : decode cX10_many 87 = .ok (.iconst 0, 1) := by decide +kernel
theorem dX10_many_88 : decode cX10_many 88 = .ok (.iadd, 1) := by decide +kernel
theorem dX10_many_89 : decode cX10_many 89 = .ok (.istore_n 2, 1) := by decide +kernel
theorem dX10_many_90 : decode cX10_many 90 = .ok (.iinc 3 1, 3) := by decide +kernel
theorem dX10_many_93 : decode cX10_many 93 = .ok (.goto (-28), 3) := by decide +kernel
theorem dX10_many_96 : decode cX10_many 96 = .ok (.iload_n 2, 1) := by decide +kernel
theorem dX10_many_97 : decode cX10_many 97 = .ok (.ireturn, 1) := by decide +kernel
theorem dX10_many_98 : decode cX10_many 98 = .ok (.aload_n 0, 1) := by decide +kernel
theorem dX10_many_99 : decode cX10_many 99 = .ok (.getfield 228, 3) := by decide +kernel
theorem dX10_many_102 : decode cX10_many 102 = .ok (.ireturn, 1) := by decide +kernel
theorem dX10_many_103 : decode cX10_many 103 = .ok (.aload_n 0, 1) := by decide +kernel
theorem dX10_many_104 : decode cX10_many 104 = .ok (.getfield 119, 3) := by decide +kernel
theorem dX10_many_107 : decode cX10_many 107 = .ok (.ireturn, 1) := by decide +kernel
theorem dX10_many_108 : decode cX10_many 108 = .ok (.aload_n 0, 1) := by decide +kernel
theorem dX10_many_109 : decode cX10_many 109 = .ok (.getfield 377, 3) := by decide +kernel
theorem dX10_many_112 : decode cX10_many 112 = .ok (.ireturn, 1) := by decide +kernel
theorem dX10_many_113 : decode cX10_many 113 = .ok (.aload_n 0, 1) := by decide +kernel
theorem dX10_many_114 : decode cX10_many 114 = .ok (.invokevirtual 282, 3) := by decide +kernel
theorem dX10_many_117 : decode cX10_many 117 = .ok (.invokestatic 116, 3) := by decide +kernel
theorem dX10_many_120 : decode cX10_many 120 = .ok (.ireturn, 1) := by decide +kernel
theorem dX10_many_121 : decode cX10_many 121 = .ok (.iconst (-1), 1) := by decide +kernel
theorem dX10_many_122 : decode cX10_many 122 = .ok (.ireturn, 1) := by decide +kernel
theorem dX10_move_0 : decode cX10_move 0 = .ok (.iconst 0, 1) := by decide +kernel
theorem dX10_move_1 : decode cX10_move 1 = .ok (.istore 4, 2) := by decide +kernel
theorem dX10_move_3 : decode cX10_move 3 = .ok (.iload 4, 2) := by decide +kernel
theorem dX10_move_5 : decode cX10_move 5 = .ok (.iload_n 2, 1) := by decide +kernel
theorem dX10_move_6 : decode cX10_move 6 = .ok (.if_icmp .ge 52, 3) := by decide +kernel
theorem dX10_move_9 : decode cX10_move 9 = .ok (.iload_n 3, 1) := by decide +kernel
theorem dX10_move_10 : decode cX10_move 10 = .ok (.ifCond .eq 19, 3) := by decide +kernel
theorem dX10_move_13 : decode cX10_move 13 = .ok (.aload_n 0, 1) := by decide +kernel
theorem dX10_move_14 : decode cX10_move 14 = .ok (.getfield 91, 3) := by decide +kernel
theorem dX10_move_17 : decode cX10_move 17 = .ok (.aload_n 0, 1) := by decide +kernel
theorem dX10_move_18 : decode cX10_move 18 = .ok (.getfield 428, 3) := by decide +kernel
theorem dX10_move_21 : decode cX10_move 21 = .ok (.aload_n 1, 1) := by decide +kernel
theorem dX10_move_22 : decode cX10_move 22 = .ok (.iload 4, 2) := by decide +kernel
theorem dX10_move_24 : decode cX10_move 24 = .ok (.iaload, 1) := by decide +kernel
theorem dX10_move_25 : decode cX10_move 25 = .ok (.iastore, 1) := by decide +kernel
theorem dX10_move_26 : decode cX10_move 26 = .ok (.goto 16, 3) := by decide +kernel
theorem dX10_move_29 : decode cX10_move 29 = .ok (.aload_n 1, 1) := by decide +kernel
theorem dX10_move_30 : decode cX10_move 30 = .ok (.iload 4, 2) := by decide +kernel
theorem dX10_move_32 : decode cX10_move 32 = .ok (.aload_n 0, 1) := by decide +kernel
theorem dX10_move_33 : decode cX10_move 33 = .ok (.getfield 91, 3) := by decide +kernel
theorem dX10_move_36 : decode cX10_move 36 = .ok (.aload_n 0, 1) := by decide +kernel
theorem dX10_move_37 : decode cX10_move 37 = .ok (.getfield 428, 3) := by decide +kernel
theorem dX10_move_40 : decode cX10_move 40 = .ok (.iaload, 1) := by decide +kernel
theorem dX10_move_41 : decode cX10_move 41 = .ok (.iastore, 1) := by decide +kernel
theorem dX10_move_42 : decode cX10_move 42 = .ok (.aload_n 0, 1) := by decide +kernel
theorem dX10_move_43 : decode cX10_move 43 = .ok (.dup, 1) := by decide +kernel
theorem dX10_move_44 : decode cX10_move 44 = .ok (.getfield 428, 3) := by decide +kernel
theorem dX10_move_47 : decode cX10_move 47 = .ok (.iconst 1, 1) := by decide +kernel
theorem dX10_move_48 : decode cX10_move 48 = .ok (.iadd, 1) := by decide +kernel
theorem dX10_move_49 : decode cX10_move 49 = .ok (.putfield 428, 3) := by decide +kernel
theorem dX10_move_52 : decode cX10_move 52 = .ok (.iinc 4 1, 3) := by decide +kernel
theorem dX10_move_55 : decode cX10_move 55 = .ok (.goto (-52), 3) := by decide +kernel
theorem dX10_move_58 : decode cX10_move 58 = .ok (.return_, 1) := by decide +kernel
set_option maxRecDepth 20000 in
theorem ggX10_moveAll_X10_move : GoodIn wsX10_moveAll wsX10_move := goodIn_r _ [15, 16, 1, 17, 18, 19, 20, 21, 22, 23, 24, 25, 26, 27, 28, 29, 30, 31, 32, 33, 34, 35, 36, 37, 38, 39, 40, 41, 42, 43, 44, 45, 46, 47, 48, 49, 50, 51, 52, 53, 54, 55, 56, 57, 58, 59, 60, 61, 62, 63, 64, 65, 66, 67, 68, 69, 70] (by decide +kernel) (by decide +kernel)
set_option maxRecDepth 20000 in
theorem gX10_moveAll_X10_move : GoodIn wsX10_moveAll (wsV RX10 431 RX10 yX10_move wsX10_move) := goodIn_app (goodIn_of _ (by decide +kernel)) ggX10_moveAll_X10_move
theorem dX10_moveAll_0 : decode cX10_moveAll 0 = .ok (.aload_n 0, 1) := by decide +kernel
theorem dX10_moveAll_1 : decode cX10_moveAll 1 = .ok (.iconst 0, 1) := by decide +kernel
theorem dX10_moveAll_2 : decode cX10_moveAll 2 = .ok (.putfield 428, 3) := by decide +kernel
theorem dX10_moveAll_5 : decode cX10_moveAll 5 = .ok (.aload_n 0, 1) := by decide +kernel
theorem dX10_moveAll_6 : decode cX10_moveAll 6 = .ok (.getfield 94, 3) := by decide +kernel
theorem dX10_moveAll_9 : decode cX10_moveAll 9 = .ok (.iconst 0, 1) := by decide +kernel
theorem dX10_moveAll_10 : decode cX10_moveAll 10 = .ok (.aload_n 0, 1) := by decide +kernel
theorem dX10_moveAll_11 : decode cX10_moveAll 11 = .ok (.getfield 7, 3) := by decide +kernel
theorem dX10_moveAll_14 : decode cX10_moveAll 14 = .ok (.iastore, 1) := by decide +kernel
theorem dX10_moveAll_15 : decode cX10_moveAll 15 = .ok (.aload_n 0, 1) := by decide +kernel
theorem dX10_moveAll_16 : decode cX10_moveAll 16 = .ok (.getfield 94, 3) := by decide +kernel
theorem dX10_moveAll_19 : decode cX10_moveAll 19 = .ok (.iconst 1, 1) := by decide +kernel
theorem dX10_moveAll_20 : decode cX10_moveAll 20 = .ok (.aload_n 0, 1) := by decide +kernel
theorem dX10_moveAll_21 : decode cX10_moveAll 21 = .ok (.getfield 101, 3) := by decide +kernel
theorem dX10_moveAll_24 : decode cX10_moveAll 24 = .ok (.iastore, 1) := by decide +kernel
theorem dX10_moveAll_25 : decode cX10_moveAll 25 = .ok (.aload_n 0, 1) := by decide +kernel
theorem dX10_moveAll_26 : decode cX10_moveAll 26 = .ok (.getfield 94, 3) := by decide +kernel
theorem dX10_moveAll_29 : decode cX10_moveAll 29 = .ok (.iconst 2, 1) := by decide +kernel
theorem dX10_moveAll_30 : decode cX10_moveAll 30 = .ok (.aload_n 0, 1) := by decide +kernel
theorem dX10_moveAll_31 : decode cX10_moveAll 31 = .ok (.getfield 225, 3) := by decide +kernel
theorem dX10_moveAll_34 : decode cX10_moveAll 34 = .ok (.iastore, 1) := by decide +kernel
theorem dX10_moveAll_35 : decode cX10_moveAll 35 = .ok (.aload_n 0, 1) := by decide +kernel
theorem dX10_moveAll_36 : decode cX10_moveAll 36 = .ok (.getfield 94, 3) := by decide +kernel
theorem dX10_moveAll_39 : decode cX10_moveAll 39 = .ok (.iconst 3, 1) := by decide +kernel
theorem dX10_moveAll_40 : decode cX10_moveAll 40 = .ok (.aload_n 0, 1) := by decide +kernel
theorem dX10_moveAll_41 : decode cX10_moveAll 41 = .ok (.getfield 26, 3) := by decide +kernel
theorem dX10_moveAll_44 : decode cX10_moveAll 44 = .ok (.iastore, 1) := by decide +kernel
theorem dX10_moveAll_45 : decode cX10_moveAll 45 = .ok (.aload_n 0, 1) := by decide +kernel
theorem dX10_moveAll_46 : decode cX10_moveAll 46 = .ok (.aload_n 0, 1) := by decide +kernel
theorem dX10_moveAll_47 : decode cX10_moveAll 47 = .ok (.getfield 94, 3) := by decide +kernel
theorem dX10_moveAll_50 : decode cX10_moveAll 50 = .ok (.iconst 4, 1) := by decide +kernel
theorem dX10_moveAll_51 : decode cX10_moveAll 51 = .ok (.iload_n 1, 1) := by decide +kernel
theorem dX10_moveAll_52 : decode cX10_moveAll 52 = .ok (.invokevirtual 431, 3) := by decide +kernel
theorem dX10_moveAll_55 : decode cX10_moveAll 55 = .ok (.aload_n 0, 1) := by decide +kernel
theorem dX10_moveAll_56 : decode cX10_moveAll 56 = .ok (.aload_n 0, 1) := by decide +kernel
theorem dX10_moveAll_57 : decode cX10_moveAll 57 = .ok (.getfield 13, 3) := by decide +kernel
theorem dX10_moveAll_60 : decode cX10_moveAll 60 = .ok (.bipush 10, 2) := by decide +kernel
theorem dX10_moveAll_62 : decode cX10_moveAll 62 = .ok (.iload_n 1, 1) := by decide +kernel
theorem dX10_moveAll_63 : decode cX10_moveAll 63 = .ok (.invokevirtual 431, 3) := by decide +kernel
theorem dX10_moveAll_66 : decode cX10_moveAll 66 = .ok (.aload_n 0, 1) := by decide +kernel
theorem dX10_moveAll_67 : decode cX10_moveAll 67 = .ok (.aload_n 0, 1) := by decide +kernel
theorem dX10_moveAll_68 : decode cX10_moveAll 68 = .ok (.getfield 17, 3) := by decide +kernel
theorem dX10_moveAll_71 : decode cX10_moveAll 71 = .ok (.bipush 70, 2) := by decide +kernel
theorem dX10_moveAll_73 : decode cX10_moveAll 73 = .ok (.iload_n 1, 1) := by decide +kernel
theorem dX10_moveAll_74 : decode cX10_moveAll 74 = .ok (.invokevirtual 431, 3) := by decide +kernel
theorem dX10_moveAll_77 : decode cX10_moveAll 77 = .ok (.aload_n 0, 1) := by decide +kernel
theorem dX10_moveAll_78 : decode cX10_moveAll 78 = .ok (.aload_n 0, 1) := by decide +kernel
theorem dX10_moveAll_79 : decode cX10_moveAll 79 = .ok (.getfield 20, 3) := by decide +kernel
theorem dX10_moveAll_82 : decode cX10_moveAll 82 = .ok (.bipush 24, 2) := by decide +kernel
theorem dX10_moveAll_84 : decode cX10_moveAll 84 = .ok (.iload_n 1, 1) := by decide +kernel
theorem dX10_moveAll_85 : decode cX10_moveAll 85 = .ok (.invokevirtual 431, 3) := by decide +kernel
theorem dX10_moveAll_88 : decode cX10_moveAll 88 = .ok (.aload_n 0, 1) := by decide +kernel
theorem dX10_moveAll_89 : decode cX10_moveAll 89 = .ok (.aload_n 0, 1) := by decide +kernel
theorem dX10_moveAll_90 : decode cX10_moveAll 90 = .ok (.getfield 23, 3) := by decide +kernel
theorem dX10_moveAll_93 : decode cX10_moveAll 93 = .ok (.bipush 10, 2) := by decide +kernel
theorem dX10_moveAll_95 : decode cX10_moveAll 95 = .ok (.iload_n 1, 1) := by decide +kernel
theorem dX10_moveAll_96 : decode cX10_moveAll 96 = .ok (.invokevirtual 431, 3) := by decide +kernel
theorem dX10_moveAll_99 : decode cX10_moveAll 99 = .ok (.return_, 1) := by decide +kernel
set_option maxRecDepth 20000 in
theorem ggX10_keep_X10_moveAll : GoodIn wsX10_keep wsX10_moveAll := goodIn_r _ [6, 7, 8, 9, 10, 11, 12, 13, 14, 15, 16, 17, 18, 19, 5, 20, 21, 22, 23, 24, 25, 26, 27, 28, 29, 30, 31, 32, 33, 34, 35, 36, 37, 38, 39, 40, 41, 42, 43, 44, 45, 46, 47, 48, 49, 50, 51, 52, 53, 54, 55, 56, 57, 58, 59, 60, 61, 62, 63, 64, 65, 66, 67, 68, 69, 70, 71, 72, 73, 74, 75] (by decide +kernel) (by decide +kernel)
set_option maxRecDepth 20000 in
theorem gX10_keep_X10_moveAll : GoodIn wsX10_keep (wsV RX10 435 RX10 yX10_moveAll wsX10_moveAll) := goodIn_app (goodIn_of _ (by decide +kernel)) ggX10_keep_X10_moveAll
theorem dX10_keep_0 : decode cX10_keep 0 = .ok (.aload_n 0, 1) := by decide +kernel
theorem dX10_keep_1 : decode cX10_keep 1 = .ok (.iconst 1, 1) := by decide +kernel
theorem dX10_keep_2 : decode cX10_keep 2 = .ok (.invokevirtual 435, 3) := by decide +kernel
theorem dX10_keep_5 : decode cX10_keep 5 = .ok (.aload_n 0, 1) := by decide +kernel
theorem dX10_keep_6 : decode cX10_keep 6 = .ok (.iconst 1, 1) := by decide +kernel
theorem dX10_keep_7 : decode cX10_keep 7 = .ok (.putfield 439, 3) := by decide +kernel
theorem dX10_keep_10 : decode cX10_keep 10 = .ok (.iconst 1, 1) := by decide +kernel
theorem dX10_keep_11 : decode cX10_keep 11 = .ok (.ireturn, 1) := by decide +kernel
set_option maxRecDepth 20000 in
theorem ggX10_back_X10_moveAll : GoodIn wsX10_back wsX10_moveAll := goodIn_r _ [11, 12, 2, 3, 4, 5, 6, 13, 14, 15, 16, 17, 18, 19, 10, 20, 21, 22, 23, 24, 25, 26, 27, 28, 29, 30, 31, 32, 33, 34, 35, 36, 37, 38, 39, 40, 41, 42, 43, 44, 45, 46, 47, 48, 49, 50, 51, 52, 53, 54, 55, 56, 57, 58, 59, 60, 61, 62, 63, 64, 65, 66, 67, 68, 69, 70, 71, 72, 73, 74, 75] (by decide +kernel) (by decide +kernel)
set_option maxRecDepth 20000 in
theorem gX10_back_X10_moveAll : GoodIn wsX10_back (wsV RX10 435 RX10 yX10_moveAll wsX10_moveAll) := goodIn_app (goodIn_of _ (by decide +kernel)) ggX10_back_X10_moveAll
theorem dX10_back_0 : decode cX10_back 0 = .ok (.aload_n 0, 1) := by decide +kernel
theorem dX10_back_1 : decode cX10_back 1 = .ok (.getfield 439, 3) := by decide +kernel
theorem dX10_back_4 : decode cX10_back 4 = .ok (.ifCond .ne 6, 3) := by decide +kernel
theorem dX10_back_7 : decode cX10_back 7 = .ok (.bipush (-3), 2) := by decide +kernel
theorem dX10_back_9 : decode cX10_back 9 = .ok (.ireturn, 1) := by decide +kernel
theorem dX10_back_10 : decode cX10_back 10 = .ok (.aload_n 0, 1) := by decide +kernel
theorem dX10_back_11 : decode cX10_back 11 = .ok (.iconst 0, 1) := by decide +kernel
theorem dX10_back_12 : decode cX10_back 12 = .ok (.invokevirtual 435, 3) := by decide +kernel
theorem dX10_back_15 : decode cX10_back 15 = .ok (.aload_n 0, 1) := by decide +kernel
theorem dX10_back_16 : decode cX10_back 16 = .ok (.aload_n 0, 1) := by decide +kernel
theorem dX10_back_17 : decode cX10_back 17 = .ok (.getfield 94, 3) := by decide +kernel
theorem dX10_back_20 : decode cX10_back 20 = .ok (.iconst 0, 1) := by decide +kernel
theorem dX10_back_21 : decode cX10_back 21 = .ok (.iaload, 1) := by decide +kernel
theorem dX10_back_22 : decode cX10_back 22 = .ok (.putfield 7, 3) := by decide +kernel
theorem dX10_back_25 : decode cX10_back 25 = .ok (.aload_n 0, 1) := by decide +kernel
theorem dX10_back_26 : decode cX10_back 26 = .ok (.aload_n 0, 1) := by decide +kernel
theorem dX10_back_27 : decode cX10_back 27 = .ok (.getfield 94, 3) := by decide +kernel
theorem dX10_back_30 : decode cX10_back 30 = .ok (.iconst 1, 1) := by decide +kernel
theorem dX10_back_31 : decode cX10_back 31 = .ok (.iaload, 1) := by decide +kernel
theorem dX10_back_32 : decode cX10_back 32 = .ok (.putfield 101, 3) := by decide +kernel
theorem dX10_back_35 : decode cX10_back 35 = .ok (.aload_n 0, 1) := by decide +kernel
theorem dX10_back_36 : decode cX10_back 36 = .ok (.aload_n 0, 1) := by decide +kernel
theorem dX10_back_37 : decode cX10_back 37 = .ok (.getfield 94, 3) := by decide +kernel
theorem dX10_back_40 : decode cX10_back 40 = .ok (.iconst 2, 1) := by decide +kernel
theorem dX10_back_41 : decode cX10_back 41 = .ok (.iaload, 1) := by decide +kernel
theorem dX10_back_42 : decode cX10_back 42 = .ok (.putfield 225, 3) := by decide +kernel
theorem dX10_back_45 : decode cX10_back 45 = .ok (.aload_n 0, 1) := by decide +kernel
theorem dX10_back_46 : decode cX10_back 46 = .ok (.aload_n 0, 1) := by decide +kernel
theorem dX10_back_47 : decode cX10_back 47 = .ok (.getfield 94, 3) := by decide +kernel
theorem dX10_back_50 : decode cX10_back 50 = .ok (.iconst 3, 1) := by decide +kernel
theorem dX10_back_51 : decode cX10_back 51 = .ok (.iaload, 1) := by decide +kernel
theorem dX10_back_52 : decode cX10_back 52 = .ok (.putfield 26, 3) := by decide +kernel
theorem dX10_back_55 : decode cX10_back 55 = .ok (.aload_n 0, 1) := by decide +kernel
theorem dX10_back_56 : decode cX10_back 56 = .ok (.getfield 101, 3) := by decide +kernel
theorem dX10_back_59 : decode cX10_back 59 = .ok (.ireturn, 1) := by decide +kernel
theorem dJ6_bitCount_0f7a4_0 : decode cJ6_bitCount_0f7a4 0 = .ok (.iload_n 0, 1) := by decide +kernel
theorem dJ6_bitCount_0f7a4_1 : decode cJ6_bitCount_0f7a4 1 = .ok (.iload_n 0, 1) := by decide +kernel
theorem dJ6_bitCount_0f7a4_2 : decode cJ6_bitCount_0f7a4 2 = .ok (.iconst 1, 1) := by decide +kernel
theorem dJ6_bitCount_0f7a4_3 : decode cJ6_bitCount_0f7a4 3 = .ok (.iushr, 1) := by decide +kernel
theorem dJ6_bitCount_0f7a4_4 : decode cJ6_bitCount_0f7a4 4 = .ok (.ldc_w 265, 3) := by decide +kernel
theorem dJ6_bitCount_0f7a4_7 : decode cJ6_bitCount_0f7a4 7 = .ok (.iand, 1) := by decide +kernel
theorem dJ6_bitCount_0f7a4_8 : decode cJ6_bitCount_0f7a4 8 = .ok (.isub, 1) := by decide +kernel
theorem dJ6_bitCount_0f7a4_9 : decode cJ6_bitCount_0f7a4 9 = .ok (.istore_n 0, 1) := by decide +kernel
theorem dJ6_bitCount_0f7a4_10 : decode cJ6_bitCount_0f7a4 10 = .ok (.iload_n 0, 1) := by decide +kernel
theorem dJ6_bitCount_0f7a4_11 : decode cJ6_bitCount_0f7a4 11 = .ok (.ldc_w 266, 3) := by decide +kernel
theorem dJ6_bitCount_0f7a4_14 : decode cJ6_bitCount_0f7a4 14 = .ok (.iand, 1) := by decide +kernel
theorem dJ6_bitCount_0f7a4_15 : decode cJ6_bitCount_0f7a4 15 = .ok (.iload_n 0, 1) := by decide +kernel
theorem dJ6_bitCount_0f7a4_16 : decode cJ6_bitCount_0f7a4 16 = .ok (.iconst 2, 1) := by decide +kernel
theorem dJ6_bitCount_0f7a4_17 : decode cJ6_bitCount_0f7a4 17 = .ok (.iushr, 1) := by decide +kernel
theorem dJ6_bitCount_0f7a4_18 : decode cJ6_bitCount_0f7a4 18 = .ok (.ldc_w 266, 3) := by decide +kernel
theorem dJ6_bitCount_0f7a4_21 : decode cJ6_bitCount_0f7a4 21 = .ok (.iand, 1) := by decide +kernel
theorem dJ6_bitCount_0f7a4_22 : decode cJ6_bitCount_0f7a4 22 = .ok (.iadd, 1) := by decide +kernel
theorem dJ6_bitCount_0f7a4_23 : decode cJ6_bitCount_0f7a4 23 = .ok (.istore_n 0, 1) := by decide +kernel
theorem dJ6_bitCount_0f7a4_24 : decode cJ6_bitCount_0f7a4 24 = .ok (.iload_n 0, 1) := by decide +kernel
theorem dJ6_bitCount_0f7a4_25 : decode cJ6_bitCount_0f7a4 25 = .ok (.iload_n 0, 1) := by decide +kernel
theorem dJ6_bitCount_0f7a4_26 : decode cJ6_bitCount_0f7a4 26 = .ok (.iconst 4, 1) := by decide +kernel
theorem dJ6_bitCount_0f7a4_27 : decode cJ6_bitCount_0f7a4 27 = .ok (.iushr, 1) := by decide +kernel
theorem dJ6_bitCount_0f7a4_28 : decode cJ6_bitCount_0f7a4 28 = .ok (.iadd, 1) := by decide +kernel
theorem dJ6_bitCount_0f7a4_29 : decode cJ6_bitCount_0f7a4 29 = .ok (.ldc_w 267, 3) := by decide +kernel
theorem dJ6_bitCount_0f7a4_32 : decode cJ6_bitCount_0f7a4 32 = .ok (.iand, 1) := by decide +kernel
theorem dJ6_bitCount_0f7a4_33 : decode cJ6_bitCount_0f7a4 33 = .ok (.istore_n 0, 1) := by decide +kernel
theorem dJ6_bitCount_0f7a4_34 : decode cJ6_bitCount_0f7a4 34 = .ok (.iload_n 0, 1) := by decide +kernel
theorem dJ6_bitCount_0f7a4_35 : decode cJ6_bitCount_0f7a4 35 = .ok (.iload_n 0, 1) := by decide +kernel
theorem dJ6_bitCount_0f7a4_36 : decode cJ6_bitCount_0f7a4 36 = .ok (.bipush 8, 2) := by decide +kernel
theorem dJ6_bitCount_0f7a4_38 : decode cJ6_bitCount_0f7a4 38 = .ok (.iushr, 1) := by decide +kernel
theorem dJ6_bitCount_0f7a4_39 : decode cJ6_bitCount_0f7a4 39 = .ok (.iadd, 1) := by decide +kernel
theorem dJ6_bitCount_0f7a4_40 : decode cJ6_bitCount_0f7a4 40 = .ok (.istore_n 0, 1) := by decide +kernel
theorem dJ6_bitCount_0f7a4_41 : decode cJ6_bitCount_0f7a4 41 = .ok (.iload_n 0, 1) := by decide +kernel
theorem dJ6_bitCount_0f7a4_42 : decode cJ6_bitCount_0f7a4 42 = .ok (.iload_n 0, 1) := by decide +kernel
theorem dJ6_bitCount_0f7a4_43 : decode cJ6_bitCount_0f7a4 43 = .ok (.bipush 16, 2) := by decide +kernel
theorem dJ6_bitCount_0f7a4_45 : decode cJ6_bitCount_0f7a4 45 = .ok (.iushr, 1) := by decide +kernel
theorem dJ6_bitCount_0f7a4_46 : decode cJ6_bitCount_0f7a4 46 = .ok (.iadd, 1) := by decide +kernel
theorem dJ6_bitCount_0f7a4_47 : decode cJ6_bitCount_0f7a4 47 = .ok (.istore_n 0, 1) := by decide +kernel
theorem dJ6_bitCount_0f7a4_48 : decode cJ6_bitCount_0f7a4 48 = .ok (.iload_n 0, 1) := by decide +kernel
theorem dJ6_bitCount_0f7a4_49 : decode cJ6_bitCount_0f7a4 49 = .ok (.bipush 63, 2) := by decide +kernel
theorem dJ6_bitCount_0f7a4_51 : decode cJ6_bitCount_0f7a4 51 = .ok (.iand, 1) := by decide +kernel
theorem dJ6_bitCount_0f7a4_52 : decode cJ6_bitCount_0f7a4 52 = .ok (.ireturn, 1) := by decide +kernel
theorem dJ9_max_7cf53_0 : decode cJ9_max_7cf53 0 = .ok (.iload_n 0, 1) := by decide +kernel
theorem dJ9_max_7cf53_1 : decode cJ9_max_7cf53 1 = .ok (.iload_n 1, 1) := by decide +kernel
theorem dJ9_max_7cf53_2 : decode cJ9_max_7cf53 2 = .ok (.if_icmp .lt 7, 3) := by decide +kernel
theorem dJ9_max_7cf53_5 : decode cJ9_max_7cf53 5 = .ok (.iload_n 0, 1) := by decide +kernel
theorem dJ9_max_7cf53_6 : decode cJ9_max_7cf53 6 = .ok (.goto 4, 3) := by decide +kernel
theorem dJ9_max_7cf53_9 : decode cJ9_max_7cf53 9 = .ok (.iload_n 1, 1) := by decide +kernel
theorem dJ9_max_7cf53_10 : decode cJ9_max_7cf53 10 = .ok (.ireturn, 1) := by decide +kernel
theorem dJ9_min_7cf53_0 : decode cJ9_min_7cf53 0 = .ok (.iload_n 0, 1) := by decide +kernel
theorem dJ9_min_7cf53_1 : decode cJ9_min_7cf53 1 = .ok (.iload_n 1, 1) := by decide +kernel
theorem dJ9_min_7cf53_2 : decode cJ9_min_7cf53 2 = .ok (.if_icmp .gt 7, 3) := by decide +kernel
theorem dJ9_min_7cf53_5 : decode cJ9_min_7cf53 5 = .ok (.iload_n 0, 1) := by decide +kernel
theorem dJ9_min_7cf53_6 : decode cJ9_min_7cf53 6 = .ok (.goto 4, 3) := by decide +kernel
theorem dJ9_min_7cf53_9 : decode cJ9_min_7cf53 9 = .ok (.iload_n 1, 1) := by decide +kernel
theorem dJ9_min_7cf53_10 : decode cJ9_min_7cf53 10 = .ok (.ireturn, 1) := by decide +kernel
set_option maxRecDepth 20000 in
theorem ggJ0_length_8abf5_J0_coder_7d493 : GoodIn wsJ0_length_8abf5 wsJ0_coder_7d493 := goodIn_r _ [6, 7, 8] (by decide +kernel) (by decide +kernel)
set_option maxRecDepth 20000 in
theorem gJ0_length_8abf5_J0_coder_7d493 : GoodIn wsJ0_length_8abf5 (wsV RJ0 335 RJ0 yJ0_coder_7d493 wsJ0_coder_7d493) := goodIn_app (goodIn_of _ (by decide +kernel)) ggJ0_length_8abf5_J0_coder_7d493
theorem dJ0_length_8abf5_0 : decode cJ0_length_8abf5 0 = .ok (.aload_n 0, 1) := by decide +kernel
theorem dJ0_length_8abf5_1 : decode cJ0_length_8abf5 1 = .ok (.getfield 9, 3) := by decide +kernel
theorem dJ0_length_8abf5_4 : decode cJ0_length_8abf5 4 = .ok (.arraylength, 1) := by decide +kernel
theorem dJ0_length_8abf5_5 : decode cJ0_length_8abf5 5 = .ok (.aload_n 0, 1) := by decide +kernel
theorem dJ0_length_8abf5_6 : decode cJ0_length_8abf5 6 = .ok (.invokevirtual 335, 3) := by decide +kernel
theorem dJ0_length_8abf5_9 : decode cJ0_length_8abf5 9 = .ok (.ishr, 1) := by decide +kernel
theorem dJ0_length_8abf5_10 : decode cJ0_length_8abf5 10 = .ok (.ireturn, 1) := by decide +kernel
set_option maxRecDepth 20000 in
theorem ggJ0_charAt_5068e_J0_isLatin1_aae02 : GoodIn wsJ0_charAt_5068e wsJ0_isLatin1_aae02 := goodIn_r _ [6, 7, 8] (by decide +kernel) (by decide +kernel)
set_option maxRecDepth 20000 in
theorem gJ0_charAt_5068e_J0_isLatin1_aae02 : GoodIn wsJ0_charAt_5068e (wsV RJ0 492 RJ0 yJ0_isLatin1_aae02 wsJ0_isLatin1_aae02) := goodIn_app (goodIn_of _ (by decide +kernel)) ggJ0_charAt_5068e_J0_isLatin1_aae02
set_option maxRecDepth 20000 in
theorem ggJ0_charAt_5068e_J1_charAt_3b067 : GoodIn wsJ0_charAt_5068e wsJ1_charAt_3b067 := goodIn_r _ [12, 13, 14, 5, 15, 16, 17, 18, 19, 20] (by decide +kernel) (by decide +kernel)
set_option maxRecDepth 20000 in
theorem gJ0_charAt_5068e_J1_charAt_3b067 : GoodIn wsJ0_charAt_5068e (va_wsS RJ0 495 yJ1_charAt_3b067 wsJ1_charAt_3b067) := goodIn_app (goodIn_of _ (by decide +kernel)) ggJ0_charAt_5068e_J1_charAt_3b067
set_option maxRecDepth 20000 in
theorem ggJ0_charAt_5068e_J2_charAt_3b067 : GoodIn wsJ0_charAt_5068e wsJ2_charAt_3b067 := goodIn_r _ [24, 25, 26, 23, 27, 28, 29, 30, 31, 14, 5, 15, 16, 17, 18, 19, 20, 32, 33, 34, 35, 36, 37] (by decide +kernel) (by decide +kernel)
set_option maxRecDepth 20000 in
theorem gJ0_charAt_5068e_J2_charAt_3b067 : GoodIn wsJ0_charAt_5068e (va_wsS RJ0 498 yJ2_charAt_3b067 wsJ2_charAt_3b067) := goodIn_app (goodIn_of _ (by decide +kernel)) ggJ0_charAt_5068e_J2_charAt_3b067
theorem dJ0_charAt_5068e_0 : decode cJ0_charAt_5068e 0 = .ok (.aload_n 0, 1) := by decide +kernel
theorem dJ0_charAt_5068e_1 : decode cJ0_charAt_5068e 1 = .ok (.invokevirtual 492, 3) := by decide +kernel
theorem dJ0_charAt_5068e_4 : decode cJ0_charAt_5068e 4 = .ok (.ifCond .eq 12, 3) := by decide +kernel
theorem dJ0_charAt_5068e_7 : decode cJ0_charAt_5068e 7 = .ok (.aload_n 0, 1) := by decide +kernel
theorem dJ0_charAt_5068e_8 : decode cJ0_charAt_5068e 8 = .ok (.getfield 9, 3) := by decide +kernel
theorem dJ0_charAt_5068e_11 : decode cJ0_charAt_5068e 11 = .ok (.iload_n 1, 1) := by decide +kernel
theorem dJ0_charAt_5068e_12 : decode cJ0_charAt_5068e 12 = .ok (.invokestatic 495, 3) := by decide +kernel
theorem dJ0_charAt_5068e_15 : decode cJ0_charAt_5068e 15 = .ok (.ireturn, 1) := by decide +kernel
theorem dJ0_charAt_5068e_16 : decode cJ0_charAt_5068e 16 = .ok (.aload_n 0, 1) := by decide +kernel
theorem dJ0_charAt_5068e_17 : decode cJ0_charAt_5068e 17 = .ok (.getfield 9, 3) := by decide +kernel
theorem dJ0_charAt_5068e_20 : decode cJ0_charAt_5068e 20 = .ok (.iload_n 1, 1) := by decide +kernel
theorem dJ0_charAt_5068e_21 : decode cJ0_charAt_5068e 21 = .ok (.invokestatic 498, 3) := by decide +kernel
theorem dJ0_charAt_5068e_24 : decode cJ0_charAt_5068e 24 = .ok (.ireturn, 1) := by decide +kernel
theorem dJ0_coder_7d493_0 : decode cJ0_coder_7d493 0 = .ok (.getstatic 38, 3) := by decide +kernel
theorem dJ0_coder_7d493_3 : decode cJ0_coder_7d493 3 = .ok (.ifCond .eq 10, 3) := by decide +kernel
theorem dJ0_coder_7d493_6 : decode cJ0_coder_7d493 6 = .ok (.aload_n 0, 1) := by decide +kernel
theorem dJ0_coder_7d493_7 : decode cJ0_coder_7d493 7 = .ok (.getfield 15, 3) := by decide +kernel
theorem dJ0_coder_7d493_10 : decode cJ0_coder_7d493 10 = .ok (.goto 4, 3) := by decide +kernel
theorem dJ0_coder_7d493_13 : decode cJ0_coder_7d493 13 = .ok (.iconst 1, 1) := by decide +kernel
theorem dJ0_coder_7d493_14 : decode cJ0_coder_7d493 14 = .ok (.ireturn, 1) := by decide +kernel
theorem dJ0_isLatin1_aae02_0 : decode cJ0_isLatin1_aae02 0 = .ok (.getstatic 38, 3) := by decide +kernel
theorem dJ0_isLatin1_aae02_3 : decode cJ0_isLatin1_aae02 3 = .ok (.ifCond .eq 14, 3) := by decide +kernel
theorem dJ0_isLatin1_aae02_6 : decode cJ0_isLatin1_aae02 6 = .ok (.aload_n 0, 1) := by decide +kernel
theorem dJ0_isLatin1_aae02_7 : decode cJ0_isLatin1_aae02 7 = .ok (.getfield 15, 3) := by decide +kernel
theorem dJ0_isLatin1_aae02_10 : decode cJ0_isLatin1_aae02 10 = .ok (.ifCond .ne 7, 3) := by decide +kernel
theorem dJ0_isLatin1_aae02_13 : decode cJ0_isLatin1_aae02 13 = .ok (.iconst 1, 1) := by decide +kernel
theorem dJ0_isLatin1_aae02_14 : decode cJ0_isLatin1_aae02 14 = .ok (.goto 4, 3) := by decide +kernel
theorem dJ0_isLatin1_aae02_17 : decode cJ0_isLatin1_aae02 17 = .ok (.iconst 0, 1) := by decide +kernel
theorem dJ0_isLatin1_aae02_18 : decode cJ0_isLatin1_aae02 18 = .ok (.ireturn, 1) := by decide +kernel
set_option maxRecDepth 20000 in
theorem ggJ0_checkIndex_df160_J3_checkIndex_8e157 : GoodIn wsJ0_checkIndex_df160 wsJ3_checkIndex_8e157 := goodIn_r _ [5] (by decide +kernel) (by decide +kernel)
set_option maxRecDepth 20000 in
theorem gJ0_checkIndex_df160_J3_checkIndex_8e157 : GoodIn wsJ0_checkIndex_df160 (va_wsS RJ0 1059 yJ3_checkIndex_8e157 wsJ3_checkIndex_8e157) := goodIn_app (goodIn_of _ (by decide +kernel)) ggJ0_checkIndex_df160_J3_checkIndex_8e157
theorem dJ0_checkIndex_df160_0 : decode cJ0_checkIndex_df160 0 = .ok (.iload_n 0, 1) := by decide +kernel
theorem dJ0_checkIndex_df160_1 : decode cJ0_checkIndex_df160 1 = .ok (.iload_n 1, 1) := by decide +kernel
theorem dJ0_checkIndex_df160_2 : decode cJ0_checkIndex_df160 2 = .ok (.getstatic 1053, 3) := by decide +kernel
theorem dJ0_checkIndex_df160_5 : decode cJ0_checkIndex_df160 5 = .ok (.invokestatic 1059, 3) := by decide +kernel
theorem dJ0_checkIndex_df160_8 : decode cJ0_checkIndex_df160 8 = .ok (.pop, 1) := by decide +kernel
theorem dJ0_checkIndex_df160_9 : decode cJ0_checkIndex_df160 9 = .ok (.return_, 1) := by decide +kernel
set_option maxRecDepth 20000 in
theorem ggJ1_charAt_3b067_J0_checkIndex_df160 : GoodIn wsJ1_charAt_3b067 wsJ0_checkIndex_df160 := goodIn_r _ [4, 5, 6, 7, 8, 9] (by decide +kernel) (by decide +kernel)
set_option maxRecDepth 20000 in
theorem gJ1_charAt_3b067_J0_checkIndex_df160 : GoodIn wsJ1_charAt_3b067 (va_wsS RJ1 9 yJ0_checkIndex_df160 wsJ0_checkIndex_df160) := goodIn_app (goodIn_of _ (by decide +kernel)) ggJ1_charAt_3b067_J0_checkIndex_df160
theorem dJ1_charAt_3b067_0 : decode cJ1_charAt_3b067 0 = .ok (.iload_n 1, 1) := by decide +kernel
theorem dJ1_charAt_3b067_1 : decode cJ1_charAt_3b067 1 = .ok (.aload_n 0, 1) := by decide +kernel
theorem dJ1_charAt_3b067_2 : decode cJ1_charAt_3b067 2 = .ok (.arraylength, 1) := by decide +kernel
theorem dJ1_charAt_3b067_3 : decode cJ1_charAt_3b067 3 = .ok (.invokestatic 9, 3) := by decide +kernel
theorem dJ1_charAt_3b067_6 : decode cJ1_charAt_3b067 6 = .ok (.aload_n 0, 1) := by decide +kernel
theorem dJ1_charAt_3b067_7 : decode cJ1_charAt_3b067 7 = .ok (.iload_n 1, 1) := by decide +kernel
theorem dJ1_charAt_3b067_8 : decode cJ1_charAt_3b067 8 = .ok (.baload, 1) := by decide +kernel
theorem dJ1_charAt_3b067_9 : decode cJ1_charAt_3b067 9 = .ok (.sipush 255, 3) := by decide +kernel
theorem dJ1_charAt_3b067_12 : decode cJ1_charAt_3b067 12 = .ok (.iand, 1) := by decide +kernel
theorem dJ1_charAt_3b067_13 : decode cJ1_charAt_3b067 13 = .ok (.i2c, 1) := by decide +kernel
theorem dJ1_charAt_3b067_14 : decode cJ1_charAt_3b067 14 = .ok (.ireturn, 1) := by decide +kernel
set_option maxRecDepth 20000 in
theorem ggJ2_getChar_3b067_J2_length_9d52b : GoodIn wsJ2_getChar_3b067 wsJ2_length_9d52b := goodIn_r _ [7] (by decide +kernel) (by decide +kernel)
set_option maxRecDepth 20000 in
theorem gJ2_getChar_3b067_J2_length_9d52b : GoodIn wsJ2_getChar_3b067 (va_wsS RJ2 48 yJ2_length_9d52b wsJ2_length_9d52b) := goodIn_app (goodIn_of _ (by decide +kernel)) ggJ2_getChar_3b067_J2_length_9d52b
theorem dJ2_getChar_3b067_0 : decode cJ2_getChar_3b067 0 = .ok (.getstatic 44, 3) := by decide +kernel
theorem dJ2_getChar_3b067_3 : decode cJ2_getChar_3b067 3 = .ok (.ifCond .ne 25, 3) := by decide +kernel
theorem dJ2_getChar_3b067_6 : decode cJ2_getChar_3b067 6 = .ok (.iload_n 1, 1) := by decide +kernel
theorem dJ2_getChar_3b067_7 : decode cJ2_getChar_3b067 7 = .ok (.ifCond .lt 11, 3) := by decide +kernel
theorem dJ2_getChar_3b067_10 : decode cJ2_getChar_3b067 10 = .ok (.iload_n 1, 1) := by decide +kernel
theorem dJ2_getChar_3b067_11 : decode cJ2_getChar_3b067 11 = .ok (.aload_n 0, 1) := by decide +kernel
theorem dJ2_getChar_3b067_12 : decode cJ2_getChar_3b067 12 = .ok (.invokestatic 48, 3) := by decide +kernel
theorem dJ2_getChar_3b067_15 : decode cJ2_getChar_3b067 15 = .ok (.if_icmp .lt 13, 3) := by decide +kernel
theorem dJ2_getChar_3b067_18 : decode cJ2_getChar_3b067 18 = .ok (.new 52, 3) := by decide +kernel
theorem dJ2_getChar_3b067_21 : decode cJ2_getChar_3b067 21 = .ok (.dup, 1) := by decide +kernel
theorem dJ2_getChar_3b067_22 : decode cJ2_getChar_3b067 22 = .ok (.ldc 54, 2) := by decide +kernel
theorem dJ2_getChar_3b067_24 : decode cJ2_getChar_3b067 24 = .ok (.invokespecial 56, 3) := by decide +kernel
theorem dJ2_getChar_3b067_27 : decode cJ2_getChar_3b067 27 = .ok (.athrow, 1) := by decide +kernel
theorem dJ2_getChar_3b067_28 : decode cJ2_getChar_3b067 28 = .ok (.iload_n 1, 1) := by decide +kernel
theorem dJ2_getChar_3b067_29 : decode cJ2_getChar_3b067 29 = .ok (.iconst 1, 1) := by decide +kernel
theorem dJ2_getChar_3b067_30 : decode cJ2_getChar_3b067 30 = .ok (.ishl, 1) := by decide +kernel
theorem dJ2_getChar_3b067_31 : decode cJ2_getChar_3b067 31 = .ok (.istore_n 1, 1) := by decide +kernel
theorem dJ2_getChar_3b067_32 : decode cJ2_getChar_3b067 32 = .ok (.aload_n 0, 1) := by decide +kernel
theorem dJ2_getChar_3b067_33 : decode cJ2_getChar_3b067 33 = .ok (.iload_n 1, 1) := by decide +kernel
theorem dJ2_getChar_3b067_34 : decode cJ2_getChar_3b067 34 = .ok (.iinc 1 1, 3) := by decide +kernel
theorem dJ2_getChar_3b067_37 : decode cJ2_getChar_3b067 37 = .ok (.baload, 1) := by decide +kernel
theorem dJ2_getChar_3b067_38 : decode cJ2_getChar_3b067 38 = .ok (.sipush 255, 3) := by decide +kernel
theorem dJ2_getChar_3b067_41 : decode cJ2_getChar_3b067 41 = .ok (.iand, 1) := by decide +kernel
theorem dJ2_getChar_3b067_42 : decode cJ2_getChar_3b067 42 = .ok (.getstatic 59, 3) := by decide +kernel
theorem dJ2_getChar_3b067_45 : decode cJ2_getChar_3b067 45 = .ok (.ishl, 1) := by decide +kernel
theorem dJ2_getChar_3b067_46 : decode cJ2_getChar_3b067 46 = .ok (.aload_n 0, 1) := by decide +kernel
theorem dJ2_getChar_3b067_47 : decode cJ2_getChar_3b067 47 = .ok (.iload_n 1, 1) := by decide +kernel
theorem dJ2_getChar_3b067_48 : decode cJ2_getChar_3b067 48 = .ok (.baload, 1) := by decide +kernel
theorem dJ2_getChar_3b067_49 : decode cJ2_getChar_3b067 49 = .ok (.sipush 255, 3) := by decide +kernel
theorem dJ2_getChar_3b067_52 : decode cJ2_getChar_3b067 52 = .ok (.iand, 1) := by decide +kernel
theorem dJ2_getChar_3b067_53 : decode cJ2_getChar_3b067 53 = .ok (.getstatic 63, 3) := by decide +kernel
theorem dJ2_getChar_3b067_56 : decode cJ2_getChar_3b067 56 = .ok (.ishl, 1) := by decide +kernel
theorem dJ2_getChar_3b067_57 : decode cJ2_getChar_3b067 57 = .ok (.ior, 1) := by decide +kernel
theorem dJ2_getChar_3b067_58 : decode cJ2_getChar_3b067 58 = .ok (.i2c, 1) := by decide +kernel
theorem dJ2_getChar_3b067_59 : decode cJ2_getChar_3b067 59 = .ok (.ireturn, 1) := by decide +kernel
theorem dJ2_length_9d52b_0 : decode cJ2_length_9d52b 0 = .ok (.aload_n 0, 1) := by decide +kernel
theorem dJ2_length_9d52b_1 : decode cJ2_length_9d52b 1 = .ok (.arraylength, 1) := by decide +kernel
theorem dJ2_length_9d52b_2 : decode cJ2_length_9d52b 2 = .ok (.iconst 1, 1) := by decide +kernel
theorem dJ2_length_9d52b_3 : decode cJ2_length_9d52b 3 = .ok (.ishr, 1) := by decide +kernel
theorem dJ2_length_9d52b_4 : decode cJ2_length_9d52b 4 = .ok (.ireturn, 1) := by decide +kernel
set_option maxRecDepth 20000 in
theorem ggJ2_charAt_3b067_J2_checkIndex_2214a : GoodIn wsJ2_charAt_3b067 wsJ2_checkIndex_2214a := goodIn_r _ [4, 5, 6, 3, 7, 8, 9, 10, 11, 12, 13, 14, 15, 16] (by decide +kernel) (by decide +kernel)
set_option maxRecDepth 20000 in
theorem gJ2_charAt_3b067_J2_checkIndex_2214a : GoodIn wsJ2_charAt_3b067 (va_wsS RJ2 67 yJ2_checkIndex_2214a wsJ2_checkIndex_2214a) := goodIn_app (goodIn_of _ (by decide +kernel)) ggJ2_charAt_3b067_J2_checkIndex_2214a
set_option maxRecDepth 20000 in
theorem ggJ2_charAt_3b067_J2_getChar_3b067 : GoodIn wsJ2_charAt_3b067 wsJ2_getChar_3b067 := goodIn_r _ [19, 20, 21, 22, 5, 6, 3, 7] (by decide +kernel) (by decide +kernel)
set_option maxRecDepth 20000 in
theorem gJ2_charAt_3b067_J2_getChar_3b067 : GoodIn wsJ2_charAt_3b067 (va_wsS RJ2 71 yJ2_getChar_3b067 wsJ2_getChar_3b067) := goodIn_app (goodIn_of _ (by decide +kernel)) ggJ2_charAt_3b067_J2_getChar_3b067
theorem dJ2_charAt_3b067_0 : decode cJ2_charAt_3b067 0 = .ok (.iload_n 1, 1) := by decide +kernel
theorem dJ2_charAt_3b067_1 : decode cJ2_charAt_3b067 1 = .ok (.aload_n 0, 1) := by decide +kernel
theorem dJ2_charAt_3b067_2 : decode cJ2_charAt_3b067 2 = .ok (.invokestatic 67, 3) := by decide +kernel
theorem dJ2_charAt_3b067_5 : decode cJ2_charAt_3b067 5 = .ok (.aload_n 0, 1) := by decide +kernel
theorem dJ2_charAt_3b067_6 : decode cJ2_charAt_3b067 6 = .ok (.iload_n 1, 1) := by decide +kernel
theorem dJ2_charAt_3b067_7 : decode cJ2_charAt_3b067 7 = .ok (.invokestatic 71, 3) := by decide +kernel
theorem dJ2_charAt_3b067_10 : decode cJ2_charAt_3b067 10 = .ok (.ireturn, 1) := by decide +kernel
set_option maxRecDepth 20000 in
theorem ggJ2_checkIndex_2214a_J2_length_9d52b : GoodIn wsJ2_checkIndex_2214a wsJ2_length_9d52b := goodIn_r _ [4] (by decide +kernel) (by decide +kernel)
set_option maxRecDepth 20000 in
theorem gJ2_checkIndex_2214a_J2_length_9d52b : GoodIn wsJ2_checkIndex_2214a (va_wsS RJ2 48 yJ2_length_9d52b wsJ2_length_9d52b) := goodIn_app (goodIn_of _ (by decide +kernel)) ggJ2_checkIndex_2214a_J2_length_9d52b
set_option maxRecDepth 20000 in
theorem ggJ2_checkIndex_2214a_J0_checkIndex_df160 : GoodIn wsJ2_checkIndex_2214a wsJ0_checkIndex_df160 := goodIn_r _ [8, 9, 10, 11, 12, 13] (by decide +kernel) (by decide +kernel)
set_option maxRecDepth 20000 in
theorem gJ2_checkIndex_2214a_J0_checkIndex_df160 : GoodIn wsJ2_checkIndex_2214a (va_wsS RJ2 414 yJ0_checkIndex_df160 wsJ0_checkIndex_df160) := goodIn_app (goodIn_of _ (by decide +kernel)) ggJ2_checkIndex_2214a_J0_checkIndex_df160
theorem dJ2_checkIndex_2214a_0 : decode cJ2_checkIndex_2214a 0 = .ok (.iload_n 0, 1) := by decide +kernel
theorem dJ2_checkIndex_2214a_1 : decode cJ2_checkIndex_2214a 1 = .ok (.aload_n 1, 1) := by decide +kernel
theorem dJ2_checkIndex_2214a_2 : decode cJ2_checkIndex_2214a 2 = .ok (.invokestatic 48, 3) := by decide +kernel
theorem dJ2_checkIndex_2214a_5 : decode cJ2_checkIndex_2214a 5 = .ok (.invokestatic 414, 3) := by decide +kernel
theorem dJ2_checkIndex_2214a_8 : decode cJ2_checkIndex_2214a 8 = .ok (.return_, 1) := by decide +kernel
theorem dJ7_fill_53178_0 : decode cJ7_fill_53178 0 = .ok (.iconst 0, 1) := by decide +kernel
theorem dJ7_fill_53178_1 : decode cJ7_fill_53178 1 = .ok (.istore_n 2, 1) := by decide +kernel
theorem dJ7_fill_53178_2 : decode cJ7_fill_53178 2 = .ok (.aload_n 0, 1) := by decide +kernel
theorem dJ7_fill_53178_3 : decode cJ7_fill_53178 3 = .ok (.arraylength, 1) := by decide +kernel
theorem dJ7_fill_53178_4 : decode cJ7_fill_53178 4 = .ok (.istore_n 3, 1) := by decide +kernel
theorem dJ7_fill_53178_5 : decode cJ7_fill_53178 5 = .ok (.iload_n 2, 1) := by decide +kernel
theorem dJ7_fill_53178_6 : decode cJ7_fill_53178 6 = .ok (.iload_n 3, 1) := by decide +kernel
theorem dJ7_fill_53178_7 : decode cJ7_fill_53178 7 = .ok (.if_icmp .ge 13, 3) := by decide +kernel
theorem dJ7_fill_53178_10 : decode cJ7_fill_53178 10 = .ok (.aload_n 0, 1) := by decide +kernel
theorem dJ7_fill_53178_11 : decode cJ7_fill_53178 11 = .ok (.iload_n 2, 1) := by decide +kernel
theorem dJ7_fill_53178_12 : decode cJ7_fill_53178 12 = .ok (.iload_n 1, 1) := by decide +kernel
theorem dJ7_fill_53178_13 : decode cJ7_fill_53178 13 = .ok (.iastore, 1) := by decide +kernel
theorem dJ7_fill_53178_14 : decode cJ7_fill_53178 14 = .ok (.iinc 2 1, 3) := by decide +kernel
theorem dJ7_fill_53178_17 : decode cJ7_fill_53178 17 = .ok (.goto (-12), 3) := by decide +kernel
theorem dJ7_fill_53178_20 : decode cJ7_fill_53178 20 = .ok (.return_, 1) := by decide +kernel
theorem dJ3_checkIndex_8e157_0 : decode cJ3_checkIndex_8e157 0 = .ok (.iload_n 0, 1) := by decide +kernel
theorem dJ3_checkIndex_8e157_1 : decode cJ3_checkIndex_8e157 1 = .ok (.ifCond .lt 8, 3) := by decide +kernel
theorem dJ3_checkIndex_8e157_4 : decode cJ3_checkIndex_8e157 4 = .ok (.iload_n 0, 1) := by decide +kernel
theorem dJ3_checkIndex_8e157_5 : decode cJ3_checkIndex_8e157 5 = .ok (.iload_n 1, 1) := by decide +kernel
theorem dJ3_checkIndex_8e157_6 : decode cJ3_checkIndex_8e157 6 = .ok (.if_icmp .lt 10, 3) := by decide +kernel
theorem dJ3_checkIndex_8e157_9 : decode cJ3_checkIndex_8e157 9 = .ok (.aload_n 2, 1) := by decide +kernel
theorem dJ3_checkIndex_8e157_10 : decode cJ3_checkIndex_8e157 10 = .ok (.iload_n 0, 1) := by decide +kernel
theorem dJ3_checkIndex_8e157_11 : decode cJ3_checkIndex_8e157 11 = .ok (.iload_n 1, 1) := by decide +kernel
theorem dJ3_checkIndex_8e157_12 : decode cJ3_checkIndex_8e157 12 = .ok (.invokestatic 95, 3) := by decide +kernel
theorem dJ3_checkIndex_8e157_15 : decode cJ3_checkIndex_8e157 15 = .ok (.athrow, 1) := by decide +kernel
theorem dJ3_checkIndex_8e157_16 : decode cJ3_checkIndex_8e157 16 = .ok (.iload_n 0, 1) := by decide +kernel
theorem dJ3_checkIndex_8e157_17 : decode cJ3_checkIndex_8e157 17 = .ok (.ireturn, 1) := by decide +kernel
set_option maxRecDepth 20000 in
theorem ggL_law_X9_init : GoodIn wsL_law wsX9_init := goodIn_r _ [9, 10, 11, 12, 13, 14, 15, 16, 17, 18, 19, 20, 21, 22, 23, 24, 25, 26, 27, 28, 29, 30, 31, 32, 33, 34, 35, 36, 37, 38, 39, 40, 41, 42, 43, 44, 45, 46, 47, 48, 49, 50, 51, 52, 53, 54, 55, 56, 57, 58, 59, 60, 61, 62, 63, 64, 65, 66, 67, 68, 69, 70, 71, 72, 73, 74, 75, 76, 77, 78, 79, 80, 81, 82, 83, 84, 85, 86, 87, 88, 89, 90, 91, 92, 93, 94, 95, 96, 97, 98, 99, 100, 101, 102, 103, 104, 105, 106, 107, 108, 109, 110, 111, 112, 113, 114, 115, 116, 117, 118, 119, 120, 121, 122, 123, 124, 125, 126, 127, 128, 129, 130, 1409, 1410, 1411, 1412, 1413, 1414, 1415, 1416, 1417, 1418, 1419, 1420, 1421, 1422, 1343, 1344, 1345, 1346, 1347, 1348, 1349, 1350, 1351, 1352, 1353, 1354, 1423, 1424, 1425, 1426, 1427, 1428, 1429, 1430, 1431, 1432, 1433, 1434, 1435, 1436, 1437, 1438, 1439, 1440, 1441, 1442, 1443, 1444, 1445, 1446, 1447, 1448, 1449, 1450] (by decide +kernel) (by decide +kernel)
set_option maxRecDepth 20000 in
theorem gL_law_X9_init : GoodIn wsL_law (wsX9_init) := ggL_law_X9_init
set_option maxRecDepth 20000 in
theorem ggL_law_X10_init : GoodIn wsL_law wsX10_init := goodIn_r _ [133, 134, 11, 12, 135, 57, 136, 137, 138, 139, 140, 141, 142, 143, 144, 145, 146, 147, 148, 149, 150, 151, 152, 153, 154, 155, 156, 157, 158, 159, 160, 161, 162, 163, 164, 1355, 1356, 1357, 1358, 1359, 1360, 1361, 1362, 1363, 1364, 1365, 1366, 1367, 1368, 1369, 1370, 1371, 1372, 1373, 1374, 1375, 1376, 1377, 1378, 1379, 1380, 1381, 1382, 1383, 1384, 1385, 1386, 1387, 1388, 1389, 1390, 1391, 1392, 1393, 1394, 1395, 1396, 1397, 1398, 1399, 1400, 1401, 1402, 1403, 1404, 1405, 1406, 1407, 1408] (by decide +kernel) (by decide +kernel)
set_option maxRecDepth 20000 in
theorem gL_law_X10_init : GoodIn wsL_law (wsX10_init) := ggL_law_X10_init
set_option maxRecDepth 20000 in
theorem ggL_law_X9_feed : GoodIn wsL_law wsX9_feed := goodIn_r _ [168, 23, 169, 170, 171, 172, 22, 173, 81, 80, 1343, 1344, 1345, 1346, 1347, 1348, 1349, 1350, 1351, 1352, 1353, 1354, 1423, 1424, 1425, 1426, 1427, 1428] (by decide +kernel) (by decide +kernel)
set_option maxRecDepth 20000 in
theorem gL_law_X9_feed : GoodIn wsL_law (wsV RL 15 RX9 yX9_feed wsX9_feed) := goodIn_app (goodIn_of _ (by decide +kernel)) ggL_law_X9_feed
set_option maxRecDepth 20000 in
theorem ggL_law_X10_feed : GoodIn wsL_law wsX10_feed := goodIn_r _ [177, 178, 141, 179, 180, 181, 5, 182, 1355, 1356, 1357, 1358, 1359, 1360, 1361, 1362, 1363, 1364, 1365, 1366, 1367, 1368, 1369, 1370, 1371, 1372, 1373, 1374, 1375, 1376, 1377, 1378, 1379, 1380, 1381, 1382, 1383, 1384, 1385, 1386, 1387, 1388, 1389, 1390, 1391, 1392, 1393, 1394, 1395, 1396, 1397, 1398, 1399, 1400, 1401, 1402, 1403, 1404, 1405, 1406, 1407, 1408] (by decide +kernel) (by decide +kernel)
set_option maxRecDepth 20000 in
theorem gL_law_X10_feed : GoodIn wsL_law (wsV RL 19 RX10 yX10_feed wsX10_feed) := goodIn_app (goodIn_of _ (by decide +kernel)) ggL_law_X10_feed
set_option maxRecDepth 20000 in
theorem ggL_law_X9_works : GoodIn wsL_law wsX9_works := goodIn_r _ [186, 23, 17, 169, 187, 16, 188, 43, 189, 190, 191, 192, 193, 22, 194, 83, 85, 84, 195, 196, 197, 198, 81, 80, 82, 199, 200, 201, 202, 203, 204, 205, 206, 207, 208, 209, 210, 211, 212, 213, 214, 215, 216, 217, 218, 219, 220, 221, 222, 223, 224, 225, 226, 227, 228, 229, 230, 231, 232, 233, 234, 235, 236, 237, 238, 239, 240, 241, 242, 243, 244, 245, 246, 247, 248, 249, 250, 251, 252, 253, 254, 255, 256, 257, 258, 259, 260, 261, 262, 263, 264, 265, 15, 266, 56, 60, 67, 58, 59, 72, 73, 74, 75, 267, 268, 269, 270, 271, 272, 273, 274, 275, 276, 277, 278, 279, 280, 61, 281, 282, 283, 284, 62, 285, 286, 287, 288, 289, 290, 291, 63, 64, 66, 292, 293, 294, 295, 296, 297, 298, 299, 300, 301, 302, 303, 304, 305, 306, 307, 308, 309, 310, 311, 312, 313, 314, 315, 316, 68, 69, 70, 317, 318, 319, 320, 321, 322, 323, 324, 71, 325, 326, 327, 328, 1343, 1344, 1345, 1346, 1347, 1348, 1349, 1350, 1351, 1352, 1353, 1354, 1423, 1424, 1425, 1426, 1427, 1428, 1409, 1410, 1411, 1412, 1413, 1414, 1415, 1416, 1417, 1418, 1419, 1420, 1421, 1422, 1437, 1438] (by decide +kernel) (by decide +kernel)
set_option maxRecDepth 20000 in
theorem gL_law_X9_works : GoodIn wsL_law (wsV RL 20 RX9 yX9_works wsX9_works) := goodIn_app (goodIn_of _ (by decide +kernel)) ggL_law_X9_works
set_option maxRecDepth 20000 in
theorem ggL_law_X10_works : GoodIn wsL_law wsX10_works := goodIn_r _ [332, 333, 178, 334, 335, 336, 337, 338, 339, 340, 136, 142, 137, 143, 138, 144, 341, 342, 343, 5, 344, 345, 346, 347, 348, 349, 350, 351, 352, 353, 354, 141, 355, 356, 357, 180, 181, 182, 358, 359, 360, 361, 362, 363, 364, 365, 366, 367, 368, 369, 370, 371, 372, 373, 374, 375, 376, 377, 378, 379, 380, 381, 382, 383, 384, 385, 386, 387, 388, 389, 390, 391, 392, 393, 394, 395, 396, 397, 398, 399, 400, 401, 402, 403, 404, 405, 406, 407, 408, 409, 410, 411, 412, 413, 414, 415, 416, 417, 418, 135, 419, 139, 1355, 1356, 1357, 1358, 1359, 1360, 1361, 1362, 1363, 1364, 1365, 1366, 1367, 1368, 1369, 1370, 1371, 1372, 1373, 1374, 1375, 1376, 1377, 1378, 1379, 1380, 1381, 1382, 1383, 1384, 1385, 1386, 1387, 1388, 1389, 1390, 1391, 1392, 1393, 1394, 1395, 1396, 1397, 1398, 1399, 1400, 1401, 1402, 1403, 1404, 1405, 1406, 1407, 1408] (by decide +kernel) (by decide +kernel)
set_option maxRecDepth 20000 in
theorem gL_law_X10_works : GoodIn wsL_law (wsV RL 24 RX10 yX10_works wsX10_works) := goodIn_app (goodIn_of _ (by decide +kernel)) ggL_law_X10_works
set_option maxRecDepth 20000 in
theorem ggL_law_X9_people : GoodIn wsL_law wsX9_people := goodIn_r _ [423, 16, 43, 189, 424, 264, 265, 15, 266, 56, 60, 67, 58, 59, 72, 73, 74, 75, 1343, 1344, 1345, 1346, 1347, 1348, 1349, 1350, 1351, 1352, 1353, 1354, 1437, 1438, 1409, 1410, 1411, 1412, 1413, 1414, 1415, 1416, 1417, 1418, 1419, 1420, 1421, 1422] (by decide +kernel) (by decide +kernel)
set_option maxRecDepth 20000 in
theorem gL_law_X9_people : GoodIn wsL_law (wsV RL 25 RX9 yX9_people wsX9_people) := goodIn_app (goodIn_of _ (by decide +kernel)) ggL_law_X9_people
set_option maxRecDepth 20000 in
theorem ggL_law_X10_people : GoodIn wsL_law wsX10_people := goodIn_r _ [428, 180, 181, 5, 182, 415, 416, 417, 418, 135, 338, 340, 419, 136, 139, 1355, 1356, 1357, 1358, 1359, 1360, 1361, 1362, 1363, 1364, 1365, 1366, 1367, 1368, 1369, 1370, 1371, 1372, 1373, 1374, 1375, 1376, 1377, 1378, 1379, 1380, 1381, 1382, 1383, 1384, 1385, 1386, 1387, 1388, 1389, 1390, 1391, 1392, 1393, 1394, 1395, 1396, 1397, 1398, 1399, 1400, 1401, 1402, 1403, 1404, 1405, 1406, 1407, 1408] (by decide +kernel) (by decide +kernel)
set_option maxRecDepth 20000 in
theorem gL_law_X10_people : GoodIn wsL_law (wsV RL 29 RX10 yX10_people wsX10_people) := goodIn_app (goodIn_of _ (by decide +kernel)) ggL_law_X10_people
set_option maxRecDepth 20000 in
theorem ggL_law_X9_tie : GoodIn wsL_law wsX9_tie := goodIn_r _ [432, 16, 190, 433, 434, 435, 436, 437, 438, 2, 439, 440, 441, 442, 15, 443, 56, 444, 278, 279, 280, 60, 61, 281, 282, 283, 284, 62, 285, 286, 287, 445, 289, 290, 291, 63, 64, 66, 1343, 1344, 1345, 1346, 1347, 1348, 1349, 1350, 1351, 1352, 1353, 1354, 1409, 1410, 1411, 1412, 1413, 1414, 1415, 1416, 1417, 1418, 1419, 1420, 1421, 1422] (by decide +kernel) (by decide +kernel)
set_option maxRecDepth 20000 in
theorem gL_law_X9_tie : GoodIn wsL_law (wsV RL 30 RX9 yX9_tie wsX9_tie) := goodIn_app (goodIn_of _ (by decide +kernel)) ggL_law_X9_tie
set_option maxRecDepth 20000 in
theorem ggL_law_X10_tie : GoodIn wsL_law wsX10_tie := goodIn_r _ [449, 338, 137, 450, 451, 452, 5, 453, 454, 455, 456, 457, 135, 180, 181, 182, 458, 459, 460, 461, 462, 463, 464, 465, 1355, 1356, 1357, 1358, 1359, 1360, 1361, 1362, 1363, 1364, 1365, 1366, 1367, 1368, 1369, 1370, 1371, 1372, 1373, 1374, 1375, 1376, 1377, 1378, 1379, 1380, 1381, 1382, 1383, 1384, 1385, 1386, 1387, 1388, 1389, 1390, 1391, 1392, 1393, 1394, 1395, 1396, 1397, 1398, 1399, 1400, 1401, 1402, 1403, 1404, 1405, 1406, 1407, 1408] (by decide +kernel) (by decide +kernel)
set_option maxRecDepth 20000 in
theorem gL_law_X10_tie : GoodIn wsL_law (wsV RL 34 RX10 yX10_tie wsX10_tie) := goodIn_app (goodIn_of _ (by decide +kernel)) ggL_law_X10_tie
set_option maxRecDepth 20000 in
theorem ggL_law_X9_tieOf : GoodIn wsL_law wsX9_tieOf := goodIn_r _ [469, 16, 470, 471, 433, 434, 435, 472, 473, 474, 15, 475, 60, 1343, 1344, 1345, 1346, 1347, 1348, 1349, 1350, 1351, 1352, 1353, 1354, 1409, 1410, 1411, 1412, 1413, 1414, 1415, 1416, 1417, 1418, 1419, 1420, 1421, 1422] (by decide +kernel) (by decide +kernel)
set_option maxRecDepth 20000 in
theorem gL_law_X9_tieOf : GoodIn wsL_law (wsV RL 35 RX9 yX9_tieOf wsX9_tieOf) := goodIn_app (goodIn_of _ (by decide +kernel)) ggL_law_X9_tieOf
set_option maxRecDepth 20000 in
theorem ggL_law_X10_tieOf : GoodIn wsL_law wsX10_tieOf := goodIn_r _ [479, 480, 481, 482, 5, 483, 338, 180, 181, 182, 462, 463, 464, 465, 137, 1355, 1356, 1357, 1358, 1359, 1360, 1361, 1362, 1363, 1364, 1365, 1366, 1367, 1368, 1369, 1370, 1371, 1372, 1373, 1374, 1375, 1376, 1377, 1378, 1379, 1380, 1381, 1382, 1383, 1384, 1385, 1386, 1387, 1388, 1389, 1390, 1391, 1392, 1393, 1394, 1395, 1396, 1397, 1398, 1399, 1400, 1401, 1402, 1403, 1404, 1405, 1406, 1407, 1408] (by decide +kernel) (by decide +kernel)
set_option maxRecDepth 20000 in
theorem gL_law_X10_tieOf : GoodIn wsL_law (wsV RL 39 RX10 yX10_tieOf wsX10_tieOf) := goodIn_app (goodIn_of _ (by decide +kernel)) ggL_law_X10_tieOf
set_option maxRecDepth 20000 in
theorem ggL_law_X9_first : GoodIn wsL_law wsX9_first := goodIn_r _ [487, 16, 488, 440, 441, 442, 15, 443, 56, 1343, 1344, 1345, 1346, 1347, 1348, 1349, 1350, 1351, 1352, 1353, 1354, 1409, 1410, 1411, 1412, 1413, 1414, 1415, 1416, 1417, 1418, 1419, 1420, 1421, 1422] (by decide +kernel) (by decide +kernel)
set_option maxRecDepth 20000 in
theorem gL_law_X9_first : GoodIn wsL_law (wsV RL 40 RX9 yX9_first wsX9_first) := goodIn_app (goodIn_of _ (by decide +kernel)) ggL_law_X9_first
set_option maxRecDepth 20000 in
theorem ggL_law_X10_first : GoodIn wsL_law wsX10_first := goodIn_r _ [492, 136, 454, 455, 456, 5, 457, 135, 180, 181, 182, 1355, 1356, 1357, 1358, 1359, 1360, 1361, 1362, 1363, 1364, 1365, 1366, 1367, 1368, 1369, 1370, 1371, 1372, 1373, 1374, 1375, 1376, 1377, 1378, 1379, 1380, 1381, 1382, 1383, 1384, 1385, 1386, 1387, 1388, 1389, 1390, 1391, 1392, 1393, 1394, 1395, 1396, 1397, 1398, 1399, 1400, 1401, 1402, 1403, 1404, 1405, 1406, 1407, 1408] (by decide +kernel) (by decide +kernel)
set_option maxRecDepth 20000 in
theorem gL_law_X10_first : GoodIn wsL_law (wsV RL 43 RX10 yX10_first wsX10_first) := goodIn_app (goodIn_of _ (by decide +kernel)) ggL_law_X10_first
set_option maxRecDepth 20000 in
theorem ggL_law_X9_cut : GoodIn wsL_law wsX9_cut := goodIn_r _ [496, 16, 497, 472, 473, 474, 15, 475, 60, 498, 499, 500, 501, 502, 503, 504, 505, 56, 506, 314, 315, 316, 67, 68, 69, 70, 1343, 1344, 1345, 1346, 1347, 1348, 1349, 1350, 1351, 1352, 1353, 1354, 1409, 1410, 1411, 1412, 1413, 1414, 1415, 1416, 1417, 1418, 1419, 1420, 1421, 1422] (by decide +kernel) (by decide +kernel)
set_option maxRecDepth 20000 in
theorem gL_law_X9_cut : GoodIn wsL_law (wsV RL 44 RX9 yX9_cut wsX9_cut) := goodIn_app (goodIn_of _ (by decide +kernel)) ggL_law_X9_cut
set_option maxRecDepth 20000 in
theorem ggL_law_X10_cut : GoodIn wsL_law wsX10_cut := goodIn_r _ [510, 340, 138, 180, 181, 5, 182, 511, 512, 513, 514, 480, 481, 482, 483, 338, 515, 516, 517, 518, 135, 1355, 1356, 1357, 1358, 1359, 1360, 1361, 1362, 1363, 1364, 1365, 1366, 1367, 1368, 1369, 1370, 1371, 1372, 1373, 1374, 1375, 1376, 1377, 1378, 1379, 1380, 1381, 1382, 1383, 1384, 1385, 1386, 1387, 1388, 1389, 1390, 1391, 1392, 1393, 1394, 1395, 1396, 1397, 1398, 1399, 1400, 1401, 1402, 1403, 1404, 1405, 1406, 1407, 1408] (by decide +kernel) (by decide +kernel)
set_option maxRecDepth 20000 in
theorem gL_law_X10_cut : GoodIn wsL_law (wsV RL 48 RX10 yX10_cut wsX10_cut) := goodIn_app (goodIn_of _ (by decide +kernel)) ggL_law_X10_cut
set_option maxRecDepth 20000 in
theorem ggL_law_X9_cutOf : GoodIn wsL_law wsX9_cutOf := goodIn_r _ [522, 16, 523, 524, 525, 526, 527, 528, 15, 529, 67, 1343, 1344, 1345, 1346, 1347, 1348, 1349, 1350, 1351, 1352, 1353, 1354, 1409, 1410, 1411, 1412, 1413, 1414, 1415, 1416, 1417, 1418, 1419, 1420, 1421, 1422] (by decide +kernel) (by decide +kernel)
set_option maxRecDepth 20000 in
theorem gL_law_X9_cutOf : GoodIn wsL_law (wsV RL 49 RX9 yX9_cutOf wsX9_cutOf) := goodIn_app (goodIn_of _ (by decide +kernel)) ggL_law_X9_cutOf
set_option maxRecDepth 20000 in
theorem ggL_law_X10_cutOf : GoodIn wsL_law wsX10_cutOf := goodIn_r _ [533, 138, 534, 535, 536, 5, 537, 340, 180, 181, 182, 1355, 1356, 1357, 1358, 1359, 1360, 1361, 1362, 1363, 1364, 1365, 1366, 1367, 1368, 1369, 1370, 1371, 1372, 1373, 1374, 1375, 1376, 1377, 1378, 1379, 1380, 1381, 1382, 1383, 1384, 1385, 1386, 1387, 1388, 1389, 1390, 1391, 1392, 1393, 1394, 1395, 1396, 1397, 1398, 1399, 1400, 1401, 1402, 1403, 1404, 1405, 1406, 1407, 1408] (by decide +kernel) (by decide +kernel)
set_option maxRecDepth 20000 in
theorem gL_law_X10_cutOf : GoodIn wsL_law (wsV RL 52 RX10 yX10_cutOf wsX10_cutOf) := goodIn_app (goodIn_of _ (by decide +kernel)) ggL_law_X10_cutOf
set_option maxRecDepth 20000 in
theorem ggL_law_X9_uncut : GoodIn wsL_law wsX9_uncut := goodIn_r _ [541, 16, 497, 1343, 1344, 1345, 1346, 1347, 1348, 1349, 1350, 1351, 1352, 1353, 1354, 1409, 1410, 1411, 1412, 1413, 1414, 1415, 1416, 1417, 1418, 1419, 1420, 1421, 1422] (by decide +kernel) (by decide +kernel)
set_option maxRecDepth 20000 in
theorem gL_law_X9_uncut : GoodIn wsL_law (wsV RL 53 RX9 yX9_uncut wsX9_uncut) := goodIn_app (goodIn_of _ (by decide +kernel)) ggL_law_X9_uncut
set_option maxRecDepth 20000 in
theorem ggL_law_X10_uncut : GoodIn wsL_law wsX10_uncut := goodIn_r _ [545, 340, 1355, 1356, 1357, 1358, 1359, 1360, 1361, 1362, 1363, 1364, 1365, 1366, 1367, 1368, 1369, 1370, 1371, 1372, 1373, 1374, 1375, 1376, 1377, 1378, 1379, 1380, 1381, 1382, 1383, 1384, 1385, 1386, 1387, 1388, 1389, 1390, 1391, 1392, 1393, 1394, 1395, 1396, 1397, 1398, 1399, 1400, 1401, 1402, 1403, 1404, 1405, 1406, 1407, 1408] (by decide +kernel) (by decide +kernel)
set_option maxRecDepth 20000 in
theorem gL_law_X10_uncut : GoodIn wsL_law (wsV RL 56 RX10 yX10_uncut wsX10_uncut) := goodIn_app (goodIn_of _ (by decide +kernel)) ggL_law_X10_uncut
set_option maxRecDepth 20000 in
theorem ggL_law_X9_open : GoodIn wsL_law wsX9_open := goodIn_r _ [549, 16, 472, 473, 474, 15, 475, 60, 550, 551, 552, 553, 67, 554, 555, 556, 557, 69, 68, 66, 70, 558, 559, 560, 561, 61, 62, 562, 563, 564, 565, 566, 567, 568, 1343, 1344, 1345, 1346, 1347, 1348, 1349, 1350, 1351, 1352, 1353, 1354, 1409, 1410, 1411, 1412, 1413, 1414, 1415, 1416, 1417, 1418, 1419, 1420, 1421, 1422] (by decide +kernel) (by decide +kernel)
set_option maxRecDepth 20000 in
theorem gL_law_X9_open : GoodIn wsL_law (wsV RL 57 RX9 yX9_open wsX9_open) := goodIn_app (goodIn_of _ (by decide +kernel)) ggL_law_X9_open
set_option maxRecDepth 20000 in
theorem ggL_law_X10_open : GoodIn wsL_law wsX10_open := goodIn_r _ [572, 480, 481, 482, 5, 483, 338, 180, 181, 182, 573, 574, 575, 576, 340, 577, 578, 579, 580, 138, 581, 582, 583, 584, 458, 459, 460, 461, 462, 463, 464, 465, 137, 585, 586, 587, 1355, 1356, 1357, 1358, 1359, 1360, 1361, 1362, 1363, 1364, 1365, 1366, 1367, 1368, 1369, 1370, 1371, 1372, 1373, 1374, 1375, 1376, 1377, 1378, 1379, 1380, 1381, 1382, 1383, 1384, 1385, 1386, 1387, 1388, 1389, 1390, 1391, 1392, 1393, 1394, 1395, 1396, 1397, 1398, 1399, 1400, 1401, 1402, 1403, 1404, 1405, 1406, 1407, 1408] (by decide +kernel) (by decide +kernel)
set_option maxRecDepth 20000 in
theorem gL_law_X10_open : GoodIn wsL_law (wsV RL 60 RX10 yX10_open wsX10_open) := goodIn_app (goodIn_of _ (by decide +kernel)) ggL_law_X10_open
set_option maxRecDepth 20000 in
theorem ggL_law_X9_joined : GoodIn wsL_law wsX9_joined := goodIn_r _ [591, 16, 27, 440, 441, 442, 15, 443, 56, 592, 593, 594, 2, 595, 596, 597, 598, 599, 60, 600, 551, 552, 553, 67, 554, 555, 556, 557, 69, 68, 66, 70, 558, 559, 560, 561, 61, 62, 562, 563, 564, 565, 566, 567, 568, 601, 602, 603, 26, 604, 89, 605, 606, 607, 608, 73, 74, 75, 609, 503, 504, 505, 610, 611, 612, 613, 614, 1343, 1344, 1345, 1346, 1347, 1348, 1349, 1350, 1351, 1352, 1353, 1354, 1409, 1410, 1411, 1412, 1413, 1414, 1415, 1416, 1417, 1418, 1419, 1420, 1421, 1422, 1429] (by decide +kernel) (by decide +kernel)
set_option maxRecDepth 20000 in
theorem gL_law_X9_joined : GoodIn wsL_law (wsV RL 61 RX9 yX9_joined wsX9_joined) := goodIn_app (goodIn_of _ (by decide +kernel)) ggL_law_X9_joined
set_option maxRecDepth 20000 in
theorem ggL_law_X10_joined : GoodIn wsL_law wsX10_joined := goodIn_r _ [618, 454, 455, 456, 5, 457, 135, 180, 181, 182, 619, 620, 621, 622, 338, 573, 574, 575, 576, 340, 577, 578, 579, 580, 138, 581, 582, 583, 584, 458, 459, 460, 461, 462, 463, 464, 465, 137, 585, 586, 587, 515, 516, 517, 518, 623, 624, 625, 626, 627, 628, 629, 630, 1355, 1356, 1357, 1358, 1359, 1360, 1361, 1362, 1363, 1364, 1365, 1366, 1367, 1368, 1369, 1370, 1371, 1372, 1373, 1374, 1375, 1376, 1377, 1378, 1379, 1380, 1381, 1382, 1383, 1384, 1385, 1386, 1387, 1388, 1389, 1390, 1391, 1392, 1393, 1394, 1395, 1396, 1397, 1398, 1399, 1400, 1401, 1402, 1403, 1404, 1405, 1406, 1407, 1408] (by decide +kernel) (by decide +kernel)
set_option maxRecDepth 20000 in
theorem gL_law_X10_joined : GoodIn wsL_law (wsV RL 64 RX10 yX10_joined wsX10_joined) := goodIn_app (goodIn_of _ (by decide +kernel)) ggL_law_X10_joined
set_option maxRecDepth 20000 in
theorem ggL_law_X9_sets : GoodIn wsL_law wsX9_sets := goodIn_r _ [634, 27, 16, 635, 636, 2, 637, 592, 593, 594, 595, 596, 597, 598, 15, 599, 60, 600, 551, 552, 553, 67, 554, 555, 556, 557, 69, 68, 66, 70, 558, 559, 560, 561, 61, 62, 562, 563, 564, 565, 566, 567, 568, 601, 602, 603, 26, 604, 89, 605, 606, 607, 608, 73, 74, 75, 609, 503, 504, 505, 56, 638, 639, 640, 641, 642, 611, 612, 613, 614, 643, 644, 645, 646, 647, 286, 283, 287, 1343, 1344, 1345, 1346, 1347, 1348, 1349, 1350, 1351, 1352, 1353, 1354, 1409, 1410, 1411, 1412, 1413, 1414, 1415, 1416, 1417, 1418, 1419, 1420, 1421, 1422, 1429] (by decide +kernel) (by decide +kernel)
set_option maxRecDepth 20000 in
theorem gL_law_X9_sets : GoodIn wsL_law (wsV RL 65 RX9 yX9_sets wsX9_sets) := goodIn_app (goodIn_of _ (by decide +kernel)) ggL_law_X9_sets
set_option maxRecDepth 20000 in
theorem ggL_law_X10_sets : GoodIn wsL_law wsX10_sets := goodIn_r _ [651, 652, 653, 654, 5, 655, 180, 181, 182, 619, 620, 621, 622, 338, 573, 574, 575, 576, 340, 577, 578, 579, 580, 138, 581, 582, 583, 584, 458, 459, 460, 461, 462, 463, 464, 465, 137, 585, 586, 587, 515, 516, 517, 518, 135, 656, 657, 658, 659, 623, 624, 625, 626, 627, 628, 629, 630, 1355, 1356, 1357, 1358, 1359, 1360, 1361, 1362, 1363, 1364, 1365, 1366, 1367, 1368, 1369, 1370, 1371, 1372, 1373, 1374, 1375, 1376, 1377, 1378, 1379, 1380, 1381, 1382, 1383, 1384, 1385, 1386, 1387, 1388, 1389, 1390, 1391, 1392, 1393, 1394, 1395, 1396, 1397, 1398, 1399, 1400, 1401, 1402, 1403, 1404, 1405, 1406, 1407, 1408] (by decide +kernel) (by decide +kernel)
set_option maxRecDepth 20000 in
theorem gL_law_X10_sets : GoodIn wsL_law (wsV RL 68 RX10 yX10_sets wsX10_sets) := goodIn_app (goodIn_of _ (by decide +kernel)) ggL_law_X10_sets
set_option maxRecDepth 20000 in
theorem ggL_law_X9_chance : GoodIn wsL_law wsX9_chance := goodIn_r _ [663, 16, 31, 27, 440, 441, 442, 15, 443, 56, 635, 636, 2, 637, 664, 665, 666, 667, 609, 503, 504, 505, 668, 669, 670, 671, 58, 672, 673, 674, 675, 60, 64, 600, 551, 552, 553, 67, 554, 555, 556, 557, 69, 68, 66, 70, 558, 559, 560, 561, 61, 62, 562, 563, 564, 565, 566, 567, 568, 676, 677, 678, 679, 30, 680, 95, 94, 681, 93, 682, 683, 597, 598, 599, 684, 685, 686, 687, 688, 689, 690, 691, 692, 693, 602, 603, 26, 604, 89, 605, 606, 607, 608, 73, 74, 75, 694, 695, 611, 612, 613, 614, 696, 697, 698, 699, 700, 701, 702, 703, 1343, 1344, 1345, 1346, 1347, 1348, 1349, 1350, 1351, 1352, 1353, 1354, 1409, 1410, 1411, 1412, 1413, 1414, 1415, 1416, 1417, 1418, 1419, 1420, 1421, 1422, 1430, 1431, 1432, 1429] (by decide +kernel) (by decide +kernel)
set_option maxRecDepth 20000 in
theorem gL_law_X9_chance : GoodIn wsL_law (wsV RL 69 RX9 yX9_chance wsX9_chance) := goodIn_app (goodIn_of _ (by decide +kernel)) ggL_law_X9_chance
set_option maxRecDepth 20000 in
theorem ggL_law_X10_chance : GoodIn wsL_law wsX10_chance := goodIn_r _ [707, 146, 708, 709, 454, 455, 456, 5, 457, 135, 180, 181, 182, 653, 654, 655, 710, 711, 712, 713, 714, 715, 716, 717, 136, 718, 719, 720, 721, 338, 619, 620, 621, 622, 573, 574, 575, 576, 340, 577, 578, 579, 580, 138, 581, 582, 583, 584, 458, 459, 460, 461, 462, 463, 464, 465, 137, 585, 586, 587, 722, 723, 724, 725, 147, 726, 727, 728, 729, 515, 516, 517, 518, 623, 624, 625, 626, 627, 628, 629, 630, 730, 731, 732, 733, 139, 734, 735, 736, 737, 738, 739, 740, 741, 1355, 1356, 1357, 1358, 1359, 1360, 1361, 1362, 1363, 1364, 1365, 1366, 1367, 1368, 1369, 1370, 1371, 1372, 1373, 1374, 1375, 1376, 1377, 1378, 1379, 1380, 1381, 1382, 1383, 1384, 1385, 1386, 1387, 1388, 1389, 1390, 1391, 1392, 1393, 1394, 1395, 1396, 1397, 1398, 1399, 1400, 1401, 1402, 1403, 1404, 1405, 1406, 1407, 1408] (by decide +kernel) (by decide +kernel)
set_option maxRecDepth 20000 in
theorem gL_law_X10_chance : GoodIn wsL_law (wsV RL 72 RX10 yX10_chance wsX10_chance) := goodIn_app (goodIn_of _ (by decide +kernel)) ggL_law_X10_chance
set_option maxRecDepth 20000 in
theorem ggL_law_X9_reach : GoodIn wsL_law wsX9_reach := goodIn_r _ [745, 746, 31, 16, 27, 635, 636, 2, 637, 664, 665, 666, 667, 609, 503, 504, 15, 505, 56, 668, 669, 670, 671, 58, 672, 673, 674, 675, 60, 64, 600, 551, 552, 553, 67, 554, 555, 556, 557, 69, 68, 66, 70, 558, 559, 560, 561, 61, 62, 562, 563, 564, 565, 566, 567, 568, 676, 677, 678, 679, 30, 680, 95, 94, 681, 93, 682, 683, 597, 598, 599, 747, 748, 749, 750, 688, 689, 690, 691, 692, 693, 602, 603, 26, 604, 89, 605, 606, 607, 608, 73, 74, 75, 694, 695, 611, 612, 613, 614, 696, 751, 697, 698, 699, 700, 701, 702, 703, 1343, 1344, 1345, 1346, 1347, 1348, 1349, 1350, 1351, 1352, 1353, 1354, 1409, 1410, 1411, 1412, 1413, 1414, 1415, 1416, 1417, 1418, 1419, 1420, 1421, 1422, 1430, 1431, 1432, 1429] (by decide +kernel) (by decide +kernel)
set_option maxRecDepth 20000 in
theorem gL_law_X9_reach : GoodIn wsL_law (wsV RL 73 RX9 yX9_reach wsX9_reach) := goodIn_app (goodIn_of _ (by decide +kernel)) ggL_law_X9_reach
set_option maxRecDepth 20000 in
theorem ggL_law_X10_reach : GoodIn wsL_law wsX10_reach := goodIn_r _ [755, 350, 135, 146, 708, 709, 653, 654, 5, 655, 180, 181, 182, 710, 711, 712, 713, 714, 715, 716, 717, 136, 718, 719, 720, 721, 338, 619, 620, 621, 622, 573, 574, 575, 576, 340, 577, 578, 579, 580, 138, 581, 582, 583, 584, 458, 459, 460, 461, 462, 463, 464, 465, 137, 585, 586, 587, 722, 723, 724, 725, 147, 726, 727, 728, 729, 515, 516, 517, 518, 623, 624, 625, 626, 627, 628, 629, 630, 730, 731, 732, 733, 139, 734, 735, 736, 737, 738, 739, 740, 741, 1355, 1356, 1357, 1358, 1359, 1360, 1361, 1362, 1363, 1364, 1365, 1366, 1367, 1368, 1369, 1370, 1371, 1372, 1373, 1374, 1375, 1376, 1377, 1378, 1379, 1380, 1381, 1382, 1383, 1384, 1385, 1386, 1387, 1388, 1389, 1390, 1391, 1392, 1393, 1394, 1395, 1396, 1397, 1398, 1399, 1400, 1401, 1402, 1403, 1404, 1405, 1406, 1407, 1408] (by decide +kernel) (by decide +kernel)
set_option maxRecDepth 20000 in
theorem gL_law_X10_reach : GoodIn wsL_law (wsV RL 77 RX10 yX10_reach wsX10_reach) := goodIn_app (goodIn_of _ (by decide +kernel)) ggL_law_X10_reach
set_option maxRecDepth 20000 in
theorem ggL_law_X9_seen : GoodIn wsL_law wsX9_seen := goodIn_r _ [759, 16, 760, 440, 441, 442, 15, 443, 56, 1343, 1344, 1345, 1346, 1347, 1348, 1349, 1350, 1351, 1352, 1353, 1354, 1409, 1410, 1411, 1412, 1413, 1414, 1415, 1416, 1417, 1418, 1419, 1420, 1421, 1422] (by decide +kernel) (by decide +kernel)
set_option maxRecDepth 20000 in
theorem gL_law_X9_seen : GoodIn wsL_law (wsV RL 78 RX9 yX9_seen wsX9_seen) := goodIn_app (goodIn_of _ (by decide +kernel)) ggL_law_X9_seen
set_option maxRecDepth 20000 in
theorem ggL_law_X10_seen : GoodIn wsL_law wsX10_seen := goodIn_r _ [764, 139, 454, 455, 456, 5, 457, 135, 180, 181, 182, 1355, 1356, 1357, 1358, 1359, 1360, 1361, 1362, 1363, 1364, 1365, 1366, 1367, 1368, 1369, 1370, 1371, 1372, 1373, 1374, 1375, 1376, 1377, 1378, 1379, 1380, 1381, 1382, 1383, 1384, 1385, 1386, 1387, 1388, 1389, 1390, 1391, 1392, 1393, 1394, 1395, 1396, 1397, 1398, 1399, 1400, 1401, 1402, 1403, 1404, 1405, 1406, 1407, 1408] (by decide +kernel) (by decide +kernel)
set_option maxRecDepth 20000 in
theorem gL_law_X10_seen : GoodIn wsL_law (wsV RL 81 RX10 yX10_seen wsX10_seen) := goodIn_app (goodIn_of _ (by decide +kernel)) ggL_law_X10_seen
set_option maxRecDepth 20000 in
theorem ggL_law_X9_who : GoodIn wsL_law wsX9_who := goodIn_r _ [768, 16, 31, 27, 440, 441, 442, 15, 443, 56, 635, 636, 2, 637, 672, 673, 674, 675, 60, 64, 600, 551, 552, 553, 67, 554, 555, 556, 557, 69, 68, 66, 70, 558, 559, 560, 561, 61, 62, 562, 563, 564, 565, 566, 567, 568, 676, 677, 678, 679, 30, 680, 95, 94, 681, 93, 682, 683, 597, 598, 599, 609, 503, 504, 505, 769, 770, 771, 772, 688, 689, 690, 691, 692, 693, 602, 603, 26, 604, 89, 605, 606, 607, 608, 73, 74, 75, 694, 695, 611, 612, 613, 614, 773, 774, 775, 776, 59, 696, 669, 670, 671, 58, 701, 702, 703, 1343, 1344, 1345, 1346, 1347, 1348, 1349, 1350, 1351, 1352, 1353, 1354, 1409, 1410, 1411, 1412, 1413, 1414, 1415, 1416, 1417, 1418, 1419, 1420, 1421, 1422, 1430, 1431, 1432, 1429] (by decide +kernel) (by decide +kernel)
set_option maxRecDepth 20000 in
theorem gL_law_X9_who : GoodIn wsL_law (wsV RL 82 RX9 yX9_who wsX9_who) := goodIn_app (goodIn_of _ (by decide +kernel)) ggL_law_X9_who
set_option maxRecDepth 20000 in
theorem ggL_law_X10_who : GoodIn wsL_law wsX10_who := goodIn_r _ [780, 135, 147, 708, 709, 454, 455, 456, 5, 457, 180, 181, 182, 653, 654, 655, 718, 719, 720, 721, 338, 619, 620, 621, 622, 573, 574, 575, 576, 340, 577, 578, 579, 580, 138, 581, 582, 583, 584, 458, 459, 460, 461, 462, 463, 464, 465, 137, 585, 586, 587, 722, 723, 724, 725, 146, 136, 726, 727, 728, 729, 515, 516, 517, 518, 623, 624, 625, 626, 627, 628, 629, 630, 730, 731, 732, 733, 139, 738, 739, 740, 741, 1355, 1356, 1357, 1358, 1359, 1360, 1361, 1362, 1363, 1364, 1365, 1366, 1367, 1368, 1369, 1370, 1371, 1372, 1373, 1374, 1375, 1376, 1377, 1378, 1379, 1380, 1381, 1382, 1383, 1384, 1385, 1386, 1387, 1388, 1389, 1390, 1391, 1392, 1393, 1394, 1395, 1396, 1397, 1398, 1399, 1400, 1401, 1402, 1403, 1404, 1405, 1406, 1407, 1408] (by decide +kernel) (by decide +kernel)
set_option maxRecDepth 20000 in
theorem gL_law_X10_who : GoodIn wsL_law (wsV RL 85 RX10 yX10_who wsX10_who) := goodIn_app (goodIn_of _ (by decide +kernel)) ggL_law_X10_who
set_option maxRecDepth 20000 in
theorem ggL_law_X9_fewest : GoodIn wsL_law wsX9_fewest := goodIn_r _ [784, 16, 35, 436, 437, 438, 2, 439, 440, 441, 442, 15, 443, 56, 635, 636, 637, 596, 597, 598, 599, 60, 600, 551, 552, 553, 67, 554, 555, 556, 557, 69, 68, 66, 70, 558, 559, 560, 561, 61, 62, 562, 563, 564, 565, 566, 567, 568, 609, 503, 504, 505, 785, 786, 787, 34, 788, 99, 789, 790, 791, 792, 793, 794, 795, 796, 797, 798, 799, 800, 801, 1343, 1344, 1345, 1346, 1347, 1348, 1349, 1350, 1351, 1352, 1353, 1354, 1409, 1410, 1411, 1412, 1413, 1414, 1415, 1416, 1417, 1418, 1419, 1420, 1421, 1422, 1433, 1434] (by decide +kernel) (by decide +kernel)
set_option maxRecDepth 20000 in
theorem gL_law_X9_fewest : GoodIn wsL_law (wsV RL 86 RX9 yX9_fewest wsX9_fewest) := goodIn_app (goodIn_of _ (by decide +kernel)) ggL_law_X9_fewest
set_option maxRecDepth 20000 in
theorem ggL_law_X10_fewest : GoodIn wsL_law wsX10_fewest := goodIn_r _ [805, 338, 806, 807, 808, 450, 451, 452, 5, 453, 454, 455, 456, 457, 135, 180, 181, 182, 653, 654, 655, 619, 620, 621, 622, 573, 574, 575, 576, 340, 577, 578, 579, 580, 138, 581, 582, 583, 584, 458, 459, 460, 461, 462, 463, 464, 465, 137, 585, 586, 587, 515, 516, 517, 518, 809, 810, 811, 812, 813, 814, 815, 816, 1355, 1356, 1357, 1358, 1359, 1360, 1361, 1362, 1363, 1364, 1365, 1366, 1367, 1368, 1369, 1370, 1371, 1372, 1373, 1374, 1375, 1376, 1377, 1378, 1379, 1380, 1381, 1382, 1383, 1384, 1385, 1386, 1387, 1388, 1389, 1390, 1391, 1392, 1393, 1394, 1395, 1396, 1397, 1398, 1399, 1400, 1401, 1402, 1403, 1404, 1405, 1406, 1407, 1408] (by decide +kernel) (by decide +kernel)
set_option maxRecDepth 20000 in
theorem gL_law_X10_fewest : GoodIn wsL_law (wsV RL 89 RX10 yX10_fewest wsX10_fewest) := goodIn_app (goodIn_of _ (by decide +kernel)) ggL_law_X10_fewest
set_option maxRecDepth 20000 in
theorem ggL_law_X9_between : GoodIn wsL_law wsX9_between := goodIn_r _ [820, 27, 821, 16, 436, 437, 438, 2, 439, 440, 441, 442, 15, 443, 56, 635, 636, 637, 592, 593, 594, 595, 596, 597, 598, 599, 60, 600, 551, 552, 553, 67, 554, 555, 556, 557, 69, 68, 66, 70, 558, 559, 560, 561, 61, 62, 562, 563, 564, 565, 566, 567, 568, 601, 602, 603, 26, 604, 89, 605, 606, 607, 608, 73, 74, 75, 609, 503, 504, 505, 676, 610, 611, 612, 613, 614, 822, 823, 824, 1343, 1344, 1345, 1346, 1347, 1348, 1349, 1350, 1351, 1352, 1353, 1354, 1429, 1409, 1410, 1411, 1412, 1413, 1414, 1415, 1416, 1417, 1418, 1419, 1420, 1421, 1422] (by decide +kernel) (by decide +kernel)
set_option maxRecDepth 20000 in
theorem gL_law_X9_between : GoodIn wsL_law (wsV RL 90 RX9 yX9_between wsX9_between) := goodIn_app (goodIn_of _ (by decide +kernel)) ggL_law_X9_between
set_option maxRecDepth 20000 in
theorem ggL_law_X10_between : GoodIn wsL_law wsX10_between := goodIn_r _ [828, 450, 451, 452, 5, 453, 454, 455, 456, 457, 135, 180, 181, 182, 653, 654, 655, 619, 620, 621, 622, 338, 573, 574, 575, 576, 340, 577, 578, 579, 580, 138, 581, 582, 583, 584, 458, 459, 460, 461, 462, 463, 464, 465, 137, 585, 586, 587, 515, 516, 517, 518, 623, 624, 625, 626, 627, 628, 629, 630, 1355, 1356, 1357, 1358, 1359, 1360, 1361, 1362, 1363, 1364, 1365, 1366, 1367, 1368, 1369, 1370, 1371, 1372, 1373, 1374, 1375, 1376, 1377, 1378, 1379, 1380, 1381, 1382, 1383, 1384, 1385, 1386, 1387, 1388, 1389, 1390, 1391, 1392, 1393, 1394, 1395, 1396, 1397, 1398, 1399, 1400, 1401, 1402, 1403, 1404, 1405, 1406, 1407, 1408] (by decide +kernel) (by decide +kernel)
set_option maxRecDepth 20000 in
theorem gL_law_X10_between : GoodIn wsL_law (wsV RL 93 RX10 yX10_between wsX10_between) := goodIn_app (goodIn_of _ (by decide +kernel)) ggL_law_X10_between
set_option maxRecDepth 20000 in
theorem ggL_law_X9_small : GoodIn wsL_law wsX9_small := goodIn_r _ [832, 16, 833, 35, 635, 636, 2, 637, 596, 597, 598, 15, 599, 60, 600, 551, 552, 553, 67, 554, 555, 556, 557, 69, 68, 66, 70, 558, 559, 560, 561, 61, 62, 562, 563, 564, 565, 566, 567, 568, 834, 835, 836, 34, 837, 838, 282, 283, 284, 100, 99, 839, 73, 74, 75, 840, 841, 842, 843, 789, 790, 791, 792, 793, 794, 795, 796, 797, 798, 799, 800, 801, 844, 845, 846, 847, 848, 849, 850, 851, 852, 286, 287, 1343, 1344, 1345, 1346, 1347, 1348, 1349, 1350, 1351, 1352, 1353, 1354, 1409, 1410, 1411, 1412, 1413, 1414, 1415, 1416, 1417, 1418, 1419, 1420, 1421, 1422, 1433, 1434] (by decide +kernel) (by decide +kernel)
set_option maxRecDepth 20000 in
theorem gL_law_X9_small : GoodIn wsL_law (wsV RL 94 RX9 yX9_small wsX9_small) := goodIn_app (goodIn_of _ (by decide +kernel)) ggL_law_X9_small
set_option maxRecDepth 20000 in
theorem ggL_law_X10_small : GoodIn wsL_law wsX10_small := goodIn_r _ [856, 135, 338, 806, 807, 808, 180, 181, 5, 182, 653, 654, 655, 619, 620, 621, 622, 573, 574, 575, 576, 340, 577, 578, 579, 580, 138, 581, 582, 583, 584, 458, 459, 460, 461, 462, 463, 464, 465, 137, 585, 586, 587, 857, 858, 859, 860, 148, 809, 810, 811, 812, 861, 862, 863, 864, 813, 814, 815, 816, 865, 866, 867, 868, 149, 869, 870, 871, 872, 1355, 1356, 1357, 1358, 1359, 1360, 1361, 1362, 1363, 1364, 1365, 1366, 1367, 1368, 1369, 1370, 1371, 1372, 1373, 1374, 1375, 1376, 1377, 1378, 1379, 1380, 1381, 1382, 1383, 1384, 1385, 1386, 1387, 1388, 1389, 1390, 1391, 1392, 1393, 1394, 1395, 1396, 1397, 1398, 1399, 1400, 1401, 1402, 1403, 1404, 1405, 1406, 1407, 1408] (by decide +kernel) (by decide +kernel)
set_option maxRecDepth 20000 in
theorem gL_law_X10_small : GoodIn wsL_law (wsV RL 97 RX10 yX10_small wsX10_small) := goodIn_app (goodIn_of _ (by decide +kernel)) ggL_law_X10_small
set_option maxRecDepth 20000 in
theorem ggL_law_X9_sit : GoodIn wsL_law wsX9_sit := goodIn_r _ [876, 16, 833, 35, 635, 636, 2, 637, 834, 835, 836, 34, 837, 838, 282, 283, 284, 100, 99, 839, 73, 74, 75, 840, 841, 842, 843, 877, 878, 879, 880, 793, 795, 796, 797, 798, 799, 800, 801, 844, 845, 846, 847, 848, 849, 850, 851, 852, 286, 287, 1343, 1344, 1345, 1346, 1347, 1348, 1349, 1350, 1351, 1352, 1353, 1354, 1409, 1410, 1411, 1412, 1413, 1414, 1415, 1416, 1417, 1418, 1419, 1420, 1421, 1422, 1433, 1434] (by decide +kernel) (by decide +kernel)
set_option maxRecDepth 20000 in
theorem gL_law_X9_sit : GoodIn wsL_law (wsV RL 98 RX9 yX9_sit wsX9_sit) := goodIn_app (goodIn_of _ (by decide +kernel)) ggL_law_X9_sit
set_option maxRecDepth 20000 in
theorem ggL_law_X10_sit : GoodIn wsL_law wsX10_sit := goodIn_r _ [884, 135, 338, 180, 181, 5, 182, 653, 654, 655, 857, 858, 859, 860, 148, 861, 862, 863, 864, 462, 463, 464, 465, 137, 865, 866, 867, 868, 149, 869, 870, 871, 872, 1355, 1356, 1357, 1358, 1359, 1360, 1361, 1362, 1363, 1364, 1365, 1366, 1367, 1368, 1369, 1370, 1371, 1372, 1373, 1374, 1375, 1376, 1377, 1378, 1379, 1380, 1381, 1382, 1383, 1384, 1385, 1386, 1387, 1388, 1389, 1390, 1391, 1392, 1393, 1394, 1395, 1396, 1397, 1398, 1399, 1400, 1401, 1402, 1403, 1404, 1405, 1406, 1407, 1408] (by decide +kernel) (by decide +kernel)
set_option maxRecDepth 20000 in
theorem gL_law_X10_sit : GoodIn wsL_law (wsV RL 101 RX10 yX10_sit wsX10_sit) := goodIn_app (goodIn_of _ (by decide +kernel)) ggL_law_X10_sit
set_option maxRecDepth 20000 in
theorem ggL_law_X9_early : GoodIn wsL_law wsX9_early := goodIn_r _ [888, 16, 39, 889, 440, 441, 442, 15, 443, 56, 890, 891, 892, 38, 893, 104, 894, 895, 73, 74, 75, 896, 897, 898, 899, 900, 901, 902, 903, 559, 560, 561, 61, 62, 904, 563, 564, 565, 566, 567, 568, 905, 551, 552, 553, 67, 554, 555, 556, 557, 69, 68, 66, 70, 558, 562, 1343, 1344, 1345, 1346, 1347, 1348, 1349, 1350, 1351, 1352, 1353, 1354, 1435, 1436, 1409, 1410, 1411, 1412, 1413, 1414, 1415, 1416, 1417, 1418, 1419, 1420, 1421, 1422] (by decide +kernel) (by decide +kernel)
set_option maxRecDepth 20000 in
theorem gL_law_X9_early : GoodIn wsL_law (wsV RL 102 RX9 yX9_early wsX9_early) := goodIn_app (goodIn_of _ (by decide +kernel)) ggL_law_X9_early
set_option maxRecDepth 20000 in
theorem ggL_law_X10_early : GoodIn wsL_law wsX10_early := goodIn_r _ [909, 454, 455, 456, 5, 457, 135, 180, 181, 182, 910, 911, 912, 913, 150, 515, 516, 517, 518, 619, 620, 621, 622, 338, 573, 574, 575, 576, 340, 577, 578, 579, 580, 138, 581, 582, 583, 584, 458, 459, 460, 461, 462, 463, 464, 465, 137, 585, 586, 587, 627, 628, 629, 630, 914, 915, 916, 917, 1355, 1356, 1357, 1358, 1359, 1360, 1361, 1362, 1363, 1364, 1365, 1366, 1367, 1368, 1369, 1370, 1371, 1372, 1373, 1374, 1375, 1376, 1377, 1378, 1379, 1380, 1381, 1382, 1383, 1384, 1385, 1386, 1387, 1388, 1389, 1390, 1391, 1392, 1393, 1394, 1395, 1396, 1397, 1398, 1399, 1400, 1401, 1402, 1403, 1404, 1405, 1406, 1407, 1408] (by decide +kernel) (by decide +kernel)
set_option maxRecDepth 20000 in
theorem gL_law_X10_early : GoodIn wsL_law (wsV RL 105 RX10 yX10_early wsX10_early) := goodIn_app (goodIn_of _ (by decide +kernel)) ggL_law_X10_early
set_option maxRecDepth 20000 in
theorem ggL_law_X9_could : GoodIn wsL_law wsX9_could := goodIn_r _ [921, 16, 39, 440, 441, 442, 15, 443, 56, 890, 891, 892, 38, 893, 104, 894, 895, 73, 74, 75, 896, 897, 898, 899, 900, 901, 902, 903, 559, 560, 561, 61, 62, 904, 563, 564, 565, 566, 567, 568, 905, 551, 552, 553, 67, 554, 555, 556, 557, 69, 68, 66, 70, 558, 562, 922, 923, 924, 925, 1343, 1344, 1345, 1346, 1347, 1348, 1349, 1350, 1351, 1352, 1353, 1354, 1409, 1410, 1411, 1412, 1413, 1414, 1415, 1416, 1417, 1418, 1419, 1420, 1421, 1422, 1435, 1436] (by decide +kernel) (by decide +kernel)
set_option maxRecDepth 20000 in
theorem gL_law_X9_could : GoodIn wsL_law (wsV RL 106 RX9 yX9_could wsX9_could) := goodIn_app (goodIn_of _ (by decide +kernel)) ggL_law_X9_could
set_option maxRecDepth 20000 in
theorem ggL_law_X10_could : GoodIn wsL_law wsX10_could := goodIn_r _ [929, 150, 454, 455, 456, 5, 457, 135, 180, 181, 182, 910, 911, 912, 913, 515, 516, 517, 518, 619, 620, 621, 622, 338, 573, 574, 575, 576, 340, 577, 578, 579, 580, 138, 581, 582, 583, 584, 458, 459, 460, 461, 462, 463, 464, 465, 137, 585, 586, 587, 627, 628, 629, 630, 1355, 1356, 1357, 1358, 1359, 1360, 1361, 1362, 1363, 1364, 1365, 1366, 1367, 1368, 1369, 1370, 1371, 1372, 1373, 1374, 1375, 1376, 1377, 1378, 1379, 1380, 1381, 1382, 1383, 1384, 1385, 1386, 1387, 1388, 1389, 1390, 1391, 1392, 1393, 1394, 1395, 1396, 1397, 1398, 1399, 1400, 1401, 1402, 1403, 1404, 1405, 1406, 1407, 1408] (by decide +kernel) (by decide +kernel)
set_option maxRecDepth 20000 in
theorem gL_law_X10_could : GoodIn wsL_law (wsV RL 109 RX10 yX10_could wsX10_could) := goodIn_app (goodIn_of _ (by decide +kernel)) ggL_law_X10_could
set_option maxRecDepth 20000 in
theorem ggL_law_X9_seed : GoodIn wsL_law wsX9_seed := goodIn_r _ [933, 16, 188, 1343, 1344, 1345, 1346, 1347, 1348, 1349, 1350, 1351, 1352, 1353, 1354, 1409, 1410, 1411, 1412, 1413, 1414, 1415, 1416, 1417, 1418, 1419, 1420, 1421, 1422] (by decide +kernel) (by decide +kernel)
set_option maxRecDepth 20000 in
theorem gL_law_X9_seed : GoodIn wsL_law (wsV RL 110 RX9 yX9_seed wsX9_seed) := goodIn_app (goodIn_of _ (by decide +kernel)) ggL_law_X9_seed
set_option maxRecDepth 20000 in
theorem ggL_law_X10_seed : GoodIn wsL_law wsX10_seed := goodIn_r _ [937, 140, 1355, 1356, 1357, 1358, 1359, 1360, 1361, 1362, 1363, 1364, 1365, 1366, 1367, 1368, 1369, 1370, 1371, 1372, 1373, 1374, 1375, 1376, 1377, 1378, 1379, 1380, 1381, 1382, 1383, 1384, 1385, 1386, 1387, 1388, 1389, 1390, 1391, 1392, 1393, 1394, 1395, 1396, 1397, 1398, 1399, 1400, 1401, 1402, 1403, 1404, 1405, 1406, 1407, 1408] (by decide +kernel) (by decide +kernel)
set_option maxRecDepth 20000 in
theorem gL_law_X10_seed : GoodIn wsL_law (wsV RL 113 RX10 yX10_seed wsX10_seed) := goodIn_app (goodIn_of _ (by decide +kernel)) ggL_law_X10_seed
set_option maxRecDepth 20000 in
theorem ggL_law_X9_run : GoodIn wsL_law wsX9_run := goodIn_r _ [941, 16, 39, 440, 441, 442, 15, 443, 56, 942, 943, 944, 38, 945, 899, 946, 947, 948, 900, 901, 902, 903, 559, 560, 561, 61, 62, 904, 563, 564, 565, 566, 567, 568, 905, 551, 552, 553, 67, 554, 555, 556, 557, 69, 68, 66, 70, 558, 562, 1343, 1344, 1345, 1346, 1347, 1348, 1349, 1350, 1351, 1352, 1353, 1354, 1409, 1410, 1411, 1412, 1413, 1414, 1415, 1416, 1417, 1418, 1419, 1420, 1421, 1422] (by decide +kernel) (by decide +kernel)
set_option maxRecDepth 20000 in
theorem gL_law_X9_run : GoodIn wsL_law (wsV RL 114 RX9 yX9_run wsX9_run) := goodIn_app (goodIn_of _ (by decide +kernel)) ggL_law_X9_run
set_option maxRecDepth 20000 in
theorem ggL_law_X10_run : GoodIn wsL_law wsX10_run := goodIn_r _ [952, 338, 140, 953, 454, 455, 456, 5, 457, 135, 180, 181, 182, 573, 574, 575, 576, 340, 577, 578, 579, 580, 138, 581, 582, 583, 584, 458, 459, 460, 461, 462, 463, 464, 465, 137, 585, 586, 587, 1355, 1356, 1357, 1358, 1359, 1360, 1361, 1362, 1363, 1364, 1365, 1366, 1367, 1368, 1369, 1370, 1371, 1372, 1373, 1374, 1375, 1376, 1377, 1378, 1379, 1380, 1381, 1382, 1383, 1384, 1385, 1386, 1387, 1388, 1389, 1390, 1391, 1392, 1393, 1394, 1395, 1396, 1397, 1398, 1399, 1400, 1401, 1402, 1403, 1404, 1405, 1406, 1407, 1408] (by decide +kernel) (by decide +kernel)
set_option maxRecDepth 20000 in
theorem gL_law_X10_run : GoodIn wsL_law (wsV RL 117 RX10 yX10_run wsX10_run) := goodIn_app (goodIn_of _ (by decide +kernel)) ggL_law_X10_run
set_option maxRecDepth 20000 in
theorem ggL_law_X9_guards : GoodIn wsL_law wsX9_guards := goodIn_r _ [957, 16, 833, 27, 440, 441, 442, 15, 443, 56, 635, 636, 2, 637, 592, 593, 594, 595, 596, 597, 598, 599, 60, 600, 551, 552, 553, 67, 554, 555, 556, 557, 69, 68, 66, 70, 558, 559, 560, 561, 61, 62, 562, 563, 564, 565, 566, 567, 568, 601, 602, 603, 26, 604, 89, 605, 606, 607, 608, 73, 74, 75, 958, 959, 960, 961, 962, 963, 964, 965, 966, 967, 968, 969, 970, 971, 972, 973, 974, 975, 282, 283, 284, 676, 1343, 1344, 1345, 1346, 1347, 1348, 1349, 1350, 1351, 1352, 1353, 1354, 1409, 1410, 1411, 1412, 1413, 1414, 1415, 1416, 1417, 1418, 1419, 1420, 1421, 1422, 1429] (by decide +kernel) (by decide +kernel)
set_option maxRecDepth 20000 in
theorem gL_law_X9_guards : GoodIn wsL_law (wsV RL 118 RX9 yX9_guards wsX9_guards) := goodIn_app (goodIn_of _ (by decide +kernel)) ggL_law_X9_guards
set_option maxRecDepth 20000 in
theorem ggL_law_X10_guards : GoodIn wsL_law wsX10_guards := goodIn_r _ [979, 135, 153, 152, 454, 455, 456, 5, 457, 180, 181, 182, 653, 654, 655, 619, 620, 621, 622, 338, 573, 574, 575, 576, 340, 577, 578, 579, 580, 138, 581, 582, 583, 584, 458, 459, 460, 461, 462, 463, 464, 465, 137, 585, 586, 587, 627, 628, 629, 630, 515, 516, 517, 518, 980, 981, 982, 983, 1355, 1356, 1357, 1358, 1359, 1360, 1361, 1362, 1363, 1364, 1365, 1366, 1367, 1368, 1369, 1370, 1371, 1372, 1373, 1374, 1375, 1376, 1377, 1378, 1379, 1380, 1381, 1382, 1383, 1384, 1385, 1386, 1387, 1388, 1389, 1390, 1391, 1392, 1393, 1394, 1395, 1396, 1397, 1398, 1399, 1400, 1401, 1402, 1403, 1404, 1405, 1406, 1407, 1408] (by decide +kernel) (by decide +kernel)
set_option maxRecDepth 20000 in
theorem gL_law_X10_guards : GoodIn wsL_law (wsV RL 121 RX10 yX10_guards wsX10_guards) := goodIn_app (goodIn_of _ (by decide +kernel)) ggL_law_X10_guards
set_option maxRecDepth 20000 in
theorem ggL_law_X9_prove : GoodIn wsL_law wsX9_prove := goodIn_r _ [987, 16, 39, 889, 43, 189, 440, 441, 442, 15, 443, 56, 890, 891, 892, 38, 893, 104, 894, 895, 73, 74, 75, 896, 897, 898, 899, 900, 901, 902, 903, 559, 560, 561, 61, 62, 904, 563, 564, 565, 566, 567, 568, 905, 551, 552, 553, 67, 554, 555, 556, 557, 69, 68, 66, 70, 558, 562, 988, 989, 990, 42, 991, 992, 993, 282, 283, 284, 111, 110, 994, 923, 924, 925, 995, 996, 997, 998, 999, 1000, 1001, 1002, 278, 279, 280, 60, 281, 285, 286, 287, 1003, 1343, 1344, 1345, 1346, 1347, 1348, 1349, 1350, 1351, 1352, 1353, 1354, 1435, 1436, 1437, 1438, 1409, 1410, 1411, 1412, 1413, 1414, 1415, 1416, 1417, 1418, 1419, 1420, 1421, 1422] (by decide +kernel) (by decide +kernel)
set_option maxRecDepth 20000 in
theorem gL_law_X9_prove : GoodIn wsL_law (wsV RL 122 RX9 yX9_prove wsX9_prove) := goodIn_app (goodIn_of _ (by decide +kernel)) ggL_law_X9_prove
set_option maxRecDepth 20000 in
theorem ggL_law_X10_prove : GoodIn wsL_law wsX10_prove := goodIn_r _ [1007, 150, 154, 419, 454, 455, 456, 5, 457, 135, 180, 181, 182, 910, 911, 912, 913, 515, 516, 517, 518, 619, 620, 621, 622, 338, 573, 574, 575, 576, 340, 577, 578, 579, 580, 138, 581, 582, 583, 584, 458, 459, 460, 461, 462, 463, 464, 465, 137, 585, 586, 587, 627, 628, 629, 630, 914, 915, 916, 917, 1008, 1009, 1010, 1011, 1012, 1013, 1014, 1015, 1355, 1356, 1357, 1358, 1359, 1360, 1361, 1362, 1363, 1364, 1365, 1366, 1367, 1368, 1369, 1370, 1371, 1372, 1373, 1374, 1375, 1376, 1377, 1378, 1379, 1380, 1381, 1382, 1383, 1384, 1385, 1386, 1387, 1388, 1389, 1390, 1391, 1392, 1393, 1394, 1395, 1396, 1397, 1398, 1399, 1400, 1401, 1402, 1403, 1404, 1405, 1406, 1407, 1408] (by decide +kernel) (by decide +kernel)
set_option maxRecDepth 20000 in
theorem gL_law_X10_prove : GoodIn wsL_law (wsV RL 125 RX10 yX10_prove wsX10_prove) := goodIn_app (goodIn_of _ (by decide +kernel)) ggL_law_X10_prove
set_option maxRecDepth 20000 in
theorem ggL_law_X9_row : GoodIn wsL_law wsX9_row := goodIn_r _ [1019, 43, 1020, 1021, 1022, 1023, 42, 1024, 111, 1343, 1344, 1345, 1346, 1347, 1348, 1349, 1350, 1351, 1352, 1353, 1354, 1437, 1438] (by decide +kernel) (by decide +kernel)
set_option maxRecDepth 20000 in
theorem gL_law_X9_row : GoodIn wsL_law (wsV RL 126 RX9 yX9_row wsX9_row) := goodIn_app (goodIn_of _ (by decide +kernel)) ggL_law_X9_row
set_option maxRecDepth 20000 in
theorem ggL_law_X10_row : GoodIn wsL_law wsX10_row := goodIn_r _ [1028, 154, 1029, 1030, 1031, 5, 1032, 419, 180, 181, 182, 1355, 1356, 1357, 1358, 1359, 1360, 1361, 1362, 1363, 1364, 1365, 1366, 1367, 1368, 1369, 1370, 1371, 1372, 1373, 1374, 1375, 1376, 1377, 1378, 1379, 1380, 1381, 1382, 1383, 1384, 1385, 1386, 1387, 1388, 1389, 1390, 1391, 1392, 1393, 1394, 1395, 1396, 1397, 1398, 1399, 1400, 1401, 1402, 1403, 1404, 1405, 1406, 1407, 1408] (by decide +kernel) (by decide +kernel)
set_option maxRecDepth 20000 in
theorem gL_law_X10_row : GoodIn wsL_law (wsV RL 129 RX10 yX10_row wsX10_row) := goodIn_app (goodIn_of _ (by decide +kernel)) ggL_law_X10_row
set_option maxRecDepth 20000 in
theorem ggL_law_X9_alterRow : GoodIn wsL_law wsX9_alterRow := goodIn_r _ [1036, 43, 1020, 1021, 1022, 1023, 42, 1024, 111, 1343, 1344, 1345, 1346, 1347, 1348, 1349, 1350, 1351, 1352, 1353, 1354, 1437, 1438] (by decide +kernel) (by decide +kernel)
set_option maxRecDepth 20000 in
theorem gL_law_X9_alterRow : GoodIn wsL_law (wsV RL 130 RX9 yX9_alterRow wsX9_alterRow) := goodIn_app (goodIn_of _ (by decide +kernel)) ggL_law_X9_alterRow
set_option maxRecDepth 20000 in
theorem ggL_law_X10_alterRow : GoodIn wsL_law wsX10_alterRow := goodIn_r _ [1040, 154, 1029, 1030, 1031, 5, 1032, 419, 180, 181, 182, 1355, 1356, 1357, 1358, 1359, 1360, 1361, 1362, 1363, 1364, 1365, 1366, 1367, 1368, 1369, 1370, 1371, 1372, 1373, 1374, 1375, 1376, 1377, 1378, 1379, 1380, 1381, 1382, 1383, 1384, 1385, 1386, 1387, 1388, 1389, 1390, 1391, 1392, 1393, 1394, 1395, 1396, 1397, 1398, 1399, 1400, 1401, 1402, 1403, 1404, 1405, 1406, 1407, 1408] (by decide +kernel) (by decide +kernel)
set_option maxRecDepth 20000 in
theorem gL_law_X10_alterRow : GoodIn wsL_law (wsV RL 133 RX10 yX10_alterRow wsX10_alterRow) := goodIn_app (goodIn_of _ (by decide +kernel)) ggL_law_X10_alterRow
set_option maxRecDepth 20000 in
theorem ggL_law_X9_judge : GoodIn wsL_law wsX9_judge := goodIn_r _ [1044, 16, 43, 440, 441, 442, 15, 443, 56, 1045, 1046, 1047, 42, 1048, 111, 110, 999, 1000, 1001, 1002, 278, 279, 280, 60, 61, 281, 282, 283, 284, 62, 285, 286, 287, 1003, 551, 552, 553, 67, 554, 555, 556, 557, 69, 68, 66, 70, 558, 559, 560, 561, 562, 563, 564, 565, 566, 567, 568, 1343, 1344, 1345, 1346, 1347, 1348, 1349, 1350, 1351, 1352, 1353, 1354, 1409, 1410, 1411, 1412, 1413, 1414, 1415, 1416, 1417, 1418, 1419, 1420, 1421, 1422, 1437, 1438] (by decide +kernel) (by decide +kernel)
set_option maxRecDepth 20000 in
theorem gL_law_X9_judge : GoodIn wsL_law (wsV RL 134 RX9 yX9_judge wsX9_judge) := goodIn_app (goodIn_of _ (by decide +kernel)) ggL_law_X9_judge
set_option maxRecDepth 20000 in
theorem ggL_law_X10_judge : GoodIn wsL_law wsX10_judge := goodIn_r _ [1052, 419, 154, 454, 455, 456, 5, 457, 135, 180, 181, 182, 1008, 1009, 1010, 1011, 1012, 1013, 1014, 1015, 338, 458, 459, 460, 461, 462, 463, 464, 465, 137, 573, 574, 575, 576, 340, 577, 578, 579, 580, 138, 581, 582, 583, 584, 585, 586, 587, 1355, 1356, 1357, 1358, 1359, 1360, 1361, 1362, 1363, 1364, 1365, 1366, 1367, 1368, 1369, 1370, 1371, 1372, 1373, 1374, 1375, 1376, 1377, 1378, 1379, 1380, 1381, 1382, 1383, 1384, 1385, 1386, 1387, 1388, 1389, 1390, 1391, 1392, 1393, 1394, 1395, 1396, 1397, 1398, 1399, 1400, 1401, 1402, 1403, 1404, 1405, 1406, 1407, 1408] (by decide +kernel) (by decide +kernel)
set_option maxRecDepth 20000 in
theorem gL_law_X10_judge : GoodIn wsL_law (wsV RL 137 RX10 yX10_judge wsX10_judge) := goodIn_app (goodIn_of _ (by decide +kernel)) ggL_law_X10_judge
set_option maxRecDepth 20000 in
theorem ggL_law_X9_chair : GoodIn wsL_law wsX9_chair := goodIn_r _ [1056, 16, 833, 27, 635, 636, 2, 637, 592, 593, 594, 595, 596, 597, 598, 15, 599, 60, 600, 551, 552, 553, 67, 554, 555, 556, 557, 69, 68, 66, 70, 558, 559, 560, 561, 61, 62, 562, 563, 564, 565, 566, 567, 568, 601, 602, 603, 26, 604, 89, 605, 606, 607, 608, 73, 74, 75, 609, 503, 504, 505, 56, 643, 644, 645, 646, 647, 286, 283, 287, 642, 611, 612, 613, 614, 1343, 1344, 1345, 1346, 1347, 1348, 1349, 1350, 1351, 1352, 1353, 1354, 1409, 1410, 1411, 1412, 1413, 1414, 1415, 1416, 1417, 1418, 1419, 1420, 1421, 1422, 1429] (by decide +kernel) (by decide +kernel)
set_option maxRecDepth 20000 in
theorem gL_law_X9_chair : GoodIn wsL_law (wsV RL 138 RX9 yX9_chair wsX9_chair) := goodIn_app (goodIn_of _ (by decide +kernel)) ggL_law_X9_chair
set_option maxRecDepth 20000 in
theorem ggL_law_X10_chair : GoodIn wsL_law wsX10_chair := goodIn_r _ [1060, 135, 653, 654, 5, 655, 180, 181, 182, 619, 620, 621, 622, 338, 573, 574, 575, 576, 340, 577, 578, 579, 580, 138, 581, 582, 583, 584, 458, 459, 460, 461, 462, 463, 464, 465, 137, 585, 586, 587, 515, 516, 517, 518, 656, 657, 658, 659, 652, 623, 624, 625, 626, 627, 628, 629, 630, 1355, 1356, 1357, 1358, 1359, 1360, 1361, 1362, 1363, 1364, 1365, 1366, 1367, 1368, 1369, 1370, 1371, 1372, 1373, 1374, 1375, 1376, 1377, 1378, 1379, 1380, 1381, 1382, 1383, 1384, 1385, 1386, 1387, 1388, 1389, 1390, 1391, 1392, 1393, 1394, 1395, 1396, 1397, 1398, 1399, 1400, 1401, 1402, 1403, 1404, 1405, 1406, 1407, 1408] (by decide +kernel) (by decide +kernel)
set_option maxRecDepth 20000 in
theorem gL_law_X10_chair : GoodIn wsL_law (wsV RL 141 RX10 yX10_chair wsX10_chair) := goodIn_app (goodIn_of _ (by decide +kernel)) ggL_law_X10_chair
set_option maxRecDepth 20000 in
theorem ggL_law_X9_meet : GoodIn wsL_law wsX9_meet := goodIn_r _ [1064, 16, 27, 498, 499, 500, 15, 501, 502, 503, 504, 505, 56, 635, 636, 2, 637, 592, 593, 594, 595, 596, 597, 598, 599, 60, 600, 551, 552, 553, 67, 554, 555, 556, 557, 69, 68, 66, 70, 558, 559, 560, 561, 61, 62, 562, 563, 564, 565, 566, 567, 568, 601, 602, 603, 26, 604, 89, 605, 606, 607, 608, 73, 74, 75, 609, 676, 610, 611, 612, 613, 614, 822, 823, 824, 1343, 1344, 1345, 1346, 1347, 1348, 1349, 1350, 1351, 1352, 1353, 1354, 1409, 1410, 1411, 1412, 1413, 1414, 1415, 1416, 1417, 1418, 1419, 1420, 1421, 1422, 1429] (by decide +kernel) (by decide +kernel)
set_option maxRecDepth 20000 in
theorem gL_law_X9_meet : GoodIn wsL_law (wsV RL 142 RX9 yX9_meet wsX9_meet) := goodIn_app (goodIn_of _ (by decide +kernel)) ggL_law_X9_meet
set_option maxRecDepth 20000 in
theorem ggL_law_X10_meet : GoodIn wsL_law wsX10_meet := goodIn_r _ [1068, 515, 516, 517, 5, 518, 135, 180, 181, 182, 653, 654, 655, 619, 620, 621, 622, 338, 573, 574, 575, 576, 340, 577, 578, 579, 580, 138, 581, 582, 583, 584, 458, 459, 460, 461, 462, 463, 464, 465, 137, 585, 586, 587, 623, 624, 625, 626, 627, 628, 629, 630, 1355, 1356, 1357, 1358, 1359, 1360, 1361, 1362, 1363, 1364, 1365, 1366, 1367, 1368, 1369, 1370, 1371, 1372, 1373, 1374, 1375, 1376, 1377, 1378, 1379, 1380, 1381, 1382, 1383, 1384, 1385, 1386, 1387, 1388, 1389, 1390, 1391, 1392, 1393, 1394, 1395, 1396, 1397, 1398, 1399, 1400, 1401, 1402, 1403, 1404, 1405, 1406, 1407, 1408] (by decide +kernel) (by decide +kernel)
set_option maxRecDepth 20000 in
theorem gL_law_X10_meet : GoodIn wsL_law (wsV RL 145 RX10 yX10_meet wsX10_meet) := goodIn_app (goodIn_of _ (by decide +kernel)) ggL_law_X10_meet
set_option maxRecDepth 20000 in
theorem ggL_law_X9_tell : GoodIn wsL_law wsX9_tell := goodIn_r _ [1072, 16, 39, 635, 636, 2, 637, 609, 503, 504, 15, 505, 56, 1073, 1074, 1075, 38, 1076, 894, 105, 1077, 891, 892, 893, 104, 895, 73, 74, 75, 896, 897, 898, 899, 900, 901, 902, 903, 559, 560, 561, 61, 62, 904, 563, 564, 565, 566, 567, 568, 905, 551, 552, 553, 67, 554, 555, 556, 557, 69, 68, 66, 70, 558, 562, 1078, 923, 924, 925, 676, 1079, 1080, 1081, 1082, 822, 823, 824, 1343, 1344, 1345, 1346, 1347, 1348, 1349, 1350, 1351, 1352, 1353, 1354, 1409, 1410, 1411, 1412, 1413, 1414, 1415, 1416, 1417, 1418, 1419, 1420, 1421, 1422, 1435, 1436] (by decide +kernel) (by decide +kernel)
set_option maxRecDepth 20000 in
theorem gL_law_X9_tell : GoodIn wsL_law (wsV RL 146 RX9 yX9_tell wsX9_tell) := goodIn_app (goodIn_of _ (by decide +kernel)) ggL_law_X9_tell
set_option maxRecDepth 20000 in
theorem ggL_law_X10_tell : GoodIn wsL_law wsX10_tell := goodIn_r _ [1086, 135, 155, 150, 180, 181, 5, 182, 653, 654, 655, 910, 911, 912, 913, 515, 516, 517, 518, 619, 620, 621, 622, 338, 573, 574, 575, 576, 340, 577, 578, 579, 580, 138, 581, 582, 583, 584, 458, 459, 460, 461, 462, 463, 464, 465, 137, 585, 586, 587, 627, 628, 629, 630, 1355, 1356, 1357, 1358, 1359, 1360, 1361, 1362, 1363, 1364, 1365, 1366, 1367, 1368, 1369, 1370, 1371, 1372, 1373, 1374, 1375, 1376, 1377, 1378, 1379, 1380, 1381, 1382, 1383, 1384, 1385, 1386, 1387, 1388, 1389, 1390, 1391, 1392, 1393, 1394, 1395, 1396, 1397, 1398, 1399, 1400, 1401, 1402, 1403, 1404, 1405, 1406, 1407, 1408] (by decide +kernel) (by decide +kernel)
set_option maxRecDepth 20000 in
theorem gL_law_X10_tell : GoodIn wsL_law (wsV RL 149 RX10 yX10_tell wsX10_tell) := goodIn_app (goodIn_of _ (by decide +kernel)) ggL_law_X10_tell
set_option maxRecDepth 20000 in
theorem ggL_law_X9_best : GoodIn wsL_law wsX9_best := goodIn_r _ [1090, 47, 16, 1091, 27, 1092, 1093, 1094, 46, 1095, 635, 636, 2, 637, 1096, 1097, 1098, 1099, 115, 596, 597, 598, 15, 599, 60, 600, 551, 552, 553, 67, 554, 555, 556, 557, 69, 68, 66, 70, 558, 559, 560, 561, 61, 62, 562, 563, 564, 565, 566, 567, 568, 601, 602, 603, 26, 604, 89, 605, 606, 607, 608, 73, 74, 75, 609, 503, 504, 505, 56, 643, 644, 645, 646, 647, 286, 283, 287, 642, 611, 612, 613, 614, 1343, 1344, 1345, 1346, 1347, 1348, 1349, 1350, 1351, 1352, 1353, 1354, 1439, 1440, 1441, 1442, 1443, 1444, 1409, 1410, 1411, 1412, 1413, 1414, 1415, 1416, 1417, 1418, 1419, 1420, 1421, 1422, 1429] (by decide +kernel) (by decide +kernel)
set_option maxRecDepth 20000 in
theorem gL_law_X9_best : GoodIn wsL_law (wsV RL 150 RX9 yX9_best wsX9_best) := goodIn_app (goodIn_of _ (by decide +kernel)) ggL_law_X9_best
set_option maxRecDepth 20000 in
theorem ggL_law_X10_best : GoodIn wsL_law wsX10_best := goodIn_r _ [1103, 157, 158, 1104, 1105, 5, 1106, 180, 181, 182, 653, 654, 655, 1107, 1108, 1109, 1110, 156, 619, 620, 621, 622, 338, 573, 574, 575, 576, 340, 577, 578, 579, 580, 138, 581, 582, 583, 584, 458, 459, 460, 461, 462, 463, 464, 465, 137, 585, 586, 587, 515, 516, 517, 518, 135, 656, 657, 658, 659, 652, 623, 624, 625, 626, 627, 628, 629, 630, 1355, 1356, 1357, 1358, 1359, 1360, 1361, 1362, 1363, 1364, 1365, 1366, 1367, 1368, 1369, 1370, 1371, 1372, 1373, 1374, 1375, 1376, 1377, 1378, 1379, 1380, 1381, 1382, 1383, 1384, 1385, 1386, 1387, 1388, 1389, 1390, 1391, 1392, 1393, 1394, 1395, 1396, 1397, 1398, 1399, 1400, 1401, 1402, 1403, 1404, 1405, 1406, 1407, 1408] (by decide +kernel) (by decide +kernel)
set_option maxRecDepth 20000 in
theorem gL_law_X10_best : GoodIn wsL_law (wsV RL 153 RX10 yX10_best wsX10_best) := goodIn_app (goodIn_of _ (by decide +kernel)) ggL_law_X10_best
set_option maxRecDepth 20000 in
theorem ggL_law_X9_sheet : GoodIn wsL_law wsX9_sheet := goodIn_r _ [1114, 47, 1093, 1094, 46, 1095, 1115, 1116, 1117, 1118, 115, 116, 118, 1119, 73, 74, 75, 1343, 1344, 1345, 1346, 1347, 1348, 1349, 1350, 1351, 1352, 1353, 1354, 1439, 1440, 1441, 1442, 1443, 1444] (by decide +kernel) (by decide +kernel)
set_option maxRecDepth 20000 in
theorem gL_law_X9_sheet : GoodIn wsL_law (wsV RL 154 RX9 yX9_sheet wsX9_sheet) := goodIn_app (goodIn_of _ (by decide +kernel)) ggL_law_X9_sheet
set_option maxRecDepth 20000 in
theorem ggL_law_X10_sheet : GoodIn wsL_law wsX10_sheet := goodIn_r _ [1123, 156, 157, 158, 1104, 1105, 5, 1106, 180, 181, 182, 1355, 1356, 1357, 1358, 1359, 1360, 1361, 1362, 1363, 1364, 1365, 1366, 1367, 1368, 1369, 1370, 1371, 1372, 1373, 1374, 1375, 1376, 1377, 1378, 1379, 1380, 1381, 1382, 1383, 1384, 1385, 1386, 1387, 1388, 1389, 1390, 1391, 1392, 1393, 1394, 1395, 1396, 1397, 1398, 1399, 1400, 1401, 1402, 1403, 1404, 1405, 1406, 1407, 1408] (by decide +kernel) (by decide +kernel)
set_option maxRecDepth 20000 in
theorem gL_law_X10_sheet : GoodIn wsL_law (wsV RL 157 RX10 yX10_sheet wsX10_sheet) := goodIn_app (goodIn_of _ (by decide +kernel)) ggL_law_X10_sheet
set_option maxRecDepth 20000 in
theorem ggL_law_X9_put : GoodIn wsL_law wsX9_put := goodIn_r _ [1127, 47, 1128, 1091, 1092, 1093, 1094, 46, 1095, 1129, 1130, 1131, 1343, 1344, 1345, 1346, 1347, 1348, 1349, 1350, 1351, 1352, 1353, 1354, 1439, 1440, 1441, 1442, 1443, 1444] (by decide +kernel) (by decide +kernel)
set_option maxRecDepth 20000 in
theorem gL_law_X9_put : GoodIn wsL_law (wsV RL 158 RX9 yX9_put wsX9_put) := goodIn_app (goodIn_of _ (by decide +kernel)) ggL_law_X9_put
set_option maxRecDepth 20000 in
theorem ggL_law_X10_put : GoodIn wsL_law wsX10_put := goodIn_r _ [1135, 156, 157, 158, 1104, 1105, 5, 1106, 180, 181, 182, 1355, 1356, 1357, 1358, 1359, 1360, 1361, 1362, 1363, 1364, 1365, 1366, 1367, 1368, 1369, 1370, 1371, 1372, 1373, 1374, 1375, 1376, 1377, 1378, 1379, 1380, 1381, 1382, 1383, 1384, 1385, 1386, 1387, 1388, 1389, 1390, 1391, 1392, 1393, 1394, 1395, 1396, 1397, 1398, 1399, 1400, 1401, 1402, 1403, 1404, 1405, 1406, 1407, 1408] (by decide +kernel) (by decide +kernel)
set_option maxRecDepth 20000 in
theorem gL_law_X10_put : GoodIn wsL_law (wsV RL 161 RX10 yX10_put wsX10_put) := goodIn_app (goodIn_of _ (by decide +kernel)) ggL_law_X10_put
set_option maxRecDepth 20000 in
theorem ggL_law_X9_item : GoodIn wsL_law wsX9_item := goodIn_r _ [1139, 47, 1091, 1092, 1093, 1094, 46, 1095, 1096, 1097, 1098, 1099, 115, 1343, 1344, 1345, 1346, 1347, 1348, 1349, 1350, 1351, 1352, 1353, 1354, 1439, 1440, 1441, 1442, 1443, 1444] (by decide +kernel) (by decide +kernel)
set_option maxRecDepth 20000 in
theorem gL_law_X9_item : GoodIn wsL_law (wsV RL 162 RX9 yX9_item wsX9_item) := goodIn_app (goodIn_of _ (by decide +kernel)) ggL_law_X9_item
set_option maxRecDepth 20000 in
theorem ggL_law_X10_item : GoodIn wsL_law wsX10_item := goodIn_r _ [1143, 157, 158, 1104, 1105, 5, 1106, 180, 181, 182, 1107, 1108, 1109, 1110, 156, 1355, 1356, 1357, 1358, 1359, 1360, 1361, 1362, 1363, 1364, 1365, 1366, 1367, 1368, 1369, 1370, 1371, 1372, 1373, 1374, 1375, 1376, 1377, 1378, 1379, 1380, 1381, 1382, 1383, 1384, 1385, 1386, 1387, 1388, 1389, 1390, 1391, 1392, 1393, 1394, 1395, 1396, 1397, 1398, 1399, 1400, 1401, 1402, 1403, 1404, 1405, 1406, 1407, 1408] (by decide +kernel) (by decide +kernel)
set_option maxRecDepth 20000 in
theorem gL_law_X10_item : GoodIn wsL_law (wsV RL 165 RX10 yX10_item wsX10_item) := goodIn_app (goodIn_of _ (by decide +kernel)) ggL_law_X10_item
set_option maxRecDepth 20000 in
theorem ggL_law_X9_shelf : GoodIn wsL_law wsX9_shelf := goodIn_r _ [1147, 16, 47, 1093, 1094, 46, 1095, 526, 527, 528, 15, 529, 67, 1148, 1149, 1150, 1151, 119, 120, 1152, 1153, 1154, 1155, 115, 121, 116, 1156, 1157, 1158, 1159, 1343, 1344, 1345, 1346, 1347, 1348, 1349, 1350, 1351, 1352, 1353, 1354, 1409, 1410, 1411, 1412, 1413, 1414, 1415, 1416, 1417, 1418, 1419, 1420, 1421, 1422, 1439, 1440, 1441, 1442, 1443, 1444] (by decide +kernel) (by decide +kernel)
set_option maxRecDepth 20000 in
theorem gL_law_X9_shelf : GoodIn wsL_law (wsV RL 166 RX9 yX9_shelf wsX9_shelf) := goodIn_app (goodIn_of _ (by decide +kernel)) ggL_law_X9_shelf
set_option maxRecDepth 20000 in
theorem ggL_law_X10_shelf : GoodIn wsL_law wsX10_shelf := goodIn_r _ [1163, 159, 156, 160, 161, 157, 1104, 1105, 5, 1106, 180, 181, 182, 1164, 1165, 1166, 1167, 534, 535, 536, 537, 340, 1355, 1356, 1357, 1358, 1359, 1360, 1361, 1362, 1363, 1364, 1365, 1366, 1367, 1368, 1369, 1370, 1371, 1372, 1373, 1374, 1375, 1376, 1377, 1378, 1379, 1380, 1381, 1382, 1383, 1384, 1385, 1386, 1387, 1388, 1389, 1390, 1391, 1392, 1393, 1394, 1395, 1396, 1397, 1398, 1399, 1400, 1401, 1402, 1403, 1404, 1405, 1406, 1407, 1408] (by decide +kernel) (by decide +kernel)
set_option maxRecDepth 20000 in
theorem gL_law_X10_shelf : GoodIn wsL_law (wsV RL 169 RX10 yX10_shelf wsX10_shelf) := goodIn_app (goodIn_of _ (by decide +kernel)) ggL_law_X10_shelf
set_option maxRecDepth 20000 in
theorem ggL_law_X9_taken : GoodIn wsL_law wsX9_taken := goodIn_r _ [1171, 47, 1172, 1173, 16, 523, 1093, 1094, 46, 1095, 1174, 1175, 1176, 1177, 119, 1178, 1179, 1180, 1181, 120, 526, 527, 528, 15, 529, 67, 1182, 1183, 1184, 1185, 1186, 1187, 1188, 1343, 1344, 1345, 1346, 1347, 1348, 1349, 1350, 1351, 1352, 1353, 1354, 1439, 1440, 1441, 1442, 1443, 1444, 1409, 1410, 1411, 1412, 1413, 1414, 1415, 1416, 1417, 1418, 1419, 1420, 1421, 1422] (by decide +kernel) (by decide +kernel)
set_option maxRecDepth 20000 in
theorem gL_law_X9_taken : GoodIn wsL_law (wsV RL 170 RX9 yX9_taken wsX9_taken) := goodIn_app (goodIn_of _ (by decide +kernel)) ggL_law_X9_taken
set_option maxRecDepth 20000 in
theorem ggL_law_X10_taken : GoodIn wsL_law wsX10_taken := goodIn_r _ [1192, 160, 161, 1104, 1105, 5, 1106, 180, 181, 182, 1193, 1194, 1195, 1196, 159, 138, 534, 535, 536, 537, 340, 1197, 1198, 1199, 1355, 1356, 1357, 1358, 1359, 1360, 1361, 1362, 1363, 1364, 1365, 1366, 1367, 1368, 1369, 1370, 1371, 1372, 1373, 1374, 1375, 1376, 1377, 1378, 1379, 1380, 1381, 1382, 1383, 1384, 1385, 1386, 1387, 1388, 1389, 1390, 1391, 1392, 1393, 1394, 1395, 1396, 1397, 1398, 1399, 1400, 1401, 1402, 1403, 1404, 1405, 1406, 1407, 1408] (by decide +kernel) (by decide +kernel)
set_option maxRecDepth 20000 in
theorem gL_law_X10_taken : GoodIn wsL_law (wsV RL 173 RX10 yX10_taken wsX10_taken) := goodIn_app (goodIn_of _ (by decide +kernel)) ggL_law_X10_taken
set_option maxRecDepth 20000 in
theorem ggL_law_X9_act : GoodIn wsL_law wsX9_act := goodIn_r _ [1203, 51, 47, 16, 1204, 1205, 1206, 50, 1207, 126, 127, 1093, 1094, 46, 1095, 1178, 1179, 1180, 1181, 119, 120, 526, 527, 528, 15, 529, 67, 1208, 1209, 1210, 1211, 1212, 128, 129, 1213, 130, 1214, 1215, 1216, 1217, 1218, 1219, 1220, 1221, 125, 1222, 1223, 1224, 1225, 1226, 1227, 1228, 1229, 1230, 1231, 1232, 1233, 1234, 1235, 1236, 1237, 1343, 1344, 1345, 1346, 1347, 1348, 1349, 1350, 1351, 1352, 1353, 1354, 1445, 1446, 1447, 1448, 1449, 1450, 1439, 1440, 1441, 1442, 1443, 1444, 1409, 1410, 1411, 1412, 1413, 1414, 1415, 1416, 1417, 1418, 1419, 1420, 1421, 1422] (by decide +kernel) (by decide +kernel)
set_option maxRecDepth 20000 in
theorem gL_law_X9_act : GoodIn wsL_law (wsV RL 174 RX9 yX9_act wsX9_act) := goodIn_app (goodIn_of _ (by decide +kernel)) ggL_law_X9_act
set_option maxRecDepth 20000 in
theorem ggL_law_X10_act : GoodIn wsL_law wsX10_act := goodIn_r _ [1241, 1242, 1243, 160, 1244, 138, 1245, 1246, 1104, 1105, 5, 1106, 180, 181, 182, 1193, 1194, 1195, 1196, 159, 534, 535, 536, 537, 340, 1247, 1248, 1249, 1250, 1251, 1252, 1253, 1254, 1255, 1256, 1257, 1258, 162, 1259, 1260, 1261, 1262, 1263, 1264, 1265, 1266, 1267, 1268, 1269, 1270, 1271, 1272, 1273, 1274, 1275, 1276, 1277, 1278, 1279, 1280, 1281, 1282, 1283, 1284, 1285, 1286, 1287, 1288, 1289, 1290, 1291, 1292, 1293, 1294, 1355, 1356, 1357, 1358, 1359, 1360, 1361, 1362, 1363, 1364, 1365, 1366, 1367, 1368, 1369, 1370, 1371, 1372, 1373, 1374, 1375, 1376, 1377, 1378, 1379, 1380, 1381, 1382, 1383, 1384, 1385, 1386, 1387, 1388, 1389, 1390, 1391, 1392, 1393, 1394, 1395, 1396, 1397, 1398, 1399, 1400, 1401, 1402, 1403, 1404, 1405, 1406, 1407, 1408] (by decide +kernel) (by decide +kernel)
set_option maxRecDepth 20000 in
theorem gL_law_X10_act : GoodIn wsL_law (wsV RL 177 RX10 yX10_act wsX10_act) := goodIn_app (goodIn_of _ (by decide +kernel)) ggL_law_X10_act
set_option maxRecDepth 20000 in
theorem ggL_law_X9_trace : GoodIn wsL_law wsX9_trace := goodIn_r _ [1298, 51, 1299, 1300, 1343, 1344, 1345, 1346, 1347, 1348, 1349, 1350, 1351, 1352, 1353, 1354, 1445, 1446, 1447, 1448, 1449, 1450] (by decide +kernel) (by decide +kernel)
set_option maxRecDepth 20000 in
theorem gL_law_X9_trace : GoodIn wsL_law (wsV RL 178 RX9 yX9_trace wsX9_trace) := goodIn_app (goodIn_of _ (by decide +kernel)) ggL_law_X9_trace
set_option maxRecDepth 20000 in
theorem ggL_law_X10_trace : GoodIn wsL_law wsX10_trace := goodIn_r _ [1304, 1242, 162, 180, 181, 5, 182, 1355, 1356, 1357, 1358, 1359, 1360, 1361, 1362, 1363, 1364, 1365, 1366, 1367, 1368, 1369, 1370, 1371, 1372, 1373, 1374, 1375, 1376, 1377, 1378, 1379, 1380, 1381, 1382, 1383, 1384, 1385, 1386, 1387, 1388, 1389, 1390, 1391, 1392, 1393, 1394, 1395, 1396, 1397, 1398, 1399, 1400, 1401, 1402, 1403, 1404, 1405, 1406, 1407, 1408] (by decide +kernel) (by decide +kernel)
set_option maxRecDepth 20000 in
theorem gL_law_X10_trace : GoodIn wsL_law (wsV RL 181 RX10 yX10_trace wsX10_trace) := goodIn_app (goodIn_of _ (by decide +kernel)) ggL_law_X10_trace
set_option maxRecDepth 20000 in
theorem ggL_law_X9_many : GoodIn wsL_law wsX9_many := goodIn_r _ [1308, 16, 833, 190, 497, 43, 189, 23, 169, 51, 1299, 1309, 1310, 1311, 15, 1312, 56, 59, 672, 673, 674, 675, 60, 64, 600, 551, 552, 553, 67, 554, 555, 556, 557, 69, 68, 66, 70, 558, 559, 560, 561, 61, 62, 562, 563, 564, 565, 566, 567, 568, 676, 1343, 1344, 1345, 1346, 1347, 1348, 1349, 1350, 1351, 1352, 1353, 1354, 1409, 1410, 1411, 1412, 1413, 1414, 1415, 1416, 1417, 1418, 1419, 1420, 1421, 1422, 1437, 1438, 1423, 1424, 1425, 1426, 1427, 1428, 1445, 1446, 1447, 1448, 1449, 1450] (by decide +kernel) (by decide +kernel)
set_option maxRecDepth 20000 in
theorem gL_law_X9_many : GoodIn wsL_law (wsV RL 182 RX9 yX9_many wsX9_many) := goodIn_app (goodIn_of _ (by decide +kernel)) ggL_law_X9_many
set_option maxRecDepth 20000 in
theorem ggL_law_X10_many : GoodIn wsL_law wsX10_many := goodIn_r _ [1316, 135, 338, 340, 139, 419, 178, 1242, 718, 719, 720, 5, 721, 619, 620, 621, 622, 573, 574, 575, 576, 577, 578, 579, 580, 138, 581, 582, 583, 584, 458, 459, 460, 461, 462, 463, 464, 465, 137, 585, 586, 587, 1355, 1356, 1357, 1358, 1359, 1360, 1361, 1362, 1363, 1364, 1365, 1366, 1367, 1368, 1369, 1370, 1371, 1372, 1373, 1374, 1375, 1376, 1377, 1378, 1379, 1380, 1381, 1382, 1383, 1384, 1385, 1386, 1387, 1388, 1389, 1390, 1391, 1392, 1393, 1394, 1395, 1396, 1397, 1398, 1399, 1400, 1401, 1402, 1403, 1404, 1405, 1406, 1407, 1408] (by decide +kernel) (by decide +kernel)
set_option maxRecDepth 20000 in
theorem gL_law_X10_many : GoodIn wsL_law (wsV RL 185 RX10 yX10_many wsX10_many) := goodIn_app (goodIn_of _ (by decide +kernel)) ggL_law_X10_many
set_option maxRecDepth 20000 in
theorem ggL_law_X9_keep : GoodIn wsL_law wsX9_keep := goodIn_r _ [1320, 18, 16, 19, 321, 322, 323, 15, 324, 56, 60, 67, 71, 58, 325, 326, 327, 328, 59, 61, 62, 63, 64, 66, 68, 69, 70, 1343, 1344, 1345, 1346, 1347, 1348, 1349, 1350, 1351, 1352, 1353, 1354, 1409, 1410, 1411, 1412, 1413, 1414, 1415, 1416, 1417, 1418, 1419, 1420, 1421, 1422] (by decide +kernel) (by decide +kernel)
set_option maxRecDepth 20000 in
theorem gL_law_X9_keep : GoodIn wsL_law (wsV RL 186 RX9 yX9_keep wsX9_keep) := goodIn_app (goodIn_of _ (by decide +kernel)) ggL_law_X9_keep
set_option maxRecDepth 20000 in
theorem ggL_law_X10_keep : GoodIn wsL_law wsX10_keep := goodIn_r _ [1324, 1325, 1326, 1327, 1328, 5, 1329, 1330, 164, 135, 338, 340, 140, 136, 137, 138, 139, 1331, 1332, 1333, 1334, 163, 1355, 1356, 1357, 1358, 1359, 1360, 1361, 1362, 1363, 1364, 1365, 1366, 1367, 1368, 1369, 1370, 1371, 1372, 1373, 1374, 1375, 1376, 1377, 1378, 1379, 1380, 1381, 1382, 1383, 1384, 1385, 1386, 1387, 1388, 1389, 1390, 1391, 1392, 1393, 1394, 1395, 1396, 1397, 1398, 1399, 1400, 1401, 1402, 1403, 1404, 1405, 1406, 1407, 1408] (by decide +kernel) (by decide +kernel)
set_option maxRecDepth 20000 in
theorem gL_law_X10_keep : GoodIn wsL_law (wsV RL 189 RX10 yX10_keep wsX10_keep) := goodIn_app (goodIn_of _ (by decide +kernel)) ggL_law_X10_keep
set_option maxRecDepth 20000 in
theorem ggL_law_X9_back : GoodIn wsL_law wsX9_back := goodIn_r _ [1338, 19, 16, 18, 190, 321, 322, 323, 15, 324, 56, 60, 67, 71, 58, 325, 326, 327, 328, 59, 61, 62, 63, 64, 66, 68, 69, 70, 1343, 1344, 1345, 1346, 1347, 1348, 1349, 1350, 1351, 1352, 1353, 1354, 1409, 1410, 1411, 1412, 1413, 1414, 1415, 1416, 1417, 1418, 1419, 1420, 1421, 1422] (by decide +kernel) (by decide +kernel)
set_option maxRecDepth 20000 in
theorem gL_law_X9_back : GoodIn wsL_law (wsV RL 190 RX9 yX9_back wsX9_back) := goodIn_app (goodIn_of _ (by decide +kernel)) ggL_law_X9_back
set_option maxRecDepth 20000 in
theorem ggL_law_X10_back : GoodIn wsL_law wsX10_back := goodIn_r _ [1342, 1325, 164, 135, 338, 340, 140, 1326, 1327, 1328, 5, 1329, 1330, 136, 137, 138, 139, 1331, 1332, 1333, 1334, 163, 1355, 1356, 1357, 1358, 1359, 1360, 1361, 1362, 1363, 1364, 1365, 1366, 1367, 1368, 1369, 1370, 1371, 1372, 1373, 1374, 1375, 1376, 1377, 1378, 1379, 1380, 1381, 1382, 1383, 1384, 1385, 1386, 1387, 1388, 1389, 1390, 1391, 1392, 1393, 1394, 1395, 1396, 1397, 1398, 1399, 1400, 1401, 1402, 1403, 1404, 1405, 1406, 1407, 1408] (by decide +kernel) (by decide +kernel)
set_option maxRecDepth 20000 in
theorem gL_law_X10_back : GoodIn wsL_law (wsV RL 193 RX10 yX10_back wsX10_back) := goodIn_app (goodIn_of _ (by decide +kernel)) ggL_law_X10_back
theorem dL_law_0 : decode cL_law 0 = .ok (.new 7, 3) := by decide +kernel
theorem dL_law_3 : decode cL_law 3 = .ok (.dup, 1) := by decide +kernel
theorem dL_law_4 : decode cL_law 4 = .ok (.invokespecial 9, 3) := by decide +kernel
theorem dL_law_7 : decode cL_law 7 = .ok (.astore_n 1, 1) := by decide +kernel
theorem dL_law_8 : decode cL_law 8 = .ok (.new 10, 3) := by decide +kernel
theorem dL_law_11 : decode cL_law 11 = .ok (.dup, 1) := by decide +kernel
theorem dL_law_12 : decode cL_law 12 = .ok (.invokespecial 12, 3) := by decide +kernel
theorem dL_law_15 : decode cL_law 15 = .ok (.astore_n 2, 1) := by decide +kernel
theorem dL_law_16 : decode cL_law 16 = .ok (.iconst 0, 1) := by decide +kernel
theorem dL_law_17 : decode cL_law 17 = .ok (.istore_n 3, 1) := by decide +kernel
theorem dL_law_18 : decode cL_law 18 = .ok (.iload_n 3, 1) := by decide +kernel
theorem dL_law_19 : decode cL_law 19 = .ok (.aload_n 0, 1) := by decide +kernel
theorem dL_law_20 : decode cL_law 20 = .ok (.arraylength, 1) := by decide +kernel
theorem dL_law_21 : decode cL_law 21 = .ok (.bipush 6, 2) := by decide +kernel
theorem dL_law_23 : decode cL_law 23 = .ok (.isub, 1) := by decide +kernel
theorem dL_law_24 : decode cL_law 24 = .ok (.if_icmp .gt 1628, 3) := by decide +kernel
theorem dL_law_27 : decode cL_law 27 = .ok (.aload_n 0, 1) := by decide +kernel
theorem dL_law_28 : decode cL_law 28 = .ok (.iload_n 3, 1) := by decide +kernel
theorem dL_law_29 : decode cL_law 29 = .ok (.iaload, 1) := by decide +kernel
theorem dL_law_30 : decode cL_law 30 = .ok (.bipush 63, 2) := by decide +kernel
theorem dL_law_32 : decode cL_law 32 = .ok (.iand, 1) := by decide +kernel
theorem dL_law_33 : decode cL_law 33 = .ok (.tableswitch 1613 0 42 #[187, 250, 263, 286, 365, 398, 431, 474, 507, 520, 553, 576, 599, 632, 656, 689, 722, 765, 808, 841, 874, 907, 940, 963, 996, 1029, 1062, 1095, 1138, 1171, 1194, 1227, 1260, 1293, 1336, 1379, 1422, 1465, 1498, 1541, 1564, 1587, 1600], 187) := by decide +kernel
theorem dL_law_220 : decode cL_law 220 = .ok (.aload_n 1, 1) := by decide +kernel
theorem dL_law_221 : decode cL_law 221 = .ok (.aload_n 0, 1) := by decide +kernel
theorem dL_law_222 : decode cL_law 222 = .ok (.iload_n 3, 1) := by decide +kernel
theorem dL_law_223 : decode cL_law 223 = .ok (.iconst 1, 1) := by decide +kernel
theorem dL_law_224 : decode cL_law 224 = .ok (.iadd, 1) := by decide +kernel
theorem dL_law_225 : decode cL_law 225 = .ok (.iaload, 1) := by decide +kernel
theorem dL_law_226 : decode cL_law 226 = .ok (.i2l, 1) := by decide +kernel
theorem dL_law_227 : decode cL_law 227 = .ok (.bipush 32, 2) := by decide +kernel
theorem dL_law_229 : decode cL_law 229 = .ok (.lshl, 1) := by decide +kernel
theorem dL_law_230 : decode cL_law 230 = .ok (.aload_n 0, 1) := by decide +kernel
theorem dL_law_231 : decode cL_law 231 = .ok (.iload_n 3, 1) := by decide +kernel
theorem dL_law_232 : decode cL_law 232 = .ok (.iconst 2, 1) := by decide +kernel
theorem dL_law_233 : decode cL_law 233 = .ok (.iadd, 1) := by decide +kernel
theorem dL_law_234 : decode cL_law 234 = .ok (.iaload, 1) := by decide +kernel
theorem dL_law_235 : decode cL_law 235 = .ok (.i2l, 1) := by decide +kernel
theorem dL_law_236 : decode cL_law 236 = .ok (.ldc2_w 13, 3) := by decide +kernel
theorem dL_law_239 : decode cL_law 239 = .ok (.land, 1) := by decide +kernel
theorem dL_law_240 : decode cL_law 240 = .ok (.lor, 1) := by decide +kernel
theorem dL_law_241 : decode cL_law 241 = .ok (.aload_n 0, 1) := by decide +kernel
theorem dL_law_242 : decode cL_law 242 = .ok (.iload_n 3, 1) := by decide +kernel
theorem dL_law_243 : decode cL_law 243 = .ok (.iconst 3, 1) := by decide +kernel
theorem dL_law_244 : decode cL_law 244 = .ok (.iadd, 1) := by decide +kernel
theorem dL_law_245 : decode cL_law 245 = .ok (.iaload, 1) := by decide +kernel
theorem dL_law_246 : decode cL_law 246 = .ok (.invokevirtual 15, 3) := by decide +kernel
theorem dL_law_249 : decode cL_law 249 = .ok (.aload_n 2, 1) := by decide +kernel
theorem dL_law_250 : decode cL_law 250 = .ok (.aload_n 0, 1) := by decide +kernel
theorem dL_law_251 : decode cL_law 251 = .ok (.iload_n 3, 1) := by decide +kernel
theorem dL_law_252 : decode cL_law 252 = .ok (.iconst 1, 1) := by decide +kernel
theorem dL_law_253 : decode cL_law 253 = .ok (.iadd, 1) := by decide +kernel
theorem dL_law_254 : decode cL_law 254 = .ok (.iaload, 1) := by decide +kernel
theorem dL_law_255 : decode cL_law 255 = .ok (.i2l, 1) := by decide +kernel
theorem dL_law_256 : decode cL_law 256 = .ok (.bipush 32, 2) := by decide +kernel
theorem dL_law_258 : decode cL_law 258 = .ok (.lshl, 1) := by decide +kernel
theorem dL_law_259 : decode cL_law 259 = .ok (.aload_n 0, 1) := by decide +kernel
theorem dL_law_260 : decode cL_law 260 = .ok (.iload_n 3, 1) := by decide +kernel
theorem dL_law_261 : decode cL_law 261 = .ok (.iconst 2, 1) := by decide +kernel
theorem dL_law_262 : decode cL_law 262 = .ok (.iadd, 1) := by decide +kernel
theorem dL_law_263 : decode cL_law 263 = .ok (.iaload, 1) := by decide +kernel
theorem dL_law_264 : decode cL_law 264 = .ok (.i2l, 1) := by decide +kernel
theorem dL_law_265 : decode cL_law 265 = .ok (.ldc2_w 13, 3) := by decide +kernel
theorem dL_law_268 : decode cL_law 268 = .ok (.land, 1) := by decide +kernel
theorem dL_law_269 : decode cL_law 269 = .ok (.lor, 1) := by decide +kernel
theorem dL_law_270 : decode cL_law 270 = .ok (.aload_n 0, 1) := by decide +kernel
theorem dL_law_271 : decode cL_law 271 = .ok (.iload_n 3, 1) := by decide +kernel
theorem dL_law_272 : decode cL_law 272 = .ok (.iconst 3, 1) := by decide +kernel
theorem dL_law_273 : decode cL_law 273 = .ok (.iadd, 1) := by decide +kernel
theorem dL_law_274 : decode cL_law 274 = .ok (.iaload, 1) := by decide +kernel
theorem dL_law_275 : decode cL_law 275 = .ok (.invokevirtual 19, 3) := by decide +kernel
theorem dL_law_278 : decode cL_law 278 = .ok (.if_icmp .eq 1368, 3) := by decide +kernel
theorem dL_law_281 : decode cL_law 281 = .ok (.iconst 0, 1) := by decide +kernel
theorem dL_law_282 : decode cL_law 282 = .ok (.ireturn, 1) := by decide +kernel
theorem dL_law_283 : decode cL_law 283 = .ok (.aload_n 1, 1) := by decide +kernel
theorem dL_law_284 : decode cL_law 284 = .ok (.invokevirtual 20, 3) := by decide +kernel
theorem dL_law_287 : decode cL_law 287 = .ok (.aload_n 2, 1) := by decide +kernel
theorem dL_law_288 : decode cL_law 288 = .ok (.invokevirtual 24, 3) := by decide +kernel
theorem dL_law_291 : decode cL_law 291 = .ok (.if_icmp .eq 1355, 3) := by decide +kernel
theorem dL_law_294 : decode cL_law 294 = .ok (.iconst 0, 1) := by decide +kernel
theorem dL_law_295 : decode cL_law 295 = .ok (.ireturn, 1) := by decide +kernel
theorem dL_law_296 : decode cL_law 296 = .ok (.aload_n 1, 1) := by decide +kernel
theorem dL_law_297 : decode cL_law 297 = .ok (.aload_n 0, 1) := by decide +kernel
theorem dL_law_298 : decode cL_law 298 = .ok (.iload_n 3, 1) := by decide +kernel
theorem dL_law_299 : decode cL_law 299 = .ok (.iconst 1, 1) := by decide +kernel
theorem dL_law_300 : decode cL_law 300 = .ok (.iadd, 1) := by decide +kernel
theorem dL_law_301 : decode cL_law 301 = .ok (.iaload, 1) := by decide +kernel
theorem dL_law_302 : decode cL_law 302 = .ok (.invokevirtual 25, 3) := by decide +kernel
theorem dL_law_305 : decode cL_law 305 = .ok (.aload_n 2, 1) := by decide +kernel
theorem dL_law_306 : decode cL_law 306 = .ok (.aload_n 0, 1) := by decide +kernel
theorem dL_law_307 : decode cL_law 307 = .ok (.iload_n 3, 1) := by decide +kernel
theorem dL_law_308 : decode cL_law 308 = .ok (.iconst 1, 1) := by decide +kernel
theorem dL_law_309 : decode cL_law 309 = .ok (.iadd, 1) := by decide +kernel
theorem dL_law_310 : decode cL_law 310 = .ok (.iaload, 1) := by decide +kernel
theorem dL_law_311 : decode cL_law 311 = .ok (.invokevirtual 29, 3) := by decide +kernel
theorem dL_law_314 : decode cL_law 314 = .ok (.if_icmp .eq 1332, 3) := by decide +kernel
theorem dL_law_317 : decode cL_law 317 = .ok (.iconst 0, 1) := by decide +kernel
theorem dL_law_318 : decode cL_law 318 = .ok (.ireturn, 1) := by decide +kernel
theorem dL_law_319 : decode cL_law 319 = .ok (.aload_n 1, 1) := by decide +kernel
theorem dL_law_320 : decode cL_law 320 = .ok (.aload_n 0, 1) := by decide +kernel
theorem dL_law_321 : decode cL_law 321 = .ok (.iload_n 3, 1) := by decide +kernel
theorem dL_law_322 : decode cL_law 322 = .ok (.iconst 1, 1) := by decide +kernel
theorem dL_law_323 : decode cL_law 323 = .ok (.iadd, 1) := by decide +kernel
theorem dL_law_324 : decode cL_law 324 = .ok (.iaload, 1) := by decide +kernel
theorem dL_law_325 : decode cL_law 325 = .ok (.aload_n 0, 1) := by decide +kernel
theorem dL_law_326 : decode cL_law 326 = .ok (.iload_n 3, 1) := by decide +kernel
theorem dL_law_327 : decode cL_law 327 = .ok (.iconst 2, 1) := by decide +kernel
theorem dL_law_328 : decode cL_law 328 = .ok (.iadd, 1) := by decide +kernel
theorem dL_law_329 : decode cL_law 329 = .ok (.iaload, 1) := by decide +kernel
theorem dL_law_330 : decode cL_law 330 = .ok (.aload_n 0, 1) := by decide +kernel
theorem dL_law_331 : decode cL_law 331 = .ok (.iload_n 3, 1) := by decide +kernel
theorem dL_law_332 : decode cL_law 332 = .ok (.iconst 3, 1) := by decide +kernel
theorem dL_law_333 : decode cL_law 333 = .ok (.iadd, 1) := by decide +kernel
theorem dL_law_334 : decode cL_law 334 = .ok (.iaload, 1) := by decide +kernel
theorem dL_law_335 : decode cL_law 335 = .ok (.aload_n 0, 1) := by decide +kernel
theorem dL_law_336 : decode cL_law 336 = .ok (.iload_n 3, 1) := by decide +kernel
theorem dL_law_337 : decode cL_law 337 = .ok (.iconst 4, 1) := by decide +kernel
theorem dL_law_338 : decode cL_law 338 = .ok (.iadd, 1) := by decide +kernel
theorem dL_law_339 : decode cL_law 339 = .ok (.iaload, 1) := by decide +kernel
theorem dL_law_340 : decode cL_law 340 = .ok (.aload_n 0, 1) := by decide +kernel
theorem dL_law_341 : decode cL_law 341 = .ok (.iload_n 3, 1) := by decide +kernel
theorem dL_law_342 : decode cL_law 342 = .ok (.iconst 5, 1) := by decide +kernel
theorem dL_law_343 : decode cL_law 343 = .ok (.iadd, 1) := by decide +kernel
theorem dL_law_344 : decode cL_law 344 = .ok (.iaload, 1) := by decide +kernel
theorem dL_law_345 : decode cL_law 345 = .ok (.ifCond .eq 7, 3) := by decide +kernel
theorem dL_law_348 : decode cL_law 348 = .ok (.iconst 1, 1) := by decide +kernel
theorem dL_law_349 : decode cL_law 349 = .ok (.goto 4, 3) := by decide +kernel
theorem dL_law_352 : decode cL_law 352 = .ok (.iconst 0, 1) := by decide +kernel
theorem dL_law_353 : decode cL_law 353 = .ok (.invokevirtual 30, 3) := by decide +kernel
theorem dL_law_356 : decode cL_law 356 = .ok (.aload_n 2, 1) := by decide +kernel
theorem dL_law_357 : decode cL_law 357 = .ok (.aload_n 0, 1) := by decide +kernel
theorem dL_law_358 : decode cL_law 358 = .ok (.iload_n 3, 1) := by decide +kernel
theorem dL_law_359 : decode cL_law 359 = .ok (.iconst 1, 1) := by decide +kernel
theorem dL_law_360 : decode cL_law 360 = .ok (.iadd, 1) := by decide +kernel
theorem dL_law_361 : decode cL_law 361 = .ok (.iaload, 1) := by decide +kernel
theorem dL_law_362 : decode cL_law 362 = .ok (.aload_n 0, 1) := by decide +kernel
theorem dL_law_363 : decode cL_law 363 = .ok (.iload_n 3, 1) := by decide +kernel
theorem dL_law_364 : decode cL_law 364 = .ok (.iconst 2, 1) := by decide +kernel
theorem dL_law_365 : decode cL_law 365 = .ok (.iadd, 1) := by decide +kernel
theorem dL_law_366 : decode cL_law 366 = .ok (.iaload, 1) := by decide +kernel
theorem dL_law_367 : decode cL_law 367 = .ok (.aload_n 0, 1) := by decide +kernel
theorem dL_law_368 : decode cL_law 368 = .ok (.iload_n 3, 1) := by decide +kernel
theorem dL_law_369 : decode cL_law 369 = .ok (.iconst 3, 1) := by decide +kernel
theorem dL_law_370 : decode cL_law 370 = .ok (.iadd, 1) := by decide +kernel
theorem dL_law_371 : decode cL_law 371 = .ok (.iaload, 1) := by decide +kernel
theorem dL_law_372 : decode cL_law 372 = .ok (.aload_n 0, 1) := by decide +kernel
theorem dL_law_373 : decode cL_law 373 = .ok (.iload_n 3, 1) := by decide +kernel
theorem dL_law_374 : decode cL_law 374 = .ok (.iconst 4, 1) := by decide +kernel
theorem dL_law_375 : decode cL_law 375 = .ok (.iadd, 1) := by decide +kernel
theorem dL_law_376 : decode cL_law 376 = .ok (.iaload, 1) := by decide +kernel
theorem dL_law_377 : decode cL_law 377 = .ok (.aload_n 0, 1) := by decide +kernel
theorem dL_law_378 : decode cL_law 378 = .ok (.iload_n 3, 1) := by decide +kernel
theorem dL_law_379 : decode cL_law 379 = .ok (.iconst 5, 1) := by decide +kernel
theorem dL_law_380 : decode cL_law 380 = .ok (.iadd, 1) := by decide +kernel
theorem dL_law_381 : decode cL_law 381 = .ok (.iaload, 1) := by decide +kernel
theorem dL_law_382 : decode cL_law 382 = .ok (.ifCond .eq 7, 3) := by decide +kernel
theorem dL_law_385 : decode cL_law 385 = .ok (.iconst 1, 1) := by decide +kernel
theorem dL_law_386 : decode cL_law 386 = .ok (.goto 4, 3) := by decide +kernel
theorem dL_law_389 : decode cL_law 389 = .ok (.iconst 0, 1) := by decide +kernel
theorem dL_law_390 : decode cL_law 390 = .ok (.invokevirtual 34, 3) := by decide +kernel
theorem dL_law_393 : decode cL_law 393 = .ok (.if_icmp .eq 1253, 3) := by decide +kernel
theorem dL_law_396 : decode cL_law 396 = .ok (.iconst 0, 1) := by decide +kernel
theorem dL_law_397 : decode cL_law 397 = .ok (.ireturn, 1) := by decide +kernel
theorem dL_law_398 : decode cL_law 398 = .ok (.aload_n 1, 1) := by decide +kernel
theorem dL_law_399 : decode cL_law 399 = .ok (.aload_n 0, 1) := by decide +kernel
theorem dL_law_400 : decode cL_law 400 = .ok (.iload_n 3, 1) := by decide +kernel
theorem dL_law_401 : decode cL_law 401 = .ok (.iconst 1, 1) := by decide +kernel
theorem dL_law_402 : decode cL_law 402 = .ok (.iadd, 1) := by decide +kernel
theorem dL_law_403 : decode cL_law 403 = .ok (.iaload, 1) := by decide +kernel
theorem dL_law_404 : decode cL_law 404 = .ok (.aload_n 0, 1) := by decide +kernel
theorem dL_law_405 : decode cL_law 405 = .ok (.iload_n 3, 1) := by decide +kernel
theorem dL_law_406 : decode cL_law 406 = .ok (.iconst 2, 1) := by decide +kernel
theorem dL_law_407 : decode cL_law 407 = .ok (.iadd, 1) := by decide +kernel
theorem dL_law_408 : decode cL_law 408 = .ok (.iaload, 1) := by decide +kernel
theorem dL_law_409 : decode cL_law 409 = .ok (.invokevirtual 35, 3) := by decide +kernel
theorem dL_law_412 : decode cL_law 412 = .ok (.aload_n 2, 1) := by decide +kernel
theorem dL_law_413 : decode cL_law 413 = .ok (.aload_n 0, 1) := by decide +kernel
theorem dL_law_414 : decode cL_law 414 = .ok (.iload_n 3, 1) := by decide +kernel
theorem dL_law_415 : decode cL_law 415 = .ok (.iconst 1, 1) := by decide +kernel
theorem dL_law_416 : decode cL_law 416 = .ok (.iadd, 1) := by decide +kernel
theorem dL_law_417 : decode cL_law 417 = .ok (.iaload, 1) := by decide +kernel
theorem dL_law_418 : decode cL_law 418 = .ok (.aload_n 0, 1) := by decide +kernel
theorem dL_law_419 : decode cL_law 419 = .ok (.iload_n 3, 1) := by decide +kernel
theorem dL_law_420 : decode cL_law 420 = .ok (.iconst 2, 1) := by decide +kernel
theorem dL_law_421 : decode cL_law 421 = .ok (.iadd, 1) := by decide +kernel
theorem dL_law_422 : decode cL_law 422 = .ok (.iaload, 1) := by decide +kernel
theorem dL_law_423 : decode cL_law 423 = .ok (.invokevirtual 39, 3) := by decide +kernel
theorem dL_law_426 : decode cL_law 426 = .ok (.if_icmp .eq 1220, 3) := by decide +kernel
theorem dL_law_429 : decode cL_law 429 = .ok (.iconst 0, 1) := by decide +kernel
theorem dL_law_430 : decode cL_law 430 = .ok (.ireturn, 1) := by decide +kernel
theorem dL_law_431 : decode cL_law 431 = .ok (.aload_n 1, 1) := by decide +kernel
theorem dL_law_432 : decode cL_law 432 = .ok (.aload_n 0, 1) := by decide +kernel
theorem dL_law_433 : decode cL_law 433 = .ok (.iload_n 3, 1) := by decide +kernel
theorem dL_law_434 : decode cL_law 434 = .ok (.iconst 1, 1) := by decide +kernel
theorem dL_law_435 : decode cL_law 435 = .ok (.iadd, 1) := by decide +kernel
theorem dL_law_436 : decode cL_law 436 = .ok (.iaload, 1) := by decide +kernel
theorem dL_law_437 : decode cL_law 437 = .ok (.aload_n 0, 1) := by decide +kernel
theorem dL_law_438 : decode cL_law 438 = .ok (.iload_n 3, 1) := by decide +kernel
theorem dL_law_439 : decode cL_law 439 = .ok (.iconst 2, 1) := by decide +kernel
theorem dL_law_440 : decode cL_law 440 = .ok (.iadd, 1) := by decide +kernel
theorem dL_law_441 : decode cL_law 441 = .ok (.iaload, 1) := by decide +kernel
theorem dL_law_442 : decode cL_law 442 = .ok (.invokevirtual 40, 3) := by decide +kernel
theorem dL_law_445 : decode cL_law 445 = .ok (.aload_n 2, 1) := by decide +kernel
theorem dL_law_446 : decode cL_law 446 = .ok (.aload_n 0, 1) := by decide +kernel
theorem dL_law_447 : decode cL_law 447 = .ok (.iload_n 3, 1) := by decide +kernel
theorem dL_law_448 : decode cL_law 448 = .ok (.iconst 1, 1) := by decide +kernel
theorem dL_law_449 : decode cL_law 449 = .ok (.iadd, 1) := by decide +kernel
theorem dL_law_450 : decode cL_law 450 = .ok (.iaload, 1) := by decide +kernel
theorem dL_law_451 : decode cL_law 451 = .ok (.aload_n 0, 1) := by decide +kernel
theorem dL_law_452 : decode cL_law 452 = .ok (.iload_n 3, 1) := by decide +kernel
theorem dL_law_453 : decode cL_law 453 = .ok (.iconst 2, 1) := by decide +kernel
theorem dL_law_454 : decode cL_law 454 = .ok (.iadd, 1) := by decide +kernel
theorem dL_law_455 : decode cL_law 455 = .ok (.iaload, 1) := by decide +kernel
theorem dL_law_456 : decode cL_law 456 = .ok (.invokevirtual 43, 3) := by decide +kernel
theorem dL_law_459 : decode cL_law 459 = .ok (.if_icmp .eq 1187, 3) := by decide +kernel
theorem dL_law_462 : decode cL_law 462 = .ok (.iconst 0, 1) := by decide +kernel
theorem dL_law_463 : decode cL_law 463 = .ok (.ireturn, 1) := by decide +kernel
theorem dL_law_464 : decode cL_law 464 = .ok (.aload_n 1, 1) := by decide +kernel
theorem dL_law_465 : decode cL_law 465 = .ok (.aload_n 0, 1) := by decide +kernel
theorem dL_law_466 : decode cL_law 466 = .ok (.iload_n 3, 1) := by decide +kernel
theorem dL_law_467 : decode cL_law 467 = .ok (.iconst 1, 1) := by decide +kernel
theorem dL_law_468 : decode cL_law 468 = .ok (.iadd, 1) := by decide +kernel
theorem dL_law_469 : decode cL_law 469 = .ok (.iaload, 1) := by decide +kernel
theorem dL_law_470 : decode cL_law 470 = .ok (.aload_n 0, 1) := by decide +kernel
theorem dL_law_471 : decode cL_law 471 = .ok (.iload_n 3, 1) := by decide +kernel
theorem dL_law_472 : decode cL_law 472 = .ok (.iconst 2, 1) := by decide +kernel
theorem dL_law_473 : decode cL_law 473 = .ok (.iadd, 1) := by decide +kernel
theorem dL_law_474 : decode cL_law 474 = .ok (.iaload, 1) := by decide +kernel
theorem dL_law_475 : decode cL_law 475 = .ok (.aload_n 0, 1) := by decide +kernel
theorem dL_law_476 : decode cL_law 476 = .ok (.iload_n 3, 1) := by decide +kernel
theorem dL_law_477 : decode cL_law 477 = .ok (.iconst 3, 1) := by decide +kernel
theorem dL_law_478 : decode cL_law 478 = .ok (.iadd, 1) := by decide +kernel
theorem dL_law_479 : decode cL_law 479 = .ok (.iaload, 1) := by decide +kernel
theorem dL_law_480 : decode cL_law 480 = .ok (.invokevirtual 44, 3) := by decide +kernel
theorem dL_law_483 : decode cL_law 483 = .ok (.aload_n 2, 1) := by decide +kernel
theorem dL_law_484 : decode cL_law 484 = .ok (.aload_n 0, 1) := by decide +kernel
theorem dL_law_485 : decode cL_law 485 = .ok (.iload_n 3, 1) := by decide +kernel
theorem dL_law_486 : decode cL_law 486 = .ok (.iconst 1, 1) := by decide +kernel
theorem dL_law_487 : decode cL_law 487 = .ok (.iadd, 1) := by decide +kernel
theorem dL_law_488 : decode cL_law 488 = .ok (.iaload, 1) := by decide +kernel
theorem dL_law_489 : decode cL_law 489 = .ok (.aload_n 0, 1) := by decide +kernel
theorem dL_law_490 : decode cL_law 490 = .ok (.iload_n 3, 1) := by decide +kernel
theorem dL_law_491 : decode cL_law 491 = .ok (.iconst 2, 1) := by decide +kernel
theorem dL_law_492 : decode cL_law 492 = .ok (.iadd, 1) := by decide +kernel
theorem dL_law_493 : decode cL_law 493 = .ok (.iaload, 1) := by decide +kernel
theorem dL_law_494 : decode cL_law 494 = .ok (.aload_n 0, 1) := by decide +kernel
theorem dL_law_495 : decode cL_law 495 = .ok (.iload_n 3, 1) := by decide +kernel
theorem dL_law_496 : decode cL_law 496 = .ok (.iconst 3, 1) := by decide +kernel
theorem dL_law_497 : decode cL_law 497 = .ok (.iadd, 1) := by decide +kernel
theorem dL_law_498 : decode cL_law 498 = .ok (.iaload, 1) := by decide +kernel
theorem dL_law_499 : decode cL_law 499 = .ok (.invokevirtual 48, 3) := by decide +kernel
theorem dL_law_502 : decode cL_law 502 = .ok (.if_icmp .eq 1144, 3) := by decide +kernel
theorem dL_law_505 : decode cL_law 505 = .ok (.iconst 0, 1) := by decide +kernel
theorem dL_law_506 : decode cL_law 506 = .ok (.ireturn, 1) := by decide +kernel
theorem dL_law_507 : decode cL_law 507 = .ok (.aload_n 1, 1) := by decide +kernel
theorem dL_law_508 : decode cL_law 508 = .ok (.aload_n 0, 1) := by decide +kernel
theorem dL_law_509 : decode cL_law 509 = .ok (.iload_n 3, 1) := by decide +kernel
theorem dL_law_510 : decode cL_law 510 = .ok (.iconst 1, 1) := by decide +kernel
theorem dL_law_511 : decode cL_law 511 = .ok (.iadd, 1) := by decide +kernel
theorem dL_law_512 : decode cL_law 512 = .ok (.iaload, 1) := by decide +kernel
theorem dL_law_513 : decode cL_law 513 = .ok (.aload_n 0, 1) := by decide +kernel
theorem dL_law_514 : decode cL_law 514 = .ok (.iload_n 3, 1) := by decide +kernel
theorem dL_law_515 : decode cL_law 515 = .ok (.iconst 2, 1) := by decide +kernel
theorem dL_law_516 : decode cL_law 516 = .ok (.iadd, 1) := by decide +kernel
theorem dL_law_517 : decode cL_law 517 = .ok (.iaload, 1) := by decide +kernel
theorem dL_law_518 : decode cL_law 518 = .ok (.invokevirtual 49, 3) := by decide +kernel
theorem dL_law_521 : decode cL_law 521 = .ok (.aload_n 2, 1) := by decide +kernel
theorem dL_law_522 : decode cL_law 522 = .ok (.aload_n 0, 1) := by decide +kernel
theorem dL_law_523 : decode cL_law 523 = .ok (.iload_n 3, 1) := by decide +kernel
theorem dL_law_524 : decode cL_law 524 = .ok (.iconst 1, 1) := by decide +kernel
theorem dL_law_525 : decode cL_law 525 = .ok (.iadd, 1) := by decide +kernel
theorem dL_law_526 : decode cL_law 526 = .ok (.iaload, 1) := by decide +kernel
theorem dL_law_527 : decode cL_law 527 = .ok (.aload_n 0, 1) := by decide +kernel
theorem dL_law_528 : decode cL_law 528 = .ok (.iload_n 3, 1) := by decide +kernel
theorem dL_law_529 : decode cL_law 529 = .ok (.iconst 2, 1) := by decide +kernel
theorem dL_law_530 : decode cL_law 530 = .ok (.iadd, 1) := by decide +kernel
theorem dL_law_531 : decode cL_law 531 = .ok (.iaload, 1) := by decide +kernel
theorem dL_law_532 : decode cL_law 532 = .ok (.invokevirtual 52, 3) := by decide +kernel
theorem dL_law_535 : decode cL_law 535 = .ok (.if_icmp .eq 1111, 3) := by decide +kernel
theorem dL_law_538 : decode cL_law 538 = .ok (.iconst 0, 1) := by decide +kernel
theorem dL_law_539 : decode cL_law 539 = .ok (.ireturn, 1) := by decide +kernel
theorem dL_law_540 : decode cL_law 540 = .ok (.aload_n 1, 1) := by decide +kernel
theorem dL_law_541 : decode cL_law 541 = .ok (.invokevirtual 53, 3) := by decide +kernel
theorem dL_law_544 : decode cL_law 544 = .ok (.aload_n 2, 1) := by decide +kernel
theorem dL_law_545 : decode cL_law 545 = .ok (.invokevirtual 56, 3) := by decide +kernel
theorem dL_law_548 : decode cL_law 548 = .ok (.if_icmp .eq 1098, 3) := by decide +kernel
theorem dL_law_551 : decode cL_law 551 = .ok (.iconst 0, 1) := by decide +kernel
theorem dL_law_552 : decode cL_law 552 = .ok (.ireturn, 1) := by decide +kernel
theorem dL_law_553 : decode cL_law 553 = .ok (.aload_n 1, 1) := by decide +kernel
theorem dL_law_554 : decode cL_law 554 = .ok (.aload_n 0, 1) := by decide +kernel
theorem dL_law_555 : decode cL_law 555 = .ok (.iload_n 3, 1) := by decide +kernel
theorem dL_law_556 : decode cL_law 556 = .ok (.iconst 1, 1) := by decide +kernel
theorem dL_law_557 : decode cL_law 557 = .ok (.iadd, 1) := by decide +kernel
theorem dL_law_558 : decode cL_law 558 = .ok (.iaload, 1) := by decide +kernel
theorem dL_law_559 : decode cL_law 559 = .ok (.aload_n 0, 1) := by decide +kernel
theorem dL_law_560 : decode cL_law 560 = .ok (.iload_n 3, 1) := by decide +kernel
theorem dL_law_561 : decode cL_law 561 = .ok (.iconst 2, 1) := by decide +kernel
theorem dL_law_562 : decode cL_law 562 = .ok (.iadd, 1) := by decide +kernel
theorem dL_law_563 : decode cL_law 563 = .ok (.iaload, 1) := by decide +kernel
theorem dL_law_564 : decode cL_law 564 = .ok (.invokevirtual 57, 3) := by decide +kernel
theorem dL_law_567 : decode cL_law 567 = .ok (.aload_n 2, 1) := by decide +kernel
theorem dL_law_568 : decode cL_law 568 = .ok (.aload_n 0, 1) := by decide +kernel
theorem dL_law_569 : decode cL_law 569 = .ok (.iload_n 3, 1) := by decide +kernel
theorem dL_law_570 : decode cL_law 570 = .ok (.iconst 1, 1) := by decide +kernel
theorem dL_law_571 : decode cL_law 571 = .ok (.iadd, 1) := by decide +kernel
theorem dL_law_572 : decode cL_law 572 = .ok (.iaload, 1) := by decide +kernel
theorem dL_law_573 : decode cL_law 573 = .ok (.aload_n 0, 1) := by decide +kernel
theorem dL_law_574 : decode cL_law 574 = .ok (.iload_n 3, 1) := by decide +kernel
theorem dL_law_575 : decode cL_law 575 = .ok (.iconst 2, 1) := by decide +kernel
theorem dL_law_576 : decode cL_law 576 = .ok (.iadd, 1) := by decide +kernel
theorem dL_law_577 : decode cL_law 577 = .ok (.iaload, 1) := by decide +kernel
theorem dL_law_578 : decode cL_law 578 = .ok (.invokevirtual 60, 3) := by decide +kernel
theorem dL_law_581 : decode cL_law 581 = .ok (.if_icmp .eq 1065, 3) := by decide +kernel
theorem dL_law_584 : decode cL_law 584 = .ok (.iconst 0, 1) := by decide +kernel
theorem dL_law_585 : decode cL_law 585 = .ok (.ireturn, 1) := by decide +kernel
theorem dL_law_586 : decode cL_law 586 = .ok (.aload_n 1, 1) := by decide +kernel
theorem dL_law_587 : decode cL_law 587 = .ok (.aload_n 0, 1) := by decide +kernel
theorem dL_law_588 : decode cL_law 588 = .ok (.iload_n 3, 1) := by decide +kernel
theorem dL_law_589 : decode cL_law 589 = .ok (.iconst 1, 1) := by decide +kernel
theorem dL_law_590 : decode cL_law 590 = .ok (.iadd, 1) := by decide +kernel
theorem dL_law_591 : decode cL_law 591 = .ok (.iaload, 1) := by decide +kernel
theorem dL_law_592 : decode cL_law 592 = .ok (.invokevirtual 61, 3) := by decide +kernel
theorem dL_law_595 : decode cL_law 595 = .ok (.aload_n 2, 1) := by decide +kernel
theorem dL_law_596 : decode cL_law 596 = .ok (.aload_n 0, 1) := by decide +kernel
theorem dL_law_597 : decode cL_law 597 = .ok (.iload_n 3, 1) := by decide +kernel
theorem dL_law_598 : decode cL_law 598 = .ok (.iconst 1, 1) := by decide +kernel
theorem dL_law_599 : decode cL_law 599 = .ok (.iadd, 1) := by decide +kernel
theorem dL_law_600 : decode cL_law 600 = .ok (.iaload, 1) := by decide +kernel
theorem dL_law_601 : decode cL_law 601 = .ok (.invokevirtual 64, 3) := by decide +kernel
theorem dL_law_604 : decode cL_law 604 = .ok (.if_icmp .eq 1042, 3) := by decide +kernel
theorem dL_law_607 : decode cL_law 607 = .ok (.iconst 0, 1) := by decide +kernel
theorem dL_law_608 : decode cL_law 608 = .ok (.ireturn, 1) := by decide +kernel
theorem dL_law_609 : decode cL_law 609 = .ok (.aload_n 1, 1) := by decide +kernel
theorem dL_law_610 : decode cL_law 610 = .ok (.aload_n 0, 1) := by decide +kernel
theorem dL_law_611 : decode cL_law 611 = .ok (.iload_n 3, 1) := by decide +kernel
theorem dL_law_612 : decode cL_law 612 = .ok (.iconst 1, 1) := by decide +kernel
theorem dL_law_613 : decode cL_law 613 = .ok (.iadd, 1) := by decide +kernel
theorem dL_law_614 : decode cL_law 614 = .ok (.iaload, 1) := by decide +kernel
theorem dL_law_615 : decode cL_law 615 = .ok (.invokevirtual 65, 3) := by decide +kernel
theorem dL_law_618 : decode cL_law 618 = .ok (.aload_n 2, 1) := by decide +kernel
theorem dL_law_619 : decode cL_law 619 = .ok (.aload_n 0, 1) := by decide +kernel
theorem dL_law_620 : decode cL_law 620 = .ok (.iload_n 3, 1) := by decide +kernel
theorem dL_law_621 : decode cL_law 621 = .ok (.iconst 1, 1) := by decide +kernel
theorem dL_law_622 : decode cL_law 622 = .ok (.iadd, 1) := by decide +kernel
theorem dL_law_623 : decode cL_law 623 = .ok (.iaload, 1) := by decide +kernel
theorem dL_law_624 : decode cL_law 624 = .ok (.invokevirtual 68, 3) := by decide +kernel
theorem dL_law_627 : decode cL_law 627 = .ok (.if_icmp .eq 1019, 3) := by decide +kernel
theorem dL_law_630 : decode cL_law 630 = .ok (.iconst 0, 1) := by decide +kernel
theorem dL_law_631 : decode cL_law 631 = .ok (.ireturn, 1) := by decide +kernel
theorem dL_law_632 : decode cL_law 632 = .ok (.aload_n 1, 1) := by decide +kernel
theorem dL_law_633 : decode cL_law 633 = .ok (.aload_n 0, 1) := by decide +kernel
theorem dL_law_634 : decode cL_law 634 = .ok (.iload_n 3, 1) := by decide +kernel
theorem dL_law_635 : decode cL_law 635 = .ok (.iconst 1, 1) := by decide +kernel
theorem dL_law_636 : decode cL_law 636 = .ok (.iadd, 1) := by decide +kernel
theorem dL_law_637 : decode cL_law 637 = .ok (.iaload, 1) := by decide +kernel
theorem dL_law_638 : decode cL_law 638 = .ok (.aload_n 0, 1) := by decide +kernel
theorem dL_law_639 : decode cL_law 639 = .ok (.iload_n 3, 1) := by decide +kernel
theorem dL_law_640 : decode cL_law 640 = .ok (.iconst 2, 1) := by decide +kernel
theorem dL_law_641 : decode cL_law 641 = .ok (.iadd, 1) := by decide +kernel
theorem dL_law_642 : decode cL_law 642 = .ok (.iaload, 1) := by decide +kernel
theorem dL_law_643 : decode cL_law 643 = .ok (.invokevirtual 69, 3) := by decide +kernel
theorem dL_law_646 : decode cL_law 646 = .ok (.aload_n 2, 1) := by decide +kernel
theorem dL_law_647 : decode cL_law 647 = .ok (.aload_n 0, 1) := by decide +kernel
theorem dL_law_648 : decode cL_law 648 = .ok (.iload_n 3, 1) := by decide +kernel
theorem dL_law_649 : decode cL_law 649 = .ok (.iconst 1, 1) := by decide +kernel
theorem dL_law_650 : decode cL_law 650 = .ok (.iadd, 1) := by decide +kernel
theorem dL_law_651 : decode cL_law 651 = .ok (.iaload, 1) := by decide +kernel
theorem dL_law_652 : decode cL_law 652 = .ok (.aload_n 0, 1) := by decide +kernel
theorem dL_law_653 : decode cL_law 653 = .ok (.iload_n 3, 1) := by decide +kernel
theorem dL_law_654 : decode cL_law 654 = .ok (.iconst 2, 1) := by decide +kernel
theorem dL_law_655 : decode cL_law 655 = .ok (.iadd, 1) := by decide +kernel
theorem dL_law_656 : decode cL_law 656 = .ok (.iaload, 1) := by decide +kernel
theorem dL_law_657 : decode cL_law 657 = .ok (.invokevirtual 72, 3) := by decide +kernel
theorem dL_law_660 : decode cL_law 660 = .ok (.if_icmp .eq 986, 3) := by decide +kernel
theorem dL_law_663 : decode cL_law 663 = .ok (.iconst 0, 1) := by decide +kernel
theorem dL_law_664 : decode cL_law 664 = .ok (.ireturn, 1) := by decide +kernel
theorem dL_law_665 : decode cL_law 665 = .ok (.aload_n 1, 1) := by decide +kernel
theorem dL_law_666 : decode cL_law 666 = .ok (.aload_n 0, 1) := by decide +kernel
theorem dL_law_667 : decode cL_law 667 = .ok (.iload_n 3, 1) := by decide +kernel
theorem dL_law_668 : decode cL_law 668 = .ok (.iconst 1, 1) := by decide +kernel
theorem dL_law_669 : decode cL_law 669 = .ok (.iadd, 1) := by decide +kernel
theorem dL_law_670 : decode cL_law 670 = .ok (.iaload, 1) := by decide +kernel
theorem dL_law_671 : decode cL_law 671 = .ok (.invokevirtual 73, 3) := by decide +kernel
theorem dL_law_674 : decode cL_law 674 = .ok (.aload_n 2, 1) := by decide +kernel
theorem dL_law_675 : decode cL_law 675 = .ok (.aload_n 0, 1) := by decide +kernel
theorem dL_law_676 : decode cL_law 676 = .ok (.iload_n 3, 1) := by decide +kernel
theorem dL_law_677 : decode cL_law 677 = .ok (.iconst 1, 1) := by decide +kernel
theorem dL_law_678 : decode cL_law 678 = .ok (.iadd, 1) := by decide +kernel
theorem dL_law_679 : decode cL_law 679 = .ok (.iaload, 1) := by decide +kernel
theorem dL_law_680 : decode cL_law 680 = .ok (.invokevirtual 77, 3) := by decide +kernel
theorem dL_law_683 : decode cL_law 683 = .ok (.lcmp, 1) := by decide +kernel
theorem dL_law_684 : decode cL_law 684 = .ok (.ifCond .eq 962, 3) := by decide +kernel
theorem dL_law_687 : decode cL_law 687 = .ok (.iconst 0, 1) := by decide +kernel
theorem dL_law_688 : decode cL_law 688 = .ok (.ireturn, 1) := by decide +kernel
theorem dL_law_689 : decode cL_law 689 = .ok (.aload_n 1, 1) := by decide +kernel
theorem dL_law_690 : decode cL_law 690 = .ok (.aload_n 0, 1) := by decide +kernel
theorem dL_law_691 : decode cL_law 691 = .ok (.iload_n 3, 1) := by decide +kernel
theorem dL_law_692 : decode cL_law 692 = .ok (.iconst 1, 1) := by decide +kernel
theorem dL_law_693 : decode cL_law 693 = .ok (.iadd, 1) := by decide +kernel
theorem dL_law_694 : decode cL_law 694 = .ok (.iaload, 1) := by decide +kernel
theorem dL_law_695 : decode cL_law 695 = .ok (.aload_n 0, 1) := by decide +kernel
theorem dL_law_696 : decode cL_law 696 = .ok (.iload_n 3, 1) := by decide +kernel
theorem dL_law_697 : decode cL_law 697 = .ok (.iconst 2, 1) := by decide +kernel
theorem dL_law_698 : decode cL_law 698 = .ok (.iadd, 1) := by decide +kernel
theorem dL_law_699 : decode cL_law 699 = .ok (.iaload, 1) := by decide +kernel
theorem dL_law_700 : decode cL_law 700 = .ok (.invokevirtual 78, 3) := by decide +kernel
theorem dL_law_703 : decode cL_law 703 = .ok (.aload_n 2, 1) := by decide +kernel
theorem dL_law_704 : decode cL_law 704 = .ok (.aload_n 0, 1) := by decide +kernel
theorem dL_law_705 : decode cL_law 705 = .ok (.iload_n 3, 1) := by decide +kernel
theorem dL_law_706 : decode cL_law 706 = .ok (.iconst 1, 1) := by decide +kernel
theorem dL_law_707 : decode cL_law 707 = .ok (.iadd, 1) := by decide +kernel
theorem dL_law_708 : decode cL_law 708 = .ok (.iaload, 1) := by decide +kernel
theorem dL_law_709 : decode cL_law 709 = .ok (.aload_n 0, 1) := by decide +kernel
theorem dL_law_710 : decode cL_law 710 = .ok (.iload_n 3, 1) := by decide +kernel
theorem dL_law_711 : decode cL_law 711 = .ok (.iconst 2, 1) := by decide +kernel
theorem dL_law_712 : decode cL_law 712 = .ok (.iadd, 1) := by decide +kernel
theorem dL_law_713 : decode cL_law 713 = .ok (.iaload, 1) := by decide +kernel
theorem dL_law_714 : decode cL_law 714 = .ok (.invokevirtual 81, 3) := by decide +kernel
theorem dL_law_717 : decode cL_law 717 = .ok (.if_icmp .eq 929, 3) := by decide +kernel
theorem dL_law_720 : decode cL_law 720 = .ok (.iconst 0, 1) := by decide +kernel
theorem dL_law_721 : decode cL_law 721 = .ok (.ireturn, 1) := by decide +kernel
theorem dL_law_722 : decode cL_law 722 = .ok (.aload_n 1, 1) := by decide +kernel
theorem dL_law_723 : decode cL_law 723 = .ok (.aload_n 0, 1) := by decide +kernel
theorem dL_law_724 : decode cL_law 724 = .ok (.iload_n 3, 1) := by decide +kernel
theorem dL_law_725 : decode cL_law 725 = .ok (.iconst 1, 1) := by decide +kernel
theorem dL_law_726 : decode cL_law 726 = .ok (.iadd, 1) := by decide +kernel
theorem dL_law_727 : decode cL_law 727 = .ok (.iaload, 1) := by decide +kernel
theorem dL_law_728 : decode cL_law 728 = .ok (.aload_n 0, 1) := by decide +kernel
theorem dL_law_729 : decode cL_law 729 = .ok (.iload_n 3, 1) := by decide +kernel
theorem dL_law_730 : decode cL_law 730 = .ok (.iconst 2, 1) := by decide +kernel
theorem dL_law_731 : decode cL_law 731 = .ok (.iadd, 1) := by decide +kernel
theorem dL_law_732 : decode cL_law 732 = .ok (.iaload, 1) := by decide +kernel
theorem dL_law_733 : decode cL_law 733 = .ok (.invokevirtual 82, 3) := by decide +kernel
theorem dL_law_736 : decode cL_law 736 = .ok (.aload_n 2, 1) := by decide +kernel
theorem dL_law_737 : decode cL_law 737 = .ok (.aload_n 0, 1) := by decide +kernel
theorem dL_law_738 : decode cL_law 738 = .ok (.iload_n 3, 1) := by decide +kernel
theorem dL_law_739 : decode cL_law 739 = .ok (.iconst 1, 1) := by decide +kernel
theorem dL_law_740 : decode cL_law 740 = .ok (.iadd, 1) := by decide +kernel
theorem dL_law_741 : decode cL_law 741 = .ok (.iaload, 1) := by decide +kernel
theorem dL_law_742 : decode cL_law 742 = .ok (.aload_n 0, 1) := by decide +kernel
theorem dL_law_743 : decode cL_law 743 = .ok (.iload_n 3, 1) := by decide +kernel
theorem dL_law_744 : decode cL_law 744 = .ok (.iconst 2, 1) := by decide +kernel
theorem dL_law_745 : decode cL_law 745 = .ok (.iadd, 1) := by decide +kernel
theorem dL_law_746 : decode cL_law 746 = .ok (.iaload, 1) := by decide +kernel
theorem dL_law_747 : decode cL_law 747 = .ok (.invokevirtual 85, 3) := by decide +kernel
theorem dL_law_750 : decode cL_law 750 = .ok (.if_icmp .eq 896, 3) := by decide +kernel
theorem dL_law_753 : decode cL_law 753 = .ok (.iconst 0, 1) := by decide +kernel
theorem dL_law_754 : decode cL_law 754 = .ok (.ireturn, 1) := by decide +kernel
theorem dL_law_755 : decode cL_law 755 = .ok (.aload_n 1, 1) := by decide +kernel
theorem dL_law_756 : decode cL_law 756 = .ok (.aload_n 0, 1) := by decide +kernel
theorem dL_law_757 : decode cL_law 757 = .ok (.iload_n 3, 1) := by decide +kernel
theorem dL_law_758 : decode cL_law 758 = .ok (.iconst 1, 1) := by decide +kernel
theorem dL_law_759 : decode cL_law 759 = .ok (.iadd, 1) := by decide +kernel
theorem dL_law_760 : decode cL_law 760 = .ok (.iaload, 1) := by decide +kernel
theorem dL_law_761 : decode cL_law 761 = .ok (.aload_n 0, 1) := by decide +kernel
theorem dL_law_762 : decode cL_law 762 = .ok (.iload_n 3, 1) := by decide +kernel
theorem dL_law_763 : decode cL_law 763 = .ok (.iconst 2, 1) := by decide +kernel
theorem dL_law_764 : decode cL_law 764 = .ok (.iadd, 1) := by decide +kernel
theorem dL_law_765 : decode cL_law 765 = .ok (.iaload, 1) := by decide +kernel
theorem dL_law_766 : decode cL_law 766 = .ok (.aload_n 0, 1) := by decide +kernel
theorem dL_law_767 : decode cL_law 767 = .ok (.iload_n 3, 1) := by decide +kernel
theorem dL_law_768 : decode cL_law 768 = .ok (.iconst 3, 1) := by decide +kernel
theorem dL_law_769 : decode cL_law 769 = .ok (.iadd, 1) := by decide +kernel
theorem dL_law_770 : decode cL_law 770 = .ok (.iaload, 1) := by decide +kernel
theorem dL_law_771 : decode cL_law 771 = .ok (.invokevirtual 86, 3) := by decide +kernel
theorem dL_law_774 : decode cL_law 774 = .ok (.aload_n 2, 1) := by decide +kernel
theorem dL_law_775 : decode cL_law 775 = .ok (.aload_n 0, 1) := by decide +kernel
theorem dL_law_776 : decode cL_law 776 = .ok (.iload_n 3, 1) := by decide +kernel
theorem dL_law_777 : decode cL_law 777 = .ok (.iconst 1, 1) := by decide +kernel
theorem dL_law_778 : decode cL_law 778 = .ok (.iadd, 1) := by decide +kernel
theorem dL_law_779 : decode cL_law 779 = .ok (.iaload, 1) := by decide +kernel
