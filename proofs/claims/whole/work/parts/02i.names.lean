theorem dX10_taken_8 : decode cX10_taken 8 = .ok (.iconst 0, 1) := by decide +kernel
theorem dX10_taken_9 : decode cX10_taken 9 = .ok (.bipush 6, 2) := by decide +kernel
theorem dX10_taken_11 : decode cX10_taken 11 = .ok (.invokestatic 97, 3) := by decide +kernel
theorem dX10_taken_14 : decode cX10_taken 14 = .ok (.ifCond .ne 16, 3) := by decide +kernel
theorem dX10_taken_17 : decode cX10_taken 17 = .ok (.iload_n 2, 1) := by decide +kernel
theorem dX10_taken_18 : decode cX10_taken 18 = .ok (.bipush 10, 2) := by decide +kernel
theorem dX10_taken_20 : decode cX10_taken 20 = .ok (.bipush 13, 2) := by decide +kernel
theorem dX10_taken_22 : decode cX10_taken 22 = .ok (.invokestatic 97, 3) := by decide +kernel
theorem dX10_taken_25 : decode cX10_taken 25 = .ok (.ifCond .ne 5, 3) := by decide +kernel
theorem dX10_taken_28 : decode cX10_taken 28 = .ok (.iconst (-1), 1) := by decide +kernel
theorem dX10_taken_29 : decode cX10_taken 29 = .ok (.ireturn, 1) := by decide +kernel
theorem dX10_taken_30 : decode cX10_taken 30 = .ok (.aload_n 0, 1) := by decide +kernel
theorem dX10_taken_31 : decode cX10_taken 31 = .ok (.iload_n 1, 1) := by decide +kernel
theorem dX10_taken_32 : decode cX10_taken 32 = .ok (.invokevirtual 371, 3) := by decide +kernel
theorem dX10_taken_35 : decode cX10_taken 35 = .ok (.istore_n 3, 1) := by decide +kernel
theorem dX10_taken_36 : decode cX10_taken 36 = .ok (.iload_n 3, 1) := by decide +kernel
theorem dX10_taken_37 : decode cX10_taken 37 = .ok (.ifCond .ge 6, 3) := by decide +kernel
theorem dX10_taken_40 : decode cX10_taken 40 = .ok (.bipush (-11), 2) := by decide +kernel
theorem dX10_taken_42 : decode cX10_taken 42 = .ok (.ireturn, 1) := by decide +kernel
theorem dX10_taken_43 : decode cX10_taken 43 = .ok (.iload_n 3, 1) := by decide +kernel
theorem dX10_taken_44 : decode cX10_taken 44 = .ok (.bipush 9, 2) := by decide +kernel
theorem dX10_taken_46 : decode cX10_taken 46 = .ok (.if_icmp .ne 28, 3) := by decide +kernel
theorem dX10_taken_49 : decode cX10_taken 49 = .ok (.iload_n 2, 1) := by decide +kernel
theorem dX10_taken_50 : decode cX10_taken 50 = .ok (.bipush 10, 2) := by decide +kernel
theorem dX10_taken_52 : decode cX10_taken 52 = .ok (.aload_n 0, 1) := by decide +kernel
theorem dX10_taken_53 : decode cX10_taken 53 = .ok (.getfield 82, 3) := by decide +kernel
theorem dX10_taken_56 : decode cX10_taken 56 = .ok (.iload_n 1, 1) := by decide +kernel
theorem dX10_taken_57 : decode cX10_taken 57 = .ok (.iaload, 1) := by decide +kernel
theorem dX10_taken_58 : decode cX10_taken 58 = .ok (.iadd, 1) := by decide +kernel
theorem dX10_taken_59 : decode cX10_taken 59 = .ok (.if_icmp .ne 12, 3) := by decide +kernel
theorem dX10_taken_62 : decode cX10_taken 62 = .ok (.aload_n 0, 1) := by decide +kernel
theorem dX10_taken_63 : decode cX10_taken 63 = .ok (.getfield 85, 3) := by decide +kernel
theorem dX10_taken_66 : decode cX10_taken 66 = .ok (.iload_n 1, 1) := by decide +kernel
theorem dX10_taken_67 : decode cX10_taken 67 = .ok (.iaload, 1) := by decide +kernel
theorem dX10_taken_68 : decode cX10_taken 68 = .ok (.goto 5, 3) := by decide +kernel
theorem dX10_taken_71 : decode cX10_taken 71 = .ok (.bipush (-13), 2) := by decide +kernel
theorem dX10_taken_73 : decode cX10_taken 73 = .ok (.ireturn, 1) := by decide +kernel
theorem dX10_taken_74 : decode cX10_taken 74 = .ok (.iload_n 2, 1) := by decide +kernel
theorem dX10_taken_75 : decode cX10_taken 75 = .ok (.bipush 10, 2) := by decide +kernel
theorem dX10_taken_77 : decode cX10_taken 77 = .ok (.if_icmp .ge 20, 3) := by decide +kernel
theorem dX10_taken_80 : decode cX10_taken 80 = .ok (.iload_n 3, 1) := by decide +kernel
theorem dX10_taken_81 : decode cX10_taken 81 = .ok (.iload_n 2, 1) := by decide +kernel
theorem dX10_taken_82 : decode cX10_taken 82 = .ok (.invokestatic 374, 3) := by decide +kernel
theorem dX10_taken_85 : decode cX10_taken 85 = .ok (.ifCond .eq 12, 3) := by decide +kernel
theorem dX10_taken_88 : decode cX10_taken 88 = .ok (.aload_n 0, 1) := by decide +kernel
theorem dX10_taken_89 : decode cX10_taken 89 = .ok (.getfield 82, 3) := by decide +kernel
theorem dX10_taken_92 : decode cX10_taken 92 = .ok (.iload_n 1, 1) := by decide +kernel
theorem dX10_taken_93 : decode cX10_taken 93 = .ok (.iaload, 1) := by decide +kernel
theorem dX10_taken_94 : decode cX10_taken 94 = .ok (.goto 5, 3) := by decide +kernel
theorem dX10_taken_97 : decode cX10_taken 97 = .ok (.bipush (-13), 2) := by decide +kernel
theorem dX10_taken_99 : decode cX10_taken 99 = .ok (.ireturn, 1) := by decide +kernel
theorem dX10_ran_0 : decode cX10_ran 0 = .ok (.aload_n 0, 1) := by decide +kernel
theorem dX10_ran_1 : decode cX10_ran 1 = .ok (.getfield 377, 3) := by decide +kernel
theorem dX10_ran_4 : decode cX10_ran 4 = .ok (.bipush 30, 2) := by decide +kernel
theorem dX10_ran_6 : decode cX10_ran 6 = .ok (.if_icmp .ge 23, 3) := by decide +kernel
theorem dX10_ran_9 : decode cX10_ran 9 = .ok (.aload_n 0, 1) := by decide +kernel
theorem dX10_ran_10 : decode cX10_ran 10 = .ok (.getfield 88, 3) := by decide +kernel
theorem dX10_ran_13 : decode cX10_ran 13 = .ok (.aload_n 0, 1) := by decide +kernel
theorem dX10_ran_14 : decode cX10_ran 14 = .ok (.getfield 377, 3) := by decide +kernel
theorem dX10_ran_17 : decode cX10_ran 17 = .ok (.iload_n 1, 1) := by decide +kernel
theorem dX10_ran_18 : decode cX10_ran 18 = .ok (.iastore, 1) := by decide +kernel
theorem dX10_ran_19 : decode cX10_ran 19 = .ok (.aload_n 0, 1) := by decide +kernel
theorem dX10_ran_20 : decode cX10_ran 20 = .ok (.dup, 1) := by decide +kernel
theorem dX10_ran_21 : decode cX10_ran 21 = .ok (.getfield 377, 3) := by decide +kernel
theorem dX10_ran_24 : decode cX10_ran 24 = .ok (.iconst 1, 1) := by decide +kernel
theorem dX10_ran_25 : decode cX10_ran 25 = .ok (.iadd, 1) := by decide +kernel
theorem dX10_ran_26 : decode cX10_ran 26 = .ok (.putfield 377, 3) := by decide +kernel
theorem dX10_ran_29 : decode cX10_ran 29 = .ok (.return_, 1) := by decide +kernel
set_option maxRecDepth 20000 in
theorem ggX10_plainParts_X10_ran : GoodIn wsX10_plainParts wsX10_ran := goodIn_r _ [6, 7, 8, 9, 10, 11, 12, 13, 14, 15, 16, 17, 18, 19, 20, 21, 22, 23, 24, 25, 26, 27, 28, 29, 30, 31, 32, 33, 34, 35, 36, 37, 38, 39, 40, 41, 42, 43, 44, 45, 46, 47, 48, 49, 50, 51, 52, 53, 54, 55, 56, 57, 58, 59, 60, 61, 62] (by decide +kernel) (by decide +kernel)
set_option maxRecDepth 20000 in
theorem gX10_plainParts_X10_ran : GoodIn wsX10_plainParts (wsV RX10 380 RX10 yX10_ran wsX10_ran) := goodIn_app (goodIn_of _ (by decide +kernel)) ggX10_plainParts_X10_ran
theorem dX10_plainParts_0 : decode cX10_plainParts 0 = .ok (.aload_n 0, 1) := by decide +kernel
theorem dX10_plainParts_1 : decode cX10_plainParts 1 = .ok (.bipush 10, 2) := by decide +kernel
theorem dX10_plainParts_3 : decode cX10_plainParts 3 = .ok (.invokevirtual 380, 3) := by decide +kernel
theorem dX10_plainParts_6 : decode cX10_plainParts 6 = .ok (.iload_n 1, 1) := by decide +kernel
theorem dX10_plainParts_7 : decode cX10_plainParts 7 = .ok (.aload_n 0, 1) := by decide +kernel
theorem dX10_plainParts_8 : decode cX10_plainParts 8 = .ok (.getfield 383, 3) := by decide +kernel
theorem dX10_plainParts_11 : decode cX10_plainParts 11 = .ok (.iadd, 1) := by decide +kernel
theorem dX10_plainParts_12 : decode cX10_plainParts 12 = .ok (.ireturn, 1) := by decide +kernel
set_option maxRecDepth 20000 in
theorem ggX10_tableParts_X10_ran : GoodIn wsX10_tableParts wsX10_ran := goodIn_r _ [5, 6, 7, 13, 14, 15, 16, 17, 18, 19, 20, 21, 22, 23, 24, 25, 26, 27, 28, 29, 30, 31, 32, 33, 34, 35, 36, 37, 38, 39, 40, 41, 42, 43, 44, 45, 46, 47, 48, 49, 50, 51, 52, 53, 54, 55, 56, 57, 58, 59, 60, 61, 62, 63, 64, 65, 66] (by decide +kernel) (by decide +kernel)
set_option maxRecDepth 20000 in
theorem gX10_tableParts_X10_ran : GoodIn wsX10_tableParts (wsV RX10 380 RX10 yX10_ran wsX10_ran) := goodIn_app (goodIn_of _ (by decide +kernel)) ggX10_tableParts_X10_ran
set_option maxRecDepth 20000 in
theorem ggX10_tableParts_X10_plainParts : GoodIn wsX10_tableParts wsX10_plainParts := goodIn_r _ [11, 12, 1, 2, 3, 4, 5, 6, 7, 13, 14, 15, 16, 17, 18, 19, 20, 21, 22, 23, 24, 25, 26, 27, 28, 29, 30, 31, 32, 33, 34, 35, 36, 37, 38, 39, 40, 41, 42, 43, 44, 45, 46, 47, 48, 49, 50, 51, 52, 53, 54, 55, 56, 57, 58, 59, 60, 61, 62, 63, 64, 65, 66] (by decide +kernel) (by decide +kernel)
set_option maxRecDepth 20000 in
theorem gX10_tableParts_X10_plainParts : GoodIn wsX10_tableParts (wsV RX10 386 RX10 yX10_plainParts wsX10_plainParts) := goodIn_app (goodIn_of _ (by decide +kernel)) ggX10_tableParts_X10_plainParts
theorem dX10_tableParts_0 : decode cX10_tableParts 0 = .ok (.aload_n 0, 1) := by decide +kernel
theorem dX10_tableParts_1 : decode cX10_tableParts 1 = .ok (.bipush 30, 2) := by decide +kernel
theorem dX10_tableParts_3 : decode cX10_tableParts 3 = .ok (.invokevirtual 380, 3) := by decide +kernel
theorem dX10_tableParts_6 : decode cX10_tableParts 6 = .ok (.aload_n 0, 1) := by decide +kernel
theorem dX10_tableParts_7 : decode cX10_tableParts 7 = .ok (.iload_n 1, 1) := by decide +kernel
theorem dX10_tableParts_8 : decode cX10_tableParts 8 = .ok (.invokevirtual 386, 3) := by decide +kernel
theorem dX10_tableParts_11 : decode cX10_tableParts 11 = .ok (.iconst 3, 1) := by decide +kernel
theorem dX10_tableParts_12 : decode cX10_tableParts 12 = .ok (.imul, 1) := by decide +kernel
theorem dX10_tableParts_13 : decode cX10_tableParts 13 = .ok (.ireturn, 1) := by decide +kernel
set_option maxRecDepth 20000 in
theorem ggX10_partsIt_X10_tableParts : GoodIn wsX10_partsIt wsX10_tableParts := goodIn_r _ [8, 9, 10, 11, 7, 12, 13, 14, 15, 16, 17, 18, 2, 19, 20, 21, 22, 23, 24, 25, 26, 27, 28, 29, 30, 31, 32, 33, 34, 35, 36, 37, 38, 39, 40, 41, 42, 43, 44, 45, 46, 47, 48, 49, 50, 51, 52, 53, 54, 55, 56, 57, 58, 59, 60, 61, 62, 63, 64, 65, 66, 67, 68, 69, 70, 71, 72] (by decide +kernel) (by decide +kernel)
set_option maxRecDepth 20000 in
theorem gX10_partsIt_X10_tableParts : GoodIn wsX10_partsIt (wsV RX10 392 RX10 yX10_tableParts wsX10_tableParts) := goodIn_app (goodIn_of _ (by decide +kernel)) ggX10_partsIt_X10_tableParts
set_option maxRecDepth 20000 in
theorem ggX10_partsIt_X10_ran : GoodIn wsX10_partsIt wsX10_ran := goodIn_r _ [12, 13, 14, 19, 20, 21, 22, 23, 24, 25, 26, 27, 28, 29, 30, 31, 32, 33, 34, 35, 36, 37, 38, 39, 40, 41, 42, 43, 44, 45, 46, 47, 48, 49, 50, 51, 52, 53, 54, 55, 56, 57, 58, 59, 60, 61, 62, 63, 64, 65, 66, 67, 68, 69, 70, 71, 72] (by decide +kernel) (by decide +kernel)
set_option maxRecDepth 20000 in
theorem gX10_partsIt_X10_ran : GoodIn wsX10_partsIt (wsV RX10 380 RX10 yX10_ran wsX10_ran) := goodIn_app (goodIn_of _ (by decide +kernel)) ggX10_partsIt_X10_ran
set_option maxRecDepth 20000 in
theorem ggX10_partsIt_X10_plainParts : GoodIn wsX10_partsIt wsX10_plainParts := goodIn_r _ [18, 2, 9, 10, 11, 7, 12, 13, 14, 19, 20, 21, 22, 23, 24, 25, 26, 27, 28, 29, 30, 31, 32, 33, 34, 35, 36, 37, 38, 39, 40, 41, 42, 43, 44, 45, 46, 47, 48, 49, 50, 51, 52, 53, 54, 55, 56, 57, 58, 59, 60, 61, 62, 63, 64, 65, 66, 67, 68, 69, 70, 71, 72] (by decide +kernel) (by decide +kernel)
set_option maxRecDepth 20000 in
theorem gX10_partsIt_X10_plainParts : GoodIn wsX10_partsIt (wsV RX10 386 RX10 yX10_plainParts wsX10_plainParts) := goodIn_app (goodIn_of _ (by decide +kernel)) ggX10_partsIt_X10_plainParts
theorem dX10_partsIt_0 : decode cX10_partsIt 0 = .ok (.aload_n 0, 1) := by decide +kernel
theorem dX10_partsIt_1 : decode cX10_partsIt 1 = .ok (.getfield 389, 3) := by decide +kernel
theorem dX10_partsIt_4 : decode cX10_partsIt 4 = .ok (.tableswitch 90 2 6 #[36, 42, 59, 42, 73], 36) := by decide +kernel
theorem dX10_partsIt_40 : decode cX10_partsIt 40 = .ok (.aload_n 0, 1) := by decide +kernel
theorem dX10_partsIt_41 : decode cX10_partsIt 41 = .ok (.iload_n 1, 1) := by decide +kernel
theorem dX10_partsIt_42 : decode cX10_partsIt 42 = .ok (.invokevirtual 392, 3) := by decide +kernel
theorem dX10_partsIt_45 : decode cX10_partsIt 45 = .ok (.ireturn, 1) := by decide +kernel
theorem dX10_partsIt_46 : decode cX10_partsIt 46 = .ok (.aload_n 0, 1) := by decide +kernel
theorem dX10_partsIt_47 : decode cX10_partsIt 47 = .ok (.bipush 41, 2) := by decide +kernel
theorem dX10_partsIt_49 : decode cX10_partsIt 49 = .ok (.invokevirtual 380, 3) := by decide +kernel
theorem dX10_partsIt_52 : decode cX10_partsIt 52 = .ok (.aload_n 0, 1) := by decide +kernel
theorem dX10_partsIt_53 : decode cX10_partsIt 53 = .ok (.iload_n 1, 1) := by decide +kernel
theorem dX10_partsIt_54 : decode cX10_partsIt 54 = .ok (.invokevirtual 392, 3) := by decide +kernel
theorem dX10_partsIt_57 : decode cX10_partsIt 57 = .ok (.aload_n 0, 1) := by decide +kernel
theorem dX10_partsIt_58 : decode cX10_partsIt 58 = .ok (.getfield 383, 3) := by decide +kernel
theorem dX10_partsIt_61 : decode cX10_partsIt 61 = .ok (.isub, 1) := by decide +kernel
theorem dX10_partsIt_62 : decode cX10_partsIt 62 = .ok (.ireturn, 1) := by decide +kernel
theorem dX10_partsIt_63 : decode cX10_partsIt 63 = .ok (.aload_n 0, 1) := by decide +kernel
theorem dX10_partsIt_64 : decode cX10_partsIt 64 = .ok (.bipush 50, 2) := by decide +kernel
theorem dX10_partsIt_66 : decode cX10_partsIt 66 = .ok (.invokevirtual 380, 3) := by decide +kernel
theorem dX10_partsIt_69 : decode cX10_partsIt 69 = .ok (.iconst 0, 1) := by decide +kernel
theorem dX10_partsIt_70 : decode cX10_partsIt 70 = .ok (.aload_n 0, 1) := by decide +kernel
theorem dX10_partsIt_71 : decode cX10_partsIt 71 = .ok (.iload_n 1, 1) := by decide +kernel
theorem dX10_partsIt_72 : decode cX10_partsIt 72 = .ok (.invokevirtual 386, 3) := by decide +kernel
theorem dX10_partsIt_75 : decode cX10_partsIt 75 = .ok (.isub, 1) := by decide +kernel
theorem dX10_partsIt_76 : decode cX10_partsIt 76 = .ok (.ireturn, 1) := by decide +kernel
theorem dX10_partsIt_77 : decode cX10_partsIt 77 = .ok (.aload_n 0, 1) := by decide +kernel
theorem dX10_partsIt_78 : decode cX10_partsIt 78 = .ok (.bipush 70, 2) := by decide +kernel
theorem dX10_partsIt_80 : decode cX10_partsIt 80 = .ok (.invokevirtual 380, 3) := by decide +kernel
theorem dX10_partsIt_83 : decode cX10_partsIt 83 = .ok (.aload_n 0, 1) := by decide +kernel
theorem dX10_partsIt_84 : decode cX10_partsIt 84 = .ok (.iload_n 1, 1) := by decide +kernel
theorem dX10_partsIt_85 : decode cX10_partsIt 85 = .ok (.invokevirtual 386, 3) := by decide +kernel
theorem dX10_partsIt_88 : decode cX10_partsIt 88 = .ok (.aload_n 0, 1) := by decide +kernel
theorem dX10_partsIt_89 : decode cX10_partsIt 89 = .ok (.getfield 395, 3) := by decide +kernel
theorem dX10_partsIt_92 : decode cX10_partsIt 92 = .ok (.ixor, 1) := by decide +kernel
theorem dX10_partsIt_93 : decode cX10_partsIt 93 = .ok (.ireturn, 1) := by decide +kernel
theorem dX10_partsIt_94 : decode cX10_partsIt 94 = .ok (.aload_n 0, 1) := by decide +kernel
theorem dX10_partsIt_95 : decode cX10_partsIt 95 = .ok (.iload_n 1, 1) := by decide +kernel
theorem dX10_partsIt_96 : decode cX10_partsIt 96 = .ok (.invokevirtual 386, 3) := by decide +kernel
theorem dX10_partsIt_99 : decode cX10_partsIt 99 = .ok (.ireturn, 1) := by decide +kernel
set_option maxRecDepth 20000 in
theorem ggX10_plainCosts_X10_ran : GoodIn wsX10_plainCosts wsX10_ran := goodIn_r _ [5, 6, 7, 23, 24, 25, 26, 27, 28, 29, 30, 31, 32, 33, 34, 35, 36, 37, 38, 39, 40, 41, 42, 43, 44, 45, 46, 47, 48, 49, 50, 51, 52, 53, 54, 55, 56, 57, 58, 59, 60, 61, 62, 63, 64, 65, 66, 67, 68, 69, 70, 71, 72, 73, 74, 75, 76] (by decide +kernel) (by decide +kernel)
set_option maxRecDepth 20000 in
theorem gX10_plainCosts_X10_ran : GoodIn wsX10_plainCosts (wsV RX10 380 RX10 yX10_ran wsX10_ran) := goodIn_app (goodIn_of _ (by decide +kernel)) ggX10_plainCosts_X10_ran
set_option maxRecDepth 20000 in
theorem ggX10_plainCosts_X10_partsIt : GoodIn wsX10_plainCosts wsX10_partsIt := goodIn_r _ [11, 12, 13, 14, 15, 16, 17, 4, 18, 1, 2, 3, 5, 6, 7, 19, 20, 21, 22, 23, 24, 25, 26, 27, 28, 29, 30, 31, 32, 33, 34, 35, 36, 37, 38, 39, 40, 41, 42, 43, 44, 45, 46, 47, 48, 49, 50, 51, 52, 53, 54, 55, 56, 57, 58, 59, 60, 61, 62, 63, 64, 65, 66, 67, 68, 69, 70, 71, 72, 73, 74, 75, 76] (by decide +kernel) (by decide +kernel)
set_option maxRecDepth 20000 in
theorem gX10_plainCosts_X10_partsIt : GoodIn wsX10_plainCosts (wsV RX10 398 RX10 yX10_partsIt wsX10_partsIt) := goodIn_app (goodIn_of _ (by decide +kernel)) ggX10_plainCosts_X10_partsIt
theorem dX10_plainCosts_0 : decode cX10_plainCosts 0 = .ok (.aload_n 0, 1) := by decide +kernel
theorem dX10_plainCosts_1 : decode cX10_plainCosts 1 = .ok (.bipush 11, 2) := by decide +kernel
theorem dX10_plainCosts_3 : decode cX10_plainCosts 3 = .ok (.invokevirtual 380, 3) := by decide +kernel
theorem dX10_plainCosts_6 : decode cX10_plainCosts 6 = .ok (.aload_n 0, 1) := by decide +kernel
theorem dX10_plainCosts_7 : decode cX10_plainCosts 7 = .ok (.iload_n 1, 1) := by decide +kernel
theorem dX10_plainCosts_8 : decode cX10_plainCosts 8 = .ok (.invokevirtual 398, 3) := by decide +kernel
theorem dX10_plainCosts_11 : decode cX10_plainCosts 11 = .ok (.iconst 2, 1) := by decide +kernel
theorem dX10_plainCosts_12 : decode cX10_plainCosts 12 = .ok (.imul, 1) := by decide +kernel
theorem dX10_plainCosts_13 : decode cX10_plainCosts 13 = .ok (.ireturn, 1) := by decide +kernel
set_option maxRecDepth 20000 in
theorem ggX10_tieCosts_X10_ran : GoodIn wsX10_tieCosts wsX10_ran := goodIn_r _ [6, 7, 8, 27, 28, 29, 30, 31, 32, 33, 34, 35, 36, 37, 38, 39, 40, 41, 42, 43, 44, 45, 46, 47, 48, 49, 50, 51, 52, 53, 54, 55, 56, 57, 58, 59, 60, 61, 62, 63, 64, 65, 66, 67, 68, 69, 70, 71, 72, 73, 74, 75, 76, 77, 78, 79, 80] (by decide +kernel) (by decide +kernel)
set_option maxRecDepth 20000 in
theorem gX10_tieCosts_X10_ran : GoodIn wsX10_tieCosts (wsV RX10 380 RX10 yX10_ran wsX10_ran) := goodIn_app (goodIn_of _ (by decide +kernel)) ggX10_tieCosts_X10_ran
set_option maxRecDepth 20000 in
theorem ggX10_tieCosts_X10_plainCosts : GoodIn wsX10_tieCosts wsX10_plainCosts := goodIn_r _ [12, 2, 3, 4, 5, 6, 7, 8, 13, 14, 15, 16, 17, 18, 1, 19, 20, 21, 22, 23, 24, 25, 26, 27, 28, 29, 30, 31, 32, 33, 34, 35, 36, 37, 38, 39, 40, 41, 42, 43, 44, 45, 46, 47, 48, 49, 50, 51, 52, 53, 54, 55, 56, 57, 58, 59, 60, 61, 62, 63, 64, 65, 66, 67, 68, 69, 70, 71, 72, 73, 74, 75, 76, 77, 78, 79, 80] (by decide +kernel) (by decide +kernel)
set_option maxRecDepth 20000 in
theorem gX10_tieCosts_X10_plainCosts : GoodIn wsX10_tieCosts (wsV RX10 401 RX10 yX10_plainCosts wsX10_plainCosts) := goodIn_app (goodIn_of _ (by decide +kernel)) ggX10_tieCosts_X10_plainCosts
theorem dX10_tieCosts_0 : decode cX10_tieCosts 0 = .ok (.aload_n 0, 1) := by decide +kernel
theorem dX10_tieCosts_1 : decode cX10_tieCosts 1 = .ok (.bipush 20, 2) := by decide +kernel
theorem dX10_tieCosts_3 : decode cX10_tieCosts 3 = .ok (.invokevirtual 380, 3) := by decide +kernel
theorem dX10_tieCosts_6 : decode cX10_tieCosts 6 = .ok (.aload_n 0, 1) := by decide +kernel
theorem dX10_tieCosts_7 : decode cX10_tieCosts 7 = .ok (.iload_n 1, 1) := by decide +kernel
theorem dX10_tieCosts_8 : decode cX10_tieCosts 8 = .ok (.invokevirtual 401, 3) := by decide +kernel
theorem dX10_tieCosts_11 : decode cX10_tieCosts 11 = .ok (.aload_n 0, 1) := by decide +kernel
theorem dX10_tieCosts_12 : decode cX10_tieCosts 12 = .ok (.getfield 395, 3) := by decide +kernel
theorem dX10_tieCosts_15 : decode cX10_tieCosts 15 = .ok (.isub, 1) := by decide +kernel
theorem dX10_tieCosts_16 : decode cX10_tieCosts 16 = .ok (.ireturn, 1) := by decide +kernel
set_option maxRecDepth 20000 in
theorem ggX10_costsIt_X10_tieCosts : GoodIn wsX10_costsIt wsX10_tieCosts := goodIn_r _ [8, 3, 9, 10, 11, 7, 12, 13, 14, 15, 16, 17, 18, 19, 20, 21, 22, 1, 2, 23, 24, 25, 26, 27, 28, 29, 30, 40, 41, 42, 43, 44, 45, 46, 47, 48, 49, 50, 51, 52, 53, 54, 55, 56, 57, 58, 59, 60, 61, 62, 63, 64, 65, 66, 67, 68, 69, 70, 71, 72, 73, 74, 75, 76, 77, 78, 79, 80, 81, 82, 83, 84, 85, 86, 87, 88, 89, 90, 91, 92, 93] (by decide +kernel) (by decide +kernel)
set_option maxRecDepth 20000 in
theorem gX10_costsIt_X10_tieCosts : GoodIn wsX10_costsIt (wsV RX10 404 RX10 yX10_tieCosts wsX10_tieCosts) := goodIn_app (goodIn_of _ (by decide +kernel)) ggX10_costsIt_X10_tieCosts
set_option maxRecDepth 20000 in
theorem ggX10_costsIt_X10_ran : GoodIn wsX10_costsIt wsX10_ran := goodIn_r _ [12, 13, 14, 40, 41, 42, 43, 44, 45, 46, 47, 48, 49, 50, 51, 52, 53, 54, 55, 56, 57, 58, 59, 60, 61, 62, 63, 64, 65, 66, 67, 68, 69, 70, 71, 72, 73, 74, 75, 76, 77, 78, 79, 80, 81, 82, 83, 84, 85, 86, 87, 88, 89, 90, 91, 92, 93] (by decide +kernel) (by decide +kernel)
set_option maxRecDepth 20000 in
theorem gX10_costsIt_X10_ran : GoodIn wsX10_costsIt (wsV RX10 380 RX10 yX10_ran wsX10_ran) := goodIn_app (goodIn_of _ (by decide +kernel)) ggX10_costsIt_X10_ran
set_option maxRecDepth 20000 in
theorem ggX10_costsIt_X10_partsIt : GoodIn wsX10_costsIt wsX10_partsIt := goodIn_r _ [22, 1, 2, 3, 23, 24, 25, 7, 26, 9, 10, 11, 12, 13, 14, 27, 28, 29, 30, 40, 41, 42, 43, 44, 45, 46, 47, 48, 49, 50, 51, 52, 53, 54, 55, 56, 57, 58, 59, 60, 61, 62, 63, 64, 65, 66, 67, 68, 69, 70, 71, 72, 73, 74, 75, 76, 77, 78, 79, 80, 81, 82, 83, 84, 85, 86, 87, 88, 89, 90, 91, 92, 93] (by decide +kernel) (by decide +kernel)
set_option maxRecDepth 20000 in
theorem gX10_costsIt_X10_partsIt : GoodIn wsX10_costsIt (wsV RX10 398 RX10 yX10_partsIt wsX10_partsIt) := goodIn_app (goodIn_of _ (by decide +kernel)) ggX10_costsIt_X10_partsIt
set_option maxRecDepth 20000 in
theorem ggX10_costsIt_X10_plainCosts : GoodIn wsX10_costsIt wsX10_plainCosts := goodIn_r _ [18, 9, 10, 11, 7, 12, 13, 14, 19, 20, 21, 22, 1, 2, 3, 23, 24, 25, 26, 27, 28, 29, 30, 40, 41, 42, 43, 44, 45, 46, 47, 48, 49, 50, 51, 52, 53, 54, 55, 56, 57, 58, 59, 60, 61, 62, 63, 64, 65, 66, 67, 68, 69, 70, 71, 72, 73, 74, 75, 76, 77, 78, 79, 80, 81, 82, 83, 84, 85, 86, 87, 88, 89, 90, 91, 92, 93] (by decide +kernel) (by decide +kernel)
set_option maxRecDepth 20000 in
theorem gX10_costsIt_X10_plainCosts : GoodIn wsX10_costsIt (wsV RX10 401 RX10 yX10_plainCosts wsX10_plainCosts) := goodIn_app (goodIn_of _ (by decide +kernel)) ggX10_costsIt_X10_plainCosts
set_option maxRecDepth 20000 in
theorem ggX10_costsIt_X10_sharesIt : GoodIn wsX10_costsIt wsX10_sharesIt := goodIn_r _ [34, 1, 35, 3, 9, 10, 11, 7, 12, 13, 14, 36, 37, 38, 39, 2, 19, 20, 21, 22, 23, 24, 25, 26, 27, 28, 29, 30, 40, 41, 42, 43, 44, 45, 46, 47, 48, 49, 50, 51, 52, 53, 54, 55, 56, 57, 58, 59, 60, 61, 62, 63, 64, 65, 66, 67, 68, 69, 70, 71, 72, 73, 74, 75, 76, 77, 78, 79, 80, 81, 82, 83, 84, 85, 86, 87, 88, 89, 90, 91, 92, 93] (by decide +kernel) (by decide +kernel)
set_option maxRecDepth 20000 in
theorem gX10_costsIt_X10_sharesIt : GoodIn wsX10_costsIt (wsV RX10 407 RX10 yX10_sharesIt wsX10_sharesIt) := goodIn_app (goodIn_of _ (by decide +kernel)) ggX10_costsIt_X10_sharesIt
theorem dX10_costsIt_0 : decode cX10_costsIt 0 = .ok (.iconst 0, 1) := by decide +kernel
theorem dX10_costsIt_1 : decode cX10_costsIt 1 = .ok (.istore_n 2, 1) := by decide +kernel
theorem dX10_costsIt_2 : decode cX10_costsIt 2 = .ok (.aload_n 0, 1) := by decide +kernel
theorem dX10_costsIt_3 : decode cX10_costsIt 3 = .ok (.getfield 389, 3) := by decide +kernel
theorem dX10_costsIt_6 : decode cX10_costsIt 6 = .ok (.tableswitch 86 1 5 #[34, 86, 86, 40, 63], 34) := by decide +kernel
theorem dX10_costsIt_40 : decode cX10_costsIt 40 = .ok (.aload_n 0, 1) := by decide +kernel
theorem dX10_costsIt_41 : decode cX10_costsIt 41 = .ok (.iload_n 1, 1) := by decide +kernel
theorem dX10_costsIt_42 : decode cX10_costsIt 42 = .ok (.invokevirtual 404, 3) := by decide +kernel
theorem dX10_costsIt_45 : decode cX10_costsIt 45 = .ok (.ireturn, 1) := by decide +kernel
theorem dX10_costsIt_46 : decode cX10_costsIt 46 = .ok (.aload_n 0, 1) := by decide +kernel
theorem dX10_costsIt_47 : decode cX10_costsIt 47 = .ok (.bipush 51, 2) := by decide +kernel
theorem dX10_costsIt_49 : decode cX10_costsIt 49 = .ok (.invokevirtual 380, 3) := by decide +kernel
theorem dX10_costsIt_52 : decode cX10_costsIt 52 = .ok (.aload_n 0, 1) := by decide +kernel
theorem dX10_costsIt_53 : decode cX10_costsIt 53 = .ok (.iload_n 1, 1) := by decide +kernel
theorem dX10_costsIt_54 : decode cX10_costsIt 54 = .ok (.invokevirtual 404, 3) := by decide +kernel
theorem dX10_costsIt_57 : decode cX10_costsIt 57 = .ok (.istore_n 2, 1) := by decide +kernel
theorem dX10_costsIt_58 : decode cX10_costsIt 58 = .ok (.iload_n 2, 1) := by decide +kernel
theorem dX10_costsIt_59 : decode cX10_costsIt 59 = .ok (.aload_n 0, 1) := by decide +kernel
theorem dX10_costsIt_60 : decode cX10_costsIt 60 = .ok (.aload_n 0, 1) := by decide +kernel
theorem dX10_costsIt_61 : decode cX10_costsIt 61 = .ok (.getfield 383, 3) := by decide +kernel
theorem dX10_costsIt_64 : decode cX10_costsIt 64 = .ok (.invokevirtual 398, 3) := by decide +kernel
theorem dX10_costsIt_67 : decode cX10_costsIt 67 = .ok (.iadd, 1) := by decide +kernel
theorem dX10_costsIt_68 : decode cX10_costsIt 68 = .ok (.ireturn, 1) := by decide +kernel
theorem dX10_costsIt_69 : decode cX10_costsIt 69 = .ok (.aload_n 0, 1) := by decide +kernel
theorem dX10_costsIt_70 : decode cX10_costsIt 70 = .ok (.bipush 60, 2) := by decide +kernel
theorem dX10_costsIt_72 : decode cX10_costsIt 72 = .ok (.invokevirtual 380, 3) := by decide +kernel
theorem dX10_costsIt_75 : decode cX10_costsIt 75 = .ok (.aload_n 0, 1) := by decide +kernel
theorem dX10_costsIt_76 : decode cX10_costsIt 76 = .ok (.iload_n 1, 1) := by decide +kernel
theorem dX10_costsIt_77 : decode cX10_costsIt 77 = .ok (.invokevirtual 401, 3) := by decide +kernel
theorem dX10_costsIt_80 : decode cX10_costsIt 80 = .ok (.istore_n 2, 1) := by decide +kernel
theorem dX10_costsIt_81 : decode cX10_costsIt 81 = .ok (.iload_n 2, 1) := by decide +kernel
theorem dX10_costsIt_82 : decode cX10_costsIt 82 = .ok (.aload_n 0, 1) := by decide +kernel
theorem dX10_costsIt_83 : decode cX10_costsIt 83 = .ok (.aload_n 0, 1) := by decide +kernel
theorem dX10_costsIt_84 : decode cX10_costsIt 84 = .ok (.getfield 395, 3) := by decide +kernel
theorem dX10_costsIt_87 : decode cX10_costsIt 87 = .ok (.invokevirtual 407, 3) := by decide +kernel
theorem dX10_costsIt_90 : decode cX10_costsIt 90 = .ok (.iadd, 1) := by decide +kernel
theorem dX10_costsIt_91 : decode cX10_costsIt 91 = .ok (.ireturn, 1) := by decide +kernel
theorem dX10_costsIt_92 : decode cX10_costsIt 92 = .ok (.aload_n 0, 1) := by decide +kernel
theorem dX10_costsIt_93 : decode cX10_costsIt 93 = .ok (.iload_n 1, 1) := by decide +kernel
theorem dX10_costsIt_94 : decode cX10_costsIt 94 = .ok (.invokevirtual 401, 3) := by decide +kernel
theorem dX10_costsIt_97 : decode cX10_costsIt 97 = .ok (.ireturn, 1) := by decide +kernel
set_option maxRecDepth 20000 in
theorem ggX10_plainShares_X10_ran : GoodIn wsX10_plainShares wsX10_ran := goodIn_r _ [8, 9, 10, 11, 12, 13, 14, 15, 16, 17, 18, 19, 20, 21, 22, 23, 24, 25, 26, 27, 28, 29, 30, 31, 32, 33, 34, 35, 36, 37, 38, 39, 40, 41, 42, 43, 44, 45, 46, 47, 48, 49, 50, 51, 52, 53, 54, 55, 56, 57, 58, 59, 60, 61, 62, 63, 64] (by decide +kernel) (by decide +kernel)
set_option maxRecDepth 20000 in
theorem gX10_plainShares_X10_ran : GoodIn wsX10_plainShares (wsV RX10 380 RX10 yX10_ran wsX10_ran) := goodIn_app (goodIn_of _ (by decide +kernel)) ggX10_plainShares_X10_ran
theorem dX10_plainShares_0 : decode cX10_plainShares 0 = .ok (.aload_n 0, 1) := by decide +kernel
theorem dX10_plainShares_1 : decode cX10_plainShares 1 = .ok (.bipush 12, 2) := by decide +kernel
theorem dX10_plainShares_3 : decode cX10_plainShares 3 = .ok (.invokevirtual 380, 3) := by decide +kernel
theorem dX10_plainShares_6 : decode cX10_plainShares 6 = .ok (.aload_n 0, 1) := by decide +kernel
theorem dX10_plainShares_7 : decode cX10_plainShares 7 = .ok (.getfield 395, 3) := by decide +kernel
theorem dX10_plainShares_10 : decode cX10_plainShares 10 = .ok (.aload_n 0, 1) := by decide +kernel
theorem dX10_plainShares_11 : decode cX10_plainShares 11 = .ok (.getfield 383, 3) := by decide +kernel
theorem dX10_plainShares_14 : decode cX10_plainShares 14 = .ok (.if_icmp .ne 10, 3) := by decide +kernel
theorem dX10_plainShares_17 : decode cX10_plainShares 17 = .ok (.aload_n 0, 1) := by decide +kernel
theorem dX10_plainShares_18 : decode cX10_plainShares 18 = .ok (.iconst 1, 1) := by decide +kernel
theorem dX10_plainShares_19 : decode cX10_plainShares 19 = .ok (.putfield 410, 3) := by decide +kernel
theorem dX10_plainShares_22 : decode cX10_plainShares 22 = .ok (.iconst 0, 1) := by decide +kernel
theorem dX10_plainShares_23 : decode cX10_plainShares 23 = .ok (.ireturn, 1) := by decide +kernel
theorem dX10_plainShares_24 : decode cX10_plainShares 24 = .ok (.iload_n 1, 1) := by decide +kernel
theorem dX10_plainShares_25 : decode cX10_plainShares 25 = .ok (.aload_n 0, 1) := by decide +kernel
theorem dX10_plainShares_26 : decode cX10_plainShares 26 = .ok (.getfield 395, 3) := by decide +kernel
theorem dX10_plainShares_29 : decode cX10_plainShares 29 = .ok (.aload_n 0, 1) := by decide +kernel
theorem dX10_plainShares_30 : decode cX10_plainShares 30 = .ok (.getfield 383, 3) := by decide +kernel
theorem dX10_plainShares_33 : decode cX10_plainShares 33 = .ok (.isub, 1) := by decide +kernel
theorem dX10_plainShares_34 : decode cX10_plainShares 34 = .ok (.idiv, 1) := by decide +kernel
theorem dX10_plainShares_35 : decode cX10_plainShares 35 = .ok (.ireturn, 1) := by decide +kernel
set_option maxRecDepth 20000 in
theorem ggX10_sharesIt_X10_ran : GoodIn wsX10_sharesIt wsX10_ran := goodIn_r _ [8, 9, 10, 28, 29, 30, 31, 32, 33, 34, 35, 36, 37, 38, 39, 40, 41, 42, 43, 44, 45, 46, 47, 48, 49, 50, 51, 52, 53, 54, 55, 56, 57, 58, 59, 60, 61, 62, 63, 64, 65, 66, 67, 68, 69, 70, 71, 72, 73, 74, 75, 76, 77, 78, 79, 80, 81] (by decide +kernel) (by decide +kernel)
set_option maxRecDepth 20000 in
theorem gX10_sharesIt_X10_ran : GoodIn wsX10_sharesIt (wsV RX10 380 RX10 yX10_ran wsX10_ran) := goodIn_app (goodIn_of _ (by decide +kernel)) ggX10_sharesIt_X10_ran
set_option maxRecDepth 20000 in
theorem ggX10_sharesIt_X10_plainShares : GoodIn wsX10_sharesIt wsX10_plainShares := goodIn_r _ [14, 3, 15, 2, 4, 5, 6, 7, 8, 9, 10, 28, 29, 30, 31, 32, 33, 34, 35, 36, 37, 38, 39, 40, 41, 42, 43, 44, 45, 46, 47, 48, 49, 50, 51, 52, 53, 54, 55, 56, 57, 58, 59, 60, 61, 62, 63, 64, 65, 66, 67, 68, 69, 70, 71, 72, 73, 74, 75, 76, 77, 78, 79, 80, 81] (by decide +kernel) (by decide +kernel)
set_option maxRecDepth 20000 in
theorem gX10_sharesIt_X10_plainShares : GoodIn wsX10_sharesIt (wsV RX10 413 RX10 yX10_plainShares wsX10_plainShares) := goodIn_app (goodIn_of _ (by decide +kernel)) ggX10_sharesIt_X10_plainShares
set_option maxRecDepth 20000 in
theorem ggX10_sharesIt_X10_partsIt : GoodIn wsX10_sharesIt wsX10_partsIt := goodIn_r _ [19, 1, 15, 3, 20, 21, 22, 7, 23, 4, 5, 6, 8, 9, 10, 24, 25, 26, 27, 28, 29, 30, 31, 32, 33, 34, 35, 36, 37, 38, 39, 40, 41, 42, 43, 44, 45, 46, 47, 48, 49, 50, 51, 52, 53, 54, 55, 56, 57, 58, 59, 60, 61, 62, 63, 64, 65, 66, 67, 68, 69, 70, 71, 72, 73, 74, 75, 76, 77, 78, 79, 80, 81] (by decide +kernel) (by decide +kernel)
set_option maxRecDepth 20000 in
theorem gX10_sharesIt_X10_partsIt : GoodIn wsX10_sharesIt (wsV RX10 398 RX10 yX10_partsIt wsX10_partsIt) := goodIn_app (goodIn_of _ (by decide +kernel)) ggX10_sharesIt_X10_partsIt
theorem dX10_sharesIt_0 : decode cX10_sharesIt 0 = .ok (.aload_n 0, 1) := by decide +kernel
theorem dX10_sharesIt_1 : decode cX10_sharesIt 1 = .ok (.getfield 389, 3) := by decide +kernel
theorem dX10_sharesIt_4 : decode cX10_sharesIt 4 = .ok (.iconst 3, 1) := by decide +kernel
theorem dX10_sharesIt_5 : decode cX10_sharesIt 5 = .ok (.if_icmp .eq 11, 3) := by decide +kernel
theorem dX10_sharesIt_8 : decode cX10_sharesIt 8 = .ok (.aload_n 0, 1) := by decide +kernel
theorem dX10_sharesIt_9 : decode cX10_sharesIt 9 = .ok (.getfield 389, 3) := by decide +kernel
theorem dX10_sharesIt_12 : decode cX10_sharesIt 12 = .ok (.iconst 5, 1) := by decide +kernel
theorem dX10_sharesIt_13 : decode cX10_sharesIt 13 = .ok (.if_icmp .ne 19, 3) := by decide +kernel
theorem dX10_sharesIt_16 : decode cX10_sharesIt 16 = .ok (.aload_n 0, 1) := by decide +kernel
theorem dX10_sharesIt_17 : decode cX10_sharesIt 17 = .ok (.bipush 40, 2) := by decide +kernel
theorem dX10_sharesIt_19 : decode cX10_sharesIt 19 = .ok (.invokevirtual 380, 3) := by decide +kernel
theorem dX10_sharesIt_22 : decode cX10_sharesIt 22 = .ok (.aload_n 0, 1) := by decide +kernel
theorem dX10_sharesIt_23 : decode cX10_sharesIt 23 = .ok (.iload_n 1, 1) := by decide +kernel
theorem dX10_sharesIt_24 : decode cX10_sharesIt 24 = .ok (.iconst 2, 1) := by decide +kernel
theorem dX10_sharesIt_25 : decode cX10_sharesIt 25 = .ok (.iadd, 1) := by decide +kernel
theorem dX10_sharesIt_26 : decode cX10_sharesIt 26 = .ok (.invokevirtual 413, 3) := by decide +kernel
theorem dX10_sharesIt_29 : decode cX10_sharesIt 29 = .ok (.iconst 1, 1) := by decide +kernel
theorem dX10_sharesIt_30 : decode cX10_sharesIt 30 = .ok (.ixor, 1) := by decide +kernel
theorem dX10_sharesIt_31 : decode cX10_sharesIt 31 = .ok (.ireturn, 1) := by decide +kernel
theorem dX10_sharesIt_32 : decode cX10_sharesIt 32 = .ok (.aload_n 0, 1) := by decide +kernel
theorem dX10_sharesIt_33 : decode cX10_sharesIt 33 = .ok (.getfield 389, 3) := by decide +kernel
theorem dX10_sharesIt_36 : decode cX10_sharesIt 36 = .ok (.bipush 6, 2) := by decide +kernel
theorem dX10_sharesIt_38 : decode cX10_sharesIt 38 = .ok (.if_icmp .ne 37, 3) := by decide +kernel
theorem dX10_sharesIt_41 : decode cX10_sharesIt 41 = .ok (.aload_n 0, 1) := by decide +kernel
theorem dX10_sharesIt_42 : decode cX10_sharesIt 42 = .ok (.bipush 71, 2) := by decide +kernel
theorem dX10_sharesIt_44 : decode cX10_sharesIt 44 = .ok (.invokevirtual 380, 3) := by decide +kernel
theorem dX10_sharesIt_47 : decode cX10_sharesIt 47 = .ok (.aload_n 0, 1) := by decide +kernel
theorem dX10_sharesIt_48 : decode cX10_sharesIt 48 = .ok (.iload_n 1, 1) := by decide +kernel
theorem dX10_sharesIt_49 : decode cX10_sharesIt 49 = .ok (.invokevirtual 413, 3) := by decide +kernel
theorem dX10_sharesIt_52 : decode cX10_sharesIt 52 = .ok (.istore_n 2, 1) := by decide +kernel
theorem dX10_sharesIt_53 : decode cX10_sharesIt 53 = .ok (.aload_n 0, 1) := by decide +kernel
theorem dX10_sharesIt_54 : decode cX10_sharesIt 54 = .ok (.getfield 410, 3) := by decide +kernel
theorem dX10_sharesIt_57 : decode cX10_sharesIt 57 = .ok (.ifCond .eq 7, 3) := by decide +kernel
theorem dX10_sharesIt_60 : decode cX10_sharesIt 60 = .ok (.iconst 0, 1) := by decide +kernel
theorem dX10_sharesIt_61 : decode cX10_sharesIt 61 = .ok (.goto 13, 3) := by decide +kernel
theorem dX10_sharesIt_64 : decode cX10_sharesIt 64 = .ok (.iload_n 2, 1) := by decide +kernel
theorem dX10_sharesIt_65 : decode cX10_sharesIt 65 = .ok (.aload_n 0, 1) := by decide +kernel
theorem dX10_sharesIt_66 : decode cX10_sharesIt 66 = .ok (.aload_n 0, 1) := by decide +kernel
theorem dX10_sharesIt_67 : decode cX10_sharesIt 67 = .ok (.getfield 395, 3) := by decide +kernel
theorem dX10_sharesIt_70 : decode cX10_sharesIt 70 = .ok (.invokevirtual 398, 3) := by decide +kernel
theorem dX10_sharesIt_73 : decode cX10_sharesIt 73 = .ok (.iadd, 1) := by decide +kernel
theorem dX10_sharesIt_74 : decode cX10_sharesIt 74 = .ok (.ireturn, 1) := by decide +kernel
theorem dX10_sharesIt_75 : decode cX10_sharesIt 75 = .ok (.aload_n 0, 1) := by decide +kernel
theorem dX10_sharesIt_76 : decode cX10_sharesIt 76 = .ok (.iload_n 1, 1) := by decide +kernel
theorem dX10_sharesIt_77 : decode cX10_sharesIt 77 = .ok (.invokevirtual 413, 3) := by decide +kernel
theorem dX10_sharesIt_80 : decode cX10_sharesIt 80 = .ok (.ireturn, 1) := by decide +kernel
set_option maxRecDepth 20000 in
theorem ggX10_plainTells_X10_ran : GoodIn wsX10_plainTells wsX10_ran := goodIn_r _ [6, 7, 8, 44, 45, 46, 47, 48, 49, 50, 51, 52, 53, 54, 55, 56, 57, 58, 59, 60, 61, 62, 63, 64, 65, 66, 67, 68, 69, 70, 71, 72, 73, 74, 75, 76, 77, 78, 79, 80, 81, 82, 83, 84, 85, 86, 87, 88, 89, 90, 91, 92, 93, 94, 95, 96, 97] (by decide +kernel) (by decide +kernel)
set_option maxRecDepth 20000 in
theorem gX10_plainTells_X10_ran : GoodIn wsX10_plainTells (wsV RX10 380 RX10 yX10_ran wsX10_ran) := goodIn_app (goodIn_of _ (by decide +kernel)) ggX10_plainTells_X10_ran
set_option maxRecDepth 20000 in
theorem ggX10_plainTells_X10_costsIt : GoodIn wsX10_plainTells wsX10_costsIt := goodIn_r _ [12, 13, 14, 1, 15, 16, 17, 5, 18, 2, 3, 4, 6, 7, 8, 19, 20, 21, 22, 23, 24, 25, 26, 27, 28, 29, 30, 31, 32, 33, 34, 35, 36, 37, 38, 39, 40, 41, 42, 43, 44, 45, 46, 47, 48, 49, 50, 51, 52, 53, 54, 55, 56, 57, 58, 59, 60, 61, 62, 63, 64, 65, 66, 67, 68, 69, 70, 71, 72, 73, 74, 75, 76, 77, 78, 79, 80, 81, 82, 83, 84, 85, 86, 87, 88, 89, 90, 91, 92, 93, 94, 95, 96, 97] (by decide +kernel) (by decide +kernel)
set_option maxRecDepth 20000 in
theorem gX10_plainTells_X10_costsIt : GoodIn wsX10_plainTells (wsV RX10 416 RX10 yX10_costsIt wsX10_costsIt) := goodIn_app (goodIn_of _ (by decide +kernel)) ggX10_plainTells_X10_costsIt
theorem dX10_plainTells_0 : decode cX10_plainTells 0 = .ok (.aload_n 0, 1) := by decide +kernel
theorem dX10_plainTells_1 : decode cX10_plainTells 1 = .ok (.bipush 13, 2) := by decide +kernel
theorem dX10_plainTells_3 : decode cX10_plainTells 3 = .ok (.invokevirtual 380, 3) := by decide +kernel
theorem dX10_plainTells_6 : decode cX10_plainTells 6 = .ok (.aload_n 0, 1) := by decide +kernel
theorem dX10_plainTells_7 : decode cX10_plainTells 7 = .ok (.iload_n 1, 1) := by decide +kernel
theorem dX10_plainTells_8 : decode cX10_plainTells 8 = .ok (.invokevirtual 416, 3) := by decide +kernel
theorem dX10_plainTells_11 : decode cX10_plainTells 11 = .ok (.aload_n 0, 1) := by decide +kernel
theorem dX10_plainTells_12 : decode cX10_plainTells 12 = .ok (.getfield 395, 3) := by decide +kernel
theorem dX10_plainTells_15 : decode cX10_plainTells 15 = .ok (.ixor, 1) := by decide +kernel
theorem dX10_plainTells_16 : decode cX10_plainTells 16 = .ok (.ireturn, 1) := by decide +kernel
set_option maxRecDepth 20000 in
theorem ggX10_tableTells_X10_ran : GoodIn wsX10_tableTells wsX10_ran := goodIn_r _ [7, 8, 9, 48, 49, 50, 51, 52, 53, 54, 55, 56, 57, 58, 59, 60, 61, 62, 63, 64, 65, 66, 67, 68, 69, 70, 71, 72, 73, 74, 75, 76, 77, 78, 79, 80, 81, 82, 83, 84, 85, 86, 87, 88, 89, 90, 91, 92, 93, 94, 95, 96, 97, 98, 99, 100, 101] (by decide +kernel) (by decide +kernel)
set_option maxRecDepth 20000 in
theorem gX10_tableTells_X10_ran : GoodIn wsX10_tableTells (wsV RX10 380 RX10 yX10_ran wsX10_ran) := goodIn_app (goodIn_of _ (by decide +kernel)) ggX10_tableTells_X10_ran
set_option maxRecDepth 20000 in
theorem ggX10_tableTells_X10_plainTells : GoodIn wsX10_tableTells wsX10_plainTells := goodIn_r _ [13, 14, 3, 4, 5, 6, 7, 8, 9, 15, 16, 17, 18, 19, 2, 20, 21, 22, 23, 24, 25, 26, 27, 28, 29, 30, 31, 32, 33, 34, 35, 36, 37, 38, 39, 40, 41, 42, 43, 1, 44, 45, 46, 47, 48, 49, 50, 51, 52, 53, 54, 55, 56, 57, 58, 59, 60, 61, 62, 63, 64, 65, 66, 67, 68, 69, 70, 71, 72, 73, 74, 75, 76, 77, 78, 79, 80, 81, 82, 83, 84, 85, 86, 87, 88, 89, 90, 91, 92, 93, 94, 95, 96, 97, 98, 99, 100, 101] (by decide +kernel) (by decide +kernel)
set_option maxRecDepth 20000 in
theorem gX10_tableTells_X10_plainTells : GoodIn wsX10_tableTells (wsV RX10 419 RX10 yX10_plainTells wsX10_plainTells) := goodIn_app (goodIn_of _ (by decide +kernel)) ggX10_tableTells_X10_plainTells
set_option maxRecDepth 20000 in
theorem ggX10_tableTells_X10_sharesIt : GoodIn wsX10_tableTells wsX10_sharesIt := goodIn_r _ [43, 19, 1, 14, 3, 4, 5, 6, 7, 8, 9, 44, 45, 46, 47, 2, 28, 29, 30, 31, 32, 33, 34, 35, 36, 37, 38, 39, 48, 49, 50, 51, 52, 53, 54, 55, 56, 57, 58, 59, 60, 61, 62, 63, 64, 65, 66, 67, 68, 69, 70, 71, 72, 73, 74, 75, 76, 77, 78, 79, 80, 81, 82, 83, 84, 85, 86, 87, 88, 89, 90, 91, 92, 93, 94, 95, 96, 97, 98, 99, 100, 101] (by decide +kernel) (by decide +kernel)
set_option maxRecDepth 20000 in
theorem gX10_tableTells_X10_sharesIt : GoodIn wsX10_tableTells (wsV RX10 407 RX10 yX10_sharesIt wsX10_sharesIt) := goodIn_app (goodIn_of _ (by decide +kernel)) ggX10_tableTells_X10_sharesIt
theorem dX10_tableTells_0 : decode cX10_tableTells 0 = .ok (.aload_n 0, 1) := by decide +kernel
theorem dX10_tableTells_1 : decode cX10_tableTells 1 = .ok (.bipush 31, 2) := by decide +kernel
theorem dX10_tableTells_3 : decode cX10_tableTells 3 = .ok (.invokevirtual 380, 3) := by decide +kernel
theorem dX10_tableTells_6 : decode cX10_tableTells 6 = .ok (.aload_n 0, 1) := by decide +kernel
theorem dX10_tableTells_7 : decode cX10_tableTells 7 = .ok (.iload_n 1, 1) := by decide +kernel
theorem dX10_tableTells_8 : decode cX10_tableTells 8 = .ok (.invokevirtual 419, 3) := by decide +kernel
theorem dX10_tableTells_11 : decode cX10_tableTells 11 = .ok (.istore_n 2, 1) := by decide +kernel
theorem dX10_tableTells_12 : decode cX10_tableTells 12 = .ok (.aload_n 0, 1) := by decide +kernel
theorem dX10_tableTells_13 : decode cX10_tableTells 13 = .ok (.getfield 410, 3) := by decide +kernel
theorem dX10_tableTells_16 : decode cX10_tableTells 16 = .ok (.ifCond .eq 7, 3) := by decide +kernel
theorem dX10_tableTells_19 : decode cX10_tableTells 19 = .ok (.iconst 0, 1) := by decide +kernel
theorem dX10_tableTells_20 : decode cX10_tableTells 20 = .ok (.goto 13, 3) := by decide +kernel
theorem dX10_tableTells_23 : decode cX10_tableTells 23 = .ok (.iload_n 2, 1) := by decide +kernel
theorem dX10_tableTells_24 : decode cX10_tableTells 24 = .ok (.aload_n 0, 1) := by decide +kernel
theorem dX10_tableTells_25 : decode cX10_tableTells 25 = .ok (.aload_n 0, 1) := by decide +kernel
theorem dX10_tableTells_26 : decode cX10_tableTells 26 = .ok (.getfield 383, 3) := by decide +kernel
theorem dX10_tableTells_29 : decode cX10_tableTells 29 = .ok (.invokevirtual 407, 3) := by decide +kernel
theorem dX10_tableTells_32 : decode cX10_tableTells 32 = .ok (.iadd, 1) := by decide +kernel
theorem dX10_tableTells_33 : decode cX10_tableTells 33 = .ok (.ireturn, 1) := by decide +kernel
set_option maxRecDepth 20000 in
theorem ggX10_tellsIt_X10_ran : GoodIn wsX10_tellsIt wsX10_ran := goodIn_r _ [6, 7, 8, 52, 53, 54, 55, 56, 57, 58, 59, 60, 61, 62, 63, 64, 65, 66, 67, 68, 69, 70, 71, 72, 73, 74, 75, 76, 77, 78, 79, 80, 81, 82, 83, 84, 85, 86, 87, 88, 89, 90, 91, 92, 93, 94, 95, 96, 97, 98, 99, 100, 101, 102, 103, 104, 105] (by decide +kernel) (by decide +kernel)
set_option maxRecDepth 20000 in
theorem gX10_tellsIt_X10_ran : GoodIn wsX10_tellsIt (wsV RX10 380 RX10 yX10_ran wsX10_ran) := goodIn_app (goodIn_of _ (by decide +kernel)) ggX10_tellsIt_X10_ran
set_option maxRecDepth 20000 in
theorem ggX10_tellsIt_X10_tableTells : GoodIn wsX10_tellsIt wsX10_tableTells := goodIn_r _ [12, 13, 14, 2, 3, 4, 5, 6, 7, 8, 15, 16, 17, 18, 19, 20, 21, 22, 23, 1, 24, 25, 26, 27, 28, 29, 30, 31, 32, 33, 34, 35, 36, 37, 38, 39, 40, 41, 42, 43, 44, 45, 46, 47, 48, 49, 50, 51, 52, 53, 54, 55, 56, 57, 58, 59, 60, 61, 62, 63, 64, 65, 66, 67, 68, 69, 70, 71, 72, 73, 74, 75, 76, 77, 78, 79, 80, 81, 82, 83, 84, 85, 86, 87, 88, 89, 90, 91, 92, 93, 94, 95, 96, 97, 98, 99, 100, 101, 102, 103, 104, 105] (by decide +kernel) (by decide +kernel)
set_option maxRecDepth 20000 in
theorem gX10_tellsIt_X10_tableTells : GoodIn wsX10_tellsIt (wsV RX10 422 RX10 yX10_tableTells wsX10_tableTells) := goodIn_app (goodIn_of _ (by decide +kernel)) ggX10_tellsIt_X10_tableTells
set_option maxRecDepth 20000 in
theorem ggX10_tellsIt_X10_plainTells : GoodIn wsX10_tellsIt wsX10_plainTells := goodIn_r _ [18, 19, 2, 3, 4, 5, 6, 7, 8, 20, 21, 22, 23, 1, 14, 24, 25, 26, 27, 28, 29, 30, 31, 32, 33, 34, 35, 36, 37, 38, 39, 40, 41, 42, 43, 44, 45, 46, 47, 13, 48, 49, 50, 51, 52, 53, 54, 55, 56, 57, 58, 59, 60, 61, 62, 63, 64, 65, 66, 67, 68, 69, 70, 71, 72, 73, 74, 75, 76, 77, 78, 79, 80, 81, 82, 83, 84, 85, 86, 87, 88, 89, 90, 91, 92, 93, 94, 95, 96, 97, 98, 99, 100, 101, 102, 103, 104, 105] (by decide +kernel) (by decide +kernel)
set_option maxRecDepth 20000 in
theorem gX10_tellsIt_X10_plainTells : GoodIn wsX10_tellsIt (wsV RX10 419 RX10 yX10_plainTells wsX10_plainTells) := goodIn_app (goodIn_of _ (by decide +kernel)) ggX10_tellsIt_X10_plainTells
theorem dX10_tellsIt_0 : decode cX10_tellsIt 0 = .ok (.aload_n 0, 1) := by decide +kernel
theorem dX10_tellsIt_1 : decode cX10_tellsIt 1 = .ok (.getfield 389, 3) := by decide +kernel
theorem dX10_tellsIt_4 : decode cX10_tellsIt 4 = .ok (.iconst 5, 1) := by decide +kernel
theorem dX10_tellsIt_5 : decode cX10_tellsIt 5 = .ok (.if_icmp .ne 17, 3) := by decide +kernel
theorem dX10_tellsIt_8 : decode cX10_tellsIt 8 = .ok (.aload_n 0, 1) := by decide +kernel
theorem dX10_tellsIt_9 : decode cX10_tellsIt 9 = .ok (.bipush 61, 2) := by decide +kernel
theorem dX10_tellsIt_11 : decode cX10_tellsIt 11 = .ok (.invokevirtual 380, 3) := by decide +kernel
theorem dX10_tellsIt_14 : decode cX10_tellsIt 14 = .ok (.aload_n 0, 1) := by decide +kernel
theorem dX10_tellsIt_15 : decode cX10_tellsIt 15 = .ok (.iload_n 1, 1) := by decide +kernel
theorem dX10_tellsIt_16 : decode cX10_tellsIt 16 = .ok (.invokevirtual 422, 3) := by decide +kernel
theorem dX10_tellsIt_19 : decode cX10_tellsIt 19 = .ok (.iconst 2, 1) := by decide +kernel
theorem dX10_tellsIt_20 : decode cX10_tellsIt 20 = .ok (.imul, 1) := by decide +kernel
theorem dX10_tellsIt_21 : decode cX10_tellsIt 21 = .ok (.ireturn, 1) := by decide +kernel
theorem dX10_tellsIt_22 : decode cX10_tellsIt 22 = .ok (.aload_n 0, 1) := by decide +kernel
theorem dX10_tellsIt_23 : decode cX10_tellsIt 23 = .ok (.getfield 389, 3) := by decide +kernel
theorem dX10_tellsIt_26 : decode cX10_tellsIt 26 = .ok (.iconst 2, 1) := by decide +kernel
theorem dX10_tellsIt_27 : decode cX10_tellsIt 27 = .ok (.if_icmp .eq 11, 3) := by decide +kernel
theorem dX10_tellsIt_30 : decode cX10_tellsIt 30 = .ok (.aload_n 0, 1) := by decide +kernel
theorem dX10_tellsIt_31 : decode cX10_tellsIt 31 = .ok (.getfield 389, 3) := by decide +kernel
theorem dX10_tellsIt_34 : decode cX10_tellsIt 34 = .ok (.iconst 3, 1) := by decide +kernel
theorem dX10_tellsIt_35 : decode cX10_tellsIt 35 = .ok (.if_icmp .ne 11, 3) := by decide +kernel
theorem dX10_tellsIt_38 : decode cX10_tellsIt 38 = .ok (.aload_n 0, 1) := by decide +kernel
theorem dX10_tellsIt_39 : decode cX10_tellsIt 39 = .ok (.iload_n 1, 1) := by decide +kernel
theorem dX10_tellsIt_40 : decode cX10_tellsIt 40 = .ok (.invokevirtual 422, 3) := by decide +kernel
theorem dX10_tellsIt_43 : decode cX10_tellsIt 43 = .ok (.goto 8, 3) := by decide +kernel
theorem dX10_tellsIt_46 : decode cX10_tellsIt 46 = .ok (.aload_n 0, 1) := by decide +kernel
theorem dX10_tellsIt_47 : decode cX10_tellsIt 47 = .ok (.iload_n 1, 1) := by decide +kernel
theorem dX10_tellsIt_48 : decode cX10_tellsIt 48 = .ok (.invokevirtual 419, 3) := by decide +kernel
theorem dX10_tellsIt_51 : decode cX10_tellsIt 51 = .ok (.ireturn, 1) := by decide +kernel
set_option maxRecDepth 20000 in
theorem ggX10_act_X10_isShelf : GoodIn wsX10_act wsX10_isShelf := goodIn_r _ [11, 12, 13, 10, 14] (by decide +kernel) (by decide +kernel)
set_option maxRecDepth 20000 in
theorem gX10_act_X10_isShelf : GoodIn wsX10_act (va_wsS RX10 362 yX10_isShelf wsX10_isShelf) := goodIn_app (goodIn_of _ (by decide +kernel)) ggX10_act_X10_isShelf
set_option maxRecDepth 20000 in
theorem ggX10_act_X10_kindOn : GoodIn wsX10_act wsX10_kindOn := goodIn_r _ [18, 19, 3, 5, 20, 21, 22, 10, 23, 24, 12, 13, 14, 74, 75, 76, 77, 78, 79, 80, 81, 82, 83, 84, 85, 86, 87, 88, 89, 90, 91, 92, 93, 94, 95, 96, 97, 98, 99, 100, 101, 102, 103, 104, 105, 106, 107, 108, 109, 110, 111, 112, 113, 114, 115, 116, 117, 118, 119, 120, 121, 122, 123, 124, 125, 126, 127] (by decide +kernel) (by decide +kernel)
set_option maxRecDepth 20000 in
theorem gX10_act_X10_kindOn : GoodIn wsX10_act (wsV RX10 371 RX10 yX10_kindOn wsX10_kindOn) := goodIn_app (goodIn_of _ (by decide +kernel)) ggX10_act_X10_kindOn
set_option maxRecDepth 20000 in
theorem ggX10_act_X10_in : GoodIn wsX10_act wsX10_in := goodIn_r _ [14] (by decide +kernel) (by decide +kernel)
set_option maxRecDepth 20000 in
theorem gX10_act_X10_in : GoodIn wsX10_act (va_wsS RX10 97 yX10_in wsX10_in) := goodIn_app (goodIn_of _ (by decide +kernel)) ggX10_act_X10_in
set_option maxRecDepth 20000 in
theorem ggX10_act_X10_partsIt : GoodIn wsX10_act wsX10_partsIt := goodIn_r _ [28, 2, 4, 6, 29, 30, 31, 10, 32, 33, 34, 35, 36, 1, 37, 38, 39, 40, 41, 74, 75, 76, 77, 78, 79, 80, 81, 82, 83, 84, 85, 86, 87, 88, 89, 90, 91, 92, 93, 94, 95, 96, 97, 98, 99, 100, 101, 102, 103, 104, 105, 106, 107, 108, 109, 110, 111, 112, 113, 114, 115, 116, 117, 118, 119, 120, 121, 122, 123, 124, 125, 126, 127] (by decide +kernel) (by decide +kernel)
set_option maxRecDepth 20000 in
theorem gX10_act_X10_partsIt : GoodIn wsX10_act (wsV RX10 398 RX10 yX10_partsIt wsX10_partsIt) := goodIn_app (goodIn_of _ (by decide +kernel)) ggX10_act_X10_partsIt
set_option maxRecDepth 20000 in
theorem ggX10_act_X10_costsIt : GoodIn wsX10_act wsX10_costsIt := goodIn_r _ [45, 2, 4, 6, 46, 47, 48, 10, 49, 33, 34, 35, 36, 1, 37, 50, 51, 52, 53, 25, 26, 27, 28, 29, 30, 31, 32, 38, 39, 40, 41, 54, 55, 56, 57, 7, 58, 59, 60, 61, 74, 75, 76, 77, 78, 79, 80, 81, 82, 83, 84, 85, 86, 87, 88, 89, 90, 91, 92, 93, 94, 95, 96, 97, 98, 99, 100, 101, 102, 103, 104, 105, 106, 107, 108, 109, 110, 111, 112, 113, 114, 115, 116, 117, 118, 119, 120, 121, 122, 123, 124, 125, 126, 127] (by decide +kernel) (by decide +kernel)
set_option maxRecDepth 20000 in
theorem gX10_act_X10_costsIt : GoodIn wsX10_act (wsV RX10 416 RX10 yX10_costsIt wsX10_costsIt) := goodIn_app (goodIn_of _ (by decide +kernel)) ggX10_act_X10_costsIt
set_option maxRecDepth 20000 in
theorem ggX10_act_X10_sharesIt : GoodIn wsX10_act wsX10_sharesIt := goodIn_r _ [57, 2, 7, 6, 33, 34, 35, 10, 36, 1, 37, 58, 59, 60, 61, 4, 25, 26, 27, 28, 29, 30, 31, 32, 38, 39, 40, 41, 74, 75, 76, 77, 78, 79, 80, 81, 82, 83, 84, 85, 86, 87, 88, 89, 90, 91, 92, 93, 94, 95, 96, 97, 98, 99, 100, 101, 102, 103, 104, 105, 106, 107, 108, 109, 110, 111, 112, 113, 114, 115, 116, 117, 118, 119, 120, 121, 122, 123, 124, 125, 126, 127] (by decide +kernel) (by decide +kernel)
set_option maxRecDepth 20000 in
theorem gX10_act_X10_sharesIt : GoodIn wsX10_act (wsV RX10 407 RX10 yX10_sharesIt wsX10_sharesIt) := goodIn_app (goodIn_of _ (by decide +kernel)) ggX10_act_X10_sharesIt
set_option maxRecDepth 20000 in
theorem ggX10_act_X10_tellsIt : GoodIn wsX10_act wsX10_tellsIt := goodIn_r _ [65, 2, 33, 34, 35, 10, 36, 1, 37, 66, 67, 68, 69, 7, 4, 70, 71, 72, 73, 6, 42, 43, 44, 45, 46, 47, 48, 49, 50, 51, 52, 53, 25, 26, 27, 28, 29, 30, 31, 32, 38, 39, 40, 41, 54, 55, 56, 57, 58, 59, 60, 61, 74, 75, 76, 77, 78, 79, 80, 81, 82, 83, 84, 85, 86, 87, 88, 89, 90, 91, 92, 93, 94, 95, 96, 97, 98, 99, 100, 101, 102, 103, 104, 105, 106, 107, 108, 109, 110, 111, 112, 113, 114, 115, 116, 117, 118, 119, 120, 121, 122, 123, 124, 125, 126, 127] (by decide +kernel) (by decide +kernel)
set_option maxRecDepth 20000 in
theorem gX10_act_X10_tellsIt : GoodIn wsX10_act (wsV RX10 425 RX10 yX10_tellsIt wsX10_tellsIt) := goodIn_app (goodIn_of _ (by decide +kernel)) ggX10_act_X10_tellsIt
theorem dX10_act_0 : decode cX10_act 0 = .ok (.aload_n 0, 1) := by decide +kernel
theorem dX10_act_1 : decode cX10_act 1 = .ok (.iconst 0, 1) := by decide +kernel
theorem dX10_act_2 : decode cX10_act 2 = .ok (.putfield 377, 3) := by decide +kernel
theorem dX10_act_5 : decode cX10_act 5 = .ok (.iload_n 1, 1) := by decide +kernel
theorem dX10_act_6 : decode cX10_act 6 = .ok (.invokestatic 362, 3) := by decide +kernel
theorem dX10_act_9 : decode cX10_act 9 = .ok (.ifCond .eq 11, 3) := by decide +kernel
theorem dX10_act_12 : decode cX10_act 12 = .ok (.aload_n 0, 1) := by decide +kernel
theorem dX10_act_13 : decode cX10_act 13 = .ok (.iload_n 1, 1) := by decide +kernel
theorem dX10_act_14 : decode cX10_act 14 = .ok (.invokevirtual 371, 3) := by decide +kernel
theorem dX10_act_17 : decode cX10_act 17 = .ok (.goto 4, 3) := by decide +kernel
theorem dX10_act_20 : decode cX10_act 20 = .ok (.iconst (-1), 1) := by decide +kernel
theorem dX10_act_21 : decode cX10_act 21 = .ok (.istore 4, 2) := by decide +kernel
theorem dX10_act_23 : decode cX10_act 23 = .ok (.iload_n 2, 1) := by decide +kernel
theorem dX10_act_24 : decode cX10_act 24 = .ok (.iconst 0, 1) := by decide +kernel
theorem dX10_act_25 : decode cX10_act 25 = .ok (.iconst 3, 1) := by decide +kernel
theorem dX10_act_26 : decode cX10_act 26 = .ok (.invokestatic 97, 3) := by decide +kernel
theorem dX10_act_29 : decode cX10_act 29 = .ok (.ifCond .eq 14, 3) := by decide +kernel
theorem dX10_act_32 : decode cX10_act 32 = .ok (.iload 4, 2) := by decide +kernel
theorem dX10_act_34 : decode cX10_act 34 = .ok (.iconst 1, 1) := by decide +kernel
theorem dX10_act_35 : decode cX10_act 35 = .ok (.bipush 6, 2) := by decide +kernel
theorem dX10_act_37 : decode cX10_act 37 = .ok (.invokestatic 97, 3) := by decide +kernel
theorem dX10_act_40 : decode cX10_act 40 = .ok (.ifCond .ne 5, 3) := by decide +kernel
theorem dX10_act_43 : decode cX10_act 43 = .ok (.iconst 0, 1) := by decide +kernel
theorem dX10_act_44 : decode cX10_act 44 = .ok (.ireturn, 1) := by decide +kernel
theorem dX10_act_45 : decode cX10_act 45 = .ok (.aload_n 0, 1) := by decide +kernel
theorem dX10_act_46 : decode cX10_act 46 = .ok (.iload 4, 2) := by decide +kernel
theorem dX10_act_48 : decode cX10_act 48 = .ok (.putfield 389, 3) := by decide +kernel
theorem dX10_act_51 : decode cX10_act 51 = .ok (.aload_n 0, 1) := by decide +kernel
theorem dX10_act_52 : decode cX10_act 52 = .ok (.aload_n 0, 1) := by decide +kernel
theorem dX10_act_53 : decode cX10_act 53 = .ok (.getfield 82, 3) := by decide +kernel
theorem dX10_act_56 : decode cX10_act 56 = .ok (.iload_n 1, 1) := by decide +kernel
theorem dX10_act_57 : decode cX10_act 57 = .ok (.iaload, 1) := by decide +kernel
theorem dX10_act_58 : decode cX10_act 58 = .ok (.putfield 383, 3) := by decide +kernel
theorem dX10_act_61 : decode cX10_act 61 = .ok (.aload_n 0, 1) := by decide +kernel
theorem dX10_act_62 : decode cX10_act 62 = .ok (.aload_n 0, 1) := by decide +kernel
theorem dX10_act_63 : decode cX10_act 63 = .ok (.getfield 20, 3) := by decide +kernel
theorem dX10_act_66 : decode cX10_act 66 = .ok (.iconst 3, 1) := by decide +kernel
theorem dX10_act_67 : decode cX10_act 67 = .ok (.aload_n 0, 1) := by decide +kernel
theorem dX10_act_68 : decode cX10_act 68 = .ok (.getfield 383, 3) := by decide +kernel
theorem dX10_act_71 : decode cX10_act 71 = .ok (.imul, 1) := by decide +kernel
theorem dX10_act_72 : decode cX10_act 72 = .ok (.iconst 1, 1) := by decide +kernel
theorem dX10_act_73 : decode cX10_act 73 = .ok (.iadd, 1) := by decide +kernel
theorem dX10_act_74 : decode cX10_act 74 = .ok (.iaload, 1) := by decide +kernel
theorem dX10_act_75 : decode cX10_act 75 = .ok (.putfield 395, 3) := by decide +kernel
theorem dX10_act_78 : decode cX10_act 78 = .ok (.aload_n 0, 1) := by decide +kernel
theorem dX10_act_79 : decode cX10_act 79 = .ok (.iconst 0, 1) := by decide +kernel
theorem dX10_act_80 : decode cX10_act 80 = .ok (.putfield 410, 3) := by decide +kernel
theorem dX10_act_83 : decode cX10_act 83 = .ok (.iload_n 2, 1) := by decide +kernel
theorem dX10_act_84 : decode cX10_act 84 = .ok (.ifCond .ne 11, 3) := by decide +kernel
theorem dX10_act_87 : decode cX10_act 87 = .ok (.aload_n 0, 1) := by decide +kernel
theorem dX10_act_88 : decode cX10_act 88 = .ok (.iload_n 3, 1) := by decide +kernel
theorem dX10_act_89 : decode cX10_act 89 = .ok (.invokevirtual 398, 3) := by decide +kernel
theorem dX10_act_92 : decode cX10_act 92 = .ok (.goto 34, 3) := by decide +kernel
theorem dX10_act_95 : decode cX10_act 95 = .ok (.iload_n 2, 1) := by decide +kernel
theorem dX10_act_96 : decode cX10_act 96 = .ok (.iconst 1, 1) := by decide +kernel
theorem dX10_act_97 : decode cX10_act 97 = .ok (.if_icmp .ne 11, 3) := by decide +kernel
theorem dX10_act_100 : decode cX10_act 100 = .ok (.aload_n 0, 1) := by decide +kernel
theorem dX10_act_101 : decode cX10_act 101 = .ok (.iload_n 3, 1) := by decide +kernel
theorem dX10_act_102 : decode cX10_act 102 = .ok (.invokevirtual 416, 3) := by decide +kernel
theorem dX10_act_105 : decode cX10_act 105 = .ok (.goto 21, 3) := by decide +kernel
theorem dX10_act_108 : decode cX10_act 108 = .ok (.iload_n 2, 1) := by decide +kernel
theorem dX10_act_109 : decode cX10_act 109 = .ok (.iconst 2, 1) := by decide +kernel
theorem dX10_act_110 : decode cX10_act 110 = .ok (.if_icmp .ne 11, 3) := by decide +kernel
theorem dX10_act_113 : decode cX10_act 113 = .ok (.aload_n 0, 1) := by decide +kernel
theorem dX10_act_114 : decode cX10_act 114 = .ok (.iload_n 3, 1) := by decide +kernel
theorem dX10_act_115 : decode cX10_act 115 = .ok (.invokevirtual 407, 3) := by decide +kernel
theorem dX10_act_118 : decode cX10_act 118 = .ok (.goto 8, 3) := by decide +kernel
theorem dX10_act_121 : decode cX10_act 121 = .ok (.aload_n 0, 1) := by decide +kernel
theorem dX10_act_122 : decode cX10_act 122 = .ok (.iload_n 3, 1) := by decide +kernel
theorem dX10_act_123 : decode cX10_act 123 = .ok (.invokevirtual 425, 3) := by decide +kernel
theorem dX10_act_126 : decode cX10_act 126 = .ok (.istore 5, 2) := by decide +kernel
theorem dX10_act_128 : decode cX10_act 128 = .ok (.aload_n 0, 1) := by decide +kernel
theorem dX10_act_129 : decode cX10_act 129 = .ok (.getfield 410, 3) := by decide +kernel
theorem dX10_act_132 : decode cX10_act 132 = .ok (.ifCond .eq 8, 3) := by decide +kernel
theorem dX10_act_135 : decode cX10_act 135 = .ok (.bipush (-15), 2) := by decide +kernel
theorem dX10_act_137 : decode cX10_act 137 = .ok (.goto 5, 3) := by decide +kernel
theorem dX10_act_140 : decode cX10_act 140 = .ok (.iload 5, 2) := by decide +kernel
theorem dX10_act_142 : decode cX10_act 142 = .ok (.ireturn, 1) := by decide +kernel
set_option maxRecDepth 20000 in
theorem ggX10_trace_X10_in : GoodIn wsX10_trace wsX10_in := goodIn_r _ [6] (by decide +kernel) (by decide +kernel)
set_option maxRecDepth 20000 in
theorem gX10_trace_X10_in : GoodIn wsX10_trace (va_wsS RX10 97 yX10_in wsX10_in) := goodIn_app (goodIn_of _ (by decide +kernel)) ggX10_trace_X10_in
theorem dX10_trace_0 : decode cX10_trace 0 = .ok (.iload_n 1, 1) := by decide +kernel
theorem dX10_trace_1 : decode cX10_trace 1 = .ok (.iconst 0, 1) := by decide +kernel
theorem dX10_trace_2 : decode cX10_trace 2 = .ok (.aload_n 0, 1) := by decide +kernel
theorem dX10_trace_3 : decode cX10_trace 3 = .ok (.getfield 377, 3) := by decide +kernel
theorem dX10_trace_6 : decode cX10_trace 6 = .ok (.iconst 1, 1) := by decide +kernel
theorem dX10_trace_7 : decode cX10_trace 7 = .ok (.isub, 1) := by decide +kernel
theorem dX10_trace_8 : decode cX10_trace 8 = .ok (.invokestatic 97, 3) := by decide +kernel
theorem dX10_trace_11 : decode cX10_trace 11 = .ok (.ifCond .eq 12, 3) := by decide +kernel
theorem dX10_trace_14 : decode cX10_trace 14 = .ok (.aload_n 0, 1) := by decide +kernel
theorem dX10_trace_15 : decode cX10_trace 15 = .ok (.getfield 88, 3) := by decide +kernel
theorem dX10_trace_18 : decode cX10_trace 18 = .ok (.iload_n 1, 1) := by decide +kernel
theorem dX10_trace_19 : decode cX10_trace 19 = .ok (.iaload, 1) := by decide +kernel
theorem dX10_trace_20 : decode cX10_trace 20 = .ok (.goto 5, 3) := by decide +kernel
theorem dX10_trace_23 : decode cX10_trace 23 = .ok (.bipush (-3), 2) := by decide +kernel
theorem dX10_trace_25 : decode cX10_trace 25 = .ok (.ireturn, 1) := by decide +kernel
set_option maxRecDepth 20000 in
theorem ggX10_many_X10_unsure : GoodIn wsX10_many wsX10_unsure := goodIn_r _ [12, 2, 13, 14, 15, 11, 16, 17, 18, 19, 20, 3, 21, 22, 23, 24, 25, 26, 27, 28, 29, 30, 31, 32, 33, 34, 35, 36, 37, 38, 39, 40, 41, 42, 43, 44, 45, 46, 47, 48, 49, 50, 51, 52, 53, 54, 55, 56, 57, 58, 59, 60, 61, 62, 63, 64, 65, 66, 67, 68, 69, 70, 71, 72, 73, 74, 75, 76, 77, 78, 79, 80, 81, 82, 83, 84, 85, 86, 87, 88, 89, 90, 91, 92, 93, 94, 95] (by decide +kernel) (by decide +kernel)
set_option maxRecDepth 20000 in
theorem gX10_many_X10_unsure : GoodIn wsX10_many (wsV RX10 282 RX10 yX10_unsure wsX10_unsure) := goodIn_app (goodIn_of _ (by decide +kernel)) ggX10_many_X10_unsure
set_option maxRecDepth 20000 in
theorem ggX10_many_X10_ones : GoodIn wsX10_many wsX10_ones := goodIn_r _ [41] (by decide +kernel) (by decide +kernel)
set_option maxRecDepth 20000 in
theorem gX10_many_X10_ones : GoodIn wsX10_many (va_wsS RX10 116 yX10_ones wsX10_ones) := goodIn_app (goodIn_of _ (by decide +kernel)) ggX10_many_X10_ones
theorem dX10_many_0 : decode cX10_many 0 = .ok (.iconst 0, 1) := by decide +kernel
theorem dX10_many_1 : decode cX10_many 1 = .ok (.istore_n 2, 1) := by decide +kernel
theorem dX10_many_2 : decode cX10_many 2 = .ok (.iload_n 1, 1) := by decide +kernel
theorem dX10_many_3 : decode cX10_many 3 = .ok (.tableswitch 118 0 7 #[45, 50, 55, 60, 95, 100, 105, 110], 45) := by decide +kernel
theorem dX10_many_48 : decode cX10_many 48 = .ok (.aload_n 0, 1) := by decide +kernel
theorem dX10_many_49 : decode cX10_many 49 = .ok (.getfield 7, 3) := by decide +kernel
theorem dX10_many_52 : decode cX10_many 52 = .ok (.ireturn, 1) := by decide +kernel
theorem dX10_many_53 : decode cX10_many 53 = .ok (.aload_n 0, 1) := by decide +kernel
theorem dX10_many_54 : decode cX10_many 54 = .ok (.getfield 101, 3) := by decide +kernel
theorem dX10_many_57 : decode cX10_many 57 = .ok (.ireturn, 1) := by decide +kernel
theorem dX10_many_58 : decode cX10_many 58 = .ok (.aload_n 0, 1) := by decide +kernel
theorem dX10_many_59 : decode cX10_many 59 = .ok (.getfield 225, 3) := by decide +kernel
theorem dX10_many_62 : decode cX10_many 62 = .ok (.ireturn, 1) := by decide +kernel
theorem dX10_many_63 : decode cX10_many 63 = .ok (.iconst 0, 1) := by decide +kernel
theorem dX10_many_64 : decode cX10_many 64 = .ok (.istore_n 3, 1) := by decide +kernel
theorem dX10_many_65 : decode cX10_many 65 = .ok (.iload_n 3, 1) := by decide +kernel
theorem dX10_many_66 : decode cX10_many 66 = .ok (.aload_n 0, 1) := by decide +kernel
theorem dX10_many_67 : decode cX10_many 67 = .ok (.getfield 7, 3) := by decide +kernel
theorem dX10_many_70 : decode cX10_many 70 = .ok (.if_icmp .ge 26, 3) := by decide +kernel
theorem dX10_many_73 : decode cX10_many 73 = .ok (.iload_n 2, 1) := by decide +kernel
theorem dX10_many_74 : decode cX10_many 74 = .ok (.aload_n 0, 1) := by decide +kernel
theorem dX10_many_75 : decode cX10_many 75 = .ok (.getfield 23, 3) := by decide +kernel
theorem dX10_many_78 : decode cX10_many 78 = .ok (.iload_n 3, 1) := by decide +kernel
theorem dX10_many_79 : decode cX10_many 79 = .ok (.iaload, 1) := by decide +kernel
theorem dX10_many_80 : decode cX10_many 80 = .ok (.ifCond .le 7, 3) := by decide +kernel
theorem dX10_many_83 : decode cX10_many 83 = .ok (.iconst 1, 1) := by decide +kernel
theorem dX10_many_84 : decode cX10_many 84 = .ok (.goto 4, 3) := by decide +kernel
theorem dX10_many_87 : decode cX10_many 87 = .ok (.iconst 0, 1) := by decide +kernel
theorem dX10_many_88 : decode cX10_many 88 = .ok (.iadd, 1) := by decide +kernel
theorem dX10_many_89 : decode cX10_many 89 = .ok (.istore_n 2, 1) := by decide +kernel
theorem dX10_many_90 : decode cX10_many 90 = .ok (.iinc 3 1, 3) := by decide +kernel
theorem dX10_many_93 : decode cX10_many 93 = .ok (.goto (-28), 3) := by decide +kernel
theorem dX10_many_96 : decode cX10_many 96 = .ok (.iload_n 2, 1) := by decide +kernel
theorem dX10_many_97 : decode cX10_many 97 = .ok (.ireturn, 1) := by decide +kernel
theorem dX10_many_98 : decode cX10_many 98 = .ok (.aload_n 0, 1) := by decide +kernel
theorem dX10_many_99 : decode cX10_many 99 = .ok (.getfield 228, 3) := by decide +kernel
theorem dX10_many_102 : decode cX10_many 102 = .ok (.ireturn, 1) := by decide +kernel
theorem dX10_many_103 : decode cX10_many 103 = .ok (.aload_n 0, 1) := by decide +kernel
theorem dX10_many_104 : decode cX10_many 104 = .ok (.getfield 119, 3) := by decide +kernel
theorem dX10_many_107 : decode cX10_many 107 = .ok (.ireturn, 1) := by decide +kernel
theorem dX10_many_108 : decode cX10_many 108 = .ok (.aload_n 0, 1) := by decide +kernel
theorem dX10_many_109 : decode cX10_many 109 = .ok (.getfield 377, 3) := by decide +kernel
theorem dX10_many_112 : decode cX10_many 112 = .ok (.ireturn, 1) := by decide +kernel
theorem dX10_many_113 : decode cX10_many 113 = .ok (.aload_n 0, 1) := by decide +kernel
theorem dX10_many_114 : decode cX10_many 114 = .ok (.invokevirtual 282, 3) := by decide +kernel
theorem dX10_many_117 : decode cX10_many 117 = .ok (.invokestatic 116, 3) := by decide +kernel
theorem dX10_many_120 : decode cX10_many 120 = .ok (.ireturn, 1) := by decide +kernel
theorem dX10_many_121 : decode cX10_many 121 = .ok (.iconst (-1), 1) := by decide +kernel
theorem dX10_many_122 : decode cX10_many 122 = .ok (.ireturn, 1) := by decide +kernel
theorem dX10_move_0 : decode cX10_move 0 = .ok (.iconst 0, 1) := by decide +kernel
theorem dX10_move_1 : decode cX10_move 1 = .ok (.istore 4, 2) := by decide +kernel
theorem dX10_move_3 : decode cX10_move 3 = .ok (.iload 4, 2) := by decide +kernel
theorem dX10_move_5 : decode cX10_move 5 = .ok (.iload_n 2, 1) := by decide +kernel
theorem dX10_move_6 : decode cX10_move 6 = .ok (.if_icmp .ge 52, 3) := by decide +kernel
theorem dX10_move_9 : decode cX10_move 9 = .ok (.iload_n 3, 1) := by decide +kernel
theorem dX10_move_10 : decode cX10_move 10 = .ok (.ifCond .eq 19, 3) := by decide +kernel
theorem dX10_move_13 : decode cX10_move 13 = .ok (.aload_n 0, 1) := by decide +kernel
theorem dX10_move_14 : decode cX10_move 14 = .ok (.getfield 91, 3) := by decide +kernel
theorem dX10_move_17 : decode cX10_move 17 = .ok (.aload_n 0, 1) := by decide +kernel
theorem dX10_move_18 : decode cX10_move 18 = .ok (.getfield 428, 3) := by decide +kernel
theorem dX10_move_21 : decode cX10_move 21 = .ok (.aload_n 1, 1) := by decide +kernel
theorem dX10_move_22 : decode cX10_move 22 = .ok (.iload 4, 2) := by decide +kernel
theorem dX10_move_24 : decode cX10_move 24 = .ok (.iaload, 1) := by decide +kernel
theorem dX10_move_25 : decode cX10_move 25 = .ok (.iastore, 1) := by decide +kernel
theorem dX10_move_26 : decode cX10_move 26 = .ok (.goto 16, 3) := by decide +kernel
theorem dX10_move_29 : decode cX10_move 29 = .ok (.aload_n 1, 1) := by decide +kernel
theorem dX10_move_30 : decode cX10_move 30 = .ok (.iload 4, 2) := by decide +kernel
theorem dX10_move_32 : decode cX10_move 32 = .ok (.aload_n 0, 1) := by decide +kernel
theorem dX10_move_33 : decode cX10_move 33 = .ok (.getfield 91, 3) := by decide +kernel
theorem dX10_move_36 : decode cX10_move 36 = .ok (.aload_n 0, 1) := by decide +kernel
theorem dX10_move_37 : decode cX10_move 37 = .ok (.getfield 428, 3) := by decide +kernel
theorem dX10_move_40 : decode cX10_move 40 = .ok (.iaload, 1) := by decide +kernel
theorem dX10_move_41 : decode cX10_move 41 = .ok (.iastore, 1) := by decide +kernel
theorem dX10_move_42 : decode cX10_move 42 = .ok (.aload_n 0, 1) := by decide +kernel
theorem dX10_move_43 : decode cX10_move 43 = .ok (.dup, 1) := by decide +kernel
theorem dX10_move_44 : decode cX10_move 44 = .ok (.getfield 428, 3) := by decide +kernel
theorem dX10_move_47 : decode cX10_move 47 = .ok (.iconst 1, 1) := by decide +kernel
theorem dX10_move_48 : decode cX10_move 48 = .ok (.iadd, 1) := by decide +kernel
theorem dX10_move_49 : decode cX10_move 49 = .ok (.putfield 428, 3) := by decide +kernel
theorem dX10_move_52 : decode cX10_move 52 = .ok (.iinc 4 1, 3) := by decide +kernel
theorem dX10_move_55 : decode cX10_move 55 = .ok (.goto (-52), 3) := by decide +kernel
theorem dX10_move_58 : decode cX10_move 58 = .ok (.return_, 1) := by decide +kernel
set_option maxRecDepth 20000 in
theorem ggX10_moveAll_X10_move : GoodIn wsX10_moveAll wsX10_move := goodIn_r _ [15, 16, 1, 17, 18, 19, 20, 21, 22, 23, 24, 25, 26, 27, 28, 29, 30, 31, 32, 33, 34, 35, 36, 37, 38, 39, 40, 41, 42, 43, 44, 45, 46, 47, 48, 49, 50, 51, 52, 53, 54, 55, 56, 57, 58, 59, 60, 61, 62, 63, 64, 65, 66, 67, 68, 69, 70] (by decide +kernel) (by decide +kernel)
set_option maxRecDepth 20000 in
theorem gX10_moveAll_X10_move : GoodIn wsX10_moveAll (wsV RX10 431 RX10 yX10_move wsX10_move) := goodIn_app (goodIn_of _ (by decide +kernel)) ggX10_moveAll_X10_move
theorem dX10_moveAll_0 : decode cX10_moveAll 0 = .ok (.aload_n 0, 1) := by decide +kernel
theorem dX10_moveAll_1 : decode cX10_moveAll 1 = .ok (.iconst 0, 1) := by decide +kernel
theorem dX10_moveAll_2 : decode cX10_moveAll 2 = .ok (.putfield 428, 3) := by decide +kernel
theorem dX10_moveAll_5 : decode cX10_moveAll 5 = .ok (.aload_n 0, 1) := by decide +kernel
theorem dX10_moveAll_6 : decode cX10_moveAll 6 = .ok (.getfield 94, 3) := by decide +kernel
theorem dX10_moveAll_9 : decode cX10_moveAll 9 = .ok (.iconst 0, 1) := by decide +kernel
theorem dX10_moveAll_10 : decode cX10_moveAll 10 = .ok (.aload_n 0, 1) := by decide +kernel
theorem dX10_moveAll_11 : decode cX10_moveAll 11 = .ok (.getfield 7, 3) := by decide +kernel
theorem dX10_moveAll_14 : decode cX10_moveAll 14 = .ok (.iastore, 1) := by decide +kernel
theorem dX10_moveAll_15 : decode cX10_moveAll 15 = .ok (.aload_n 0, 1) := by decide +kernel
theorem dX10_moveAll_16 : decode cX10_moveAll 16 = .ok (.getfield 94, 3) := by decide +kernel
theorem dX10_moveAll_19 : decode cX10_moveAll 19 = .ok (.iconst 1, 1) := by decide +kernel
theorem dX10_moveAll_20 : decode cX10_moveAll 20 = .ok (.aload_n 0, 1) := by decide +kernel
theorem dX10_moveAll_21 : decode cX10_moveAll 21 = .ok (.getfield 101, 3) := by decide +kernel
theorem dX10_moveAll_24 : decode cX10_moveAll 24 = .ok (.iastore, 1) := by decide +kernel
theorem dX10_moveAll_25 : decode cX10_moveAll 25 = .ok (.aload_n 0, 1) := by decide +kernel
theorem dX10_moveAll_26 : decode cX10_moveAll 26 = .ok (.getfield 94, 3) := by decide +kernel
theorem dX10_moveAll_29 : decode cX10_moveAll 29 = .ok (.iconst 2, 1) := by decide +kernel
theorem dX10_moveAll_30 : decode cX10_moveAll 30 = .ok (.aload_n 0, 1) := by decide +kernel
theorem dX10_moveAll_31 : decode cX10_moveAll 31 = .ok (.getfield 225, 3) := by decide +kernel
theorem dX10_moveAll_34 : decode cX10_moveAll 34 = .ok (.iastore, 1) := by decide +kernel
theorem dX10_moveAll_35 : decode cX10_moveAll 35 = .ok (.aload_n 0, 1) := by decide +kernel
theorem dX10_moveAll_36 : decode cX10_moveAll 36 = .ok (.getfield 94, 3) := by decide +kernel
theorem dX10_moveAll_39 : decode cX10_moveAll 39 = .ok (.iconst 3, 1) := by decide +kernel
theorem dX10_moveAll_40 : decode cX10_moveAll 40 = .ok (.aload_n 0, 1) := by decide +kernel
theorem dX10_moveAll_41 : decode cX10_moveAll 41 = .ok (.getfield 26, 3) := by decide +kernel
theorem dX10_moveAll_44 : decode cX10_moveAll 44 = .ok (.iastore, 1) := by decide +kernel
theorem dX10_moveAll_45 : decode cX10_moveAll 45 = .ok (.aload_n 0, 1) := by decide +kernel
theorem dX10_moveAll_46 : decode cX10_moveAll 46 = .ok (.aload_n 0, 1) := by decide +kernel
theorem dX10_moveAll_47 : decode cX10_moveAll 47 = .ok (.getfield 94, 3) := by decide +kernel
theorem dX10_moveAll_50 : decode cX10_moveAll 50 = .ok (.iconst 4, 1) := by decide +kernel
theorem dX10_moveAll_51 : decode cX10_moveAll 51 = .ok (.iload_n 1, 1) := by decide +kernel
theorem dX10_moveAll_52 : decode cX10_moveAll 52 = .ok (.invokevirtual 431, 3) := by decide +kernel
theorem dX10_moveAll_55 : decode cX10_moveAll 55 = .ok (.aload_n 0, 1) := by decide +kernel
theorem dX10_moveAll_56 : decode cX10_moveAll 56 = .ok (.aload_n 0, 1) := by decide +kernel
theorem dX10_moveAll_57 : decode cX10_moveAll 57 = .ok (.getfield 13, 3) := by decide +kernel
theorem dX10_moveAll_60 : decode cX10_moveAll 60 = .ok (.bipush 10, 2) := by decide +kernel
theorem dX10_moveAll_62 : decode cX10_moveAll 62 = .ok (.iload_n 1, 1) := by decide +kernel
theorem dX10_moveAll_63 : decode cX10_moveAll 63 = .ok (.invokevirtual 431, 3) := by decide +kernel
theorem dX10_moveAll_66 : decode cX10_moveAll 66 = .ok (.aload_n 0, 1) := by decide +kernel
theorem dX10_moveAll_67 : decode cX10_moveAll 67 = .ok (.aload_n 0, 1) := by decide +kernel
theorem dX10_moveAll_68 : decode cX10_moveAll 68 = .ok (.getfield 17, 3) := by decide +kernel
theorem dX10_moveAll_71 : decode cX10_moveAll 71 = .ok (.bipush 70, 2) := by decide +kernel
theorem dX10_moveAll_73 : decode cX10_moveAll 73 = .ok (.iload_n 1, 1) := by decide +kernel
theorem dX10_moveAll_74 : decode cX10_moveAll 74 = .ok (.invokevirtual 431, 3) := by decide +kernel
theorem dX10_moveAll_77 : decode cX10_moveAll 77 = .ok (.aload_n 0, 1) := by decide +kernel
theorem dX10_moveAll_78 : decode cX10_moveAll 78 = .ok (.aload_n 0, 1) := by decide +kernel
theorem dX10_moveAll_79 : decode cX10_moveAll 79 = .ok (.getfield 20, 3) := by decide +kernel
theorem dX10_moveAll_82 : decode cX10_moveAll 82 = .ok (.bipush 24, 2) := by decide +kernel
theorem dX10_moveAll_84 : decode cX10_moveAll 84 = .ok (.iload_n 1, 1) := by decide +kernel
theorem dX10_moveAll_85 : decode cX10_moveAll 85 = .ok (.invokevirtual 431, 3) := by decide +kernel
theorem dX10_moveAll_88 : decode cX10_moveAll 88 = .ok (.aload_n 0, 1) := by decide +kernel
theorem dX10_moveAll_89 : decode cX10_moveAll 89 = .ok (.aload_n 0, 1) := by decide +kernel
theorem dX10_moveAll_90 : decode cX10_moveAll 90 = .ok (.getfield 23, 3) := by decide +kernel
theorem dX10_moveAll_93 : decode cX10_moveAll 93 = .ok (.bipush 10, 2) := by decide +kernel
theorem dX10_moveAll_95 : decode cX10_moveAll 95 = .ok (.iload_n 1, 1) := by decide +kernel
theorem dX10_moveAll_96 : decode cX10_moveAll 96 = .ok (.invokevirtual 431, 3) := by decide +kernel
theorem dX10_moveAll_99 : decode cX10_moveAll 99 = .ok (.return_, 1) := by decide +kernel
set_option maxRecDepth 20000 in
theorem ggX10_keep_X10_moveAll : GoodIn wsX10_keep wsX10_moveAll := goodIn_r _ [6, 7, 8, 9, 10, 11, 12, 13, 14, 15, 16, 17, 18, 19, 5, 20, 21, 22, 23, 24, 25, 26, 27, 28, 29, 30, 31, 32, 33, 34, 35, 36, 37, 38, 39, 40, 41, 42, 43, 44, 45, 46, 47, 48, 49, 50, 51, 52, 53, 54, 55, 56, 57, 58, 59, 60, 61, 62, 63, 64, 65, 66, 67, 68, 69, 70, 71, 72, 73, 74, 75] (by decide +kernel) (by decide +kernel)
set_option maxRecDepth 20000 in
theorem gX10_keep_X10_moveAll : GoodIn wsX10_keep (wsV RX10 435 RX10 yX10_moveAll wsX10_moveAll) := goodIn_app (goodIn_of _ (by decide +kernel)) ggX10_keep_X10_moveAll
theorem dX10_keep_0 : decode cX10_keep 0 = .ok (.aload_n 0, 1) := by decide +kernel
theorem dX10_keep_1 : decode cX10_keep 1 = .ok (.iconst 1, 1) := by decide +kernel
theorem dX10_keep_2 : decode cX10_keep 2 = .ok (.invokevirtual 435, 3) := by decide +kernel
theorem dX10_keep_5 : decode cX10_keep 5 = .ok (.aload_n 0, 1) := by decide +kernel
theorem dX10_keep_6 : decode cX10_keep 6 = .ok (.iconst 1, 1) := by decide +kernel
theorem dX10_keep_7 : decode cX10_keep 7 = .ok (.putfield 439, 3) := by decide +kernel
theorem dX10_keep_10 : decode cX10_keep 10 = .ok (.iconst 1, 1) := by decide +kernel
theorem dX10_keep_11 : decode cX10_keep 11 = .ok (.ireturn, 1) := by decide +kernel
set_option maxRecDepth 20000 in
theorem ggX10_back_X10_moveAll : GoodIn wsX10_back wsX10_moveAll := goodIn_r _ [11, 12, 2, 3, 4, 5, 6, 13, 14, 15, 16, 17, 18, 19, 10, 20, 21, 22, 23, 24, 25, 26, 27, 28, 29, 30, 31, 32, 33, 34, 35, 36, 37, 38, 39, 40, 41, 42, 43, 44, 45, 46, 47, 48, 49, 50, 51, 52, 53, 54, 55, 56, 57, 58, 59, 60, 61, 62, 63, 64, 65, 66, 67, 68, 69, 70, 71, 72, 73, 74, 75] (by decide +kernel) (by decide +kernel)
set_option maxRecDepth 20000 in
theorem gX10_back_X10_moveAll : GoodIn wsX10_back (wsV RX10 435 RX10 yX10_moveAll wsX10_moveAll) := goodIn_app (goodIn_of _ (by decide +kernel)) ggX10_back_X10_moveAll
theorem dX10_back_0 : decode cX10_back 0 = .ok (.aload_n 0, 1) := by decide +kernel
theorem dX10_back_1 : decode cX10_back 1 = .ok (.getfield 439, 3) := by decide +kernel
theorem dX10_back_4 : decode cX10_back 4 = .ok (.ifCond .ne 6, 3) := by decide +kernel
theorem dX10_back_7 : decode cX10_back 7 = .ok (.bipush (-3), 2) := by decide +kernel
theorem dX10_back_9 : decode cX10_back 9 = .ok (.ireturn, 1) := by decide +kernel
theorem dX10_back_10 : decode cX10_back 10 = .ok (.aload_n 0, 1) := by decide +kernel
theorem dX10_back_11 : decode cX10_back 11 = .ok (.iconst 0, 1) := by decide +kernel
theorem dX10_back_12 : decode cX10_back 12 = .ok (.invokevirtual 435, 3) := by decide +kernel
theorem dX10_back_15 : decode cX10_back 15 = .ok (.aload_n 0, 1) := by decide +kernel
theorem dX10_back_16 : decode cX10_back 16 = .ok (.aload_n 0, 1) := by decide +kernel
theorem dX10_back_17 : decode cX10_back 17 = .ok (.getfield 94, 3) := by decide +kernel
theorem dX10_back_20 : decode cX10_back 20 = .ok (.iconst 0, 1) := by decide +kernel
theorem dX10_back_21 : decode cX10_back 21 = .ok (.iaload, 1) := by decide +kernel
theorem dX10_back_22 : decode cX10_back 22 = .ok (.putfield 7, 3) := by decide +kernel
theorem dX10_back_25 : decode cX10_back 25 = .ok (.aload_n 0, 1) := by decide +kernel
theorem dX10_back_26 : decode cX10_back 26 = .ok (.aload_n 0, 1) := by decide +kernel
theorem dX10_back_27 : decode cX10_back 27 = .ok (.getfield 94, 3) := by decide +kernel
theorem dX10_back_30 : decode cX10_back 30 = .ok (.iconst 1, 1) := by decide +kernel
theorem dX10_back_31 : decode cX10_back 31 = .ok (.iaload, 1) := by decide +kernel
theorem dX10_back_32 : decode cX10_back 32 = .ok (.putfield 101, 3) := by decide +kernel
theorem dX10_back_35 : decode cX10_back 35 = .ok (.aload_n 0, 1) := by decide +kernel
theorem dX10_back_36 : decode cX10_back 36 = .ok (.aload_n 0, 1) := by decide +kernel
theorem dX10_back_37 : decode cX10_back 37 = .ok (.getfield 94, 3) := by decide +kernel
theorem dX10_back_40 : decode cX10_back 40 = .ok (.iconst 2, 1) := by decide +kernel
theorem dX10_back_41 : decode cX10_back 41 = .ok (.iaload, 1) := by decide +kernel
theorem dX10_back_42 : decode cX10_back 42 = .ok (.putfield 225, 3) := by decide +kernel
theorem dX10_back_45 : decode cX10_back 45 = .ok (.aload_n 0, 1) := by decide +kernel
theorem dX10_back_46 : decode cX10_back 46 = .ok (.aload_n 0, 1) := by decide +kernel
theorem dX10_back_47 : decode cX10_back 47 = .ok (.getfield 94, 3) := by decide +kernel
theorem dX10_back_50 : decode cX10_back 50 = .ok (.iconst 3, 1) := by decide +kernel
theorem dX10_back_51 : decode cX10_back 51 = .ok (.iaload, 1) := by decide +kernel
theorem dX10_back_52 : decode cX10_back 52 = .ok (.putfield 26, 3) := by decide +kernel
theorem dX10_back_55 : decode cX10_back 55 = .ok (.aload_n 0, 1) := by decide +kernel
theorem dX10_back_56 : decode cX10_back 56 = .ok (.getfield 101, 3) := by decide +kernel
theorem dX10_back_59 : decode cX10_back 59 = .ok (.ireturn, 1) := by decide +kernel
theorem dJ6_bitCount_0f7a4_0 : decode cJ6_bitCount_0f7a4 0 = .ok (.iload_n 0, 1) := by decide +kernel
theorem dJ6_bitCount_0f7a4_1 : decode cJ6_bitCount_0f7a4 1 = .ok (.iload_n 0, 1) := by decide +kernel
theorem dJ6_bitCount_0f7a4_2 : decode cJ6_bitCount_0f7a4 2 = .ok (.iconst 1, 1) := by decide +kernel
theorem dJ6_bitCount_0f7a4_3 : decode cJ6_bitCount_0f7a4 3 = .ok (.iushr, 1) := by decide +kernel
theorem dJ6_bitCount_0f7a4_4 : decode cJ6_bitCount_0f7a4 4 = .ok (.ldc_w 265, 3) := by decide +kernel
theorem dJ6_bitCount_0f7a4_7 : decode cJ6_bitCount_0f7a4 7 = .ok (.iand, 1) := by decide +kernel
theorem dJ6_bitCount_0f7a4_8 : decode cJ6_bitCount_0f7a4 8 = .ok (.isub, 1) := by decide +kernel
theorem dJ6_bitCount_0f7a4_9 : decode cJ6_bitCount_0f7a4 9 = .ok (.istore_n 0, 1) := by decide +kernel
theorem dJ6_bitCount_0f7a4_10 : decode cJ6_bitCount_0f7a4 10 = .ok (.iload_n 0, 1) := by decide +kernel
theorem dJ6_bitCount_0f7a4_11 : decode cJ6_bitCount_0f7a4 11 = .ok (.ldc_w 266, 3) := by decide +kernel
theorem dJ6_bitCount_0f7a4_14 : decode cJ6_bitCount_0f7a4 14 = .ok (.iand, 1) := by decide +kernel
theorem dJ6_bitCount_0f7a4_15 : decode cJ6_bitCount_0f7a4 15 = .ok (.iload_n 0, 1) := by decide +kernel
theorem dJ6_bitCount_0f7a4_16 : decode cJ6_bitCount_0f7a4 16 = .ok (.iconst 2, 1) := by decide +kernel
theorem dJ6_bitCount_0f7a4_17 : decode cJ6_bitCount_0f7a4 17 = .ok (.iushr, 1) := by decide +kernel
theorem dJ6_bitCount_0f7a4_18 : decode cJ6_bitCount_0f7a4 18 = .ok (.ldc_w 266, 3) := by decide +kernel
theorem dJ6_bitCount_0f7a4_21 : decode cJ6_bitCount_0f7a4 21 = .ok (.iand, 1) := by decide +kernel
theorem dJ6_bitCount_0f7a4_22 : decode cJ6_bitCount_0f7a4 22 = .ok (.iadd, 1) := by decide +kernel
theorem dJ6_bitCount_0f7a4_23 : decode cJ6_bitCount_0f7a4 23 = .ok (.istore_n 0, 1) := by decide +kernel
theorem dJ6_bitCount_0f7a4_24 : decode cJ6_bitCount_0f7a4 24 = .ok (.iload_n 0, 1) := by decide +kernel
theorem dJ6_bitCount_0f7a4_25 : decode cJ6_bitCount_0f7a4 25 = .ok (.iload_n 0, 1) := by decide +kernel
theorem dJ6_bitCount_0f7a4_26 : decode cJ6_bitCount_0f7a4 26 = .ok (.iconst 4, 1) := by decide +kernel
theorem dJ6_bitCount_0f7a4_27 : decode cJ6_bitCount_0f7a4 27 = .ok (.iushr, 1) := by decide +kernel
theorem dJ6_bitCount_0f7a4_28 : decode cJ6_bitCount_0f7a4 28 = .ok (.iadd, 1) := by decide +kernel
theorem dJ6_bitCount_0f7a4_29 : decode cJ6_bitCount_0f7a4 29 = .ok (.ldc_w 267, 3) := by decide +kernel
theorem dJ6_bitCount_0f7a4_32 : decode cJ6_bitCount_0f7a4 32 = .ok (.iand, 1) := by decide +kernel
theorem dJ6_bitCount_0f7a4_33 : decode cJ6_bitCount_0f7a4 33 = .ok (.istore_n 0, 1) := by decide +kernel
theorem dJ6_bitCount_0f7a4_34 : decode cJ6_bitCount_0f7a4 34 = .ok (.iload_n 0, 1) := by decide +kernel
theorem dJ6_bitCount_0f7a4_35 : decode cJ6_bitCount_0f7a4 35 = .ok (.iload_n 0, 1) := by decide +kernel
theorem dJ6_bitCount_0f7a4_36 : decode cJ6_bitCount_0f7a4 36 = .ok (.bipush 8, 2) := by decide +kernel
theorem dJ6_bitCount_0f7a4_38 : decode cJ6_bitCount_0f7a4 38 = .ok (.iushr, 1) := by decide +kernel
theorem dJ6_bitCount_0f7a4_39 : decode cJ6_bitCount_0f7a4 39 = .ok (.iadd, 1) := by decide +kernel
theorem dJ6_bitCount_0f7a4_40 : decode cJ6_bitCount_0f7a4 40 = .ok (.istore_n 0, 1) := by decide +kernel
theorem dJ6_bitCount_0f7a4_41 : decode cJ6_bitCount_0f7a4 41 = .ok (.iload_n 0, 1) := by decide +kernel
theorem dJ6_bitCount_0f7a4_42 : decode cJ6_bitCount_0f7a4 42 = .ok (.iload_n 0, 1) := by decide +kernel
theorem dJ6_bitCount_0f7a4_43 : decode cJ6_bitCount_0f7a4 43 = .ok (.bipush 16, 2) := by decide +kernel
theorem dJ6_bitCount_0f7a4_45 : decode cJ6_bitCount_0f7a4 45 = .ok (.iushr, 1) := by decide +kernel
theorem dJ6_bitCount_0f7a4_46 : decode cJ6_bitCount_0f7a4 46 = .ok (.iadd, 1) := by decide +kernel
theorem dJ6_bitCount_0f7a4_47 : decode cJ6_bitCount_0f7a4 47 = .ok (.istore_n 0, 1) := by decide +kernel
theorem dJ6_bitCount_0f7a4_48 : decode cJ6_bitCount_0f7a4 48 = .ok (.iload_n 0, 1) := by decide +kernel
theorem dJ6_bitCount_0f7a4_49 : decode cJ6_bitCount_0f7a4 49 = .ok (.bipush 63, 2) := by decide +kernel
theorem dJ6_bitCount_0f7a4_51 : decode cJ6_bitCount_0f7a4 51 = .ok (.iand, 1) := by decide +kernel
theorem dJ6_bitCount_0f7a4_52 : decode cJ6_bitCount_0f7a4 52 = .ok (.ireturn, 1) := by decide +kernel
theorem dJ9_max_7cf53_0 : decode cJ9_max_7cf53 0 = .ok (.iload_n 0, 1) := by decide +kernel
theorem dJ9_max_7cf53_1 : decode cJ9_max_7cf53 1 = .ok (.iload_n 1, 1) := by decide +kernel
theorem dJ9_max_7cf53_2 : decode cJ9_max_7cf53 2 = .ok (.if_icmp .lt 7, 3) := by decide +kernel
theorem dJ9_max_7cf53_5 : decode cJ9_max_7cf53 5 = .ok (.iload_n 0, 1) := by decide +kernel
theorem dJ9_max_7cf53_6 : decode cJ9_max_7cf53 6 = .ok (.goto 4, 3) := by decide +kernel
theorem dJ9_max_7cf53_9 : decode cJ9_max_7cf53 9 = .ok (.iload_n 1, 1) := by decide +kernel
theorem dJ9_max_7cf53_10 : decode cJ9_max_7cf53 10 = .ok (.ireturn, 1) := by decide +kernel
theorem dJ9_min_7cf53_0 : decode cJ9_min_7cf53 0 = .ok (.iload_n 0, 1) := by decide +kernel
theorem dJ9_min_7cf53_1 : decode cJ9_min_7cf53 1 = .ok (.iload_n 1, 1) := by decide +kernel
theorem dJ9_min_7cf53_2 : decode cJ9_min_7cf53 2 = .ok (.if_icmp .gt 7, 3) := by decide +kernel
theorem dJ9_min_7cf53_5 : decode cJ9_min_7cf53 5 = .ok (.iload_n 0, 1) := by decide +kernel
theorem dJ9_min_7cf53_6 : decode cJ9_min_7cf53 6 = .ok (.goto 4, 3) := by decide +kernel
theorem dJ9_min_7cf53_9 : decode cJ9_min_7cf53 9 = .ok (.iload_n 1, 1) := by decide +kernel
theorem dJ9_min_7cf53_10 : decode cJ9_min_7cf53 10 = .ok (.ireturn, 1) := by decide +kernel
set_option maxRecDepth 20000 in
theorem ggJ0_length_8abf5_J0_coder_7d493 : GoodIn wsJ0_length_8abf5 wsJ0_coder_7d493 := goodIn_r _ [6, 7, 8] (by decide +kernel) (by decide +kernel)
set_option maxRecDepth 20000 in
theorem gJ0_length_8abf5_J0_coder_7d493 : GoodIn wsJ0_length_8abf5 (wsV RJ0 335 RJ0 yJ0_coder_7d493 wsJ0_coder_7d493) := goodIn_app (goodIn_of _ (by decide +kernel)) ggJ0_length_8abf5_J0_coder_7d493
theorem dJ0_length_8abf5_0 : decode cJ0_length_8abf5 0 = .ok (.aload_n 0, 1) := by decide +kernel
theorem dJ0_length_8abf5_1 : decode cJ0_length_8abf5 1 = .ok (.getfield 9, 3) := by decide +kernel
theorem dJ0_length_8abf5_4 : decode cJ0_length_8abf5 4 = .ok (.arraylength, 1) := by decide +kernel
theorem dJ0_length_8abf5_5 : decode cJ0_length_8abf5 5 = .ok (.aload_n 0, 1) := by decide +kernel
theorem dJ0_length_8abf5_6 : decode cJ0_length_8abf5 6 = .ok (.invokevirtual 335, 3) := by decide +kernel
theorem dJ0_length_8abf5_9 : decode cJ0_length_8abf5 9 = .ok (.ishr, 1) := by decide +kernel
theorem dJ0_length_8abf5_10 : decode cJ0_length_8abf5 10 = .ok (.ireturn, 1) := by decide +kernel
set_option maxRecDepth 20000 in
theorem ggJ0_charAt_5068e_J0_isLatin1_aae02 : GoodIn wsJ0_charAt_5068e wsJ0_isLatin1_aae02 := goodIn_r _ [6, 7, 8] (by decide +kernel) (by decide +kernel)
set_option maxRecDepth 20000 in
theorem gJ0_charAt_5068e_J0_isLatin1_aae02 : GoodIn wsJ0_charAt_5068e (wsV RJ0 492 RJ0 yJ0_isLatin1_aae02 wsJ0_isLatin1_aae02) := goodIn_app (goodIn_of _ (by decide +kernel)) ggJ0_charAt_5068e_J0_isLatin1_aae02
set_option maxRecDepth 20000 in
theorem ggJ0_charAt_5068e_J1_charAt_3b067 : GoodIn wsJ0_charAt_5068e wsJ1_charAt_3b067 := goodIn_r _ [12, 13, 14, 5, 15, 16, 17, 18, 19, 20] (by decide +kernel) (by decide +kernel)
set_option maxRecDepth 20000 in
theorem gJ0_charAt_5068e_J1_charAt_3b067 : GoodIn wsJ0_charAt_5068e (va_wsS RJ0 495 yJ1_charAt_3b067 wsJ1_charAt_3b067) := goodIn_app (goodIn_of _ (by decide +kernel)) ggJ0_charAt_5068e_J1_charAt_3b067
set_option maxRecDepth 20000 in
theorem ggJ0_charAt_5068e_J2_charAt_3b067 : GoodIn wsJ0_charAt_5068e wsJ2_charAt_3b067 := goodIn_r _ [24, 25, 26, 23, 27, 28, 29, 30, 31, 14, 5, 15, 16, 17, 18, 19, 20, 32, 33, 34, 35, 36, 37] (by decide +kernel) (by decide +kernel)
set_option maxRecDepth 20000 in
theorem gJ0_charAt_5068e_J2_charAt_3b067 : GoodIn wsJ0_charAt_5068e (va_wsS RJ0 498 yJ2_charAt_3b067 wsJ2_charAt_3b067) := goodIn_app (goodIn_of _ (by decide +kernel)) ggJ0_charAt_5068e_J2_charAt_3b067
theorem dJ0_charAt_5068e_0 : decode cJ0_charAt_5068e 0 = .ok (.aload_n 0, 1) := by decide +kernel
theorem dJ0_charAt_5068e_1 : decode cJ0_charAt_5068e 1 = .ok (.invokevirtual 492, 3) := by decide +kernel
theorem dJ0_charAt_5068e_4 : decode cJ0_charAt_5068e 4 = .ok (.ifCond .eq 12, 3) := by decide +kernel
theorem dJ0_charAt_5068e_7 : decode cJ0_charAt_5068e 7 = .ok (.aload_n 0, 1) := by decide +kernel
theorem dJ0_charAt_5068e_8 : decode cJ0_charAt_5068e 8 = .ok (.getfield 9, 3) := by decide +kernel
theorem dJ0_charAt_5068e_11 : decode cJ0_charAt_5068e 11 = .ok (.iload_n 1, 1) := by decide +kernel
theorem dJ0_charAt_5068e_12 : decode cJ0_charAt_5068e 12 = .ok (.invokestatic 495, 3) := by decide +kernel
theorem dJ0_charAt_5068e_15 : decode cJ0_charAt_5068e 15 = .ok (.ireturn, 1) := by decide +kernel
theorem dJ0_charAt_5068e_16 : decode cJ0_charAt_5068e 16 = .ok (.aload_n 0, 1) := by decide +kernel
theorem dJ0_charAt_5068e_17 : decode cJ0_charAt_5068e 17 = .ok (.getfield 9, 3) := by decide +kernel
theorem dJ0_charAt_5068e_20 : decode cJ0_charAt_5068e 20 = .ok (.iload_n 1, 1) := by decide +kernel
theorem dJ0_charAt_5068e_21 : decode cJ0_charAt_5068e 21 = .ok (.invokestatic 498, 3) := by decide +kernel
theorem dJ0_charAt_5068e_24 : decode cJ0_charAt_5068e 24 = .ok (.ireturn, 1) := by decide +kernel
theorem dJ0_coder_7d493_0 : decode cJ0_coder_7d493 0 = .ok (.getstatic 38, 3) := by decide +kernel
theorem dJ0_coder_7d493_3 : decode cJ0_coder_7d493 3 = .ok (.ifCond .eq 10, 3) := by decide +kernel
theorem dJ0_coder_7d493_6 : decode cJ0_coder_7d493 6 = .ok (.aload_n 0, 1) := by decide +kernel
theorem dJ0_coder_7d493_7 : decode cJ0_coder_7d493 7 = .ok (.getfield 15, 3) := by decide +kernel
theorem dJ0_coder_7d493_10 : decode cJ0_coder_7d493 10 = .ok (.goto 4, 3) := by decide +kernel
theorem dJ0_coder_7d493_13 : decode cJ0_coder_7d493 13 = .ok (.iconst 1, 1) := by decide +kernel
theorem dJ0_coder_7d493_14 : decode cJ0_coder_7d493 14 = .ok (.ireturn, 1) := by decide +kernel
theorem dJ0_isLatin1_aae02_0 : decode cJ0_isLatin1_aae02 0 = .ok (.getstatic 38, 3) := by decide +kernel
theorem dJ0_isLatin1_aae02_3 : decode cJ0_isLatin1_aae02 3 = .ok (.ifCond .eq 14, 3) := by decide +kernel
theorem dJ0_isLatin1_aae02_6 : decode cJ0_isLatin1_aae02 6 = .ok (.aload_n 0, 1) := by decide +kernel
theorem dJ0_isLatin1_aae02_7 : decode cJ0_isLatin1_aae02 7 = .ok (.getfield 15, 3) := by decide +kernel
theorem dJ0_isLatin1_aae02_10 : decode cJ0_isLatin1_aae02 10 = .ok (.ifCond .ne 7, 3) := by decide +kernel
theorem dJ0_isLatin1_aae02_13 : decode cJ0_isLatin1_aae02 13 = .ok (.iconst 1, 1) := by decide +kernel
theorem dJ0_isLatin1_aae02_14 : decode cJ0_isLatin1_aae02 14 = .ok (.goto 4, 3) := by decide +kernel
theorem dJ0_isLatin1_aae02_17 : decode cJ0_isLatin1_aae02 17 = .ok (.iconst 0, 1) := by decide +kernel
theorem dJ0_isLatin1_aae02_18 : decode cJ0_isLatin1_aae02 18 = .ok (.ireturn, 1) := by decide +kernel
set_option maxRecDepth 20000 in
theorem ggJ0_checkIndex_df160_J3_checkIndex_8e157 : GoodIn wsJ0_checkIndex_df160 wsJ3_checkIndex_8e157 := goodIn_r _ [5] (by decide +kernel) (by decide +kernel)
set_option maxRecDepth 20000 in
theorem gJ0_checkIndex_df160_J3_checkIndex_8e157 : GoodIn wsJ0_checkIndex_df160 (va_wsS RJ0 1059 yJ3_checkIndex_8e157 wsJ3_checkIndex_8e157) := goodIn_app (goodIn_of _ (by decide +kernel)) ggJ0_checkIndex_df160_J3_checkIndex_8e157
theorem dJ0_checkIndex_df160_0 : decode cJ0_checkIndex_df160 0 = .ok (.iload_n 0, 1) := by decide +kernel
theorem dJ0_checkIndex_df160_1 : decode cJ0_checkIndex_df160 1 = .ok (.iload_n 1, 1) := by decide +kernel
theorem dJ0_checkIndex_df160_2 : decode cJ0_checkIndex_df160 2 = .ok (.getstatic 1053, 3) := by decide +kernel
theorem dJ0_checkIndex_df160_5 : decode cJ0_checkIndex_df160 5 = .ok (.invokestatic 1059, 3) := by decide +kernel
theorem dJ0_checkIndex_df160_8 : decode cJ0_checkIndex_df160 8 = .ok (.pop, 1) := by decide +kernel
theorem dJ0_checkIndex_df160_9 : decode cJ0_checkIndex_df160 9 = .ok (.return_, 1) := by decide +kernel
set_option maxRecDepth 20000 in
theorem ggJ1_charAt_3b067_J0_checkIndex_df160 : GoodIn wsJ1_charAt_3b067 wsJ0_checkIndex_df160 := goodIn_r _ [4, 5, 6, 7, 8, 9] (by decide +kernel) (by decide +kernel)
set_option maxRecDepth 20000 in
theorem gJ1_charAt_3b067_J0_checkIndex_df160 : GoodIn wsJ1_charAt_3b067 (va_wsS RJ1 9 yJ0_checkIndex_df160 wsJ0_checkIndex_df160) := goodIn_app (goodIn_of _ (by decide +kernel)) ggJ1_charAt_3b067_J0_checkIndex_df160
theorem dJ1_charAt_3b067_0 : decode cJ1_charAt_3b067 0 = .ok (.iload_n 1, 1) := by decide +kernel
theorem dJ1_charAt_3b067_1 : decode cJ1_charAt_3b067 1 = .ok (.aload_n 0, 1) := by decide +kernel
theorem dJ1_charAt_3b067_2 : decode cJ1_charAt_3b067 2 = .ok (.arraylength, 1) := by decide +kernel
theorem dJ1_charAt_3b067_3 : decode cJ1_charAt_3b067 3 = .ok (.invokestatic 9, 3) := by decide +kernel
theorem dJ1_charAt_3b067_6 : decode cJ1_charAt_3b067 6 = .ok (.aload_n 0, 1) := by decide +kernel
theorem dJ1_charAt_3b067_7 : decode cJ1_charAt_3b067 7 = .ok (.iload_n 1, 1) := by decide +kernel
theorem dJ1_charAt_3b067_8 : decode cJ1_charAt_3b067 8 = .ok (.baload, 1) := by decide +kernel
theorem dJ1_charAt_3b067_9 : decode cJ1_charAt_3b067 9 = .ok (.sipush 255, 3) := by decide +kernel
theorem dJ1_charAt_3b067_12 : decode cJ1_charAt_3b067 12 = .ok (.iand, 1) := by decide +kernel
theorem dJ1_charAt_3b067_13 : decode cJ1_charAt_3b067 13 = .ok (.i2c, 1) := by decide +kernel
theorem dJ1_charAt_3b067_14 : decode cJ1_charAt_3b067 14 = .ok (.ireturn, 1) := by decide +kernel
set_option maxRecDepth 20000 in
theorem ggJ2_getChar_3b067_J2_length_9d52b : GoodIn wsJ2_getChar_3b067 wsJ2_length_9d52b := goodIn_r _ [7] (by decide +kernel) (by decide +kernel)
set_option maxRecDepth 20000 in
theorem gJ2_getChar_3b067_J2_length_9d52b : GoodIn wsJ2_getChar_3b067 (va_wsS RJ2 48 yJ2_length_9d52b wsJ2_length_9d52b) := goodIn_app (goodIn_of _ (by decide +kernel)) ggJ2_getChar_3b067_J2_length_9d52b
theorem dJ2_getChar_3b067_0 : decode cJ2_getChar_3b067 0 = .ok (.getstatic 44, 3) := by decide +kernel
theorem dJ2_getChar_3b067_3 : decode cJ2_getChar_3b067 3 = .ok (.ifCond .ne 25, 3) := by decide +kernel
theorem dJ2_getChar_3b067_6 : decode cJ2_getChar_3b067 6 = .ok (.iload_n 1, 1) := by decide +kernel
theorem dJ2_getChar_3b067_7 : decode cJ2_getChar_3b067 7 = .ok (.ifCond .lt 11, 3) := by decide +kernel
theorem dJ2_getChar_3b067_10 : decode cJ2_getChar_3b067 10 = .ok (.iload_n 1, 1) := by decide +kernel
theorem dJ2_getChar_3b067_11 : decode cJ2_getChar_3b067 11 = .ok (.aload_n 0, 1) := by decide +kernel
theorem dJ2_getChar_3b067_12 : decode cJ2_getChar_3b067 12 = .ok (.invokestatic 48, 3) := by decide +kernel
theorem dJ2_getChar_3b067_15 : decode cJ2_getChar_3b067 15 = .ok (.if_icmp .lt 13, 3) := by decide +kernel
theorem dJ2_getChar_3b067_18 : decode cJ2_getChar_3b067 18 = .ok (.new 52, 3) := by decide +kernel
theorem dJ2_getChar_3b067_21 : decode cJ2_getChar_3b067 21 = .ok (.dup, 1) := by decide +kernel
theorem dJ2_getChar_3b067_22 : decode cJ2_getChar_3b067 22 = .ok (.ldc 54, 2) := by decide +kernel
theorem dJ2_getChar_3b067_24 : decode cJ2_getChar_3b067 24 = .ok (.invokespecial 56, 3) := by decide +kernel
theorem dJ2_getChar_3b067_27 : decode cJ2_getChar_3b067 27 = .ok (.athrow, 1) := by decide +kernel
theorem dJ2_getChar_3b067_28 : decode cJ2_getChar_3b067 28 = .ok (.iload_n 1, 1) := by decide +kernel
theorem dJ2_getChar_3b067_29 : decode cJ2_getChar_3b067 29 = .ok (.iconst 1, 1) := by decide +kernel
theorem dJ2_getChar_3b067_30 : decode cJ2_getChar_3b067 30 = .ok (.ishl, 1) := by decide +kernel
theorem dJ2_getChar_3b067_31 : decode cJ2_getChar_3b067 31 = .ok (.istore_n 1, 1) := by decide +kernel
theorem dJ2_getChar_3b067_32 : decode cJ2_getChar_3b067 32 = .ok (.aload_n 0, 1) := by decide +kernel
theorem dJ2_getChar_3b067_33 : decode cJ2_getChar_3b067 33 = .ok (.iload_n 1, 1) := by decide +kernel
theorem dJ2_getChar_3b067_34 : decode cJ2_getChar_3b067 34 = .ok (.iinc 1 1, 3) := by decide +kernel
theorem dJ2_getChar_3b067_37 : decode cJ2_getChar_3b067 37 = .ok (.baload, 1) := by decide +kernel
theorem dJ2_getChar_3b067_38 : decode cJ2_getChar_3b067 38 = .ok (.sipush 255, 3) := by decide +kernel
theorem dJ2_getChar_3b067_41 : decode cJ2_getChar_3b067 41 = .ok (.iand, 1) := by decide +kernel
theorem dJ2_getChar_3b067_42 : decode cJ2_getChar_3b067 42 = .ok (.getstatic 59, 3) := by decide +kernel
theorem dJ2_getChar_3b067_45 : decode cJ2_getChar_3b067 45 = .ok (.ishl, 1) := by decide +kernel
theorem dJ2_getChar_3b067_46 : decode cJ2_getChar_3b067 46 = .ok (.aload_n 0, 1) := by decide +kernel
theorem dJ2_getChar_3b067_47 : decode cJ2_getChar_3b067 47 = .ok (.iload_n 1, 1) := by decide +kernel
theorem dJ2_getChar_3b067_48 : decode cJ2_getChar_3b067 48 = .ok (.baload, 1) := by decide +kernel
theorem dJ2_getChar_3b067_49 : decode cJ2_getChar_3b067 49 = .ok (.sipush 255, 3) := by decide +kernel
theorem dJ2_getChar_3b067_52 : decode cJ2_getChar_3b067 52 = .ok (.iand, 1) := by decide +kernel
theorem dJ2_getChar_3b067_53 : decode cJ2_getChar_3b067 53 = .ok (.getstatic 63, 3) := by decide +kernel
theorem dJ2_getChar_3b067_56 : decode cJ2_getChar_3b067 56 = .ok (.ishl, 1) := by decide +kernel
theorem dJ2_getChar_3b067_57 : decode cJ2_getChar_3b067 57 = .ok (.ior, 1) := by decide +kernel
theorem dJ2_getChar_3b067_58 : decode cJ2_getChar_3b067 58 = .ok (.i2c, 1) := by decide +kernel
theorem dJ2_getChar_3b067_59 : decode cJ2_getChar_3b067 59 = .ok (.ireturn, 1) := by decide +kernel
theorem dJ2_length_9d52b_0 : decode cJ2_length_9d52b 0 = .ok (.aload_n 0, 1) := by decide +kernel
theorem dJ2_length_9d52b_1 : decode cJ2_length_9d52b 1 = .ok (.arraylength, 1) := by decide +kernel
theorem dJ2_length_9d52b_2 : decode cJ2_length_9d52b 2 = .ok (.iconst 1, 1) := by decide +kernel
theorem dJ2_length_9d52b_3 : decode cJ2_length_9d52b 3 = .ok (.ishr, 1) := by decide +kernel
theorem dJ2_length_9d52b_4 : decode cJ2_length_9d52b 4 = .ok (.ireturn, 1) := by decide +kernel
set_option maxRecDepth 20000 in
theorem ggJ2_charAt_3b067_J2_checkIndex_2214a : GoodIn wsJ2_charAt_3b067 wsJ2_checkIndex_2214a := goodIn_r _ [4, 5, 6, 3, 7, 8, 9, 10, 11, 12, 13, 14, 15, 16] (by decide +kernel) (by decide +kernel)
set_option maxRecDepth 20000 in
theorem gJ2_charAt_3b067_J2_checkIndex_2214a : GoodIn wsJ2_charAt_3b067 (va_wsS RJ2 67 yJ2_checkIndex_2214a wsJ2_checkIndex_2214a) := goodIn_app (goodIn_of _ (by decide +kernel)) ggJ2_charAt_3b067_J2_checkIndex_2214a
set_option maxRecDepth 20000 in
theorem ggJ2_charAt_3b067_J2_getChar_3b067 : GoodIn wsJ2_charAt_3b067 wsJ2_getChar_3b067 := goodIn_r _ [19, 20, 21, 22, 5, 6, 3, 7] (by decide +kernel) (by decide +kernel)
set_option maxRecDepth 20000 in
theorem gJ2_charAt_3b067_J2_getChar_3b067 : GoodIn wsJ2_charAt_3b067 (va_wsS RJ2 71 yJ2_getChar_3b067 wsJ2_getChar_3b067) := goodIn_app (goodIn_of _ (by decide +kernel)) ggJ2_charAt_3b067_J2_getChar_3b067
theorem dJ2_charAt_3b067_0 : decode cJ2_charAt_3b067 0 = .ok (.iload_n 1, 1) := by decide +kernel
theorem dJ2_charAt_3b067_1 : decode cJ2_charAt_3b067 1 = .ok (.aload_n 0, 1) := by decide +kernel
theorem dJ2_charAt_3b067_2 : decode cJ2_charAt_3b067 2 = .ok (.invokestatic 67, 3) := by decide +kernel
theorem dJ2_charAt_3b067_5 : decode cJ2_charAt_3b067 5 = .ok (.aload_n 0, 1) := by decide +kernel
theorem dJ2_charAt_3b067_6 : decode cJ2_charAt_3b067 6 = .ok (.iload_n 1, 1) := by decide +kernel
theorem dJ2_charAt_3b067_7 : decode cJ2_charAt_3b067 7 = .ok (.invokestatic 71, 3) := by decide +kernel
theorem dJ2_charAt_3b067_10 : decode cJ2_charAt_3b067 10 = .ok (.ireturn, 1) := by decide +kernel
set_option maxRecDepth 20000 in
theorem ggJ2_checkIndex_2214a_J2_length_9d52b : GoodIn wsJ2_checkIndex_2214a wsJ2_length_9d52b := goodIn_r _ [4] (by decide +kernel) (by decide +kernel)
set_option maxRecDepth 20000 in
theorem gJ2_checkIndex_2214a_J2_length_9d52b : GoodIn wsJ2_checkIndex_2214a (va_wsS RJ2 48 yJ2_length_9d52b wsJ2_length_9d52b) := goodIn_app (goodIn_of _ (by decide +kernel)) ggJ2_checkIndex_2214a_J2_length_9d52b
set_option maxRecDepth 20000 in
theorem ggJ2_checkIndex_2214a_J0_checkIndex_df160 : GoodIn wsJ2_checkIndex_2214a wsJ0_checkIndex_df160 := goodIn_r _ [8, 9, 10, 11, 12, 13] (by decide +kernel) (by decide +kernel)
set_option maxRecDepth 20000 in
theorem gJ2_checkIndex_2214a_J0_checkIndex_df160 : GoodIn wsJ2_checkIndex_2214a (va_wsS RJ2 414 yJ0_checkIndex_df160 wsJ0_checkIndex_df160) := goodIn_app (goodIn_of _ (by decide +kernel)) ggJ2_checkIndex_2214a_J0_checkIndex_df160
theorem dJ2_checkIndex_2214a_0 : decode cJ2_checkIndex_2214a 0 = .ok (.iload_n 0, 1) := by decide +kernel
theorem dJ2_checkIndex_2214a_1 : decode cJ2_checkIndex_2214a 1 = .ok (.aload_n 1, 1) := by decide +kernel
theorem dJ2_checkIndex_2214a_2 : decode cJ2_checkIndex_2214a 2 = .ok (.invokestatic 48, 3) := by decide +kernel
theorem dJ2_checkIndex_2214a_5 : decode cJ2_checkIndex_2214a 5 = .ok (.invokestatic 414, 3) := by decide +kernel
theorem dJ2_checkIndex_2214a_8 : decode cJ2_checkIndex_2214a 8 = .ok (.return_, 1) := by decide +kernel
theorem dJ7_fill_53178_0 : decode cJ7_fill_53178 0 = .ok (.iconst 0, 1) := by decide +kernel
theorem dJ7_fill_53178_1 : decode cJ7_fill_53178 1 = .ok (.istore_n 2, 1) := by decide +kernel
theorem dJ7_fill_53178_2 : decode cJ7_fill_53178 2 = .ok (.aload_n 0, 1) := by decide +kernel
theorem dJ7_fill_53178_3 : decode cJ7_fill_53178 3 = .ok (.arraylength, 1) := by decide +kernel
theorem dJ7_fill_53178_4 : decode cJ7_fill_53178 4 = .ok (.istore_n 3, 1) := by decide +kernel
theorem dJ7_fill_53178_5 : decode cJ7_fill_53178 5 = .ok (.iload_n 2, 1) := by decide +kernel
theorem dJ7_fill_53178_6 : decode cJ7_fill_53178 6 = .ok (.iload_n 3, 1) := by decide +kernel
theorem dJ7_fill_53178_7 : decode cJ7_fill_53178 7 = .ok (.if_icmp .ge 13, 3) := by decide +kernel
theorem dJ7_fill_53178_10 : decode cJ7_fill_53178 10 = .ok (.aload_n 0, 1) := by decide +kernel
theorem dJ7_fill_53178_11 : decode cJ7_fill_53178 11 = .ok (.iload_n 2, 1) := by decide +kernel
theorem dJ7_fill_53178_12 : decode cJ7_fill_53178 12 = .ok (.iload_n 1, 1) := by decide +kernel
theorem dJ7_fill_53178_13 : decode cJ7_fill_53178 13 = .ok (.iastore, 1) := by decide +kernel
theorem dJ7_fill_53178_14 : decode cJ7_fill_53178 14 = .ok (.iinc 2 1, 3) := by decide +kernel
theorem dJ7_fill_53178_17 : decode cJ7_fill_53178 17 = .ok (.goto (-12), 3) := by decide +kernel
theorem dJ7_fill_53178_20 : decode cJ7_fill_53178 20 = .ok (.return_, 1) := by decide +kernel
theorem dJ3_checkIndex_8e157_0 : decode cJ3_checkIndex_8e157 0 = .ok (.iload_n 0, 1) := by decide +kernel
theorem dJ3_checkIndex_8e157_1 : decode cJ3_checkIndex_8e157 1 = .ok (.ifCond .lt 8, 3) := by decide +kernel
theorem dJ3_checkIndex_8e157_4 : decode cJ3_checkIndex_8e157 4 = .ok (.iload_n 0, 1) := by decide +kernel
theorem dJ3_checkIndex_8e157_5 : decode cJ3_checkIndex_8e157 5 = .ok (.iload_n 1, 1) := by decide +kernel
theorem dJ3_checkIndex_8e157_6 : decode cJ3_checkIndex_8e157 6 = .ok (.if_icmp .lt 10, 3) := by decide +kernel
theorem dJ3_checkIndex_8e157_9 : decode cJ3_checkIndex_8e157 9 = .ok (.aload_n 2, 1) := by decide +kernel
theorem dJ3_checkIndex_8e157_10 : decode cJ3_checkIndex_8e157 10 = .ok (.iload_n 0, 1) := by decide +kernel
theorem dJ3_checkIndex_8e157_11 : decode cJ3_checkIndex_8e157 11 = .ok (.iload_n 1, 1) := by decide +kernel
theorem dJ3_checkIndex_8e157_12 : decode cJ3_checkIndex_8e157 12 = .ok (.invokestatic 95, 3) := by decide +kernel
theorem dJ3_checkIndex_8e157_15 : decode cJ3_checkIndex_8e157 15 = .ok (.athrow, 1) := by decide +kernel
theorem dJ3_checkIndex_8e157_16 : decode cJ3_checkIndex_8e157 16 = .ok (.iload_n 0, 1) := by decide +kernel
theorem dJ3_checkIndex_8e157_17 : decode cJ3_checkIndex_8e157 17 = .ok (.ireturn, 1) := by decide +kernel
