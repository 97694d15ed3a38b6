theorem dX6_meanKnowing_2 : decode cX6_meanKnowing 2 = .ok (.iconst 0, 1) := by decide +kernel
theorem dX6_meanKnowing_3 : decode cX6_meanKnowing 3 = .ok (.istore 5, 2) := by decide +kernel
theorem dX6_meanKnowing_5 : decode cX6_meanKnowing 5 = .ok (.iload 5, 2) := by decide +kernel
theorem dX6_meanKnowing_7 : decode cX6_meanKnowing 7 = .ok (.iconst 1, 1) := by decide +kernel
theorem dX6_meanKnowing_8 : decode cX6_meanKnowing 8 = .ok (.aload_n 0, 1) := by decide +kernel
theorem dX6_meanKnowing_9 : decode cX6_meanKnowing 9 = .ok (.getfield 15, 3) := by decide +kernel
theorem dX6_meanKnowing_12 : decode cX6_meanKnowing 12 = .ok (.ishl, 1) := by decide +kernel
theorem dX6_meanKnowing_13 : decode cX6_meanKnowing 13 = .ok (.if_icmp .ge 92, 3) := by decide +kernel
theorem dX6_meanKnowing_16 : decode cX6_meanKnowing 16 = .ok (.aload_n 0, 1) := by decide +kernel
theorem dX6_meanKnowing_17 : decode cX6_meanKnowing 17 = .ok (.aload_n 1, 1) := by decide +kernel
theorem dX6_meanKnowing_18 : decode cX6_meanKnowing 18 = .ok (.aload_n 2, 1) := by decide +kernel
theorem dX6_meanKnowing_19 : decode cX6_meanKnowing 19 = .ok (.iload 5, 2) := by decide +kernel
theorem dX6_meanKnowing_21 : decode cX6_meanKnowing 21 = .ok (.invokevirtual 50, 3) := by decide +kernel
theorem dX6_meanKnowing_24 : decode cX6_meanKnowing 24 = .ok (.i2l, 1) := by decide +kernel
theorem dX6_meanKnowing_25 : decode cX6_meanKnowing 25 = .ok (.lstore 6, 2) := by decide +kernel
theorem dX6_meanKnowing_27 : decode cX6_meanKnowing 27 = .ok (.aload_n 1, 1) := by decide +kernel
theorem dX6_meanKnowing_28 : decode cX6_meanKnowing 28 = .ok (.invokevirtual 35, 3) := by decide +kernel
theorem dX6_meanKnowing_31 : decode cX6_meanKnowing 31 = .ok (.istore 8, 2) := by decide +kernel
theorem dX6_meanKnowing_33 : decode cX6_meanKnowing 33 = .ok (.iconst 0, 1) := by decide +kernel
theorem dX6_meanKnowing_34 : decode cX6_meanKnowing 34 = .ok (.istore 9, 2) := by decide +kernel
theorem dX6_meanKnowing_36 : decode cX6_meanKnowing 36 = .ok (.iload 9, 2) := by decide +kernel
theorem dX6_meanKnowing_38 : decode cX6_meanKnowing 38 = .ok (.bipush 10, 2) := by decide +kernel
theorem dX6_meanKnowing_40 : decode cX6_meanKnowing 40 = .ok (.if_icmp .ge 59, 3) := by decide +kernel
theorem dX6_meanKnowing_43 : decode cX6_meanKnowing 43 = .ok (.iload 8, 2) := by decide +kernel
theorem dX6_meanKnowing_45 : decode cX6_meanKnowing 45 = .ok (.ifCond .eq 54, 3) := by decide +kernel
theorem dX6_meanKnowing_48 : decode cX6_meanKnowing 48 = .ok (.aload_n 2, 1) := by decide +kernel
theorem dX6_meanKnowing_49 : decode cX6_meanKnowing 49 = .ok (.iload 8, 2) := by decide +kernel
theorem dX6_meanKnowing_51 : decode cX6_meanKnowing 51 = .ok (.iload 8, 2) := by decide +kernel
theorem dX6_meanKnowing_53 : decode cX6_meanKnowing 53 = .ok (.ineg, 1) := by decide +kernel
theorem dX6_meanKnowing_54 : decode cX6_meanKnowing 54 = .ok (.iand, 1) := by decide +kernel
theorem dX6_meanKnowing_55 : decode cX6_meanKnowing 55 = .ok (.aload_n 1, 1) := by decide +kernel
theorem dX6_meanKnowing_56 : decode cX6_meanKnowing 56 = .ok (.invokevirtual 35, 3) := by decide +kernel
theorem dX6_meanKnowing_59 : decode cX6_meanKnowing 59 = .ok (.invokevirtual 54, 3) := by decide +kernel
theorem dX6_meanKnowing_62 : decode cX6_meanKnowing 62 = .ok (.istore 10, 2) := by decide +kernel
theorem dX6_meanKnowing_64 : decode cX6_meanKnowing 64 = .ok (.iload 8, 2) := by decide +kernel
theorem dX6_meanKnowing_66 : decode cX6_meanKnowing 66 = .ok (.iload 10, 2) := by decide +kernel
theorem dX6_meanKnowing_68 : decode cX6_meanKnowing 68 = .ok (.iconst (-1), 1) := by decide +kernel
theorem dX6_meanKnowing_69 : decode cX6_meanKnowing 69 = .ok (.ixor, 1) := by decide +kernel
theorem dX6_meanKnowing_70 : decode cX6_meanKnowing 70 = .ok (.iand, 1) := by decide +kernel
theorem dX6_meanKnowing_71 : decode cX6_meanKnowing 71 = .ok (.istore 8, 2) := by decide +kernel
theorem dX6_meanKnowing_73 : decode cX6_meanKnowing 73 = .ok (.lload_n 3, 1) := by decide +kernel
theorem dX6_meanKnowing_74 : decode cX6_meanKnowing 74 = .ok (.lload 6, 2) := by decide +kernel
theorem dX6_meanKnowing_76 : decode cX6_meanKnowing 76 = .ok (.aload_n 1, 1) := by decide +kernel
theorem dX6_meanKnowing_77 : decode cX6_meanKnowing 77 = .ok (.iload 10, 2) := by decide +kernel
theorem dX6_meanKnowing_79 : decode cX6_meanKnowing 79 = .ok (.invokevirtual 38, 3) := by decide +kernel
theorem dX6_meanKnowing_82 : decode cX6_meanKnowing 82 = .ok (.i2l, 1) := by decide +kernel
theorem dX6_meanKnowing_83 : decode cX6_meanKnowing 83 = .ok (.lmul, 1) := by decide +kernel
theorem dX6_meanKnowing_84 : decode cX6_meanKnowing 84 = .ok (.iload 10, 2) := by decide +kernel
theorem dX6_meanKnowing_86 : decode cX6_meanKnowing 86 = .ok (.invokestatic 58, 3) := by decide +kernel
theorem dX6_meanKnowing_89 : decode cX6_meanKnowing 89 = .ok (.i2l, 1) := by decide +kernel
theorem dX6_meanKnowing_90 : decode cX6_meanKnowing 90 = .ok (.lmul, 1) := by decide +kernel
theorem dX6_meanKnowing_91 : decode cX6_meanKnowing 91 = .ok (.ladd, 1) := by decide +kernel
theorem dX6_meanKnowing_92 : decode cX6_meanKnowing 92 = .ok (.lstore_n 3, 1) := by decide +kernel
theorem dX6_meanKnowing_93 : decode cX6_meanKnowing 93 = .ok (.iinc 9 1, 3) := by decide +kernel
theorem dX6_meanKnowing_96 : decode cX6_meanKnowing 96 = .ok (.goto (-60), 3) := by decide +kernel
theorem dX6_meanKnowing_99 : decode cX6_meanKnowing 99 = .ok (.iinc 5 1, 3) := by decide +kernel
theorem dX6_meanKnowing_102 : decode cX6_meanKnowing 102 = .ok (.goto (-97), 3) := by decide +kernel
theorem dX6_meanKnowing_105 : decode cX6_meanKnowing 105 = .ok (.lload_n 3, 1) := by decide +kernel
theorem dX6_meanKnowing_106 : decode cX6_meanKnowing 106 = .ok (.lreturn, 1) := by decide +kernel
set_option maxRecDepth 20000 in
theorem ggX6_oddsShown_X6_layWay : GoodIn wsX6_oddsShown wsX6_layWay := goodIn_r _ [6, 7, 1, 8, 9, 10, 11, 12, 13, 14, 15, 16, 17, 18, 19, 20, 21, 22, 50, 51, 52, 53, 54, 55, 56, 57, 58, 59, 60, 61, 62, 63, 64, 65, 66, 67] (by decide +kernel) (by decide +kernel)
set_option maxRecDepth 20000 in
theorem gX6_oddsShown_X6_layWay : GoodIn wsX6_oddsShown (wsV RX6 50 RX6 yX6_layWay wsX6_layWay) := goodIn_app (goodIn_of _ (by decide +kernel)) ggX6_oddsShown_X6_layWay
set_option maxRecDepth 20000 in
theorem ggX6_oddsShown_X8_everybody : GoodIn wsX6_oddsShown wsX8_everybody := goodIn_r _ [27, 28, 53, 54, 55, 56, 57, 58, 59, 60, 61, 62, 63, 64, 65, 66] (by decide +kernel) (by decide +kernel)
set_option maxRecDepth 20000 in
theorem gX6_oddsShown_X8_everybody : GoodIn wsX6_oddsShown (wsV RX6 35 RX8 yX8_everybody wsX8_everybody) := goodIn_app (goodIn_of _ (by decide +kernel)) ggX6_oddsShown_X8_everybody
set_option maxRecDepth 20000 in
theorem ggX6_oddsShown_X3_flood : GoodIn wsX6_oddsShown wsX3_flood := goodIn_r _ [32, 15, 33, 34, 35, 36, 37, 38, 39, 67] (by decide +kernel) (by decide +kernel)
set_option maxRecDepth 20000 in
theorem gX6_oddsShown_X3_flood : GoodIn wsX6_oddsShown (wsV RX6 54 RX3 yX3_flood wsX3_flood) := goodIn_app (goodIn_of _ (by decide +kernel)) ggX6_oddsShown_X3_flood
set_option maxRecDepth 20000 in
theorem ggX6_oddsShown_X8_isAsShown : GoodIn wsX6_oddsShown wsX8_isAsShown := goodIn_r _ [43, 28, 44, 53, 54, 55, 56, 57, 58, 59, 60, 61, 62, 63, 64, 65, 66] (by decide +kernel) (by decide +kernel)
set_option maxRecDepth 20000 in
theorem gX6_oddsShown_X8_isAsShown : GoodIn wsX6_oddsShown (wsV RX6 63 RX8 yX8_isAsShown wsX8_isAsShown) := goodIn_app (goodIn_of _ (by decide +kernel)) ggX6_oddsShown_X8_isAsShown
set_option maxRecDepth 20000 in
theorem ggX6_oddsShown_X8_weightOf : GoodIn wsX6_oddsShown wsX8_weightOf := goodIn_r _ [48, 28, 49, 53, 54, 55, 56, 57, 58, 59, 60, 61, 62, 63, 64, 65, 66] (by decide +kernel) (by decide +kernel)
set_option maxRecDepth 20000 in
theorem gX6_oddsShown_X8_weightOf : GoodIn wsX6_oddsShown (wsV RX6 38 RX8 yX8_weightOf wsX8_weightOf) := goodIn_app (goodIn_of _ (by decide +kernel)) ggX6_oddsShown_X8_weightOf
theorem dX6_oddsShown_0 : decode cX6_oddsShown 0 = .ok (.lconst 0, 1) := by decide +kernel
theorem dX6_oddsShown_1 : decode cX6_oddsShown 1 = .ok (.lstore 4, 2) := by decide +kernel
theorem dX6_oddsShown_3 : decode cX6_oddsShown 3 = .ok (.iconst 0, 1) := by decide +kernel
theorem dX6_oddsShown_4 : decode cX6_oddsShown 4 = .ok (.istore 6, 2) := by decide +kernel
theorem dX6_oddsShown_6 : decode cX6_oddsShown 6 = .ok (.iload 6, 2) := by decide +kernel
theorem dX6_oddsShown_8 : decode cX6_oddsShown 8 = .ok (.iconst 1, 1) := by decide +kernel
theorem dX6_oddsShown_9 : decode cX6_oddsShown 9 = .ok (.aload_n 0, 1) := by decide +kernel
theorem dX6_oddsShown_10 : decode cX6_oddsShown 10 = .ok (.getfield 15, 3) := by decide +kernel
theorem dX6_oddsShown_13 : decode cX6_oddsShown 13 = .ok (.ishl, 1) := by decide +kernel
theorem dX6_oddsShown_14 : decode cX6_oddsShown 14 = .ok (.if_icmp .ge 95, 3) := by decide +kernel
theorem dX6_oddsShown_17 : decode cX6_oddsShown 17 = .ok (.aload_n 0, 1) := by decide +kernel
theorem dX6_oddsShown_18 : decode cX6_oddsShown 18 = .ok (.aload_n 1, 1) := by decide +kernel
theorem dX6_oddsShown_19 : decode cX6_oddsShown 19 = .ok (.aload_n 2, 1) := by decide +kernel
theorem dX6_oddsShown_20 : decode cX6_oddsShown 20 = .ok (.iload 6, 2) := by decide +kernel
theorem dX6_oddsShown_22 : decode cX6_oddsShown 22 = .ok (.invokevirtual 50, 3) := by decide +kernel
theorem dX6_oddsShown_25 : decode cX6_oddsShown 25 = .ok (.i2l, 1) := by decide +kernel
theorem dX6_oddsShown_26 : decode cX6_oddsShown 26 = .ok (.lstore 7, 2) := by decide +kernel
theorem dX6_oddsShown_28 : decode cX6_oddsShown 28 = .ok (.iload_n 3, 1) := by decide +kernel
theorem dX6_oddsShown_29 : decode cX6_oddsShown 29 = .ok (.istore 9, 2) := by decide +kernel
theorem dX6_oddsShown_31 : decode cX6_oddsShown 31 = .ok (.iconst 0, 1) := by decide +kernel
theorem dX6_oddsShown_32 : decode cX6_oddsShown 32 = .ok (.istore 10, 2) := by decide +kernel
theorem dX6_oddsShown_34 : decode cX6_oddsShown 34 = .ok (.iload 10, 2) := by decide +kernel
theorem dX6_oddsShown_36 : decode cX6_oddsShown 36 = .ok (.bipush 10, 2) := by decide +kernel
theorem dX6_oddsShown_38 : decode cX6_oddsShown 38 = .ok (.if_icmp .ge 65, 3) := by decide +kernel
theorem dX6_oddsShown_41 : decode cX6_oddsShown 41 = .ok (.iload 9, 2) := by decide +kernel
theorem dX6_oddsShown_43 : decode cX6_oddsShown 43 = .ok (.ifCond .eq 60, 3) := by decide +kernel
theorem dX6_oddsShown_46 : decode cX6_oddsShown 46 = .ok (.aload_n 2, 1) := by decide +kernel
theorem dX6_oddsShown_47 : decode cX6_oddsShown 47 = .ok (.iload 9, 2) := by decide +kernel
theorem dX6_oddsShown_49 : decode cX6_oddsShown 49 = .ok (.iload 9, 2) := by decide +kernel
theorem dX6_oddsShown_51 : decode cX6_oddsShown 51 = .ok (.ineg, 1) := by decide +kernel
theorem dX6_oddsShown_52 : decode cX6_oddsShown 52 = .ok (.iand, 1) := by decide +kernel
theorem dX6_oddsShown_53 : decode cX6_oddsShown 53 = .ok (.aload_n 1, 1) := by decide +kernel
theorem dX6_oddsShown_54 : decode cX6_oddsShown 54 = .ok (.invokevirtual 35, 3) := by decide +kernel
theorem dX6_oddsShown_57 : decode cX6_oddsShown 57 = .ok (.invokevirtual 54, 3) := by decide +kernel
theorem dX6_oddsShown_60 : decode cX6_oddsShown 60 = .ok (.istore 11, 2) := by decide +kernel
theorem dX6_oddsShown_62 : decode cX6_oddsShown 62 = .ok (.aload_n 1, 1) := by decide +kernel
theorem dX6_oddsShown_63 : decode cX6_oddsShown 63 = .ok (.iload 11, 2) := by decide +kernel
theorem dX6_oddsShown_65 : decode cX6_oddsShown 65 = .ok (.invokevirtual 63, 3) := by decide +kernel
theorem dX6_oddsShown_68 : decode cX6_oddsShown 68 = .ok (.ifCond .eq 20, 3) := by decide +kernel
theorem dX6_oddsShown_71 : decode cX6_oddsShown 71 = .ok (.lload 4, 2) := by decide +kernel
theorem dX6_oddsShown_73 : decode cX6_oddsShown 73 = .ok (.lload 7, 2) := by decide +kernel
theorem dX6_oddsShown_75 : decode cX6_oddsShown 75 = .ok (.aload_n 1, 1) := by decide +kernel
theorem dX6_oddsShown_76 : decode cX6_oddsShown 76 = .ok (.iload 11, 2) := by decide +kernel
theorem dX6_oddsShown_78 : decode cX6_oddsShown 78 = .ok (.iload_n 3, 1) := by decide +kernel
theorem dX6_oddsShown_79 : decode cX6_oddsShown 79 = .ok (.iand, 1) := by decide +kernel
theorem dX6_oddsShown_80 : decode cX6_oddsShown 80 = .ok (.invokevirtual 38, 3) := by decide +kernel
theorem dX6_oddsShown_83 : decode cX6_oddsShown 83 = .ok (.i2l, 1) := by decide +kernel
theorem dX6_oddsShown_84 : decode cX6_oddsShown 84 = .ok (.lmul, 1) := by decide +kernel
theorem dX6_oddsShown_85 : decode cX6_oddsShown 85 = .ok (.ladd, 1) := by decide +kernel
theorem dX6_oddsShown_86 : decode cX6_oddsShown 86 = .ok (.lstore 4, 2) := by decide +kernel
theorem dX6_oddsShown_88 : decode cX6_oddsShown 88 = .ok (.iload 9, 2) := by decide +kernel
theorem dX6_oddsShown_90 : decode cX6_oddsShown 90 = .ok (.iload 11, 2) := by decide +kernel
theorem dX6_oddsShown_92 : decode cX6_oddsShown 92 = .ok (.iconst (-1), 1) := by decide +kernel
theorem dX6_oddsShown_93 : decode cX6_oddsShown 93 = .ok (.ixor, 1) := by decide +kernel
theorem dX6_oddsShown_94 : decode cX6_oddsShown 94 = .ok (.iand, 1) := by decide +kernel
theorem dX6_oddsShown_95 : decode cX6_oddsShown 95 = .ok (.istore 9, 2) := by decide +kernel
theorem dX6_oddsShown_97 : decode cX6_oddsShown 97 = .ok (.iinc 10 1, 3) := by decide +kernel
theorem dX6_oddsShown_100 : decode cX6_oddsShown 100 = .ok (.goto (-66), 3) := by decide +kernel
theorem dX6_oddsShown_103 : decode cX6_oddsShown 103 = .ok (.iinc 6 1, 3) := by decide +kernel
theorem dX6_oddsShown_106 : decode cX6_oddsShown 106 = .ok (.goto (-100), 3) := by decide +kernel
theorem dX6_oddsShown_109 : decode cX6_oddsShown 109 = .ok (.lload 4, 2) := by decide +kernel
theorem dX6_oddsShown_111 : decode cX6_oddsShown 111 = .ok (.lreturn, 1) := by decide +kernel
theorem dX7_init_0 : decode cX7_init 0 = .ok (.aload_n 0, 1) := by decide +kernel
theorem dX7_init_1 : decode cX7_init 1 = .ok (.invokespecial 3, 3) := by decide +kernel
theorem dX7_init_4 : decode cX7_init 4 = .ok (.aload_n 0, 1) := by decide +kernel
theorem dX7_init_5 : decode cX7_init 5 = .ok (.sipush 200, 3) := by decide +kernel
theorem dX7_init_8 : decode cX7_init 8 = .ok (.newarray .byte, 2) := by decide +kernel
theorem dX7_init_10 : decode cX7_init 10 = .ok (.putfield 11, 3) := by decide +kernel
theorem dX7_init_13 : decode cX7_init 13 = .ok (.aload_n 0, 1) := by decide +kernel
theorem dX7_init_14 : decode cX7_init 14 = .ok (.iconst 0, 1) := by decide +kernel
theorem dX7_init_15 : decode cX7_init 15 = .ok (.putfield 15, 3) := by decide +kernel
theorem dX7_init_18 : decode cX7_init 18 = .ok (.aload_n 0, 1) := by decide +kernel
theorem dX7_init_19 : decode cX7_init 19 = .ok (.iconst 0, 1) := by decide +kernel
theorem dX7_init_20 : decode cX7_init 20 = .ok (.putfield 19, 3) := by decide +kernel
theorem dX7_init_23 : decode cX7_init 23 = .ok (.aload_n 0, 1) := by decide +kernel
theorem dX7_init_24 : decode cX7_init 24 = .ok (.iconst 0, 1) := by decide +kernel
theorem dX7_init_25 : decode cX7_init 25 = .ok (.putfield 22, 3) := by decide +kernel
theorem dX7_init_28 : decode cX7_init 28 = .ok (.aload_n 0, 1) := by decide +kernel
theorem dX7_init_29 : decode cX7_init 29 = .ok (.iconst 0, 1) := by decide +kernel
theorem dX7_init_30 : decode cX7_init 30 = .ok (.putfield 25, 3) := by decide +kernel
theorem dX7_init_33 : decode cX7_init 33 = .ok (.aload_n 0, 1) := by decide +kernel
theorem dX7_init_34 : decode cX7_init 34 = .ok (.iconst (-1), 1) := by decide +kernel
theorem dX7_init_35 : decode cX7_init 35 = .ok (.putfield 28, 3) := by decide +kernel
theorem dX7_init_38 : decode cX7_init 38 = .ok (.return_, 1) := by decide +kernel
theorem dX7_take_0 : decode cX7_take 0 = .ok (.aload_n 0, 1) := by decide +kernel
theorem dX7_take_1 : decode cX7_take 1 = .ok (.getfield 15, 3) := by decide +kernel
theorem dX7_take_4 : decode cX7_take 4 = .ok (.iload_n 3, 1) := by decide +kernel
theorem dX7_take_5 : decode cX7_take 5 = .ok (.iadd, 1) := by decide +kernel
theorem dX7_take_6 : decode cX7_take 6 = .ok (.sipush 200, 3) := by decide +kernel
theorem dX7_take_9 : decode cX7_take 9 = .ok (.if_icmp .le 5, 3) := by decide +kernel
theorem dX7_take_12 : decode cX7_take 12 = .ok (.iconst 0, 1) := by decide +kernel
theorem dX7_take_13 : decode cX7_take 13 = .ok (.ireturn, 1) := by decide +kernel
theorem dX7_take_14 : decode cX7_take 14 = .ok (.iconst 0, 1) := by decide +kernel
theorem dX7_take_15 : decode cX7_take 15 = .ok (.istore 4, 2) := by decide +kernel
theorem dX7_take_17 : decode cX7_take 17 = .ok (.iload 4, 2) := by decide +kernel
theorem dX7_take_19 : decode cX7_take 19 = .ok (.iload_n 3, 1) := by decide +kernel
theorem dX7_take_20 : decode cX7_take 20 = .ok (.if_icmp .ge 37, 3) := by decide +kernel
theorem dX7_take_23 : decode cX7_take 23 = .ok (.aload_n 0, 1) := by decide +kernel
theorem dX7_take_24 : decode cX7_take 24 = .ok (.getfield 11, 3) := by decide +kernel
theorem dX7_take_27 : decode cX7_take 27 = .ok (.aload_n 0, 1) := by decide +kernel
theorem dX7_take_28 : decode cX7_take 28 = .ok (.getfield 15, 3) := by decide +kernel
theorem dX7_take_31 : decode cX7_take 31 = .ok (.lload_n 1, 1) := by decide +kernel
theorem dX7_take_32 : decode cX7_take 32 = .ok (.bipush 8, 2) := by decide +kernel
theorem dX7_take_34 : decode cX7_take 34 = .ok (.iload 4, 2) := by decide +kernel
theorem dX7_take_36 : decode cX7_take 36 = .ok (.imul, 1) := by decide +kernel
theorem dX7_take_37 : decode cX7_take 37 = .ok (.lushr, 1) := by decide +kernel
theorem dX7_take_38 : decode cX7_take 38 = .ok (.l2i, 1) := by decide +kernel
theorem dX7_take_39 : decode cX7_take 39 = .ok (.i2b, 1) := by decide +kernel
theorem dX7_take_40 : decode cX7_take 40 = .ok (.bastore, 1) := by decide +kernel
theorem dX7_take_41 : decode cX7_take 41 = .ok (.aload_n 0, 1) := by decide +kernel
theorem dX7_take_42 : decode cX7_take 42 = .ok (.dup, 1) := by decide +kernel
theorem dX7_take_43 : decode cX7_take 43 = .ok (.getfield 15, 3) := by decide +kernel
theorem dX7_take_46 : decode cX7_take 46 = .ok (.iconst 1, 1) := by decide +kernel
theorem dX7_take_47 : decode cX7_take 47 = .ok (.iadd, 1) := by decide +kernel
theorem dX7_take_48 : decode cX7_take 48 = .ok (.putfield 15, 3) := by decide +kernel
theorem dX7_take_51 : decode cX7_take 51 = .ok (.iinc 4 1, 3) := by decide +kernel
theorem dX7_take_54 : decode cX7_take 54 = .ok (.goto (-37), 3) := by decide +kernel
theorem dX7_take_57 : decode cX7_take 57 = .ok (.iconst 1, 1) := by decide +kernel
theorem dX7_take_58 : decode cX7_take 58 = .ok (.ireturn, 1) := by decide +kernel
set_option maxRecDepth 20000 in
theorem ggX7_isReadInto_X7_step : GoodIn wsX7_isReadInto wsX7_step := goodIn_r _ [8, 1, 9, 10, 11, 2, 3, 12, 13, 7, 14, 15, 16, 17, 18, 152, 153, 154, 155, 156, 157] (by decide +kernel) (by decide +kernel)
set_option maxRecDepth 20000 in
theorem gX7_isReadInto_X7_step : GoodIn wsX7_isReadInto (wsV RX7 31 RX7 yX7_step wsX7_step) := goodIn_app (goodIn_of _ (by decide +kernel)) ggX7_isReadInto_X7_step
set_option maxRecDepth 20000 in
theorem ggX7_isReadInto_X7_isWord : GoodIn wsX7_isReadInto wsX7_isWord := goodIn_r _ [22, 3, 1, 11, 10, 23, 24, 25, 26, 27, 28, 29, 30, 31, 32, 33, 34, 35, 36, 37, 38, 39, 40, 41, 42, 43, 44, 45, 46, 47, 48, 49, 50, 51, 52, 53, 54, 55, 56, 57, 58, 59, 60, 61, 62, 63, 64, 65, 66, 67, 68, 69, 70, 71, 152, 153, 154, 155, 156, 157] (by decide +kernel) (by decide +kernel)
set_option maxRecDepth 20000 in
theorem gX7_isReadInto_X7_isWord : GoodIn wsX7_isReadInto (wsV RX7 36 RX7 yX7_isWord wsX7_isWord) := goodIn_app (goodIn_of _ (by decide +kernel)) ggX7_isReadInto_X7_isWord
set_option maxRecDepth 20000 in
theorem ggX7_isReadInto_X7_stepNumber : GoodIn wsX7_isReadInto wsX7_stepNumber := goodIn_r _ [75, 3, 2, 4, 5, 6, 7, 8, 1, 9, 10, 11, 12, 13, 14, 15, 16, 17, 18, 152, 153, 154, 155, 156, 157] (by decide +kernel) (by decide +kernel)
set_option maxRecDepth 20000 in
theorem gX7_isReadInto_X7_stepNumber : GoodIn wsX7_isReadInto (wsV RX7 40 RX7 yX7_stepNumber wsX7_stepNumber) := goodIn_app (goodIn_of _ (by decide +kernel)) ggX7_isReadInto_X7_stepNumber
set_option maxRecDepth 20000 in
theorem ggX7_isReadInto_X8_startWith : GoodIn wsX7_isReadInto wsX8_startWith := goodIn_r _ [80, 81, 82, 83, 84, 85, 86, 87, 88, 89, 158, 159, 160, 161, 162, 163, 164, 165, 166, 167, 168, 169, 170, 171] (by decide +kernel) (by decide +kernel)
set_option maxRecDepth 20000 in
theorem gX7_isReadInto_X8_startWith : GoodIn wsX7_isReadInto (wsV RX7 44 RX8 yX8_startWith wsX8_startWith) := goodIn_app (goodIn_of _ (by decide +kernel)) ggX7_isReadInto_X8_startWith
set_option maxRecDepth 20000 in
theorem ggX7_isReadInto_X7_stepStop : GoodIn wsX7_isReadInto wsX7_stepStop := goodIn_r _ [93, 3, 4, 5, 6, 7, 8, 1, 9, 10, 11, 2, 12, 13, 14, 15, 16, 17, 18, 152, 153, 154, 155, 156, 157] (by decide +kernel) (by decide +kernel)
set_option maxRecDepth 20000 in
theorem gX7_isReadInto_X7_stepStop : GoodIn wsX7_isReadInto (wsV RX7 50 RX7 yX7_stepStop wsX7_stepStop) := goodIn_app (goodIn_of _ (by decide +kernel)) ggX7_isReadInto_X7_stepStop
set_option maxRecDepth 20000 in
theorem ggX7_isReadInto_X7_isTiePiece : GoodIn wsX7_isReadInto wsX7_isTiePiece := goodIn_r _ [97, 98, 99, 2, 3, 72, 73, 74, 7, 75, 4, 5, 6, 8, 1, 9, 10, 11, 12, 13, 14, 15, 16, 17, 18, 100, 101, 102, 79, 103, 82, 104, 105, 106, 107, 108, 109, 110, 111, 112, 113, 114, 115, 116, 117, 118, 119, 120, 121, 122, 123, 124, 125, 126, 127, 128, 129, 130, 19, 20, 21, 22, 23, 24, 25, 26, 27, 28, 29, 30, 31, 32, 33, 34, 35, 36, 37, 38, 39, 40, 41, 42, 43, 44, 45, 46, 47, 48, 49, 50, 51, 52, 53, 54, 55, 56, 57, 58, 59, 60, 61, 62, 63, 64, 65, 66, 67, 68, 69, 70, 71, 158, 159, 160, 161, 162, 163, 164, 165, 166, 167, 168, 169, 170, 171, 152, 153, 154, 155, 156, 157] (by decide +kernel) (by decide +kernel)
set_option maxRecDepth 20000 in
theorem gX7_isReadInto_X7_isTiePiece : GoodIn wsX7_isReadInto (wsV RX7 56 RX7 yX7_isTiePiece wsX7_isTiePiece) := goodIn_app (goodIn_of _ (by decide +kernel)) ggX7_isReadInto_X7_isTiePiece
set_option maxRecDepth 20000 in
theorem ggX7_isReadInto_X7_isFirstPiece : GoodIn wsX7_isReadInto wsX7_isFirstPiece := goodIn_r _ [134, 99, 2, 135, 72, 73, 74, 7, 75, 3, 4, 5, 6, 8, 1, 9, 10, 11, 12, 13, 14, 15, 16, 17, 18, 19, 20, 21, 22, 23, 24, 25, 26, 27, 28, 29, 30, 31, 32, 33, 34, 35, 36, 37, 38, 39, 40, 41, 42, 43, 44, 45, 46, 47, 48, 49, 50, 51, 52, 53, 54, 55, 56, 57, 58, 59, 60, 61, 62, 63, 64, 65, 66, 67, 68, 69, 70, 71, 90, 91, 92, 93, 158, 159, 160, 161, 162, 163, 164, 165, 166, 167, 168, 169, 170, 171, 152, 153, 154, 155, 156, 157] (by decide +kernel) (by decide +kernel)
set_option maxRecDepth 20000 in
theorem gX7_isReadInto_X7_isFirstPiece : GoodIn wsX7_isReadInto (wsV RX7 62 RX7 yX7_isFirstPiece wsX7_isFirstPiece) := goodIn_app (goodIn_of _ (by decide +kernel)) ggX7_isReadInto_X7_isFirstPiece
set_option maxRecDepth 20000 in
theorem ggX7_isReadInto_X7_isSeatPiece : GoodIn wsX7_isReadInto wsX7_isSeatPiece := goodIn_r _ [139, 140, 99, 2, 3, 72, 73, 74, 7, 75, 4, 5, 6, 8, 1, 9, 10, 11, 12, 13, 14, 15, 16, 17, 18, 19, 20, 21, 22, 23, 24, 25, 26, 27, 28, 29, 30, 31, 32, 33, 34, 35, 36, 37, 38, 39, 40, 41, 42, 43, 44, 45, 46, 47, 48, 49, 50, 51, 52, 53, 54, 55, 56, 57, 58, 59, 60, 61, 62, 63, 64, 65, 66, 67, 68, 69, 70, 71, 141, 142, 143, 79, 144, 83, 145, 146, 147, 158, 159, 160, 161, 162, 163, 164, 165, 166, 167, 168, 169, 170, 171, 152, 153, 154, 155, 156, 157] (by decide +kernel) (by decide +kernel)
set_option maxRecDepth 20000 in
theorem gX7_isReadInto_X7_isSeatPiece : GoodIn wsX7_isReadInto (wsV RX7 67 RX7 yX7_isSeatPiece wsX7_isSeatPiece) := goodIn_app (goodIn_of _ (by decide +kernel)) ggX7_isReadInto_X7_isSeatPiece
set_option maxRecDepth 20000 in
theorem ggX7_isReadInto_X7_isLatePiece : GoodIn wsX7_isReadInto wsX7_isLatePiece := goodIn_r _ [151, 140, 98, 2, 72, 73, 74, 7, 75, 3, 4, 5, 6, 8, 1, 9, 10, 11, 12, 13, 14, 15, 16, 17, 18, 141, 142, 143, 79, 144, 83, 145, 146, 147, 90, 91, 92, 93, 158, 159, 160, 161, 162, 163, 164, 165, 166, 167, 168, 169, 170, 171, 152, 153, 154, 155, 156, 157] (by decide +kernel) (by decide +kernel)
set_option maxRecDepth 20000 in
theorem gX7_isReadInto_X7_isLatePiece : GoodIn wsX7_isReadInto (wsV RX7 72 RX7 yX7_isLatePiece wsX7_isLatePiece) := goodIn_app (goodIn_of _ (by decide +kernel)) ggX7_isReadInto_X7_isLatePiece
theorem dX7_isReadInto_0 : decode cX7_isReadInto 0 = .ok (.aload_n 0, 1) := by decide +kernel
theorem dX7_isReadInto_1 : decode cX7_isReadInto 1 = .ok (.iconst 0, 1) := by decide +kernel
theorem dX7_isReadInto_2 : decode cX7_isReadInto 2 = .ok (.putfield 22, 3) := by decide +kernel
theorem dX7_isReadInto_5 : decode cX7_isReadInto 5 = .ok (.aload_n 0, 1) := by decide +kernel
theorem dX7_isReadInto_6 : decode cX7_isReadInto 6 = .ok (.invokevirtual 31, 3) := by decide +kernel
theorem dX7_isReadInto_9 : decode cX7_isReadInto 9 = .ok (.aload_n 0, 1) := by decide +kernel
theorem dX7_isReadInto_10 : decode cX7_isReadInto 10 = .ok (.ldc 34, 2) := by decide +kernel
theorem dX7_isReadInto_12 : decode cX7_isReadInto 12 = .ok (.invokevirtual 36, 3) := by decide +kernel
theorem dX7_isReadInto_15 : decode cX7_isReadInto 15 = .ok (.ifCond .eq 13, 3) := by decide +kernel
theorem dX7_isReadInto_18 : decode cX7_isReadInto 18 = .ok (.aload_n 0, 1) := by decide +kernel
theorem dX7_isReadInto_19 : decode cX7_isReadInto 19 = .ok (.iconst 1, 1) := by decide +kernel
theorem dX7_isReadInto_20 : decode cX7_isReadInto 20 = .ok (.bipush 10, 2) := by decide +kernel
theorem dX7_isReadInto_22 : decode cX7_isReadInto 22 = .ok (.invokevirtual 40, 3) := by decide +kernel
theorem dX7_isReadInto_25 : decode cX7_isReadInto 25 = .ok (.ifCond .ne 5, 3) := by decide +kernel
theorem dX7_isReadInto_28 : decode cX7_isReadInto 28 = .ok (.iconst 0, 1) := by decide +kernel
theorem dX7_isReadInto_29 : decode cX7_isReadInto 29 = .ok (.ireturn, 1) := by decide +kernel
theorem dX7_isReadInto_30 : decode cX7_isReadInto 30 = .ok (.aload_n 1, 1) := by decide +kernel
theorem dX7_isReadInto_31 : decode cX7_isReadInto 31 = .ok (.aload_n 0, 1) := by decide +kernel
theorem dX7_isReadInto_32 : decode cX7_isReadInto 32 = .ok (.getfield 28, 3) := by decide +kernel
theorem dX7_isReadInto_35 : decode cX7_isReadInto 35 = .ok (.invokevirtual 44, 3) := by decide +kernel
theorem dX7_isReadInto_38 : decode cX7_isReadInto 38 = .ok (.aload_n 0, 1) := by decide +kernel
theorem dX7_isReadInto_39 : decode cX7_isReadInto 39 = .ok (.invokevirtual 50, 3) := by decide +kernel
theorem dX7_isReadInto_42 : decode cX7_isReadInto 42 = .ok (.ifCond .ne 5, 3) := by decide +kernel
theorem dX7_isReadInto_45 : decode cX7_isReadInto 45 = .ok (.iconst 0, 1) := by decide +kernel
theorem dX7_isReadInto_46 : decode cX7_isReadInto 46 = .ok (.ireturn, 1) := by decide +kernel
theorem dX7_isReadInto_47 : decode cX7_isReadInto 47 = .ok (.aload_n 0, 1) := by decide +kernel
theorem dX7_isReadInto_48 : decode cX7_isReadInto 48 = .ok (.invokevirtual 31, 3) := by decide +kernel
theorem dX7_isReadInto_51 : decode cX7_isReadInto 51 = .ok (.iconst 0, 1) := by decide +kernel
theorem dX7_isReadInto_52 : decode cX7_isReadInto 52 = .ok (.istore_n 2, 1) := by decide +kernel
theorem dX7_isReadInto_53 : decode cX7_isReadInto 53 = .ok (.iload_n 2, 1) := by decide +kernel
theorem dX7_isReadInto_54 : decode cX7_isReadInto 54 = .ok (.sipush 200, 3) := by decide +kernel
theorem dX7_isReadInto_57 : decode cX7_isReadInto 57 = .ok (.if_icmp .ge 100, 3) := by decide +kernel
theorem dX7_isReadInto_60 : decode cX7_isReadInto 60 = .ok (.aload_n 0, 1) := by decide +kernel
theorem dX7_isReadInto_61 : decode cX7_isReadInto 61 = .ok (.getfield 25, 3) := by decide +kernel
theorem dX7_isReadInto_64 : decode cX7_isReadInto 64 = .ok (.ifCond .eq 93, 3) := by decide +kernel
theorem dX7_isReadInto_67 : decode cX7_isReadInto 67 = .ok (.aload_n 0, 1) := by decide +kernel
theorem dX7_isReadInto_68 : decode cX7_isReadInto 68 = .ok (.ldc 54, 2) := by decide +kernel
theorem dX7_isReadInto_70 : decode cX7_isReadInto 70 = .ok (.invokevirtual 36, 3) := by decide +kernel
theorem dX7_isReadInto_73 : decode cX7_isReadInto 73 = .ok (.ifCond .eq 11, 3) := by decide +kernel
theorem dX7_isReadInto_76 : decode cX7_isReadInto 76 = .ok (.aload_n 0, 1) := by decide +kernel
theorem dX7_isReadInto_77 : decode cX7_isReadInto 77 = .ok (.aload_n 1, 1) := by decide +kernel
theorem dX7_isReadInto_78 : decode cX7_isReadInto 78 = .ok (.invokevirtual 56, 3) := by decide +kernel
theorem dX7_isReadInto_81 : decode cX7_isReadInto 81 = .ok (.goto 59, 3) := by decide +kernel
theorem dX7_isReadInto_84 : decode cX7_isReadInto 84 = .ok (.aload_n 0, 1) := by decide +kernel
theorem dX7_isReadInto_85 : decode cX7_isReadInto 85 = .ok (.ldc 60, 2) := by decide +kernel
theorem dX7_isReadInto_87 : decode cX7_isReadInto 87 = .ok (.invokevirtual 36, 3) := by decide +kernel
theorem dX7_isReadInto_90 : decode cX7_isReadInto 90 = .ok (.ifCond .eq 11, 3) := by decide +kernel
theorem dX7_isReadInto_93 : decode cX7_isReadInto 93 = .ok (.aload_n 0, 1) := by decide +kernel
theorem dX7_isReadInto_94 : decode cX7_isReadInto 94 = .ok (.aload_n 1, 1) := by decide +kernel
theorem dX7_isReadInto_95 : decode cX7_isReadInto 95 = .ok (.invokevirtual 62, 3) := by decide +kernel
theorem dX7_isReadInto_98 : decode cX7_isReadInto 98 = .ok (.goto 42, 3) := by decide +kernel
theorem dX7_isReadInto_101 : decode cX7_isReadInto 101 = .ok (.aload_n 0, 1) := by decide +kernel
theorem dX7_isReadInto_102 : decode cX7_isReadInto 102 = .ok (.ldc 65, 2) := by decide +kernel
theorem dX7_isReadInto_104 : decode cX7_isReadInto 104 = .ok (.invokevirtual 36, 3) := by decide +kernel
theorem dX7_isReadInto_107 : decode cX7_isReadInto 107 = .ok (.ifCond .eq 11, 3) := by decide +kernel
theorem dX7_isReadInto_110 : decode cX7_isReadInto 110 = .ok (.aload_n 0, 1) := by decide +kernel
theorem dX7_isReadInto_111 : decode cX7_isReadInto 111 = .ok (.aload_n 1, 1) := by decide +kernel
theorem dX7_isReadInto_112 : decode cX7_isReadInto 112 = .ok (.invokevirtual 67, 3) := by decide +kernel
theorem dX7_isReadInto_115 : decode cX7_isReadInto 115 = .ok (.goto 25, 3) := by decide +kernel
theorem dX7_isReadInto_118 : decode cX7_isReadInto 118 = .ok (.aload_n 0, 1) := by decide +kernel
theorem dX7_isReadInto_119 : decode cX7_isReadInto 119 = .ok (.ldc 70, 2) := by decide +kernel
theorem dX7_isReadInto_121 : decode cX7_isReadInto 121 = .ok (.invokevirtual 36, 3) := by decide +kernel
theorem dX7_isReadInto_124 : decode cX7_isReadInto 124 = .ok (.ifCond .eq 15, 3) := by decide +kernel
theorem dX7_isReadInto_127 : decode cX7_isReadInto 127 = .ok (.aload_n 0, 1) := by decide +kernel
theorem dX7_isReadInto_128 : decode cX7_isReadInto 128 = .ok (.aload_n 1, 1) := by decide +kernel
theorem dX7_isReadInto_129 : decode cX7_isReadInto 129 = .ok (.invokevirtual 72, 3) := by decide +kernel
theorem dX7_isReadInto_132 : decode cX7_isReadInto 132 = .ok (.ifCond .eq 7, 3) := by decide +kernel
theorem dX7_isReadInto_135 : decode cX7_isReadInto 135 = .ok (.iconst 1, 1) := by decide +kernel
theorem dX7_isReadInto_136 : decode cX7_isReadInto 136 = .ok (.goto 4, 3) := by decide +kernel
theorem dX7_isReadInto_139 : decode cX7_isReadInto 139 = .ok (.iconst 0, 1) := by decide +kernel
theorem dX7_isReadInto_140 : decode cX7_isReadInto 140 = .ok (.istore_n 3, 1) := by decide +kernel
theorem dX7_isReadInto_141 : decode cX7_isReadInto 141 = .ok (.iload_n 3, 1) := by decide +kernel
theorem dX7_isReadInto_142 : decode cX7_isReadInto 142 = .ok (.ifCond .ne 5, 3) := by decide +kernel
theorem dX7_isReadInto_145 : decode cX7_isReadInto 145 = .ok (.iconst 0, 1) := by decide +kernel
theorem dX7_isReadInto_146 : decode cX7_isReadInto 146 = .ok (.ireturn, 1) := by decide +kernel
theorem dX7_isReadInto_147 : decode cX7_isReadInto 147 = .ok (.aload_n 0, 1) := by decide +kernel
theorem dX7_isReadInto_148 : decode cX7_isReadInto 148 = .ok (.invokevirtual 31, 3) := by decide +kernel
theorem dX7_isReadInto_151 : decode cX7_isReadInto 151 = .ok (.iinc 2 1, 3) := by decide +kernel
theorem dX7_isReadInto_154 : decode cX7_isReadInto 154 = .ok (.goto (-101), 3) := by decide +kernel
theorem dX7_isReadInto_157 : decode cX7_isReadInto 157 = .ok (.aload_n 0, 1) := by decide +kernel
theorem dX7_isReadInto_158 : decode cX7_isReadInto 158 = .ok (.getfield 25, 3) := by decide +kernel
theorem dX7_isReadInto_161 : decode cX7_isReadInto 161 = .ok (.ifCond .ne 7, 3) := by decide +kernel
theorem dX7_isReadInto_164 : decode cX7_isReadInto 164 = .ok (.iconst 1, 1) := by decide +kernel
theorem dX7_isReadInto_165 : decode cX7_isReadInto 165 = .ok (.goto 4, 3) := by decide +kernel
theorem dX7_isReadInto_168 : decode cX7_isReadInto 168 = .ok (.iconst 0, 1) := by decide +kernel
theorem dX7_isReadInto_169 : decode cX7_isReadInto 169 = .ok (.ireturn, 1) := by decide +kernel
set_option maxRecDepth 20000 in
theorem ggX7_isTiePiece_X7_stepNumber : GoodIn wsX7_isTiePiece wsX7_stepNumber := goodIn_r _ [9, 4, 3, 10, 11, 12, 8, 13, 14, 15, 16, 17, 18, 19, 20, 21, 22, 23, 24, 125, 126, 127, 128, 129, 130] (by decide +kernel) (by decide +kernel)
set_option maxRecDepth 20000 in
theorem gX7_isTiePiece_X7_stepNumber : GoodIn wsX7_isTiePiece (wsV RX7 40 RX7 yX7_stepNumber wsX7_stepNumber) := goodIn_app (goodIn_of _ (by decide +kernel)) ggX7_isTiePiece_X7_stepNumber
set_option maxRecDepth 20000 in
theorem ggX7_isTiePiece_X8_tieBetween : GoodIn wsX7_isTiePiece wsX8_tieBetween := goodIn_r _ [29, 30, 31, 32, 33, 34, 35, 36, 37, 38, 39, 111, 112, 113, 114, 115, 116, 117, 118, 119, 120, 121, 122, 123, 124] (by decide +kernel) (by decide +kernel)
set_option maxRecDepth 20000 in
theorem gX7_isTiePiece_X8_tieBetween : GoodIn wsX7_isTiePiece (wsV RX7 81 RX8 yX8_tieBetween wsX8_tieBetween) := goodIn_app (goodIn_of _ (by decide +kernel)) ggX7_isTiePiece_X8_tieBetween
set_option maxRecDepth 20000 in
theorem ggX7_isTiePiece_X8_addTie : GoodIn wsX7_isTiePiece wsX8_addTie := goodIn_r _ [43, 30, 31, 32, 33, 34, 35, 36, 37, 38, 39, 44, 45, 46, 111, 112, 113, 114, 115, 116, 117, 118, 119, 120, 121, 122, 123, 124] (by decide +kernel) (by decide +kernel)
set_option maxRecDepth 20000 in
theorem gX7_isTiePiece_X8_addTie : GoodIn wsX7_isTiePiece (wsV RX7 85 RX8 yX8_addTie wsX8_addTie) := goodIn_app (goodIn_of _ (by decide +kernel)) ggX7_isTiePiece_X8_addTie
set_option maxRecDepth 20000 in
theorem ggX7_isTiePiece_X7_step : GoodIn wsX7_isTiePiece wsX7_step := goodIn_r _ [13, 14, 15, 16, 17, 3, 4, 18, 19, 8, 20, 21, 22, 23, 24, 125, 126, 127, 128, 129, 130] (by decide +kernel) (by decide +kernel)
set_option maxRecDepth 20000 in
theorem gX7_isTiePiece_X7_step : GoodIn wsX7_isTiePiece (wsV RX7 31 RX7 yX7_step wsX7_step) := goodIn_app (goodIn_of _ (by decide +kernel)) ggX7_isTiePiece_X7_step
set_option maxRecDepth 20000 in
theorem ggX7_isTiePiece_X7_readExtra : GoodIn wsX7_isTiePiece wsX7_readExtra := goodIn_r _ [50, 51, 3, 52, 53, 54, 55, 56, 8, 57, 58, 59, 60, 61, 4, 14, 17, 16, 62, 63, 64, 65, 66, 67, 68, 69, 70, 71, 72, 73, 74, 75, 76, 77, 78, 79, 80, 81, 82, 83, 84, 85, 86, 87, 88, 89, 90, 91, 92, 93, 94, 95, 96, 97, 98, 99, 100, 101, 102, 103, 104, 105, 106, 107, 108, 109, 110, 5, 6, 7, 9, 10, 11, 12, 13, 15, 18, 19, 20, 21, 22, 23, 24, 111, 112, 113, 114, 115, 116, 117, 118, 119, 120, 121, 122, 123, 124, 125, 126, 127, 128, 129, 130] (by decide +kernel) (by decide +kernel)
set_option maxRecDepth 20000 in
theorem gX7_isTiePiece_X7_readExtra : GoodIn wsX7_isTiePiece (wsV RX7 88 RX7 yX7_readExtra wsX7_readExtra) := goodIn_app (goodIn_of _ (by decide +kernel)) ggX7_isTiePiece_X7_readExtra
theorem dX7_isTiePiece_0 : decode cX7_isTiePiece 0 = .ok (.aload_n 1, 1) := by decide +kernel
theorem dX7_isTiePiece_1 : decode cX7_isTiePiece 1 = .ok (.getfield 75, 3) := by decide +kernel
theorem dX7_isTiePiece_4 : decode cX7_isTiePiece 4 = .ok (.bipush 14, 2) := by decide +kernel
theorem dX7_isTiePiece_6 : decode cX7_isTiePiece 6 = .ok (.if_icmp .ge 17, 3) := by decide +kernel
theorem dX7_isTiePiece_9 : decode cX7_isTiePiece 9 = .ok (.aload_n 0, 1) := by decide +kernel
theorem dX7_isTiePiece_10 : decode cX7_isTiePiece 10 = .ok (.iconst 0, 1) := by decide +kernel
theorem dX7_isTiePiece_11 : decode cX7_isTiePiece 11 = .ok (.aload_n 1, 1) := by decide +kernel
theorem dX7_isTiePiece_12 : decode cX7_isTiePiece 12 = .ok (.getfield 78, 3) := by decide +kernel
theorem dX7_isTiePiece_15 : decode cX7_isTiePiece 15 = .ok (.iconst 1, 1) := by decide +kernel
theorem dX7_isTiePiece_16 : decode cX7_isTiePiece 16 = .ok (.isub, 1) := by decide +kernel
theorem dX7_isTiePiece_17 : decode cX7_isTiePiece 17 = .ok (.invokevirtual 40, 3) := by decide +kernel
theorem dX7_isTiePiece_20 : decode cX7_isTiePiece 20 = .ok (.ifCond .ne 5, 3) := by decide +kernel
theorem dX7_isTiePiece_23 : decode cX7_isTiePiece 23 = .ok (.iconst 0, 1) := by decide +kernel
theorem dX7_isTiePiece_24 : decode cX7_isTiePiece 24 = .ok (.ireturn, 1) := by decide +kernel
theorem dX7_isTiePiece_25 : decode cX7_isTiePiece 25 = .ok (.aload_n 0, 1) := by decide +kernel
theorem dX7_isTiePiece_26 : decode cX7_isTiePiece 26 = .ok (.getfield 28, 3) := by decide +kernel
theorem dX7_isTiePiece_29 : decode cX7_isTiePiece 29 = .ok (.istore_n 2, 1) := by decide +kernel
theorem dX7_isTiePiece_30 : decode cX7_isTiePiece 30 = .ok (.aload_n 0, 1) := by decide +kernel
theorem dX7_isTiePiece_31 : decode cX7_isTiePiece 31 = .ok (.iconst 0, 1) := by decide +kernel
theorem dX7_isTiePiece_32 : decode cX7_isTiePiece 32 = .ok (.aload_n 1, 1) := by decide +kernel
theorem dX7_isTiePiece_33 : decode cX7_isTiePiece 33 = .ok (.getfield 78, 3) := by decide +kernel
theorem dX7_isTiePiece_36 : decode cX7_isTiePiece 36 = .ok (.iconst 1, 1) := by decide +kernel
theorem dX7_isTiePiece_37 : decode cX7_isTiePiece 37 = .ok (.isub, 1) := by decide +kernel
theorem dX7_isTiePiece_38 : decode cX7_isTiePiece 38 = .ok (.invokevirtual 40, 3) := by decide +kernel
theorem dX7_isTiePiece_41 : decode cX7_isTiePiece 41 = .ok (.ifCond .eq 23, 3) := by decide +kernel
theorem dX7_isTiePiece_44 : decode cX7_isTiePiece 44 = .ok (.aload_n 0, 1) := by decide +kernel
theorem dX7_isTiePiece_45 : decode cX7_isTiePiece 45 = .ok (.getfield 28, 3) := by decide +kernel
theorem dX7_isTiePiece_48 : decode cX7_isTiePiece 48 = .ok (.iload_n 2, 1) := by decide +kernel
theorem dX7_isTiePiece_49 : decode cX7_isTiePiece 49 = .ok (.if_icmp .eq 15, 3) := by decide +kernel
theorem dX7_isTiePiece_52 : decode cX7_isTiePiece 52 = .ok (.aload_n 1, 1) := by decide +kernel
theorem dX7_isTiePiece_53 : decode cX7_isTiePiece 53 = .ok (.iload_n 2, 1) := by decide +kernel
theorem dX7_isTiePiece_54 : decode cX7_isTiePiece 54 = .ok (.aload_n 0, 1) := by decide +kernel
theorem dX7_isTiePiece_55 : decode cX7_isTiePiece 55 = .ok (.getfield 28, 3) := by decide +kernel
theorem dX7_isTiePiece_58 : decode cX7_isTiePiece 58 = .ok (.invokevirtual 81, 3) := by decide +kernel
theorem dX7_isTiePiece_61 : decode cX7_isTiePiece 61 = .ok (.ifCond .lt 5, 3) := by decide +kernel
theorem dX7_isTiePiece_64 : decode cX7_isTiePiece 64 = .ok (.iconst 0, 1) := by decide +kernel
theorem dX7_isTiePiece_65 : decode cX7_isTiePiece 65 = .ok (.ireturn, 1) := by decide +kernel
theorem dX7_isTiePiece_66 : decode cX7_isTiePiece 66 = .ok (.aload_n 1, 1) := by decide +kernel
theorem dX7_isTiePiece_67 : decode cX7_isTiePiece 67 = .ok (.iload_n 2, 1) := by decide +kernel
theorem dX7_isTiePiece_68 : decode cX7_isTiePiece 68 = .ok (.aload_n 0, 1) := by decide +kernel
theorem dX7_isTiePiece_69 : decode cX7_isTiePiece 69 = .ok (.getfield 28, 3) := by decide +kernel
theorem dX7_isTiePiece_72 : decode cX7_isTiePiece 72 = .ok (.invokevirtual 85, 3) := by decide +kernel
theorem dX7_isTiePiece_75 : decode cX7_isTiePiece 75 = .ok (.istore_n 3, 1) := by decide +kernel
theorem dX7_isTiePiece_76 : decode cX7_isTiePiece 76 = .ok (.iconst 0, 1) := by decide +kernel
theorem dX7_isTiePiece_77 : decode cX7_isTiePiece 77 = .ok (.istore 4, 2) := by decide +kernel
theorem dX7_isTiePiece_79 : decode cX7_isTiePiece 79 = .ok (.aload_n 0, 1) := by decide +kernel
theorem dX7_isTiePiece_80 : decode cX7_isTiePiece 80 = .ok (.invokevirtual 31, 3) := by decide +kernel
theorem dX7_isTiePiece_83 : decode cX7_isTiePiece 83 = .ok (.iconst 0, 1) := by decide +kernel
theorem dX7_isTiePiece_84 : decode cX7_isTiePiece 84 = .ok (.istore 5, 2) := by decide +kernel
theorem dX7_isTiePiece_86 : decode cX7_isTiePiece 86 = .ok (.iload 5, 2) := by decide +kernel
theorem dX7_isTiePiece_88 : decode cX7_isTiePiece 88 = .ok (.iconst 3, 1) := by decide +kernel
theorem dX7_isTiePiece_89 : decode cX7_isTiePiece 89 = .ok (.if_icmp .ge 45, 3) := by decide +kernel
theorem dX7_isTiePiece_92 : decode cX7_isTiePiece 92 = .ok (.aload_n 0, 1) := by decide +kernel
theorem dX7_isTiePiece_93 : decode cX7_isTiePiece 93 = .ok (.getfield 25, 3) := by decide +kernel
theorem dX7_isTiePiece_96 : decode cX7_isTiePiece 96 = .ok (.iconst 3, 1) := by decide +kernel
theorem dX7_isTiePiece_97 : decode cX7_isTiePiece 97 = .ok (.if_icmp .eq 37, 3) := by decide +kernel
theorem dX7_isTiePiece_100 : decode cX7_isTiePiece 100 = .ok (.aload_n 0, 1) := by decide +kernel
theorem dX7_isTiePiece_101 : decode cX7_isTiePiece 101 = .ok (.aload_n 1, 1) := by decide +kernel
theorem dX7_isTiePiece_102 : decode cX7_isTiePiece 102 = .ok (.iload_n 3, 1) := by decide +kernel
theorem dX7_isTiePiece_103 : decode cX7_isTiePiece 103 = .ok (.iload 4, 2) := by decide +kernel
theorem dX7_isTiePiece_105 : decode cX7_isTiePiece 105 = .ok (.invokevirtual 88, 3) := by decide +kernel
theorem dX7_isTiePiece_108 : decode cX7_isTiePiece 108 = .ok (.istore 6, 2) := by decide +kernel
theorem dX7_isTiePiece_110 : decode cX7_isTiePiece 110 = .ok (.iload 6, 2) := by decide +kernel
theorem dX7_isTiePiece_112 : decode cX7_isTiePiece 112 = .ok (.ifCond .ne 5, 3) := by decide +kernel
theorem dX7_isTiePiece_115 : decode cX7_isTiePiece 115 = .ok (.iconst 0, 1) := by decide +kernel
theorem dX7_isTiePiece_116 : decode cX7_isTiePiece 116 = .ok (.ireturn, 1) := by decide +kernel
theorem dX7_isTiePiece_117 : decode cX7_isTiePiece 117 = .ok (.iload 4, 2) := by decide +kernel
theorem dX7_isTiePiece_119 : decode cX7_isTiePiece 119 = .ok (.iload 6, 2) := by decide +kernel
theorem dX7_isTiePiece_121 : decode cX7_isTiePiece 121 = .ok (.ior, 1) := by decide +kernel
theorem dX7_isTiePiece_122 : decode cX7_isTiePiece 122 = .ok (.istore 4, 2) := by decide +kernel
theorem dX7_isTiePiece_124 : decode cX7_isTiePiece 124 = .ok (.aload_n 0, 1) := by decide +kernel
theorem dX7_isTiePiece_125 : decode cX7_isTiePiece 125 = .ok (.invokevirtual 31, 3) := by decide +kernel
theorem dX7_isTiePiece_128 : decode cX7_isTiePiece 128 = .ok (.iinc 5 1, 3) := by decide +kernel
theorem dX7_isTiePiece_131 : decode cX7_isTiePiece 131 = .ok (.goto (-45), 3) := by decide +kernel
theorem dX7_isTiePiece_134 : decode cX7_isTiePiece 134 = .ok (.aload_n 0, 1) := by decide +kernel
theorem dX7_isTiePiece_135 : decode cX7_isTiePiece 135 = .ok (.getfield 25, 3) := by decide +kernel
theorem dX7_isTiePiece_138 : decode cX7_isTiePiece 138 = .ok (.iconst 3, 1) := by decide +kernel
theorem dX7_isTiePiece_139 : decode cX7_isTiePiece 139 = .ok (.if_icmp .ne 7, 3) := by decide +kernel
theorem dX7_isTiePiece_142 : decode cX7_isTiePiece 142 = .ok (.iconst 1, 1) := by decide +kernel
theorem dX7_isTiePiece_143 : decode cX7_isTiePiece 143 = .ok (.goto 4, 3) := by decide +kernel
theorem dX7_isTiePiece_146 : decode cX7_isTiePiece 146 = .ok (.iconst 0, 1) := by decide +kernel
theorem dX7_isTiePiece_147 : decode cX7_isTiePiece 147 = .ok (.ireturn, 1) := by decide +kernel
set_option maxRecDepth 20000 in
theorem ggX7_extraNamed_X7_isWord : GoodIn wsX7_extraNamed wsX7_isWord := goodIn_r _ [5, 6, 7, 8, 9, 10, 11, 12, 13, 14, 15, 16, 17, 18, 19, 20, 21, 22, 23, 24, 25, 26, 27, 28, 29, 30, 31, 32, 33, 34, 35, 36, 37, 38, 39, 40, 41, 42, 43, 44, 45, 46, 47, 48, 49, 50, 51, 52, 53, 54, 55, 56, 57, 58, 59, 60, 61, 62, 63, 64] (by decide +kernel) (by decide +kernel)
set_option maxRecDepth 20000 in
theorem gX7_extraNamed_X7_isWord : GoodIn wsX7_extraNamed (wsV RX7 36 RX7 yX7_isWord wsX7_isWord) := goodIn_app (goodIn_of _ (by decide +kernel)) ggX7_extraNamed_X7_isWord
theorem dX7_extraNamed_0 : decode cX7_extraNamed 0 = .ok (.aload_n 0, 1) := by decide +kernel
theorem dX7_extraNamed_1 : decode cX7_extraNamed 1 = .ok (.ldc 92, 2) := by decide +kernel
theorem dX7_extraNamed_3 : decode cX7_extraNamed 3 = .ok (.invokevirtual 36, 3) := by decide +kernel
theorem dX7_extraNamed_6 : decode cX7_extraNamed 6 = .ok (.ifCond .eq 5, 3) := by decide +kernel
theorem dX7_extraNamed_9 : decode cX7_extraNamed 9 = .ok (.iconst 1, 1) := by decide +kernel
theorem dX7_extraNamed_10 : decode cX7_extraNamed 10 = .ok (.ireturn, 1) := by decide +kernel
theorem dX7_extraNamed_11 : decode cX7_extraNamed 11 = .ok (.aload_n 0, 1) := by decide +kernel
theorem dX7_extraNamed_12 : decode cX7_extraNamed 12 = .ok (.ldc 94, 2) := by decide +kernel
theorem dX7_extraNamed_14 : decode cX7_extraNamed 14 = .ok (.invokevirtual 36, 3) := by decide +kernel
theorem dX7_extraNamed_17 : decode cX7_extraNamed 17 = .ok (.ifCond .eq 5, 3) := by decide +kernel
theorem dX7_extraNamed_20 : decode cX7_extraNamed 20 = .ok (.iconst 2, 1) := by decide +kernel
theorem dX7_extraNamed_21 : decode cX7_extraNamed 21 = .ok (.ireturn, 1) := by decide +kernel
theorem dX7_extraNamed_22 : decode cX7_extraNamed 22 = .ok (.aload_n 0, 1) := by decide +kernel
theorem dX7_extraNamed_23 : decode cX7_extraNamed 23 = .ok (.ldc 96, 2) := by decide +kernel
theorem dX7_extraNamed_25 : decode cX7_extraNamed 25 = .ok (.invokevirtual 36, 3) := by decide +kernel
theorem dX7_extraNamed_28 : decode cX7_extraNamed 28 = .ok (.ifCond .eq 7, 3) := by decide +kernel
theorem dX7_extraNamed_31 : decode cX7_extraNamed 31 = .ok (.iconst 4, 1) := by decide +kernel
theorem dX7_extraNamed_32 : decode cX7_extraNamed 32 = .ok (.goto 4, 3) := by decide +kernel
theorem dX7_extraNamed_35 : decode cX7_extraNamed 35 = .ok (.iconst 0, 1) := by decide +kernel
theorem dX7_extraNamed_36 : decode cX7_extraNamed 36 = .ok (.ireturn, 1) := by decide +kernel
set_option maxRecDepth 20000 in
theorem ggX7_readExtra_X7_extraNamed : GoodIn wsX7_readExtra wsX7_extraNamed := goodIn_r _ [9, 10, 11, 12, 8, 13, 14, 15, 16, 17, 18, 19, 20, 21, 22, 23, 24, 25, 26, 27, 28, 29, 30, 31, 32, 33, 34, 35, 36, 37, 38, 39, 40, 41, 42, 43, 44, 45, 46, 47, 48, 49, 50, 51, 52, 53, 54, 55, 56, 57, 58, 59, 60, 61, 62, 63, 64, 65, 66, 97, 98, 99, 100, 101, 102] (by decide +kernel) (by decide +kernel)
set_option maxRecDepth 20000 in
theorem gX7_readExtra_X7_extraNamed : GoodIn wsX7_readExtra (wsV RX7 98 RX7 yX7_extraNamed wsX7_extraNamed) := goodIn_app (goodIn_of _ (by decide +kernel)) ggX7_readExtra_X7_extraNamed
set_option maxRecDepth 20000 in
theorem ggX7_readExtra_X7_stepNumber : GoodIn wsX7_readExtra wsX7_stepNumber := goodIn_r _ [70, 14, 2, 71, 72, 73, 8, 74, 15, 75, 17, 16, 76, 77, 78, 79, 80, 81, 82, 97, 98, 99, 100, 101, 102] (by decide +kernel) (by decide +kernel)
set_option maxRecDepth 20000 in
theorem gX7_readExtra_X7_stepNumber : GoodIn wsX7_readExtra (wsV RX7 40 RX7 yX7_stepNumber wsX7_stepNumber) := goodIn_app (goodIn_of _ (by decide +kernel)) ggX7_readExtra_X7_stepNumber
theorem dX7_readExtra_0 : decode cX7_readExtra 0 = .ok (.aload_n 0, 1) := by decide +kernel
theorem dX7_readExtra_1 : decode cX7_readExtra 1 = .ok (.invokevirtual 98, 3) := by decide +kernel
theorem dX7_readExtra_4 : decode cX7_readExtra 4 = .ok (.istore 4, 2) := by decide +kernel
theorem dX7_readExtra_6 : decode cX7_readExtra 6 = .ok (.iload_n 3, 1) := by decide +kernel
theorem dX7_readExtra_7 : decode cX7_readExtra 7 = .ok (.iload 4, 2) := by decide +kernel
theorem dX7_readExtra_9 : decode cX7_readExtra 9 = .ok (.iand, 1) := by decide +kernel
theorem dX7_readExtra_10 : decode cX7_readExtra 10 = .ok (.ifCond .eq 5, 3) := by decide +kernel
theorem dX7_readExtra_13 : decode cX7_readExtra 13 = .ok (.iconst 0, 1) := by decide +kernel
theorem dX7_readExtra_14 : decode cX7_readExtra 14 = .ok (.ireturn, 1) := by decide +kernel
theorem dX7_readExtra_15 : decode cX7_readExtra 15 = .ok (.iload 4, 2) := by decide +kernel
theorem dX7_readExtra_17 : decode cX7_readExtra 17 = .ok (.tableswitch 90 1 4 #[31, 56, 90, 80], 31) := by decide +kernel
theorem dX7_readExtra_48 : decode cX7_readExtra 48 = .ok (.aload_n 0, 1) := by decide +kernel
theorem dX7_readExtra_49 : decode cX7_readExtra 49 = .ok (.iconst 0, 1) := by decide +kernel
theorem dX7_readExtra_50 : decode cX7_readExtra 50 = .ok (.bipush 99, 2) := by decide +kernel
theorem dX7_readExtra_52 : decode cX7_readExtra 52 = .ok (.invokevirtual 40, 3) := by decide +kernel
theorem dX7_readExtra_55 : decode cX7_readExtra 55 = .ok (.ifCond .ne 5, 3) := by decide +kernel
theorem dX7_readExtra_58 : decode cX7_readExtra 58 = .ok (.iconst 0, 1) := by decide +kernel
theorem dX7_readExtra_59 : decode cX7_readExtra 59 = .ok (.ireturn, 1) := by decide +kernel
theorem dX7_readExtra_60 : decode cX7_readExtra 60 = .ok (.aload_n 1, 1) := by decide +kernel
theorem dX7_readExtra_61 : decode cX7_readExtra 61 = .ok (.getfield 102, 3) := by decide +kernel
theorem dX7_readExtra_64 : decode cX7_readExtra 64 = .ok (.iload_n 2, 1) := by decide +kernel
theorem dX7_readExtra_65 : decode cX7_readExtra 65 = .ok (.aload_n 0, 1) := by decide +kernel
theorem dX7_readExtra_66 : decode cX7_readExtra 66 = .ok (.getfield 28, 3) := by decide +kernel
theorem dX7_readExtra_69 : decode cX7_readExtra 69 = .ok (.iastore, 1) := by decide +kernel
theorem dX7_readExtra_70 : decode cX7_readExtra 70 = .ok (.iload 4, 2) := by decide +kernel
theorem dX7_readExtra_72 : decode cX7_readExtra 72 = .ok (.ireturn, 1) := by decide +kernel
theorem dX7_readExtra_73 : decode cX7_readExtra 73 = .ok (.aload_n 0, 1) := by decide +kernel
theorem dX7_readExtra_74 : decode cX7_readExtra 74 = .ok (.iconst 1, 1) := by decide +kernel
theorem dX7_readExtra_75 : decode cX7_readExtra 75 = .ok (.iconst 4, 1) := by decide +kernel
theorem dX7_readExtra_76 : decode cX7_readExtra 76 = .ok (.invokevirtual 40, 3) := by decide +kernel
theorem dX7_readExtra_79 : decode cX7_readExtra 79 = .ok (.ifCond .ne 5, 3) := by decide +kernel
theorem dX7_readExtra_82 : decode cX7_readExtra 82 = .ok (.iconst 0, 1) := by decide +kernel
theorem dX7_readExtra_83 : decode cX7_readExtra 83 = .ok (.ireturn, 1) := by decide +kernel
theorem dX7_readExtra_84 : decode cX7_readExtra 84 = .ok (.aload_n 1, 1) := by decide +kernel
theorem dX7_readExtra_85 : decode cX7_readExtra 85 = .ok (.getfield 105, 3) := by decide +kernel
theorem dX7_readExtra_88 : decode cX7_readExtra 88 = .ok (.iload_n 2, 1) := by decide +kernel
theorem dX7_readExtra_89 : decode cX7_readExtra 89 = .ok (.aload_n 0, 1) := by decide +kernel
theorem dX7_readExtra_90 : decode cX7_readExtra 90 = .ok (.getfield 28, 3) := by decide +kernel
theorem dX7_readExtra_93 : decode cX7_readExtra 93 = .ok (.iastore, 1) := by decide +kernel
theorem dX7_readExtra_94 : decode cX7_readExtra 94 = .ok (.iload 4, 2) := by decide +kernel
theorem dX7_readExtra_96 : decode cX7_readExtra 96 = .ok (.ireturn, 1) := by decide +kernel
theorem dX7_readExtra_97 : decode cX7_readExtra 97 = .ok (.aload_n 1, 1) := by decide +kernel
theorem dX7_readExtra_98 : decode cX7_readExtra 98 = .ok (.getfield 107, 3) := by decide +kernel
theorem dX7_readExtra_101 : decode cX7_readExtra 101 = .ok (.iload_n 2, 1) := by decide +kernel
theorem dX7_readExtra_102 : decode cX7_readExtra 102 = .ok (.iconst 1, 1) := by decide +kernel
theorem dX7_readExtra_103 : decode cX7_readExtra 103 = .ok (.bastore, 1) := by decide +kernel
theorem dX7_readExtra_104 : decode cX7_readExtra 104 = .ok (.iload 4, 2) := by decide +kernel
theorem dX7_readExtra_106 : decode cX7_readExtra 106 = .ok (.ireturn, 1) := by decide +kernel
theorem dX7_readExtra_107 : decode cX7_readExtra 107 = .ok (.iconst 0, 1) := by decide +kernel
theorem dX7_readExtra_108 : decode cX7_readExtra 108 = .ok (.ireturn, 1) := by decide +kernel
set_option maxRecDepth 20000 in
theorem ggX7_isFirstPiece_X7_stepNumber : GoodIn wsX7_isFirstPiece wsX7_stepNumber := goodIn_r _ [8, 9, 2, 10, 11, 12, 7, 13, 14, 15, 16, 17, 18, 19, 20, 21, 22, 23, 24, 96, 97, 98, 99, 100, 101] (by decide +kernel) (by decide +kernel)
set_option maxRecDepth 20000 in
theorem gX7_isFirstPiece_X7_stepNumber : GoodIn wsX7_isFirstPiece (wsV RX7 40 RX7 yX7_stepNumber wsX7_stepNumber) := goodIn_app (goodIn_of _ (by decide +kernel)) ggX7_isFirstPiece_X7_stepNumber
set_option maxRecDepth 20000 in
theorem ggX7_isFirstPiece_X7_step : GoodIn wsX7_isFirstPiece wsX7_step := goodIn_r _ [13, 14, 15, 16, 17, 2, 9, 18, 19, 7, 20, 21, 22, 23, 24, 96, 97, 98, 99, 100, 101] (by decide +kernel) (by decide +kernel)
set_option maxRecDepth 20000 in
theorem gX7_isFirstPiece_X7_step : GoodIn wsX7_isFirstPiece (wsV RX7 31 RX7 yX7_step wsX7_step) := goodIn_app (goodIn_of _ (by decide +kernel)) ggX7_isFirstPiece_X7_step
set_option maxRecDepth 20000 in
theorem ggX7_isFirstPiece_X7_isWord : GoodIn wsX7_isFirstPiece wsX7_isWord := goodIn_r _ [28, 9, 14, 17, 16, 29, 30, 31, 32, 33, 34, 35, 36, 37, 38, 39, 40, 41, 42, 43, 44, 45, 46, 47, 48, 49, 50, 51, 52, 53, 54, 55, 56, 57, 58, 59, 60, 61, 62, 63, 64, 65, 66, 67, 68, 69, 70, 71, 72, 73, 74, 75, 76, 77, 96, 97, 98, 99, 100, 101] (by decide +kernel) (by decide +kernel)
set_option maxRecDepth 20000 in
theorem gX7_isFirstPiece_X7_isWord : GoodIn wsX7_isFirstPiece (wsV RX7 36 RX7 yX7_isWord wsX7_isWord) := goodIn_app (goodIn_of _ (by decide +kernel)) ggX7_isFirstPiece_X7_isWord
set_option maxRecDepth 20000 in
theorem ggX7_isFirstPiece_X7_stepStop : GoodIn wsX7_isFirstPiece wsX7_stepStop := goodIn_r _ [81, 9, 10, 11, 12, 7, 13, 14, 15, 16, 17, 2, 18, 19, 20, 21, 22, 23, 24, 96, 97, 98, 99, 100, 101] (by decide +kernel) (by decide +kernel)
set_option maxRecDepth 20000 in
theorem gX7_isFirstPiece_X7_stepStop : GoodIn wsX7_isFirstPiece (wsV RX7 50 RX7 yX7_stepStop wsX7_stepStop) := goodIn_app (goodIn_of _ (by decide +kernel)) ggX7_isFirstPiece_X7_stepStop
theorem dX7_isFirstPiece_0 : decode cX7_isFirstPiece 0 = .ok (.aload_n 0, 1) := by decide +kernel
theorem dX7_isFirstPiece_1 : decode cX7_isFirstPiece 1 = .ok (.iconst 0, 1) := by decide +kernel
theorem dX7_isFirstPiece_2 : decode cX7_isFirstPiece 2 = .ok (.aload_n 1, 1) := by decide +kernel
theorem dX7_isFirstPiece_3 : decode cX7_isFirstPiece 3 = .ok (.getfield 78, 3) := by decide +kernel
theorem dX7_isFirstPiece_6 : decode cX7_isFirstPiece 6 = .ok (.iconst 1, 1) := by decide +kernel
theorem dX7_isFirstPiece_7 : decode cX7_isFirstPiece 7 = .ok (.isub, 1) := by decide +kernel
theorem dX7_isFirstPiece_8 : decode cX7_isFirstPiece 8 = .ok (.invokevirtual 40, 3) := by decide +kernel
theorem dX7_isFirstPiece_11 : decode cX7_isFirstPiece 11 = .ok (.ifCond .ne 5, 3) := by decide +kernel
theorem dX7_isFirstPiece_14 : decode cX7_isFirstPiece 14 = .ok (.iconst 0, 1) := by decide +kernel
theorem dX7_isFirstPiece_15 : decode cX7_isFirstPiece 15 = .ok (.ireturn, 1) := by decide +kernel
theorem dX7_isFirstPiece_16 : decode cX7_isFirstPiece 16 = .ok (.aload_n 0, 1) := by decide +kernel
theorem dX7_isFirstPiece_17 : decode cX7_isFirstPiece 17 = .ok (.getfield 28, 3) := by decide +kernel
theorem dX7_isFirstPiece_20 : decode cX7_isFirstPiece 20 = .ok (.istore_n 2, 1) := by decide +kernel
theorem dX7_isFirstPiece_21 : decode cX7_isFirstPiece 21 = .ok (.aload_n 0, 1) := by decide +kernel
theorem dX7_isFirstPiece_22 : decode cX7_isFirstPiece 22 = .ok (.invokevirtual 31, 3) := by decide +kernel
theorem dX7_isFirstPiece_25 : decode cX7_isFirstPiece 25 = .ok (.aload_n 0, 1) := by decide +kernel
theorem dX7_isFirstPiece_26 : decode cX7_isFirstPiece 26 = .ok (.ldc 110, 2) := by decide +kernel
theorem dX7_isFirstPiece_28 : decode cX7_isFirstPiece 28 = .ok (.invokevirtual 36, 3) := by decide +kernel
theorem dX7_isFirstPiece_31 : decode cX7_isFirstPiece 31 = .ok (.ifCond .eq 13, 3) := by decide +kernel
theorem dX7_isFirstPiece_34 : decode cX7_isFirstPiece 34 = .ok (.aload_n 0, 1) := by decide +kernel
theorem dX7_isFirstPiece_35 : decode cX7_isFirstPiece 35 = .ok (.iconst 0, 1) := by decide +kernel
theorem dX7_isFirstPiece_36 : decode cX7_isFirstPiece 36 = .ok (.bipush 9, 2) := by decide +kernel
theorem dX7_isFirstPiece_38 : decode cX7_isFirstPiece 38 = .ok (.invokevirtual 40, 3) := by decide +kernel
theorem dX7_isFirstPiece_41 : decode cX7_isFirstPiece 41 = .ok (.ifCond .ne 5, 3) := by decide +kernel
theorem dX7_isFirstPiece_44 : decode cX7_isFirstPiece 44 = .ok (.iconst 0, 1) := by decide +kernel
theorem dX7_isFirstPiece_45 : decode cX7_isFirstPiece 45 = .ok (.ireturn, 1) := by decide +kernel
theorem dX7_isFirstPiece_46 : decode cX7_isFirstPiece 46 = .ok (.aload_n 1, 1) := by decide +kernel
theorem dX7_isFirstPiece_47 : decode cX7_isFirstPiece 47 = .ok (.getfield 112, 3) := by decide +kernel
theorem dX7_isFirstPiece_50 : decode cX7_isFirstPiece 50 = .ok (.iload_n 2, 1) := by decide +kernel
theorem dX7_isFirstPiece_51 : decode cX7_isFirstPiece 51 = .ok (.aload_n 0, 1) := by decide +kernel
theorem dX7_isFirstPiece_52 : decode cX7_isFirstPiece 52 = .ok (.getfield 28, 3) := by decide +kernel
theorem dX7_isFirstPiece_55 : decode cX7_isFirstPiece 55 = .ok (.iastore, 1) := by decide +kernel
theorem dX7_isFirstPiece_56 : decode cX7_isFirstPiece 56 = .ok (.aload_n 0, 1) := by decide +kernel
theorem dX7_isFirstPiece_57 : decode cX7_isFirstPiece 57 = .ok (.invokevirtual 50, 3) := by decide +kernel
theorem dX7_isFirstPiece_60 : decode cX7_isFirstPiece 60 = .ok (.ireturn, 1) := by decide +kernel
set_option maxRecDepth 20000 in
theorem ggX7_isSeatPiece_X7_stepNumber : GoodIn wsX7_isSeatPiece wsX7_stepNumber := goodIn_r _ [9, 4, 3, 10, 11, 12, 8, 13, 14, 15, 16, 17, 18, 19, 20, 21, 22, 23, 24, 101, 102, 103, 104, 105, 106] (by decide +kernel) (by decide +kernel)
set_option maxRecDepth 20000 in
theorem gX7_isSeatPiece_X7_stepNumber : GoodIn wsX7_isSeatPiece (wsV RX7 40 RX7 yX7_stepNumber wsX7_stepNumber) := goodIn_app (goodIn_of _ (by decide +kernel)) ggX7_isSeatPiece_X7_stepNumber
set_option maxRecDepth 20000 in
theorem ggX7_isSeatPiece_X7_step : GoodIn wsX7_isSeatPiece wsX7_step := goodIn_r _ [13, 14, 15, 16, 17, 3, 4, 18, 19, 8, 20, 21, 22, 23, 24, 101, 102, 103, 104, 105, 106] (by decide +kernel) (by decide +kernel)
set_option maxRecDepth 20000 in
theorem gX7_isSeatPiece_X7_step : GoodIn wsX7_isSeatPiece (wsV RX7 31 RX7 yX7_step wsX7_step) := goodIn_app (goodIn_of _ (by decide +kernel)) ggX7_isSeatPiece_X7_step
set_option maxRecDepth 20000 in
theorem ggX7_isSeatPiece_X7_isWord : GoodIn wsX7_isSeatPiece wsX7_isWord := goodIn_r _ [28, 4, 14, 17, 16, 29, 30, 31, 32, 33, 34, 35, 36, 37, 38, 39, 40, 41, 42, 43, 44, 45, 46, 47, 48, 49, 50, 51, 52, 53, 54, 55, 56, 57, 58, 59, 60, 61, 62, 63, 64, 65, 66, 67, 68, 69, 70, 71, 72, 73, 74, 75, 76, 77, 101, 102, 103, 104, 105, 106] (by decide +kernel) (by decide +kernel)
set_option maxRecDepth 20000 in
theorem gX7_isSeatPiece_X7_isWord : GoodIn wsX7_isSeatPiece (wsV RX7 36 RX7 yX7_isWord wsX7_isWord) := goodIn_app (goodIn_of _ (by decide +kernel)) ggX7_isSeatPiece_X7_isWord
set_option maxRecDepth 20000 in
theorem ggX7_isSeatPiece_X8_addCut : GoodIn wsX7_isSeatPiece wsX8_addCut := goodIn_r _ [82, 83, 84, 85, 86, 87, 88, 89, 90, 91, 92, 93, 94, 95, 96, 97, 98, 99, 100] (by decide +kernel) (by decide +kernel)
set_option maxRecDepth 20000 in
theorem gX7_isSeatPiece_X8_addCut : GoodIn wsX7_isSeatPiece (wsV RX7 119 RX8 yX8_addCut wsX8_addCut) := goodIn_app (goodIn_of _ (by decide +kernel)) ggX7_isSeatPiece_X8_addCut
theorem dX7_isSeatPiece_0 : decode cX7_isSeatPiece 0 = .ok (.aload_n 1, 1) := by decide +kernel
theorem dX7_isSeatPiece_1 : decode cX7_isSeatPiece 1 = .ok (.getfield 114, 3) := by decide +kernel
theorem dX7_isSeatPiece_4 : decode cX7_isSeatPiece 4 = .ok (.bipush 8, 2) := by decide +kernel
theorem dX7_isSeatPiece_6 : decode cX7_isSeatPiece 6 = .ok (.if_icmp .ge 17, 3) := by decide +kernel
theorem dX7_isSeatPiece_9 : decode cX7_isSeatPiece 9 = .ok (.aload_n 0, 1) := by decide +kernel
theorem dX7_isSeatPiece_10 : decode cX7_isSeatPiece 10 = .ok (.iconst 0, 1) := by decide +kernel
theorem dX7_isSeatPiece_11 : decode cX7_isSeatPiece 11 = .ok (.aload_n 1, 1) := by decide +kernel
theorem dX7_isSeatPiece_12 : decode cX7_isSeatPiece 12 = .ok (.getfield 78, 3) := by decide +kernel
theorem dX7_isSeatPiece_15 : decode cX7_isSeatPiece 15 = .ok (.iconst 1, 1) := by decide +kernel
theorem dX7_isSeatPiece_16 : decode cX7_isSeatPiece 16 = .ok (.isub, 1) := by decide +kernel
theorem dX7_isSeatPiece_17 : decode cX7_isSeatPiece 17 = .ok (.invokevirtual 40, 3) := by decide +kernel
theorem dX7_isSeatPiece_20 : decode cX7_isSeatPiece 20 = .ok (.ifCond .ne 5, 3) := by decide +kernel
theorem dX7_isSeatPiece_23 : decode cX7_isSeatPiece 23 = .ok (.iconst 0, 1) := by decide +kernel
theorem dX7_isSeatPiece_24 : decode cX7_isSeatPiece 24 = .ok (.ireturn, 1) := by decide +kernel
theorem dX7_isSeatPiece_25 : decode cX7_isSeatPiece 25 = .ok (.iconst 1, 1) := by decide +kernel
theorem dX7_isSeatPiece_26 : decode cX7_isSeatPiece 26 = .ok (.aload_n 0, 1) := by decide +kernel
theorem dX7_isSeatPiece_27 : decode cX7_isSeatPiece 27 = .ok (.getfield 28, 3) := by decide +kernel
theorem dX7_isSeatPiece_30 : decode cX7_isSeatPiece 30 = .ok (.ishl, 1) := by decide +kernel
theorem dX7_isSeatPiece_31 : decode cX7_isSeatPiece 31 = .ok (.istore_n 2, 1) := by decide +kernel
theorem dX7_isSeatPiece_32 : decode cX7_isSeatPiece 32 = .ok (.aload_n 0, 1) := by decide +kernel
theorem dX7_isSeatPiece_33 : decode cX7_isSeatPiece 33 = .ok (.invokevirtual 31, 3) := by decide +kernel
theorem dX7_isSeatPiece_36 : decode cX7_isSeatPiece 36 = .ok (.iconst 0, 1) := by decide +kernel
theorem dX7_isSeatPiece_37 : decode cX7_isSeatPiece 37 = .ok (.istore_n 3, 1) := by decide +kernel
theorem dX7_isSeatPiece_38 : decode cX7_isSeatPiece 38 = .ok (.iload_n 3, 1) := by decide +kernel
theorem dX7_isSeatPiece_39 : decode cX7_isSeatPiece 39 = .ok (.sipush 200, 3) := by decide +kernel
theorem dX7_isSeatPiece_42 : decode cX7_isSeatPiece 42 = .ok (.if_icmp .ge 55, 3) := by decide +kernel
theorem dX7_isSeatPiece_45 : decode cX7_isSeatPiece 45 = .ok (.aload_n 0, 1) := by decide +kernel
theorem dX7_isSeatPiece_46 : decode cX7_isSeatPiece 46 = .ok (.getfield 25, 3) := by decide +kernel
theorem dX7_isSeatPiece_49 : decode cX7_isSeatPiece 49 = .ok (.iconst 3, 1) := by decide +kernel
theorem dX7_isSeatPiece_50 : decode cX7_isSeatPiece 50 = .ok (.if_icmp .eq 47, 3) := by decide +kernel
theorem dX7_isSeatPiece_53 : decode cX7_isSeatPiece 53 = .ok (.aload_n 0, 1) := by decide +kernel
theorem dX7_isSeatPiece_54 : decode cX7_isSeatPiece 54 = .ok (.ldc 117, 2) := by decide +kernel
theorem dX7_isSeatPiece_56 : decode cX7_isSeatPiece 56 = .ok (.invokevirtual 36, 3) := by decide +kernel
theorem dX7_isSeatPiece_59 : decode cX7_isSeatPiece 59 = .ok (.ifCond .eq 17, 3) := by decide +kernel
theorem dX7_isSeatPiece_62 : decode cX7_isSeatPiece 62 = .ok (.aload_n 0, 1) := by decide +kernel
theorem dX7_isSeatPiece_63 : decode cX7_isSeatPiece 63 = .ok (.iconst 0, 1) := by decide +kernel
theorem dX7_isSeatPiece_64 : decode cX7_isSeatPiece 64 = .ok (.aload_n 1, 1) := by decide +kernel
theorem dX7_isSeatPiece_65 : decode cX7_isSeatPiece 65 = .ok (.getfield 78, 3) := by decide +kernel
theorem dX7_isSeatPiece_68 : decode cX7_isSeatPiece 68 = .ok (.iconst 1, 1) := by decide +kernel
theorem dX7_isSeatPiece_69 : decode cX7_isSeatPiece 69 = .ok (.isub, 1) := by decide +kernel
theorem dX7_isSeatPiece_70 : decode cX7_isSeatPiece 70 = .ok (.invokevirtual 40, 3) := by decide +kernel
theorem dX7_isSeatPiece_73 : decode cX7_isSeatPiece 73 = .ok (.ifCond .ne 5, 3) := by decide +kernel
theorem dX7_isSeatPiece_76 : decode cX7_isSeatPiece 76 = .ok (.iconst 0, 1) := by decide +kernel
theorem dX7_isSeatPiece_77 : decode cX7_isSeatPiece 77 = .ok (.ireturn, 1) := by decide +kernel
theorem dX7_isSeatPiece_78 : decode cX7_isSeatPiece 78 = .ok (.iload_n 2, 1) := by decide +kernel
theorem dX7_isSeatPiece_79 : decode cX7_isSeatPiece 79 = .ok (.iconst 1, 1) := by decide +kernel
theorem dX7_isSeatPiece_80 : decode cX7_isSeatPiece 80 = .ok (.aload_n 0, 1) := by decide +kernel
theorem dX7_isSeatPiece_81 : decode cX7_isSeatPiece 81 = .ok (.getfield 28, 3) := by decide +kernel
theorem dX7_isSeatPiece_84 : decode cX7_isSeatPiece 84 = .ok (.ishl, 1) := by decide +kernel
theorem dX7_isSeatPiece_85 : decode cX7_isSeatPiece 85 = .ok (.ior, 1) := by decide +kernel
theorem dX7_isSeatPiece_86 : decode cX7_isSeatPiece 86 = .ok (.istore_n 2, 1) := by decide +kernel
theorem dX7_isSeatPiece_87 : decode cX7_isSeatPiece 87 = .ok (.aload_n 0, 1) := by decide +kernel
theorem dX7_isSeatPiece_88 : decode cX7_isSeatPiece 88 = .ok (.invokevirtual 31, 3) := by decide +kernel
theorem dX7_isSeatPiece_91 : decode cX7_isSeatPiece 91 = .ok (.iinc 3 1, 3) := by decide +kernel
theorem dX7_isSeatPiece_94 : decode cX7_isSeatPiece 94 = .ok (.goto (-56), 3) := by decide +kernel
theorem dX7_isSeatPiece_97 : decode cX7_isSeatPiece 97 = .ok (.aload_n 1, 1) := by decide +kernel
theorem dX7_isSeatPiece_98 : decode cX7_isSeatPiece 98 = .ok (.iconst 5, 1) := by decide +kernel
theorem dX7_isSeatPiece_99 : decode cX7_isSeatPiece 99 = .ok (.iload_n 2, 1) := by decide +kernel
theorem dX7_isSeatPiece_100 : decode cX7_isSeatPiece 100 = .ok (.iconst 0, 1) := by decide +kernel
theorem dX7_isSeatPiece_101 : decode cX7_isSeatPiece 101 = .ok (.invokevirtual 119, 3) := by decide +kernel
theorem dX7_isSeatPiece_104 : decode cX7_isSeatPiece 104 = .ok (.pop, 1) := by decide +kernel
theorem dX7_isSeatPiece_105 : decode cX7_isSeatPiece 105 = .ok (.aload_n 0, 1) := by decide +kernel
theorem dX7_isSeatPiece_106 : decode cX7_isSeatPiece 106 = .ok (.getfield 25, 3) := by decide +kernel
theorem dX7_isSeatPiece_109 : decode cX7_isSeatPiece 109 = .ok (.iconst 3, 1) := by decide +kernel
theorem dX7_isSeatPiece_110 : decode cX7_isSeatPiece 110 = .ok (.if_icmp .ne 7, 3) := by decide +kernel
theorem dX7_isSeatPiece_113 : decode cX7_isSeatPiece 113 = .ok (.iconst 1, 1) := by decide +kernel
theorem dX7_isSeatPiece_114 : decode cX7_isSeatPiece 114 = .ok (.goto 4, 3) := by decide +kernel
theorem dX7_isSeatPiece_117 : decode cX7_isSeatPiece 117 = .ok (.iconst 0, 1) := by decide +kernel
theorem dX7_isSeatPiece_118 : decode cX7_isSeatPiece 118 = .ok (.ireturn, 1) := by decide +kernel
set_option maxRecDepth 20000 in
theorem ggX7_isLatePiece_X7_stepNumber : GoodIn wsX7_isLatePiece wsX7_stepNumber := goodIn_r _ [8, 9, 3, 10, 11, 12, 7, 13, 14, 15, 16, 17, 18, 19, 20, 21, 22, 23, 24, 52, 53, 54, 55, 56, 57] (by decide +kernel) (by decide +kernel)
set_option maxRecDepth 20000 in
theorem gX7_isLatePiece_X7_stepNumber : GoodIn wsX7_isLatePiece (wsV RX7 40 RX7 yX7_stepNumber wsX7_stepNumber) := goodIn_app (goodIn_of _ (by decide +kernel)) ggX7_isLatePiece_X7_stepNumber
set_option maxRecDepth 20000 in
theorem ggX7_isLatePiece_X8_addCut : GoodIn wsX7_isLatePiece wsX8_addCut := goodIn_r _ [29, 30, 31, 32, 33, 38, 39, 40, 41, 42, 43, 44, 45, 46, 47, 48, 49, 50, 51] (by decide +kernel) (by decide +kernel)
set_option maxRecDepth 20000 in
theorem gX7_isLatePiece_X8_addCut : GoodIn wsX7_isLatePiece (wsV RX7 119 RX8 yX8_addCut wsX8_addCut) := goodIn_app (goodIn_of _ (by decide +kernel)) ggX7_isLatePiece_X8_addCut
set_option maxRecDepth 20000 in
theorem ggX7_isLatePiece_X7_stepStop : GoodIn wsX7_isLatePiece wsX7_stepStop := goodIn_r _ [37, 9, 10, 11, 12, 7, 13, 14, 15, 16, 17, 3, 18, 19, 20, 21, 22, 23, 24, 52, 53, 54, 55, 56, 57] (by decide +kernel) (by decide +kernel)
set_option maxRecDepth 20000 in
theorem gX7_isLatePiece_X7_stepStop : GoodIn wsX7_isLatePiece (wsV RX7 50 RX7 yX7_stepStop wsX7_stepStop) := goodIn_app (goodIn_of _ (by decide +kernel)) ggX7_isLatePiece_X7_stepStop
theorem dX7_isLatePiece_0 : decode cX7_isLatePiece 0 = .ok (.aload_n 1, 1) := by decide +kernel
theorem dX7_isLatePiece_1 : decode cX7_isLatePiece 1 = .ok (.getfield 114, 3) := by decide +kernel
theorem dX7_isLatePiece_4 : decode cX7_isLatePiece 4 = .ok (.bipush 8, 2) := by decide +kernel
theorem dX7_isLatePiece_6 : decode cX7_isLatePiece 6 = .ok (.if_icmp .ge 17, 3) := by decide +kernel
theorem dX7_isLatePiece_9 : decode cX7_isLatePiece 9 = .ok (.aload_n 0, 1) := by decide +kernel
theorem dX7_isLatePiece_10 : decode cX7_isLatePiece 10 = .ok (.iconst 0, 1) := by decide +kernel
theorem dX7_isLatePiece_11 : decode cX7_isLatePiece 11 = .ok (.aload_n 1, 1) := by decide +kernel
theorem dX7_isLatePiece_12 : decode cX7_isLatePiece 12 = .ok (.getfield 75, 3) := by decide +kernel
theorem dX7_isLatePiece_15 : decode cX7_isLatePiece 15 = .ok (.iconst 1, 1) := by decide +kernel
theorem dX7_isLatePiece_16 : decode cX7_isLatePiece 16 = .ok (.isub, 1) := by decide +kernel
theorem dX7_isLatePiece_17 : decode cX7_isLatePiece 17 = .ok (.invokevirtual 40, 3) := by decide +kernel
theorem dX7_isLatePiece_20 : decode cX7_isLatePiece 20 = .ok (.ifCond .ne 5, 3) := by decide +kernel
theorem dX7_isLatePiece_23 : decode cX7_isLatePiece 23 = .ok (.iconst 0, 1) := by decide +kernel
theorem dX7_isLatePiece_24 : decode cX7_isLatePiece 24 = .ok (.ireturn, 1) := by decide +kernel
theorem dX7_isLatePiece_25 : decode cX7_isLatePiece 25 = .ok (.aload_n 0, 1) := by decide +kernel
theorem dX7_isLatePiece_26 : decode cX7_isLatePiece 26 = .ok (.getfield 28, 3) := by decide +kernel
theorem dX7_isLatePiece_29 : decode cX7_isLatePiece 29 = .ok (.istore_n 2, 1) := by decide +kernel
theorem dX7_isLatePiece_30 : decode cX7_isLatePiece 30 = .ok (.aload_n 0, 1) := by decide +kernel
theorem dX7_isLatePiece_31 : decode cX7_isLatePiece 31 = .ok (.iconst 0, 1) := by decide +kernel
theorem dX7_isLatePiece_32 : decode cX7_isLatePiece 32 = .ok (.bipush 99, 2) := by decide +kernel
theorem dX7_isLatePiece_34 : decode cX7_isLatePiece 34 = .ok (.invokevirtual 40, 3) := by decide +kernel
theorem dX7_isLatePiece_37 : decode cX7_isLatePiece 37 = .ok (.ifCond .ne 5, 3) := by decide +kernel
theorem dX7_isLatePiece_40 : decode cX7_isLatePiece 40 = .ok (.iconst 0, 1) := by decide +kernel
theorem dX7_isLatePiece_41 : decode cX7_isLatePiece 41 = .ok (.ireturn, 1) := by decide +kernel
theorem dX7_isLatePiece_42 : decode cX7_isLatePiece 42 = .ok (.aload_n 1, 1) := by decide +kernel
theorem dX7_isLatePiece_43 : decode cX7_isLatePiece 43 = .ok (.iconst 4, 1) := by decide +kernel
theorem dX7_isLatePiece_44 : decode cX7_isLatePiece 44 = .ok (.iload_n 2, 1) := by decide +kernel
theorem dX7_isLatePiece_45 : decode cX7_isLatePiece 45 = .ok (.aload_n 0, 1) := by decide +kernel
theorem dX7_isLatePiece_46 : decode cX7_isLatePiece 46 = .ok (.getfield 28, 3) := by decide +kernel
theorem dX7_isLatePiece_49 : decode cX7_isLatePiece 49 = .ok (.invokevirtual 119, 3) := by decide +kernel
theorem dX7_isLatePiece_52 : decode cX7_isLatePiece 52 = .ok (.pop, 1) := by decide +kernel
theorem dX7_isLatePiece_53 : decode cX7_isLatePiece 53 = .ok (.aload_n 0, 1) := by decide +kernel
theorem dX7_isLatePiece_54 : decode cX7_isLatePiece 54 = .ok (.invokevirtual 50, 3) := by decide +kernel
theorem dX7_isLatePiece_57 : decode cX7_isLatePiece 57 = .ok (.ireturn, 1) := by decide +kernel
set_option maxRecDepth 20000 in
theorem ggX7_stepNumber_X7_step : GoodIn wsX7_stepNumber wsX7_step := goodIn_r _ [7, 8, 9, 10, 11, 2, 1, 12, 13, 6, 14, 15, 16, 17, 18, 19, 20, 21, 22, 23, 24] (by decide +kernel) (by decide +kernel)
set_option maxRecDepth 20000 in
theorem gX7_stepNumber_X7_step : GoodIn wsX7_stepNumber (wsV RX7 31 RX7 yX7_step wsX7_step) := goodIn_app (goodIn_of _ (by decide +kernel)) ggX7_stepNumber_X7_step
theorem dX7_stepNumber_0 : decode cX7_stepNumber 0 = .ok (.aload_n 0, 1) := by decide +kernel
theorem dX7_stepNumber_1 : decode cX7_stepNumber 1 = .ok (.invokevirtual 31, 3) := by decide +kernel
theorem dX7_stepNumber_4 : decode cX7_stepNumber 4 = .ok (.aload_n 0, 1) := by decide +kernel
theorem dX7_stepNumber_5 : decode cX7_stepNumber 5 = .ok (.getfield 25, 3) := by decide +kernel
theorem dX7_stepNumber_8 : decode cX7_stepNumber 8 = .ok (.iconst 2, 1) := by decide +kernel
theorem dX7_stepNumber_9 : decode cX7_stepNumber 9 = .ok (.if_icmp .ne 23, 3) := by decide +kernel
theorem dX7_stepNumber_12 : decode cX7_stepNumber 12 = .ok (.aload_n 0, 1) := by decide +kernel
theorem dX7_stepNumber_13 : decode cX7_stepNumber 13 = .ok (.getfield 28, 3) := by decide +kernel
theorem dX7_stepNumber_16 : decode cX7_stepNumber 16 = .ok (.iload_n 1, 1) := by decide +kernel
theorem dX7_stepNumber_17 : decode cX7_stepNumber 17 = .ok (.if_icmp .lt 15, 3) := by decide +kernel
theorem dX7_stepNumber_20 : decode cX7_stepNumber 20 = .ok (.aload_n 0, 1) := by decide +kernel
theorem dX7_stepNumber_21 : decode cX7_stepNumber 21 = .ok (.getfield 28, 3) := by decide +kernel
theorem dX7_stepNumber_24 : decode cX7_stepNumber 24 = .ok (.iload_n 2, 1) := by decide +kernel
theorem dX7_stepNumber_25 : decode cX7_stepNumber 25 = .ok (.if_icmp .gt 7, 3) := by decide +kernel
theorem dX7_stepNumber_28 : decode cX7_stepNumber 28 = .ok (.iconst 1, 1) := by decide +kernel
theorem dX7_stepNumber_29 : decode cX7_stepNumber 29 = .ok (.goto 4, 3) := by decide +kernel
theorem dX7_stepNumber_32 : decode cX7_stepNumber 32 = .ok (.iconst 0, 1) := by decide +kernel
theorem dX7_stepNumber_33 : decode cX7_stepNumber 33 = .ok (.ireturn, 1) := by decide +kernel
set_option maxRecDepth 20000 in
theorem ggX7_stepStop_X7_step : GoodIn wsX7_stepStop wsX7_step := goodIn_r _ [6, 7, 8, 9, 10, 11, 1, 12, 13, 5, 14, 15, 16, 17, 18, 19, 20, 21, 22, 23, 24] (by decide +kernel) (by decide +kernel)
set_option maxRecDepth 20000 in
theorem gX7_stepStop_X7_step : GoodIn wsX7_stepStop (wsV RX7 31 RX7 yX7_step wsX7_step) := goodIn_app (goodIn_of _ (by decide +kernel)) ggX7_stepStop_X7_step
theorem dX7_stepStop_0 : decode cX7_stepStop 0 = .ok (.aload_n 0, 1) := by decide +kernel
theorem dX7_stepStop_1 : decode cX7_stepStop 1 = .ok (.invokevirtual 31, 3) := by decide +kernel
theorem dX7_stepStop_4 : decode cX7_stepStop 4 = .ok (.aload_n 0, 1) := by decide +kernel
theorem dX7_stepStop_5 : decode cX7_stepStop 5 = .ok (.getfield 25, 3) := by decide +kernel
theorem dX7_stepStop_8 : decode cX7_stepStop 8 = .ok (.iconst 3, 1) := by decide +kernel
theorem dX7_stepStop_9 : decode cX7_stepStop 9 = .ok (.if_icmp .ne 7, 3) := by decide +kernel
theorem dX7_stepStop_12 : decode cX7_stepStop 12 = .ok (.iconst 1, 1) := by decide +kernel
theorem dX7_stepStop_13 : decode cX7_stepStop 13 = .ok (.goto 4, 3) := by decide +kernel
theorem dX7_stepStop_16 : decode cX7_stepStop 16 = .ok (.iconst 0, 1) := by decide +kernel
theorem dX7_stepStop_17 : decode cX7_stepStop 17 = .ok (.ireturn, 1) := by decide +kernel
set_option maxRecDepth 20000 in
theorem ggX7_step_X7_sortOf : GoodIn wsX7_step wsX7_sortOf := goodIn_r _ [10] (by decide +kernel) (by decide +kernel)
set_option maxRecDepth 20000 in
theorem gX7_step_X7_sortOf : GoodIn wsX7_step (va_wsS RX7 123 yX7_sortOf wsX7_sortOf) := goodIn_app (goodIn_of _ (by decide +kernel)) ggX7_step_X7_sortOf
set_option maxRecDepth 20000 in
theorem ggX7_step_X7_readNumber : GoodIn wsX7_step wsX7_readNumber := goodIn_r _ [14, 1, 4, 5, 3, 15, 16, 17, 18, 19, 20] (by decide +kernel) (by decide +kernel)
set_option maxRecDepth 20000 in
theorem gX7_step_X7_readNumber : GoodIn wsX7_step (wsV RX7 127 RX7 yX7_readNumber wsX7_readNumber) := goodIn_app (goodIn_of _ (by decide +kernel)) ggX7_step_X7_readNumber
theorem dX7_step_0 : decode cX7_step 0 = .ok (.aload_n 0, 1) := by decide +kernel
theorem dX7_step_1 : decode cX7_step 1 = .ok (.getfield 22, 3) := by decide +kernel
theorem dX7_step_4 : decode cX7_step 4 = .ok (.aload_n 0, 1) := by decide +kernel
theorem dX7_step_5 : decode cX7_step 5 = .ok (.getfield 15, 3) := by decide +kernel
theorem dX7_step_8 : decode cX7_step 8 = .ok (.if_icmp .ge 30, 3) := by decide +kernel
theorem dX7_step_11 : decode cX7_step 11 = .ok (.aload_n 0, 1) := by decide +kernel
theorem dX7_step_12 : decode cX7_step 12 = .ok (.getfield 11, 3) := by decide +kernel
theorem dX7_step_15 : decode cX7_step 15 = .ok (.aload_n 0, 1) := by decide +kernel
theorem dX7_step_16 : decode cX7_step 16 = .ok (.getfield 22, 3) := by decide +kernel
theorem dX7_step_19 : decode cX7_step 19 = .ok (.baload, 1) := by decide +kernel
theorem dX7_step_20 : decode cX7_step 20 = .ok (.bipush 32, 2) := by decide +kernel
theorem dX7_step_22 : decode cX7_step 22 = .ok (.if_icmp .ne 16, 3) := by decide +kernel
theorem dX7_step_25 : decode cX7_step 25 = .ok (.aload_n 0, 1) := by decide +kernel
theorem dX7_step_26 : decode cX7_step 26 = .ok (.dup, 1) := by decide +kernel
theorem dX7_step_27 : decode cX7_step 27 = .ok (.getfield 22, 3) := by decide +kernel
theorem dX7_step_30 : decode cX7_step 30 = .ok (.iconst 1, 1) := by decide +kernel
theorem dX7_step_31 : decode cX7_step 31 = .ok (.iadd, 1) := by decide +kernel
theorem dX7_step_32 : decode cX7_step 32 = .ok (.putfield 22, 3) := by decide +kernel
theorem dX7_step_35 : decode cX7_step 35 = .ok (.goto (-35), 3) := by decide +kernel
theorem dX7_step_38 : decode cX7_step 38 = .ok (.aload_n 0, 1) := by decide +kernel
theorem dX7_step_39 : decode cX7_step 39 = .ok (.aload_n 0, 1) := by decide +kernel
theorem dX7_step_40 : decode cX7_step 40 = .ok (.getfield 22, 3) := by decide +kernel
theorem dX7_step_43 : decode cX7_step 43 = .ok (.putfield 19, 3) := by decide +kernel
theorem dX7_step_46 : decode cX7_step 46 = .ok (.aload_n 0, 1) := by decide +kernel
theorem dX7_step_47 : decode cX7_step 47 = .ok (.iconst (-1), 1) := by decide +kernel
theorem dX7_step_48 : decode cX7_step 48 = .ok (.putfield 28, 3) := by decide +kernel
theorem dX7_step_51 : decode cX7_step 51 = .ok (.aload_n 0, 1) := by decide +kernel
theorem dX7_step_52 : decode cX7_step 52 = .ok (.getfield 22, 3) := by decide +kernel
theorem dX7_step_55 : decode cX7_step 55 = .ok (.aload_n 0, 1) := by decide +kernel
theorem dX7_step_56 : decode cX7_step 56 = .ok (.getfield 15, 3) := by decide +kernel
theorem dX7_step_59 : decode cX7_step 59 = .ok (.if_icmp .lt 9, 3) := by decide +kernel
theorem dX7_step_62 : decode cX7_step 62 = .ok (.aload_n 0, 1) := by decide +kernel
theorem dX7_step_63 : decode cX7_step 63 = .ok (.iconst 0, 1) := by decide +kernel
theorem dX7_step_64 : decode cX7_step 64 = .ok (.putfield 25, 3) := by decide +kernel
theorem dX7_step_67 : decode cX7_step 67 = .ok (.return_, 1) := by decide +kernel
theorem dX7_step_68 : decode cX7_step 68 = .ok (.aload_n 0, 1) := by decide +kernel
theorem dX7_step_69 : decode cX7_step 69 = .ok (.aload_n 0, 1) := by decide +kernel
theorem dX7_step_70 : decode cX7_step 70 = .ok (.getfield 11, 3) := by decide +kernel
theorem dX7_step_73 : decode cX7_step 73 = .ok (.aload_n 0, 1) := by decide +kernel
theorem dX7_step_74 : decode cX7_step 74 = .ok (.getfield 22, 3) := by decide +kernel
theorem dX7_step_77 : decode cX7_step 77 = .ok (.baload, 1) := by decide +kernel
theorem dX7_step_78 : decode cX7_step 78 = .ok (.invokestatic 123, 3) := by decide +kernel
theorem dX7_step_81 : decode cX7_step 81 = .ok (.putfield 25, 3) := by decide +kernel
theorem dX7_step_84 : decode cX7_step 84 = .ok (.aload_n 0, 1) := by decide +kernel
theorem dX7_step_85 : decode cX7_step 85 = .ok (.dup, 1) := by decide +kernel
theorem dX7_step_86 : decode cX7_step 86 = .ok (.getfield 22, 3) := by decide +kernel
theorem dX7_step_89 : decode cX7_step 89 = .ok (.iconst 1, 1) := by decide +kernel
theorem dX7_step_90 : decode cX7_step 90 = .ok (.iadd, 1) := by decide +kernel
theorem dX7_step_91 : decode cX7_step 91 = .ok (.putfield 22, 3) := by decide +kernel
theorem dX7_step_94 : decode cX7_step 94 = .ok (.aload_n 0, 1) := by decide +kernel
theorem dX7_step_95 : decode cX7_step 95 = .ok (.getfield 25, 3) := by decide +kernel
theorem dX7_step_98 : decode cX7_step 98 = .ok (.iconst 1, 1) := by decide +kernel
theorem dX7_step_99 : decode cX7_step 99 = .ok (.if_icmp .eq 11, 3) := by decide +kernel
theorem dX7_step_102 : decode cX7_step 102 = .ok (.aload_n 0, 1) := by decide +kernel
theorem dX7_step_103 : decode cX7_step 103 = .ok (.getfield 25, 3) := by decide +kernel
theorem dX7_step_106 : decode cX7_step 106 = .ok (.iconst 2, 1) := by decide +kernel
theorem dX7_step_107 : decode cX7_step 107 = .ok (.if_icmp .ne 7, 3) := by decide +kernel
theorem dX7_step_110 : decode cX7_step 110 = .ok (.iconst 1, 1) := by decide +kernel
theorem dX7_step_111 : decode cX7_step 111 = .ok (.goto 4, 3) := by decide +kernel
theorem dX7_step_114 : decode cX7_step 114 = .ok (.iconst 0, 1) := by decide +kernel
theorem dX7_step_115 : decode cX7_step 115 = .ok (.istore_n 1, 1) := by decide +kernel
theorem dX7_step_116 : decode cX7_step 116 = .ok (.iload_n 1, 1) := by decide +kernel
theorem dX7_step_117 : decode cX7_step 117 = .ok (.ifCond .eq 46, 3) := by decide +kernel
theorem dX7_step_120 : decode cX7_step 120 = .ok (.aload_n 0, 1) := by decide +kernel
theorem dX7_step_121 : decode cX7_step 121 = .ok (.getfield 22, 3) := by decide +kernel
theorem dX7_step_124 : decode cX7_step 124 = .ok (.aload_n 0, 1) := by decide +kernel
theorem dX7_step_125 : decode cX7_step 125 = .ok (.getfield 15, 3) := by decide +kernel
theorem dX7_step_128 : decode cX7_step 128 = .ok (.if_icmp .ge 35, 3) := by decide +kernel
theorem dX7_step_131 : decode cX7_step 131 = .ok (.aload_n 0, 1) := by decide +kernel
theorem dX7_step_132 : decode cX7_step 132 = .ok (.getfield 11, 3) := by decide +kernel
theorem dX7_step_135 : decode cX7_step 135 = .ok (.aload_n 0, 1) := by decide +kernel
theorem dX7_step_136 : decode cX7_step 136 = .ok (.getfield 22, 3) := by decide +kernel
theorem dX7_step_139 : decode cX7_step 139 = .ok (.baload, 1) := by decide +kernel
theorem dX7_step_140 : decode cX7_step 140 = .ok (.invokestatic 123, 3) := by decide +kernel
theorem dX7_step_143 : decode cX7_step 143 = .ok (.aload_n 0, 1) := by decide +kernel
theorem dX7_step_144 : decode cX7_step 144 = .ok (.getfield 25, 3) := by decide +kernel
theorem dX7_step_147 : decode cX7_step 147 = .ok (.if_icmp .ne 16, 3) := by decide +kernel
theorem dX7_step_150 : decode cX7_step 150 = .ok (.aload_n 0, 1) := by decide +kernel
theorem dX7_step_151 : decode cX7_step 151 = .ok (.dup, 1) := by decide +kernel
theorem dX7_step_152 : decode cX7_step 152 = .ok (.getfield 22, 3) := by decide +kernel
theorem dX7_step_155 : decode cX7_step 155 = .ok (.iconst 1, 1) := by decide +kernel
theorem dX7_step_156 : decode cX7_step 156 = .ok (.iadd, 1) := by decide +kernel
theorem dX7_step_157 : decode cX7_step 157 = .ok (.putfield 22, 3) := by decide +kernel
theorem dX7_step_160 : decode cX7_step 160 = .ok (.goto (-44), 3) := by decide +kernel
theorem dX7_step_163 : decode cX7_step 163 = .ok (.aload_n 0, 1) := by decide +kernel
theorem dX7_step_164 : decode cX7_step 164 = .ok (.getfield 25, 3) := by decide +kernel
theorem dX7_step_167 : decode cX7_step 167 = .ok (.iconst 2, 1) := by decide +kernel
theorem dX7_step_168 : decode cX7_step 168 = .ok (.if_icmp .ne 7, 3) := by decide +kernel
theorem dX7_step_171 : decode cX7_step 171 = .ok (.aload_n 0, 1) := by decide +kernel
theorem dX7_step_172 : decode cX7_step 172 = .ok (.invokevirtual 127, 3) := by decide +kernel
theorem dX7_step_175 : decode cX7_step 175 = .ok (.return_, 1) := by decide +kernel
theorem dX7_readNumber_0 : decode cX7_readNumber 0 = .ok (.aload_n 0, 1) := by decide +kernel
theorem dX7_readNumber_1 : decode cX7_readNumber 1 = .ok (.getfield 22, 3) := by decide +kernel
theorem dX7_readNumber_4 : decode cX7_readNumber 4 = .ok (.aload_n 0, 1) := by decide +kernel
theorem dX7_readNumber_5 : decode cX7_readNumber 5 = .ok (.getfield 19, 3) := by decide +kernel
theorem dX7_readNumber_8 : decode cX7_readNumber 8 = .ok (.isub, 1) := by decide +kernel
theorem dX7_readNumber_9 : decode cX7_readNumber 9 = .ok (.iconst 2, 1) := by decide +kernel
theorem dX7_readNumber_10 : decode cX7_readNumber 10 = .ok (.if_icmp .le 4, 3) := by decide +kernel
theorem dX7_readNumber_13 : decode cX7_readNumber 13 = .ok (.return_, 1) := by decide +kernel
theorem dX7_readNumber_14 : decode cX7_readNumber 14 = .ok (.aload_n 0, 1) := by decide +kernel
theorem dX7_readNumber_15 : decode cX7_readNumber 15 = .ok (.iconst 0, 1) := by decide +kernel
theorem dX7_readNumber_16 : decode cX7_readNumber 16 = .ok (.putfield 28, 3) := by decide +kernel
theorem dX7_readNumber_19 : decode cX7_readNumber 19 = .ok (.aload_n 0, 1) := by decide +kernel
theorem dX7_readNumber_20 : decode cX7_readNumber 20 = .ok (.getfield 19, 3) := by decide +kernel
theorem dX7_readNumber_23 : decode cX7_readNumber 23 = .ok (.istore_n 1, 1) := by decide +kernel
theorem dX7_readNumber_24 : decode cX7_readNumber 24 = .ok (.iload_n 1, 1) := by decide +kernel
theorem dX7_readNumber_25 : decode cX7_readNumber 25 = .ok (.aload_n 0, 1) := by decide +kernel
theorem dX7_readNumber_26 : decode cX7_readNumber 26 = .ok (.getfield 22, 3) := by decide +kernel
theorem dX7_readNumber_29 : decode cX7_readNumber 29 = .ok (.if_icmp .ge 30, 3) := by decide +kernel
theorem dX7_readNumber_32 : decode cX7_readNumber 32 = .ok (.aload_n 0, 1) := by decide +kernel
theorem dX7_readNumber_33 : decode cX7_readNumber 33 = .ok (.aload_n 0, 1) := by decide +kernel
theorem dX7_readNumber_34 : decode cX7_readNumber 34 = .ok (.getfield 28, 3) := by decide +kernel
theorem dX7_readNumber_37 : decode cX7_readNumber 37 = .ok (.bipush 10, 2) := by decide +kernel
theorem dX7_readNumber_39 : decode cX7_readNumber 39 = .ok (.imul, 1) := by decide +kernel
theorem dX7_readNumber_40 : decode cX7_readNumber 40 = .ok (.aload_n 0, 1) := by decide +kernel
theorem dX7_readNumber_41 : decode cX7_readNumber 41 = .ok (.getfield 11, 3) := by decide +kernel
theorem dX7_readNumber_44 : decode cX7_readNumber 44 = .ok (.iload_n 1, 1) := by decide +kernel
theorem dX7_readNumber_45 : decode cX7_readNumber 45 = .ok (.baload, 1) := by decide +kernel
theorem dX7_readNumber_46 : decode cX7_readNumber 46 = .ok (.bipush 48, 2) := by decide +kernel
theorem dX7_readNumber_48 : decode cX7_readNumber 48 = .ok (.isub, 1) := by decide +kernel
theorem dX7_readNumber_49 : decode cX7_readNumber 49 = .ok (.iadd, 1) := by decide +kernel
theorem dX7_readNumber_50 : decode cX7_readNumber 50 = .ok (.putfield 28, 3) := by decide +kernel
theorem dX7_readNumber_53 : decode cX7_readNumber 53 = .ok (.iinc 1 1, 3) := by decide +kernel
theorem dX7_readNumber_56 : decode cX7_readNumber 56 = .ok (.goto (-32), 3) := by decide +kernel
theorem dX7_readNumber_59 : decode cX7_readNumber 59 = .ok (.return_, 1) := by decide +kernel
set_option maxRecDepth 20000 in
theorem ggX7_isWord_J0_length_8abf5 : GoodIn wsX7_isWord wsJ0_length_8abf5 := goodIn_r _ [9, 10, 11, 12, 13, 8, 14, 15, 16] (by decide +kernel) (by decide +kernel)
set_option maxRecDepth 20000 in
theorem gX7_isWord_J0_length_8abf5 : GoodIn wsX7_isWord (wsV RX7 130 RJ0 yJ0_length_8abf5 wsJ0_length_8abf5) := goodIn_app (goodIn_of _ (by decide +kernel)) ggX7_isWord_J0_length_8abf5
set_option maxRecDepth 20000 in
theorem ggX7_isWord_J0_charAt_5068e : GoodIn wsX7_isWord wsJ0_charAt_5068e := goodIn_r _ [20, 10, 21, 22, 23, 8, 24, 15, 16, 25, 26, 27, 28, 29, 30, 31, 32, 33, 34, 35, 36, 37, 38, 39, 40, 41, 42, 43, 44, 45, 46, 47, 48, 49, 50, 51, 52, 53] (by decide +kernel) (by decide +kernel)
set_option maxRecDepth 20000 in
theorem gX7_isWord_J0_charAt_5068e : GoodIn wsX7_isWord (wsV RX7 134 RJ0 yJ0_charAt_5068e wsJ0_charAt_5068e) := goodIn_app (goodIn_of _ (by decide +kernel)) ggX7_isWord_J0_charAt_5068e
theorem dX7_isWord_0 : decode cX7_isWord 0 = .ok (.aload_n 0, 1) := by decide +kernel
theorem dX7_isWord_1 : decode cX7_isWord 1 = .ok (.getfield 25, 3) := by decide +kernel
theorem dX7_isWord_4 : decode cX7_isWord 4 = .ok (.iconst 1, 1) := by decide +kernel
theorem dX7_isWord_5 : decode cX7_isWord 5 = .ok (.if_icmp .ne 19, 3) := by decide +kernel
theorem dX7_isWord_8 : decode cX7_isWord 8 = .ok (.aload_n 0, 1) := by decide +kernel
theorem dX7_isWord_9 : decode cX7_isWord 9 = .ok (.getfield 22, 3) := by decide +kernel
theorem dX7_isWord_12 : decode cX7_isWord 12 = .ok (.aload_n 0, 1) := by decide +kernel
theorem dX7_isWord_13 : decode cX7_isWord 13 = .ok (.getfield 19, 3) := by decide +kernel
theorem dX7_isWord_16 : decode cX7_isWord 16 = .ok (.isub, 1) := by decide +kernel
theorem dX7_isWord_17 : decode cX7_isWord 17 = .ok (.aload_n 1, 1) := by decide +kernel
theorem dX7_isWord_18 : decode cX7_isWord 18 = .ok (.invokevirtual 130, 3) := by decide +kernel
theorem dX7_isWord_21 : decode cX7_isWord 21 = .ok (.if_icmp .eq 5, 3) := by decide +kernel
theorem dX7_isWord_24 : decode cX7_isWord 24 = .ok (.iconst 0, 1) := by decide +kernel
theorem dX7_isWord_25 : decode cX7_isWord 25 = .ok (.ireturn, 1) := by decide +kernel
theorem dX7_isWord_26 : decode cX7_isWord 26 = .ok (.iconst 0, 1) := by decide +kernel
theorem dX7_isWord_27 : decode cX7_isWord 27 = .ok (.istore_n 2, 1) := by decide +kernel
theorem dX7_isWord_28 : decode cX7_isWord 28 = .ok (.iload_n 2, 1) := by decide +kernel
theorem dX7_isWord_29 : decode cX7_isWord 29 = .ok (.aload_n 1, 1) := by decide +kernel
theorem dX7_isWord_30 : decode cX7_isWord 30 = .ok (.invokevirtual 130, 3) := by decide +kernel
theorem dX7_isWord_33 : decode cX7_isWord 33 = .ok (.if_icmp .ge 30, 3) := by decide +kernel
theorem dX7_isWord_36 : decode cX7_isWord 36 = .ok (.aload_n 0, 1) := by decide +kernel
theorem dX7_isWord_37 : decode cX7_isWord 37 = .ok (.getfield 11, 3) := by decide +kernel
theorem dX7_isWord_40 : decode cX7_isWord 40 = .ok (.aload_n 0, 1) := by decide +kernel
theorem dX7_isWord_41 : decode cX7_isWord 41 = .ok (.getfield 19, 3) := by decide +kernel
theorem dX7_isWord_44 : decode cX7_isWord 44 = .ok (.iload_n 2, 1) := by decide +kernel
theorem dX7_isWord_45 : decode cX7_isWord 45 = .ok (.iadd, 1) := by decide +kernel
theorem dX7_isWord_46 : decode cX7_isWord 46 = .ok (.baload, 1) := by decide +kernel
theorem dX7_isWord_47 : decode cX7_isWord 47 = .ok (.aload_n 1, 1) := by decide +kernel
theorem dX7_isWord_48 : decode cX7_isWord 48 = .ok (.iload_n 2, 1) := by decide +kernel
theorem dX7_isWord_49 : decode cX7_isWord 49 = .ok (.invokevirtual 134, 3) := by decide +kernel
theorem dX7_isWord_52 : decode cX7_isWord 52 = .ok (.if_icmp .eq 5, 3) := by decide +kernel
theorem dX7_isWord_55 : decode cX7_isWord 55 = .ok (.iconst 0, 1) := by decide +kernel
theorem dX7_isWord_56 : decode cX7_isWord 56 = .ok (.ireturn, 1) := by decide +kernel
theorem dX7_isWord_57 : decode cX7_isWord 57 = .ok (.iinc 2 1, 3) := by decide +kernel
theorem dX7_isWord_60 : decode cX7_isWord 60 = .ok (.goto (-32), 3) := by decide +kernel
theorem dX7_isWord_63 : decode cX7_isWord 63 = .ok (.iconst 1, 1) := by decide +kernel
theorem dX7_isWord_64 : decode cX7_isWord 64 = .ok (.ireturn, 1) := by decide +kernel
theorem dX7_sortOf_0 : decode cX7_sortOf 0 = .ok (.iload_n 0, 1) := by decide +kernel
theorem dX7_sortOf_1 : decode cX7_sortOf 1 = .ok (.bipush 97, 2) := by decide +kernel
theorem dX7_sortOf_3 : decode cX7_sortOf 3 = .ok (.if_icmp .lt 11, 3) := by decide +kernel
theorem dX7_sortOf_6 : decode cX7_sortOf 6 = .ok (.iload_n 0, 1) := by decide +kernel
theorem dX7_sortOf_7 : decode cX7_sortOf 7 = .ok (.bipush 122, 2) := by decide +kernel
theorem dX7_sortOf_9 : decode cX7_sortOf 9 = .ok (.if_icmp .gt 5, 3) := by decide +kernel
theorem dX7_sortOf_12 : decode cX7_sortOf 12 = .ok (.iconst 1, 1) := by decide +kernel
theorem dX7_sortOf_13 : decode cX7_sortOf 13 = .ok (.ireturn, 1) := by decide +kernel
theorem dX7_sortOf_14 : decode cX7_sortOf 14 = .ok (.iload_n 0, 1) := by decide +kernel
theorem dX7_sortOf_15 : decode cX7_sortOf 15 = .ok (.bipush 48, 2) := by decide +kernel
theorem dX7_sortOf_17 : decode cX7_sortOf 17 = .ok (.if_icmp .lt 11, 3) := by decide +kernel
theorem dX7_sortOf_20 : decode cX7_sortOf 20 = .ok (.iload_n 0, 1) := by decide +kernel
theorem dX7_sortOf_21 : decode cX7_sortOf 21 = .ok (.bipush 57, 2) := by decide +kernel
theorem dX7_sortOf_23 : decode cX7_sortOf 23 = .ok (.if_icmp .gt 5, 3) := by decide +kernel
theorem dX7_sortOf_26 : decode cX7_sortOf 26 = .ok (.iconst 2, 1) := by decide +kernel
theorem dX7_sortOf_27 : decode cX7_sortOf 27 = .ok (.ireturn, 1) := by decide +kernel
theorem dX7_sortOf_28 : decode cX7_sortOf 28 = .ok (.iload_n 0, 1) := by decide +kernel
theorem dX7_sortOf_29 : decode cX7_sortOf 29 = .ok (.bipush 59, 2) := by decide +kernel
theorem dX7_sortOf_31 : decode cX7_sortOf 31 = .ok (.if_icmp .ne 7, 3) := by decide +kernel
theorem dX7_sortOf_34 : decode cX7_sortOf 34 = .ok (.iconst 3, 1) := by decide +kernel
theorem dX7_sortOf_35 : decode cX7_sortOf 35 = .ok (.goto 4, 3) := by decide +kernel
theorem dX7_sortOf_38 : decode cX7_sortOf 38 = .ok (.iconst 4, 1) := by decide +kernel
theorem dX7_sortOf_39 : decode cX7_sortOf 39 = .ok (.ireturn, 1) := by decide +kernel
set_option maxRecDepth 20000 in
theorem ggX8_init_J7_fill_53178 : GoodIn wsX8_init wsJ7_fill_53178 := goodIn_r _ [23] (by decide +kernel) (by decide +kernel)
set_option maxRecDepth 20000 in
theorem gX8_init_J7_fill_53178 : GoodIn wsX8_init (va_wsS RX8 56 yJ7_fill_53178 wsJ7_fill_53178) := goodIn_app (goodIn_of _ (by decide +kernel)) ggX8_init_J7_fill_53178
theorem dX8_init_0 : decode cX8_init 0 = .ok (.aload_n 0, 1) := by decide +kernel
theorem dX8_init_1 : decode cX8_init 1 = .ok (.invokespecial 3, 3) := by decide +kernel
theorem dX8_init_4 : decode cX8_init 4 = .ok (.aload_n 0, 1) := by decide +kernel
theorem dX8_init_5 : decode cX8_init 5 = .ok (.iconst 1, 1) := by decide +kernel
theorem dX8_init_6 : decode cX8_init 6 = .ok (.putfield 9, 3) := by decide +kernel
theorem dX8_init_9 : decode cX8_init 9 = .ok (.aload_n 0, 1) := by decide +kernel
theorem dX8_init_10 : decode cX8_init 10 = .ok (.bipush 10, 2) := by decide +kernel
theorem dX8_init_12 : decode cX8_init 12 = .ok (.newarray .int, 2) := by decide +kernel
theorem dX8_init_14 : decode cX8_init 14 = .ok (.putfield 15, 3) := by decide +kernel
theorem dX8_init_17 : decode cX8_init 17 = .ok (.aload_n 0, 1) := by decide +kernel
theorem dX8_init_18 : decode cX8_init 18 = .ok (.bipush 10, 2) := by decide +kernel
theorem dX8_init_20 : decode cX8_init 20 = .ok (.newarray .int, 2) := by decide +kernel
theorem dX8_init_22 : decode cX8_init 22 = .ok (.putfield 19, 3) := by decide +kernel
theorem dX8_init_25 : decode cX8_init 25 = .ok (.aload_n 0, 1) := by decide +kernel
theorem dX8_init_26 : decode cX8_init 26 = .ok (.iconst 0, 1) := by decide +kernel
theorem dX8_init_27 : decode cX8_init 27 = .ok (.putfield 22, 3) := by decide +kernel
theorem dX8_init_30 : decode cX8_init 30 = .ok (.aload_n 0, 1) := by decide +kernel
theorem dX8_init_31 : decode cX8_init 31 = .ok (.bipush 14, 2) := by decide +kernel
theorem dX8_init_33 : decode cX8_init 33 = .ok (.newarray .int, 2) := by decide +kernel
theorem dX8_init_35 : decode cX8_init 35 = .ok (.putfield 25, 3) := by decide +kernel
theorem dX8_init_38 : decode cX8_init 38 = .ok (.aload_n 0, 1) := by decide +kernel
theorem dX8_init_39 : decode cX8_init 39 = .ok (.bipush 14, 2) := by decide +kernel
theorem dX8_init_41 : decode cX8_init 41 = .ok (.newarray .int, 2) := by decide +kernel
theorem dX8_init_43 : decode cX8_init 43 = .ok (.putfield 28, 3) := by decide +kernel
theorem dX8_init_46 : decode cX8_init 46 = .ok (.aload_n 0, 1) := by decide +kernel
theorem dX8_init_47 : decode cX8_init 47 = .ok (.bipush 14, 2) := by decide +kernel
theorem dX8_init_49 : decode cX8_init 49 = .ok (.newarray .int, 2) := by decide +kernel
theorem dX8_init_51 : decode cX8_init 51 = .ok (.putfield 31, 3) := by decide +kernel
theorem dX8_init_54 : decode cX8_init 54 = .ok (.aload_n 0, 1) := by decide +kernel
theorem dX8_init_55 : decode cX8_init 55 = .ok (.bipush 14, 2) := by decide +kernel
theorem dX8_init_57 : decode cX8_init 57 = .ok (.newarray .int, 2) := by decide +kernel
theorem dX8_init_59 : decode cX8_init 59 = .ok (.putfield 34, 3) := by decide +kernel
theorem dX8_init_62 : decode cX8_init 62 = .ok (.aload_n 0, 1) := by decide +kernel
theorem dX8_init_63 : decode cX8_init 63 = .ok (.bipush 14, 2) := by decide +kernel
theorem dX8_init_65 : decode cX8_init 65 = .ok (.newarray .boolean, 2) := by decide +kernel
theorem dX8_init_67 : decode cX8_init 67 = .ok (.putfield 37, 3) := by decide +kernel
theorem dX8_init_70 : decode cX8_init 70 = .ok (.aload_n 0, 1) := by decide +kernel
theorem dX8_init_71 : decode cX8_init 71 = .ok (.iconst 0, 1) := by decide +kernel
theorem dX8_init_72 : decode cX8_init 72 = .ok (.putfield 41, 3) := by decide +kernel
theorem dX8_init_75 : decode cX8_init 75 = .ok (.aload_n 0, 1) := by decide +kernel
theorem dX8_init_76 : decode cX8_init 76 = .ok (.bipush 8, 2) := by decide +kernel
theorem dX8_init_78 : decode cX8_init 78 = .ok (.newarray .int, 2) := by decide +kernel
theorem dX8_init_80 : decode cX8_init 80 = .ok (.putfield 44, 3) := by decide +kernel
theorem dX8_init_83 : decode cX8_init 83 = .ok (.aload_n 0, 1) := by decide +kernel
theorem dX8_init_84 : decode cX8_init 84 = .ok (.bipush 8, 2) := by decide +kernel
theorem dX8_init_86 : decode cX8_init 86 = .ok (.newarray .int, 2) := by decide +kernel
theorem dX8_init_88 : decode cX8_init 88 = .ok (.putfield 47, 3) := by decide +kernel
theorem dX8_init_91 : decode cX8_init 91 = .ok (.aload_n 0, 1) := by decide +kernel
theorem dX8_init_92 : decode cX8_init 92 = .ok (.bipush 8, 2) := by decide +kernel
theorem dX8_init_94 : decode cX8_init 94 = .ok (.newarray .int, 2) := by decide +kernel
theorem dX8_init_96 : decode cX8_init 96 = .ok (.putfield 50, 3) := by decide +kernel
theorem dX8_init_99 : decode cX8_init 99 = .ok (.aload_n 0, 1) := by decide +kernel
theorem dX8_init_100 : decode cX8_init 100 = .ok (.iconst 1, 1) := by decide +kernel
theorem dX8_init_101 : decode cX8_init 101 = .ok (.putfield 53, 3) := by decide +kernel
theorem dX8_init_104 : decode cX8_init 104 = .ok (.aload_n 0, 1) := by decide +kernel
theorem dX8_init_105 : decode cX8_init 105 = .ok (.getfield 15, 3) := by decide +kernel
theorem dX8_init_108 : decode cX8_init 108 = .ok (.iconst 1, 1) := by decide +kernel
theorem dX8_init_109 : decode cX8_init 109 = .ok (.invokestatic 56, 3) := by decide +kernel
theorem dX8_init_112 : decode cX8_init 112 = .ok (.aload_n 0, 1) := by decide +kernel
theorem dX8_init_113 : decode cX8_init 113 = .ok (.getfield 19, 3) := by decide +kernel
theorem dX8_init_116 : decode cX8_init 116 = .ok (.iconst (-1), 1) := by decide +kernel
theorem dX8_init_117 : decode cX8_init 117 = .ok (.invokestatic 56, 3) := by decide +kernel
theorem dX8_init_120 : decode cX8_init 120 = .ok (.return_, 1) := by decide +kernel
set_option maxRecDepth 20000 in
theorem ggX8_startWith_J7_fill_53178 : GoodIn wsX8_startWith wsJ7_fill_53178 := goodIn_r _ [9] (by decide +kernel) (by decide +kernel)
set_option maxRecDepth 20000 in
theorem gX8_startWith_J7_fill_53178 : GoodIn wsX8_startWith (va_wsS RX8 56 yJ7_fill_53178 wsJ7_fill_53178) := goodIn_app (goodIn_of _ (by decide +kernel)) ggX8_startWith_J7_fill_53178
theorem dX8_startWith_0 : decode cX8_startWith 0 = .ok (.aload_n 0, 1) := by decide +kernel
theorem dX8_startWith_1 : decode cX8_startWith 1 = .ok (.iload_n 1, 1) := by decide +kernel
theorem dX8_startWith_2 : decode cX8_startWith 2 = .ok (.putfield 9, 3) := by decide +kernel
theorem dX8_startWith_5 : decode cX8_startWith 5 = .ok (.aload_n 0, 1) := by decide +kernel
theorem dX8_startWith_6 : decode cX8_startWith 6 = .ok (.iconst 0, 1) := by decide +kernel
theorem dX8_startWith_7 : decode cX8_startWith 7 = .ok (.putfield 22, 3) := by decide +kernel
theorem dX8_startWith_10 : decode cX8_startWith 10 = .ok (.aload_n 0, 1) := by decide +kernel
theorem dX8_startWith_11 : decode cX8_startWith 11 = .ok (.iconst 0, 1) := by decide +kernel
theorem dX8_startWith_12 : decode cX8_startWith 12 = .ok (.putfield 41, 3) := by decide +kernel
theorem dX8_startWith_15 : decode cX8_startWith 15 = .ok (.aload_n 0, 1) := by decide +kernel
theorem dX8_startWith_16 : decode cX8_startWith 16 = .ok (.getfield 15, 3) := by decide +kernel
theorem dX8_startWith_19 : decode cX8_startWith 19 = .ok (.iconst 1, 1) := by decide +kernel
theorem dX8_startWith_20 : decode cX8_startWith 20 = .ok (.invokestatic 56, 3) := by decide +kernel
theorem dX8_startWith_23 : decode cX8_startWith 23 = .ok (.aload_n 0, 1) := by decide +kernel
theorem dX8_startWith_24 : decode cX8_startWith 24 = .ok (.getfield 19, 3) := by decide +kernel
theorem dX8_startWith_27 : decode cX8_startWith 27 = .ok (.iconst (-1), 1) := by decide +kernel
theorem dX8_startWith_28 : decode cX8_startWith 28 = .ok (.invokestatic 56, 3) := by decide +kernel
theorem dX8_startWith_31 : decode cX8_startWith 31 = .ok (.return_, 1) := by decide +kernel
theorem dX8_become_0 : decode cX8_become 0 = .ok (.aload_n 0, 1) := by decide +kernel
theorem dX8_become_1 : decode cX8_become 1 = .ok (.aload_n 1, 1) := by decide +kernel
theorem dX8_become_2 : decode cX8_become 2 = .ok (.getfield 9, 3) := by decide +kernel
theorem dX8_become_5 : decode cX8_become 5 = .ok (.putfield 9, 3) := by decide +kernel
theorem dX8_become_8 : decode cX8_become 8 = .ok (.aload_n 0, 1) := by decide +kernel
theorem dX8_become_9 : decode cX8_become 9 = .ok (.aload_n 1, 1) := by decide +kernel
theorem dX8_become_10 : decode cX8_become 10 = .ok (.getfield 22, 3) := by decide +kernel
theorem dX8_become_13 : decode cX8_become 13 = .ok (.putfield 22, 3) := by decide +kernel
theorem dX8_become_16 : decode cX8_become 16 = .ok (.aload_n 0, 1) := by decide +kernel
theorem dX8_become_17 : decode cX8_become 17 = .ok (.aload_n 1, 1) := by decide +kernel
theorem dX8_become_18 : decode cX8_become 18 = .ok (.getfield 41, 3) := by decide +kernel
theorem dX8_become_21 : decode cX8_become 21 = .ok (.putfield 41, 3) := by decide +kernel
theorem dX8_become_24 : decode cX8_become 24 = .ok (.aload_n 0, 1) := by decide +kernel
theorem dX8_become_25 : decode cX8_become 25 = .ok (.aload_n 1, 1) := by decide +kernel
theorem dX8_become_26 : decode cX8_become 26 = .ok (.getfield 53, 3) := by decide +kernel
theorem dX8_become_29 : decode cX8_become 29 = .ok (.putfield 53, 3) := by decide +kernel
theorem dX8_become_32 : decode cX8_become 32 = .ok (.aload_n 1, 1) := by decide +kernel
theorem dX8_become_33 : decode cX8_become 33 = .ok (.getfield 15, 3) := by decide +kernel
theorem dX8_become_36 : decode cX8_become 36 = .ok (.iconst 0, 1) := by decide +kernel
theorem dX8_become_37 : decode cX8_become 37 = .ok (.aload_n 0, 1) := by decide +kernel
theorem dX8_become_38 : decode cX8_become 38 = .ok (.getfield 15, 3) := by decide +kernel
theorem dX8_become_41 : decode cX8_become 41 = .ok (.iconst 0, 1) := by decide +kernel
theorem dX8_become_42 : decode cX8_become 42 = .ok (.bipush 10, 2) := by decide +kernel
theorem dX8_become_44 : decode cX8_become 44 = .ok (.invokestatic 62, 3) := by decide +kernel
theorem dX8_become_47 : decode cX8_become 47 = .ok (.aload_n 1, 1) := by decide +kernel
theorem dX8_become_48 : decode cX8_become 48 = .ok (.getfield 19, 3) := by decide +kernel
theorem dX8_become_51 : decode cX8_become 51 = .ok (.iconst 0, 1) := by decide +kernel
theorem dX8_become_52 : decode cX8_become 52 = .ok (.aload_n 0, 1) := by decide +kernel
theorem dX8_become_53 : decode cX8_become 53 = .ok (.getfield 19, 3) := by decide +kernel
theorem dX8_become_56 : decode cX8_become 56 = .ok (.iconst 0, 1) := by decide +kernel
theorem dX8_become_57 : decode cX8_become 57 = .ok (.bipush 10, 2) := by decide +kernel
theorem dX8_become_59 : decode cX8_become 59 = .ok (.invokestatic 62, 3) := by decide +kernel
theorem dX8_become_62 : decode cX8_become 62 = .ok (.aload_n 1, 1) := by decide +kernel
theorem dX8_become_63 : decode cX8_become 63 = .ok (.getfield 25, 3) := by decide +kernel
theorem dX8_become_66 : decode cX8_become 66 = .ok (.iconst 0, 1) := by decide +kernel
theorem dX8_become_67 : decode cX8_become 67 = .ok (.aload_n 0, 1) := by decide +kernel
theorem dX8_become_68 : decode cX8_become 68 = .ok (.getfield 25, 3) := by decide +kernel
theorem dX8_become_71 : decode cX8_become 71 = .ok (.iconst 0, 1) := by decide +kernel
theorem dX8_become_72 : decode cX8_become 72 = .ok (.bipush 14, 2) := by decide +kernel
theorem dX8_become_74 : decode cX8_become 74 = .ok (.invokestatic 62, 3) := by decide +kernel
theorem dX8_become_77 : decode cX8_become 77 = .ok (.aload_n 1, 1) := by decide +kernel
theorem dX8_become_78 : decode cX8_become 78 = .ok (.getfield 28, 3) := by decide +kernel
theorem dX8_become_81 : decode cX8_become 81 = .ok (.iconst 0, 1) := by decide +kernel
theorem dX8_become_82 : decode cX8_become 82 = .ok (.aload_n 0, 1) := by decide +kernel
theorem dX8_become_83 : decode cX8_become 83 = .ok (.getfield 28, 3) := by decide +kernel
theorem dX8_become_86 : decode cX8_become 86 = .ok (.iconst 0, 1) := by decide +kernel
theorem dX8_become_87 : decode cX8_become 87 = .ok (.bipush 14, 2) := by decide +kernel
theorem dX8_become_89 : decode cX8_become 89 = .ok (.invokestatic 62, 3) := by decide +kernel
theorem dX8_become_92 : decode cX8_become 92 = .ok (.aload_n 1, 1) := by decide +kernel
theorem dX8_become_93 : decode cX8_become 93 = .ok (.getfield 31, 3) := by decide +kernel
theorem dX8_become_96 : decode cX8_become 96 = .ok (.iconst 0, 1) := by decide +kernel
theorem dX8_become_97 : decode cX8_become 97 = .ok (.aload_n 0, 1) := by decide +kernel
theorem dX8_become_98 : decode cX8_become 98 = .ok (.getfield 31, 3) := by decide +kernel
theorem dX8_become_101 : decode cX8_become 101 = .ok (.iconst 0, 1) := by decide +kernel
theorem dX8_become_102 : decode cX8_become 102 = .ok (.bipush 14, 2) := by decide +kernel
theorem dX8_become_104 : decode cX8_become 104 = .ok (.invokestatic 62, 3) := by decide +kernel
theorem dX8_become_107 : decode cX8_become 107 = .ok (.aload_n 1, 1) := by decide +kernel
theorem dX8_become_108 : decode cX8_become 108 = .ok (.getfield 34, 3) := by decide +kernel
theorem dX8_become_111 : decode cX8_become 111 = .ok (.iconst 0, 1) := by decide +kernel
theorem dX8_become_112 : decode cX8_become 112 = .ok (.aload_n 0, 1) := by decide +kernel
theorem dX8_become_113 : decode cX8_become 113 = .ok (.getfield 34, 3) := by decide +kernel
theorem dX8_become_116 : decode cX8_become 116 = .ok (.iconst 0, 1) := by decide +kernel
theorem dX8_become_117 : decode cX8_become 117 = .ok (.bipush 14, 2) := by decide +kernel
theorem dX8_become_119 : decode cX8_become 119 = .ok (.invokestatic 62, 3) := by decide +kernel
theorem dX8_become_122 : decode cX8_become 122 = .ok (.aload_n 1, 1) := by decide +kernel
theorem dX8_become_123 : decode cX8_become 123 = .ok (.getfield 37, 3) := by decide +kernel
theorem dX8_become_126 : decode cX8_become 126 = .ok (.iconst 0, 1) := by decide +kernel
theorem dX8_become_127 : decode cX8_become 127 = .ok (.aload_n 0, 1) := by decide +kernel
theorem dX8_become_128 : decode cX8_become 128 = .ok (.getfield 37, 3) := by decide +kernel
theorem dX8_become_131 : decode cX8_become 131 = .ok (.iconst 0, 1) := by decide +kernel
theorem dX8_become_132 : decode cX8_become 132 = .ok (.bipush 14, 2) := by decide +kernel
theorem dX8_become_134 : decode cX8_become 134 = .ok (.invokestatic 62, 3) := by decide +kernel
theorem dX8_become_137 : decode cX8_become 137 = .ok (.aload_n 1, 1) := by decide +kernel
theorem dX8_become_138 : decode cX8_become 138 = .ok (.getfield 44, 3) := by decide +kernel
theorem dX8_become_141 : decode cX8_become 141 = .ok (.iconst 0, 1) := by decide +kernel
theorem dX8_become_142 : decode cX8_become 142 = .ok (.aload_n 0, 1) := by decide +kernel
theorem dX8_become_143 : decode cX8_become 143 = .ok (.getfield 44, 3) := by decide +kernel
theorem dX8_become_146 : decode cX8_become 146 = .ok (.iconst 0, 1) := by decide +kernel
theorem dX8_become_147 : decode cX8_become 147 = .ok (.bipush 8, 2) := by decide +kernel
theorem dX8_become_149 : decode cX8_become 149 = .ok (.invokestatic 62, 3) := by decide +kernel
theorem dX8_become_152 : decode cX8_become 152 = .ok (.aload_n 1, 1) := by decide +kernel
theorem dX8_become_153 : decode cX8_become 153 = .ok (.getfield 47, 3) := by decide +kernel
theorem dX8_become_156 : decode cX8_become 156 = .ok (.iconst 0, 1) := by decide +kernel
theorem dX8_become_157 : decode cX8_become 157 = .ok (.aload_n 0, 1) := by decide +kernel
theorem dX8_become_158 : decode cX8_become 158 = .ok (.getfield 47, 3) := by decide +kernel
theorem dX8_become_161 : decode cX8_become 161 = .ok (.iconst 0, 1) := by decide +kernel
theorem dX8_become_162 : decode cX8_become 162 = .ok (.bipush 8, 2) := by decide +kernel
theorem dX8_become_164 : decode cX8_become 164 = .ok (.invokestatic 62, 3) := by decide +kernel
theorem dX8_become_167 : decode cX8_become 167 = .ok (.aload_n 1, 1) := by decide +kernel
theorem dX8_become_168 : decode cX8_become 168 = .ok (.getfield 50, 3) := by decide +kernel
theorem dX8_become_171 : decode cX8_become 171 = .ok (.iconst 0, 1) := by decide +kernel
theorem dX8_become_172 : decode cX8_become 172 = .ok (.aload_n 0, 1) := by decide +kernel
theorem dX8_become_173 : decode cX8_become 173 = .ok (.getfield 50, 3) := by decide +kernel
theorem dX8_become_176 : decode cX8_become 176 = .ok (.iconst 0, 1) := by decide +kernel
theorem dX8_become_177 : decode cX8_become 177 = .ok (.bipush 8, 2) := by decide +kernel
theorem dX8_become_179 : decode cX8_become 179 = .ok (.invokestatic 62, 3) := by decide +kernel
theorem dX8_become_182 : decode cX8_become 182 = .ok (.return_, 1) := by decide +kernel
theorem dX8_hasPerson_0 : decode cX8_hasPerson 0 = .ok (.iload_n 1, 1) := by decide +kernel
theorem dX8_hasPerson_1 : decode cX8_hasPerson 1 = .ok (.ifCond .lt 15, 3) := by decide +kernel
theorem dX8_hasPerson_4 : decode cX8_hasPerson 4 = .ok (.iload_n 1, 1) := by decide +kernel
theorem dX8_hasPerson_5 : decode cX8_hasPerson 5 = .ok (.aload_n 0, 1) := by decide +kernel
theorem dX8_hasPerson_6 : decode cX8_hasPerson 6 = .ok (.getfield 9, 3) := by decide +kernel
theorem dX8_hasPerson_9 : decode cX8_hasPerson 9 = .ok (.if_icmp .ge 7, 3) := by decide +kernel
theorem dX8_hasPerson_12 : decode cX8_hasPerson 12 = .ok (.iconst 1, 1) := by decide +kernel
theorem dX8_hasPerson_13 : decode cX8_hasPerson 13 = .ok (.goto 4, 3) := by decide +kernel
theorem dX8_hasPerson_16 : decode cX8_hasPerson 16 = .ok (.iconst 0, 1) := by decide +kernel
theorem dX8_hasPerson_17 : decode cX8_hasPerson 17 = .ok (.ireturn, 1) := by decide +kernel
theorem dX8_hasTie_0 : decode cX8_hasTie 0 = .ok (.iload_n 1, 1) := by decide +kernel
theorem dX8_hasTie_1 : decode cX8_hasTie 1 = .ok (.ifCond .lt 15, 3) := by decide +kernel
theorem dX8_hasTie_4 : decode cX8_hasTie 4 = .ok (.iload_n 1, 1) := by decide +kernel
theorem dX8_hasTie_5 : decode cX8_hasTie 5 = .ok (.aload_n 0, 1) := by decide +kernel
theorem dX8_hasTie_6 : decode cX8_hasTie 6 = .ok (.getfield 22, 3) := by decide +kernel
theorem dX8_hasTie_9 : decode cX8_hasTie 9 = .ok (.if_icmp .ge 7, 3) := by decide +kernel
theorem dX8_hasTie_12 : decode cX8_hasTie 12 = .ok (.iconst 1, 1) := by decide +kernel
theorem dX8_hasTie_13 : decode cX8_hasTie 13 = .ok (.goto 4, 3) := by decide +kernel
theorem dX8_hasTie_16 : decode cX8_hasTie 16 = .ok (.iconst 0, 1) := by decide +kernel
theorem dX8_hasTie_17 : decode cX8_hasTie 17 = .ok (.ireturn, 1) := by decide +kernel
theorem dX8_hasCut_0 : decode cX8_hasCut 0 = .ok (.iload_n 1, 1) := by decide +kernel
theorem dX8_hasCut_1 : decode cX8_hasCut 1 = .ok (.ifCond .lt 15, 3) := by decide +kernel
theorem dX8_hasCut_4 : decode cX8_hasCut 4 = .ok (.iload_n 1, 1) := by decide +kernel
theorem dX8_hasCut_5 : decode cX8_hasCut 5 = .ok (.aload_n 0, 1) := by decide +kernel
theorem dX8_hasCut_6 : decode cX8_hasCut 6 = .ok (.getfield 41, 3) := by decide +kernel
theorem dX8_hasCut_9 : decode cX8_hasCut 9 = .ok (.if_icmp .ge 7, 3) := by decide +kernel
theorem dX8_hasCut_12 : decode cX8_hasCut 12 = .ok (.iconst 1, 1) := by decide +kernel
theorem dX8_hasCut_13 : decode cX8_hasCut 13 = .ok (.goto 4, 3) := by decide +kernel
theorem dX8_hasCut_16 : decode cX8_hasCut 16 = .ok (.iconst 0, 1) := by decide +kernel
theorem dX8_hasCut_17 : decode cX8_hasCut 17 = .ok (.ireturn, 1) := by decide +kernel
set_option maxRecDepth 20000 in
theorem ggX8_hasSet_X8_everybody : GoodIn wsX8_hasSet wsX8_everybody := goodIn_r _ [5, 6, 7, 8, 9, 10, 11, 12, 13, 14, 15, 16, 17, 18, 19, 20] (by decide +kernel) (by decide +kernel)
set_option maxRecDepth 20000 in
theorem gX8_hasSet_X8_everybody : GoodIn wsX8_hasSet (wsV RX8 68 RX8 yX8_everybody wsX8_everybody) := goodIn_app (goodIn_of _ (by decide +kernel)) ggX8_hasSet_X8_everybody
theorem dX8_hasSet_0 : decode cX8_hasSet 0 = .ok (.iload_n 1, 1) := by decide +kernel
theorem dX8_hasSet_1 : decode cX8_hasSet 1 = .ok (.ifCond .lt 15, 3) := by decide +kernel
theorem dX8_hasSet_4 : decode cX8_hasSet 4 = .ok (.iload_n 1, 1) := by decide +kernel
theorem dX8_hasSet_5 : decode cX8_hasSet 5 = .ok (.aload_n 0, 1) := by decide +kernel
theorem dX8_hasSet_6 : decode cX8_hasSet 6 = .ok (.invokevirtual 68, 3) := by decide +kernel
theorem dX8_hasSet_9 : decode cX8_hasSet 9 = .ok (.if_icmp .gt 7, 3) := by decide +kernel
theorem dX8_hasSet_12 : decode cX8_hasSet 12 = .ok (.iconst 1, 1) := by decide +kernel
theorem dX8_hasSet_13 : decode cX8_hasSet 13 = .ok (.goto 4, 3) := by decide +kernel
theorem dX8_hasSet_16 : decode cX8_hasSet 16 = .ok (.iconst 0, 1) := by decide +kernel
theorem dX8_hasSet_17 : decode cX8_hasSet 17 = .ok (.ireturn, 1) := by decide +kernel
theorem dX8_everybody_0 : decode cX8_everybody 0 = .ok (.iconst 1, 1) := by decide +kernel
theorem dX8_everybody_1 : decode cX8_everybody 1 = .ok (.aload_n 0, 1) := by decide +kernel
theorem dX8_everybody_2 : decode cX8_everybody 2 = .ok (.getfield 9, 3) := by decide +kernel
theorem dX8_everybody_5 : decode cX8_everybody 5 = .ok (.ishl, 1) := by decide +kernel
theorem dX8_everybody_6 : decode cX8_everybody 6 = .ok (.iconst 1, 1) := by decide +kernel
theorem dX8_everybody_7 : decode cX8_everybody 7 = .ok (.isub, 1) := by decide +kernel
theorem dX8_everybody_8 : decode cX8_everybody 8 = .ok (.ireturn, 1) := by decide +kernel
theorem dX8_weightOf_0 : decode cX8_weightOf 0 = .ok (.iconst 0, 1) := by decide +kernel
theorem dX8_weightOf_1 : decode cX8_weightOf 1 = .ok (.istore_n 2, 1) := by decide +kernel
theorem dX8_weightOf_2 : decode cX8_weightOf 2 = .ok (.iconst 0, 1) := by decide +kernel
theorem dX8_weightOf_3 : decode cX8_weightOf 3 = .ok (.istore_n 3, 1) := by decide +kernel
theorem dX8_weightOf_4 : decode cX8_weightOf 4 = .ok (.iload_n 3, 1) := by decide +kernel
theorem dX8_weightOf_5 : decode cX8_weightOf 5 = .ok (.aload_n 0, 1) := by decide +kernel
theorem dX8_weightOf_6 : decode cX8_weightOf 6 = .ok (.getfield 9, 3) := by decide +kernel
theorem dX8_weightOf_9 : decode cX8_weightOf 9 = .ok (.if_icmp .ge 26, 3) := by decide +kernel
theorem dX8_weightOf_12 : decode cX8_weightOf 12 = .ok (.iload_n 1, 1) := by decide +kernel
theorem dX8_weightOf_13 : decode cX8_weightOf 13 = .ok (.iload_n 3, 1) := by decide +kernel
theorem dX8_weightOf_14 : decode cX8_weightOf 14 = .ok (.ishr, 1) := by decide +kernel
theorem dX8_weightOf_15 : decode cX8_weightOf 15 = .ok (.iconst 1, 1) := by decide +kernel
theorem dX8_weightOf_16 : decode cX8_weightOf 16 = .ok (.iand, 1) := by decide +kernel
theorem dX8_weightOf_17 : decode cX8_weightOf 17 = .ok (.ifCond .eq 12, 3) := by decide +kernel
theorem dX8_weightOf_20 : decode cX8_weightOf 20 = .ok (.iload_n 2, 1) := by decide +kernel
theorem dX8_weightOf_21 : decode cX8_weightOf 21 = .ok (.aload_n 0, 1) := by decide +kernel
theorem dX8_weightOf_22 : decode cX8_weightOf 22 = .ok (.getfield 15, 3) := by decide +kernel
theorem dX8_weightOf_25 : decode cX8_weightOf 25 = .ok (.iload_n 3, 1) := by decide +kernel
theorem dX8_weightOf_26 : decode cX8_weightOf 26 = .ok (.iaload, 1) := by decide +kernel
theorem dX8_weightOf_27 : decode cX8_weightOf 27 = .ok (.iadd, 1) := by decide +kernel
theorem dX8_weightOf_28 : decode cX8_weightOf 28 = .ok (.istore_n 2, 1) := by decide +kernel
theorem dX8_weightOf_29 : decode cX8_weightOf 29 = .ok (.iinc 3 1, 3) := by decide +kernel
theorem dX8_weightOf_32 : decode cX8_weightOf 32 = .ok (.goto (-28), 3) := by decide +kernel
theorem dX8_weightOf_35 : decode cX8_weightOf 35 = .ok (.iload_n 2, 1) := by decide +kernel
theorem dX8_weightOf_36 : decode cX8_weightOf 36 = .ok (.ireturn, 1) := by decide +kernel
theorem dX8_howManyShow_0 : decode cX8_howManyShow 0 = .ok (.iconst 0, 1) := by decide +kernel
theorem dX8_howManyShow_1 : decode cX8_howManyShow 1 = .ok (.istore_n 1, 1) := by decide +kernel
theorem dX8_howManyShow_2 : decode cX8_howManyShow 2 = .ok (.iconst 0, 1) := by decide +kernel
theorem dX8_howManyShow_3 : decode cX8_howManyShow 3 = .ok (.istore_n 2, 1) := by decide +kernel
theorem dX8_howManyShow_4 : decode cX8_howManyShow 4 = .ok (.iload_n 2, 1) := by decide +kernel
theorem dX8_howManyShow_5 : decode cX8_howManyShow 5 = .ok (.aload_n 0, 1) := by decide +kernel
theorem dX8_howManyShow_6 : decode cX8_howManyShow 6 = .ok (.getfield 9, 3) := by decide +kernel
theorem dX8_howManyShow_9 : decode cX8_howManyShow 9 = .ok (.if_icmp .ge 21, 3) := by decide +kernel
theorem dX8_howManyShow_12 : decode cX8_howManyShow 12 = .ok (.aload_n 0, 1) := by decide +kernel
theorem dX8_howManyShow_13 : decode cX8_howManyShow 13 = .ok (.getfield 19, 3) := by decide +kernel
theorem dX8_howManyShow_16 : decode cX8_howManyShow 16 = .ok (.iload_n 2, 1) := by decide +kernel
theorem dX8_howManyShow_17 : decode cX8_howManyShow 17 = .ok (.iaload, 1) := by decide +kernel
theorem dX8_howManyShow_18 : decode cX8_howManyShow 18 = .ok (.ifCond .lt 6, 3) := by decide +kernel
theorem dX8_howManyShow_21 : decode cX8_howManyShow 21 = .ok (.iinc 1 1, 3) := by decide +kernel
theorem dX8_howManyShow_24 : decode cX8_howManyShow 24 = .ok (.iinc 2 1, 3) := by decide +kernel
theorem dX8_howManyShow_27 : decode cX8_howManyShow 27 = .ok (.goto (-23), 3) := by decide +kernel
theorem dX8_howManyShow_30 : decode cX8_howManyShow 30 = .ok (.iload_n 1, 1) := by decide +kernel
theorem dX8_howManyShow_31 : decode cX8_howManyShow 31 = .ok (.ireturn, 1) := by decide +kernel
theorem dX8_isAsShown_0 : decode cX8_isAsShown 0 = .ok (.iconst 0, 1) := by decide +kernel
theorem dX8_isAsShown_1 : decode cX8_isAsShown 1 = .ok (.istore_n 2, 1) := by decide +kernel
theorem dX8_isAsShown_2 : decode cX8_isAsShown 2 = .ok (.iload_n 2, 1) := by decide +kernel
theorem dX8_isAsShown_3 : decode cX8_isAsShown 3 = .ok (.aload_n 0, 1) := by decide +kernel
theorem dX8_isAsShown_4 : decode cX8_isAsShown 4 = .ok (.getfield 9, 3) := by decide +kernel
theorem dX8_isAsShown_7 : decode cX8_isAsShown 7 = .ok (.if_icmp .ge 34, 3) := by decide +kernel
theorem dX8_isAsShown_10 : decode cX8_isAsShown 10 = .ok (.aload_n 0, 1) := by decide +kernel
theorem dX8_isAsShown_11 : decode cX8_isAsShown 11 = .ok (.getfield 19, 3) := by decide +kernel
theorem dX8_isAsShown_14 : decode cX8_isAsShown 14 = .ok (.iload_n 2, 1) := by decide +kernel
theorem dX8_isAsShown_15 : decode cX8_isAsShown 15 = .ok (.iaload, 1) := by decide +kernel
theorem dX8_isAsShown_16 : decode cX8_isAsShown 16 = .ok (.ifCond .lt 19, 3) := by decide +kernel
theorem dX8_isAsShown_19 : decode cX8_isAsShown 19 = .ok (.aload_n 0, 1) := by decide +kernel
theorem dX8_isAsShown_20 : decode cX8_isAsShown 20 = .ok (.getfield 19, 3) := by decide +kernel
theorem dX8_isAsShown_23 : decode cX8_isAsShown 23 = .ok (.iload_n 2, 1) := by decide +kernel
theorem dX8_isAsShown_24 : decode cX8_isAsShown 24 = .ok (.iaload, 1) := by decide +kernel
theorem dX8_isAsShown_25 : decode cX8_isAsShown 25 = .ok (.iload_n 1, 1) := by decide +kernel
theorem dX8_isAsShown_26 : decode cX8_isAsShown 26 = .ok (.iload_n 2, 1) := by decide +kernel
theorem dX8_isAsShown_27 : decode cX8_isAsShown 27 = .ok (.ishr, 1) := by decide +kernel
theorem dX8_isAsShown_28 : decode cX8_isAsShown 28 = .ok (.iconst 1, 1) := by decide +kernel
theorem dX8_isAsShown_29 : decode cX8_isAsShown 29 = .ok (.iand, 1) := by decide +kernel
theorem dX8_isAsShown_30 : decode cX8_isAsShown 30 = .ok (.if_icmp .eq 5, 3) := by decide +kernel
theorem dX8_isAsShown_33 : decode cX8_isAsShown 33 = .ok (.iconst 0, 1) := by decide +kernel
theorem dX8_isAsShown_34 : decode cX8_isAsShown 34 = .ok (.ireturn, 1) := by decide +kernel
theorem dX8_isAsShown_35 : decode cX8_isAsShown 35 = .ok (.iinc 2 1, 3) := by decide +kernel
theorem dX8_isAsShown_38 : decode cX8_isAsShown 38 = .ok (.goto (-36), 3) := by decide +kernel
theorem dX8_isAsShown_41 : decode cX8_isAsShown 41 = .ok (.iconst 1, 1) := by decide +kernel
theorem dX8_isAsShown_42 : decode cX8_isAsShown 42 = .ok (.ireturn, 1) := by decide +kernel
theorem dX8_tieBetween_0 : decode cX8_tieBetween 0 = .ok (.iconst 0, 1) := by decide +kernel
theorem dX8_tieBetween_1 : decode cX8_tieBetween 1 = .ok (.istore_n 3, 1) := by decide +kernel
theorem dX8_tieBetween_2 : decode cX8_tieBetween 2 = .ok (.iload_n 3, 1) := by decide +kernel
theorem dX8_tieBetween_3 : decode cX8_tieBetween 3 = .ok (.aload_n 0, 1) := by decide +kernel
theorem dX8_tieBetween_4 : decode cX8_tieBetween 4 = .ok (.getfield 22, 3) := by decide +kernel
theorem dX8_tieBetween_7 : decode cX8_tieBetween 7 = .ok (.if_icmp .ge 39, 3) := by decide +kernel
theorem dX8_tieBetween_10 : decode cX8_tieBetween 10 = .ok (.aload_n 0, 1) := by decide +kernel
theorem dX8_tieBetween_11 : decode cX8_tieBetween 11 = .ok (.getfield 25, 3) := by decide +kernel
theorem dX8_tieBetween_14 : decode cX8_tieBetween 14 = .ok (.iload_n 3, 1) := by decide +kernel
theorem dX8_tieBetween_15 : decode cX8_tieBetween 15 = .ok (.iaload, 1) := by decide +kernel
theorem dX8_tieBetween_16 : decode cX8_tieBetween 16 = .ok (.iload_n 1, 1) := by decide +kernel
theorem dX8_tieBetween_17 : decode cX8_tieBetween 17 = .ok (.iload_n 2, 1) := by decide +kernel
theorem dX8_tieBetween_18 : decode cX8_tieBetween 18 = .ok (.invokestatic 72, 3) := by decide +kernel
theorem dX8_tieBetween_21 : decode cX8_tieBetween 21 = .ok (.if_icmp .ne 19, 3) := by decide +kernel
theorem dX8_tieBetween_24 : decode cX8_tieBetween 24 = .ok (.aload_n 0, 1) := by decide +kernel
theorem dX8_tieBetween_25 : decode cX8_tieBetween 25 = .ok (.getfield 28, 3) := by decide +kernel
theorem dX8_tieBetween_28 : decode cX8_tieBetween 28 = .ok (.iload_n 3, 1) := by decide +kernel
theorem dX8_tieBetween_29 : decode cX8_tieBetween 29 = .ok (.iaload, 1) := by decide +kernel
theorem dX8_tieBetween_30 : decode cX8_tieBetween 30 = .ok (.iload_n 1, 1) := by decide +kernel
theorem dX8_tieBetween_31 : decode cX8_tieBetween 31 = .ok (.iload_n 2, 1) := by decide +kernel
theorem dX8_tieBetween_32 : decode cX8_tieBetween 32 = .ok (.invokestatic 78, 3) := by decide +kernel
theorem dX8_tieBetween_35 : decode cX8_tieBetween 35 = .ok (.if_icmp .ne 5, 3) := by decide +kernel
theorem dX8_tieBetween_38 : decode cX8_tieBetween 38 = .ok (.iload_n 3, 1) := by decide +kernel
theorem dX8_tieBetween_39 : decode cX8_tieBetween 39 = .ok (.ireturn, 1) := by decide +kernel
theorem dX8_tieBetween_40 : decode cX8_tieBetween 40 = .ok (.iinc 3 1, 3) := by decide +kernel
theorem dX8_tieBetween_43 : decode cX8_tieBetween 43 = .ok (.goto (-41), 3) := by decide +kernel
theorem dX8_tieBetween_46 : decode cX8_tieBetween 46 = .ok (.iconst (-1), 1) := by decide +kernel
theorem dX8_tieBetween_47 : decode cX8_tieBetween 47 = .ok (.ireturn, 1) := by decide +kernel
theorem dX8_addTie_0 : decode cX8_addTie 0 = .ok (.aload_n 0, 1) := by decide +kernel
theorem dX8_addTie_1 : decode cX8_addTie 1 = .ok (.getfield 22, 3) := by decide +kernel
theorem dX8_addTie_4 : decode cX8_addTie 4 = .ok (.bipush 14, 2) := by decide +kernel
theorem dX8_addTie_6 : decode cX8_addTie 6 = .ok (.if_icmp .lt 5, 3) := by decide +kernel
theorem dX8_addTie_9 : decode cX8_addTie 9 = .ok (.iconst (-1), 1) := by decide +kernel
theorem dX8_addTie_10 : decode cX8_addTie 10 = .ok (.ireturn, 1) := by decide +kernel
theorem dX8_addTie_11 : decode cX8_addTie 11 = .ok (.aload_n 0, 1) := by decide +kernel
theorem dX8_addTie_12 : decode cX8_addTie 12 = .ok (.getfield 22, 3) := by decide +kernel
theorem dX8_addTie_15 : decode cX8_addTie 15 = .ok (.istore_n 3, 1) := by decide +kernel
theorem dX8_addTie_16 : decode cX8_addTie 16 = .ok (.aload_n 0, 1) := by decide +kernel
theorem dX8_addTie_17 : decode cX8_addTie 17 = .ok (.getfield 25, 3) := by decide +kernel
theorem dX8_addTie_20 : decode cX8_addTie 20 = .ok (.iload_n 3, 1) := by decide +kernel
theorem dX8_addTie_21 : decode cX8_addTie 21 = .ok (.iload_n 1, 1) := by decide +kernel
theorem dX8_addTie_22 : decode cX8_addTie 22 = .ok (.iload_n 2, 1) := by decide +kernel
theorem dX8_addTie_23 : decode cX8_addTie 23 = .ok (.invokestatic 72, 3) := by decide +kernel
theorem dX8_addTie_26 : decode cX8_addTie 26 = .ok (.iastore, 1) := by decide +kernel
theorem dX8_addTie_27 : decode cX8_addTie 27 = .ok (.aload_n 0, 1) := by decide +kernel
theorem dX8_addTie_28 : decode cX8_addTie 28 = .ok (.getfield 28, 3) := by decide +kernel
theorem dX8_addTie_31 : decode cX8_addTie 31 = .ok (.iload_n 3, 1) := by decide +kernel
theorem dX8_addTie_32 : decode cX8_addTie 32 = .ok (.iload_n 1, 1) := by decide +kernel
theorem dX8_addTie_33 : decode cX8_addTie 33 = .ok (.iload_n 2, 1) := by decide +kernel
theorem dX8_addTie_34 : decode cX8_addTie 34 = .ok (.invokestatic 78, 3) := by decide +kernel
theorem dX8_addTie_37 : decode cX8_addTie 37 = .ok (.iastore, 1) := by decide +kernel
theorem dX8_addTie_38 : decode cX8_addTie 38 = .ok (.aload_n 0, 1) := by decide +kernel
theorem dX8_addTie_39 : decode cX8_addTie 39 = .ok (.getfield 31, 3) := by decide +kernel
theorem dX8_addTie_42 : decode cX8_addTie 42 = .ok (.iload_n 3, 1) := by decide +kernel
theorem dX8_addTie_43 : decode cX8_addTie 43 = .ok (.iconst 1, 1) := by decide +kernel
theorem dX8_addTie_44 : decode cX8_addTie 44 = .ok (.iastore, 1) := by decide +kernel
theorem dX8_addTie_45 : decode cX8_addTie 45 = .ok (.aload_n 0, 1) := by decide +kernel
theorem dX8_addTie_46 : decode cX8_addTie 46 = .ok (.getfield 34, 3) := by decide +kernel
theorem dX8_addTie_49 : decode cX8_addTie 49 = .ok (.iload_n 3, 1) := by decide +kernel
theorem dX8_addTie_50 : decode cX8_addTie 50 = .ok (.iconst 4, 1) := by decide +kernel
theorem dX8_addTie_51 : decode cX8_addTie 51 = .ok (.iastore, 1) := by decide +kernel
theorem dX8_addTie_52 : decode cX8_addTie 52 = .ok (.aload_n 0, 1) := by decide +kernel
theorem dX8_addTie_53 : decode cX8_addTie 53 = .ok (.getfield 37, 3) := by decide +kernel
theorem dX8_addTie_56 : decode cX8_addTie 56 = .ok (.iload_n 3, 1) := by decide +kernel
theorem dX8_addTie_57 : decode cX8_addTie 57 = .ok (.iconst 0, 1) := by decide +kernel
theorem dX8_addTie_58 : decode cX8_addTie 58 = .ok (.bastore, 1) := by decide +kernel
theorem dX8_addTie_59 : decode cX8_addTie 59 = .ok (.aload_n 0, 1) := by decide +kernel
theorem dX8_addTie_60 : decode cX8_addTie 60 = .ok (.dup, 1) := by decide +kernel
theorem dX8_addTie_61 : decode cX8_addTie 61 = .ok (.getfield 22, 3) := by decide +kernel
theorem dX8_addTie_64 : decode cX8_addTie 64 = .ok (.iconst 1, 1) := by decide +kernel
theorem dX8_addTie_65 : decode cX8_addTie 65 = .ok (.iadd, 1) := by decide +kernel
theorem dX8_addTie_66 : decode cX8_addTie 66 = .ok (.putfield 22, 3) := by decide +kernel
theorem dX8_addTie_69 : decode cX8_addTie 69 = .ok (.iload_n 3, 1) := by decide +kernel
theorem dX8_addTie_70 : decode cX8_addTie 70 = .ok (.ireturn, 1) := by decide +kernel
theorem dX8_addCut_0 : decode cX8_addCut 0 = .ok (.aload_n 0, 1) := by decide +kernel
theorem dX8_addCut_1 : decode cX8_addCut 1 = .ok (.getfield 41, 3) := by decide +kernel
theorem dX8_addCut_4 : decode cX8_addCut 4 = .ok (.bipush 8, 2) := by decide +kernel
theorem dX8_addCut_6 : decode cX8_addCut 6 = .ok (.if_icmp .lt 5, 3) := by decide +kernel
theorem dX8_addCut_9 : decode cX8_addCut 9 = .ok (.iconst (-1), 1) := by decide +kernel
theorem dX8_addCut_10 : decode cX8_addCut 10 = .ok (.ireturn, 1) := by decide +kernel
theorem dX8_addCut_11 : decode cX8_addCut 11 = .ok (.aload_n 0, 1) := by decide +kernel
theorem dX8_addCut_12 : decode cX8_addCut 12 = .ok (.getfield 41, 3) := by decide +kernel
theorem dX8_addCut_15 : decode cX8_addCut 15 = .ok (.istore 4, 2) := by decide +kernel
theorem dX8_addCut_17 : decode cX8_addCut 17 = .ok (.aload_n 0, 1) := by decide +kernel
theorem dX8_addCut_18 : decode cX8_addCut 18 = .ok (.getfield 44, 3) := by decide +kernel
theorem dX8_addCut_21 : decode cX8_addCut 21 = .ok (.iload 4, 2) := by decide +kernel
theorem dX8_addCut_23 : decode cX8_addCut 23 = .ok (.iload_n 1, 1) := by decide +kernel
theorem dX8_addCut_24 : decode cX8_addCut 24 = .ok (.iastore, 1) := by decide +kernel
theorem dX8_addCut_25 : decode cX8_addCut 25 = .ok (.aload_n 0, 1) := by decide +kernel
theorem dX8_addCut_26 : decode cX8_addCut 26 = .ok (.getfield 47, 3) := by decide +kernel
theorem dX8_addCut_29 : decode cX8_addCut 29 = .ok (.iload 4, 2) := by decide +kernel
theorem dX8_addCut_31 : decode cX8_addCut 31 = .ok (.iload_n 2, 1) := by decide +kernel
theorem dX8_addCut_32 : decode cX8_addCut 32 = .ok (.iastore, 1) := by decide +kernel
theorem dX8_addCut_33 : decode cX8_addCut 33 = .ok (.aload_n 0, 1) := by decide +kernel
theorem dX8_addCut_34 : decode cX8_addCut 34 = .ok (.getfield 50, 3) := by decide +kernel
theorem dX8_addCut_37 : decode cX8_addCut 37 = .ok (.iload 4, 2) := by decide +kernel
theorem dX8_addCut_39 : decode cX8_addCut 39 = .ok (.iload_n 3, 1) := by decide +kernel
theorem dX8_addCut_40 : decode cX8_addCut 40 = .ok (.iastore, 1) := by decide +kernel
theorem dX8_addCut_41 : decode cX8_addCut 41 = .ok (.aload_n 0, 1) := by decide +kernel
theorem dX8_addCut_42 : decode cX8_addCut 42 = .ok (.dup, 1) := by decide +kernel
theorem dX8_addCut_43 : decode cX8_addCut 43 = .ok (.getfield 41, 3) := by decide +kernel
theorem dX8_addCut_46 : decode cX8_addCut 46 = .ok (.iconst 1, 1) := by decide +kernel
theorem dX8_addCut_47 : decode cX8_addCut 47 = .ok (.iadd, 1) := by decide +kernel
theorem dX8_addCut_48 : decode cX8_addCut 48 = .ok (.putfield 41, 3) := by decide +kernel
theorem dX8_addCut_51 : decode cX8_addCut 51 = .ok (.iload 4, 2) := by decide +kernel
theorem dX8_addCut_53 : decode cX8_addCut 53 = .ok (.ireturn, 1) := by decide +kernel
theorem dX8_bothOf_0 : decode cX8_bothOf 0 = .ok (.iconst 1, 1) := by decide +kernel
theorem dX8_bothOf_1 : decode cX8_bothOf 1 = .ok (.aload_n 0, 1) := by decide +kernel
theorem dX8_bothOf_2 : decode cX8_bothOf 2 = .ok (.getfield 25, 3) := by decide +kernel
theorem dX8_bothOf_5 : decode cX8_bothOf 5 = .ok (.iload_n 1, 1) := by decide +kernel
theorem dX8_bothOf_6 : decode cX8_bothOf 6 = .ok (.iaload, 1) := by decide +kernel
theorem dX8_bothOf_7 : decode cX8_bothOf 7 = .ok (.ishl, 1) := by decide +kernel
theorem dX8_bothOf_8 : decode cX8_bothOf 8 = .ok (.iconst 1, 1) := by decide +kernel
theorem dX8_bothOf_9 : decode cX8_bothOf 9 = .ok (.aload_n 0, 1) := by decide +kernel
theorem dX8_bothOf_10 : decode cX8_bothOf 10 = .ok (.getfield 28, 3) := by decide +kernel
theorem dX8_bothOf_13 : decode cX8_bothOf 13 = .ok (.iload_n 1, 1) := by decide +kernel
theorem dX8_bothOf_14 : decode cX8_bothOf 14 = .ok (.iaload, 1) := by decide +kernel
theorem dX8_bothOf_15 : decode cX8_bothOf 15 = .ok (.ishl, 1) := by decide +kernel
theorem dX8_bothOf_16 : decode cX8_bothOf 16 = .ok (.ior, 1) := by decide +kernel
theorem dX8_bothOf_17 : decode cX8_bothOf 17 = .ok (.ireturn, 1) := by decide +kernel
set_option maxRecDepth 20000 in
theorem ggX8_isOpen_X8_isCutBy : GoodIn wsX8_isOpen wsX8_isCutBy := goodIn_r _ [6, 7, 8, 9, 10, 11, 12, 13, 5, 14, 15, 16, 17, 18, 19, 20, 21, 22, 23, 24, 25, 26, 27, 28, 29, 30, 31, 32, 33, 34, 35, 36, 37] (by decide +kernel) (by decide +kernel)
set_option maxRecDepth 20000 in
theorem gX8_isOpen_X8_isCutBy : GoodIn wsX8_isOpen (wsV RX8 81 RX8 yX8_isCutBy wsX8_isCutBy) := goodIn_app (goodIn_of _ (by decide +kernel)) ggX8_isOpen_X8_isCutBy
theorem dX8_isOpen_0 : decode cX8_isOpen 0 = .ok (.iconst 0, 1) := by decide +kernel
theorem dX8_isOpen_1 : decode cX8_isOpen 1 = .ok (.istore_n 3, 1) := by decide +kernel
theorem dX8_isOpen_2 : decode cX8_isOpen 2 = .ok (.iload_n 3, 1) := by decide +kernel
theorem dX8_isOpen_3 : decode cX8_isOpen 3 = .ok (.aload_n 0, 1) := by decide +kernel
theorem dX8_isOpen_4 : decode cX8_isOpen 4 = .ok (.getfield 41, 3) := by decide +kernel
theorem dX8_isOpen_7 : decode cX8_isOpen 7 = .ok (.if_icmp .ge 21, 3) := by decide +kernel
theorem dX8_isOpen_10 : decode cX8_isOpen 10 = .ok (.aload_n 0, 1) := by decide +kernel
theorem dX8_isOpen_11 : decode cX8_isOpen 11 = .ok (.iload_n 3, 1) := by decide +kernel
theorem dX8_isOpen_12 : decode cX8_isOpen 12 = .ok (.iload_n 1, 1) := by decide +kernel
theorem dX8_isOpen_13 : decode cX8_isOpen 13 = .ok (.iload_n 2, 1) := by decide +kernel
theorem dX8_isOpen_14 : decode cX8_isOpen 14 = .ok (.invokevirtual 81, 3) := by decide +kernel
theorem dX8_isOpen_17 : decode cX8_isOpen 17 = .ok (.ifCond .eq 5, 3) := by decide +kernel
theorem dX8_isOpen_20 : decode cX8_isOpen 20 = .ok (.iconst 0, 1) := by decide +kernel
theorem dX8_isOpen_21 : decode cX8_isOpen 21 = .ok (.ireturn, 1) := by decide +kernel
theorem dX8_isOpen_22 : decode cX8_isOpen 22 = .ok (.iinc 3 1, 3) := by decide +kernel
theorem dX8_isOpen_25 : decode cX8_isOpen 25 = .ok (.goto (-23), 3) := by decide +kernel
theorem dX8_isOpen_28 : decode cX8_isOpen 28 = .ok (.iconst 1, 1) := by decide +kernel
theorem dX8_isOpen_29 : decode cX8_isOpen 29 = .ok (.ireturn, 1) := by decide +kernel
set_option maxRecDepth 20000 in
theorem ggX8_isCutBy_X8_bothOf : GoodIn wsX8_isCutBy wsX8_bothOf := goodIn_r _ [9, 10, 11, 19, 20, 21, 22, 23, 24, 25, 26, 27, 28, 29, 30, 31, 32] (by decide +kernel) (by decide +kernel)
set_option maxRecDepth 20000 in
theorem gX8_isCutBy_X8_bothOf : GoodIn wsX8_isCutBy (wsV RX8 85 RX8 yX8_bothOf wsX8_bothOf) := goodIn_app (goodIn_of _ (by decide +kernel)) ggX8_isCutBy_X8_bothOf
set_option maxRecDepth 20000 in
theorem ggX8_isCutBy_J6_bitCount_0f7a4 : GoodIn wsX8_isCutBy wsJ6_bitCount_0f7a4 := goodIn_r _ [15, 16, 17, 18] (by decide +kernel) (by decide +kernel)
set_option maxRecDepth 20000 in
theorem gX8_isCutBy_J6_bitCount_0f7a4 : GoodIn wsX8_isCutBy (va_wsS RX8 89 yJ6_bitCount_0f7a4 wsJ6_bitCount_0f7a4) := goodIn_app (goodIn_of _ (by decide +kernel)) ggX8_isCutBy_J6_bitCount_0f7a4
theorem dX8_isCutBy_0 : decode cX8_isCutBy 0 = .ok (.aload_n 0, 1) := by decide +kernel
theorem dX8_isCutBy_1 : decode cX8_isCutBy 1 = .ok (.iload_n 2, 1) := by decide +kernel
theorem dX8_isCutBy_2 : decode cX8_isCutBy 2 = .ok (.invokevirtual 85, 3) := by decide +kernel
theorem dX8_isCutBy_5 : decode cX8_isCutBy 5 = .ok (.istore 4, 2) := by decide +kernel
theorem dX8_isCutBy_7 : decode cX8_isCutBy 7 = .ok (.iload 4, 2) := by decide +kernel
theorem dX8_isCutBy_9 : decode cX8_isCutBy 9 = .ok (.aload_n 0, 1) := by decide +kernel
theorem dX8_isCutBy_10 : decode cX8_isCutBy 10 = .ok (.getfield 47, 3) := by decide +kernel
theorem dX8_isCutBy_13 : decode cX8_isCutBy 13 = .ok (.iload_n 1, 1) := by decide +kernel
theorem dX8_isCutBy_14 : decode cX8_isCutBy 14 = .ok (.iaload, 1) := by decide +kernel
theorem dX8_isCutBy_15 : decode cX8_isCutBy 15 = .ok (.iand, 1) := by decide +kernel
theorem dX8_isCutBy_16 : decode cX8_isCutBy 16 = .ok (.istore 5, 2) := by decide +kernel
theorem dX8_isCutBy_18 : decode cX8_isCutBy 18 = .ok (.aload_n 0, 1) := by decide +kernel
theorem dX8_isCutBy_19 : decode cX8_isCutBy 19 = .ok (.getfield 44, 3) := by decide +kernel
theorem dX8_isCutBy_22 : decode cX8_isCutBy 22 = .ok (.iload_n 1, 1) := by decide +kernel
theorem dX8_isCutBy_23 : decode cX8_isCutBy 23 = .ok (.iaload, 1) := by decide +kernel
theorem dX8_isCutBy_24 : decode cX8_isCutBy 24 = .ok (.tableswitch 145 1 6 #[40, 56, 80, 95, 121, 132], 40) := by decide +kernel
theorem dX8_isCutBy_64 : decode cX8_isCutBy 64 = .ok (.aload_n 0, 1) := by decide +kernel
theorem dX8_isCutBy_65 : decode cX8_isCutBy 65 = .ok (.getfield 47, 3) := by decide +kernel
theorem dX8_isCutBy_68 : decode cX8_isCutBy 68 = .ok (.iload_n 1, 1) := by decide +kernel
theorem dX8_isCutBy_69 : decode cX8_isCutBy 69 = .ok (.iaload, 1) := by decide +kernel
theorem dX8_isCutBy_70 : decode cX8_isCutBy 70 = .ok (.iload_n 2, 1) := by decide +kernel
theorem dX8_isCutBy_71 : decode cX8_isCutBy 71 = .ok (.if_icmp .ne 7, 3) := by decide +kernel
theorem dX8_isCutBy_74 : decode cX8_isCutBy 74 = .ok (.iconst 1, 1) := by decide +kernel
theorem dX8_isCutBy_75 : decode cX8_isCutBy 75 = .ok (.goto 4, 3) := by decide +kernel
theorem dX8_isCutBy_78 : decode cX8_isCutBy 78 = .ok (.iconst 0, 1) := by decide +kernel
theorem dX8_isCutBy_79 : decode cX8_isCutBy 79 = .ok (.ireturn, 1) := by decide +kernel
theorem dX8_isCutBy_80 : decode cX8_isCutBy 80 = .ok (.iload 5, 2) := by decide +kernel
theorem dX8_isCutBy_82 : decode cX8_isCutBy 82 = .ok (.invokestatic 89, 3) := by decide +kernel
theorem dX8_isCutBy_85 : decode cX8_isCutBy 85 = .ok (.iconst 1, 1) := by decide +kernel
theorem dX8_isCutBy_86 : decode cX8_isCutBy 86 = .ok (.if_icmp .ne 16, 3) := by decide +kernel
theorem dX8_isCutBy_89 : decode cX8_isCutBy 89 = .ok (.aload_n 0, 1) := by decide +kernel
theorem dX8_isCutBy_90 : decode cX8_isCutBy 90 = .ok (.getfield 37, 3) := by decide +kernel
theorem dX8_isCutBy_93 : decode cX8_isCutBy 93 = .ok (.iload_n 2, 1) := by decide +kernel
theorem dX8_isCutBy_94 : decode cX8_isCutBy 94 = .ok (.baload, 1) := by decide +kernel
theorem dX8_isCutBy_95 : decode cX8_isCutBy 95 = .ok (.ifCond .ne 7, 3) := by decide +kernel
theorem dX8_isCutBy_98 : decode cX8_isCutBy 98 = .ok (.iconst 1, 1) := by decide +kernel
theorem dX8_isCutBy_99 : decode cX8_isCutBy 99 = .ok (.goto 4, 3) := by decide +kernel
theorem dX8_isCutBy_102 : decode cX8_isCutBy 102 = .ok (.iconst 0, 1) := by decide +kernel
theorem dX8_isCutBy_103 : decode cX8_isCutBy 103 = .ok (.ireturn, 1) := by decide +kernel
theorem dX8_isCutBy_104 : decode cX8_isCutBy 104 = .ok (.iload 5, 2) := by decide +kernel
theorem dX8_isCutBy_106 : decode cX8_isCutBy 106 = .ok (.invokestatic 89, 3) := by decide +kernel
theorem dX8_isCutBy_109 : decode cX8_isCutBy 109 = .ok (.iconst 1, 1) := by decide +kernel
theorem dX8_isCutBy_110 : decode cX8_isCutBy 110 = .ok (.if_icmp .ne 7, 3) := by decide +kernel
theorem dX8_isCutBy_113 : decode cX8_isCutBy 113 = .ok (.iconst 1, 1) := by decide +kernel
theorem dX8_isCutBy_114 : decode cX8_isCutBy 114 = .ok (.goto 4, 3) := by decide +kernel
theorem dX8_isCutBy_117 : decode cX8_isCutBy 117 = .ok (.iconst 0, 1) := by decide +kernel
theorem dX8_isCutBy_118 : decode cX8_isCutBy 118 = .ok (.ireturn, 1) := by decide +kernel
theorem dX8_isCutBy_119 : decode cX8_isCutBy 119 = .ok (.aload_n 0, 1) := by decide +kernel
theorem dX8_isCutBy_120 : decode cX8_isCutBy 120 = .ok (.getfield 47, 3) := by decide +kernel
theorem dX8_isCutBy_123 : decode cX8_isCutBy 123 = .ok (.iload_n 1, 1) := by decide +kernel
theorem dX8_isCutBy_124 : decode cX8_isCutBy 124 = .ok (.iaload, 1) := by decide +kernel
theorem dX8_isCutBy_125 : decode cX8_isCutBy 125 = .ok (.iload_n 2, 1) := by decide +kernel
theorem dX8_isCutBy_126 : decode cX8_isCutBy 126 = .ok (.if_icmp .ne 17, 3) := by decide +kernel
theorem dX8_isCutBy_129 : decode cX8_isCutBy 129 = .ok (.iload_n 3, 1) := by decide +kernel
theorem dX8_isCutBy_130 : decode cX8_isCutBy 130 = .ok (.aload_n 0, 1) := by decide +kernel
theorem dX8_isCutBy_131 : decode cX8_isCutBy 131 = .ok (.getfield 50, 3) := by decide +kernel
theorem dX8_isCutBy_134 : decode cX8_isCutBy 134 = .ok (.iload_n 1, 1) := by decide +kernel
theorem dX8_isCutBy_135 : decode cX8_isCutBy 135 = .ok (.iaload, 1) := by decide +kernel
theorem dX8_isCutBy_136 : decode cX8_isCutBy 136 = .ok (.if_icmp .lt 7, 3) := by decide +kernel
theorem dX8_isCutBy_139 : decode cX8_isCutBy 139 = .ok (.iconst 1, 1) := by decide +kernel
theorem dX8_isCutBy_140 : decode cX8_isCutBy 140 = .ok (.goto 4, 3) := by decide +kernel
theorem dX8_isCutBy_143 : decode cX8_isCutBy 143 = .ok (.iconst 0, 1) := by decide +kernel
theorem dX8_isCutBy_144 : decode cX8_isCutBy 144 = .ok (.ireturn, 1) := by decide +kernel
theorem dX8_isCutBy_145 : decode cX8_isCutBy 145 = .ok (.iload 5, 2) := by decide +kernel
theorem dX8_isCutBy_147 : decode cX8_isCutBy 147 = .ok (.ifCond .eq 7, 3) := by decide +kernel
theorem dX8_isCutBy_150 : decode cX8_isCutBy 150 = .ok (.iconst 1, 1) := by decide +kernel
theorem dX8_isCutBy_151 : decode cX8_isCutBy 151 = .ok (.goto 4, 3) := by decide +kernel
theorem dX8_isCutBy_154 : decode cX8_isCutBy 154 = .ok (.iconst 0, 1) := by decide +kernel
theorem dX8_isCutBy_155 : decode cX8_isCutBy 155 = .ok (.ireturn, 1) := by decide +kernel
theorem dX8_isCutBy_156 : decode cX8_isCutBy 156 = .ok (.iload 5, 2) := by decide +kernel
theorem dX8_isCutBy_158 : decode cX8_isCutBy 158 = .ok (.iload 4, 2) := by decide +kernel
theorem dX8_isCutBy_160 : decode cX8_isCutBy 160 = .ok (.if_icmp .ne 7, 3) := by decide +kernel
theorem dX8_isCutBy_163 : decode cX8_isCutBy 163 = .ok (.iconst 1, 1) := by decide +kernel
theorem dX8_isCutBy_164 : decode cX8_isCutBy 164 = .ok (.goto 4, 3) := by decide +kernel
theorem dX8_isCutBy_167 : decode cX8_isCutBy 167 = .ok (.iconst 0, 1) := by decide +kernel
theorem dX8_isCutBy_168 : decode cX8_isCutBy 168 = .ok (.ireturn, 1) := by decide +kernel
theorem dX8_isCutBy_169 : decode cX8_isCutBy 169 = .ok (.iconst 0, 1) := by decide +kernel
theorem dX8_isCutBy_170 : decode cX8_isCutBy 170 = .ok (.ireturn, 1) := by decide +kernel
set_option maxRecDepth 20000 in
theorem ggX8_openTies_X8_isOpen : GoodIn wsX8_openTies wsX8_isOpen := goodIn_r _ [6, 7, 8, 9, 10, 5, 11, 12, 13, 14, 15, 16, 17, 18, 19, 20, 21, 22, 23, 24, 25, 26, 27, 28, 29, 30, 31, 32, 33, 34, 35, 36, 37, 38, 39, 40, 41, 42] (by decide +kernel) (by decide +kernel)
set_option maxRecDepth 20000 in
theorem gX8_openTies_X8_isOpen : GoodIn wsX8_openTies (wsV RX8 94 RX8 yX8_isOpen wsX8_isOpen) := goodIn_app (goodIn_of _ (by decide +kernel)) ggX8_openTies_X8_isOpen
theorem dX8_openTies_0 : decode cX8_openTies 0 = .ok (.iconst 0, 1) := by decide +kernel
theorem dX8_openTies_1 : decode cX8_openTies 1 = .ok (.istore_n 2, 1) := by decide +kernel
theorem dX8_openTies_2 : decode cX8_openTies 2 = .ok (.iconst 0, 1) := by decide +kernel
theorem dX8_openTies_3 : decode cX8_openTies 3 = .ok (.istore_n 3, 1) := by decide +kernel
theorem dX8_openTies_4 : decode cX8_openTies 4 = .ok (.iload_n 3, 1) := by decide +kernel
theorem dX8_openTies_5 : decode cX8_openTies 5 = .ok (.aload_n 0, 1) := by decide +kernel
theorem dX8_openTies_6 : decode cX8_openTies 6 = .ok (.getfield 22, 3) := by decide +kernel
theorem dX8_openTies_9 : decode cX8_openTies 9 = .ok (.if_icmp .ge 24, 3) := by decide +kernel
theorem dX8_openTies_12 : decode cX8_openTies 12 = .ok (.aload_n 0, 1) := by decide +kernel
theorem dX8_openTies_13 : decode cX8_openTies 13 = .ok (.iload_n 3, 1) := by decide +kernel
theorem dX8_openTies_14 : decode cX8_openTies 14 = .ok (.iload_n 1, 1) := by decide +kernel
theorem dX8_openTies_15 : decode cX8_openTies 15 = .ok (.invokevirtual 94, 3) := by decide +kernel
theorem dX8_openTies_18 : decode cX8_openTies 18 = .ok (.ifCond .eq 9, 3) := by decide +kernel
theorem dX8_openTies_21 : decode cX8_openTies 21 = .ok (.iload_n 2, 1) := by decide +kernel
theorem dX8_openTies_22 : decode cX8_openTies 22 = .ok (.iconst 1, 1) := by decide +kernel
theorem dX8_openTies_23 : decode cX8_openTies 23 = .ok (.iload_n 3, 1) := by decide +kernel
theorem dX8_openTies_24 : decode cX8_openTies 24 = .ok (.ishl, 1) := by decide +kernel
theorem dX8_openTies_25 : decode cX8_openTies 25 = .ok (.ior, 1) := by decide +kernel
theorem dX8_openTies_26 : decode cX8_openTies 26 = .ok (.istore_n 2, 1) := by decide +kernel
theorem dX8_openTies_27 : decode cX8_openTies 27 = .ok (.iinc 3 1, 3) := by decide +kernel
theorem dX8_openTies_30 : decode cX8_openTies 30 = .ok (.goto (-26), 3) := by decide +kernel
theorem dX8_openTies_33 : decode cX8_openTies 33 = .ok (.iload_n 2, 1) := by decide +kernel
theorem dX8_openTies_34 : decode cX8_openTies 34 = .ok (.ireturn, 1) := by decide +kernel
set_option maxRecDepth 20000 in
theorem ggX8_unsureTies_X8_isOpen : GoodIn wsX8_unsureTies wsX8_isOpen := goodIn_r _ [7, 8, 9, 10, 11, 6, 12, 13, 14, 15, 16, 17, 18, 19, 20, 21, 22, 23, 24, 25, 26, 27, 28, 29, 30, 31, 32, 33, 34, 35, 36, 37, 38, 39, 40, 41, 42, 43] (by decide +kernel) (by decide +kernel)
set_option maxRecDepth 20000 in
theorem gX8_unsureTies_X8_isOpen : GoodIn wsX8_unsureTies (wsV RX8 94 RX8 yX8_isOpen wsX8_isOpen) := goodIn_app (goodIn_of _ (by decide +kernel)) ggX8_unsureTies_X8_isOpen
theorem dX8_unsureTies_0 : decode cX8_unsureTies 0 = .ok (.iconst 0, 1) := by decide +kernel
theorem dX8_unsureTies_1 : decode cX8_unsureTies 1 = .ok (.istore_n 1, 1) := by decide +kernel
theorem dX8_unsureTies_2 : decode cX8_unsureTies 2 = .ok (.iconst 0, 1) := by decide +kernel
theorem dX8_unsureTies_3 : decode cX8_unsureTies 3 = .ok (.istore_n 2, 1) := by decide +kernel
theorem dX8_unsureTies_4 : decode cX8_unsureTies 4 = .ok (.iload_n 2, 1) := by decide +kernel
theorem dX8_unsureTies_5 : decode cX8_unsureTies 5 = .ok (.aload_n 0, 1) := by decide +kernel
theorem dX8_unsureTies_6 : decode cX8_unsureTies 6 = .ok (.getfield 22, 3) := by decide +kernel
theorem dX8_unsureTies_9 : decode cX8_unsureTies 9 = .ok (.if_icmp .ge 34, 3) := by decide +kernel
theorem dX8_unsureTies_12 : decode cX8_unsureTies 12 = .ok (.aload_n 0, 1) := by decide +kernel
theorem dX8_unsureTies_13 : decode cX8_unsureTies 13 = .ok (.getfield 34, 3) := by decide +kernel
theorem dX8_unsureTies_16 : decode cX8_unsureTies 16 = .ok (.iload_n 2, 1) := by decide +kernel
theorem dX8_unsureTies_17 : decode cX8_unsureTies 17 = .ok (.iaload, 1) := by decide +kernel
theorem dX8_unsureTies_18 : decode cX8_unsureTies 18 = .ok (.iconst 4, 1) := by decide +kernel
theorem dX8_unsureTies_19 : decode cX8_unsureTies 19 = .ok (.if_icmp .ge 18, 3) := by decide +kernel
theorem dX8_unsureTies_22 : decode cX8_unsureTies 22 = .ok (.aload_n 0, 1) := by decide +kernel
theorem dX8_unsureTies_23 : decode cX8_unsureTies 23 = .ok (.iload_n 2, 1) := by decide +kernel
theorem dX8_unsureTies_24 : decode cX8_unsureTies 24 = .ok (.iconst 0, 1) := by decide +kernel
theorem dX8_unsureTies_25 : decode cX8_unsureTies 25 = .ok (.invokevirtual 94, 3) := by decide +kernel
theorem dX8_unsureTies_28 : decode cX8_unsureTies 28 = .ok (.ifCond .eq 9, 3) := by decide +kernel
theorem dX8_unsureTies_31 : decode cX8_unsureTies 31 = .ok (.iload_n 1, 1) := by decide +kernel
theorem dX8_unsureTies_32 : decode cX8_unsureTies 32 = .ok (.iconst 1, 1) := by decide +kernel
theorem dX8_unsureTies_33 : decode cX8_unsureTies 33 = .ok (.iload_n 2, 1) := by decide +kernel
theorem dX8_unsureTies_34 : decode cX8_unsureTies 34 = .ok (.ishl, 1) := by decide +kernel
theorem dX8_unsureTies_35 : decode cX8_unsureTies 35 = .ok (.ior, 1) := by decide +kernel
theorem dX8_unsureTies_36 : decode cX8_unsureTies 36 = .ok (.istore_n 1, 1) := by decide +kernel
theorem dX8_unsureTies_37 : decode cX8_unsureTies 37 = .ok (.iinc 2 1, 3) := by decide +kernel
theorem dX8_unsureTies_40 : decode cX8_unsureTies 40 = .ok (.goto (-36), 3) := by decide +kernel
theorem dX8_unsureTies_43 : decode cX8_unsureTies 43 = .ok (.iload_n 1, 1) := by decide +kernel
theorem dX8_unsureTies_44 : decode cX8_unsureTies 44 = .ok (.ireturn, 1) := by decide +kernel
theorem dX8_kindAbove_0 : decode cX8_kindAbove 0 = .ok (.iload_n 0, 1) := by decide +kernel
theorem dX8_kindAbove_1 : decode cX8_kindAbove 1 = .ok (.ifCond .le 19, 3) := by decide +kernel
theorem dX8_kindAbove_4 : decode cX8_kindAbove 4 = .ok (.iload_n 0, 1) := by decide +kernel
theorem dX8_kindAbove_5 : decode cX8_kindAbove 5 = .ok (.getstatic 98, 3) := by decide +kernel
theorem dX8_kindAbove_8 : decode cX8_kindAbove 8 = .ok (.arraylength, 1) := by decide +kernel
theorem dX8_kindAbove_9 : decode cX8_kindAbove 9 = .ok (.if_icmp .ge 11, 3) := by decide +kernel
theorem dX8_kindAbove_12 : decode cX8_kindAbove 12 = .ok (.getstatic 98, 3) := by decide +kernel
theorem dX8_kindAbove_15 : decode cX8_kindAbove 15 = .ok (.iload_n 0, 1) := by decide +kernel
theorem dX8_kindAbove_16 : decode cX8_kindAbove 16 = .ok (.iaload, 1) := by decide +kernel
theorem dX8_kindAbove_17 : decode cX8_kindAbove 17 = .ok (.goto 4, 3) := by decide +kernel
theorem dX8_kindAbove_20 : decode cX8_kindAbove 20 = .ok (.iconst (-1), 1) := by decide +kernel
theorem dX8_kindAbove_21 : decode cX8_kindAbove 21 = .ok (.ireturn, 1) := by decide +kernel
set_option maxRecDepth 20000 in
theorem ggX8_isUnder_X8_kindAbove : GoodIn wsX8_isUnder wsX8_kindAbove := goodIn_r _ [5, 1] (by decide +kernel) (by decide +kernel)
set_option maxRecDepth 20000 in
theorem gX8_isUnder_X8_kindAbove : GoodIn wsX8_isUnder (va_wsS RX8 101 yX8_kindAbove wsX8_kindAbove) := goodIn_app (goodIn_of _ (by decide +kernel)) ggX8_isUnder_X8_kindAbove
theorem dX8_isUnder_0 : decode cX8_isUnder 0 = .ok (.iload_n 0, 1) := by decide +kernel
theorem dX8_isUnder_1 : decode cX8_isUnder 1 = .ok (.istore_n 2, 1) := by decide +kernel
theorem dX8_isUnder_2 : decode cX8_isUnder 2 = .ok (.iconst 0, 1) := by decide +kernel
theorem dX8_isUnder_3 : decode cX8_isUnder 3 = .ok (.istore_n 3, 1) := by decide +kernel
theorem dX8_isUnder_4 : decode cX8_isUnder 4 = .ok (.iload_n 3, 1) := by decide +kernel
theorem dX8_isUnder_5 : decode cX8_isUnder 5 = .ok (.getstatic 98, 3) := by decide +kernel
theorem dX8_isUnder_8 : decode cX8_isUnder 8 = .ok (.arraylength, 1) := by decide +kernel
theorem dX8_isUnder_9 : decode cX8_isUnder 9 = .ok (.if_icmp .ge 25, 3) := by decide +kernel
theorem dX8_isUnder_12 : decode cX8_isUnder 12 = .ok (.iload_n 2, 1) := by decide +kernel
theorem dX8_isUnder_13 : decode cX8_isUnder 13 = .ok (.ifCond .lt 21, 3) := by decide +kernel
theorem dX8_isUnder_16 : decode cX8_isUnder 16 = .ok (.iload_n 2, 1) := by decide +kernel
theorem dX8_isUnder_17 : decode cX8_isUnder 17 = .ok (.iload_n 1, 1) := by decide +kernel
theorem dX8_isUnder_18 : decode cX8_isUnder 18 = .ok (.if_icmp .ne 5, 3) := by decide +kernel
theorem dX8_isUnder_21 : decode cX8_isUnder 21 = .ok (.iconst 1, 1) := by decide +kernel
theorem dX8_isUnder_22 : decode cX8_isUnder 22 = .ok (.ireturn, 1) := by decide +kernel
theorem dX8_isUnder_23 : decode cX8_isUnder 23 = .ok (.iload_n 2, 1) := by decide +kernel
theorem dX8_isUnder_24 : decode cX8_isUnder 24 = .ok (.invokestatic 101, 3) := by decide +kernel
theorem dX8_isUnder_27 : decode cX8_isUnder 27 = .ok (.istore_n 2, 1) := by decide +kernel
theorem dX8_isUnder_28 : decode cX8_isUnder 28 = .ok (.iinc 3 1, 3) := by decide +kernel
theorem dX8_isUnder_31 : decode cX8_isUnder 31 = .ok (.goto (-27), 3) := by decide +kernel
theorem dX8_isUnder_34 : decode cX8_isUnder 34 = .ok (.iconst 0, 1) := by decide +kernel
theorem dX8_isUnder_35 : decode cX8_isUnder 35 = .ok (.ireturn, 1) := by decide +kernel
set_option maxRecDepth 20000 in
theorem ggX9_init_X8_init : GoodIn wsX9_init wsX8_init := goodIn_r _ [45, 46, 2, 3, 47, 48, 49, 50, 51, 52, 53, 54, 55, 56, 57, 58, 59, 60, 61, 62, 63, 64, 65, 66, 122, 123, 124, 125, 126, 127, 128, 129, 130, 131, 132, 133, 134, 135] (by decide +kernel) (by decide +kernel)
set_option maxRecDepth 20000 in
theorem gX9_init_X8_init : GoodIn wsX9_init (wsX8_init) := ggX9_init_X8_init
set_option maxRecDepth 20000 in
theorem ggX9_init_X7_init : GoodIn wsX9_init wsX7_init := goodIn_r _ [68, 69, 2, 3, 70, 71, 72, 73, 74, 75, 76, 148, 149, 150, 151, 152, 153] (by decide +kernel) (by decide +kernel)
set_option maxRecDepth 20000 in
theorem gX9_init_X7_init_n28 : GoodIn wsX9_init (wsX7_init) := ggX9_init_X7_init
set_option maxRecDepth 20000 in
theorem ggX9_init_X3_init : GoodIn wsX9_init wsX3_init := goodIn_r _ [78, 79, 2, 3, 48, 80, 154] (by decide +kernel) (by decide +kernel)
set_option maxRecDepth 20000 in
theorem gX9_init_X3_init_n35 : GoodIn wsX9_init (wsX3_init) := ggX9_init_X3_init
set_option maxRecDepth 20000 in
theorem ggX9_init_X6_init : GoodIn wsX9_init wsX6_init := goodIn_r _ [82, 83, 2, 3, 48, 84, 85, 86, 155, 156, 157] (by decide +kernel) (by decide +kernel)
set_option maxRecDepth 20000 in
theorem gX9_init_X6_init_n42 : GoodIn wsX9_init (wsX6_init) := ggX9_init_X6_init
set_option maxRecDepth 20000 in
theorem ggX9_init_X4_init : GoodIn wsX9_init wsX4_init := goodIn_r _ [88, 89, 2, 3, 48, 90, 91, 158, 159] (by decide +kernel) (by decide +kernel)
set_option maxRecDepth 20000 in
theorem gX9_init_X4_init_n49 : GoodIn wsX9_init (wsX4_init) := ggX9_init_X4_init
set_option maxRecDepth 20000 in
theorem ggX9_init_X1_init : GoodIn wsX9_init wsX1_init := goodIn_r _ [93, 94, 2, 3, 48, 95, 96, 160, 161] (by decide +kernel) (by decide +kernel)
set_option maxRecDepth 20000 in
theorem gX9_init_X1_init_n56 : GoodIn wsX9_init (wsX1_init) := ggX9_init_X1_init
set_option maxRecDepth 20000 in
theorem ggX9_init_X5_init : GoodIn wsX9_init wsX5_init := goodIn_r _ [98, 99, 2, 3, 100, 48, 101, 102, 162, 163] (by decide +kernel) (by decide +kernel)
set_option maxRecDepth 20000 in
theorem gX9_init_X5_init_n63 : GoodIn wsX9_init (wsX5_init) := ggX9_init_X5_init
set_option maxRecDepth 20000 in
theorem ggX9_init_X2_init : GoodIn wsX9_init wsX2_init := goodIn_r _ [104, 105, 2, 3, 48, 106, 107, 108, 109, 110, 111, 112, 164, 165, 166, 167, 168, 169] (by decide +kernel) (by decide +kernel)
set_option maxRecDepth 20000 in
theorem gX9_init_X2_init_n70 : GoodIn wsX9_init (wsX2_init) := ggX9_init_X2_init
set_option maxRecDepth 20000 in
theorem ggX9_init_X0_init : GoodIn wsX9_init wsX0_init := goodIn_r _ [114, 115, 2, 3, 48, 116, 117, 118, 119, 120, 121, 170, 171, 172, 173, 174, 175] (by decide +kernel) (by decide +kernel)
set_option maxRecDepth 20000 in
theorem gX9_init_X0_init_n77 : GoodIn wsX9_init (wsX0_init) := ggX9_init_X0_init
theorem dX9_init_0 : decode cX9_init 0 = .ok (.aload_n 0, 1) := by decide +kernel
theorem dX9_init_1 : decode cX9_init 1 = .ok (.invokespecial 1, 3) := by decide +kernel
theorem dX9_init_4 : decode cX9_init 4 = .ok (.aload_n 0, 1) := by decide +kernel
theorem dX9_init_5 : decode cX9_init 5 = .ok (.new 7, 3) := by decide +kernel
theorem dX9_init_8 : decode cX9_init 8 = .ok (.dup, 1) := by decide +kernel
theorem dX9_init_9 : decode cX9_init 9 = .ok (.invokespecial 9, 3) := by decide +kernel
theorem dX9_init_12 : decode cX9_init 12 = .ok (.putfield 10, 3) := by decide +kernel
theorem dX9_init_15 : decode cX9_init 15 = .ok (.aload_n 0, 1) := by decide +kernel
theorem dX9_init_16 : decode cX9_init 16 = .ok (.new 7, 3) := by decide +kernel
theorem dX9_init_19 : decode cX9_init 19 = .ok (.dup, 1) := by decide +kernel
theorem dX9_init_20 : decode cX9_init 20 = .ok (.invokespecial 9, 3) := by decide +kernel
theorem dX9_init_23 : decode cX9_init 23 = .ok (.putfield 16, 3) := by decide +kernel
theorem dX9_init_26 : decode cX9_init 26 = .ok (.aload_n 0, 1) := by decide +kernel
theorem dX9_init_27 : decode cX9_init 27 = .ok (.new 7, 3) := by decide +kernel
theorem dX9_init_30 : decode cX9_init 30 = .ok (.dup, 1) := by decide +kernel
theorem dX9_init_31 : decode cX9_init 31 = .ok (.invokespecial 9, 3) := by decide +kernel
theorem dX9_init_34 : decode cX9_init 34 = .ok (.putfield 19, 3) := by decide +kernel
theorem dX9_init_37 : decode cX9_init 37 = .ok (.aload_n 0, 1) := by decide +kernel
theorem dX9_init_38 : decode cX9_init 38 = .ok (.iconst 0, 1) := by decide +kernel
theorem dX9_init_39 : decode cX9_init 39 = .ok (.putfield 22, 3) := by decide +kernel
theorem dX9_init_42 : decode cX9_init 42 = .ok (.aload_n 0, 1) := by decide +kernel
theorem dX9_init_43 : decode cX9_init 43 = .ok (.new 26, 3) := by decide +kernel
theorem dX9_init_46 : decode cX9_init 46 = .ok (.dup, 1) := by decide +kernel
theorem dX9_init_47 : decode cX9_init 47 = .ok (.invokespecial 28, 3) := by decide +kernel
theorem dX9_init_50 : decode cX9_init 50 = .ok (.putfield 29, 3) := by decide +kernel
theorem dX9_init_53 : decode cX9_init 53 = .ok (.aload_n 0, 1) := by decide +kernel
theorem dX9_init_54 : decode cX9_init 54 = .ok (.new 33, 3) := by decide +kernel
theorem dX9_init_57 : decode cX9_init 57 = .ok (.dup, 1) := by decide +kernel
theorem dX9_init_58 : decode cX9_init 58 = .ok (.invokespecial 35, 3) := by decide +kernel
theorem dX9_init_61 : decode cX9_init 61 = .ok (.putfield 36, 3) := by decide +kernel
theorem dX9_init_64 : decode cX9_init 64 = .ok (.aload_n 0, 1) := by decide +kernel
theorem dX9_init_65 : decode cX9_init 65 = .ok (.new 40, 3) := by decide +kernel
theorem dX9_init_68 : decode cX9_init 68 = .ok (.dup, 1) := by decide +kernel
theorem dX9_init_69 : decode cX9_init 69 = .ok (.invokespecial 42, 3) := by decide +kernel
theorem dX9_init_72 : decode cX9_init 72 = .ok (.putfield 43, 3) := by decide +kernel
theorem dX9_init_75 : decode cX9_init 75 = .ok (.aload_n 0, 1) := by decide +kernel
theorem dX9_init_76 : decode cX9_init 76 = .ok (.new 47, 3) := by decide +kernel
theorem dX9_init_79 : decode cX9_init 79 = .ok (.dup, 1) := by decide +kernel
theorem dX9_init_80 : decode cX9_init 80 = .ok (.invokespecial 49, 3) := by decide +kernel
theorem dX9_init_83 : decode cX9_init 83 = .ok (.putfield 50, 3) := by decide +kernel
theorem dX9_init_86 : decode cX9_init 86 = .ok (.aload_n 0, 1) := by decide +kernel
theorem dX9_init_87 : decode cX9_init 87 = .ok (.new 54, 3) := by decide +kernel
theorem dX9_init_90 : decode cX9_init 90 = .ok (.dup, 1) := by decide +kernel
theorem dX9_init_91 : decode cX9_init 91 = .ok (.invokespecial 56, 3) := by decide +kernel
theorem dX9_init_94 : decode cX9_init 94 = .ok (.putfield 57, 3) := by decide +kernel
theorem dX9_init_97 : decode cX9_init 97 = .ok (.aload_n 0, 1) := by decide +kernel
theorem dX9_init_98 : decode cX9_init 98 = .ok (.new 61, 3) := by decide +kernel
theorem dX9_init_101 : decode cX9_init 101 = .ok (.dup, 1) := by decide +kernel
theorem dX9_init_102 : decode cX9_init 102 = .ok (.invokespecial 63, 3) := by decide +kernel
theorem dX9_init_105 : decode cX9_init 105 = .ok (.putfield 64, 3) := by decide +kernel
theorem dX9_init_108 : decode cX9_init 108 = .ok (.aload_n 0, 1) := by decide +kernel
theorem dX9_init_109 : decode cX9_init 109 = .ok (.new 68, 3) := by decide +kernel
theorem dX9_init_112 : decode cX9_init 112 = .ok (.dup, 1) := by decide +kernel
theorem dX9_init_113 : decode cX9_init 113 = .ok (.invokespecial 70, 3) := by decide +kernel
theorem dX9_init_116 : decode cX9_init 116 = .ok (.putfield 71, 3) := by decide +kernel
theorem dX9_init_119 : decode cX9_init 119 = .ok (.aload_n 0, 1) := by decide +kernel
theorem dX9_init_120 : decode cX9_init 120 = .ok (.new 75, 3) := by decide +kernel
theorem dX9_init_123 : decode cX9_init 123 = .ok (.dup, 1) := by decide +kernel
theorem dX9_init_124 : decode cX9_init 124 = .ok (.invokespecial 77, 3) := by decide +kernel
theorem dX9_init_127 : decode cX9_init 127 = .ok (.putfield 78, 3) := by decide +kernel
theorem dX9_init_130 : decode cX9_init 130 = .ok (.return_, 1) := by decide +kernel
set_option maxRecDepth 20000 in
theorem ggX9_feed_X7_take : GoodIn wsX9_feed wsX7_take := goodIn_r _ [7, 8, 9, 22, 23, 24, 25, 26, 27] (by decide +kernel) (by decide +kernel)
set_option maxRecDepth 20000 in
theorem gX9_feed_X7_take : GoodIn wsX9_feed (wsV RX9 82 RX7 yX7_take wsX7_take) := goodIn_app (goodIn_of _ (by decide +kernel)) ggX9_feed_X7_take
theorem dX9_feed_0 : decode cX9_feed 0 = .ok (.iload_n 3, 1) := by decide +kernel
theorem dX9_feed_1 : decode cX9_feed 1 = .ok (.iconst 1, 1) := by decide +kernel
theorem dX9_feed_2 : decode cX9_feed 2 = .ok (.if_icmp .lt 9, 3) := by decide +kernel
theorem dX9_feed_5 : decode cX9_feed 5 = .ok (.iload_n 3, 1) := by decide +kernel
theorem dX9_feed_6 : decode cX9_feed 6 = .ok (.bipush 8, 2) := by decide +kernel
theorem dX9_feed_8 : decode cX9_feed 8 = .ok (.if_icmp .le 5, 3) := by decide +kernel
theorem dX9_feed_11 : decode cX9_feed 11 = .ok (.iconst (-1), 1) := by decide +kernel
theorem dX9_feed_12 : decode cX9_feed 12 = .ok (.ireturn, 1) := by decide +kernel
theorem dX9_feed_13 : decode cX9_feed 13 = .ok (.aload_n 0, 1) := by decide +kernel
theorem dX9_feed_14 : decode cX9_feed 14 = .ok (.getfield 29, 3) := by decide +kernel
theorem dX9_feed_17 : decode cX9_feed 17 = .ok (.lload_n 1, 1) := by decide +kernel
theorem dX9_feed_18 : decode cX9_feed 18 = .ok (.iload_n 3, 1) := by decide +kernel
theorem dX9_feed_19 : decode cX9_feed 19 = .ok (.invokevirtual 82, 3) := by decide +kernel
theorem dX9_feed_22 : decode cX9_feed 22 = .ok (.ifCond .eq 13, 3) := by decide +kernel
theorem dX9_feed_25 : decode cX9_feed 25 = .ok (.aload_n 0, 1) := by decide +kernel
theorem dX9_feed_26 : decode cX9_feed 26 = .ok (.getfield 29, 3) := by decide +kernel
theorem dX9_feed_29 : decode cX9_feed 29 = .ok (.getfield 86, 3) := by decide +kernel
theorem dX9_feed_32 : decode cX9_feed 32 = .ok (.goto 5, 3) := by decide +kernel
theorem dX9_feed_35 : decode cX9_feed 35 = .ok (.bipush (-2), 2) := by decide +kernel
theorem dX9_feed_37 : decode cX9_feed 37 = .ok (.ireturn, 1) := by decide +kernel
set_option maxRecDepth 20000 in
theorem ggX9_works_X7_isReadInto : GoodIn wsX9_works wsX7_isReadInto := goodIn_r _ [14, 15, 16, 17, 18, 19, 20, 13, 21, 22, 23, 24, 25, 26, 27, 28, 29, 30, 31, 32, 33, 34, 35, 36, 37, 38, 39, 40, 41, 42, 43, 44, 45, 46, 47, 48, 49, 50, 51, 52, 53, 54, 55, 56, 57, 58, 59, 60, 61, 62, 63, 64, 65, 66, 67, 68, 69, 70, 71, 72, 73, 74, 75, 76, 77, 78, 79, 80, 81, 82, 83, 84, 85, 86, 87, 88, 89, 90, 91, 92, 93, 94, 95, 96, 97, 98, 99, 100, 101, 102, 103, 104, 105, 106, 107, 108, 109, 110, 111, 112, 113, 114, 115, 116, 117, 118, 119, 120, 121, 122, 123, 124, 125, 126, 127, 128, 129, 130, 131, 132, 133, 134, 135, 136, 137, 138, 139, 140, 141, 142, 143, 144, 145, 146, 147, 148, 149, 150, 151, 152, 153, 154, 155, 156, 157, 158, 159, 160, 161, 162, 163, 164, 186, 187, 188, 189, 190, 191, 192, 193, 194, 195, 196, 197, 198, 199, 200, 201, 202, 203, 204, 205] (by decide +kernel) (by decide +kernel)
set_option maxRecDepth 20000 in
theorem gX9_works_X7_isReadInto : GoodIn wsX9_works (wsV RX9 90 RX7 yX7_isReadInto wsX7_isReadInto) := goodIn_app (goodIn_of _ (by decide +kernel)) ggX9_works_X7_isReadInto
set_option maxRecDepth 20000 in
theorem ggX9_works_X8_become : GoodIn wsX9_works wsX8_become := goodIn_r _ [168, 94, 95, 96, 169, 97, 170, 171, 172, 173, 98, 117, 122, 130, 131, 132, 158, 159, 160, 192, 193, 194, 195, 196, 197, 198, 199, 200, 201, 202, 203, 204, 205] (by decide +kernel) (by decide +kernel)
set_option maxRecDepth 20000 in
theorem gX9_works_X8_become : GoodIn wsX9_works (wsV RX9 100 RX8 yX8_become wsX8_become) := goodIn_app (goodIn_of _ (by decide +kernel)) ggX9_works_X8_become
theorem dX9_works_0 : decode cX9_works 0 = .ok (.aload_n 0, 1) := by decide +kernel
theorem dX9_works_1 : decode cX9_works 1 = .ok (.getfield 29, 3) := by decide +kernel
theorem dX9_works_4 : decode cX9_works 4 = .ok (.aload_n 0, 1) := by decide +kernel
theorem dX9_works_5 : decode cX9_works 5 = .ok (.getfield 16, 3) := by decide +kernel
theorem dX9_works_8 : decode cX9_works 8 = .ok (.invokevirtual 90, 3) := by decide +kernel
theorem dX9_works_11 : decode cX9_works 11 = .ok (.istore_n 1, 1) := by decide +kernel
theorem dX9_works_12 : decode cX9_works 12 = .ok (.aload_n 0, 1) := by decide +kernel
theorem dX9_works_13 : decode cX9_works 13 = .ok (.getfield 29, 3) := by decide +kernel
theorem dX9_works_16 : decode cX9_works 16 = .ok (.iconst 0, 1) := by decide +kernel
theorem dX9_works_17 : decode cX9_works 17 = .ok (.putfield 86, 3) := by decide +kernel
theorem dX9_works_20 : decode cX9_works 20 = .ok (.iload_n 1, 1) := by decide +kernel
theorem dX9_works_21 : decode cX9_works 21 = .ok (.ifCond .ne 14, 3) := by decide +kernel
theorem dX9_works_24 : decode cX9_works 24 = .ok (.bipush (-100), 2) := by decide +kernel
theorem dX9_works_26 : decode cX9_works 26 = .ok (.aload_n 0, 1) := by decide +kernel
theorem dX9_works_27 : decode cX9_works 27 = .ok (.getfield 29, 3) := by decide +kernel
theorem dX9_works_30 : decode cX9_works 30 = .ok (.getfield 94, 3) := by decide +kernel
theorem dX9_works_33 : decode cX9_works 33 = .ok (.isub, 1) := by decide +kernel
theorem dX9_works_34 : decode cX9_works 34 = .ok (.ireturn, 1) := by decide +kernel
theorem dX9_works_35 : decode cX9_works 35 = .ok (.aload_n 0, 1) := by decide +kernel
theorem dX9_works_36 : decode cX9_works 36 = .ok (.getfield 16, 3) := by decide +kernel
theorem dX9_works_39 : decode cX9_works 39 = .ok (.aload_n 0, 1) := by decide +kernel
theorem dX9_works_40 : decode cX9_works 40 = .ok (.getfield 10, 3) := by decide +kernel
theorem dX9_works_43 : decode cX9_works 43 = .ok (.getfield 97, 3) := by decide +kernel
theorem dX9_works_46 : decode cX9_works 46 = .ok (.putfield 97, 3) := by decide +kernel
theorem dX9_works_49 : decode cX9_works 49 = .ok (.aload_n 0, 1) := by decide +kernel
theorem dX9_works_50 : decode cX9_works 50 = .ok (.getfield 10, 3) := by decide +kernel
theorem dX9_works_53 : decode cX9_works 53 = .ok (.aload_n 0, 1) := by decide +kernel
theorem dX9_works_54 : decode cX9_works 54 = .ok (.getfield 16, 3) := by decide +kernel
theorem dX9_works_57 : decode cX9_works 57 = .ok (.invokevirtual 100, 3) := by decide +kernel
theorem dX9_works_60 : decode cX9_works 60 = .ok (.aload_n 0, 1) := by decide +kernel
theorem dX9_works_61 : decode cX9_works 61 = .ok (.getfield 64, 3) := by decide +kernel
theorem dX9_works_64 : decode cX9_works 64 = .ok (.iconst 0, 1) := by decide +kernel
theorem dX9_works_65 : decode cX9_works 65 = .ok (.putfield 104, 3) := by decide +kernel
theorem dX9_works_68 : decode cX9_works 68 = .ok (.aload_n 0, 1) := by decide +kernel
theorem dX9_works_69 : decode cX9_works 69 = .ok (.getfield 10, 3) := by decide +kernel
theorem dX9_works_72 : decode cX9_works 72 = .ok (.getfield 107, 3) := by decide +kernel
theorem dX9_works_75 : decode cX9_works 75 = .ok (.ireturn, 1) := by decide +kernel
set_option maxRecDepth 20000 in
theorem ggX9_people_X8_startWith : GoodIn wsX9_people wsX8_startWith := goodIn_r _ [8, 9, 10, 11, 12, 13, 14, 15, 16, 17, 32, 33, 34, 35, 36, 37, 38, 39, 40, 41, 42, 43, 44, 45] (by decide +kernel) (by decide +kernel)
set_option maxRecDepth 20000 in
theorem gX9_people_X8_startWith : GoodIn wsX9_people (wsV RX9 110 RX8 yX8_startWith wsX8_startWith) := goodIn_app (goodIn_of _ (by decide +kernel)) ggX9_people_X8_startWith
theorem dX9_people_0 : decode cX9_people 0 = .ok (.iload_n 1, 1) := by decide +kernel
theorem dX9_people_1 : decode cX9_people 1 = .ok (.iconst 1, 1) := by decide +kernel
theorem dX9_people_2 : decode cX9_people 2 = .ok (.if_icmp .lt 9, 3) := by decide +kernel
theorem dX9_people_5 : decode cX9_people 5 = .ok (.iload_n 1, 1) := by decide +kernel
theorem dX9_people_6 : decode cX9_people 6 = .ok (.bipush 10, 2) := by decide +kernel
theorem dX9_people_8 : decode cX9_people 8 = .ok (.if_icmp .le 5, 3) := by decide +kernel
theorem dX9_people_11 : decode cX9_people 11 = .ok (.iconst (-1), 1) := by decide +kernel
theorem dX9_people_12 : decode cX9_people 12 = .ok (.ireturn, 1) := by decide +kernel
theorem dX9_people_13 : decode cX9_people 13 = .ok (.aload_n 0, 1) := by decide +kernel
theorem dX9_people_14 : decode cX9_people 14 = .ok (.getfield 10, 3) := by decide +kernel
theorem dX9_people_17 : decode cX9_people 17 = .ok (.iload_n 1, 1) := by decide +kernel
theorem dX9_people_18 : decode cX9_people 18 = .ok (.invokevirtual 110, 3) := by decide +kernel
theorem dX9_people_21 : decode cX9_people 21 = .ok (.aload_n 0, 1) := by decide +kernel
theorem dX9_people_22 : decode cX9_people 22 = .ok (.getfield 64, 3) := by decide +kernel
theorem dX9_people_25 : decode cX9_people 25 = .ok (.iconst 0, 1) := by decide +kernel
theorem dX9_people_26 : decode cX9_people 26 = .ok (.putfield 104, 3) := by decide +kernel
theorem dX9_people_29 : decode cX9_people 29 = .ok (.iload_n 1, 1) := by decide +kernel
theorem dX9_people_30 : decode cX9_people 30 = .ok (.ireturn, 1) := by decide +kernel
set_option maxRecDepth 20000 in
theorem ggX9_tie_X9_isPair : GoodIn wsX9_tie wsX9_isPair := goodIn_r _ [10, 1, 11, 12, 13, 14, 15, 16, 38, 39, 40, 41, 42, 43, 44, 45, 46, 47, 48, 49, 50, 51, 52, 53, 54, 55, 56, 57, 58, 59, 60, 61, 62, 63] (by decide +kernel) (by decide +kernel)
set_option maxRecDepth 20000 in
theorem gX9_tie_X9_isPair : GoodIn wsX9_tie (wsV RX9 114 RX9 yX9_isPair wsX9_isPair) := goodIn_app (goodIn_of _ (by decide +kernel)) ggX9_tie_X9_isPair
set_option maxRecDepth 20000 in
theorem ggX9_tie_X8_tieBetween : GoodIn wsX9_tie wsX8_tieBetween := goodIn_r _ [20, 21, 22, 23, 24, 25, 26, 27, 28, 29, 30, 50, 51, 52, 53, 54, 55, 56, 57, 58, 59, 60, 61, 62, 63] (by decide +kernel) (by decide +kernel)
set_option maxRecDepth 20000 in
theorem gX9_tie_X8_tieBetween : GoodIn wsX9_tie (wsV RX9 118 RX8 yX8_tieBetween wsX8_tieBetween) := goodIn_app (goodIn_of _ (by decide +kernel)) ggX9_tie_X8_tieBetween
set_option maxRecDepth 20000 in
theorem ggX9_tie_X8_addTie : GoodIn wsX9_tie wsX8_addTie := goodIn_r _ [34, 21, 22, 23, 24, 25, 26, 27, 28, 29, 30, 35, 36, 37, 50, 51, 52, 53, 54, 55, 56, 57, 58, 59, 60, 61, 62, 63] (by decide +kernel) (by decide +kernel)
set_option maxRecDepth 20000 in
theorem gX9_tie_X8_addTie : GoodIn wsX9_tie (wsV RX9 122 RX8 yX8_addTie wsX8_addTie) := goodIn_app (goodIn_of _ (by decide +kernel)) ggX9_tie_X8_addTie
theorem dX9_tie_0 : decode cX9_tie 0 = .ok (.aload_n 0, 1) := by decide +kernel
theorem dX9_tie_1 : decode cX9_tie 1 = .ok (.iload_n 1, 1) := by decide +kernel
theorem dX9_tie_2 : decode cX9_tie 2 = .ok (.iload_n 2, 1) := by decide +kernel
theorem dX9_tie_3 : decode cX9_tie 3 = .ok (.invokevirtual 114, 3) := by decide +kernel
theorem dX9_tie_6 : decode cX9_tie 6 = .ok (.ifCond .eq 25, 3) := by decide +kernel
theorem dX9_tie_9 : decode cX9_tie 9 = .ok (.iload_n 3, 1) := by decide +kernel
theorem dX9_tie_10 : decode cX9_tie 10 = .ok (.ifCond .lt 21, 3) := by decide +kernel
theorem dX9_tie_13 : decode cX9_tie 13 = .ok (.iload_n 3, 1) := by decide +kernel
theorem dX9_tie_14 : decode cX9_tie 14 = .ok (.bipush 99, 2) := by decide +kernel
theorem dX9_tie_16 : decode cX9_tie 16 = .ok (.if_icmp .gt 15, 3) := by decide +kernel
theorem dX9_tie_19 : decode cX9_tie 19 = .ok (.iload 4, 2) := by decide +kernel
theorem dX9_tie_21 : decode cX9_tie 21 = .ok (.iconst 1, 1) := by decide +kernel
theorem dX9_tie_22 : decode cX9_tie 22 = .ok (.if_icmp .lt 9, 3) := by decide +kernel
theorem dX9_tie_25 : decode cX9_tie 25 = .ok (.iload 4, 2) := by decide +kernel
theorem dX9_tie_27 : decode cX9_tie 27 = .ok (.iconst 4, 1) := by decide +kernel
theorem dX9_tie_28 : decode cX9_tie 28 = .ok (.if_icmp .le 5, 3) := by decide +kernel
theorem dX9_tie_31 : decode cX9_tie 31 = .ok (.iconst (-1), 1) := by decide +kernel
theorem dX9_tie_32 : decode cX9_tie 32 = .ok (.ireturn, 1) := by decide +kernel
theorem dX9_tie_33 : decode cX9_tie 33 = .ok (.aload_n 0, 1) := by decide +kernel
theorem dX9_tie_34 : decode cX9_tie 34 = .ok (.getfield 10, 3) := by decide +kernel
theorem dX9_tie_37 : decode cX9_tie 37 = .ok (.getfield 107, 3) := by decide +kernel
theorem dX9_tie_40 : decode cX9_tie 40 = .ok (.bipush 14, 2) := by decide +kernel
theorem dX9_tie_42 : decode cX9_tie 42 = .ok (.if_icmp .lt 6, 3) := by decide +kernel
theorem dX9_tie_45 : decode cX9_tie 45 = .ok (.bipush (-2), 2) := by decide +kernel
theorem dX9_tie_47 : decode cX9_tie 47 = .ok (.ireturn, 1) := by decide +kernel
theorem dX9_tie_48 : decode cX9_tie 48 = .ok (.aload_n 0, 1) := by decide +kernel
theorem dX9_tie_49 : decode cX9_tie 49 = .ok (.getfield 10, 3) := by decide +kernel
theorem dX9_tie_52 : decode cX9_tie 52 = .ok (.iload_n 1, 1) := by decide +kernel
theorem dX9_tie_53 : decode cX9_tie 53 = .ok (.iload_n 2, 1) := by decide +kernel
theorem dX9_tie_54 : decode cX9_tie 54 = .ok (.invokevirtual 118, 3) := by decide +kernel
theorem dX9_tie_57 : decode cX9_tie 57 = .ok (.ifCond .lt 6, 3) := by decide +kernel
theorem dX9_tie_60 : decode cX9_tie 60 = .ok (.bipush (-4), 2) := by decide +kernel
theorem dX9_tie_62 : decode cX9_tie 62 = .ok (.ireturn, 1) := by decide +kernel
theorem dX9_tie_63 : decode cX9_tie 63 = .ok (.aload_n 0, 1) := by decide +kernel
theorem dX9_tie_64 : decode cX9_tie 64 = .ok (.getfield 10, 3) := by decide +kernel
theorem dX9_tie_67 : decode cX9_tie 67 = .ok (.iload_n 1, 1) := by decide +kernel
theorem dX9_tie_68 : decode cX9_tie 68 = .ok (.iload_n 2, 1) := by decide +kernel
theorem dX9_tie_69 : decode cX9_tie 69 = .ok (.invokevirtual 122, 3) := by decide +kernel
theorem dX9_tie_72 : decode cX9_tie 72 = .ok (.istore 6, 2) := by decide +kernel
theorem dX9_tie_74 : decode cX9_tie 74 = .ok (.aload_n 0, 1) := by decide +kernel
theorem dX9_tie_75 : decode cX9_tie 75 = .ok (.getfield 10, 3) := by decide +kernel
theorem dX9_tie_78 : decode cX9_tie 78 = .ok (.getfield 125, 3) := by decide +kernel
theorem dX9_tie_81 : decode cX9_tie 81 = .ok (.iload 6, 2) := by decide +kernel
theorem dX9_tie_83 : decode cX9_tie 83 = .ok (.iload_n 3, 1) := by decide +kernel
