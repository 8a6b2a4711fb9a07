set_option maxRecDepth 20000 in
theorem ggX6_hasFault_X6_finds : GoodIn wsX6_hasFault wsX6_finds := goodIn_r _ [25, 13, 21, 3, 26, 27, 28, 7, 29, 30, 31, 32, 33, 34, 35, 36, 37, 38, 39, 40, 41, 42, 43, 44, 45, 46, 47, 48, 49, 50, 51, 52, 53, 54, 55, 56, 57, 58, 59, 60, 61, 62, 63, 64] (by decide +kernel) (by decide +kernel)
set_option maxRecDepth 20000 in
theorem gX6_hasFault_X6_finds : GoodIn wsX6_hasFault (wsV RX6 121 RX6 yX6_finds wsX6_finds) := goodIn_app (goodIn_of _ (by decide +kernel)) ggX6_hasFault_X6_finds
set_option maxRecDepth 20000 in
theorem ggX6_hasFault_X6_cellOf : GoodIn wsX6_hasFault wsX6_cellOf := goodIn_r _ [29] (by decide +kernel) (by decide +kernel)
set_option maxRecDepth 20000 in
theorem gX6_hasFault_X6_cellOf : GoodIn wsX6_hasFault (va_wsS RX6 82 yX6_cellOf wsX6_cellOf) := goodIn_app (goodIn_of _ (by decide +kernel)) ggX6_hasFault_X6_cellOf
set_option maxRecDepth 20000 in
theorem ggX6_hasFault_X6_figureOn : GoodIn wsX6_hasFault wsX6_figureOn := goodIn_r _ [33, 3, 34, 35, 36, 37, 44, 45, 46, 47, 48, 49, 50, 51, 52, 53, 54, 55, 56, 57, 58, 59, 60, 61, 62, 63, 64] (by decide +kernel) (by decide +kernel)
set_option maxRecDepth 20000 in
theorem gX6_hasFault_X6_figureOn : GoodIn wsX6_hasFault (wsV RX6 93 RX6 yX6_figureOn wsX6_figureOn) := goodIn_app (goodIn_of _ (by decide +kernel)) ggX6_hasFault_X6_figureOn
set_option maxRecDepth 20000 in
theorem ggX6_hasFault_X6_sumOf : GoodIn wsX6_hasFault wsX6_sumOf := goodIn_r _ [41, 21, 13, 42, 43, 26, 3, 44, 45, 46, 47, 48, 49, 50, 51, 52, 53, 54, 55, 56, 57, 58, 59, 60, 61, 62, 63, 64] (by decide +kernel) (by decide +kernel)
set_option maxRecDepth 20000 in
theorem gX6_hasFault_X6_sumOf : GoodIn wsX6_hasFault (wsV RX6 110 RX6 yX6_sumOf wsX6_sumOf) := goodIn_app (goodIn_of _ (by decide +kernel)) ggX6_hasFault_X6_sumOf
theorem dX6_hasFault_0 : decode cX6_hasFault 0 = .ok (.aload_n 0, 1) := by decide +kernel
theorem dX6_hasFault_1 : decode cX6_hasFault 1 = .ok (.aload_n 0, 1) := by decide +kernel
theorem dX6_hasFault_2 : decode cX6_hasFault 2 = .ok (.iload_n 1, 1) := by decide +kernel
theorem dX6_hasFault_3 : decode cX6_hasFault 3 = .ok (.iload_n 2, 1) := by decide +kernel
theorem dX6_hasFault_4 : decode cX6_hasFault 4 = .ok (.iload_n 3, 1) := by decide +kernel
theorem dX6_hasFault_5 : decode cX6_hasFault 5 = .ok (.invokevirtual 74, 3) := by decide +kernel
theorem dX6_hasFault_8 : decode cX6_hasFault 8 = .ok (.ifCond .eq 7, 3) := by decide +kernel
theorem dX6_hasFault_11 : decode cX6_hasFault 11 = .ok (.iconst 0, 1) := by decide +kernel
theorem dX6_hasFault_12 : decode cX6_hasFault 12 = .ok (.goto 4, 3) := by decide +kernel
theorem dX6_hasFault_15 : decode cX6_hasFault 15 = .ok (.iconst 1, 1) := by decide +kernel
theorem dX6_hasFault_16 : decode cX6_hasFault 16 = .ok (.putfield 50, 3) := by decide +kernel
theorem dX6_hasFault_19 : decode cX6_hasFault 19 = .ok (.aload_n 0, 1) := by decide +kernel
theorem dX6_hasFault_20 : decode cX6_hasFault 20 = .ok (.getfield 50, 3) := by decide +kernel
theorem dX6_hasFault_23 : decode cX6_hasFault 23 = .ok (.ifCond .le 5, 3) := by decide +kernel
theorem dX6_hasFault_26 : decode cX6_hasFault 26 = .ok (.iconst 0, 1) := by decide +kernel
theorem dX6_hasFault_27 : decode cX6_hasFault 27 = .ok (.ireturn, 1) := by decide +kernel
theorem dX6_hasFault_28 : decode cX6_hasFault 28 = .ok (.aload_n 0, 1) := by decide +kernel
theorem dX6_hasFault_29 : decode cX6_hasFault 29 = .ok (.iload_n 3, 1) := by decide +kernel
theorem dX6_hasFault_30 : decode cX6_hasFault 30 = .ok (.aload_n 0, 1) := by decide +kernel
theorem dX6_hasFault_31 : decode cX6_hasFault 31 = .ok (.getfield 90, 3) := by decide +kernel
theorem dX6_hasFault_34 : decode cX6_hasFault 34 = .ok (.invokevirtual 121, 3) := by decide +kernel
theorem dX6_hasFault_37 : decode cX6_hasFault 37 = .ok (.aload_n 0, 1) := by decide +kernel
theorem dX6_hasFault_38 : decode cX6_hasFault 38 = .ok (.iload_n 1, 1) := by decide +kernel
theorem dX6_hasFault_39 : decode cX6_hasFault 39 = .ok (.iload_n 2, 1) := by decide +kernel
theorem dX6_hasFault_40 : decode cX6_hasFault 40 = .ok (.iload_n 3, 1) := by decide +kernel
theorem dX6_hasFault_41 : decode cX6_hasFault 41 = .ok (.invokestatic 82, 3) := by decide +kernel
theorem dX6_hasFault_44 : decode cX6_hasFault 44 = .ok (.aload_n 0, 1) := by decide +kernel
theorem dX6_hasFault_45 : decode cX6_hasFault 45 = .ok (.getfield 90, 3) := by decide +kernel
theorem dX6_hasFault_48 : decode cX6_hasFault 48 = .ok (.invokevirtual 93, 3) := by decide +kernel
theorem dX6_hasFault_51 : decode cX6_hasFault 51 = .ok (.istore 4, 2) := by decide +kernel
theorem dX6_hasFault_53 : decode cX6_hasFault 53 = .ok (.aload_n 0, 1) := by decide +kernel
theorem dX6_hasFault_54 : decode cX6_hasFault 54 = .ok (.iload_n 1, 1) := by decide +kernel
theorem dX6_hasFault_55 : decode cX6_hasFault 55 = .ok (.iload_n 2, 1) := by decide +kernel
theorem dX6_hasFault_56 : decode cX6_hasFault 56 = .ok (.iconst 0, 1) := by decide +kernel
theorem dX6_hasFault_57 : decode cX6_hasFault 57 = .ok (.invokevirtual 110, 3) := by decide +kernel
theorem dX6_hasFault_60 : decode cX6_hasFault 60 = .ok (.istore 5, 2) := by decide +kernel
theorem dX6_hasFault_62 : decode cX6_hasFault 62 = .ok (.aload_n 0, 1) := by decide +kernel
theorem dX6_hasFault_63 : decode cX6_hasFault 63 = .ok (.iload_n 1, 1) := by decide +kernel
theorem dX6_hasFault_64 : decode cX6_hasFault 64 = .ok (.iload_n 2, 1) := by decide +kernel
theorem dX6_hasFault_65 : decode cX6_hasFault 65 = .ok (.iconst 1, 1) := by decide +kernel
theorem dX6_hasFault_66 : decode cX6_hasFault 66 = .ok (.invokevirtual 110, 3) := by decide +kernel
theorem dX6_hasFault_69 : decode cX6_hasFault 69 = .ok (.istore 6, 2) := by decide +kernel
theorem dX6_hasFault_71 : decode cX6_hasFault 71 = .ok (.iload 4, 2) := by decide +kernel
theorem dX6_hasFault_73 : decode cX6_hasFault 73 = .ok (.ldc 86, 2) := by decide +kernel
theorem dX6_hasFault_75 : decode cX6_hasFault 75 = .ok (.if_icmp .eq 35, 3) := by decide +kernel
theorem dX6_hasFault_78 : decode cX6_hasFault 78 = .ok (.iload 5, 2) := by decide +kernel
theorem dX6_hasFault_80 : decode cX6_hasFault 80 = .ok (.ldc 86, 2) := by decide +kernel
theorem dX6_hasFault_82 : decode cX6_hasFault 82 = .ok (.if_icmp .eq 10, 3) := by decide +kernel
theorem dX6_hasFault_85 : decode cX6_hasFault 85 = .ok (.iload 5, 2) := by decide +kernel
theorem dX6_hasFault_87 : decode cX6_hasFault 87 = .ok (.iload 4, 2) := by decide +kernel
theorem dX6_hasFault_89 : decode cX6_hasFault 89 = .ok (.if_icmp .ne 17, 3) := by decide +kernel
theorem dX6_hasFault_92 : decode cX6_hasFault 92 = .ok (.iload 6, 2) := by decide +kernel
theorem dX6_hasFault_94 : decode cX6_hasFault 94 = .ok (.ldc 86, 2) := by decide +kernel
theorem dX6_hasFault_96 : decode cX6_hasFault 96 = .ok (.if_icmp .eq 14, 3) := by decide +kernel
theorem dX6_hasFault_99 : decode cX6_hasFault 99 = .ok (.iload 6, 2) := by decide +kernel
theorem dX6_hasFault_101 : decode cX6_hasFault 101 = .ok (.iload 4, 2) := by decide +kernel
theorem dX6_hasFault_103 : decode cX6_hasFault 103 = .ok (.if_icmp .eq 7, 3) := by decide +kernel
theorem dX6_hasFault_106 : decode cX6_hasFault 106 = .ok (.iconst 1, 1) := by decide +kernel
theorem dX6_hasFault_107 : decode cX6_hasFault 107 = .ok (.goto 4, 3) := by decide +kernel
theorem dX6_hasFault_110 : decode cX6_hasFault 110 = .ok (.iconst 0, 1) := by decide +kernel
theorem dX6_hasFault_111 : decode cX6_hasFault 111 = .ok (.ireturn, 1) := by decide +kernel
set_option maxRecDepth 20000 in
theorem ggX6_shown_X6_isCell : GoodIn wsX6_shown wsX6_isCell := goodIn_r _ [9, 10, 11, 12, 8, 13, 14, 15, 16, 17, 18, 19, 20, 21, 22, 62, 63, 64, 65, 66, 67, 68, 69, 70, 71, 72, 73, 74, 75, 76, 77, 78, 79, 80, 81, 82] (by decide +kernel) (by decide +kernel)
set_option maxRecDepth 20000 in
theorem gX6_shown_X6_isCell : GoodIn wsX6_shown (wsV RX6 74 RX6 yX6_isCell wsX6_isCell) := goodIn_app (goodIn_of _ (by decide +kernel)) ggX6_shown_X6_isCell
set_option maxRecDepth 20000 in
theorem ggX6_shown_X6_covers : GoodIn wsX6_shown wsX6_covers := goodIn_r _ [26, 27, 2, 14, 22, 28, 4, 29, 30, 31, 32, 8, 33, 34, 35, 36, 37, 38, 39, 40, 41, 42, 43, 44, 45, 46, 47, 48, 49, 50, 51, 52, 53, 54, 55, 56, 57, 58, 59, 60, 61, 62, 63, 64, 65, 66, 67, 68, 69, 70, 71, 72, 73, 74, 75, 76, 77, 78, 79, 80, 81, 82] (by decide +kernel) (by decide +kernel)
set_option maxRecDepth 20000 in
theorem gX6_shown_X6_covers : GoodIn wsX6_shown (wsV RX6 129 RX6 yX6_covers wsX6_covers) := goodIn_app (goodIn_of _ (by decide +kernel)) ggX6_shown_X6_covers
theorem dX6_shown_0 : decode cX6_shown 0 = .ok (.aload_n 0, 1) := by decide +kernel
theorem dX6_shown_1 : decode cX6_shown 1 = .ok (.aload_n 0, 1) := by decide +kernel
theorem dX6_shown_2 : decode cX6_shown 2 = .ok (.iload_n 1, 1) := by decide +kernel
theorem dX6_shown_3 : decode cX6_shown 3 = .ok (.iload_n 2, 1) := by decide +kernel
theorem dX6_shown_4 : decode cX6_shown 4 = .ok (.iload_n 3, 1) := by decide +kernel
theorem dX6_shown_5 : decode cX6_shown 5 = .ok (.invokevirtual 74, 3) := by decide +kernel
theorem dX6_shown_8 : decode cX6_shown 8 = .ok (.ifCond .eq 7, 3) := by decide +kernel
theorem dX6_shown_11 : decode cX6_shown 11 = .ok (.iconst 0, 1) := by decide +kernel
theorem dX6_shown_12 : decode cX6_shown 12 = .ok (.goto 4, 3) := by decide +kernel
theorem dX6_shown_15 : decode cX6_shown 15 = .ok (.iconst 1, 1) := by decide +kernel
theorem dX6_shown_16 : decode cX6_shown 16 = .ok (.putfield 50, 3) := by decide +kernel
theorem dX6_shown_19 : decode cX6_shown 19 = .ok (.aload_n 0, 1) := by decide +kernel
theorem dX6_shown_20 : decode cX6_shown 20 = .ok (.getfield 50, 3) := by decide +kernel
theorem dX6_shown_23 : decode cX6_shown 23 = .ok (.ifCond .le 5, 3) := by decide +kernel
theorem dX6_shown_26 : decode cX6_shown 26 = .ok (.iconst 0, 1) := by decide +kernel
theorem dX6_shown_27 : decode cX6_shown 27 = .ok (.ireturn, 1) := by decide +kernel
theorem dX6_shown_28 : decode cX6_shown 28 = .ok (.aload_n 0, 1) := by decide +kernel
theorem dX6_shown_29 : decode cX6_shown 29 = .ok (.iload_n 3, 1) := by decide +kernel
theorem dX6_shown_30 : decode cX6_shown 30 = .ok (.invokevirtual 129, 3) := by decide +kernel
theorem dX6_shown_33 : decode cX6_shown 33 = .ok (.istore 4, 2) := by decide +kernel
theorem dX6_shown_35 : decode cX6_shown 35 = .ok (.iload 4, 2) := by decide +kernel
theorem dX6_shown_37 : decode cX6_shown 37 = .ok (.ifCond .le 22, 3) := by decide +kernel
theorem dX6_shown_40 : decode cX6_shown 40 = .ok (.aload_n 0, 1) := by decide +kernel
theorem dX6_shown_41 : decode cX6_shown 41 = .ok (.getfield 47, 3) := by decide +kernel
theorem dX6_shown_44 : decode cX6_shown 44 = .ok (.bipush 10, 2) := by decide +kernel
theorem dX6_shown_46 : decode cX6_shown 46 = .ok (.iload_n 1, 1) := by decide +kernel
theorem dX6_shown_47 : decode cX6_shown 47 = .ok (.imul, 1) := by decide +kernel
theorem dX6_shown_48 : decode cX6_shown 48 = .ok (.iload_n 2, 1) := by decide +kernel
theorem dX6_shown_49 : decode cX6_shown 49 = .ok (.iadd, 1) := by decide +kernel
theorem dX6_shown_50 : decode cX6_shown 50 = .ok (.baload, 1) := by decide +kernel
theorem dX6_shown_51 : decode cX6_shown 51 = .ok (.ifCond .eq 8, 3) := by decide +kernel
theorem dX6_shown_54 : decode cX6_shown 54 = .ok (.ldc 132, 2) := by decide +kernel
theorem dX6_shown_56 : decode cX6_shown 56 = .ok (.goto 14, 3) := by decide +kernel
theorem dX6_shown_59 : decode cX6_shown 59 = .ok (.aload_n 0, 1) := by decide +kernel
theorem dX6_shown_60 : decode cX6_shown 60 = .ok (.getfield 44, 3) := by decide +kernel
theorem dX6_shown_63 : decode cX6_shown 63 = .ok (.bipush 10, 2) := by decide +kernel
theorem dX6_shown_65 : decode cX6_shown 65 = .ok (.iload_n 1, 1) := by decide +kernel
theorem dX6_shown_66 : decode cX6_shown 66 = .ok (.imul, 1) := by decide +kernel
theorem dX6_shown_67 : decode cX6_shown 67 = .ok (.iload_n 2, 1) := by decide +kernel
theorem dX6_shown_68 : decode cX6_shown 68 = .ok (.iadd, 1) := by decide +kernel
theorem dX6_shown_69 : decode cX6_shown 69 = .ok (.iaload, 1) := by decide +kernel
theorem dX6_shown_70 : decode cX6_shown 70 = .ok (.ireturn, 1) := by decide +kernel
set_option maxRecDepth 20000 in
theorem ggX6_hidden_X6_isIn : GoodIn wsX6_hidden wsX6_isIn := goodIn_r _ [5] (by decide +kernel) (by decide +kernel)
set_option maxRecDepth 20000 in
theorem gX6_hidden_X6_isIn : GoodIn wsX6_hidden (va_wsS RX6 57 yX6_isIn wsX6_isIn) := goodIn_app (goodIn_of _ (by decide +kernel)) ggX6_hidden_X6_isIn
set_option maxRecDepth 20000 in
theorem ggX6_hidden_X6_covers : GoodIn wsX6_hidden wsX6_covers := goodIn_r _ [9, 10, 11, 12, 13, 14, 15, 16, 17, 18, 19, 4, 20, 21, 22, 23, 24, 25, 26, 27, 28, 29, 30, 31, 32, 33, 34, 35, 36, 37, 38, 39, 40, 41, 42, 43, 44, 45, 46, 47, 48, 49, 50, 51, 52, 53, 54, 55, 56, 57, 58, 59, 60, 61, 62, 63, 64, 65, 66, 67, 68, 69] (by decide +kernel) (by decide +kernel)
set_option maxRecDepth 20000 in
theorem gX6_hidden_X6_covers : GoodIn wsX6_hidden (wsV RX6 129 RX6 yX6_covers wsX6_covers) := goodIn_app (goodIn_of _ (by decide +kernel)) ggX6_hidden_X6_covers
theorem dX6_hidden_0 : decode cX6_hidden 0 = .ok (.aload_n 0, 1) := by decide +kernel
theorem dX6_hidden_1 : decode cX6_hidden 1 = .ok (.iload_n 1, 1) := by decide +kernel
theorem dX6_hidden_2 : decode cX6_hidden 2 = .ok (.iconst 0, 1) := by decide +kernel
theorem dX6_hidden_3 : decode cX6_hidden 3 = .ok (.bipush 11, 2) := by decide +kernel
theorem dX6_hidden_5 : decode cX6_hidden 5 = .ok (.invokestatic 57, 3) := by decide +kernel
theorem dX6_hidden_8 : decode cX6_hidden 8 = .ok (.ifCond .eq 7, 3) := by decide +kernel
theorem dX6_hidden_11 : decode cX6_hidden 11 = .ok (.iconst 0, 1) := by decide +kernel
theorem dX6_hidden_12 : decode cX6_hidden 12 = .ok (.goto 4, 3) := by decide +kernel
theorem dX6_hidden_15 : decode cX6_hidden 15 = .ok (.iconst 1, 1) := by decide +kernel
theorem dX6_hidden_16 : decode cX6_hidden 16 = .ok (.putfield 50, 3) := by decide +kernel
theorem dX6_hidden_19 : decode cX6_hidden 19 = .ok (.aload_n 0, 1) := by decide +kernel
theorem dX6_hidden_20 : decode cX6_hidden 20 = .ok (.getfield 50, 3) := by decide +kernel
theorem dX6_hidden_23 : decode cX6_hidden 23 = .ok (.ifCond .le 7, 3) := by decide +kernel
theorem dX6_hidden_26 : decode cX6_hidden 26 = .ok (.iconst 0, 1) := by decide +kernel
theorem dX6_hidden_27 : decode cX6_hidden 27 = .ok (.goto 8, 3) := by decide +kernel
theorem dX6_hidden_30 : decode cX6_hidden 30 = .ok (.aload_n 0, 1) := by decide +kernel
theorem dX6_hidden_31 : decode cX6_hidden 31 = .ok (.iload_n 1, 1) := by decide +kernel
theorem dX6_hidden_32 : decode cX6_hidden 32 = .ok (.invokevirtual 129, 3) := by decide +kernel
theorem dX6_hidden_35 : decode cX6_hidden 35 = .ok (.ireturn, 1) := by decide +kernel
theorem dX6_isWithin_0 : decode cX6_isWithin 0 = .ok (.iload_n 2, 1) := by decide +kernel
theorem dX6_isWithin_1 : decode cX6_isWithin 1 = .ok (.iconst (-1), 1) := by decide +kernel
theorem dX6_isWithin_2 : decode cX6_isWithin 2 = .ok (.if_icmp .ne 7, 3) := by decide +kernel
theorem dX6_isWithin_5 : decode cX6_isWithin 5 = .ok (.iconst 1, 1) := by decide +kernel
theorem dX6_isWithin_6 : decode cX6_isWithin 6 = .ok (.goto 4, 3) := by decide +kernel
theorem dX6_isWithin_9 : decode cX6_isWithin 9 = .ok (.iconst 0, 1) := by decide +kernel
theorem dX6_isWithin_10 : decode cX6_isWithin 10 = .ok (.istore 4, 2) := by decide +kernel
theorem dX6_isWithin_12 : decode cX6_isWithin 12 = .ok (.iload_n 1, 1) := by decide +kernel
theorem dX6_isWithin_13 : decode cX6_isWithin 13 = .ok (.istore 5, 2) := by decide +kernel
theorem dX6_isWithin_15 : decode cX6_isWithin 15 = .ok (.iload 5, 2) := by decide +kernel
theorem dX6_isWithin_17 : decode cX6_isWithin 17 = .ok (.iconst (-1), 1) := by decide +kernel
theorem dX6_isWithin_18 : decode cX6_isWithin 18 = .ok (.if_icmp .eq 45, 3) := by decide +kernel
theorem dX6_isWithin_21 : decode cX6_isWithin 21 = .ok (.iload 4, 2) := by decide +kernel
theorem dX6_isWithin_23 : decode cX6_isWithin 23 = .ok (.iload 5, 2) := by decide +kernel
theorem dX6_isWithin_25 : decode cX6_isWithin 25 = .ok (.iload_n 2, 1) := by decide +kernel
theorem dX6_isWithin_26 : decode cX6_isWithin 26 = .ok (.if_icmp .ne 7, 3) := by decide +kernel
theorem dX6_isWithin_29 : decode cX6_isWithin 29 = .ok (.iconst 1, 1) := by decide +kernel
theorem dX6_isWithin_30 : decode cX6_isWithin 30 = .ok (.goto 4, 3) := by decide +kernel
theorem dX6_isWithin_33 : decode cX6_isWithin 33 = .ok (.iconst 0, 1) := by decide +kernel
theorem dX6_isWithin_34 : decode cX6_isWithin 34 = .ok (.ior, 1) := by decide +kernel
theorem dX6_isWithin_35 : decode cX6_isWithin 35 = .ok (.istore 4, 2) := by decide +kernel
theorem dX6_isWithin_37 : decode cX6_isWithin 37 = .ok (.iload_n 3, 1) := by decide +kernel
theorem dX6_isWithin_38 : decode cX6_isWithin 38 = .ok (.ifCond .eq 13, 3) := by decide +kernel
theorem dX6_isWithin_41 : decode cX6_isWithin 41 = .ok (.aload_n 0, 1) := by decide +kernel
theorem dX6_isWithin_42 : decode cX6_isWithin 42 = .ok (.getfield 13, 3) := by decide +kernel
theorem dX6_isWithin_45 : decode cX6_isWithin 45 = .ok (.iload 5, 2) := by decide +kernel
theorem dX6_isWithin_47 : decode cX6_isWithin 47 = .ok (.iaload, 1) := by decide +kernel
theorem dX6_isWithin_48 : decode cX6_isWithin 48 = .ok (.goto 10, 3) := by decide +kernel
theorem dX6_isWithin_51 : decode cX6_isWithin 51 = .ok (.aload_n 0, 1) := by decide +kernel
theorem dX6_isWithin_52 : decode cX6_isWithin 52 = .ok (.getfield 7, 3) := by decide +kernel
theorem dX6_isWithin_55 : decode cX6_isWithin 55 = .ok (.iload 5, 2) := by decide +kernel
theorem dX6_isWithin_57 : decode cX6_isWithin 57 = .ok (.iaload, 1) := by decide +kernel
theorem dX6_isWithin_58 : decode cX6_isWithin 58 = .ok (.istore 5, 2) := by decide +kernel
theorem dX6_isWithin_60 : decode cX6_isWithin 60 = .ok (.goto (-45), 3) := by decide +kernel
theorem dX6_isWithin_63 : decode cX6_isWithin 63 = .ok (.iload 4, 2) := by decide +kernel
theorem dX6_isWithin_65 : decode cX6_isWithin 65 = .ok (.ireturn, 1) := by decide +kernel
theorem dX6_toldOn_0 : decode cX6_toldOn 0 = .ok (.iconst (-1), 1) := by decide +kernel
theorem dX6_toldOn_1 : decode cX6_toldOn 1 = .ok (.istore_n 2, 1) := by decide +kernel
theorem dX6_toldOn_2 : decode cX6_toldOn 2 = .ok (.iconst 0, 1) := by decide +kernel
theorem dX6_toldOn_3 : decode cX6_toldOn 3 = .ok (.istore_n 3, 1) := by decide +kernel
theorem dX6_toldOn_4 : decode cX6_toldOn 4 = .ok (.iload_n 3, 1) := by decide +kernel
theorem dX6_toldOn_5 : decode cX6_toldOn 5 = .ok (.aload_n 0, 1) := by decide +kernel
theorem dX6_toldOn_6 : decode cX6_toldOn 6 = .ok (.getfield 87, 3) := by decide +kernel
theorem dX6_toldOn_9 : decode cX6_toldOn 9 = .ok (.if_icmp .ge 30, 3) := by decide +kernel
theorem dX6_toldOn_12 : decode cX6_toldOn 12 = .ok (.aload_n 0, 1) := by decide +kernel
theorem dX6_toldOn_13 : decode cX6_toldOn 13 = .ok (.getfield 32, 3) := by decide +kernel
theorem dX6_toldOn_16 : decode cX6_toldOn 16 = .ok (.iload_n 3, 1) := by decide +kernel
theorem dX6_toldOn_17 : decode cX6_toldOn 17 = .ok (.iaload, 1) := by decide +kernel
theorem dX6_toldOn_18 : decode cX6_toldOn 18 = .ok (.iload_n 1, 1) := by decide +kernel
theorem dX6_toldOn_19 : decode cX6_toldOn 19 = .ok (.if_icmp .ne 12, 3) := by decide +kernel
theorem dX6_toldOn_22 : decode cX6_toldOn 22 = .ok (.aload_n 0, 1) := by decide +kernel
theorem dX6_toldOn_23 : decode cX6_toldOn 23 = .ok (.getfield 35, 3) := by decide +kernel
theorem dX6_toldOn_26 : decode cX6_toldOn 26 = .ok (.iload_n 3, 1) := by decide +kernel
theorem dX6_toldOn_27 : decode cX6_toldOn 27 = .ok (.iaload, 1) := by decide +kernel
theorem dX6_toldOn_28 : decode cX6_toldOn 28 = .ok (.goto 4, 3) := by decide +kernel
theorem dX6_toldOn_31 : decode cX6_toldOn 31 = .ok (.iload_n 2, 1) := by decide +kernel
theorem dX6_toldOn_32 : decode cX6_toldOn 32 = .ok (.istore_n 2, 1) := by decide +kernel
theorem dX6_toldOn_33 : decode cX6_toldOn 33 = .ok (.iinc 3 1, 3) := by decide +kernel
theorem dX6_toldOn_36 : decode cX6_toldOn 36 = .ok (.goto (-32), 3) := by decide +kernel
theorem dX6_toldOn_39 : decode cX6_toldOn 39 = .ok (.iload_n 2, 1) := by decide +kernel
theorem dX6_toldOn_40 : decode cX6_toldOn 40 = .ok (.ireturn, 1) := by decide +kernel
set_option maxRecDepth 20000 in
theorem ggX6_find_X6_isArea : GoodIn wsX6_find wsX6_isArea := goodIn_r _ [10, 2, 11, 12, 9, 13, 39, 40, 41, 42, 43, 44, 45, 46, 47, 48, 49, 50, 51, 52, 53, 54, 55, 56, 57, 58, 59] (by decide +kernel) (by decide +kernel)
set_option maxRecDepth 20000 in
theorem gX6_find_X6_isArea : GoodIn wsX6_find (wsV RX6 64 RX6 yX6_isArea wsX6_isArea) := goodIn_app (goodIn_of _ (by decide +kernel)) ggX6_find_X6_isArea
set_option maxRecDepth 20000 in
theorem ggX6_find_X6_isItem : GoodIn wsX6_find wsX6_isItem := goodIn_r _ [17, 3, 11, 12, 9, 13, 39, 40, 41, 42, 43, 44, 45, 46, 47, 48, 49, 50, 51, 52, 53, 54, 55, 56, 57, 58, 59] (by decide +kernel) (by decide +kernel)
set_option maxRecDepth 20000 in
theorem gX6_find_X6_isItem : GoodIn wsX6_find (wsV RX6 68 RX6 yX6_isItem wsX6_isItem) := goodIn_app (goodIn_of _ (by decide +kernel)) ggX6_find_X6_isItem
set_option maxRecDepth 20000 in
theorem ggX6_find_X6_isIn : GoodIn wsX6_find wsX6_isIn := goodIn_r _ [13] (by decide +kernel) (by decide +kernel)
set_option maxRecDepth 20000 in
theorem gX6_find_X6_isIn : GoodIn wsX6_find (va_wsS RX6 57 yX6_isIn wsX6_isIn) := goodIn_app (goodIn_of _ (by decide +kernel)) ggX6_find_X6_isIn
set_option maxRecDepth 20000 in
theorem ggX6_find_X6_cellOf : GoodIn wsX6_find wsX6_cellOf := goodIn_r _ [20] (by decide +kernel) (by decide +kernel)
set_option maxRecDepth 20000 in
theorem gX6_find_X6_cellOf : GoodIn wsX6_find (va_wsS RX6 82 yX6_cellOf wsX6_cellOf) := goodIn_app (goodIn_of _ (by decide +kernel)) ggX6_find_X6_cellOf
set_option maxRecDepth 20000 in
theorem ggX6_find_X6_isWithin : GoodIn wsX6_find wsX6_isWithin := goodIn_r _ [24, 25, 26, 39, 40, 41, 42, 43, 44, 45, 46, 47, 48, 49, 50, 51, 52, 53, 54, 55, 56, 57, 58, 59] (by decide +kernel) (by decide +kernel)
set_option maxRecDepth 20000 in
theorem gX6_find_X6_isWithin : GoodIn wsX6_find (wsV RX6 133 RX6 yX6_isWithin wsX6_isWithin) := goodIn_app (goodIn_of _ (by decide +kernel)) ggX6_find_X6_isWithin
set_option maxRecDepth 20000 in
theorem ggX6_find_X6_figureOn : GoodIn wsX6_find wsX6_figureOn := goodIn_r _ [30, 5, 31, 32, 33, 34, 39, 40, 41, 42, 43, 44, 45, 46, 47, 48, 49, 50, 51, 52, 53, 54, 55, 56, 57, 58, 59] (by decide +kernel) (by decide +kernel)
set_option maxRecDepth 20000 in
theorem gX6_find_X6_figureOn : GoodIn wsX6_find (wsV RX6 93 RX6 yX6_figureOn wsX6_figureOn) := goodIn_app (goodIn_of _ (by decide +kernel)) ggX6_find_X6_figureOn
set_option maxRecDepth 20000 in
theorem ggX6_find_X6_toldOn : GoodIn wsX6_find wsX6_toldOn := goodIn_r _ [38, 31, 32, 33, 39, 40, 41, 42, 43, 44, 45, 46, 47, 48, 49, 50, 51, 52, 53, 54, 55, 56, 57, 58, 59] (by decide +kernel) (by decide +kernel)
set_option maxRecDepth 20000 in
theorem gX6_find_X6_toldOn : GoodIn wsX6_find (wsV RX6 136 RX6 yX6_toldOn wsX6_toldOn) := goodIn_app (goodIn_of _ (by decide +kernel)) ggX6_find_X6_toldOn
theorem dX6_find_0 : decode cX6_find 0 = .ok (.aload_n 0, 1) := by decide +kernel
theorem dX6_find_1 : decode cX6_find 1 = .ok (.iload_n 1, 1) := by decide +kernel
theorem dX6_find_2 : decode cX6_find 2 = .ok (.iconst (-1), 1) := by decide +kernel
theorem dX6_find_3 : decode cX6_find 3 = .ok (.if_icmp .eq 11, 3) := by decide +kernel
theorem dX6_find_6 : decode cX6_find 6 = .ok (.aload_n 0, 1) := by decide +kernel
theorem dX6_find_7 : decode cX6_find 7 = .ok (.iload_n 1, 1) := by decide +kernel
theorem dX6_find_8 : decode cX6_find 8 = .ok (.invokevirtual 64, 3) := by decide +kernel
theorem dX6_find_11 : decode cX6_find 11 = .ok (.ifCond .eq 21, 3) := by decide +kernel
theorem dX6_find_14 : decode cX6_find 14 = .ok (.iload_n 2, 1) := by decide +kernel
theorem dX6_find_15 : decode cX6_find 15 = .ok (.iconst (-1), 1) := by decide +kernel
theorem dX6_find_16 : decode cX6_find 16 = .ok (.if_icmp .eq 11, 3) := by decide +kernel
theorem dX6_find_19 : decode cX6_find 19 = .ok (.aload_n 0, 1) := by decide +kernel
theorem dX6_find_20 : decode cX6_find 20 = .ok (.iload_n 2, 1) := by decide +kernel
theorem dX6_find_21 : decode cX6_find 21 = .ok (.invokevirtual 68, 3) := by decide +kernel
theorem dX6_find_24 : decode cX6_find 24 = .ok (.ifCond .eq 8, 3) := by decide +kernel
theorem dX6_find_27 : decode cX6_find 27 = .ok (.iload 6, 2) := by decide +kernel
theorem dX6_find_29 : decode cX6_find 29 = .ok (.ifCond .ge 7, 3) := by decide +kernel
theorem dX6_find_32 : decode cX6_find 32 = .ok (.iconst 1, 1) := by decide +kernel
theorem dX6_find_33 : decode cX6_find 33 = .ok (.goto 4, 3) := by decide +kernel
theorem dX6_find_36 : decode cX6_find 36 = .ok (.iconst 0, 1) := by decide +kernel
theorem dX6_find_37 : decode cX6_find 37 = .ok (.putfield 50, 3) := by decide +kernel
theorem dX6_find_40 : decode cX6_find 40 = .ok (.aload_n 0, 1) := by decide +kernel
theorem dX6_find_41 : decode cX6_find 41 = .ok (.getfield 50, 3) := by decide +kernel
theorem dX6_find_44 : decode cX6_find 44 = .ok (.ifCond .le 5, 3) := by decide +kernel
theorem dX6_find_47 : decode cX6_find 47 = .ok (.iconst 0, 1) := by decide +kernel
theorem dX6_find_48 : decode cX6_find 48 = .ok (.ireturn, 1) := by decide +kernel
theorem dX6_find_49 : decode cX6_find 49 = .ok (.aload_n 0, 1) := by decide +kernel
theorem dX6_find_50 : decode cX6_find 50 = .ok (.iload_n 3, 1) := by decide +kernel
theorem dX6_find_51 : decode cX6_find 51 = .ok (.iconst 0, 1) := by decide +kernel
theorem dX6_find_52 : decode cX6_find 52 = .ok (.bipush 11, 2) := by decide +kernel
theorem dX6_find_54 : decode cX6_find 54 = .ok (.invokestatic 57, 3) := by decide +kernel
theorem dX6_find_57 : decode cX6_find 57 = .ok (.ifCond .eq 26, 3) := by decide +kernel
theorem dX6_find_60 : decode cX6_find 60 = .ok (.iload 4, 2) := by decide +kernel
theorem dX6_find_62 : decode cX6_find 62 = .ok (.iload_n 3, 1) := by decide +kernel
theorem dX6_find_63 : decode cX6_find 63 = .ok (.bipush 11, 2) := by decide +kernel
theorem dX6_find_65 : decode cX6_find 65 = .ok (.invokestatic 57, 3) := by decide +kernel
theorem dX6_find_68 : decode cX6_find 68 = .ok (.ifCond .eq 15, 3) := by decide +kernel
theorem dX6_find_71 : decode cX6_find 71 = .ok (.iload 5, 2) := by decide +kernel
theorem dX6_find_73 : decode cX6_find 73 = .ok (.iconst 0, 1) := by decide +kernel
theorem dX6_find_74 : decode cX6_find 74 = .ok (.sipush 1000, 3) := by decide +kernel
theorem dX6_find_77 : decode cX6_find 77 = .ok (.invokestatic 57, 3) := by decide +kernel
theorem dX6_find_80 : decode cX6_find 80 = .ok (.ifCond .ne 7, 3) := by decide +kernel
theorem dX6_find_83 : decode cX6_find 83 = .ok (.iconst 2, 1) := by decide +kernel
theorem dX6_find_84 : decode cX6_find 84 = .ok (.goto 4, 3) := by decide +kernel
theorem dX6_find_87 : decode cX6_find 87 = .ok (.iconst 0, 1) := by decide +kernel
theorem dX6_find_88 : decode cX6_find 88 = .ok (.putfield 50, 3) := by decide +kernel
theorem dX6_find_91 : decode cX6_find 91 = .ok (.aload_n 0, 1) := by decide +kernel
theorem dX6_find_92 : decode cX6_find 92 = .ok (.getfield 50, 3) := by decide +kernel
theorem dX6_find_95 : decode cX6_find 95 = .ok (.ifCond .le 5, 3) := by decide +kernel
theorem dX6_find_98 : decode cX6_find 98 = .ok (.iconst 0, 1) := by decide +kernel
theorem dX6_find_99 : decode cX6_find 99 = .ok (.ireturn, 1) := by decide +kernel
theorem dX6_find_100 : decode cX6_find 100 = .ok (.iload 6, 2) := by decide +kernel
theorem dX6_find_102 : decode cX6_find 102 = .ok (.istore 7, 2) := by decide +kernel
theorem dX6_find_104 : decode cX6_find 104 = .ok (.iload_n 3, 1) := by decide +kernel
theorem dX6_find_105 : decode cX6_find 105 = .ok (.istore 8, 2) := by decide +kernel
theorem dX6_find_107 : decode cX6_find 107 = .ok (.iload 8, 2) := by decide +kernel
theorem dX6_find_109 : decode cX6_find 109 = .ok (.iload 4, 2) := by decide +kernel
theorem dX6_find_111 : decode cX6_find 111 = .ok (.if_icmp .gt 152, 3) := by decide +kernel
theorem dX6_find_114 : decode cX6_find 114 = .ok (.iconst 0, 1) := by decide +kernel
theorem dX6_find_115 : decode cX6_find 115 = .ok (.istore 9, 2) := by decide +kernel
theorem dX6_find_117 : decode cX6_find 117 = .ok (.iload 9, 2) := by decide +kernel
theorem dX6_find_119 : decode cX6_find 119 = .ok (.aload_n 0, 1) := by decide +kernel
theorem dX6_find_120 : decode cX6_find 120 = .ok (.getfield 54, 3) := by decide +kernel
theorem dX6_find_123 : decode cX6_find 123 = .ok (.if_icmp .ge 134, 3) := by decide +kernel
theorem dX6_find_126 : decode cX6_find 126 = .ok (.iconst 0, 1) := by decide +kernel
theorem dX6_find_127 : decode cX6_find 127 = .ok (.istore 10, 2) := by decide +kernel
theorem dX6_find_129 : decode cX6_find 129 = .ok (.iload 10, 2) := by decide +kernel
theorem dX6_find_131 : decode cX6_find 131 = .ok (.aload_n 0, 1) := by decide +kernel
theorem dX6_find_132 : decode cX6_find 132 = .ok (.getfield 61, 3) := by decide +kernel
theorem dX6_find_135 : decode cX6_find 135 = .ok (.if_icmp .ge 116, 3) := by decide +kernel
theorem dX6_find_138 : decode cX6_find 138 = .ok (.iload 9, 2) := by decide +kernel
theorem dX6_find_140 : decode cX6_find 140 = .ok (.iload 10, 2) := by decide +kernel
theorem dX6_find_142 : decode cX6_find 142 = .ok (.iload 8, 2) := by decide +kernel
theorem dX6_find_144 : decode cX6_find 144 = .ok (.invokestatic 82, 3) := by decide +kernel
theorem dX6_find_147 : decode cX6_find 147 = .ok (.istore 11, 2) := by decide +kernel
theorem dX6_find_149 : decode cX6_find 149 = .ok (.aload_n 0, 1) := by decide +kernel
theorem dX6_find_150 : decode cX6_find 150 = .ok (.iload 9, 2) := by decide +kernel
theorem dX6_find_152 : decode cX6_find 152 = .ok (.iload_n 1, 1) := by decide +kernel
theorem dX6_find_153 : decode cX6_find 153 = .ok (.iconst 0, 1) := by decide +kernel
theorem dX6_find_154 : decode cX6_find 154 = .ok (.invokevirtual 133, 3) := by decide +kernel
theorem dX6_find_157 : decode cX6_find 157 = .ok (.ifCond .eq 44, 3) := by decide +kernel
theorem dX6_find_160 : decode cX6_find 160 = .ok (.aload_n 0, 1) := by decide +kernel
theorem dX6_find_161 : decode cX6_find 161 = .ok (.iload 10, 2) := by decide +kernel
theorem dX6_find_163 : decode cX6_find 163 = .ok (.iload_n 2, 1) := by decide +kernel
theorem dX6_find_164 : decode cX6_find 164 = .ok (.iconst 1, 1) := by decide +kernel
theorem dX6_find_165 : decode cX6_find 165 = .ok (.invokevirtual 133, 3) := by decide +kernel
theorem dX6_find_168 : decode cX6_find 168 = .ok (.ifCond .eq 33, 3) := by decide +kernel
theorem dX6_find_171 : decode cX6_find 171 = .ok (.aload_n 0, 1) := by decide +kernel
theorem dX6_find_172 : decode cX6_find 172 = .ok (.iload 11, 2) := by decide +kernel
theorem dX6_find_174 : decode cX6_find 174 = .ok (.aload_n 0, 1) := by decide +kernel
theorem dX6_find_175 : decode cX6_find 175 = .ok (.getfield 90, 3) := by decide +kernel
theorem dX6_find_178 : decode cX6_find 178 = .ok (.invokevirtual 93, 3) := by decide +kernel
theorem dX6_find_181 : decode cX6_find 181 = .ok (.ldc 86, 2) := by decide +kernel
theorem dX6_find_183 : decode cX6_find 183 = .ok (.if_icmp .eq 18, 3) := by decide +kernel
theorem dX6_find_186 : decode cX6_find 186 = .ok (.aload_n 0, 1) := by decide +kernel
theorem dX6_find_187 : decode cX6_find 187 = .ok (.iload 11, 2) := by decide +kernel
theorem dX6_find_189 : decode cX6_find 189 = .ok (.invokevirtual 136, 3) := by decide +kernel
theorem dX6_find_192 : decode cX6_find 192 = .ok (.iload 5, 2) := by decide +kernel
theorem dX6_find_194 : decode cX6_find 194 = .ok (.if_icmp .lt 7, 3) := by decide +kernel
theorem dX6_find_197 : decode cX6_find 197 = .ok (.iconst 1, 1) := by decide +kernel
theorem dX6_find_198 : decode cX6_find 198 = .ok (.goto 4, 3) := by decide +kernel
theorem dX6_find_201 : decode cX6_find 201 = .ok (.iconst 0, 1) := by decide +kernel
theorem dX6_find_202 : decode cX6_find 202 = .ok (.istore 12, 2) := by decide +kernel
theorem dX6_find_204 : decode cX6_find 204 = .ok (.iload 12, 2) := by decide +kernel
theorem dX6_find_206 : decode cX6_find 206 = .ok (.ifCond .eq 24, 3) := by decide +kernel
theorem dX6_find_209 : decode cX6_find 209 = .ok (.iload 7, 2) := by decide +kernel
theorem dX6_find_211 : decode cX6_find 211 = .ok (.ifCond .ne 19, 3) := by decide +kernel
theorem dX6_find_214 : decode cX6_find 214 = .ok (.sipush 1000, 3) := by decide +kernel
theorem dX6_find_217 : decode cX6_find 217 = .ok (.iload 8, 2) := by decide +kernel
theorem dX6_find_219 : decode cX6_find 219 = .ok (.imul, 1) := by decide +kernel
theorem dX6_find_220 : decode cX6_find 220 = .ok (.bipush 20, 2) := by decide +kernel
theorem dX6_find_222 : decode cX6_find 222 = .ok (.iload 9, 2) := by decide +kernel
theorem dX6_find_224 : decode cX6_find 224 = .ok (.imul, 1) := by decide +kernel
theorem dX6_find_225 : decode cX6_find 225 = .ok (.iadd, 1) := by decide +kernel
theorem dX6_find_226 : decode cX6_find 226 = .ok (.iload 10, 2) := by decide +kernel
theorem dX6_find_228 : decode cX6_find 228 = .ok (.iadd, 1) := by decide +kernel
theorem dX6_find_229 : decode cX6_find 229 = .ok (.ireturn, 1) := by decide +kernel
theorem dX6_find_230 : decode cX6_find 230 = .ok (.iload 7, 2) := by decide +kernel
theorem dX6_find_232 : decode cX6_find 232 = .ok (.iload 12, 2) := by decide +kernel
theorem dX6_find_234 : decode cX6_find 234 = .ok (.ifCond .eq 7, 3) := by decide +kernel
theorem dX6_find_237 : decode cX6_find 237 = .ok (.iconst 1, 1) := by decide +kernel
theorem dX6_find_238 : decode cX6_find 238 = .ok (.goto 4, 3) := by decide +kernel
theorem dX6_find_241 : decode cX6_find 241 = .ok (.iconst 0, 1) := by decide +kernel
theorem dX6_find_242 : decode cX6_find 242 = .ok (.isub, 1) := by decide +kernel
theorem dX6_find_243 : decode cX6_find 243 = .ok (.istore 7, 2) := by decide +kernel
theorem dX6_find_245 : decode cX6_find 245 = .ok (.iinc 10 1, 3) := by decide +kernel
theorem dX6_find_248 : decode cX6_find 248 = .ok (.goto (-119), 3) := by decide +kernel
theorem dX6_find_251 : decode cX6_find 251 = .ok (.iinc 9 1, 3) := by decide +kernel
theorem dX6_find_254 : decode cX6_find 254 = .ok (.goto (-137), 3) := by decide +kernel
theorem dX6_find_257 : decode cX6_find 257 = .ok (.iinc 8 1, 3) := by decide +kernel
theorem dX6_find_260 : decode cX6_find 260 = .ok (.goto (-153), 3) := by decide +kernel
theorem dX6_find_263 : decode cX6_find 263 = .ok (.iconst (-1), 1) := by decide +kernel
theorem dX6_find_264 : decode cX6_find 264 = .ok (.ireturn, 1) := by decide +kernel
set_option maxRecDepth 20000 in
theorem ggX6_mayTell_X6_isSender : GoodIn wsX6_mayTell wsX6_isSender := goodIn_r _ [5, 6, 7, 4, 8] (by decide +kernel) (by decide +kernel)
set_option maxRecDepth 20000 in
theorem gX6_mayTell_X6_isSender : GoodIn wsX6_mayTell (va_wsS RX6 71 yX6_isSender wsX6_isSender) := goodIn_app (goodIn_of _ (by decide +kernel)) ggX6_mayTell_X6_isSender
set_option maxRecDepth 20000 in
theorem ggX6_mayTell_X6_isArea : GoodIn wsX6_mayTell wsX6_isArea := goodIn_r _ [12, 13, 6, 7, 4, 8, 20, 21, 22, 23, 24, 25, 26, 27, 28, 29, 30, 31, 32, 33, 34, 35, 36, 37, 38, 39, 40] (by decide +kernel) (by decide +kernel)
set_option maxRecDepth 20000 in
theorem gX6_mayTell_X6_isArea : GoodIn wsX6_mayTell (wsV RX6 64 RX6 yX6_isArea wsX6_isArea) := goodIn_app (goodIn_of _ (by decide +kernel)) ggX6_mayTell_X6_isArea
set_option maxRecDepth 20000 in
theorem ggX6_mayTell_X6_may : GoodIn wsX6_mayTell wsX6_may := goodIn_r _ [17, 18, 19, 20, 21, 22, 23, 24, 25, 26, 27, 28, 29, 30, 31, 32, 33, 34, 35, 36, 37, 38, 39, 40] (by decide +kernel) (by decide +kernel)
set_option maxRecDepth 20000 in
theorem gX6_mayTell_X6_may : GoodIn wsX6_mayTell (wsV RX6 97 RX6 yX6_may wsX6_may) := goodIn_app (goodIn_of _ (by decide +kernel)) ggX6_mayTell_X6_may
theorem dX6_mayTell_0 : decode cX6_mayTell 0 = .ok (.aload_n 0, 1) := by decide +kernel
theorem dX6_mayTell_1 : decode cX6_mayTell 1 = .ok (.iload_n 1, 1) := by decide +kernel
theorem dX6_mayTell_2 : decode cX6_mayTell 2 = .ok (.invokestatic 71, 3) := by decide +kernel
theorem dX6_mayTell_5 : decode cX6_mayTell 5 = .ok (.ifCond .eq 15, 3) := by decide +kernel
theorem dX6_mayTell_8 : decode cX6_mayTell 8 = .ok (.aload_n 0, 1) := by decide +kernel
theorem dX6_mayTell_9 : decode cX6_mayTell 9 = .ok (.iload_n 2, 1) := by decide +kernel
theorem dX6_mayTell_10 : decode cX6_mayTell 10 = .ok (.invokevirtual 64, 3) := by decide +kernel
theorem dX6_mayTell_13 : decode cX6_mayTell 13 = .ok (.ifCond .eq 7, 3) := by decide +kernel
theorem dX6_mayTell_16 : decode cX6_mayTell 16 = .ok (.iconst 0, 1) := by decide +kernel
theorem dX6_mayTell_17 : decode cX6_mayTell 17 = .ok (.goto 4, 3) := by decide +kernel
theorem dX6_mayTell_20 : decode cX6_mayTell 20 = .ok (.iconst 1, 1) := by decide +kernel
theorem dX6_mayTell_21 : decode cX6_mayTell 21 = .ok (.putfield 50, 3) := by decide +kernel
theorem dX6_mayTell_24 : decode cX6_mayTell 24 = .ok (.aload_n 0, 1) := by decide +kernel
theorem dX6_mayTell_25 : decode cX6_mayTell 25 = .ok (.getfield 50, 3) := by decide +kernel
theorem dX6_mayTell_28 : decode cX6_mayTell 28 = .ok (.ifCond .ne 16, 3) := by decide +kernel
theorem dX6_mayTell_31 : decode cX6_mayTell 31 = .ok (.aload_n 0, 1) := by decide +kernel
theorem dX6_mayTell_32 : decode cX6_mayTell 32 = .ok (.iload_n 1, 1) := by decide +kernel
theorem dX6_mayTell_33 : decode cX6_mayTell 33 = .ok (.iload_n 2, 1) := by decide +kernel
theorem dX6_mayTell_34 : decode cX6_mayTell 34 = .ok (.invokevirtual 97, 3) := by decide +kernel
theorem dX6_mayTell_37 : decode cX6_mayTell 37 = .ok (.ifCond .eq 7, 3) := by decide +kernel
theorem dX6_mayTell_40 : decode cX6_mayTell 40 = .ok (.iconst 1, 1) := by decide +kernel
theorem dX6_mayTell_41 : decode cX6_mayTell 41 = .ok (.goto 4, 3) := by decide +kernel
theorem dX6_mayTell_44 : decode cX6_mayTell 44 = .ok (.iconst 0, 1) := by decide +kernel
theorem dX6_mayTell_45 : decode cX6_mayTell 45 = .ok (.ireturn, 1) := by decide +kernel
theorem dJ9_abs_0f7a4_0 : decode cJ9_abs_0f7a4 0 = .ok (.iload_n 0, 1) := by decide +kernel
theorem dJ9_abs_0f7a4_1 : decode cJ9_abs_0f7a4 1 = .ok (.ifCond .ge 8, 3) := by decide +kernel
theorem dJ9_abs_0f7a4_4 : decode cJ9_abs_0f7a4 4 = .ok (.iload_n 0, 1) := by decide +kernel
theorem dJ9_abs_0f7a4_5 : decode cJ9_abs_0f7a4 5 = .ok (.ineg, 1) := by decide +kernel
theorem dJ9_abs_0f7a4_6 : decode cJ9_abs_0f7a4 6 = .ok (.goto 4, 3) := by decide +kernel
theorem dJ9_abs_0f7a4_9 : decode cJ9_abs_0f7a4 9 = .ok (.iload_n 0, 1) := by decide +kernel
theorem dJ9_abs_0f7a4_10 : decode cJ9_abs_0f7a4 10 = .ok (.ireturn, 1) := by decide +kernel
theorem dJ7_fill_53178_0 : decode cJ7_fill_53178 0 = .ok (.iconst 0, 1) := by decide +kernel
theorem dJ7_fill_53178_1 : decode cJ7_fill_53178 1 = .ok (.istore_n 2, 1) := by decide +kernel
theorem dJ7_fill_53178_2 : decode cJ7_fill_53178 2 = .ok (.aload_n 0, 1) := by decide +kernel
theorem dJ7_fill_53178_3 : decode cJ7_fill_53178 3 = .ok (.arraylength, 1) := by decide +kernel
theorem dJ7_fill_53178_4 : decode cJ7_fill_53178 4 = .ok (.istore_n 3, 1) := by decide +kernel
theorem dJ7_fill_53178_5 : decode cJ7_fill_53178 5 = .ok (.iload_n 2, 1) := by decide +kernel
theorem dJ7_fill_53178_6 : decode cJ7_fill_53178 6 = .ok (.iload_n 3, 1) := by decide +kernel
theorem dJ7_fill_53178_7 : decode cJ7_fill_53178 7 = .ok (.if_icmp .ge 13, 3) := by decide +kernel
theorem dJ7_fill_53178_10 : decode cJ7_fill_53178 10 = .ok (.aload_n 0, 1) := by decide +kernel
theorem dJ7_fill_53178_11 : decode cJ7_fill_53178 11 = .ok (.iload_n 2, 1) := by decide +kernel
theorem dJ7_fill_53178_12 : decode cJ7_fill_53178 12 = .ok (.iload_n 1, 1) := by decide +kernel
theorem dJ7_fill_53178_13 : decode cJ7_fill_53178 13 = .ok (.iastore, 1) := by decide +kernel
theorem dJ7_fill_53178_14 : decode cJ7_fill_53178 14 = .ok (.iinc 2 1, 3) := by decide +kernel
theorem dJ7_fill_53178_17 : decode cJ7_fill_53178 17 = .ok (.goto (-12), 3) := by decide +kernel
theorem dJ7_fill_53178_20 : decode cJ7_fill_53178 20 = .ok (.return_, 1) := by decide +kernel
set_option maxRecDepth 20000 in
theorem ggL_area_X5_area : GoodIn wsL_area wsX5_area := goodIn_ca (goodIn_ca (goodIn_r _ [7, 8, 9, 10, 6, 11, 12, 13, 14, 15, 16, 17, 18, 19, 20, 21, 22, 23, 24, 25, 26, 27, 28, 29, 30, 31, 32, 33, 34, 35, 36, 37, 38, 39, 40, 41, 42, 43, 44, 45, 46, 47] (by decide +kernel) (by decide +kernel)) (goodIn_sub (fun _ h => List.mem_cons_of_mem _ (List.mem_append_left _ (List.mem_append_right _ h))) (by decide +kernel))) (goodIn_sub (fun _ h => List.mem_cons_of_mem _ (List.mem_append_right _ h)) (by decide +kernel))
set_option maxRecDepth 20000 in
theorem gL_area_X5_area : GoodIn wsL_area (wsV RL 7 RX5 yX5_area wsX5_area) := goodIn_app (goodIn_of _ (by decide +kernel)) ggL_area_X5_area
theorem dL_area_0 : decode cL_area 0 = .ok (.aload_n 2, 1) := by decide +kernel
theorem dL_area_1 : decode cL_area 1 = .ok (.iconst 0, 1) := by decide +kernel
theorem dL_area_2 : decode cL_area 2 = .ok (.aload_n 0, 1) := by decide +kernel
theorem dL_area_3 : decode cL_area 3 = .ok (.iload_n 1, 1) := by decide +kernel
theorem dL_area_4 : decode cL_area 4 = .ok (.invokevirtual 7, 3) := by decide +kernel
theorem dL_area_7 : decode cL_area 7 = .ok (.i2l, 1) := by decide +kernel
theorem dL_area_8 : decode cL_area 8 = .ok (.lastore, 1) := by decide +kernel
theorem dL_area_9 : decode cL_area 9 = .ok (.goto 9, 3) := by decide +kernel
theorem dL_area_12 : decode cL_area 12 = .ok (.astore_n 3, 1) := by decide +kernel
theorem dL_area_13 : decode cL_area 13 = .ok (.iconst 1, 1) := by decide +kernel
theorem dL_area_14 : decode cL_area 14 = .ok (.ireturn, 1) := by decide +kernel
theorem dL_area_15 : decode cL_area 15 = .ok (.astore_n 3, 1) := by decide +kernel
theorem dL_area_16 : decode cL_area 16 = .ok (.iconst 2, 1) := by decide +kernel
theorem dL_area_17 : decode cL_area 17 = .ok (.ireturn, 1) := by decide +kernel
theorem dL_area_18 : decode cL_area 18 = .ok (.iconst 0, 1) := by decide +kernel
theorem dL_area_19 : decode cL_area 19 = .ok (.ireturn, 1) := by decide +kernel
set_option maxRecDepth 20000 in
theorem ggL_item_X5_item : GoodIn wsL_item wsX5_item := goodIn_ca (goodIn_ca (goodIn_r _ [7, 8, 9, 10, 6, 11, 12, 13, 14, 15, 16, 17, 18, 19, 20, 21, 22, 23, 24, 25, 26, 27, 28, 29, 30, 31, 32, 33, 34, 35, 36, 37, 38, 39, 40, 41, 42, 43, 44, 45, 46, 47] (by decide +kernel) (by decide +kernel)) (goodIn_sub (fun _ h => List.mem_cons_of_mem _ (List.mem_append_left _ (List.mem_append_right _ h))) (by decide +kernel))) (goodIn_sub (fun _ h => List.mem_cons_of_mem _ (List.mem_append_right _ h)) (by decide +kernel))
set_option maxRecDepth 20000 in
theorem gL_item_X5_item : GoodIn wsL_item (wsV RL 17 RX5 yX5_item wsX5_item) := goodIn_app (goodIn_of _ (by decide +kernel)) ggL_item_X5_item
theorem dL_item_0 : decode cL_item 0 = .ok (.aload_n 2, 1) := by decide +kernel
theorem dL_item_1 : decode cL_item 1 = .ok (.iconst 0, 1) := by decide +kernel
theorem dL_item_2 : decode cL_item 2 = .ok (.aload_n 0, 1) := by decide +kernel
theorem dL_item_3 : decode cL_item 3 = .ok (.iload_n 1, 1) := by decide +kernel
theorem dL_item_4 : decode cL_item 4 = .ok (.invokevirtual 17, 3) := by decide +kernel
theorem dL_item_7 : decode cL_item 7 = .ok (.i2l, 1) := by decide +kernel
theorem dL_item_8 : decode cL_item 8 = .ok (.lastore, 1) := by decide +kernel
theorem dL_item_9 : decode cL_item 9 = .ok (.goto 9, 3) := by decide +kernel
theorem dL_item_12 : decode cL_item 12 = .ok (.astore_n 3, 1) := by decide +kernel
theorem dL_item_13 : decode cL_item 13 = .ok (.iconst 1, 1) := by decide +kernel
theorem dL_item_14 : decode cL_item 14 = .ok (.ireturn, 1) := by decide +kernel
theorem dL_item_15 : decode cL_item 15 = .ok (.astore_n 3, 1) := by decide +kernel
theorem dL_item_16 : decode cL_item 16 = .ok (.iconst 2, 1) := by decide +kernel
theorem dL_item_17 : decode cL_item 17 = .ok (.ireturn, 1) := by decide +kernel
theorem dL_item_18 : decode cL_item 18 = .ok (.iconst 0, 1) := by decide +kernel
theorem dL_item_19 : decode cL_item 19 = .ok (.ireturn, 1) := by decide +kernel
set_option maxRecDepth 20000 in
theorem ggL_agree_X5_agree : GoodIn wsL_agree wsX5_agree := goodIn_ca (goodIn_r _ [6, 7, 8, 9, 5, 10, 11, 12, 13, 14, 15, 16, 17, 18, 19, 20, 21, 22, 23, 24, 25, 26, 27, 28, 29, 30, 31, 32, 33, 34, 35, 36, 37, 38, 39, 40, 41, 42, 43, 44] (by decide +kernel) (by decide +kernel)) (goodIn_sub (fun _ h => List.mem_cons_of_mem _ (List.mem_append_right _ h)) (by decide +kernel))
set_option maxRecDepth 20000 in
theorem gL_agree_X5_agree : GoodIn wsL_agree (wsV RL 20 RX5 yX5_agree wsX5_agree) := goodIn_app (goodIn_of _ (by decide +kernel)) ggL_agree_X5_agree
theorem dL_agree_0 : decode cL_agree 0 = .ok (.aload 4, 2) := by decide +kernel
theorem dL_agree_2 : decode cL_agree 2 = .ok (.iconst 0, 1) := by decide +kernel
theorem dL_agree_3 : decode cL_agree 3 = .ok (.aload_n 0, 1) := by decide +kernel
theorem dL_agree_4 : decode cL_agree 4 = .ok (.iload_n 1, 1) := by decide +kernel
theorem dL_agree_5 : decode cL_agree 5 = .ok (.iload_n 2, 1) := by decide +kernel
theorem dL_agree_6 : decode cL_agree 6 = .ok (.iload_n 3, 1) := by decide +kernel
theorem dL_agree_7 : decode cL_agree 7 = .ok (.invokevirtual 20, 3) := by decide +kernel
theorem dL_agree_10 : decode cL_agree 10 = .ok (.ifCond .eq 7, 3) := by decide +kernel
theorem dL_agree_13 : decode cL_agree 13 = .ok (.lconst 1, 1) := by decide +kernel
theorem dL_agree_14 : decode cL_agree 14 = .ok (.goto 4, 3) := by decide +kernel
theorem dL_agree_17 : decode cL_agree 17 = .ok (.lconst 0, 1) := by decide +kernel
theorem dL_agree_18 : decode cL_agree 18 = .ok (.lastore, 1) := by decide +kernel
theorem dL_agree_19 : decode cL_agree 19 = .ok (.goto 7, 3) := by decide +kernel
theorem dL_agree_22 : decode cL_agree 22 = .ok (.astore 5, 2) := by decide +kernel
theorem dL_agree_24 : decode cL_agree 24 = .ok (.iconst 1, 1) := by decide +kernel
theorem dL_agree_25 : decode cL_agree 25 = .ok (.ireturn, 1) := by decide +kernel
theorem dL_agree_26 : decode cL_agree 26 = .ok (.iconst 0, 1) := by decide +kernel
theorem dL_agree_27 : decode cL_agree 27 = .ok (.ireturn, 1) := by decide +kernel
set_option maxRecDepth 20000 in
theorem ggL_put_X5_put : GoodIn wsL_put wsX5_put := goodIn_ca (goodIn_ca (goodIn_ca (goodIn_r _ [8, 9, 10, 11, 12, 13, 14, 15, 16, 17, 18, 7, 19, 20, 21, 22, 23, 24, 25, 26, 27, 28, 29, 30, 31, 32, 33, 34, 35, 36, 37, 38, 39, 40, 41, 42, 43, 44, 45, 46, 47, 48, 49, 50, 51, 52, 53, 54, 55, 56, 57, 58, 59, 60, 61, 62, 63, 64, 65, 66, 67, 68, 69, 70, 71] (by decide +kernel) (by decide +kernel)) (goodIn_sub (fun _ h => List.mem_cons_of_mem _ (List.mem_append_left _ (List.mem_append_left _ (List.mem_append_right _ h)))) (by decide +kernel))) (goodIn_sub (fun _ h => List.mem_cons_of_mem _ (List.mem_append_left _ (List.mem_append_right _ h))) (by decide +kernel))) (goodIn_sub (fun _ h => List.mem_cons_of_mem _ (List.mem_append_right _ h)) (by decide +kernel))
set_option maxRecDepth 20000 in
theorem gL_put_X5_put : GoodIn wsL_put (wsV RL 24 RX5 yX5_put wsX5_put) := goodIn_app (goodIn_of _ (by decide +kernel)) ggL_put_X5_put
theorem dL_put_0 : decode cL_put 0 = .ok (.aload 6, 2) := by decide +kernel
theorem dL_put_2 : decode cL_put 2 = .ok (.iconst 0, 1) := by decide +kernel
theorem dL_put_3 : decode cL_put 3 = .ok (.aload_n 0, 1) := by decide +kernel
theorem dL_put_4 : decode cL_put 4 = .ok (.iload_n 1, 1) := by decide +kernel
theorem dL_put_5 : decode cL_put 5 = .ok (.iload_n 2, 1) := by decide +kernel
theorem dL_put_6 : decode cL_put 6 = .ok (.iload_n 3, 1) := by decide +kernel
theorem dL_put_7 : decode cL_put 7 = .ok (.iload 4, 2) := by decide +kernel
theorem dL_put_9 : decode cL_put 9 = .ok (.iload 5, 2) := by decide +kernel
theorem dL_put_11 : decode cL_put 11 = .ok (.invokevirtual 24, 3) := by decide +kernel
theorem dL_put_14 : decode cL_put 14 = .ok (.i2l, 1) := by decide +kernel
theorem dL_put_15 : decode cL_put 15 = .ok (.lastore, 1) := by decide +kernel
theorem dL_put_16 : decode cL_put 16 = .ok (.goto 15, 3) := by decide +kernel
theorem dL_put_19 : decode cL_put 19 = .ok (.astore 7, 2) := by decide +kernel
theorem dL_put_21 : decode cL_put 21 = .ok (.iconst 1, 1) := by decide +kernel
theorem dL_put_22 : decode cL_put 22 = .ok (.ireturn, 1) := by decide +kernel
theorem dL_put_23 : decode cL_put 23 = .ok (.astore 7, 2) := by decide +kernel
theorem dL_put_25 : decode cL_put 25 = .ok (.iconst 2, 1) := by decide +kernel
theorem dL_put_26 : decode cL_put 26 = .ok (.ireturn, 1) := by decide +kernel
theorem dL_put_27 : decode cL_put 27 = .ok (.astore 7, 2) := by decide +kernel
theorem dL_put_29 : decode cL_put 29 = .ok (.iconst 3, 1) := by decide +kernel
theorem dL_put_30 : decode cL_put 30 = .ok (.ireturn, 1) := by decide +kernel
theorem dL_put_31 : decode cL_put 31 = .ok (.iconst 0, 1) := by decide +kernel
theorem dL_put_32 : decode cL_put 32 = .ok (.ireturn, 1) := by decide +kernel
set_option maxRecDepth 20000 in
theorem ggL_send_X5_send : GoodIn wsL_send wsX5_send := goodIn_ca (goodIn_ca (goodIn_r _ [7, 8, 9, 10, 11, 12, 13, 6, 14, 15, 16, 17, 18, 19, 20, 21, 22, 23, 24, 25, 26, 27, 28, 29, 30, 31, 32, 33, 34, 35, 36, 37, 38, 39, 40, 41, 42, 43, 44, 45, 46, 47, 48, 49, 50, 51, 52, 53, 54, 55, 56, 57, 58, 59, 60, 61, 62, 63, 64, 65, 66, 67, 68, 69, 70, 71, 72, 73, 74, 75, 76, 77, 78, 79, 80, 81, 82, 83, 84, 85, 86, 87, 88, 89, 90, 91, 92, 93, 94, 95, 96, 97, 98, 99, 100, 101, 102] (by decide +kernel) (by decide +kernel)) (goodIn_sub (fun _ h => List.mem_cons_of_mem _ (List.mem_append_left _ (List.mem_append_right _ h))) (by decide +kernel))) (goodIn_sub (fun _ h => List.mem_cons_of_mem _ (List.mem_append_right _ h)) (by decide +kernel))
set_option maxRecDepth 20000 in
theorem gL_send_X5_send : GoodIn wsL_send (wsV RL 30 RX5 yX5_send wsX5_send) := goodIn_app (goodIn_of _ (by decide +kernel)) ggL_send_X5_send
theorem dL_send_0 : decode cL_send 0 = .ok (.aload_n 2, 1) := by decide +kernel
theorem dL_send_1 : decode cL_send 1 = .ok (.iconst 0, 1) := by decide +kernel
theorem dL_send_2 : decode cL_send 2 = .ok (.aload_n 0, 1) := by decide +kernel
theorem dL_send_3 : decode cL_send 3 = .ok (.iload_n 1, 1) := by decide +kernel
theorem dL_send_4 : decode cL_send 4 = .ok (.invokevirtual 30, 3) := by decide +kernel
theorem dL_send_7 : decode cL_send 7 = .ok (.i2l, 1) := by decide +kernel
theorem dL_send_8 : decode cL_send 8 = .ok (.lastore, 1) := by decide +kernel
theorem dL_send_9 : decode cL_send 9 = .ok (.goto 9, 3) := by decide +kernel
theorem dL_send_12 : decode cL_send 12 = .ok (.astore_n 3, 1) := by decide +kernel
theorem dL_send_13 : decode cL_send 13 = .ok (.iconst 1, 1) := by decide +kernel
theorem dL_send_14 : decode cL_send 14 = .ok (.ireturn, 1) := by decide +kernel
theorem dL_send_15 : decode cL_send 15 = .ok (.astore_n 3, 1) := by decide +kernel
theorem dL_send_16 : decode cL_send 16 = .ok (.iconst 2, 1) := by decide +kernel
theorem dL_send_17 : decode cL_send 17 = .ok (.ireturn, 1) := by decide +kernel
theorem dL_send_18 : decode cL_send 18 = .ok (.iconst 0, 1) := by decide +kernel
theorem dL_send_19 : decode cL_send 19 = .ok (.ireturn, 1) := by decide +kernel
set_option maxRecDepth 20000 in
theorem ggL_refusal_X5_refusal : GoodIn wsL_refusal wsX5_refusal := goodIn_ca (goodIn_r _ [6, 7, 8, 9, 10, 11, 12, 13, 14, 15, 16, 17, 18, 19, 20, 21] (by decide +kernel) (by decide +kernel)) (goodIn_sub (fun _ h => List.mem_cons_of_mem _ (List.mem_append_right _ h)) (by decide +kernel))
set_option maxRecDepth 20000 in
theorem gL_refusal_X5_refusal : GoodIn wsL_refusal (wsV RL 33 RX5 yX5_refusal wsX5_refusal) := goodIn_app (goodIn_of _ (by decide +kernel)) ggL_refusal_X5_refusal
theorem dL_refusal_0 : decode cL_refusal 0 = .ok (.aload_n 2, 1) := by decide +kernel
theorem dL_refusal_1 : decode cL_refusal 1 = .ok (.iconst 0, 1) := by decide +kernel
theorem dL_refusal_2 : decode cL_refusal 2 = .ok (.aload_n 0, 1) := by decide +kernel
theorem dL_refusal_3 : decode cL_refusal 3 = .ok (.iload_n 1, 1) := by decide +kernel
theorem dL_refusal_4 : decode cL_refusal 4 = .ok (.invokevirtual 33, 3) := by decide +kernel
theorem dL_refusal_7 : decode cL_refusal 7 = .ok (.i2l, 1) := by decide +kernel
theorem dL_refusal_8 : decode cL_refusal 8 = .ok (.lastore, 1) := by decide +kernel
theorem dL_refusal_9 : decode cL_refusal 9 = .ok (.goto 6, 3) := by decide +kernel
theorem dL_refusal_12 : decode cL_refusal 12 = .ok (.astore_n 3, 1) := by decide +kernel
theorem dL_refusal_13 : decode cL_refusal 13 = .ok (.iconst 1, 1) := by decide +kernel
theorem dL_refusal_14 : decode cL_refusal 14 = .ok (.ireturn, 1) := by decide +kernel
theorem dL_refusal_15 : decode cL_refusal 15 = .ok (.iconst 0, 1) := by decide +kernel
theorem dL_refusal_16 : decode cL_refusal 16 = .ok (.ireturn, 1) := by decide +kernel
set_option maxRecDepth 20000 in
theorem ggL_secret_X5_secret : GoodIn wsL_secret wsX5_secret := goodIn_ca (goodIn_r _ [6, 7, 8, 9, 10, 11, 5, 12, 13, 14, 15, 16, 17, 18, 19, 20, 21, 22, 23, 24, 25, 26, 27, 28, 29, 30, 31, 32, 33, 34, 35, 36, 37, 38, 39, 40, 41, 42, 43, 44, 45, 46, 47, 48, 49, 50, 51, 52, 53, 54, 55, 56, 57, 58, 59, 60, 61, 62, 63, 64, 65, 66, 67, 68, 69, 70, 71, 72, 73, 74, 75, 76, 77, 78, 79, 80, 81, 82, 83, 84, 85, 86, 87, 88, 89, 90, 91, 92, 93, 94, 95, 96, 97, 98, 99, 100, 101, 102, 103, 104, 105, 106, 107, 108, 109, 110, 111, 112, 113, 114, 115, 116, 117, 118, 119, 120, 121, 122, 123, 124, 125] (by decide +kernel) (by decide +kernel)) (goodIn_sub (fun _ h => List.mem_cons_of_mem _ (List.mem_append_right _ h)) (by decide +kernel))
set_option maxRecDepth 20000 in
theorem gL_secret_X5_secret : GoodIn wsL_secret (wsV RL 36 RX5 yX5_secret wsX5_secret) := goodIn_app (goodIn_of _ (by decide +kernel)) ggL_secret_X5_secret
theorem dL_secret_0 : decode cL_secret 0 = .ok (.aload 5, 2) := by decide +kernel
theorem dL_secret_2 : decode cL_secret 2 = .ok (.iconst 0, 1) := by decide +kernel
theorem dL_secret_3 : decode cL_secret 3 = .ok (.aload_n 0, 1) := by decide +kernel
theorem dL_secret_4 : decode cL_secret 4 = .ok (.iload_n 1, 1) := by decide +kernel
theorem dL_secret_5 : decode cL_secret 5 = .ok (.iload_n 2, 1) := by decide +kernel
theorem dL_secret_6 : decode cL_secret 6 = .ok (.iload_n 3, 1) := by decide +kernel
theorem dL_secret_7 : decode cL_secret 7 = .ok (.iload 4, 2) := by decide +kernel
theorem dL_secret_9 : decode cL_secret 9 = .ok (.invokevirtual 36, 3) := by decide +kernel
theorem dL_secret_12 : decode cL_secret 12 = .ok (.i2l, 1) := by decide +kernel
theorem dL_secret_13 : decode cL_secret 13 = .ok (.lastore, 1) := by decide +kernel
theorem dL_secret_14 : decode cL_secret 14 = .ok (.goto 7, 3) := by decide +kernel
theorem dL_secret_17 : decode cL_secret 17 = .ok (.astore 6, 2) := by decide +kernel
theorem dL_secret_19 : decode cL_secret 19 = .ok (.iconst 1, 1) := by decide +kernel
theorem dL_secret_20 : decode cL_secret 20 = .ok (.ireturn, 1) := by decide +kernel
theorem dL_secret_21 : decode cL_secret 21 = .ok (.iconst 0, 1) := by decide +kernel
theorem dL_secret_22 : decode cL_secret 22 = .ok (.ireturn, 1) := by decide +kernel
set_option maxRecDepth 20000 in
theorem ggL_pass_X5_pass : GoodIn wsL_pass wsX5_pass := goodIn_ca (goodIn_ca (goodIn_r _ [7, 8, 9, 10, 11, 12, 13, 14, 15, 16, 17, 18, 19, 20, 21, 22, 23] (by decide +kernel) (by decide +kernel)) (goodIn_sub (fun _ h => List.mem_cons_of_mem _ (List.mem_append_left _ (List.mem_append_right _ h))) (by decide +kernel))) (goodIn_sub (fun _ h => List.mem_cons_of_mem _ (List.mem_append_right _ h)) (by decide +kernel))
set_option maxRecDepth 20000 in
theorem gL_pass_X5_pass : GoodIn wsL_pass (wsV RL 40 RX5 yX5_pass wsX5_pass) := goodIn_app (goodIn_of _ (by decide +kernel)) ggL_pass_X5_pass
theorem dL_pass_0 : decode cL_pass 0 = .ok (.aload_n 2, 1) := by decide +kernel
theorem dL_pass_1 : decode cL_pass 1 = .ok (.iconst 0, 1) := by decide +kernel
theorem dL_pass_2 : decode cL_pass 2 = .ok (.aload_n 0, 1) := by decide +kernel
theorem dL_pass_3 : decode cL_pass 3 = .ok (.iload_n 1, 1) := by decide +kernel
theorem dL_pass_4 : decode cL_pass 4 = .ok (.invokevirtual 40, 3) := by decide +kernel
theorem dL_pass_7 : decode cL_pass 7 = .ok (.i2l, 1) := by decide +kernel
theorem dL_pass_8 : decode cL_pass 8 = .ok (.lastore, 1) := by decide +kernel
theorem dL_pass_9 : decode cL_pass 9 = .ok (.goto 9, 3) := by decide +kernel
theorem dL_pass_12 : decode cL_pass 12 = .ok (.astore_n 3, 1) := by decide +kernel
theorem dL_pass_13 : decode cL_pass 13 = .ok (.iconst 1, 1) := by decide +kernel
theorem dL_pass_14 : decode cL_pass 14 = .ok (.ireturn, 1) := by decide +kernel
theorem dL_pass_15 : decode cL_pass 15 = .ok (.astore_n 3, 1) := by decide +kernel
theorem dL_pass_16 : decode cL_pass 16 = .ok (.iconst 2, 1) := by decide +kernel
theorem dL_pass_17 : decode cL_pass 17 = .ok (.ireturn, 1) := by decide +kernel
theorem dL_pass_18 : decode cL_pass 18 = .ok (.iconst 0, 1) := by decide +kernel
theorem dL_pass_19 : decode cL_pass 19 = .ok (.ireturn, 1) := by decide +kernel
set_option maxRecDepth 20000 in
theorem ggL_figure_X5_figure : GoodIn wsL_figure wsX5_figure := goodIn_ca (goodIn_ca (goodIn_r _ [7, 8, 9, 10, 11, 6, 12, 13, 14, 15, 16, 17, 18, 19, 20, 21, 22, 23, 24, 25, 26, 27, 28, 29, 30, 31, 32, 33, 34, 35, 36, 37, 38, 39, 40, 41, 42, 43, 44, 45, 46, 47, 48, 49, 50, 51, 52, 53, 54, 55, 56, 57, 58, 59, 60, 61, 62, 63, 64, 65, 66, 67, 68, 69, 70] (by decide +kernel) (by decide +kernel)) (goodIn_sub (fun _ h => List.mem_cons_of_mem _ (List.mem_append_left _ (List.mem_append_right _ h))) (by decide +kernel))) (goodIn_sub (fun _ h => List.mem_cons_of_mem _ (List.mem_append_right _ h)) (by decide +kernel))
set_option maxRecDepth 20000 in
theorem gL_figure_X5_figure : GoodIn wsL_figure (wsV RL 43 RX5 yX5_figure wsX5_figure) := goodIn_app (goodIn_of _ (by decide +kernel)) ggL_figure_X5_figure
theorem dL_figure_0 : decode cL_figure 0 = .ok (.aload 5, 2) := by decide +kernel
theorem dL_figure_2 : decode cL_figure 2 = .ok (.iconst 0, 1) := by decide +kernel
theorem dL_figure_3 : decode cL_figure 3 = .ok (.aload_n 0, 1) := by decide +kernel
theorem dL_figure_4 : decode cL_figure 4 = .ok (.iload_n 1, 1) := by decide +kernel
theorem dL_figure_5 : decode cL_figure 5 = .ok (.iload_n 2, 1) := by decide +kernel
theorem dL_figure_6 : decode cL_figure 6 = .ok (.iload_n 3, 1) := by decide +kernel
theorem dL_figure_7 : decode cL_figure 7 = .ok (.iload 4, 2) := by decide +kernel
theorem dL_figure_9 : decode cL_figure 9 = .ok (.invokevirtual 43, 3) := by decide +kernel
theorem dL_figure_12 : decode cL_figure 12 = .ok (.i2l, 1) := by decide +kernel
theorem dL_figure_13 : decode cL_figure 13 = .ok (.lastore, 1) := by decide +kernel
theorem dL_figure_14 : decode cL_figure 14 = .ok (.goto 11, 3) := by decide +kernel
theorem dL_figure_17 : decode cL_figure 17 = .ok (.astore 6, 2) := by decide +kernel
theorem dL_figure_19 : decode cL_figure 19 = .ok (.iconst 1, 1) := by decide +kernel
theorem dL_figure_20 : decode cL_figure 20 = .ok (.ireturn, 1) := by decide +kernel
theorem dL_figure_21 : decode cL_figure 21 = .ok (.astore 6, 2) := by decide +kernel
theorem dL_figure_23 : decode cL_figure 23 = .ok (.iconst 2, 1) := by decide +kernel
theorem dL_figure_24 : decode cL_figure 24 = .ok (.ireturn, 1) := by decide +kernel
theorem dL_figure_25 : decode cL_figure 25 = .ok (.iconst 0, 1) := by decide +kernel
theorem dL_figure_26 : decode cL_figure 26 = .ok (.ireturn, 1) := by decide +kernel
set_option maxRecDepth 20000 in
theorem ggL_value_X5_value : GoodIn wsL_value wsX5_value := goodIn_ca (goodIn_ca (goodIn_r _ [7, 8, 9, 10, 11, 12, 13, 14, 6, 15, 16, 17, 18, 19, 20, 21, 22, 23, 24, 25, 26, 27, 28, 29, 30, 31, 32, 33, 34, 35, 36, 37, 38, 39, 40, 41, 42, 43, 44, 45, 46, 47, 48, 49, 50, 51, 52, 53, 54, 55, 56, 57, 58, 59, 60, 61, 62, 63, 64, 65, 66, 67, 68, 69, 70, 71, 72, 73, 74, 75, 76, 77, 78, 79, 80, 81, 82, 83, 84, 85, 86, 87, 88, 89, 90, 91, 92, 93, 94, 95] (by decide +kernel) (by decide +kernel)) (goodIn_sub (fun _ h => List.mem_cons_of_mem _ (List.mem_append_left _ (List.mem_append_right _ h))) (by decide +kernel))) (goodIn_sub (fun _ h => List.mem_cons_of_mem _ (List.mem_append_right _ h)) (by decide +kernel))
set_option maxRecDepth 20000 in
theorem gL_value_X5_value : GoodIn wsL_value (wsV RL 47 RX5 yX5_value wsX5_value) := goodIn_app (goodIn_of _ (by decide +kernel)) ggL_value_X5_value
theorem dL_value_0 : decode cL_value 0 = .ok (.aload 5, 2) := by decide +kernel
theorem dL_value_2 : decode cL_value 2 = .ok (.iconst 0, 1) := by decide +kernel
theorem dL_value_3 : decode cL_value 3 = .ok (.aload_n 0, 1) := by decide +kernel
theorem dL_value_4 : decode cL_value 4 = .ok (.iload_n 1, 1) := by decide +kernel
theorem dL_value_5 : decode cL_value 5 = .ok (.iload_n 2, 1) := by decide +kernel
theorem dL_value_6 : decode cL_value 6 = .ok (.iload_n 3, 1) := by decide +kernel
theorem dL_value_7 : decode cL_value 7 = .ok (.iload 4, 2) := by decide +kernel
theorem dL_value_9 : decode cL_value 9 = .ok (.invokevirtual 47, 3) := by decide +kernel
theorem dL_value_12 : decode cL_value 12 = .ok (.i2l, 1) := by decide +kernel
theorem dL_value_13 : decode cL_value 13 = .ok (.lastore, 1) := by decide +kernel
theorem dL_value_14 : decode cL_value 14 = .ok (.goto 11, 3) := by decide +kernel
theorem dL_value_17 : decode cL_value 17 = .ok (.astore 6, 2) := by decide +kernel
theorem dL_value_19 : decode cL_value 19 = .ok (.iconst 1, 1) := by decide +kernel
theorem dL_value_20 : decode cL_value 20 = .ok (.ireturn, 1) := by decide +kernel
theorem dL_value_21 : decode cL_value 21 = .ok (.astore 6, 2) := by decide +kernel
theorem dL_value_23 : decode cL_value 23 = .ok (.iconst 2, 1) := by decide +kernel
theorem dL_value_24 : decode cL_value 24 = .ok (.ireturn, 1) := by decide +kernel
theorem dL_value_25 : decode cL_value 25 = .ok (.iconst 0, 1) := by decide +kernel
theorem dL_value_26 : decode cL_value 26 = .ok (.ireturn, 1) := by decide +kernel
set_option maxRecDepth 20000 in
theorem ggL_first_X5_first : GoodIn wsL_first wsX5_first := goodIn_ca (goodIn_r _ [6, 7, 8, 9, 10, 5, 11, 12, 13, 14, 15, 16, 17, 18, 19, 20, 21, 22, 23, 24, 25, 26, 27, 28, 29, 30, 31, 32, 33, 34, 35, 36, 37, 38, 39, 40, 41, 42, 43, 44, 45, 46, 47, 48, 49, 50, 51, 52] (by decide +kernel) (by decide +kernel)) (goodIn_sub (fun _ h => List.mem_cons_of_mem _ (List.mem_append_right _ h)) (by decide +kernel))
set_option maxRecDepth 20000 in
theorem gL_first_X5_first : GoodIn wsL_first (wsV RL 50 RX5 yX5_first wsX5_first) := goodIn_app (goodIn_of _ (by decide +kernel)) ggL_first_X5_first
theorem dL_first_0 : decode cL_first 0 = .ok (.aload 4, 2) := by decide +kernel
theorem dL_first_2 : decode cL_first 2 = .ok (.iconst 0, 1) := by decide +kernel
theorem dL_first_3 : decode cL_first 3 = .ok (.aload_n 0, 1) := by decide +kernel
theorem dL_first_4 : decode cL_first 4 = .ok (.iload_n 1, 1) := by decide +kernel
theorem dL_first_5 : decode cL_first 5 = .ok (.iload_n 2, 1) := by decide +kernel
theorem dL_first_6 : decode cL_first 6 = .ok (.iload_n 3, 1) := by decide +kernel
theorem dL_first_7 : decode cL_first 7 = .ok (.invokevirtual 50, 3) := by decide +kernel
theorem dL_first_10 : decode cL_first 10 = .ok (.i2l, 1) := by decide +kernel
theorem dL_first_11 : decode cL_first 11 = .ok (.lastore, 1) := by decide +kernel
theorem dL_first_12 : decode cL_first 12 = .ok (.goto 7, 3) := by decide +kernel
theorem dL_first_15 : decode cL_first 15 = .ok (.astore 5, 2) := by decide +kernel
theorem dL_first_17 : decode cL_first 17 = .ok (.iconst 1, 1) := by decide +kernel
theorem dL_first_18 : decode cL_first 18 = .ok (.ireturn, 1) := by decide +kernel
theorem dL_first_19 : decode cL_first 19 = .ok (.iconst 0, 1) := by decide +kernel
theorem dL_first_20 : decode cL_first 20 = .ok (.ireturn, 1) := by decide +kernel
set_option maxRecDepth 20000 in
theorem ggL_revisions_X5_revisions : GoodIn wsL_revisions wsX5_revisions := goodIn_ca (goodIn_r _ [6, 7, 8, 9, 10, 5, 11, 12, 13, 14, 15, 16, 17, 18, 19, 20, 21, 22, 23, 24, 25, 26, 27, 28, 29, 30, 31, 32, 33, 34, 35, 36, 37, 38, 39, 40, 41, 42, 43, 44, 45, 46, 47, 48, 49, 50, 51, 52] (by decide +kernel) (by decide +kernel)) (goodIn_sub (fun _ h => List.mem_cons_of_mem _ (List.mem_append_right _ h)) (by decide +kernel))
set_option maxRecDepth 20000 in
theorem gL_revisions_X5_revisions : GoodIn wsL_revisions (wsV RL 54 RX5 yX5_revisions wsX5_revisions) := goodIn_app (goodIn_of _ (by decide +kernel)) ggL_revisions_X5_revisions
theorem dL_revisions_0 : decode cL_revisions 0 = .ok (.aload 4, 2) := by decide +kernel
theorem dL_revisions_2 : decode cL_revisions 2 = .ok (.iconst 0, 1) := by decide +kernel
theorem dL_revisions_3 : decode cL_revisions 3 = .ok (.aload_n 0, 1) := by decide +kernel
theorem dL_revisions_4 : decode cL_revisions 4 = .ok (.iload_n 1, 1) := by decide +kernel
theorem dL_revisions_5 : decode cL_revisions 5 = .ok (.iload_n 2, 1) := by decide +kernel
theorem dL_revisions_6 : decode cL_revisions 6 = .ok (.iload_n 3, 1) := by decide +kernel
theorem dL_revisions_7 : decode cL_revisions 7 = .ok (.invokevirtual 54, 3) := by decide +kernel
theorem dL_revisions_10 : decode cL_revisions 10 = .ok (.i2l, 1) := by decide +kernel
theorem dL_revisions_11 : decode cL_revisions 11 = .ok (.lastore, 1) := by decide +kernel
theorem dL_revisions_12 : decode cL_revisions 12 = .ok (.goto 7, 3) := by decide +kernel
theorem dL_revisions_15 : decode cL_revisions 15 = .ok (.astore 5, 2) := by decide +kernel
theorem dL_revisions_17 : decode cL_revisions 17 = .ok (.iconst 1, 1) := by decide +kernel
theorem dL_revisions_18 : decode cL_revisions 18 = .ok (.ireturn, 1) := by decide +kernel
theorem dL_revisions_19 : decode cL_revisions 19 = .ok (.iconst 0, 1) := by decide +kernel
theorem dL_revisions_20 : decode cL_revisions 20 = .ok (.ireturn, 1) := by decide +kernel
set_option maxRecDepth 20000 in
theorem ggL_hasFault_X5_hasFault : GoodIn wsL_hasFault wsX5_hasFault := goodIn_ca (goodIn_r _ [6, 7, 8, 9, 10, 11, 12, 13, 14, 15, 5, 16, 17, 18, 19, 20, 21, 22, 23, 24, 25, 26, 27, 28, 29, 30, 31, 32, 33, 34, 35, 36, 37, 38, 39, 40, 41, 42, 43, 44, 45, 46, 47, 48, 49, 50, 51, 52, 53, 54, 55, 56, 57, 58, 59, 60, 61, 62, 63, 64, 65, 66, 67, 68, 69, 70, 71, 72, 73, 74, 75, 76, 77, 78, 79, 80, 81, 82, 83, 84, 85, 86, 87, 88, 89, 90, 91, 92] (by decide +kernel) (by decide +kernel)) (goodIn_sub (fun _ h => List.mem_cons_of_mem _ (List.mem_append_right _ h)) (by decide +kernel))
set_option maxRecDepth 20000 in
theorem gL_hasFault_X5_hasFault : GoodIn wsL_hasFault (wsV RL 57 RX5 yX5_hasFault wsX5_hasFault) := goodIn_app (goodIn_of _ (by decide +kernel)) ggL_hasFault_X5_hasFault
theorem dL_hasFault_0 : decode cL_hasFault 0 = .ok (.aload 4, 2) := by decide +kernel
theorem dL_hasFault_2 : decode cL_hasFault 2 = .ok (.iconst 0, 1) := by decide +kernel
theorem dL_hasFault_3 : decode cL_hasFault 3 = .ok (.aload_n 0, 1) := by decide +kernel
theorem dL_hasFault_4 : decode cL_hasFault 4 = .ok (.iload_n 1, 1) := by decide +kernel
theorem dL_hasFault_5 : decode cL_hasFault 5 = .ok (.iload_n 2, 1) := by decide +kernel
theorem dL_hasFault_6 : decode cL_hasFault 6 = .ok (.iload_n 3, 1) := by decide +kernel
theorem dL_hasFault_7 : decode cL_hasFault 7 = .ok (.invokevirtual 57, 3) := by decide +kernel
theorem dL_hasFault_10 : decode cL_hasFault 10 = .ok (.ifCond .eq 7, 3) := by decide +kernel
theorem dL_hasFault_13 : decode cL_hasFault 13 = .ok (.lconst 1, 1) := by decide +kernel
theorem dL_hasFault_14 : decode cL_hasFault 14 = .ok (.goto 4, 3) := by decide +kernel
theorem dL_hasFault_17 : decode cL_hasFault 17 = .ok (.lconst 0, 1) := by decide +kernel
theorem dL_hasFault_18 : decode cL_hasFault 18 = .ok (.lastore, 1) := by decide +kernel
theorem dL_hasFault_19 : decode cL_hasFault 19 = .ok (.goto 7, 3) := by decide +kernel
theorem dL_hasFault_22 : decode cL_hasFault 22 = .ok (.astore 5, 2) := by decide +kernel
theorem dL_hasFault_24 : decode cL_hasFault 24 = .ok (.iconst 1, 1) := by decide +kernel
theorem dL_hasFault_25 : decode cL_hasFault 25 = .ok (.ireturn, 1) := by decide +kernel
theorem dL_hasFault_26 : decode cL_hasFault 26 = .ok (.iconst 0, 1) := by decide +kernel
theorem dL_hasFault_27 : decode cL_hasFault 27 = .ok (.ireturn, 1) := by decide +kernel
set_option maxRecDepth 20000 in
theorem ggL_shown_X5_shown : GoodIn wsL_shown wsX5_shown := goodIn_ca (goodIn_r _ [6, 7, 8, 9, 10, 11, 5, 12, 13, 14, 15, 16, 17, 18, 19, 20, 21, 22, 23, 24, 25, 26, 27, 28, 29, 30, 31, 32, 33, 34, 35, 36, 37, 38, 39, 40, 41, 42, 43, 44, 45, 46, 47, 48, 49, 50, 51, 52, 53, 54, 55, 56, 57, 58, 59, 60, 61, 62, 63, 64, 65, 66, 67, 68, 69, 70, 71, 72, 73, 74, 75, 76, 77, 78, 79, 80, 81, 82, 83, 84, 85, 86, 87, 88, 89, 90, 91, 92, 93, 94, 95, 96, 97, 98, 99, 100, 101, 102, 103, 104, 105, 106, 107, 108, 109, 110, 111, 112, 113, 114, 115, 116, 117, 118, 119, 120, 121, 122, 123, 124] (by decide +kernel) (by decide +kernel)) (goodIn_sub (fun _ h => List.mem_cons_of_mem _ (List.mem_append_right _ h)) (by decide +kernel))
set_option maxRecDepth 20000 in
theorem gL_shown_X5_shown : GoodIn wsL_shown (wsV RL 61 RX5 yX5_shown wsX5_shown) := goodIn_app (goodIn_of _ (by decide +kernel)) ggL_shown_X5_shown
theorem dL_shown_0 : decode cL_shown 0 = .ok (.aload 4, 2) := by decide +kernel
theorem dL_shown_2 : decode cL_shown 2 = .ok (.iconst 0, 1) := by decide +kernel
theorem dL_shown_3 : decode cL_shown 3 = .ok (.aload_n 0, 1) := by decide +kernel
theorem dL_shown_4 : decode cL_shown 4 = .ok (.iload_n 1, 1) := by decide +kernel
theorem dL_shown_5 : decode cL_shown 5 = .ok (.iload_n 2, 1) := by decide +kernel
theorem dL_shown_6 : decode cL_shown 6 = .ok (.iload_n 3, 1) := by decide +kernel
theorem dL_shown_7 : decode cL_shown 7 = .ok (.invokevirtual 61, 3) := by decide +kernel
theorem dL_shown_10 : decode cL_shown 10 = .ok (.i2l, 1) := by decide +kernel
theorem dL_shown_11 : decode cL_shown 11 = .ok (.lastore, 1) := by decide +kernel
theorem dL_shown_12 : decode cL_shown 12 = .ok (.goto 7, 3) := by decide +kernel
theorem dL_shown_15 : decode cL_shown 15 = .ok (.astore 5, 2) := by decide +kernel
theorem dL_shown_17 : decode cL_shown 17 = .ok (.iconst 1, 1) := by decide +kernel
theorem dL_shown_18 : decode cL_shown 18 = .ok (.ireturn, 1) := by decide +kernel
theorem dL_shown_19 : decode cL_shown 19 = .ok (.iconst 0, 1) := by decide +kernel
theorem dL_shown_20 : decode cL_shown 20 = .ok (.ireturn, 1) := by decide +kernel
set_option maxRecDepth 20000 in
theorem ggL_hidden_X5_hidden : GoodIn wsL_hidden wsX5_hidden := goodIn_ca (goodIn_r _ [6, 7, 8, 9, 10, 11, 5, 12, 13, 14, 15, 16, 17, 18, 19, 20, 21, 22, 23, 24, 25, 26, 27, 28, 29, 30, 31, 32, 33, 34, 35, 36, 37, 38, 39, 40, 41, 42, 43, 44, 45, 46, 47, 48, 49, 50, 51, 52, 53, 54, 55, 56, 57, 58, 59, 60, 61, 62, 63, 64, 65, 66, 67, 68, 69, 70, 71, 72, 73, 74, 75, 76, 77, 78, 79, 80, 81, 82, 83, 84, 85, 86, 87, 88, 89, 90, 91, 92, 93, 94, 95, 96, 97, 98, 99, 100, 101, 102, 103, 104, 105, 106, 107, 108, 109, 110, 111, 112, 113] (by decide +kernel) (by decide +kernel)) (goodIn_sub (fun _ h => List.mem_cons_of_mem _ (List.mem_append_right _ h)) (by decide +kernel))
set_option maxRecDepth 20000 in
theorem gL_hidden_X5_hidden : GoodIn wsL_hidden (wsV RL 64 RX5 yX5_hidden wsX5_hidden) := goodIn_app (goodIn_of _ (by decide +kernel)) ggL_hidden_X5_hidden
theorem dL_hidden_0 : decode cL_hidden 0 = .ok (.aload_n 2, 1) := by decide +kernel
theorem dL_hidden_1 : decode cL_hidden 1 = .ok (.iconst 0, 1) := by decide +kernel
theorem dL_hidden_2 : decode cL_hidden 2 = .ok (.aload_n 0, 1) := by decide +kernel
theorem dL_hidden_3 : decode cL_hidden 3 = .ok (.iload_n 1, 1) := by decide +kernel
theorem dL_hidden_4 : decode cL_hidden 4 = .ok (.invokevirtual 64, 3) := by decide +kernel
theorem dL_hidden_7 : decode cL_hidden 7 = .ok (.i2l, 1) := by decide +kernel
theorem dL_hidden_8 : decode cL_hidden 8 = .ok (.lastore, 1) := by decide +kernel
theorem dL_hidden_9 : decode cL_hidden 9 = .ok (.goto 6, 3) := by decide +kernel
theorem dL_hidden_12 : decode cL_hidden 12 = .ok (.astore_n 3, 1) := by decide +kernel
theorem dL_hidden_13 : decode cL_hidden 13 = .ok (.iconst 1, 1) := by decide +kernel
theorem dL_hidden_14 : decode cL_hidden 14 = .ok (.ireturn, 1) := by decide +kernel
theorem dL_hidden_15 : decode cL_hidden 15 = .ok (.iconst 0, 1) := by decide +kernel
theorem dL_hidden_16 : decode cL_hidden 16 = .ok (.ireturn, 1) := by decide +kernel
set_option maxRecDepth 20000 in
theorem ggL_find_X5_find : GoodIn wsL_find wsX5_find := goodIn_ca (goodIn_ca (goodIn_r _ [7, 8, 9, 10, 11, 12, 13, 14, 15, 6, 16, 17, 18, 19, 20, 21, 22, 23, 24, 25, 26, 27, 28, 29, 30, 31, 32, 33, 34, 35, 36, 37, 38, 39, 40, 41, 42, 43, 44, 45, 46, 47, 48, 49, 50, 51, 52, 53, 54, 55, 56, 57, 58, 59, 60, 61, 62, 63, 64, 65, 66, 67, 68, 69, 70, 71, 72] (by decide +kernel) (by decide +kernel)) (goodIn_sub (fun _ h => List.mem_cons_of_mem _ (List.mem_append_left _ (List.mem_append_right _ h))) (by decide +kernel))) (goodIn_sub (fun _ h => List.mem_cons_of_mem _ (List.mem_append_right _ h)) (by decide +kernel))
set_option maxRecDepth 20000 in
theorem gL_find_X5_find : GoodIn wsL_find (wsV RL 67 RX5 yX5_find wsX5_find) := goodIn_app (goodIn_of _ (by decide +kernel)) ggL_find_X5_find
theorem dL_find_0 : decode cL_find 0 = .ok (.aload 7, 2) := by decide +kernel
theorem dL_find_2 : decode cL_find 2 = .ok (.iconst 0, 1) := by decide +kernel
theorem dL_find_3 : decode cL_find 3 = .ok (.aload_n 0, 1) := by decide +kernel
theorem dL_find_4 : decode cL_find 4 = .ok (.iload_n 1, 1) := by decide +kernel
theorem dL_find_5 : decode cL_find 5 = .ok (.iload_n 2, 1) := by decide +kernel
theorem dL_find_6 : decode cL_find 6 = .ok (.iload_n 3, 1) := by decide +kernel
theorem dL_find_7 : decode cL_find 7 = .ok (.iload 4, 2) := by decide +kernel
theorem dL_find_9 : decode cL_find 9 = .ok (.iload 5, 2) := by decide +kernel
theorem dL_find_11 : decode cL_find 11 = .ok (.iload 6, 2) := by decide +kernel
theorem dL_find_13 : decode cL_find 13 = .ok (.invokevirtual 67, 3) := by decide +kernel
theorem dL_find_16 : decode cL_find 16 = .ok (.i2l, 1) := by decide +kernel
theorem dL_find_17 : decode cL_find 17 = .ok (.lastore, 1) := by decide +kernel
theorem dL_find_18 : decode cL_find 18 = .ok (.goto 11, 3) := by decide +kernel
theorem dL_find_21 : decode cL_find 21 = .ok (.astore 8, 2) := by decide +kernel
theorem dL_find_23 : decode cL_find 23 = .ok (.iconst 1, 1) := by decide +kernel
theorem dL_find_24 : decode cL_find 24 = .ok (.ireturn, 1) := by decide +kernel
theorem dL_find_25 : decode cL_find 25 = .ok (.astore 8, 2) := by decide +kernel
theorem dL_find_27 : decode cL_find 27 = .ok (.iconst 2, 1) := by decide +kernel
theorem dL_find_28 : decode cL_find 28 = .ok (.ireturn, 1) := by decide +kernel
theorem dL_find_29 : decode cL_find 29 = .ok (.iconst 0, 1) := by decide +kernel
theorem dL_find_30 : decode cL_find 30 = .ok (.ireturn, 1) := by decide +kernel
set_option maxRecDepth 20000 in
theorem ggL_mayTell_X5_mayTell : GoodIn wsL_mayTell wsX5_mayTell := goodIn_ca (goodIn_r _ [6, 7, 8, 9, 10, 5, 11, 12, 13, 14, 15, 16, 17, 18, 19, 20, 21, 22, 23, 24, 25, 26, 27, 28, 29, 30, 31, 32, 33, 34, 35, 36, 37, 38, 39, 40, 41, 42, 43, 44, 45, 46, 47, 48, 49, 50] (by decide +kernel) (by decide +kernel)) (goodIn_sub (fun _ h => List.mem_cons_of_mem _ (List.mem_append_right _ h)) (by decide +kernel))
set_option maxRecDepth 20000 in
theorem gL_mayTell_X5_mayTell : GoodIn wsL_mayTell (wsV RL 71 RX5 yX5_mayTell wsX5_mayTell) := goodIn_app (goodIn_of _ (by decide +kernel)) ggL_mayTell_X5_mayTell
theorem dL_mayTell_0 : decode cL_mayTell 0 = .ok (.aload_n 3, 1) := by decide +kernel
theorem dL_mayTell_1 : decode cL_mayTell 1 = .ok (.iconst 0, 1) := by decide +kernel
theorem dL_mayTell_2 : decode cL_mayTell 2 = .ok (.aload_n 0, 1) := by decide +kernel
theorem dL_mayTell_3 : decode cL_mayTell 3 = .ok (.iload_n 1, 1) := by decide +kernel
theorem dL_mayTell_4 : decode cL_mayTell 4 = .ok (.iload_n 2, 1) := by decide +kernel
theorem dL_mayTell_5 : decode cL_mayTell 5 = .ok (.invokevirtual 71, 3) := by decide +kernel
theorem dL_mayTell_8 : decode cL_mayTell 8 = .ok (.ifCond .eq 7, 3) := by decide +kernel
theorem dL_mayTell_11 : decode cL_mayTell 11 = .ok (.lconst 1, 1) := by decide +kernel
theorem dL_mayTell_12 : decode cL_mayTell 12 = .ok (.goto 4, 3) := by decide +kernel
theorem dL_mayTell_15 : decode cL_mayTell 15 = .ok (.lconst 0, 1) := by decide +kernel
theorem dL_mayTell_16 : decode cL_mayTell 16 = .ok (.lastore, 1) := by decide +kernel
theorem dL_mayTell_17 : decode cL_mayTell 17 = .ok (.goto 7, 3) := by decide +kernel
theorem dL_mayTell_20 : decode cL_mayTell 20 = .ok (.astore 4, 2) := by decide +kernel
theorem dL_mayTell_22 : decode cL_mayTell 22 = .ok (.iconst 1, 1) := by decide +kernel
theorem dL_mayTell_23 : decode cL_mayTell 23 = .ok (.ireturn, 1) := by decide +kernel
theorem dL_mayTell_24 : decode cL_mayTell 24 = .ok (.iconst 0, 1) := by decide +kernel
theorem dL_mayTell_25 : decode cL_mayTell 25 = .ok (.ireturn, 1) := by decide +kernel
set_option maxRecDepth 20000 in
theorem ggL_law_X5_init : GoodIn wsL_law wsX5_init := goodIn_r _ [9, 10, 11, 12, 13, 14, 15, 16, 17, 18, 19, 20, 21, 22, 23, 24, 25, 26, 27, 28, 29, 30, 31, 32, 33, 34, 35, 36, 37, 38, 39, 40, 41, 42, 43, 44, 45, 46, 47, 48, 49, 50, 51, 52, 53, 54, 55, 56, 57, 58, 59, 60, 61, 62, 63, 64, 65, 66, 67, 68, 69, 70, 71, 72, 73, 74, 75, 584, 585, 586, 552, 553, 554, 555, 556, 557, 558, 559, 560, 561, 562, 587, 588, 589, 590, 591, 592, 593, 594, 595, 596, 597, 598, 599, 600, 601, 602] (by decide +kernel) (by decide +kernel)
set_option maxRecDepth 20000 in
theorem gL_law_X5_init : GoodIn wsL_law (wsX5_init) := ggL_law_X5_init
set_option maxRecDepth 20000 in
theorem ggL_law_X6_init : GoodIn wsL_law wsX6_init := goodIn_r _ [78, 79, 11, 12, 36, 80, 81, 34, 82, 83, 84, 85, 86, 87, 88, 89, 90, 91, 92, 563, 564, 565, 566, 567, 568, 569, 570, 571, 572, 573, 574, 575, 576, 577, 578, 579, 580, 581, 582, 583] (by decide +kernel) (by decide +kernel)
set_option maxRecDepth 20000 in
theorem gL_law_X6_init : GoodIn wsL_law (wsX6_init) := ggL_law_X6_init
set_option maxRecDepth 20000 in
theorem ggL_law_L_area : GoodIn wsL_law wsL_area := goodIn_ca (goodIn_ca (goodIn_r _ [96, 97, 98, 99, 100, 101, 2, 102, 16, 103, 104, 105, 106, 107, 108, 109, 110, 15, 111, 112, 113, 114, 115, 116, 117, 118, 119, 120, 121, 42, 122, 123, 124, 125, 552, 553, 554, 555, 556, 557, 558, 559, 560, 561, 562, 584, 585, 586] (by decide +kernel) (by decide +kernel)) (goodIn_sub (fun _ h => List.mem_append_left _ (List.mem_append_left _ (List.mem_append_right _ h))) (by decide +kernel))) (goodIn_sub (fun _ h => List.mem_append_left _ (List.mem_append_right _ h)) (by decide +kernel))
set_option maxRecDepth 20000 in
theorem gL_law_L_area : GoodIn wsL_law (va_wsS RL 79 yL_area wsL_area) := goodIn_app (goodIn_of _ (by decide +kernel)) ggL_law_L_area
set_option maxRecDepth 20000 in
theorem ggL_law_X6_area : GoodIn wsL_law wsX6_area := goodIn_r _ [129, 130, 131, 80, 132, 133, 134, 5, 135, 136, 137, 138, 563, 564, 565, 566, 567, 568, 569, 570, 571, 572, 573, 574, 575, 576, 577, 578, 579, 580, 581, 582, 583] (by decide +kernel) (by decide +kernel)
set_option maxRecDepth 20000 in
theorem gL_law_X6_area : GoodIn wsL_law (wsV RL 84 RX6 yX6_area wsX6_area) := goodIn_app (goodIn_of _ (by decide +kernel)) ggL_law_X6_area
set_option maxRecDepth 20000 in
theorem ggL_law_X6_thrown : GoodIn wsL_law wsX6_thrown := goodIn_r _ [142, 131, 563, 564, 565, 566, 567, 568, 569, 570, 571, 572, 573, 574, 575, 576, 577, 578, 579, 580, 581, 582, 583] (by decide +kernel) (by decide +kernel)
set_option maxRecDepth 20000 in
theorem gL_law_X6_thrown : GoodIn wsL_law (wsV RL 85 RX6 yX6_thrown wsX6_thrown) := goodIn_app (goodIn_of _ (by decide +kernel)) ggL_law_X6_thrown
set_option maxRecDepth 20000 in
theorem ggL_law_L_item : GoodIn wsL_law wsL_item := goodIn_ca (goodIn_ca (goodIn_r _ [145, 97, 98, 146, 147, 148, 2, 149, 17, 103, 104, 105, 106, 107, 108, 109, 110, 15, 111, 112, 113, 114, 115, 116, 117, 118, 119, 120, 121, 42, 122, 123, 124, 125, 552, 553, 554, 555, 556, 557, 558, 559, 560, 561, 562, 584, 585, 586] (by decide +kernel) (by decide +kernel)) (goodIn_sub (fun _ h => List.mem_append_left _ (List.mem_append_left _ (List.mem_append_right _ h))) (by decide +kernel))) (goodIn_sub (fun _ h => List.mem_append_left _ (List.mem_append_right _ h)) (by decide +kernel))
set_option maxRecDepth 20000 in
theorem gL_law_L_item : GoodIn wsL_law (va_wsS RL 89 yL_item wsL_item) := goodIn_app (goodIn_of _ (by decide +kernel)) ggL_law_L_item
set_option maxRecDepth 20000 in
theorem ggL_law_X6_item : GoodIn wsL_law wsX6_item := goodIn_r _ [153, 154, 131, 81, 155, 156, 157, 5, 158, 136, 137, 138, 563, 564, 565, 566, 567, 568, 569, 570, 571, 572, 573, 574, 575, 576, 577, 578, 579, 580, 581, 582, 583] (by decide +kernel) (by decide +kernel)
set_option maxRecDepth 20000 in
theorem gL_law_X6_item : GoodIn wsL_law (wsV RL 91 RX6 yX6_item wsX6_item) := goodIn_app (goodIn_of _ (by decide +kernel)) ggL_law_X6_item
set_option maxRecDepth 20000 in
theorem ggL_law_L_agree : GoodIn wsL_law wsL_agree := goodIn_ca (goodIn_r _ [161, 97, 162, 163, 164, 2, 165, 21, 166, 167, 168, 106, 107, 169, 170, 171, 172, 16, 108, 109, 110, 15, 111, 112, 173, 174, 175, 20, 176, 47, 552, 553, 554, 555, 556, 557, 558, 559, 560, 561, 562, 584, 585, 586, 587] (by decide +kernel) (by decide +kernel)) (goodIn_sub (fun _ h => List.mem_append_left _ (List.mem_append_left _ (List.mem_append_right _ h))) (by decide +kernel))
set_option maxRecDepth 20000 in
theorem gL_law_L_agree : GoodIn wsL_law (va_wsS RL 92 yL_agree wsL_agree) := goodIn_app (goodIn_of _ (by decide +kernel)) ggL_law_L_agree
set_option maxRecDepth 20000 in
theorem ggL_law_X6_agree : GoodIn wsL_law wsX6_agree := goodIn_r _ [180, 131, 82, 181, 182, 5, 183, 136, 137, 138, 132, 133, 134, 135, 130, 563, 564, 565, 566, 567, 568, 569, 570, 571, 572, 573, 574, 575, 576, 577, 578, 579, 580, 581, 582, 583] (by decide +kernel) (by decide +kernel)
set_option maxRecDepth 20000 in
theorem gL_law_X6_agree : GoodIn wsL_law (wsV RL 95 RX6 yX6_agree wsX6_agree) := goodIn_app (goodIn_of _ (by decide +kernel)) ggL_law_X6_agree
set_option maxRecDepth 20000 in
theorem ggL_law_L_put : GoodIn wsL_law wsL_put := goodIn_ca (goodIn_ca (goodIn_ca (goodIn_r _ [186, 97, 187, 98, 188, 189, 190, 2, 191, 192, 193, 116, 117, 194, 195, 25, 196, 197, 198, 199, 106, 107, 16, 17, 108, 109, 110, 15, 111, 112, 200, 201, 202, 203, 204, 205, 206, 207, 208, 209, 210, 211, 24, 212, 213, 214, 215, 216, 217, 51, 52, 53, 54, 552, 553, 554, 555, 556, 557, 558, 559, 560, 561, 562, 584, 585, 586, 588, 589, 590, 591, 592] (by decide +kernel) (by decide +kernel)) (goodIn_sub (fun _ h => List.mem_append_right _ h) (by decide +kernel))) (goodIn_sub (fun _ h => List.mem_append_left _ (List.mem_append_right _ h)) (by decide +kernel))) (goodIn_sub (fun _ h => List.mem_append_left _ (List.mem_append_left _ (List.mem_append_right _ h))) (by decide +kernel))
set_option maxRecDepth 20000 in
theorem gL_law_L_put : GoodIn wsL_law (va_wsS RL 96 yL_put wsL_put) := goodIn_app (goodIn_of _ (by decide +kernel)) ggL_law_L_put
set_option maxRecDepth 20000 in
theorem ggL_law_X6_put : GoodIn wsL_law wsX6_put := goodIn_r _ [221, 222, 223, 224, 131, 83, 84, 85, 225, 226, 227, 5, 228, 132, 133, 134, 135, 130, 136, 137, 138, 155, 156, 157, 158, 154, 229, 230, 231, 563, 564, 565, 566, 567, 568, 569, 570, 571, 572, 573, 574, 575, 576, 577, 578, 579, 580, 581, 582, 583] (by decide +kernel) (by decide +kernel)
set_option maxRecDepth 20000 in
theorem gL_law_X6_put : GoodIn wsL_law (wsV RL 99 RX6 yX6_put wsX6_put) := goodIn_app (goodIn_of _ (by decide +kernel)) ggL_law_X6_put
set_option maxRecDepth 20000 in
theorem ggL_law_X5_wipe : GoodIn wsL_law wsX5_wipe := goodIn_r _ [235, 25, 236, 237, 238, 24, 239, 213, 552, 553, 554, 555, 556, 557, 558, 559, 560, 561, 562, 588, 589, 590, 591, 592] (by decide +kernel) (by decide +kernel)
set_option maxRecDepth 20000 in
theorem gL_law_X5_wipe : GoodIn wsL_law (wsV RL 100 RX5 yX5_wipe wsX5_wipe) := goodIn_app (goodIn_of _ (by decide +kernel)) ggL_law_X5_wipe
set_option maxRecDepth 20000 in
theorem ggL_law_X6_wipe : GoodIn wsL_law wsX6_wipe := goodIn_r _ [243, 131, 224, 563, 564, 565, 566, 567, 568, 569, 570, 571, 572, 573, 574, 575, 576, 577, 578, 579, 580, 581, 582, 583] (by decide +kernel) (by decide +kernel)
set_option maxRecDepth 20000 in
theorem gL_law_X6_wipe : GoodIn wsL_law (wsV RL 103 RX6 yX6_wipe wsX6_wipe) := goodIn_app (goodIn_of _ (by decide +kernel)) ggL_law_X6_wipe
set_option maxRecDepth 20000 in
theorem ggL_law_L_send : GoodIn wsL_law wsL_send := goodIn_ca (goodIn_ca (goodIn_r _ [246, 97, 98, 247, 248, 249, 2, 250, 116, 117, 25, 251, 166, 167, 168, 106, 107, 252, 253, 254, 255, 37, 29, 256, 257, 258, 259, 260, 261, 21, 16, 262, 263, 264, 265, 20, 266, 47, 267, 268, 269, 15, 270, 112, 42, 271, 109, 110, 111, 272, 273, 274, 24, 275, 51, 276, 54, 277, 278, 279, 28, 280, 281, 63, 64, 65, 61, 60, 59, 62, 236, 237, 238, 239, 213, 552, 553, 554, 555, 556, 557, 558, 559, 560, 561, 562, 588, 589, 590, 591, 592, 593, 594, 595, 596, 597, 598, 599, 600, 584, 585, 586, 587] (by decide +kernel) (by decide +kernel)) (goodIn_sub (fun _ h => List.mem_append_left _ (List.mem_append_right _ h)) (by decide +kernel))) (goodIn_sub (fun _ h => List.mem_append_left _ (List.mem_append_left _ (List.mem_append_right _ h))) (by decide +kernel))
set_option maxRecDepth 20000 in
theorem gL_law_L_send : GoodIn wsL_law (va_wsS RL 104 yL_send wsL_send) := goodIn_app (goodIn_of _ (by decide +kernel)) ggL_law_L_send
set_option maxRecDepth 20000 in
theorem ggL_law_X6_send : GoodIn wsL_law wsX6_send := goodIn_r _ [285, 224, 286, 131, 86, 87, 287, 84, 88, 288, 89, 83, 289, 85, 290, 181, 182, 5, 183, 136, 137, 138, 291, 292, 293, 294, 295, 296, 297, 298, 299, 300, 301, 302, 82, 80, 563, 564, 565, 566, 567, 568, 569, 570, 571, 572, 573, 574, 575, 576, 577, 578, 579, 580, 581, 582, 583] (by decide +kernel) (by decide +kernel)
set_option maxRecDepth 20000 in
theorem gL_law_X6_send : GoodIn wsL_law (wsV RL 106 RX6 yX6_send wsX6_send) := goodIn_app (goodIn_of _ (by decide +kernel)) ggL_law_X6_send
set_option maxRecDepth 20000 in
theorem ggL_law_L_refusal : GoodIn wsL_law wsL_refusal := goodIn_ca (goodIn_r _ [305, 97, 306, 307, 308, 2, 309, 106, 107, 257, 37, 552, 553, 554, 555, 556, 557, 558, 559, 560, 561, 562] (by decide +kernel) (by decide +kernel)) (goodIn_sub (fun _ h => List.mem_append_left _ (List.mem_append_left _ (List.mem_append_right _ h))) (by decide +kernel))
set_option maxRecDepth 20000 in
theorem gL_law_L_refusal : GoodIn wsL_law (va_wsS RL 107 yL_refusal wsL_refusal) := goodIn_app (goodIn_of _ (by decide +kernel)) ggL_law_L_refusal
set_option maxRecDepth 20000 in
theorem ggL_law_X6_refusal : GoodIn wsL_law wsX6_refusal := goodIn_r _ [313, 290, 131, 86, 136, 137, 5, 138, 563, 564, 565, 566, 567, 568, 569, 570, 571, 572, 573, 574, 575, 576, 577, 578, 579, 580, 581, 582, 583] (by decide +kernel) (by decide +kernel)
set_option maxRecDepth 20000 in
theorem gL_law_X6_refusal : GoodIn wsL_law (wsV RL 109 RX6 yX6_refusal wsX6_refusal) := goodIn_app (goodIn_of _ (by decide +kernel)) ggL_law_X6_refusal
set_option maxRecDepth 20000 in
theorem ggL_law_L_secret : GoodIn wsL_law wsL_secret := goodIn_ca (goodIn_r _ [316, 97, 317, 318, 319, 2, 320, 35, 33, 196, 197, 198, 199, 106, 107, 16, 17, 108, 109, 110, 15, 111, 112, 200, 201, 202, 203, 204, 205, 206, 207, 208, 321, 322, 323, 324, 29, 256, 325, 326, 327, 32, 328, 74, 329, 330, 331, 332, 333, 334, 68, 69, 70, 335, 336, 337, 338, 339, 340, 341, 342, 42, 343, 344, 345, 346, 347, 348, 349, 350, 351, 352, 353, 75, 354, 355, 356, 357, 358, 359, 360, 361, 362, 363, 364, 365, 366, 367, 368, 369, 370, 371, 372, 373, 374, 375, 376, 377, 378, 379, 380, 381, 552, 553, 554, 555, 556, 557, 558, 559, 560, 561, 562, 584, 585, 586, 601, 602, 593, 594, 595, 596, 597, 598, 599, 600] (by decide +kernel) (by decide +kernel)) (goodIn_sub (fun _ h => List.mem_append_left _ (List.mem_append_left _ (List.mem_append_right _ h))) (by decide +kernel))
set_option maxRecDepth 20000 in
theorem gL_law_L_secret : GoodIn wsL_law (va_wsS RL 110 yL_secret wsL_secret) := goodIn_app (goodIn_of _ (by decide +kernel)) ggL_law_L_secret
set_option maxRecDepth 20000 in
theorem ggL_law_X6_secret : GoodIn wsL_law wsX6_secret := goodIn_r _ [385, 131, 90, 225, 226, 227, 5, 228, 132, 133, 134, 135, 130, 136, 137, 138, 155, 156, 157, 158, 154, 229, 230, 231, 386, 387, 388, 389, 288, 92, 91, 289, 390, 391, 392, 393, 295, 296, 297, 298, 287, 87, 88, 89, 394, 395, 396, 397, 81, 80, 398, 399, 400, 401, 402, 403, 404, 405, 406, 407, 408, 563, 564, 565, 566, 567, 568, 569, 570, 571, 572, 573, 574, 575, 576, 577, 578, 579, 580, 581, 582, 583] (by decide +kernel) (by decide +kernel)
set_option maxRecDepth 20000 in
theorem gL_law_X6_secret : GoodIn wsL_law (wsV RL 113 RX6 yX6_secret wsX6_secret) := goodIn_app (goodIn_of _ (by decide +kernel)) ggL_law_X6_secret
set_option maxRecDepth 20000 in
theorem ggL_law_L_pass : GoodIn wsL_law wsL_pass := goodIn_ca (goodIn_ca (goodIn_r _ [411, 187, 98, 412, 413, 414, 2, 415, 192, 193, 116, 117, 256, 552, 553, 554, 555, 556, 557, 558, 559, 560, 561, 562] (by decide +kernel) (by decide +kernel)) (goodIn_sub (fun _ h => List.mem_append_right _ h) (by decide +kernel))) (goodIn_sub (fun _ h => List.mem_append_left _ (List.mem_append_right _ h)) (by decide +kernel))
set_option maxRecDepth 20000 in
theorem gL_law_L_pass : GoodIn wsL_law (va_wsS RL 114 yL_pass wsL_pass) := goodIn_app (goodIn_of _ (by decide +kernel)) ggL_law_L_pass
set_option maxRecDepth 20000 in
theorem ggL_law_X6_pass : GoodIn wsL_law wsX6_pass := goodIn_r _ [419, 288, 131, 136, 137, 5, 138, 563, 564, 565, 566, 567, 568, 569, 570, 571, 572, 573, 574, 575, 576, 577, 578, 579, 580, 581, 582, 583] (by decide +kernel) (by decide +kernel)
set_option maxRecDepth 20000 in
theorem gL_law_X6_pass : GoodIn wsL_law (wsV RL 116 RX6 yX6_pass wsX6_pass) := goodIn_app (goodIn_of _ (by decide +kernel)) ggL_law_X6_pass
set_option maxRecDepth 20000 in
theorem ggL_law_L_figure : GoodIn wsL_law wsL_figure := goodIn_ca (goodIn_ca (goodIn_r _ [422, 97, 187, 423, 424, 425, 2, 426, 29, 196, 197, 198, 199, 106, 107, 16, 17, 108, 109, 110, 15, 111, 112, 200, 201, 202, 203, 204, 205, 206, 207, 208, 427, 428, 429, 430, 192, 193, 256, 431, 432, 433, 28, 434, 281, 63, 64, 65, 66, 552, 553, 554, 555, 556, 557, 558, 559, 560, 561, 562, 584, 585, 586, 593, 594, 595, 596, 597, 598, 599, 600] (by decide +kernel) (by decide +kernel)) (goodIn_sub (fun _ h => List.mem_append_left _ (List.mem_append_left _ (List.mem_append_right _ h))) (by decide +kernel))) (goodIn_sub (fun _ h => List.mem_append_right _ h) (by decide +kernel))
set_option maxRecDepth 20000 in
theorem gL_law_L_figure : GoodIn wsL_law (va_wsS RL 117 yL_figure wsL_figure) := goodIn_app (goodIn_of _ (by decide +kernel)) ggL_law_L_figure
set_option maxRecDepth 20000 in
theorem ggL_law_X6_figure : GoodIn wsL_law wsX6_figure := goodIn_r _ [438, 288, 131, 225, 226, 227, 5, 228, 132, 133, 134, 135, 130, 136, 137, 138, 155, 156, 157, 158, 154, 229, 230, 231, 295, 296, 297, 298, 289, 287, 87, 88, 89, 563, 564, 565, 566, 567, 568, 569, 570, 571, 572, 573, 574, 575, 576, 577, 578, 579, 580, 581, 582, 583] (by decide +kernel) (by decide +kernel)
set_option maxRecDepth 20000 in
theorem gL_law_X6_figure : GoodIn wsL_law (wsV RL 120 RX6 yX6_figure wsX6_figure) := goodIn_app (goodIn_of _ (by decide +kernel)) ggL_law_X6_figure
set_option maxRecDepth 20000 in
theorem ggL_law_L_value : GoodIn wsL_law wsL_value := goodIn_ca (goodIn_ca (goodIn_r _ [441, 97, 187, 442, 443, 444, 2, 445, 33, 29, 16, 17, 196, 197, 198, 199, 106, 107, 108, 109, 110, 15, 111, 112, 200, 201, 202, 203, 204, 205, 206, 207, 208, 427, 428, 429, 430, 192, 193, 256, 325, 326, 327, 32, 328, 74, 329, 330, 331, 332, 333, 334, 68, 69, 70, 335, 336, 337, 338, 339, 340, 341, 342, 42, 343, 344, 345, 346, 347, 348, 349, 446, 552, 553, 554, 555, 556, 557, 558, 559, 560, 561, 562, 584, 585, 586, 601, 602, 593, 594, 595, 596, 597, 598, 599, 600] (by decide +kernel) (by decide +kernel)) (goodIn_sub (fun _ h => List.mem_append_left _ (List.mem_append_left _ (List.mem_append_right _ h))) (by decide +kernel))) (goodIn_sub (fun _ h => List.mem_append_right _ h) (by decide +kernel))
set_option maxRecDepth 20000 in
theorem gL_law_L_value : GoodIn wsL_law (va_wsS RL 121 yL_value wsL_value) := goodIn_app (goodIn_of _ (by decide +kernel)) ggL_law_L_value
set_option maxRecDepth 20000 in
theorem ggL_law_X6_value : GoodIn wsL_law wsX6_value := goodIn_r _ [450, 288, 131, 91, 225, 226, 227, 5, 228, 132, 133, 134, 135, 130, 136, 137, 138, 155, 156, 157, 158, 154, 390, 391, 392, 393, 289, 229, 230, 231, 295, 296, 297, 298, 287, 87, 88, 89, 394, 395, 396, 397, 81, 80, 563, 564, 565, 566, 567, 568, 569, 570, 571, 572, 573, 574, 575, 576, 577, 578, 579, 580, 581, 582, 583] (by decide +kernel) (by decide +kernel)
set_option maxRecDepth 20000 in
theorem gL_law_X6_value : GoodIn wsL_law (wsV RL 123 RX6 yX6_value wsX6_value) := goodIn_app (goodIn_of _ (by decide +kernel)) ggL_law_X6_value
set_option maxRecDepth 20000 in
theorem ggL_law_L_first : GoodIn wsL_law wsL_first := goodIn_ca (goodIn_r _ [453, 97, 454, 455, 456, 2, 457, 29, 196, 197, 198, 199, 106, 107, 16, 17, 108, 109, 110, 15, 111, 112, 200, 201, 202, 203, 204, 205, 206, 207, 208, 552, 553, 554, 555, 556, 557, 558, 559, 560, 561, 562, 593, 594, 595, 596, 597, 598, 599, 600, 584, 585, 586] (by decide +kernel) (by decide +kernel)) (goodIn_sub (fun _ h => List.mem_append_left _ (List.mem_append_left _ (List.mem_append_right _ h))) (by decide +kernel))
set_option maxRecDepth 20000 in
theorem gL_law_L_first : GoodIn wsL_law (va_wsS RL 124 yL_first wsL_first) := goodIn_app (goodIn_of _ (by decide +kernel)) ggL_law_L_first
set_option maxRecDepth 20000 in
theorem ggL_law_X6_first : GoodIn wsL_law wsX6_first := goodIn_r _ [461, 131, 287, 87, 89, 289, 225, 226, 227, 5, 228, 132, 133, 134, 135, 130, 136, 137, 138, 155, 156, 157, 158, 154, 229, 230, 231, 563, 564, 565, 566, 567, 568, 569, 570, 571, 572, 573, 574, 575, 576, 577, 578, 579, 580, 581, 582, 583] (by decide +kernel) (by decide +kernel)
set_option maxRecDepth 20000 in
theorem gL_law_X6_first : GoodIn wsL_law (wsV RL 127 RX6 yX6_first wsX6_first) := goodIn_app (goodIn_of _ (by decide +kernel)) ggL_law_X6_first
set_option maxRecDepth 20000 in
theorem ggL_law_L_revisions : GoodIn wsL_law wsL_revisions := goodIn_ca (goodIn_r _ [464, 97, 465, 466, 467, 2, 468, 29, 196, 197, 198, 199, 106, 107, 16, 17, 108, 109, 110, 15, 111, 112, 200, 201, 202, 203, 204, 205, 206, 207, 208, 552, 553, 554, 555, 556, 557, 558, 559, 560, 561, 562, 593, 594, 595, 596, 597, 598, 599, 600, 584, 585, 586] (by decide +kernel) (by decide +kernel)) (goodIn_sub (fun _ h => List.mem_append_left _ (List.mem_append_left _ (List.mem_append_right _ h))) (by decide +kernel))
set_option maxRecDepth 20000 in
theorem gL_law_L_revisions : GoodIn wsL_law (va_wsS RL 128 yL_revisions wsL_revisions) := goodIn_app (goodIn_of _ (by decide +kernel)) ggL_law_L_revisions
set_option maxRecDepth 20000 in
theorem ggL_law_X6_revisions : GoodIn wsL_law wsX6_revisions := goodIn_r _ [472, 131, 287, 87, 225, 226, 227, 5, 228, 132, 133, 134, 135, 130, 136, 137, 138, 155, 156, 157, 158, 154, 229, 230, 231, 563, 564, 565, 566, 567, 568, 569, 570, 571, 572, 573, 574, 575, 576, 577, 578, 579, 580, 581, 582, 583] (by decide +kernel) (by decide +kernel)
set_option maxRecDepth 20000 in
theorem gL_law_X6_revisions : GoodIn wsL_law (wsV RL 130 RX6 yX6_revisions wsX6_revisions) := goodIn_app (goodIn_of _ (by decide +kernel)) ggL_law_X6_revisions
set_option maxRecDepth 20000 in
theorem ggL_law_L_hasFault : GoodIn wsL_law wsL_hasFault := goodIn_ca (goodIn_r _ [475, 97, 476, 477, 478, 2, 479, 29, 262, 33, 256, 16, 17, 196, 197, 198, 199, 106, 107, 108, 109, 110, 15, 111, 112, 200, 201, 202, 203, 204, 205, 206, 207, 208, 325, 326, 327, 32, 328, 74, 329, 330, 331, 332, 333, 334, 68, 69, 70, 335, 336, 337, 338, 339, 340, 341, 342, 42, 343, 344, 345, 346, 347, 348, 349, 480, 481, 482, 483, 552, 553, 554, 555, 556, 557, 558, 559, 560, 561, 562, 593, 594, 595, 596, 597, 598, 599, 600, 584, 585, 586, 601, 602] (by decide +kernel) (by decide +kernel)) (goodIn_sub (fun _ h => List.mem_append_left _ (List.mem_append_left _ (List.mem_append_right _ h))) (by decide +kernel))
set_option maxRecDepth 20000 in
theorem gL_law_L_hasFault : GoodIn wsL_law (va_wsS RL 131 yL_hasFault wsL_hasFault) := goodIn_app (goodIn_of _ (by decide +kernel)) ggL_law_L_hasFault
set_option maxRecDepth 20000 in
theorem ggL_law_X6_hasFault : GoodIn wsL_law wsX6_hasFault := goodIn_r _ [487, 131, 288, 289, 225, 226, 227, 5, 228, 132, 133, 134, 135, 130, 136, 137, 138, 155, 156, 157, 158, 154, 390, 391, 392, 393, 91, 229, 230, 231, 295, 296, 297, 298, 287, 87, 88, 89, 394, 395, 396, 397, 81, 80, 563, 564, 565, 566, 567, 568, 569, 570, 571, 572, 573, 574, 575, 576, 577, 578, 579, 580, 581, 582, 583] (by decide +kernel) (by decide +kernel)
set_option maxRecDepth 20000 in
theorem gL_law_X6_hasFault : GoodIn wsL_law (wsV RL 133 RX6 yX6_hasFault wsX6_hasFault) := goodIn_app (goodIn_of _ (by decide +kernel)) ggL_law_X6_hasFault
set_option maxRecDepth 20000 in
theorem ggL_law_L_shown : GoodIn wsL_law wsL_shown := goodIn_ca (goodIn_r _ [490, 97, 491, 492, 493, 2, 494, 33, 495, 196, 197, 198, 199, 106, 107, 16, 17, 108, 109, 110, 15, 111, 112, 200, 201, 202, 203, 204, 205, 206, 207, 208, 321, 322, 323, 324, 29, 256, 35, 325, 326, 327, 32, 328, 74, 329, 330, 331, 332, 333, 334, 68, 69, 70, 335, 336, 337, 338, 339, 340, 341, 342, 42, 343, 344, 345, 346, 347, 348, 349, 350, 351, 352, 353, 75, 354, 355, 356, 357, 358, 359, 360, 361, 362, 363, 364, 365, 366, 367, 368, 369, 370, 371, 372, 373, 374, 375, 376, 377, 496, 446, 552, 553, 554, 555, 556, 557, 558, 559, 560, 561, 562, 584, 585, 586, 601, 602, 593, 594, 595, 596, 597, 598, 599, 600] (by decide +kernel) (by decide +kernel)) (goodIn_sub (fun _ h => List.mem_append_left _ (List.mem_append_left _ (List.mem_append_right _ h))) (by decide +kernel))
set_option maxRecDepth 20000 in
theorem gL_law_L_shown : GoodIn wsL_law (va_wsS RL 134 yL_shown wsL_shown) := goodIn_app (goodIn_of _ (by decide +kernel)) ggL_law_L_shown
set_option maxRecDepth 20000 in
theorem ggL_law_X6_shown : GoodIn wsL_law wsX6_shown := goodIn_r _ [500, 131, 92, 501, 91, 225, 226, 227, 5, 228, 132, 133, 134, 135, 130, 136, 137, 138, 155, 156, 157, 158, 154, 386, 387, 388, 389, 288, 90, 289, 390, 391, 392, 393, 229, 230, 231, 295, 296, 297, 298, 287, 87, 88, 89, 394, 395, 396, 397, 81, 80, 398, 399, 400, 401, 402, 403, 404, 405, 406, 407, 408, 563, 564, 565, 566, 567, 568, 569, 570, 571, 572, 573, 574, 575, 576, 577, 578, 579, 580, 581, 582, 583] (by decide +kernel) (by decide +kernel)
set_option maxRecDepth 20000 in
theorem gL_law_X6_shown : GoodIn wsL_law (wsV RL 136 RX6 yX6_shown wsX6_shown) := goodIn_app (goodIn_of _ (by decide +kernel)) ggL_law_X6_shown
set_option maxRecDepth 20000 in
theorem ggL_law_L_hidden : GoodIn wsL_law wsL_hidden := goodIn_ca (goodIn_r _ [504, 97, 505, 506, 507, 2, 508, 106, 107, 33, 200, 201, 202, 321, 322, 323, 324, 29, 256, 16, 17, 35, 325, 326, 327, 32, 328, 74, 329, 330, 331, 332, 333, 334, 68, 69, 70, 207, 208, 335, 336, 337, 338, 339, 340, 341, 15, 342, 112, 42, 343, 344, 345, 346, 347, 348, 349, 350, 351, 352, 353, 75, 354, 355, 356, 357, 358, 359, 360, 361, 362, 363, 364, 365, 366, 367, 368, 369, 370, 371, 372, 373, 374, 375, 376, 377, 378, 379, 380, 381, 552, 553, 554, 555, 556, 557, 558, 559, 560, 561, 562, 584, 585, 586, 601, 602, 593, 594, 595, 596, 597, 598, 599, 600] (by decide +kernel) (by decide +kernel)) (goodIn_sub (fun _ h => List.mem_append_left _ (List.mem_append_left _ (List.mem_append_right _ h))) (by decide +kernel))
set_option maxRecDepth 20000 in
theorem gL_law_L_hidden : GoodIn wsL_law (va_wsS RL 137 yL_hidden wsL_hidden) := goodIn_app (goodIn_of _ (by decide +kernel)) ggL_law_L_hidden
set_option maxRecDepth 20000 in
theorem ggL_law_X6_hidden : GoodIn wsL_law wsX6_hidden := goodIn_r _ [512, 131, 136, 137, 5, 138, 386, 387, 388, 389, 288, 92, 130, 154, 90, 91, 289, 390, 391, 392, 393, 229, 230, 231, 295, 296, 297, 298, 287, 87, 88, 89, 394, 395, 396, 397, 81, 80, 398, 399, 400, 401, 402, 403, 404, 405, 406, 407, 408, 563, 564, 565, 566, 567, 568, 569, 570, 571, 572, 573, 574, 575, 576, 577, 578, 579, 580, 581, 582, 583] (by decide +kernel) (by decide +kernel)
set_option maxRecDepth 20000 in
theorem gL_law_X6_hidden : GoodIn wsL_law (wsV RL 139 RX6 yX6_hidden wsX6_hidden) := goodIn_app (goodIn_of _ (by decide +kernel)) ggL_law_X6_hidden
set_option maxRecDepth 20000 in
theorem ggL_law_L_find : GoodIn wsL_law wsL_find := goodIn_ca (goodIn_ca (goodIn_r _ [515, 97, 187, 516, 517, 518, 2, 519, 106, 107, 192, 193, 16, 17, 103, 104, 105, 108, 109, 110, 15, 111, 112, 200, 201, 202, 520, 521, 522, 523, 29, 203, 204, 205, 206, 207, 208, 524, 525, 526, 28, 527, 59, 66, 62, 528, 268, 269, 270, 42, 271, 552, 553, 554, 555, 556, 557, 558, 559, 560, 561, 562, 584, 585, 586, 593, 594, 595, 596, 597, 598, 599, 600] (by decide +kernel) (by decide +kernel)) (goodIn_sub (fun _ h => List.mem_append_left _ (List.mem_append_left _ (List.mem_append_right _ h))) (by decide +kernel))) (goodIn_sub (fun _ h => List.mem_append_right _ h) (by decide +kernel))
set_option maxRecDepth 20000 in
theorem gL_law_L_find : GoodIn wsL_law (va_wsS RL 140 yL_find wsL_find) := goodIn_app (goodIn_of _ (by decide +kernel)) ggL_law_L_find
set_option maxRecDepth 20000 in
theorem ggL_law_X6_find : GoodIn wsL_law wsX6_find := goodIn_r _ [532, 131, 130, 154, 288, 289, 132, 133, 134, 5, 135, 136, 137, 138, 155, 156, 157, 158, 229, 230, 231, 533, 534, 535, 536, 81, 80, 295, 296, 297, 298, 287, 87, 88, 89, 537, 538, 539, 540, 563, 564, 565, 566, 567, 568, 569, 570, 571, 572, 573, 574, 575, 576, 577, 578, 579, 580, 581, 582, 583] (by decide +kernel) (by decide +kernel)
set_option maxRecDepth 20000 in
theorem gL_law_X6_find : GoodIn wsL_law (wsV RL 143 RX6 yX6_find wsX6_find) := goodIn_app (goodIn_of _ (by decide +kernel)) ggL_law_X6_find
set_option maxRecDepth 20000 in
theorem ggL_law_L_mayTell : GoodIn wsL_law wsL_mayTell := goodIn_ca (goodIn_r _ [543, 97, 544, 545, 546, 2, 547, 21, 16, 166, 167, 168, 106, 107, 169, 170, 171, 172, 108, 109, 110, 15, 111, 112, 263, 264, 265, 20, 266, 47, 267, 268, 269, 270, 42, 271, 552, 553, 554, 555, 556, 557, 558, 559, 560, 561, 562, 584, 585, 586, 587] (by decide +kernel) (by decide +kernel)) (goodIn_sub (fun _ h => List.mem_append_left _ (List.mem_append_left _ (List.mem_append_right _ h))) (by decide +kernel))
set_option maxRecDepth 20000 in
theorem gL_law_L_mayTell : GoodIn wsL_law (va_wsS RL 144 yL_mayTell wsL_mayTell) := goodIn_app (goodIn_of _ (by decide +kernel)) ggL_law_L_mayTell
set_option maxRecDepth 20000 in
theorem ggL_law_X6_mayTell : GoodIn wsL_law wsX6_mayTell := goodIn_r _ [551, 131, 181, 182, 5, 183, 136, 137, 138, 132, 133, 134, 135, 130, 299, 300, 301, 302, 82, 80, 563, 564, 565, 566, 567, 568, 569, 570, 571, 572, 573, 574, 575, 576, 577, 578, 579, 580, 581, 582, 583] (by decide +kernel) (by decide +kernel)
set_option maxRecDepth 20000 in
theorem gL_law_X6_mayTell : GoodIn wsL_law (wsV RL 147 RX6 yX6_mayTell wsX6_mayTell) := goodIn_app (goodIn_of _ (by decide +kernel)) ggL_law_X6_mayTell
theorem dL_law_0 : decode cL_law 0 = .ok (.new 8, 3) := by decide +kernel
theorem dL_law_3 : decode cL_law 3 = .ok (.dup, 1) := by decide +kernel
theorem dL_law_4 : decode cL_law 4 = .ok (.invokespecial 75, 3) := by decide +kernel
theorem dL_law_7 : decode cL_law 7 = .ok (.astore_n 1, 1) := by decide +kernel
theorem dL_law_8 : decode cL_law 8 = .ok (.new 76, 3) := by decide +kernel
theorem dL_law_11 : decode cL_law 11 = .ok (.dup, 1) := by decide +kernel
theorem dL_law_12 : decode cL_law 12 = .ok (.invokespecial 78, 3) := by decide +kernel
theorem dL_law_15 : decode cL_law 15 = .ok (.astore_n 2, 1) := by decide +kernel
theorem dL_law_16 : decode cL_law 16 = .ok (.iconst 1, 1) := by decide +kernel
theorem dL_law_17 : decode cL_law 17 = .ok (.newarray .long, 2) := by decide +kernel
theorem dL_law_19 : decode cL_law 19 = .ok (.astore_n 3, 1) := by decide +kernel
theorem dL_law_20 : decode cL_law 20 = .ok (.iconst 0, 1) := by decide +kernel
theorem dL_law_21 : decode cL_law 21 = .ok (.istore 4, 2) := by decide +kernel
theorem dL_law_23 : decode cL_law 23 = .ok (.iload 4, 2) := by decide +kernel
theorem dL_law_25 : decode cL_law 25 = .ok (.aload_n 0, 1) := by decide +kernel
theorem dL_law_26 : decode cL_law 26 = .ok (.arraylength, 1) := by decide +kernel
theorem dL_law_27 : decode cL_law 27 = .ok (.bipush 7, 2) := by decide +kernel
theorem dL_law_29 : decode cL_law 29 = .ok (.isub, 1) := by decide +kernel
theorem dL_law_30 : decode cL_law 30 = .ok (.if_icmp .gt 1472, 3) := by decide +kernel
theorem dL_law_33 : decode cL_law 33 = .ok (.aload_n 0, 1) := by decide +kernel
theorem dL_law_34 : decode cL_law 34 = .ok (.iload 4, 2) := by decide +kernel
theorem dL_law_36 : decode cL_law 36 = .ok (.iaload, 1) := by decide +kernel
theorem dL_law_37 : decode cL_law 37 = .ok (.bipush 31, 2) := by decide +kernel
theorem dL_law_39 : decode cL_law 39 = .ok (.iand, 1) := by decide +kernel
theorem dL_law_40 : decode cL_law 40 = .ok (.tableswitch 1456 0 17 #[88, 144, 200, 303, 407, 420, 476, 532, 640, 696, 788, 880, 960, 1040, 1127, 1207, 1263, 1381], 88) := by decide +kernel
theorem dL_law_128 : decode cL_law 128 = .ok (.aload_n 1, 1) := by decide +kernel
theorem dL_law_129 : decode cL_law 129 = .ok (.aload_n 0, 1) := by decide +kernel
theorem dL_law_130 : decode cL_law 130 = .ok (.iload 4, 2) := by decide +kernel
theorem dL_law_132 : decode cL_law 132 = .ok (.iconst 1, 1) := by decide +kernel
theorem dL_law_133 : decode cL_law 133 = .ok (.iadd, 1) := by decide +kernel
theorem dL_law_134 : decode cL_law 134 = .ok (.iaload, 1) := by decide +kernel
theorem dL_law_135 : decode cL_law 135 = .ok (.aload_n 3, 1) := by decide +kernel
theorem dL_law_136 : decode cL_law 136 = .ok (.invokestatic 79, 3) := by decide +kernel
theorem dL_law_139 : decode cL_law 139 = .ok (.istore 5, 2) := by decide +kernel
theorem dL_law_141 : decode cL_law 141 = .ok (.aload_n 2, 1) := by decide +kernel
theorem dL_law_142 : decode cL_law 142 = .ok (.aload_n 0, 1) := by decide +kernel
theorem dL_law_143 : decode cL_law 143 = .ok (.iload 4, 2) := by decide +kernel
theorem dL_law_145 : decode cL_law 145 = .ok (.iconst 1, 1) := by decide +kernel
theorem dL_law_146 : decode cL_law 146 = .ok (.iadd, 1) := by decide +kernel
theorem dL_law_147 : decode cL_law 147 = .ok (.iaload, 1) := by decide +kernel
theorem dL_law_148 : decode cL_law 148 = .ok (.invokevirtual 84, 3) := by decide +kernel
theorem dL_law_151 : decode cL_law 151 = .ok (.istore 6, 2) := by decide +kernel
theorem dL_law_153 : decode cL_law 153 = .ok (.aload_n 2, 1) := by decide +kernel
theorem dL_law_154 : decode cL_law 154 = .ok (.invokevirtual 85, 3) := by decide +kernel
theorem dL_law_157 : decode cL_law 157 = .ok (.iload 5, 2) := by decide +kernel
theorem dL_law_159 : decode cL_law 159 = .ok (.if_icmp .eq 5, 3) := by decide +kernel
theorem dL_law_162 : decode cL_law 162 = .ok (.iconst 0, 1) := by decide +kernel
theorem dL_law_163 : decode cL_law 163 = .ok (.ireturn, 1) := by decide +kernel
theorem dL_law_164 : decode cL_law 164 = .ok (.iload 5, 2) := by decide +kernel
theorem dL_law_166 : decode cL_law 166 = .ok (.ifCond .ne 15, 3) := by decide +kernel
theorem dL_law_169 : decode cL_law 169 = .ok (.aload_n 3, 1) := by decide +kernel
theorem dL_law_170 : decode cL_law 170 = .ok (.iconst 0, 1) := by decide +kernel
theorem dL_law_171 : decode cL_law 171 = .ok (.laload, 1) := by decide +kernel
theorem dL_law_172 : decode cL_law 172 = .ok (.iload 6, 2) := by decide +kernel
theorem dL_law_174 : decode cL_law 174 = .ok (.i2l, 1) := by decide +kernel
theorem dL_law_175 : decode cL_law 175 = .ok (.lcmp, 1) := by decide +kernel
theorem dL_law_176 : decode cL_law 176 = .ok (.ifCond .eq 5, 3) := by decide +kernel
theorem dL_law_179 : decode cL_law 179 = .ok (.iconst 0, 1) := by decide +kernel
theorem dL_law_180 : decode cL_law 180 = .ok (.ireturn, 1) := by decide +kernel
theorem dL_law_181 : decode cL_law 181 = .ok (.goto 1315, 3) := by decide +kernel
theorem dL_law_184 : decode cL_law 184 = .ok (.aload_n 1, 1) := by decide +kernel
theorem dL_law_185 : decode cL_law 185 = .ok (.aload_n 0, 1) := by decide +kernel
theorem dL_law_186 : decode cL_law 186 = .ok (.iload 4, 2) := by decide +kernel
theorem dL_law_188 : decode cL_law 188 = .ok (.iconst 1, 1) := by decide +kernel
theorem dL_law_189 : decode cL_law 189 = .ok (.iadd, 1) := by decide +kernel
theorem dL_law_190 : decode cL_law 190 = .ok (.iaload, 1) := by decide +kernel
theorem dL_law_191 : decode cL_law 191 = .ok (.aload_n 3, 1) := by decide +kernel
theorem dL_law_192 : decode cL_law 192 = .ok (.invokestatic 89, 3) := by decide +kernel
theorem dL_law_195 : decode cL_law 195 = .ok (.istore 5, 2) := by decide +kernel
theorem dL_law_197 : decode cL_law 197 = .ok (.aload_n 2, 1) := by decide +kernel
theorem dL_law_198 : decode cL_law 198 = .ok (.aload_n 0, 1) := by decide +kernel
theorem dL_law_199 : decode cL_law 199 = .ok (.iload 4, 2) := by decide +kernel
theorem dL_law_201 : decode cL_law 201 = .ok (.iconst 1, 1) := by decide +kernel
theorem dL_law_202 : decode cL_law 202 = .ok (.iadd, 1) := by decide +kernel
theorem dL_law_203 : decode cL_law 203 = .ok (.iaload, 1) := by decide +kernel
theorem dL_law_204 : decode cL_law 204 = .ok (.invokevirtual 91, 3) := by decide +kernel
theorem dL_law_207 : decode cL_law 207 = .ok (.istore 6, 2) := by decide +kernel
theorem dL_law_209 : decode cL_law 209 = .ok (.aload_n 2, 1) := by decide +kernel
theorem dL_law_210 : decode cL_law 210 = .ok (.invokevirtual 85, 3) := by decide +kernel
theorem dL_law_213 : decode cL_law 213 = .ok (.iload 5, 2) := by decide +kernel
theorem dL_law_215 : decode cL_law 215 = .ok (.if_icmp .eq 5, 3) := by decide +kernel
theorem dL_law_218 : decode cL_law 218 = .ok (.iconst 0, 1) := by decide +kernel
theorem dL_law_219 : decode cL_law 219 = .ok (.ireturn, 1) := by decide +kernel
theorem dL_law_220 : decode cL_law 220 = .ok (.iload 5, 2) := by decide +kernel
theorem dL_law_222 : decode cL_law 222 = .ok (.ifCond .ne 15, 3) := by decide +kernel
theorem dL_law_225 : decode cL_law 225 = .ok (.aload_n 3, 1) := by decide +kernel
theorem dL_law_226 : decode cL_law 226 = .ok (.iconst 0, 1) := by decide +kernel
theorem dL_law_227 : decode cL_law 227 = .ok (.laload, 1) := by decide +kernel
theorem dL_law_228 : decode cL_law 228 = .ok (.iload 6, 2) := by decide +kernel
theorem dL_law_230 : decode cL_law 230 = .ok (.i2l, 1) := by decide +kernel
theorem dL_law_231 : decode cL_law 231 = .ok (.lcmp, 1) := by decide +kernel
theorem dL_law_232 : decode cL_law 232 = .ok (.ifCond .eq 5, 3) := by decide +kernel
theorem dL_law_235 : decode cL_law 235 = .ok (.iconst 0, 1) := by decide +kernel
theorem dL_law_236 : decode cL_law 236 = .ok (.ireturn, 1) := by decide +kernel
theorem dL_law_237 : decode cL_law 237 = .ok (.goto 1259, 3) := by decide +kernel
theorem dL_law_240 : decode cL_law 240 = .ok (.aload_n 1, 1) := by decide +kernel
theorem dL_law_241 : decode cL_law 241 = .ok (.aload_n 0, 1) := by decide +kernel
theorem dL_law_242 : decode cL_law 242 = .ok (.iload 4, 2) := by decide +kernel
theorem dL_law_244 : decode cL_law 244 = .ok (.iconst 1, 1) := by decide +kernel
theorem dL_law_245 : decode cL_law 245 = .ok (.iadd, 1) := by decide +kernel
theorem dL_law_246 : decode cL_law 246 = .ok (.iaload, 1) := by decide +kernel
theorem dL_law_247 : decode cL_law 247 = .ok (.aload_n 0, 1) := by decide +kernel
theorem dL_law_248 : decode cL_law 248 = .ok (.iload 4, 2) := by decide +kernel
theorem dL_law_250 : decode cL_law 250 = .ok (.iconst 2, 1) := by decide +kernel
theorem dL_law_251 : decode cL_law 251 = .ok (.iadd, 1) := by decide +kernel
theorem dL_law_252 : decode cL_law 252 = .ok (.iaload, 1) := by decide +kernel
theorem dL_law_253 : decode cL_law 253 = .ok (.aload_n 0, 1) := by decide +kernel
theorem dL_law_254 : decode cL_law 254 = .ok (.iload 4, 2) := by decide +kernel
theorem dL_law_256 : decode cL_law 256 = .ok (.iconst 3, 1) := by decide +kernel
theorem dL_law_257 : decode cL_law 257 = .ok (.iadd, 1) := by decide +kernel
theorem dL_law_258 : decode cL_law 258 = .ok (.iaload, 1) := by decide +kernel
theorem dL_law_259 : decode cL_law 259 = .ok (.ifCond .eq 7, 3) := by decide +kernel
theorem dL_law_262 : decode cL_law 262 = .ok (.iconst 1, 1) := by decide +kernel
theorem dL_law_263 : decode cL_law 263 = .ok (.goto 4, 3) := by decide +kernel
theorem dL_law_266 : decode cL_law 266 = .ok (.iconst 0, 1) := by decide +kernel
theorem dL_law_267 : decode cL_law 267 = .ok (.aload_n 3, 1) := by decide +kernel
theorem dL_law_268 : decode cL_law 268 = .ok (.invokestatic 92, 3) := by decide +kernel
theorem dL_law_271 : decode cL_law 271 = .ok (.istore 5, 2) := by decide +kernel
theorem dL_law_273 : decode cL_law 273 = .ok (.aload_n 2, 1) := by decide +kernel
theorem dL_law_274 : decode cL_law 274 = .ok (.aload_n 0, 1) := by decide +kernel
theorem dL_law_275 : decode cL_law 275 = .ok (.iload 4, 2) := by decide +kernel
theorem dL_law_277 : decode cL_law 277 = .ok (.iconst 1, 1) := by decide +kernel
theorem dL_law_278 : decode cL_law 278 = .ok (.iadd, 1) := by decide +kernel
theorem dL_law_279 : decode cL_law 279 = .ok (.iaload, 1) := by decide +kernel
theorem dL_law_280 : decode cL_law 280 = .ok (.aload_n 0, 1) := by decide +kernel
theorem dL_law_281 : decode cL_law 281 = .ok (.iload 4, 2) := by decide +kernel
theorem dL_law_283 : decode cL_law 283 = .ok (.iconst 2, 1) := by decide +kernel
theorem dL_law_284 : decode cL_law 284 = .ok (.iadd, 1) := by decide +kernel
theorem dL_law_285 : decode cL_law 285 = .ok (.iaload, 1) := by decide +kernel
theorem dL_law_286 : decode cL_law 286 = .ok (.aload_n 0, 1) := by decide +kernel
theorem dL_law_287 : decode cL_law 287 = .ok (.iload 4, 2) := by decide +kernel
theorem dL_law_289 : decode cL_law 289 = .ok (.iconst 3, 1) := by decide +kernel
theorem dL_law_290 : decode cL_law 290 = .ok (.iadd, 1) := by decide +kernel
theorem dL_law_291 : decode cL_law 291 = .ok (.iaload, 1) := by decide +kernel
theorem dL_law_292 : decode cL_law 292 = .ok (.ifCond .eq 7, 3) := by decide +kernel
theorem dL_law_295 : decode cL_law 295 = .ok (.iconst 1, 1) := by decide +kernel
theorem dL_law_296 : decode cL_law 296 = .ok (.goto 4, 3) := by decide +kernel
theorem dL_law_299 : decode cL_law 299 = .ok (.iconst 0, 1) := by decide +kernel
theorem dL_law_300 : decode cL_law 300 = .ok (.invokevirtual 95, 3) := by decide +kernel
theorem dL_law_303 : decode cL_law 303 = .ok (.istore 6, 2) := by decide +kernel
theorem dL_law_305 : decode cL_law 305 = .ok (.aload_n 2, 1) := by decide +kernel
theorem dL_law_306 : decode cL_law 306 = .ok (.invokevirtual 85, 3) := by decide +kernel
theorem dL_law_309 : decode cL_law 309 = .ok (.iload 5, 2) := by decide +kernel
theorem dL_law_311 : decode cL_law 311 = .ok (.if_icmp .eq 5, 3) := by decide +kernel
theorem dL_law_314 : decode cL_law 314 = .ok (.iconst 0, 1) := by decide +kernel
theorem dL_law_315 : decode cL_law 315 = .ok (.ireturn, 1) := by decide +kernel
theorem dL_law_316 : decode cL_law 316 = .ok (.iload 5, 2) := by decide +kernel
theorem dL_law_318 : decode cL_law 318 = .ok (.ifCond .ne 22, 3) := by decide +kernel
theorem dL_law_321 : decode cL_law 321 = .ok (.aload_n 3, 1) := by decide +kernel
theorem dL_law_322 : decode cL_law 322 = .ok (.iconst 0, 1) := by decide +kernel
theorem dL_law_323 : decode cL_law 323 = .ok (.laload, 1) := by decide +kernel
theorem dL_law_324 : decode cL_law 324 = .ok (.iload 6, 2) := by decide +kernel
theorem dL_law_326 : decode cL_law 326 = .ok (.ifCond .eq 7, 3) := by decide +kernel
theorem dL_law_329 : decode cL_law 329 = .ok (.lconst 1, 1) := by decide +kernel
theorem dL_law_330 : decode cL_law 330 = .ok (.goto 4, 3) := by decide +kernel
theorem dL_law_333 : decode cL_law 333 = .ok (.lconst 0, 1) := by decide +kernel
theorem dL_law_334 : decode cL_law 334 = .ok (.lcmp, 1) := by decide +kernel
