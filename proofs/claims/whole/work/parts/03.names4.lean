theorem dX6_may_3 : decode cX6_may 3 = .ok (.istore 4, 2) := by decide +kernel
theorem dX6_may_5 : decode cX6_may 5 = .ok (.iload 4, 2) := by decide +kernel
theorem dX6_may_7 : decode cX6_may 7 = .ok (.iconst (-1), 1) := by decide +kernel
theorem dX6_may_8 : decode cX6_may 8 = .ok (.if_icmp .eq 30, 3) := by decide +kernel
theorem dX6_may_11 : decode cX6_may 11 = .ok (.iload_n 3, 1) := by decide +kernel
theorem dX6_may_12 : decode cX6_may 12 = .ok (.aload_n 0, 1) := by decide +kernel
theorem dX6_may_13 : decode cX6_may 13 = .ok (.getfield 16, 3) := by decide +kernel
theorem dX6_may_16 : decode cX6_may 16 = .ok (.bipush 14, 2) := by decide +kernel
theorem dX6_may_18 : decode cX6_may 18 = .ok (.iload_n 1, 1) := by decide +kernel
theorem dX6_may_19 : decode cX6_may 19 = .ok (.imul, 1) := by decide +kernel
theorem dX6_may_20 : decode cX6_may 20 = .ok (.iload 4, 2) := by decide +kernel
theorem dX6_may_22 : decode cX6_may 22 = .ok (.iadd, 1) := by decide +kernel
theorem dX6_may_23 : decode cX6_may 23 = .ok (.baload, 1) := by decide +kernel
theorem dX6_may_24 : decode cX6_may 24 = .ok (.ior, 1) := by decide +kernel
theorem dX6_may_25 : decode cX6_may 25 = .ok (.istore_n 3, 1) := by decide +kernel
theorem dX6_may_26 : decode cX6_may 26 = .ok (.aload_n 0, 1) := by decide +kernel
theorem dX6_may_27 : decode cX6_may 27 = .ok (.getfield 7, 3) := by decide +kernel
theorem dX6_may_30 : decode cX6_may 30 = .ok (.iload 4, 2) := by decide +kernel
theorem dX6_may_32 : decode cX6_may 32 = .ok (.iaload, 1) := by decide +kernel
theorem dX6_may_33 : decode cX6_may 33 = .ok (.istore 4, 2) := by decide +kernel
theorem dX6_may_35 : decode cX6_may 35 = .ok (.goto (-30), 3) := by decide +kernel
theorem dX6_may_38 : decode cX6_may 38 = .ok (.iload_n 3, 1) := by decide +kernel
theorem dX6_may_39 : decode cX6_may 39 = .ok (.ireturn, 1) := by decide +kernel
set_option maxRecDepth 20000 in
theorem ggX6_put_X6_isCell : GoodIn wsX6_put wsX6_isCell := goodIn_r _ [12, 13, 14, 15, 11, 16, 17, 18, 19, 20, 21, 22, 23, 24, 25, 29, 30, 31, 32, 33, 34, 35, 36, 37, 38, 39, 40, 41, 42, 43, 44, 45, 46, 47, 48, 49] (by decide +kernel) (by decide +kernel)
set_option maxRecDepth 20000 in
theorem gX6_put_X6_isCell : GoodIn wsX6_put (wsV RX6 74 RX6 yX6_isCell wsX6_isCell) := goodIn_app (goodIn_of _ (by decide +kernel)) ggX6_put_X6_isCell
set_option maxRecDepth 20000 in
theorem ggX6_put_X6_isIn : GoodIn wsX6_put wsX6_isIn := goodIn_r _ [20] (by decide +kernel) (by decide +kernel)
set_option maxRecDepth 20000 in
theorem gX6_put_X6_isIn : GoodIn wsX6_put (va_wsS RX6 57 yX6_isIn wsX6_isIn) := goodIn_app (goodIn_of _ (by decide +kernel)) ggX6_put_X6_isIn
set_option maxRecDepth 20000 in
theorem ggX6_put_X6_cellOf : GoodIn wsX6_put wsX6_cellOf := goodIn_r _ [28] (by decide +kernel) (by decide +kernel)
set_option maxRecDepth 20000 in
theorem gX6_put_X6_cellOf : GoodIn wsX6_put (va_wsS RX6 82 yX6_cellOf wsX6_cellOf) := goodIn_app (goodIn_of _ (by decide +kernel)) ggX6_put_X6_cellOf
theorem dX6_put_0 : decode cX6_put 0 = .ok (.aload_n 0, 1) := by decide +kernel
theorem dX6_put_1 : decode cX6_put 1 = .ok (.aload_n 0, 1) := by decide +kernel
theorem dX6_put_2 : decode cX6_put 2 = .ok (.iload_n 2, 1) := by decide +kernel
theorem dX6_put_3 : decode cX6_put 3 = .ok (.iload_n 3, 1) := by decide +kernel
theorem dX6_put_4 : decode cX6_put 4 = .ok (.iload 4, 2) := by decide +kernel
theorem dX6_put_6 : decode cX6_put 6 = .ok (.invokevirtual 74, 3) := by decide +kernel
theorem dX6_put_9 : decode cX6_put 9 = .ok (.ifCond .ne 7, 3) := by decide +kernel
theorem dX6_put_12 : decode cX6_put 12 = .ok (.iconst 1, 1) := by decide +kernel
theorem dX6_put_13 : decode cX6_put 13 = .ok (.goto 42, 3) := by decide +kernel
theorem dX6_put_16 : decode cX6_put 16 = .ok (.iload_n 1, 1) := by decide +kernel
theorem dX6_put_17 : decode cX6_put 17 = .ok (.iconst 0, 1) := by decide +kernel
theorem dX6_put_18 : decode cX6_put 18 = .ok (.iconst 2, 1) := by decide +kernel
theorem dX6_put_19 : decode cX6_put 19 = .ok (.invokestatic 57, 3) := by decide +kernel
theorem dX6_put_22 : decode cX6_put 22 = .ok (.ifCond .eq 15, 3) := by decide +kernel
theorem dX6_put_25 : decode cX6_put 25 = .ok (.iload 5, 2) := by decide +kernel
theorem dX6_put_27 : decode cX6_put 27 = .ok (.ldc 77, 2) := by decide +kernel
theorem dX6_put_29 : decode cX6_put 29 = .ok (.ldc 78, 2) := by decide +kernel
theorem dX6_put_31 : decode cX6_put 31 = .ok (.invokestatic 57, 3) := by decide +kernel
theorem dX6_put_34 : decode cX6_put 34 = .ok (.ifCond .ne 7, 3) := by decide +kernel
theorem dX6_put_37 : decode cX6_put 37 = .ok (.iconst 2, 1) := by decide +kernel
theorem dX6_put_38 : decode cX6_put 38 = .ok (.goto 17, 3) := by decide +kernel
theorem dX6_put_41 : decode cX6_put 41 = .ok (.aload_n 0, 1) := by decide +kernel
theorem dX6_put_42 : decode cX6_put 42 = .ok (.getfield 79, 3) := by decide +kernel
theorem dX6_put_45 : decode cX6_put 45 = .ok (.bipush 16, 2) := by decide +kernel
theorem dX6_put_47 : decode cX6_put 47 = .ok (.if_icmp .ne 7, 3) := by decide +kernel
theorem dX6_put_50 : decode cX6_put 50 = .ok (.iconst 3, 1) := by decide +kernel
theorem dX6_put_51 : decode cX6_put 51 = .ok (.goto 4, 3) := by decide +kernel
theorem dX6_put_54 : decode cX6_put 54 = .ok (.iconst 0, 1) := by decide +kernel
theorem dX6_put_55 : decode cX6_put 55 = .ok (.putfield 50, 3) := by decide +kernel
theorem dX6_put_58 : decode cX6_put 58 = .ok (.aload_n 0, 1) := by decide +kernel
theorem dX6_put_59 : decode cX6_put 59 = .ok (.getfield 50, 3) := by decide +kernel
theorem dX6_put_62 : decode cX6_put 62 = .ok (.ifCond .le 5, 3) := by decide +kernel
theorem dX6_put_65 : decode cX6_put 65 = .ok (.iconst 0, 1) := by decide +kernel
theorem dX6_put_66 : decode cX6_put 66 = .ok (.ireturn, 1) := by decide +kernel
theorem dX6_put_67 : decode cX6_put 67 = .ok (.aload_n 0, 1) := by decide +kernel
theorem dX6_put_68 : decode cX6_put 68 = .ok (.getfield 20, 3) := by decide +kernel
theorem dX6_put_71 : decode cX6_put 71 = .ok (.aload_n 0, 1) := by decide +kernel
theorem dX6_put_72 : decode cX6_put 72 = .ok (.getfield 79, 3) := by decide +kernel
theorem dX6_put_75 : decode cX6_put 75 = .ok (.iload_n 1, 1) := by decide +kernel
theorem dX6_put_76 : decode cX6_put 76 = .ok (.iastore, 1) := by decide +kernel
theorem dX6_put_77 : decode cX6_put 77 = .ok (.aload_n 0, 1) := by decide +kernel
theorem dX6_put_78 : decode cX6_put 78 = .ok (.getfield 23, 3) := by decide +kernel
theorem dX6_put_81 : decode cX6_put 81 = .ok (.aload_n 0, 1) := by decide +kernel
theorem dX6_put_82 : decode cX6_put 82 = .ok (.getfield 79, 3) := by decide +kernel
theorem dX6_put_85 : decode cX6_put 85 = .ok (.iload_n 2, 1) := by decide +kernel
theorem dX6_put_86 : decode cX6_put 86 = .ok (.iload_n 3, 1) := by decide +kernel
theorem dX6_put_87 : decode cX6_put 87 = .ok (.iload 4, 2) := by decide +kernel
theorem dX6_put_89 : decode cX6_put 89 = .ok (.invokestatic 82, 3) := by decide +kernel
theorem dX6_put_92 : decode cX6_put 92 = .ok (.iastore, 1) := by decide +kernel
theorem dX6_put_93 : decode cX6_put 93 = .ok (.aload_n 0, 1) := by decide +kernel
theorem dX6_put_94 : decode cX6_put 94 = .ok (.getfield 26, 3) := by decide +kernel
theorem dX6_put_97 : decode cX6_put 97 = .ok (.aload_n 0, 1) := by decide +kernel
theorem dX6_put_98 : decode cX6_put 98 = .ok (.getfield 79, 3) := by decide +kernel
theorem dX6_put_101 : decode cX6_put 101 = .ok (.iload 5, 2) := by decide +kernel
theorem dX6_put_103 : decode cX6_put 103 = .ok (.iastore, 1) := by decide +kernel
theorem dX6_put_104 : decode cX6_put 104 = .ok (.aload_n 0, 1) := by decide +kernel
theorem dX6_put_105 : decode cX6_put 105 = .ok (.dup, 1) := by decide +kernel
theorem dX6_put_106 : decode cX6_put 106 = .ok (.getfield 79, 3) := by decide +kernel
theorem dX6_put_109 : decode cX6_put 109 = .ok (.iconst 1, 1) := by decide +kernel
theorem dX6_put_110 : decode cX6_put 110 = .ok (.iadd, 1) := by decide +kernel
theorem dX6_put_111 : decode cX6_put 111 = .ok (.putfield 79, 3) := by decide +kernel
theorem dX6_put_114 : decode cX6_put 114 = .ok (.aload_n 0, 1) := by decide +kernel
theorem dX6_put_115 : decode cX6_put 115 = .ok (.getfield 79, 3) := by decide +kernel
theorem dX6_put_118 : decode cX6_put 118 = .ok (.ireturn, 1) := by decide +kernel
theorem dX6_wipe_0 : decode cX6_wipe 0 = .ok (.aload_n 0, 1) := by decide +kernel
theorem dX6_wipe_1 : decode cX6_wipe 1 = .ok (.iconst 0, 1) := by decide +kernel
theorem dX6_wipe_2 : decode cX6_wipe 2 = .ok (.putfield 50, 3) := by decide +kernel
theorem dX6_wipe_5 : decode cX6_wipe 5 = .ok (.aload_n 0, 1) := by decide +kernel
theorem dX6_wipe_6 : decode cX6_wipe 6 = .ok (.getfield 79, 3) := by decide +kernel
theorem dX6_wipe_9 : decode cX6_wipe 9 = .ok (.istore_n 1, 1) := by decide +kernel
theorem dX6_wipe_10 : decode cX6_wipe 10 = .ok (.aload_n 0, 1) := by decide +kernel
theorem dX6_wipe_11 : decode cX6_wipe 11 = .ok (.iconst 0, 1) := by decide +kernel
theorem dX6_wipe_12 : decode cX6_wipe 12 = .ok (.putfield 79, 3) := by decide +kernel
theorem dX6_wipe_15 : decode cX6_wipe 15 = .ok (.iload_n 1, 1) := by decide +kernel
theorem dX6_wipe_16 : decode cX6_wipe 16 = .ok (.ireturn, 1) := by decide +kernel
theorem dX6_figureOn_0 : decode cX6_figureOn 0 = .ok (.ldc 86, 2) := by decide +kernel
theorem dX6_figureOn_2 : decode cX6_figureOn 2 = .ok (.istore_n 3, 1) := by decide +kernel
theorem dX6_figureOn_3 : decode cX6_figureOn 3 = .ok (.iconst 0, 1) := by decide +kernel
theorem dX6_figureOn_4 : decode cX6_figureOn 4 = .ok (.istore 4, 2) := by decide +kernel
theorem dX6_figureOn_6 : decode cX6_figureOn 6 = .ok (.iload 4, 2) := by decide +kernel
theorem dX6_figureOn_8 : decode cX6_figureOn 8 = .ok (.aload_n 0, 1) := by decide +kernel
theorem dX6_figureOn_9 : decode cX6_figureOn 9 = .ok (.getfield 87, 3) := by decide +kernel
theorem dX6_figureOn_12 : decode cX6_figureOn 12 = .ok (.if_icmp .ge 43, 3) := by decide +kernel
theorem dX6_figureOn_15 : decode cX6_figureOn 15 = .ok (.aload_n 0, 1) := by decide +kernel
theorem dX6_figureOn_16 : decode cX6_figureOn 16 = .ok (.getfield 32, 3) := by decide +kernel
theorem dX6_figureOn_19 : decode cX6_figureOn 19 = .ok (.iload 4, 2) := by decide +kernel
theorem dX6_figureOn_21 : decode cX6_figureOn 21 = .ok (.iaload, 1) := by decide +kernel
theorem dX6_figureOn_22 : decode cX6_figureOn 22 = .ok (.iload_n 1, 1) := by decide +kernel
theorem dX6_figureOn_23 : decode cX6_figureOn 23 = .ok (.if_icmp .ne 24, 3) := by decide +kernel
theorem dX6_figureOn_26 : decode cX6_figureOn 26 = .ok (.aload_n 0, 1) := by decide +kernel
theorem dX6_figureOn_27 : decode cX6_figureOn 27 = .ok (.getfield 35, 3) := by decide +kernel
theorem dX6_figureOn_30 : decode cX6_figureOn 30 = .ok (.iload 4, 2) := by decide +kernel
theorem dX6_figureOn_32 : decode cX6_figureOn 32 = .ok (.iaload, 1) := by decide +kernel
theorem dX6_figureOn_33 : decode cX6_figureOn 33 = .ok (.iload_n 2, 1) := by decide +kernel
theorem dX6_figureOn_34 : decode cX6_figureOn 34 = .ok (.if_icmp .gt 13, 3) := by decide +kernel
theorem dX6_figureOn_37 : decode cX6_figureOn 37 = .ok (.aload_n 0, 1) := by decide +kernel
theorem dX6_figureOn_38 : decode cX6_figureOn 38 = .ok (.getfield 38, 3) := by decide +kernel
theorem dX6_figureOn_41 : decode cX6_figureOn 41 = .ok (.iload 4, 2) := by decide +kernel
theorem dX6_figureOn_43 : decode cX6_figureOn 43 = .ok (.iaload, 1) := by decide +kernel
theorem dX6_figureOn_44 : decode cX6_figureOn 44 = .ok (.goto 4, 3) := by decide +kernel
theorem dX6_figureOn_47 : decode cX6_figureOn 47 = .ok (.iload_n 3, 1) := by decide +kernel
theorem dX6_figureOn_48 : decode cX6_figureOn 48 = .ok (.istore_n 3, 1) := by decide +kernel
theorem dX6_figureOn_49 : decode cX6_figureOn 49 = .ok (.iinc 4 1, 3) := by decide +kernel
theorem dX6_figureOn_52 : decode cX6_figureOn 52 = .ok (.goto (-46), 3) := by decide +kernel
theorem dX6_figureOn_55 : decode cX6_figureOn 55 = .ok (.iload_n 3, 1) := by decide +kernel
theorem dX6_figureOn_56 : decode cX6_figureOn 56 = .ok (.ireturn, 1) := by decide +kernel
set_option maxRecDepth 20000 in
theorem ggX6_judges_X6_figureOn : GoodIn wsX6_judges wsX6_figureOn := goodIn_r _ [10, 4, 11, 12, 13, 14, 21, 22, 23, 24, 25, 26, 27, 28, 29, 30, 31, 32, 33, 34, 35, 36, 37, 38, 39, 40, 41] (by decide +kernel) (by decide +kernel)
set_option maxRecDepth 20000 in
theorem gX6_judges_X6_figureOn : GoodIn wsX6_judges (wsV RX6 93 RX6 yX6_figureOn wsX6_figureOn) := goodIn_app (goodIn_of _ (by decide +kernel)) ggX6_judges_X6_figureOn
set_option maxRecDepth 20000 in
theorem ggX6_judges_X6_may : GoodIn wsX6_judges wsX6_may := goodIn_r _ [18, 19, 20, 21, 22, 23, 24, 25, 26, 27, 28, 29, 30, 31, 32, 33, 34, 35, 36, 37, 38, 39, 40, 41] (by decide +kernel) (by decide +kernel)
set_option maxRecDepth 20000 in
theorem gX6_judges_X6_may : GoodIn wsX6_judges (wsV RX6 97 RX6 yX6_may wsX6_may) := goodIn_app (goodIn_of _ (by decide +kernel)) ggX6_judges_X6_may
theorem dX6_judges_0 : decode cX6_judges 0 = .ok (.aload_n 0, 1) := by decide +kernel
theorem dX6_judges_1 : decode cX6_judges 1 = .ok (.getfield 23, 3) := by decide +kernel
theorem dX6_judges_4 : decode cX6_judges 4 = .ok (.iload_n 2, 1) := by decide +kernel
theorem dX6_judges_5 : decode cX6_judges 5 = .ok (.iaload, 1) := by decide +kernel
theorem dX6_judges_6 : decode cX6_judges 6 = .ok (.istore_n 3, 1) := by decide +kernel
theorem dX6_judges_7 : decode cX6_judges 7 = .ok (.aload_n 0, 1) := by decide +kernel
theorem dX6_judges_8 : decode cX6_judges 8 = .ok (.getfield 20, 3) := by decide +kernel
theorem dX6_judges_11 : decode cX6_judges 11 = .ok (.iload_n 2, 1) := by decide +kernel
theorem dX6_judges_12 : decode cX6_judges 12 = .ok (.iaload, 1) := by decide +kernel
theorem dX6_judges_13 : decode cX6_judges 13 = .ok (.istore 4, 2) := by decide +kernel
theorem dX6_judges_15 : decode cX6_judges 15 = .ok (.aload_n 0, 1) := by decide +kernel
theorem dX6_judges_16 : decode cX6_judges 16 = .ok (.iload_n 3, 1) := by decide +kernel
theorem dX6_judges_17 : decode cX6_judges 17 = .ok (.aload_n 0, 1) := by decide +kernel
theorem dX6_judges_18 : decode cX6_judges 18 = .ok (.getfield 90, 3) := by decide +kernel
theorem dX6_judges_21 : decode cX6_judges 21 = .ok (.invokevirtual 93, 3) := by decide +kernel
theorem dX6_judges_24 : decode cX6_judges 24 = .ok (.istore 5, 2) := by decide +kernel
theorem dX6_judges_26 : decode cX6_judges 26 = .ok (.aload_n 0, 1) := by decide +kernel
theorem dX6_judges_27 : decode cX6_judges 27 = .ok (.iload_n 1, 1) := by decide +kernel
theorem dX6_judges_28 : decode cX6_judges 28 = .ok (.iload_n 3, 1) := by decide +kernel
theorem dX6_judges_29 : decode cX6_judges 29 = .ok (.sipush 140, 3) := by decide +kernel
theorem dX6_judges_32 : decode cX6_judges 32 = .ok (.irem, 1) := by decide +kernel
theorem dX6_judges_33 : decode cX6_judges 33 = .ok (.bipush 10, 2) := by decide +kernel
theorem dX6_judges_35 : decode cX6_judges 35 = .ok (.idiv, 1) := by decide +kernel
theorem dX6_judges_36 : decode cX6_judges 36 = .ok (.invokevirtual 97, 3) := by decide +kernel
theorem dX6_judges_39 : decode cX6_judges 39 = .ok (.ifCond .ne 5, 3) := by decide +kernel
theorem dX6_judges_42 : decode cX6_judges 42 = .ok (.iconst 1, 1) := by decide +kernel
theorem dX6_judges_43 : decode cX6_judges 43 = .ok (.ireturn, 1) := by decide +kernel
theorem dX6_judges_44 : decode cX6_judges 44 = .ok (.iload 4, 2) := by decide +kernel
theorem dX6_judges_46 : decode cX6_judges 46 = .ok (.ifCond .ne 16, 3) := by decide +kernel
theorem dX6_judges_49 : decode cX6_judges 49 = .ok (.iload 5, 2) := by decide +kernel
theorem dX6_judges_51 : decode cX6_judges 51 = .ok (.ldc 86, 2) := by decide +kernel
theorem dX6_judges_53 : decode cX6_judges 53 = .ok (.if_icmp .eq 7, 3) := by decide +kernel
theorem dX6_judges_56 : decode cX6_judges 56 = .ok (.iconst 2, 1) := by decide +kernel
theorem dX6_judges_57 : decode cX6_judges 57 = .ok (.goto 4, 3) := by decide +kernel
theorem dX6_judges_60 : decode cX6_judges 60 = .ok (.iconst 0, 1) := by decide +kernel
theorem dX6_judges_61 : decode cX6_judges 61 = .ok (.ireturn, 1) := by decide +kernel
theorem dX6_judges_62 : decode cX6_judges 62 = .ok (.iload 5, 2) := by decide +kernel
theorem dX6_judges_64 : decode cX6_judges 64 = .ok (.ldc 86, 2) := by decide +kernel
theorem dX6_judges_66 : decode cX6_judges 66 = .ok (.if_icmp .ne 7, 3) := by decide +kernel
theorem dX6_judges_69 : decode cX6_judges 69 = .ok (.iconst 3, 1) := by decide +kernel
theorem dX6_judges_70 : decode cX6_judges 70 = .ok (.goto 25, 3) := by decide +kernel
theorem dX6_judges_73 : decode cX6_judges 73 = .ok (.iload 4, 2) := by decide +kernel
theorem dX6_judges_75 : decode cX6_judges 75 = .ok (.iconst 1, 1) := by decide +kernel
theorem dX6_judges_76 : decode cX6_judges 76 = .ok (.if_icmp .ne 18, 3) := by decide +kernel
theorem dX6_judges_79 : decode cX6_judges 79 = .ok (.iload 5, 2) := by decide +kernel
theorem dX6_judges_81 : decode cX6_judges 81 = .ok (.aload_n 0, 1) := by decide +kernel
theorem dX6_judges_82 : decode cX6_judges 82 = .ok (.getfield 26, 3) := by decide +kernel
theorem dX6_judges_85 : decode cX6_judges 85 = .ok (.iload_n 2, 1) := by decide +kernel
theorem dX6_judges_86 : decode cX6_judges 86 = .ok (.iaload, 1) := by decide +kernel
theorem dX6_judges_87 : decode cX6_judges 87 = .ok (.if_icmp .ne 7, 3) := by decide +kernel
theorem dX6_judges_90 : decode cX6_judges 90 = .ok (.iconst 4, 1) := by decide +kernel
theorem dX6_judges_91 : decode cX6_judges 91 = .ok (.goto 4, 3) := by decide +kernel
theorem dX6_judges_94 : decode cX6_judges 94 = .ok (.iconst 0, 1) := by decide +kernel
theorem dX6_judges_95 : decode cX6_judges 95 = .ok (.ireturn, 1) := by decide +kernel
set_option maxRecDepth 20000 in
theorem ggX6_send_X6_isSender : GoodIn wsX6_send wsX6_isSender := goodIn_r _ [18, 19, 20, 17, 21] (by decide +kernel) (by decide +kernel)
set_option maxRecDepth 20000 in
theorem gX6_send_X6_isSender : GoodIn wsX6_send (va_wsS RX6 71 yX6_isSender wsX6_isSender) := goodIn_app (goodIn_of _ (by decide +kernel)) ggX6_send_X6_isSender
set_option maxRecDepth 20000 in
theorem ggX6_send_X6_judges : GoodIn wsX6_send wsX6_judges := goodIn_r _ [25, 7, 11, 9, 12, 13, 26, 27, 28, 17, 29, 6, 5, 8, 10, 30, 31, 32, 33, 34, 35, 36, 37, 38, 39, 40, 41, 42, 43, 44, 45, 46, 47, 48, 49, 50, 51, 52, 53, 54, 55, 56] (by decide +kernel) (by decide +kernel)
set_option maxRecDepth 20000 in
theorem gX6_send_X6_judges : GoodIn wsX6_send (wsV RX6 104 RX6 yX6_judges wsX6_judges) := goodIn_app (goodIn_of _ (by decide +kernel)) ggX6_send_X6_judges
theorem dX6_send_0 : decode cX6_send 0 = .ok (.aload_n 0, 1) := by decide +kernel
theorem dX6_send_1 : decode cX6_send 1 = .ok (.iload_n 1, 1) := by decide +kernel
theorem dX6_send_2 : decode cX6_send 2 = .ok (.invokestatic 71, 3) := by decide +kernel
theorem dX6_send_5 : decode cX6_send 5 = .ok (.ifCond .ne 7, 3) := by decide +kernel
theorem dX6_send_8 : decode cX6_send 8 = .ok (.iconst 1, 1) := by decide +kernel
theorem dX6_send_9 : decode cX6_send 9 = .ok (.goto 30, 3) := by decide +kernel
theorem dX6_send_12 : decode cX6_send 12 = .ok (.aload_n 0, 1) := by decide +kernel
theorem dX6_send_13 : decode cX6_send 13 = .ok (.getfield 79, 3) := by decide +kernel
theorem dX6_send_16 : decode cX6_send 16 = .ok (.ifCond .eq 18, 3) := by decide +kernel
theorem dX6_send_19 : decode cX6_send 19 = .ok (.aload_n 0, 1) := by decide +kernel
theorem dX6_send_20 : decode cX6_send 20 = .ok (.getfield 101, 3) := by decide +kernel
theorem dX6_send_23 : decode cX6_send 23 = .ok (.aload_n 0, 1) := by decide +kernel
theorem dX6_send_24 : decode cX6_send 24 = .ok (.getfield 79, 3) := by decide +kernel
theorem dX6_send_27 : decode cX6_send 27 = .ok (.iadd, 1) := by decide +kernel
theorem dX6_send_28 : decode cX6_send 28 = .ok (.sipush 300, 3) := by decide +kernel
theorem dX6_send_31 : decode cX6_send 31 = .ok (.if_icmp .le 7, 3) := by decide +kernel
theorem dX6_send_34 : decode cX6_send 34 = .ok (.iconst 2, 1) := by decide +kernel
theorem dX6_send_35 : decode cX6_send 35 = .ok (.goto 4, 3) := by decide +kernel
theorem dX6_send_38 : decode cX6_send 38 = .ok (.iconst 0, 1) := by decide +kernel
theorem dX6_send_39 : decode cX6_send 39 = .ok (.putfield 50, 3) := by decide +kernel
theorem dX6_send_42 : decode cX6_send 42 = .ok (.aload_n 0, 1) := by decide +kernel
theorem dX6_send_43 : decode cX6_send 43 = .ok (.getfield 50, 3) := by decide +kernel
theorem dX6_send_46 : decode cX6_send 46 = .ok (.ifCond .le 5, 3) := by decide +kernel
theorem dX6_send_49 : decode cX6_send 49 = .ok (.iconst 0, 1) := by decide +kernel
theorem dX6_send_50 : decode cX6_send 50 = .ok (.ireturn, 1) := by decide +kernel
theorem dX6_send_51 : decode cX6_send 51 = .ok (.iconst 0, 1) := by decide +kernel
theorem dX6_send_52 : decode cX6_send 52 = .ok (.istore_n 2, 1) := by decide +kernel
theorem dX6_send_53 : decode cX6_send 53 = .ok (.iconst 0, 1) := by decide +kernel
theorem dX6_send_54 : decode cX6_send 54 = .ok (.istore_n 3, 1) := by decide +kernel
theorem dX6_send_55 : decode cX6_send 55 = .ok (.iload_n 3, 1) := by decide +kernel
theorem dX6_send_56 : decode cX6_send 56 = .ok (.aload_n 0, 1) := by decide +kernel
theorem dX6_send_57 : decode cX6_send 57 = .ok (.getfield 79, 3) := by decide +kernel
theorem dX6_send_60 : decode cX6_send 60 = .ok (.if_icmp .ge 101, 3) := by decide +kernel
theorem dX6_send_63 : decode cX6_send 63 = .ok (.aload_n 0, 1) := by decide +kernel
theorem dX6_send_64 : decode cX6_send 64 = .ok (.getfield 29, 3) := by decide +kernel
theorem dX6_send_67 : decode cX6_send 67 = .ok (.iload_n 3, 1) := by decide +kernel
theorem dX6_send_68 : decode cX6_send 68 = .ok (.aload_n 0, 1) := by decide +kernel
theorem dX6_send_69 : decode cX6_send 69 = .ok (.iload_n 1, 1) := by decide +kernel
theorem dX6_send_70 : decode cX6_send 70 = .ok (.iload_n 3, 1) := by decide +kernel
theorem dX6_send_71 : decode cX6_send 71 = .ok (.invokevirtual 104, 3) := by decide +kernel
theorem dX6_send_74 : decode cX6_send 74 = .ok (.iastore, 1) := by decide +kernel
theorem dX6_send_75 : decode cX6_send 75 = .ok (.aload_n 0, 1) := by decide +kernel
theorem dX6_send_76 : decode cX6_send 76 = .ok (.getfield 29, 3) := by decide +kernel
theorem dX6_send_79 : decode cX6_send 79 = .ok (.iload_n 3, 1) := by decide +kernel
theorem dX6_send_80 : decode cX6_send 80 = .ok (.iaload, 1) := by decide +kernel
theorem dX6_send_81 : decode cX6_send 81 = .ok (.ifCond .ne 74, 3) := by decide +kernel
theorem dX6_send_84 : decode cX6_send 84 = .ok (.aload_n 0, 1) := by decide +kernel
theorem dX6_send_85 : decode cX6_send 85 = .ok (.getfield 32, 3) := by decide +kernel
theorem dX6_send_88 : decode cX6_send 88 = .ok (.aload_n 0, 1) := by decide +kernel
theorem dX6_send_89 : decode cX6_send 89 = .ok (.getfield 87, 3) := by decide +kernel
theorem dX6_send_92 : decode cX6_send 92 = .ok (.aload_n 0, 1) := by decide +kernel
theorem dX6_send_93 : decode cX6_send 93 = .ok (.getfield 23, 3) := by decide +kernel
theorem dX6_send_96 : decode cX6_send 96 = .ok (.iload_n 3, 1) := by decide +kernel
theorem dX6_send_97 : decode cX6_send 97 = .ok (.iaload, 1) := by decide +kernel
theorem dX6_send_98 : decode cX6_send 98 = .ok (.iastore, 1) := by decide +kernel
theorem dX6_send_99 : decode cX6_send 99 = .ok (.aload_n 0, 1) := by decide +kernel
theorem dX6_send_100 : decode cX6_send 100 = .ok (.getfield 35, 3) := by decide +kernel
theorem dX6_send_103 : decode cX6_send 103 = .ok (.aload_n 0, 1) := by decide +kernel
theorem dX6_send_104 : decode cX6_send 104 = .ok (.getfield 87, 3) := by decide +kernel
theorem dX6_send_107 : decode cX6_send 107 = .ok (.aload_n 0, 1) := by decide +kernel
theorem dX6_send_108 : decode cX6_send 108 = .ok (.getfield 90, 3) := by decide +kernel
theorem dX6_send_111 : decode cX6_send 111 = .ok (.iastore, 1) := by decide +kernel
theorem dX6_send_112 : decode cX6_send 112 = .ok (.aload_n 0, 1) := by decide +kernel
theorem dX6_send_113 : decode cX6_send 113 = .ok (.getfield 38, 3) := by decide +kernel
theorem dX6_send_116 : decode cX6_send 116 = .ok (.aload_n 0, 1) := by decide +kernel
theorem dX6_send_117 : decode cX6_send 117 = .ok (.getfield 87, 3) := by decide +kernel
theorem dX6_send_120 : decode cX6_send 120 = .ok (.aload_n 0, 1) := by decide +kernel
theorem dX6_send_121 : decode cX6_send 121 = .ok (.getfield 20, 3) := by decide +kernel
theorem dX6_send_124 : decode cX6_send 124 = .ok (.iload_n 3, 1) := by decide +kernel
theorem dX6_send_125 : decode cX6_send 125 = .ok (.iaload, 1) := by decide +kernel
theorem dX6_send_126 : decode cX6_send 126 = .ok (.iconst 2, 1) := by decide +kernel
theorem dX6_send_127 : decode cX6_send 127 = .ok (.if_icmp .ne 8, 3) := by decide +kernel
theorem dX6_send_130 : decode cX6_send 130 = .ok (.ldc 86, 2) := by decide +kernel
theorem dX6_send_132 : decode cX6_send 132 = .ok (.goto 9, 3) := by decide +kernel
theorem dX6_send_135 : decode cX6_send 135 = .ok (.aload_n 0, 1) := by decide +kernel
theorem dX6_send_136 : decode cX6_send 136 = .ok (.getfield 26, 3) := by decide +kernel
theorem dX6_send_139 : decode cX6_send 139 = .ok (.iload_n 3, 1) := by decide +kernel
theorem dX6_send_140 : decode cX6_send 140 = .ok (.iaload, 1) := by decide +kernel
theorem dX6_send_141 : decode cX6_send 141 = .ok (.iastore, 1) := by decide +kernel
theorem dX6_send_142 : decode cX6_send 142 = .ok (.aload_n 0, 1) := by decide +kernel
theorem dX6_send_143 : decode cX6_send 143 = .ok (.dup, 1) := by decide +kernel
theorem dX6_send_144 : decode cX6_send 144 = .ok (.getfield 87, 3) := by decide +kernel
theorem dX6_send_147 : decode cX6_send 147 = .ok (.iconst 1, 1) := by decide +kernel
theorem dX6_send_148 : decode cX6_send 148 = .ok (.iadd, 1) := by decide +kernel
theorem dX6_send_149 : decode cX6_send 149 = .ok (.putfield 87, 3) := by decide +kernel
theorem dX6_send_152 : decode cX6_send 152 = .ok (.iinc 2 1, 3) := by decide +kernel
theorem dX6_send_155 : decode cX6_send 155 = .ok (.iinc 3 1, 3) := by decide +kernel
theorem dX6_send_158 : decode cX6_send 158 = .ok (.goto (-103), 3) := by decide +kernel
theorem dX6_send_161 : decode cX6_send 161 = .ok (.aload_n 0, 1) := by decide +kernel
theorem dX6_send_162 : decode cX6_send 162 = .ok (.aload_n 0, 1) := by decide +kernel
theorem dX6_send_163 : decode cX6_send 163 = .ok (.getfield 79, 3) := by decide +kernel
theorem dX6_send_166 : decode cX6_send 166 = .ok (.putfield 107, 3) := by decide +kernel
theorem dX6_send_169 : decode cX6_send 169 = .ok (.aload_n 0, 1) := by decide +kernel
theorem dX6_send_170 : decode cX6_send 170 = .ok (.dup, 1) := by decide +kernel
theorem dX6_send_171 : decode cX6_send 171 = .ok (.getfield 101, 3) := by decide +kernel
theorem dX6_send_174 : decode cX6_send 174 = .ok (.aload_n 0, 1) := by decide +kernel
theorem dX6_send_175 : decode cX6_send 175 = .ok (.getfield 79, 3) := by decide +kernel
theorem dX6_send_178 : decode cX6_send 178 = .ok (.iadd, 1) := by decide +kernel
theorem dX6_send_179 : decode cX6_send 179 = .ok (.putfield 101, 3) := by decide +kernel
theorem dX6_send_182 : decode cX6_send 182 = .ok (.aload_n 0, 1) := by decide +kernel
theorem dX6_send_183 : decode cX6_send 183 = .ok (.iconst 0, 1) := by decide +kernel
theorem dX6_send_184 : decode cX6_send 184 = .ok (.putfield 79, 3) := by decide +kernel
theorem dX6_send_187 : decode cX6_send 187 = .ok (.iload_n 2, 1) := by decide +kernel
theorem dX6_send_188 : decode cX6_send 188 = .ok (.ireturn, 1) := by decide +kernel
set_option maxRecDepth 20000 in
theorem ggX6_refusal_X6_isIn : GoodIn wsX6_refusal wsX6_isIn := goodIn_r _ [7] (by decide +kernel) (by decide +kernel)
set_option maxRecDepth 20000 in
theorem gX6_refusal_X6_isIn : GoodIn wsX6_refusal (va_wsS RX6 57 yX6_isIn wsX6_isIn) := goodIn_app (goodIn_of _ (by decide +kernel)) ggX6_refusal_X6_isIn
theorem dX6_refusal_0 : decode cX6_refusal 0 = .ok (.aload_n 0, 1) := by decide +kernel
theorem dX6_refusal_1 : decode cX6_refusal 1 = .ok (.iload_n 1, 1) := by decide +kernel
theorem dX6_refusal_2 : decode cX6_refusal 2 = .ok (.iconst 0, 1) := by decide +kernel
theorem dX6_refusal_3 : decode cX6_refusal 3 = .ok (.aload_n 0, 1) := by decide +kernel
theorem dX6_refusal_4 : decode cX6_refusal 4 = .ok (.getfield 107, 3) := by decide +kernel
theorem dX6_refusal_7 : decode cX6_refusal 7 = .ok (.iconst 1, 1) := by decide +kernel
theorem dX6_refusal_8 : decode cX6_refusal 8 = .ok (.isub, 1) := by decide +kernel
theorem dX6_refusal_9 : decode cX6_refusal 9 = .ok (.invokestatic 57, 3) := by decide +kernel
theorem dX6_refusal_12 : decode cX6_refusal 12 = .ok (.ifCond .eq 7, 3) := by decide +kernel
theorem dX6_refusal_15 : decode cX6_refusal 15 = .ok (.iconst 0, 1) := by decide +kernel
theorem dX6_refusal_16 : decode cX6_refusal 16 = .ok (.goto 4, 3) := by decide +kernel
theorem dX6_refusal_19 : decode cX6_refusal 19 = .ok (.iconst 1, 1) := by decide +kernel
theorem dX6_refusal_20 : decode cX6_refusal 20 = .ok (.putfield 50, 3) := by decide +kernel
theorem dX6_refusal_23 : decode cX6_refusal 23 = .ok (.aload_n 0, 1) := by decide +kernel
theorem dX6_refusal_24 : decode cX6_refusal 24 = .ok (.getfield 50, 3) := by decide +kernel
theorem dX6_refusal_27 : decode cX6_refusal 27 = .ok (.ifCond .le 7, 3) := by decide +kernel
theorem dX6_refusal_30 : decode cX6_refusal 30 = .ok (.iconst 0, 1) := by decide +kernel
theorem dX6_refusal_31 : decode cX6_refusal 31 = .ok (.goto 9, 3) := by decide +kernel
theorem dX6_refusal_34 : decode cX6_refusal 34 = .ok (.aload_n 0, 1) := by decide +kernel
theorem dX6_refusal_35 : decode cX6_refusal 35 = .ok (.getfield 29, 3) := by decide +kernel
theorem dX6_refusal_38 : decode cX6_refusal 38 = .ok (.iload_n 1, 1) := by decide +kernel
theorem dX6_refusal_39 : decode cX6_refusal 39 = .ok (.iaload, 1) := by decide +kernel
theorem dX6_refusal_40 : decode cX6_refusal 40 = .ok (.ireturn, 1) := by decide +kernel
theorem dX6_sumOf_0 : decode cX6_sumOf 0 = .ok (.iconst 0, 1) := by decide +kernel
theorem dX6_sumOf_1 : decode cX6_sumOf 1 = .ok (.istore 4, 2) := by decide +kernel
theorem dX6_sumOf_3 : decode cX6_sumOf 3 = .ok (.iconst 1, 1) := by decide +kernel
theorem dX6_sumOf_4 : decode cX6_sumOf 4 = .ok (.istore 5, 2) := by decide +kernel
theorem dX6_sumOf_6 : decode cX6_sumOf 6 = .ok (.iconst 0, 1) := by decide +kernel
theorem dX6_sumOf_7 : decode cX6_sumOf 7 = .ok (.istore 6, 2) := by decide +kernel
theorem dX6_sumOf_9 : decode cX6_sumOf 9 = .ok (.iconst 0, 1) := by decide +kernel
theorem dX6_sumOf_10 : decode cX6_sumOf 10 = .ok (.istore 7, 2) := by decide +kernel
theorem dX6_sumOf_12 : decode cX6_sumOf 12 = .ok (.iload 7, 2) := by decide +kernel
theorem dX6_sumOf_14 : decode cX6_sumOf 14 = .ok (.iload_n 3, 1) := by decide +kernel
theorem dX6_sumOf_15 : decode cX6_sumOf 15 = .ok (.ifCond .eq 10, 3) := by decide +kernel
theorem dX6_sumOf_18 : decode cX6_sumOf 18 = .ok (.aload_n 0, 1) := by decide +kernel
theorem dX6_sumOf_19 : decode cX6_sumOf 19 = .ok (.getfield 61, 3) := by decide +kernel
theorem dX6_sumOf_22 : decode cX6_sumOf 22 = .ok (.goto 7, 3) := by decide +kernel
theorem dX6_sumOf_25 : decode cX6_sumOf 25 = .ok (.aload_n 0, 1) := by decide +kernel
theorem dX6_sumOf_26 : decode cX6_sumOf 26 = .ok (.getfield 54, 3) := by decide +kernel
theorem dX6_sumOf_29 : decode cX6_sumOf 29 = .ok (.if_icmp .ge 108, 3) := by decide +kernel
theorem dX6_sumOf_32 : decode cX6_sumOf 32 = .ok (.iload_n 3, 1) := by decide +kernel
theorem dX6_sumOf_33 : decode cX6_sumOf 33 = .ok (.ifCond .eq 13, 3) := by decide +kernel
theorem dX6_sumOf_36 : decode cX6_sumOf 36 = .ok (.aload_n 0, 1) := by decide +kernel
theorem dX6_sumOf_37 : decode cX6_sumOf 37 = .ok (.getfield 13, 3) := by decide +kernel
theorem dX6_sumOf_40 : decode cX6_sumOf 40 = .ok (.iload 7, 2) := by decide +kernel
theorem dX6_sumOf_42 : decode cX6_sumOf 42 = .ok (.iaload, 1) := by decide +kernel
theorem dX6_sumOf_43 : decode cX6_sumOf 43 = .ok (.goto 10, 3) := by decide +kernel
theorem dX6_sumOf_46 : decode cX6_sumOf 46 = .ok (.aload_n 0, 1) := by decide +kernel
theorem dX6_sumOf_47 : decode cX6_sumOf 47 = .ok (.getfield 7, 3) := by decide +kernel
theorem dX6_sumOf_50 : decode cX6_sumOf 50 = .ok (.iload 7, 2) := by decide +kernel
theorem dX6_sumOf_52 : decode cX6_sumOf 52 = .ok (.iaload, 1) := by decide +kernel
theorem dX6_sumOf_53 : decode cX6_sumOf 53 = .ok (.iload_n 3, 1) := by decide +kernel
theorem dX6_sumOf_54 : decode cX6_sumOf 54 = .ok (.ifCond .eq 7, 3) := by decide +kernel
theorem dX6_sumOf_57 : decode cX6_sumOf 57 = .ok (.iload_n 2, 1) := by decide +kernel
theorem dX6_sumOf_58 : decode cX6_sumOf 58 = .ok (.goto 4, 3) := by decide +kernel
theorem dX6_sumOf_61 : decode cX6_sumOf 61 = .ok (.iload_n 1, 1) := by decide +kernel
theorem dX6_sumOf_62 : decode cX6_sumOf 62 = .ok (.if_icmp .ne 69, 3) := by decide +kernel
theorem dX6_sumOf_65 : decode cX6_sumOf 65 = .ok (.aload_n 0, 1) := by decide +kernel
theorem dX6_sumOf_66 : decode cX6_sumOf 66 = .ok (.getfield 44, 3) := by decide +kernel
theorem dX6_sumOf_69 : decode cX6_sumOf 69 = .ok (.iload_n 3, 1) := by decide +kernel
theorem dX6_sumOf_70 : decode cX6_sumOf 70 = .ok (.ifCond .eq 13, 3) := by decide +kernel
theorem dX6_sumOf_73 : decode cX6_sumOf 73 = .ok (.bipush 10, 2) := by decide +kernel
theorem dX6_sumOf_75 : decode cX6_sumOf 75 = .ok (.iload_n 1, 1) := by decide +kernel
theorem dX6_sumOf_76 : decode cX6_sumOf 76 = .ok (.imul, 1) := by decide +kernel
theorem dX6_sumOf_77 : decode cX6_sumOf 77 = .ok (.iload 7, 2) := by decide +kernel
theorem dX6_sumOf_79 : decode cX6_sumOf 79 = .ok (.iadd, 1) := by decide +kernel
theorem dX6_sumOf_80 : decode cX6_sumOf 80 = .ok (.goto 10, 3) := by decide +kernel
theorem dX6_sumOf_83 : decode cX6_sumOf 83 = .ok (.bipush 10, 2) := by decide +kernel
theorem dX6_sumOf_85 : decode cX6_sumOf 85 = .ok (.iload 7, 2) := by decide +kernel
theorem dX6_sumOf_87 : decode cX6_sumOf 87 = .ok (.imul, 1) := by decide +kernel
theorem dX6_sumOf_88 : decode cX6_sumOf 88 = .ok (.iload_n 2, 1) := by decide +kernel
theorem dX6_sumOf_89 : decode cX6_sumOf 89 = .ok (.iadd, 1) := by decide +kernel
theorem dX6_sumOf_90 : decode cX6_sumOf 90 = .ok (.iaload, 1) := by decide +kernel
theorem dX6_sumOf_91 : decode cX6_sumOf 91 = .ok (.istore 8, 2) := by decide +kernel
theorem dX6_sumOf_93 : decode cX6_sumOf 93 = .ok (.iinc 6 1, 3) := by decide +kernel
theorem dX6_sumOf_96 : decode cX6_sumOf 96 = .ok (.iload 5, 2) := by decide +kernel
theorem dX6_sumOf_98 : decode cX6_sumOf 98 = .ok (.iload 8, 2) := by decide +kernel
theorem dX6_sumOf_100 : decode cX6_sumOf 100 = .ok (.ldc 86, 2) := by decide +kernel
theorem dX6_sumOf_102 : decode cX6_sumOf 102 = .ok (.if_icmp .eq 7, 3) := by decide +kernel
theorem dX6_sumOf_105 : decode cX6_sumOf 105 = .ok (.iconst 1, 1) := by decide +kernel
theorem dX6_sumOf_106 : decode cX6_sumOf 106 = .ok (.goto 4, 3) := by decide +kernel
theorem dX6_sumOf_109 : decode cX6_sumOf 109 = .ok (.iconst 0, 1) := by decide +kernel
theorem dX6_sumOf_110 : decode cX6_sumOf 110 = .ok (.iand, 1) := by decide +kernel
theorem dX6_sumOf_111 : decode cX6_sumOf 111 = .ok (.istore 5, 2) := by decide +kernel
theorem dX6_sumOf_113 : decode cX6_sumOf 113 = .ok (.iload 4, 2) := by decide +kernel
theorem dX6_sumOf_115 : decode cX6_sumOf 115 = .ok (.iload 8, 2) := by decide +kernel
theorem dX6_sumOf_117 : decode cX6_sumOf 117 = .ok (.ldc 86, 2) := by decide +kernel
theorem dX6_sumOf_119 : decode cX6_sumOf 119 = .ok (.if_icmp .ne 7, 3) := by decide +kernel
theorem dX6_sumOf_122 : decode cX6_sumOf 122 = .ok (.iconst 0, 1) := by decide +kernel
theorem dX6_sumOf_123 : decode cX6_sumOf 123 = .ok (.goto 5, 3) := by decide +kernel
theorem dX6_sumOf_126 : decode cX6_sumOf 126 = .ok (.iload 8, 2) := by decide +kernel
theorem dX6_sumOf_128 : decode cX6_sumOf 128 = .ok (.iadd, 1) := by decide +kernel
theorem dX6_sumOf_129 : decode cX6_sumOf 129 = .ok (.istore 4, 2) := by decide +kernel
theorem dX6_sumOf_131 : decode cX6_sumOf 131 = .ok (.iinc 7 1, 3) := by decide +kernel
theorem dX6_sumOf_134 : decode cX6_sumOf 134 = .ok (.goto (-122), 3) := by decide +kernel
theorem dX6_sumOf_137 : decode cX6_sumOf 137 = .ok (.iload 6, 2) := by decide +kernel
theorem dX6_sumOf_139 : decode cX6_sumOf 139 = .ok (.ifCond .le 13, 3) := by decide +kernel
theorem dX6_sumOf_142 : decode cX6_sumOf 142 = .ok (.iload 5, 2) := by decide +kernel
theorem dX6_sumOf_144 : decode cX6_sumOf 144 = .ok (.ifCond .eq 8, 3) := by decide +kernel
theorem dX6_sumOf_147 : decode cX6_sumOf 147 = .ok (.iload 4, 2) := by decide +kernel
theorem dX6_sumOf_149 : decode cX6_sumOf 149 = .ok (.goto 5, 3) := by decide +kernel
theorem dX6_sumOf_152 : decode cX6_sumOf 152 = .ok (.ldc 86, 2) := by decide +kernel
theorem dX6_sumOf_154 : decode cX6_sumOf 154 = .ok (.ireturn, 1) := by decide +kernel
set_option maxRecDepth 20000 in
theorem ggX6_finds_X6_cellOf : GoodIn wsX6_finds wsX6_cellOf := goodIn_r _ [8] (by decide +kernel) (by decide +kernel)
set_option maxRecDepth 20000 in
theorem gX6_finds_X6_cellOf : GoodIn wsX6_finds (va_wsS RX6 82 yX6_cellOf wsX6_cellOf) := goodIn_app (goodIn_of _ (by decide +kernel)) ggX6_finds_X6_cellOf
set_option maxRecDepth 20000 in
theorem ggX6_finds_X6_figureOn : GoodIn wsX6_finds wsX6_figureOn := goodIn_r _ [12, 3, 13, 14, 15, 16, 23, 24, 25, 26, 27, 28, 29, 30, 31, 32, 33, 34, 35, 36, 37, 38, 39, 40, 41, 42, 43] (by decide +kernel) (by decide +kernel)
set_option maxRecDepth 20000 in
theorem gX6_finds_X6_figureOn : GoodIn wsX6_finds (wsV RX6 93 RX6 yX6_figureOn wsX6_figureOn) := goodIn_app (goodIn_of _ (by decide +kernel)) ggX6_finds_X6_figureOn
set_option maxRecDepth 20000 in
theorem ggX6_finds_X6_sumOf : GoodIn wsX6_finds wsX6_sumOf := goodIn_r _ [20, 2, 1, 21, 22, 4, 3, 23, 24, 25, 26, 27, 28, 29, 30, 31, 32, 33, 34, 35, 36, 37, 38, 39, 40, 41, 42, 43] (by decide +kernel) (by decide +kernel)
set_option maxRecDepth 20000 in
theorem gX6_finds_X6_sumOf : GoodIn wsX6_finds (wsV RX6 110 RX6 yX6_sumOf wsX6_sumOf) := goodIn_app (goodIn_of _ (by decide +kernel)) ggX6_finds_X6_sumOf
theorem dX6_finds_0 : decode cX6_finds 0 = .ok (.aload_n 0, 1) := by decide +kernel
theorem dX6_finds_1 : decode cX6_finds 1 = .ok (.getfield 54, 3) := by decide +kernel
theorem dX6_finds_4 : decode cX6_finds 4 = .ok (.iconst 1, 1) := by decide +kernel
theorem dX6_finds_5 : decode cX6_finds 5 = .ok (.isub, 1) := by decide +kernel
theorem dX6_finds_6 : decode cX6_finds 6 = .ok (.istore_n 3, 1) := by decide +kernel
theorem dX6_finds_7 : decode cX6_finds 7 = .ok (.iload_n 3, 1) := by decide +kernel
theorem dX6_finds_8 : decode cX6_finds 8 = .ok (.ifCond .lt 96, 3) := by decide +kernel
theorem dX6_finds_11 : decode cX6_finds 11 = .ok (.aload_n 0, 1) := by decide +kernel
theorem dX6_finds_12 : decode cX6_finds 12 = .ok (.getfield 61, 3) := by decide +kernel
theorem dX6_finds_15 : decode cX6_finds 15 = .ok (.iconst 1, 1) := by decide +kernel
theorem dX6_finds_16 : decode cX6_finds 16 = .ok (.isub, 1) := by decide +kernel
theorem dX6_finds_17 : decode cX6_finds 17 = .ok (.istore 4, 2) := by decide +kernel
theorem dX6_finds_19 : decode cX6_finds 19 = .ok (.iload 4, 2) := by decide +kernel
theorem dX6_finds_21 : decode cX6_finds 21 = .ok (.ifCond .lt 77, 3) := by decide +kernel
theorem dX6_finds_24 : decode cX6_finds 24 = .ok (.aload_n 0, 1) := by decide +kernel
theorem dX6_finds_25 : decode cX6_finds 25 = .ok (.iload_n 3, 1) := by decide +kernel
theorem dX6_finds_26 : decode cX6_finds 26 = .ok (.iload 4, 2) := by decide +kernel
theorem dX6_finds_28 : decode cX6_finds 28 = .ok (.iload_n 1, 1) := by decide +kernel
theorem dX6_finds_29 : decode cX6_finds 29 = .ok (.invokestatic 82, 3) := by decide +kernel
theorem dX6_finds_32 : decode cX6_finds 32 = .ok (.iload_n 2, 1) := by decide +kernel
theorem dX6_finds_33 : decode cX6_finds 33 = .ok (.invokevirtual 93, 3) := by decide +kernel
theorem dX6_finds_36 : decode cX6_finds 36 = .ok (.istore 5, 2) := by decide +kernel
theorem dX6_finds_38 : decode cX6_finds 38 = .ok (.iload 5, 2) := by decide +kernel
theorem dX6_finds_40 : decode cX6_finds 40 = .ok (.ldc 86, 2) := by decide +kernel
theorem dX6_finds_42 : decode cX6_finds 42 = .ok (.if_icmp .ne 14, 3) := by decide +kernel
theorem dX6_finds_45 : decode cX6_finds 45 = .ok (.aload_n 0, 1) := by decide +kernel
theorem dX6_finds_46 : decode cX6_finds 46 = .ok (.iload_n 3, 1) := by decide +kernel
theorem dX6_finds_47 : decode cX6_finds 47 = .ok (.iload 4, 2) := by decide +kernel
theorem dX6_finds_49 : decode cX6_finds 49 = .ok (.iconst 0, 1) := by decide +kernel
theorem dX6_finds_50 : decode cX6_finds 50 = .ok (.invokevirtual 110, 3) := by decide +kernel
theorem dX6_finds_53 : decode cX6_finds 53 = .ok (.goto 5, 3) := by decide +kernel
theorem dX6_finds_56 : decode cX6_finds 56 = .ok (.iload 5, 2) := by decide +kernel
theorem dX6_finds_58 : decode cX6_finds 58 = .ok (.istore 5, 2) := by decide +kernel
theorem dX6_finds_60 : decode cX6_finds 60 = .ok (.aload_n 0, 1) := by decide +kernel
theorem dX6_finds_61 : decode cX6_finds 61 = .ok (.getfield 44, 3) := by decide +kernel
theorem dX6_finds_64 : decode cX6_finds 64 = .ok (.bipush 10, 2) := by decide +kernel
theorem dX6_finds_66 : decode cX6_finds 66 = .ok (.iload_n 3, 1) := by decide +kernel
theorem dX6_finds_67 : decode cX6_finds 67 = .ok (.imul, 1) := by decide +kernel
theorem dX6_finds_68 : decode cX6_finds 68 = .ok (.iload 4, 2) := by decide +kernel
theorem dX6_finds_70 : decode cX6_finds 70 = .ok (.iadd, 1) := by decide +kernel
theorem dX6_finds_71 : decode cX6_finds 71 = .ok (.iload 5, 2) := by decide +kernel
theorem dX6_finds_73 : decode cX6_finds 73 = .ok (.ldc 86, 2) := by decide +kernel
theorem dX6_finds_75 : decode cX6_finds 75 = .ok (.if_icmp .ne 14, 3) := by decide +kernel
theorem dX6_finds_78 : decode cX6_finds 78 = .ok (.aload_n 0, 1) := by decide +kernel
theorem dX6_finds_79 : decode cX6_finds 79 = .ok (.iload_n 3, 1) := by decide +kernel
theorem dX6_finds_80 : decode cX6_finds 80 = .ok (.iload 4, 2) := by decide +kernel
theorem dX6_finds_82 : decode cX6_finds 82 = .ok (.iconst 1, 1) := by decide +kernel
theorem dX6_finds_83 : decode cX6_finds 83 = .ok (.invokevirtual 110, 3) := by decide +kernel
theorem dX6_finds_86 : decode cX6_finds 86 = .ok (.goto 5, 3) := by decide +kernel
theorem dX6_finds_89 : decode cX6_finds 89 = .ok (.iload 5, 2) := by decide +kernel
theorem dX6_finds_91 : decode cX6_finds 91 = .ok (.iastore, 1) := by decide +kernel
theorem dX6_finds_92 : decode cX6_finds 92 = .ok (.iinc 4 (-1), 3) := by decide +kernel
theorem dX6_finds_95 : decode cX6_finds 95 = .ok (.goto (-76), 3) := by decide +kernel
theorem dX6_finds_98 : decode cX6_finds 98 = .ok (.iinc 3 (-1), 3) := by decide +kernel
theorem dX6_finds_101 : decode cX6_finds 101 = .ok (.goto (-94), 3) := by decide +kernel
theorem dX6_finds_104 : decode cX6_finds 104 = .ok (.return_, 1) := by decide +kernel
theorem dX6_hides_0 : decode cX6_hides 0 = .ok (.aload_n 0, 1) := by decide +kernel
theorem dX6_hides_1 : decode cX6_hides 1 = .ok (.getfield 47, 3) := by decide +kernel
theorem dX6_hides_4 : decode cX6_hides 4 = .ok (.bipush 10, 2) := by decide +kernel
theorem dX6_hides_6 : decode cX6_hides 6 = .ok (.iload_n 1, 1) := by decide +kernel
theorem dX6_hides_7 : decode cX6_hides 7 = .ok (.imul, 1) := by decide +kernel
theorem dX6_hides_8 : decode cX6_hides 8 = .ok (.iload_n 2, 1) := by decide +kernel
theorem dX6_hides_9 : decode cX6_hides 9 = .ok (.iadd, 1) := by decide +kernel
theorem dX6_hides_10 : decode cX6_hides 10 = .ok (.baload, 1) := by decide +kernel
theorem dX6_hides_11 : decode cX6_hides 11 = .ok (.ifCond .eq 7, 3) := by decide +kernel
theorem dX6_hides_14 : decode cX6_hides 14 = .ok (.iconst 1, 1) := by decide +kernel
theorem dX6_hides_15 : decode cX6_hides 15 = .ok (.goto 4, 3) := by decide +kernel
theorem dX6_hides_18 : decode cX6_hides 18 = .ok (.iconst 0, 1) := by decide +kernel
theorem dX6_hides_19 : decode cX6_hides 19 = .ok (.istore 4, 2) := by decide +kernel
theorem dX6_hides_21 : decode cX6_hides 21 = .ok (.iconst 0, 1) := by decide +kernel
theorem dX6_hides_22 : decode cX6_hides 22 = .ok (.istore 5, 2) := by decide +kernel
theorem dX6_hides_24 : decode cX6_hides 24 = .ok (.iload 5, 2) := by decide +kernel
theorem dX6_hides_26 : decode cX6_hides 26 = .ok (.iload_n 3, 1) := by decide +kernel
theorem dX6_hides_27 : decode cX6_hides 27 = .ok (.ifCond .eq 10, 3) := by decide +kernel
theorem dX6_hides_30 : decode cX6_hides 30 = .ok (.aload_n 0, 1) := by decide +kernel
theorem dX6_hides_31 : decode cX6_hides 31 = .ok (.getfield 61, 3) := by decide +kernel
theorem dX6_hides_34 : decode cX6_hides 34 = .ok (.goto 7, 3) := by decide +kernel
theorem dX6_hides_37 : decode cX6_hides 37 = .ok (.aload_n 0, 1) := by decide +kernel
theorem dX6_hides_38 : decode cX6_hides 38 = .ok (.getfield 54, 3) := by decide +kernel
theorem dX6_hides_41 : decode cX6_hides 41 = .ok (.if_icmp .ge 93, 3) := by decide +kernel
theorem dX6_hides_44 : decode cX6_hides 44 = .ok (.iload_n 3, 1) := by decide +kernel
theorem dX6_hides_45 : decode cX6_hides 45 = .ok (.ifCond .eq 13, 3) := by decide +kernel
theorem dX6_hides_48 : decode cX6_hides 48 = .ok (.aload_n 0, 1) := by decide +kernel
theorem dX6_hides_49 : decode cX6_hides 49 = .ok (.getfield 13, 3) := by decide +kernel
theorem dX6_hides_52 : decode cX6_hides 52 = .ok (.iload 5, 2) := by decide +kernel
theorem dX6_hides_54 : decode cX6_hides 54 = .ok (.iaload, 1) := by decide +kernel
theorem dX6_hides_55 : decode cX6_hides 55 = .ok (.goto 10, 3) := by decide +kernel
theorem dX6_hides_58 : decode cX6_hides 58 = .ok (.aload_n 0, 1) := by decide +kernel
theorem dX6_hides_59 : decode cX6_hides 59 = .ok (.getfield 7, 3) := by decide +kernel
theorem dX6_hides_62 : decode cX6_hides 62 = .ok (.iload 5, 2) := by decide +kernel
theorem dX6_hides_64 : decode cX6_hides 64 = .ok (.iaload, 1) := by decide +kernel
theorem dX6_hides_65 : decode cX6_hides 65 = .ok (.iload_n 3, 1) := by decide +kernel
theorem dX6_hides_66 : decode cX6_hides 66 = .ok (.ifCond .eq 7, 3) := by decide +kernel
theorem dX6_hides_69 : decode cX6_hides 69 = .ok (.iload_n 2, 1) := by decide +kernel
theorem dX6_hides_70 : decode cX6_hides 70 = .ok (.goto 4, 3) := by decide +kernel
theorem dX6_hides_73 : decode cX6_hides 73 = .ok (.iload_n 1, 1) := by decide +kernel
theorem dX6_hides_74 : decode cX6_hides 74 = .ok (.if_icmp .ne 7, 3) := by decide +kernel
theorem dX6_hides_77 : decode cX6_hides 77 = .ok (.iconst 1, 1) := by decide +kernel
theorem dX6_hides_78 : decode cX6_hides 78 = .ok (.goto 4, 3) := by decide +kernel
theorem dX6_hides_81 : decode cX6_hides 81 = .ok (.iconst 0, 1) := by decide +kernel
theorem dX6_hides_82 : decode cX6_hides 82 = .ok (.istore 6, 2) := by decide +kernel
theorem dX6_hides_84 : decode cX6_hides 84 = .ok (.iload 4, 2) := by decide +kernel
theorem dX6_hides_86 : decode cX6_hides 86 = .ok (.iload 6, 2) := by decide +kernel
theorem dX6_hides_88 : decode cX6_hides 88 = .ok (.ifCond .eq 36, 3) := by decide +kernel
theorem dX6_hides_91 : decode cX6_hides 91 = .ok (.aload_n 0, 1) := by decide +kernel
theorem dX6_hides_92 : decode cX6_hides 92 = .ok (.getfield 47, 3) := by decide +kernel
theorem dX6_hides_95 : decode cX6_hides 95 = .ok (.iload_n 3, 1) := by decide +kernel
theorem dX6_hides_96 : decode cX6_hides 96 = .ok (.ifCond .eq 13, 3) := by decide +kernel
theorem dX6_hides_99 : decode cX6_hides 99 = .ok (.bipush 10, 2) := by decide +kernel
theorem dX6_hides_101 : decode cX6_hides 101 = .ok (.iload_n 1, 1) := by decide +kernel
theorem dX6_hides_102 : decode cX6_hides 102 = .ok (.imul, 1) := by decide +kernel
theorem dX6_hides_103 : decode cX6_hides 103 = .ok (.iload 5, 2) := by decide +kernel
theorem dX6_hides_105 : decode cX6_hides 105 = .ok (.iadd, 1) := by decide +kernel
theorem dX6_hides_106 : decode cX6_hides 106 = .ok (.goto 10, 3) := by decide +kernel
theorem dX6_hides_109 : decode cX6_hides 109 = .ok (.bipush 10, 2) := by decide +kernel
theorem dX6_hides_111 : decode cX6_hides 111 = .ok (.iload 5, 2) := by decide +kernel
theorem dX6_hides_113 : decode cX6_hides 113 = .ok (.imul, 1) := by decide +kernel
theorem dX6_hides_114 : decode cX6_hides 114 = .ok (.iload_n 2, 1) := by decide +kernel
theorem dX6_hides_115 : decode cX6_hides 115 = .ok (.iadd, 1) := by decide +kernel
theorem dX6_hides_116 : decode cX6_hides 116 = .ok (.baload, 1) := by decide +kernel
theorem dX6_hides_117 : decode cX6_hides 117 = .ok (.ifCond .eq 7, 3) := by decide +kernel
theorem dX6_hides_120 : decode cX6_hides 120 = .ok (.iconst 1, 1) := by decide +kernel
theorem dX6_hides_121 : decode cX6_hides 121 = .ok (.goto 4, 3) := by decide +kernel
theorem dX6_hides_124 : decode cX6_hides 124 = .ok (.iconst 0, 1) := by decide +kernel
theorem dX6_hides_125 : decode cX6_hides 125 = .ok (.iadd, 1) := by decide +kernel
theorem dX6_hides_126 : decode cX6_hides 126 = .ok (.istore 4, 2) := by decide +kernel
theorem dX6_hides_128 : decode cX6_hides 128 = .ok (.iinc 5 1, 3) := by decide +kernel
theorem dX6_hides_131 : decode cX6_hides 131 = .ok (.goto (-107), 3) := by decide +kernel
theorem dX6_hides_134 : decode cX6_hides 134 = .ok (.iload 4, 2) := by decide +kernel
theorem dX6_hides_136 : decode cX6_hides 136 = .ok (.ireturn, 1) := by decide +kernel
theorem dX6_size_0 : decode cX6_size 0 = .ok (.iload_n 0, 1) := by decide +kernel
theorem dX6_size_1 : decode cX6_size 1 = .ok (.ifCond .ge 8, 3) := by decide +kernel
theorem dX6_size_4 : decode cX6_size 4 = .ok (.iload_n 0, 1) := by decide +kernel
theorem dX6_size_5 : decode cX6_size 5 = .ok (.ineg, 1) := by decide +kernel
theorem dX6_size_6 : decode cX6_size 6 = .ok (.goto 4, 3) := by decide +kernel
theorem dX6_size_9 : decode cX6_size 9 = .ok (.iload_n 0, 1) := by decide +kernel
theorem dX6_size_10 : decode cX6_size 10 = .ok (.ireturn, 1) := by decide +kernel
set_option maxRecDepth 20000 in
theorem ggX6_looks_X6_sumOf : GoodIn wsX6_looks wsX6_sumOf := goodIn_r _ [12, 3, 4, 5, 6, 2, 1, 20, 21, 22, 23, 24, 25, 26, 27, 28, 29, 30, 31, 32, 33, 34, 35, 36, 37, 38, 39, 40] (by decide +kernel) (by decide +kernel)
set_option maxRecDepth 20000 in
theorem gX6_looks_X6_sumOf : GoodIn wsX6_looks (wsV RX6 110 RX6 yX6_sumOf wsX6_sumOf) := goodIn_app (goodIn_of _ (by decide +kernel)) ggX6_looks_X6_sumOf
set_option maxRecDepth 20000 in
theorem ggX6_looks_X6_hides : GoodIn wsX6_looks wsX6_hides := goodIn_r _ [16, 7, 3, 4, 5, 6, 20, 21, 22, 23, 24, 25, 26, 27, 28, 29, 30, 31, 32, 33, 34, 35, 36, 37, 38, 39, 40] (by decide +kernel) (by decide +kernel)
set_option maxRecDepth 20000 in
theorem gX6_looks_X6_hides : GoodIn wsX6_looks (wsV RX6 114 RX6 yX6_hides wsX6_hides) := goodIn_app (goodIn_of _ (by decide +kernel)) ggX6_looks_X6_hides
set_option maxRecDepth 20000 in
theorem ggX6_looks_X6_size : GoodIn wsX6_looks wsX6_size := goodIn_r _ [19] (by decide +kernel) (by decide +kernel)
set_option maxRecDepth 20000 in
theorem gX6_looks_X6_size : GoodIn wsX6_looks (va_wsS RX6 117 yX6_size wsX6_size) := goodIn_app (goodIn_of _ (by decide +kernel)) ggX6_looks_X6_size
theorem dX6_looks_0 : decode cX6_looks 0 = .ok (.aload_n 0, 1) := by decide +kernel
theorem dX6_looks_1 : decode cX6_looks 1 = .ok (.iload_n 1, 1) := by decide +kernel
theorem dX6_looks_2 : decode cX6_looks 2 = .ok (.iload_n 2, 1) := by decide +kernel
theorem dX6_looks_3 : decode cX6_looks 3 = .ok (.iload_n 3, 1) := by decide +kernel
theorem dX6_looks_4 : decode cX6_looks 4 = .ok (.invokevirtual 110, 3) := by decide +kernel
theorem dX6_looks_7 : decode cX6_looks 7 = .ok (.ldc 86, 2) := by decide +kernel
theorem dX6_looks_9 : decode cX6_looks 9 = .ok (.if_icmp .eq 23, 3) := by decide +kernel
theorem dX6_looks_12 : decode cX6_looks 12 = .ok (.aload_n 0, 1) := by decide +kernel
theorem dX6_looks_13 : decode cX6_looks 13 = .ok (.getfield 44, 3) := by decide +kernel
theorem dX6_looks_16 : decode cX6_looks 16 = .ok (.bipush 10, 2) := by decide +kernel
theorem dX6_looks_18 : decode cX6_looks 18 = .ok (.iload_n 1, 1) := by decide +kernel
theorem dX6_looks_19 : decode cX6_looks 19 = .ok (.imul, 1) := by decide +kernel
theorem dX6_looks_20 : decode cX6_looks 20 = .ok (.iload_n 2, 1) := by decide +kernel
theorem dX6_looks_21 : decode cX6_looks 21 = .ok (.iadd, 1) := by decide +kernel
theorem dX6_looks_22 : decode cX6_looks 22 = .ok (.iaload, 1) := by decide +kernel
theorem dX6_looks_23 : decode cX6_looks 23 = .ok (.ldc 86, 2) := by decide +kernel
theorem dX6_looks_25 : decode cX6_looks 25 = .ok (.if_icmp .eq 7, 3) := by decide +kernel
theorem dX6_looks_28 : decode cX6_looks 28 = .ok (.iconst 1, 1) := by decide +kernel
theorem dX6_looks_29 : decode cX6_looks 29 = .ok (.goto 4, 3) := by decide +kernel
theorem dX6_looks_32 : decode cX6_looks 32 = .ok (.iconst 0, 1) := by decide +kernel
theorem dX6_looks_33 : decode cX6_looks 33 = .ok (.istore 4, 2) := by decide +kernel
theorem dX6_looks_35 : decode cX6_looks 35 = .ok (.iload 4, 2) := by decide +kernel
theorem dX6_looks_37 : decode cX6_looks 37 = .ok (.ifCond .eq 14, 3) := by decide +kernel
theorem dX6_looks_40 : decode cX6_looks 40 = .ok (.aload_n 0, 1) := by decide +kernel
theorem dX6_looks_41 : decode cX6_looks 41 = .ok (.iload_n 1, 1) := by decide +kernel
theorem dX6_looks_42 : decode cX6_looks 42 = .ok (.iload_n 2, 1) := by decide +kernel
theorem dX6_looks_43 : decode cX6_looks 43 = .ok (.iload_n 3, 1) := by decide +kernel
theorem dX6_looks_44 : decode cX6_looks 44 = .ok (.invokevirtual 114, 3) := by decide +kernel
theorem dX6_looks_47 : decode cX6_looks 47 = .ok (.iconst 1, 1) := by decide +kernel
theorem dX6_looks_48 : decode cX6_looks 48 = .ok (.if_icmp .eq 5, 3) := by decide +kernel
theorem dX6_looks_51 : decode cX6_looks 51 = .ok (.iconst 0, 1) := by decide +kernel
theorem dX6_looks_52 : decode cX6_looks 52 = .ok (.ireturn, 1) := by decide +kernel
theorem dX6_looks_53 : decode cX6_looks 53 = .ok (.iconst (-1), 1) := by decide +kernel
theorem dX6_looks_54 : decode cX6_looks 54 = .ok (.istore 5, 2) := by decide +kernel
theorem dX6_looks_56 : decode cX6_looks 56 = .ok (.iconst 0, 1) := by decide +kernel
theorem dX6_looks_57 : decode cX6_looks 57 = .ok (.istore 6, 2) := by decide +kernel
theorem dX6_looks_59 : decode cX6_looks 59 = .ok (.iload 6, 2) := by decide +kernel
theorem dX6_looks_61 : decode cX6_looks 61 = .ok (.iload_n 3, 1) := by decide +kernel
theorem dX6_looks_62 : decode cX6_looks 62 = .ok (.ifCond .eq 10, 3) := by decide +kernel
theorem dX6_looks_65 : decode cX6_looks 65 = .ok (.aload_n 0, 1) := by decide +kernel
theorem dX6_looks_66 : decode cX6_looks 66 = .ok (.getfield 61, 3) := by decide +kernel
theorem dX6_looks_69 : decode cX6_looks 69 = .ok (.goto 7, 3) := by decide +kernel
theorem dX6_looks_72 : decode cX6_looks 72 = .ok (.aload_n 0, 1) := by decide +kernel
theorem dX6_looks_73 : decode cX6_looks 73 = .ok (.getfield 54, 3) := by decide +kernel
theorem dX6_looks_76 : decode cX6_looks 76 = .ok (.if_icmp .ge 125, 3) := by decide +kernel
theorem dX6_looks_79 : decode cX6_looks 79 = .ok (.iload_n 3, 1) := by decide +kernel
theorem dX6_looks_80 : decode cX6_looks 80 = .ok (.ifCond .eq 13, 3) := by decide +kernel
theorem dX6_looks_83 : decode cX6_looks 83 = .ok (.bipush 10, 2) := by decide +kernel
theorem dX6_looks_85 : decode cX6_looks 85 = .ok (.iload_n 1, 1) := by decide +kernel
theorem dX6_looks_86 : decode cX6_looks 86 = .ok (.imul, 1) := by decide +kernel
theorem dX6_looks_87 : decode cX6_looks 87 = .ok (.iload 6, 2) := by decide +kernel
theorem dX6_looks_89 : decode cX6_looks 89 = .ok (.iadd, 1) := by decide +kernel
theorem dX6_looks_90 : decode cX6_looks 90 = .ok (.goto 10, 3) := by decide +kernel
theorem dX6_looks_93 : decode cX6_looks 93 = .ok (.bipush 10, 2) := by decide +kernel
theorem dX6_looks_95 : decode cX6_looks 95 = .ok (.iload 6, 2) := by decide +kernel
theorem dX6_looks_97 : decode cX6_looks 97 = .ok (.imul, 1) := by decide +kernel
theorem dX6_looks_98 : decode cX6_looks 98 = .ok (.iload_n 2, 1) := by decide +kernel
theorem dX6_looks_99 : decode cX6_looks 99 = .ok (.iadd, 1) := by decide +kernel
theorem dX6_looks_100 : decode cX6_looks 100 = .ok (.istore 7, 2) := by decide +kernel
theorem dX6_looks_102 : decode cX6_looks 102 = .ok (.iload_n 3, 1) := by decide +kernel
theorem dX6_looks_103 : decode cX6_looks 103 = .ok (.ifCond .eq 13, 3) := by decide +kernel
theorem dX6_looks_106 : decode cX6_looks 106 = .ok (.aload_n 0, 1) := by decide +kernel
theorem dX6_looks_107 : decode cX6_looks 107 = .ok (.getfield 13, 3) := by decide +kernel
theorem dX6_looks_110 : decode cX6_looks 110 = .ok (.iload 6, 2) := by decide +kernel
theorem dX6_looks_112 : decode cX6_looks 112 = .ok (.iaload, 1) := by decide +kernel
theorem dX6_looks_113 : decode cX6_looks 113 = .ok (.goto 10, 3) := by decide +kernel
theorem dX6_looks_116 : decode cX6_looks 116 = .ok (.aload_n 0, 1) := by decide +kernel
theorem dX6_looks_117 : decode cX6_looks 117 = .ok (.getfield 7, 3) := by decide +kernel
theorem dX6_looks_120 : decode cX6_looks 120 = .ok (.iload 6, 2) := by decide +kernel
theorem dX6_looks_122 : decode cX6_looks 122 = .ok (.iaload, 1) := by decide +kernel
theorem dX6_looks_123 : decode cX6_looks 123 = .ok (.iload_n 3, 1) := by decide +kernel
theorem dX6_looks_124 : decode cX6_looks 124 = .ok (.ifCond .eq 7, 3) := by decide +kernel
theorem dX6_looks_127 : decode cX6_looks 127 = .ok (.iload_n 2, 1) := by decide +kernel
theorem dX6_looks_128 : decode cX6_looks 128 = .ok (.goto 4, 3) := by decide +kernel
theorem dX6_looks_131 : decode cX6_looks 131 = .ok (.iload_n 1, 1) := by decide +kernel
theorem dX6_looks_132 : decode cX6_looks 132 = .ok (.if_icmp .ne 17, 3) := by decide +kernel
theorem dX6_looks_135 : decode cX6_looks 135 = .ok (.aload_n 0, 1) := by decide +kernel
theorem dX6_looks_136 : decode cX6_looks 136 = .ok (.getfield 47, 3) := by decide +kernel
theorem dX6_looks_139 : decode cX6_looks 139 = .ok (.iload 7, 2) := by decide +kernel
theorem dX6_looks_141 : decode cX6_looks 141 = .ok (.baload, 1) := by decide +kernel
theorem dX6_looks_142 : decode cX6_looks 142 = .ok (.ifCond .ne 7, 3) := by decide +kernel
theorem dX6_looks_145 : decode cX6_looks 145 = .ok (.iconst 1, 1) := by decide +kernel
theorem dX6_looks_146 : decode cX6_looks 146 = .ok (.goto 4, 3) := by decide +kernel
theorem dX6_looks_149 : decode cX6_looks 149 = .ok (.iconst 0, 1) := by decide +kernel
theorem dX6_looks_150 : decode cX6_looks 150 = .ok (.istore 8, 2) := by decide +kernel
theorem dX6_looks_152 : decode cX6_looks 152 = .ok (.iload 8, 2) := by decide +kernel
theorem dX6_looks_154 : decode cX6_looks 154 = .ok (.ifCond .eq 37, 3) := by decide +kernel
theorem dX6_looks_157 : decode cX6_looks 157 = .ok (.iload 5, 2) := by decide +kernel
theorem dX6_looks_159 : decode cX6_looks 159 = .ok (.iconst (-1), 1) := by decide +kernel
theorem dX6_looks_160 : decode cX6_looks 160 = .ok (.if_icmp .eq 26, 3) := by decide +kernel
theorem dX6_looks_163 : decode cX6_looks 163 = .ok (.aload_n 0, 1) := by decide +kernel
theorem dX6_looks_164 : decode cX6_looks 164 = .ok (.getfield 44, 3) := by decide +kernel
theorem dX6_looks_167 : decode cX6_looks 167 = .ok (.iload 7, 2) := by decide +kernel
theorem dX6_looks_169 : decode cX6_looks 169 = .ok (.iaload, 1) := by decide +kernel
theorem dX6_looks_170 : decode cX6_looks 170 = .ok (.invokestatic 117, 3) := by decide +kernel
theorem dX6_looks_173 : decode cX6_looks 173 = .ok (.aload_n 0, 1) := by decide +kernel
theorem dX6_looks_174 : decode cX6_looks 174 = .ok (.getfield 44, 3) := by decide +kernel
theorem dX6_looks_177 : decode cX6_looks 177 = .ok (.iload 5, 2) := by decide +kernel
theorem dX6_looks_179 : decode cX6_looks 179 = .ok (.iaload, 1) := by decide +kernel
theorem dX6_looks_180 : decode cX6_looks 180 = .ok (.invokestatic 117, 3) := by decide +kernel
theorem dX6_looks_183 : decode cX6_looks 183 = .ok (.if_icmp .ge 8, 3) := by decide +kernel
theorem dX6_looks_186 : decode cX6_looks 186 = .ok (.iload 7, 2) := by decide +kernel
theorem dX6_looks_188 : decode cX6_looks 188 = .ok (.goto 5, 3) := by decide +kernel
theorem dX6_looks_191 : decode cX6_looks 191 = .ok (.iload 5, 2) := by decide +kernel
theorem dX6_looks_193 : decode cX6_looks 193 = .ok (.istore 5, 2) := by decide +kernel
theorem dX6_looks_195 : decode cX6_looks 195 = .ok (.iinc 6 1, 3) := by decide +kernel
theorem dX6_looks_198 : decode cX6_looks 198 = .ok (.goto (-139), 3) := by decide +kernel
theorem dX6_looks_201 : decode cX6_looks 201 = .ok (.aload_n 0, 1) := by decide +kernel
theorem dX6_looks_202 : decode cX6_looks 202 = .ok (.getfield 47, 3) := by decide +kernel
theorem dX6_looks_205 : decode cX6_looks 205 = .ok (.iload 5, 2) := by decide +kernel
theorem dX6_looks_207 : decode cX6_looks 207 = .ok (.iconst (-1), 1) := by decide +kernel
theorem dX6_looks_208 : decode cX6_looks 208 = .ok (.if_icmp .ne 12, 3) := by decide +kernel
theorem dX6_looks_211 : decode cX6_looks 211 = .ok (.bipush 10, 2) := by decide +kernel
theorem dX6_looks_213 : decode cX6_looks 213 = .ok (.iload_n 1, 1) := by decide +kernel
theorem dX6_looks_214 : decode cX6_looks 214 = .ok (.imul, 1) := by decide +kernel
theorem dX6_looks_215 : decode cX6_looks 215 = .ok (.iload_n 2, 1) := by decide +kernel
theorem dX6_looks_216 : decode cX6_looks 216 = .ok (.iadd, 1) := by decide +kernel
theorem dX6_looks_217 : decode cX6_looks 217 = .ok (.goto 5, 3) := by decide +kernel
theorem dX6_looks_220 : decode cX6_looks 220 = .ok (.iload 5, 2) := by decide +kernel
theorem dX6_looks_222 : decode cX6_looks 222 = .ok (.iconst 1, 1) := by decide +kernel
theorem dX6_looks_223 : decode cX6_looks 223 = .ok (.bastore, 1) := by decide +kernel
theorem dX6_looks_224 : decode cX6_looks 224 = .ok (.iconst 1, 1) := by decide +kernel
theorem dX6_looks_225 : decode cX6_looks 225 = .ok (.ireturn, 1) := by decide +kernel
set_option maxRecDepth 20000 in
theorem ggX6_covers_X6_finds : GoodIn wsX6_covers wsX6_finds := goodIn_r _ [12, 3, 4, 7, 6, 13, 14, 11, 15, 16, 17, 18, 19, 20, 21, 22, 23, 24, 25, 26, 27, 28, 29, 41, 42, 43, 44, 45, 46, 47, 48, 49, 50, 51, 52, 53, 54, 55, 56, 57, 58, 59, 60, 61] (by decide +kernel) (by decide +kernel)
set_option maxRecDepth 20000 in
theorem gX6_covers_X6_finds : GoodIn wsX6_covers (wsV RX6 121 RX6 yX6_finds wsX6_finds) := goodIn_app (goodIn_of _ (by decide +kernel)) ggX6_covers_X6_finds
set_option maxRecDepth 20000 in
theorem ggX6_covers_X6_looks : GoodIn wsX6_covers wsX6_looks := goodIn_r _ [33, 7, 6, 4, 3, 28, 29, 2, 24, 25, 26, 11, 27, 34, 35, 36, 37, 38, 39, 40, 41, 42, 43, 44, 45, 46, 47, 48, 49, 50, 51, 52, 53, 54, 55, 56, 57, 58, 59, 60, 61] (by decide +kernel) (by decide +kernel)
set_option maxRecDepth 20000 in
theorem gX6_covers_X6_looks : GoodIn wsX6_covers (wsV RX6 125 RX6 yX6_looks wsX6_looks) := goodIn_app (goodIn_of _ (by decide +kernel)) ggX6_covers_X6_looks
theorem dX6_covers_0 : decode cX6_covers 0 = .ok (.aload_n 0, 1) := by decide +kernel
theorem dX6_covers_1 : decode cX6_covers 1 = .ok (.iload_n 1, 1) := by decide +kernel
theorem dX6_covers_2 : decode cX6_covers 2 = .ok (.aload_n 0, 1) := by decide +kernel
theorem dX6_covers_3 : decode cX6_covers 3 = .ok (.getfield 90, 3) := by decide +kernel
theorem dX6_covers_6 : decode cX6_covers 6 = .ok (.invokevirtual 121, 3) := by decide +kernel
theorem dX6_covers_9 : decode cX6_covers 9 = .ok (.iconst 0, 1) := by decide +kernel
theorem dX6_covers_10 : decode cX6_covers 10 = .ok (.istore_n 2, 1) := by decide +kernel
theorem dX6_covers_11 : decode cX6_covers 11 = .ok (.iconst 0, 1) := by decide +kernel
theorem dX6_covers_12 : decode cX6_covers 12 = .ok (.istore_n 3, 1) := by decide +kernel
theorem dX6_covers_13 : decode cX6_covers 13 = .ok (.iload_n 3, 1) := by decide +kernel
theorem dX6_covers_14 : decode cX6_covers 14 = .ok (.sipush 140, 3) := by decide +kernel
theorem dX6_covers_17 : decode cX6_covers 17 = .ok (.if_icmp .ge 85, 3) := by decide +kernel
theorem dX6_covers_20 : decode cX6_covers 20 = .ok (.aload_n 0, 1) := by decide +kernel
theorem dX6_covers_21 : decode cX6_covers 21 = .ok (.getfield 47, 3) := by decide +kernel
theorem dX6_covers_24 : decode cX6_covers 24 = .ok (.iload_n 3, 1) := by decide +kernel
theorem dX6_covers_25 : decode cX6_covers 25 = .ok (.iload_n 3, 1) := by decide +kernel
theorem dX6_covers_26 : decode cX6_covers 26 = .ok (.bipush 10, 2) := by decide +kernel
theorem dX6_covers_28 : decode cX6_covers 28 = .ok (.idiv, 1) := by decide +kernel
theorem dX6_covers_29 : decode cX6_covers 29 = .ok (.aload_n 0, 1) := by decide +kernel
theorem dX6_covers_30 : decode cX6_covers 30 = .ok (.getfield 54, 3) := by decide +kernel
theorem dX6_covers_33 : decode cX6_covers 33 = .ok (.if_icmp .ge 44, 3) := by decide +kernel
theorem dX6_covers_36 : decode cX6_covers 36 = .ok (.iload_n 3, 1) := by decide +kernel
theorem dX6_covers_37 : decode cX6_covers 37 = .ok (.bipush 10, 2) := by decide +kernel
theorem dX6_covers_39 : decode cX6_covers 39 = .ok (.irem, 1) := by decide +kernel
theorem dX6_covers_40 : decode cX6_covers 40 = .ok (.aload_n 0, 1) := by decide +kernel
theorem dX6_covers_41 : decode cX6_covers 41 = .ok (.getfield 61, 3) := by decide +kernel
theorem dX6_covers_44 : decode cX6_covers 44 = .ok (.if_icmp .ge 33, 3) := by decide +kernel
theorem dX6_covers_47 : decode cX6_covers 47 = .ok (.aload_n 0, 1) := by decide +kernel
theorem dX6_covers_48 : decode cX6_covers 48 = .ok (.getfield 41, 3) := by decide +kernel
theorem dX6_covers_51 : decode cX6_covers 51 = .ok (.sipush 140, 3) := by decide +kernel
theorem dX6_covers_54 : decode cX6_covers 54 = .ok (.iload_n 1, 1) := by decide +kernel
theorem dX6_covers_55 : decode cX6_covers 55 = .ok (.imul, 1) := by decide +kernel
theorem dX6_covers_56 : decode cX6_covers 56 = .ok (.iload_n 3, 1) := by decide +kernel
theorem dX6_covers_57 : decode cX6_covers 57 = .ok (.iadd, 1) := by decide +kernel
theorem dX6_covers_58 : decode cX6_covers 58 = .ok (.baload, 1) := by decide +kernel
theorem dX6_covers_59 : decode cX6_covers 59 = .ok (.ifCond .eq 18, 3) := by decide +kernel
theorem dX6_covers_62 : decode cX6_covers 62 = .ok (.aload_n 0, 1) := by decide +kernel
theorem dX6_covers_63 : decode cX6_covers 63 = .ok (.getfield 44, 3) := by decide +kernel
theorem dX6_covers_66 : decode cX6_covers 66 = .ok (.iload_n 3, 1) := by decide +kernel
theorem dX6_covers_67 : decode cX6_covers 67 = .ok (.iaload, 1) := by decide +kernel
theorem dX6_covers_68 : decode cX6_covers 68 = .ok (.ldc 86, 2) := by decide +kernel
theorem dX6_covers_70 : decode cX6_covers 70 = .ok (.if_icmp .eq 7, 3) := by decide +kernel
theorem dX6_covers_73 : decode cX6_covers 73 = .ok (.iconst 1, 1) := by decide +kernel
theorem dX6_covers_74 : decode cX6_covers 74 = .ok (.goto 4, 3) := by decide +kernel
theorem dX6_covers_77 : decode cX6_covers 77 = .ok (.iconst 0, 1) := by decide +kernel
theorem dX6_covers_78 : decode cX6_covers 78 = .ok (.bastore, 1) := by decide +kernel
theorem dX6_covers_79 : decode cX6_covers 79 = .ok (.iload_n 2, 1) := by decide +kernel
theorem dX6_covers_80 : decode cX6_covers 80 = .ok (.aload_n 0, 1) := by decide +kernel
theorem dX6_covers_81 : decode cX6_covers 81 = .ok (.getfield 47, 3) := by decide +kernel
theorem dX6_covers_84 : decode cX6_covers 84 = .ok (.iload_n 3, 1) := by decide +kernel
theorem dX6_covers_85 : decode cX6_covers 85 = .ok (.baload, 1) := by decide +kernel
theorem dX6_covers_86 : decode cX6_covers 86 = .ok (.ifCond .eq 7, 3) := by decide +kernel
theorem dX6_covers_89 : decode cX6_covers 89 = .ok (.iconst 1, 1) := by decide +kernel
theorem dX6_covers_90 : decode cX6_covers 90 = .ok (.goto 4, 3) := by decide +kernel
theorem dX6_covers_93 : decode cX6_covers 93 = .ok (.iconst 0, 1) := by decide +kernel
theorem dX6_covers_94 : decode cX6_covers 94 = .ok (.iadd, 1) := by decide +kernel
theorem dX6_covers_95 : decode cX6_covers 95 = .ok (.istore_n 2, 1) := by decide +kernel
theorem dX6_covers_96 : decode cX6_covers 96 = .ok (.iinc 3 1, 3) := by decide +kernel
theorem dX6_covers_99 : decode cX6_covers 99 = .ok (.goto (-86), 3) := by decide +kernel
theorem dX6_covers_102 : decode cX6_covers 102 = .ok (.iconst (-1), 1) := by decide +kernel
theorem dX6_covers_103 : decode cX6_covers 103 = .ok (.istore_n 3, 1) := by decide +kernel
theorem dX6_covers_104 : decode cX6_covers 104 = .ok (.iload_n 3, 1) := by decide +kernel
theorem dX6_covers_105 : decode cX6_covers 105 = .ok (.iload_n 2, 1) := by decide +kernel
theorem dX6_covers_106 : decode cX6_covers 106 = .ok (.if_icmp .eq 89, 3) := by decide +kernel
theorem dX6_covers_109 : decode cX6_covers 109 = .ok (.iload_n 2, 1) := by decide +kernel
theorem dX6_covers_110 : decode cX6_covers 110 = .ok (.istore_n 3, 1) := by decide +kernel
theorem dX6_covers_111 : decode cX6_covers 111 = .ok (.iconst 0, 1) := by decide +kernel
theorem dX6_covers_112 : decode cX6_covers 112 = .ok (.istore 4, 2) := by decide +kernel
theorem dX6_covers_114 : decode cX6_covers 114 = .ok (.iload 4, 2) := by decide +kernel
theorem dX6_covers_116 : decode cX6_covers 116 = .ok (.iconst 2, 1) := by decide +kernel
theorem dX6_covers_117 : decode cX6_covers 117 = .ok (.if_icmp .ge 75, 3) := by decide +kernel
theorem dX6_covers_120 : decode cX6_covers 120 = .ok (.iconst 0, 1) := by decide +kernel
theorem dX6_covers_121 : decode cX6_covers 121 = .ok (.istore 5, 2) := by decide +kernel
theorem dX6_covers_123 : decode cX6_covers 123 = .ok (.iload 5, 2) := by decide +kernel
theorem dX6_covers_125 : decode cX6_covers 125 = .ok (.aload_n 0, 1) := by decide +kernel
theorem dX6_covers_126 : decode cX6_covers 126 = .ok (.getfield 54, 3) := by decide +kernel
theorem dX6_covers_129 : decode cX6_covers 129 = .ok (.if_icmp .ge 57, 3) := by decide +kernel
theorem dX6_covers_132 : decode cX6_covers 132 = .ok (.iconst 0, 1) := by decide +kernel
theorem dX6_covers_133 : decode cX6_covers 133 = .ok (.istore 6, 2) := by decide +kernel
theorem dX6_covers_135 : decode cX6_covers 135 = .ok (.iload 6, 2) := by decide +kernel
theorem dX6_covers_137 : decode cX6_covers 137 = .ok (.aload_n 0, 1) := by decide +kernel
theorem dX6_covers_138 : decode cX6_covers 138 = .ok (.getfield 61, 3) := by decide +kernel
theorem dX6_covers_141 : decode cX6_covers 141 = .ok (.if_icmp .ge 39, 3) := by decide +kernel
theorem dX6_covers_144 : decode cX6_covers 144 = .ok (.iload_n 2, 1) := by decide +kernel
theorem dX6_covers_145 : decode cX6_covers 145 = .ok (.aload_n 0, 1) := by decide +kernel
theorem dX6_covers_146 : decode cX6_covers 146 = .ok (.iload 5, 2) := by decide +kernel
theorem dX6_covers_148 : decode cX6_covers 148 = .ok (.iload 6, 2) := by decide +kernel
theorem dX6_covers_150 : decode cX6_covers 150 = .ok (.iload 4, 2) := by decide +kernel
theorem dX6_covers_152 : decode cX6_covers 152 = .ok (.iconst 1, 1) := by decide +kernel
theorem dX6_covers_153 : decode cX6_covers 153 = .ok (.if_icmp .ne 7, 3) := by decide +kernel
theorem dX6_covers_156 : decode cX6_covers 156 = .ok (.iconst 1, 1) := by decide +kernel
theorem dX6_covers_157 : decode cX6_covers 157 = .ok (.goto 4, 3) := by decide +kernel
theorem dX6_covers_160 : decode cX6_covers 160 = .ok (.iconst 0, 1) := by decide +kernel
theorem dX6_covers_161 : decode cX6_covers 161 = .ok (.invokevirtual 125, 3) := by decide +kernel
theorem dX6_covers_164 : decode cX6_covers 164 = .ok (.ifCond .eq 7, 3) := by decide +kernel
theorem dX6_covers_167 : decode cX6_covers 167 = .ok (.iconst 1, 1) := by decide +kernel
theorem dX6_covers_168 : decode cX6_covers 168 = .ok (.goto 4, 3) := by decide +kernel
theorem dX6_covers_171 : decode cX6_covers 171 = .ok (.iconst 0, 1) := by decide +kernel
theorem dX6_covers_172 : decode cX6_covers 172 = .ok (.iadd, 1) := by decide +kernel
theorem dX6_covers_173 : decode cX6_covers 173 = .ok (.istore_n 2, 1) := by decide +kernel
theorem dX6_covers_174 : decode cX6_covers 174 = .ok (.iinc 6 1, 3) := by decide +kernel
theorem dX6_covers_177 : decode cX6_covers 177 = .ok (.goto (-42), 3) := by decide +kernel
theorem dX6_covers_180 : decode cX6_covers 180 = .ok (.iinc 5 1, 3) := by decide +kernel
theorem dX6_covers_183 : decode cX6_covers 183 = .ok (.goto (-60), 3) := by decide +kernel
theorem dX6_covers_186 : decode cX6_covers 186 = .ok (.iinc 4 1, 3) := by decide +kernel
theorem dX6_covers_189 : decode cX6_covers 189 = .ok (.goto (-75), 3) := by decide +kernel
theorem dX6_covers_192 : decode cX6_covers 192 = .ok (.goto (-88), 3) := by decide +kernel
theorem dX6_covers_195 : decode cX6_covers 195 = .ok (.iload_n 2, 1) := by decide +kernel
theorem dX6_covers_196 : decode cX6_covers 196 = .ok (.ireturn, 1) := by decide +kernel
set_option maxRecDepth 20000 in
theorem ggX6_secret_X6_isCell : GoodIn wsX6_secret wsX6_isCell := goodIn_r _ [7, 8, 9, 10, 6, 11, 12, 13, 14, 15, 16, 17, 18, 19, 20, 61, 62, 63, 64, 65, 66, 67, 68, 69, 70, 71, 72, 73, 74, 75, 76, 77, 78, 79, 80, 81] (by decide +kernel) (by decide +kernel)
set_option maxRecDepth 20000 in
theorem gX6_secret_X6_isCell : GoodIn wsX6_secret (wsV RX6 74 RX6 yX6_isCell wsX6_isCell) := goodIn_app (goodIn_of _ (by decide +kernel)) ggX6_secret_X6_isCell
set_option maxRecDepth 20000 in
theorem ggX6_secret_X6_cellOf : GoodIn wsX6_secret wsX6_cellOf := goodIn_r _ [23] (by decide +kernel) (by decide +kernel)
set_option maxRecDepth 20000 in
theorem gX6_secret_X6_cellOf : GoodIn wsX6_secret (va_wsS RX6 82 yX6_cellOf wsX6_cellOf) := goodIn_app (goodIn_of _ (by decide +kernel)) ggX6_secret_X6_cellOf
set_option maxRecDepth 20000 in
theorem ggX6_secret_X6_covers : GoodIn wsX6_secret wsX6_covers := goodIn_r _ [27, 28, 29, 12, 20, 2, 30, 31, 32, 33, 34, 6, 35, 21, 22, 23, 36, 37, 38, 39, 40, 41, 42, 43, 44, 45, 46, 47, 48, 49, 50, 51, 52, 53, 54, 55, 56, 57, 58, 59, 60, 61, 62, 63, 64, 65, 66, 67, 68, 69, 70, 71, 72, 73, 74, 75, 76, 77, 78, 79, 80, 81] (by decide +kernel) (by decide +kernel)
set_option maxRecDepth 20000 in
theorem gX6_secret_X6_covers : GoodIn wsX6_secret (wsV RX6 129 RX6 yX6_covers wsX6_covers) := goodIn_app (goodIn_of _ (by decide +kernel)) ggX6_secret_X6_covers
theorem dX6_secret_0 : decode cX6_secret 0 = .ok (.aload_n 0, 1) := by decide +kernel
theorem dX6_secret_1 : decode cX6_secret 1 = .ok (.aload_n 0, 1) := by decide +kernel
theorem dX6_secret_2 : decode cX6_secret 2 = .ok (.iload_n 1, 1) := by decide +kernel
theorem dX6_secret_3 : decode cX6_secret 3 = .ok (.iload_n 2, 1) := by decide +kernel
theorem dX6_secret_4 : decode cX6_secret 4 = .ok (.iload_n 3, 1) := by decide +kernel
theorem dX6_secret_5 : decode cX6_secret 5 = .ok (.invokevirtual 74, 3) := by decide +kernel
theorem dX6_secret_8 : decode cX6_secret 8 = .ok (.ifCond .eq 7, 3) := by decide +kernel
theorem dX6_secret_11 : decode cX6_secret 11 = .ok (.iconst 0, 1) := by decide +kernel
theorem dX6_secret_12 : decode cX6_secret 12 = .ok (.goto 4, 3) := by decide +kernel
theorem dX6_secret_15 : decode cX6_secret 15 = .ok (.iconst 1, 1) := by decide +kernel
theorem dX6_secret_16 : decode cX6_secret 16 = .ok (.putfield 50, 3) := by decide +kernel
theorem dX6_secret_19 : decode cX6_secret 19 = .ok (.aload_n 0, 1) := by decide +kernel
theorem dX6_secret_20 : decode cX6_secret 20 = .ok (.getfield 50, 3) := by decide +kernel
theorem dX6_secret_23 : decode cX6_secret 23 = .ok (.ifCond .le 5, 3) := by decide +kernel
theorem dX6_secret_26 : decode cX6_secret 26 = .ok (.iconst 0, 1) := by decide +kernel
theorem dX6_secret_27 : decode cX6_secret 27 = .ok (.ireturn, 1) := by decide +kernel
theorem dX6_secret_28 : decode cX6_secret 28 = .ok (.aload_n 0, 1) := by decide +kernel
theorem dX6_secret_29 : decode cX6_secret 29 = .ok (.getfield 41, 3) := by decide +kernel
theorem dX6_secret_32 : decode cX6_secret 32 = .ok (.iload_n 1, 1) := by decide +kernel
theorem dX6_secret_33 : decode cX6_secret 33 = .ok (.iload_n 2, 1) := by decide +kernel
theorem dX6_secret_34 : decode cX6_secret 34 = .ok (.iload_n 3, 1) := by decide +kernel
theorem dX6_secret_35 : decode cX6_secret 35 = .ok (.invokestatic 82, 3) := by decide +kernel
theorem dX6_secret_38 : decode cX6_secret 38 = .ok (.iload 4, 2) := by decide +kernel
theorem dX6_secret_40 : decode cX6_secret 40 = .ok (.bastore, 1) := by decide +kernel
theorem dX6_secret_41 : decode cX6_secret 41 = .ok (.aload_n 0, 1) := by decide +kernel
theorem dX6_secret_42 : decode cX6_secret 42 = .ok (.iload_n 3, 1) := by decide +kernel
theorem dX6_secret_43 : decode cX6_secret 43 = .ok (.invokevirtual 129, 3) := by decide +kernel
theorem dX6_secret_46 : decode cX6_secret 46 = .ok (.ireturn, 1) := by decide +kernel
set_option maxRecDepth 20000 in
theorem ggX6_pass_X6_isIn : GoodIn wsX6_pass wsX6_isIn := goodIn_r _ [6] (by decide +kernel) (by decide +kernel)
set_option maxRecDepth 20000 in
theorem gX6_pass_X6_isIn : GoodIn wsX6_pass (va_wsS RX6 57 yX6_isIn wsX6_isIn) := goodIn_app (goodIn_of _ (by decide +kernel)) ggX6_pass_X6_isIn
theorem dX6_pass_0 : decode cX6_pass 0 = .ok (.aload_n 0, 1) := by decide +kernel
theorem dX6_pass_1 : decode cX6_pass 1 = .ok (.iload_n 1, 1) := by decide +kernel
theorem dX6_pass_2 : decode cX6_pass 2 = .ok (.iconst 1, 1) := by decide +kernel
theorem dX6_pass_3 : decode cX6_pass 3 = .ok (.bipush 100, 2) := by decide +kernel
theorem dX6_pass_5 : decode cX6_pass 5 = .ok (.invokestatic 57, 3) := by decide +kernel
theorem dX6_pass_8 : decode cX6_pass 8 = .ok (.ifCond .ne 7, 3) := by decide +kernel
theorem dX6_pass_11 : decode cX6_pass 11 = .ok (.iconst 1, 1) := by decide +kernel
theorem dX6_pass_12 : decode cX6_pass 12 = .ok (.goto 20, 3) := by decide +kernel
theorem dX6_pass_15 : decode cX6_pass 15 = .ok (.aload_n 0, 1) := by decide +kernel
theorem dX6_pass_16 : decode cX6_pass 16 = .ok (.getfield 90, 3) := by decide +kernel
theorem dX6_pass_19 : decode cX6_pass 19 = .ok (.iload_n 1, 1) := by decide +kernel
theorem dX6_pass_20 : decode cX6_pass 20 = .ok (.iadd, 1) := by decide +kernel
theorem dX6_pass_21 : decode cX6_pass 21 = .ok (.sipush 1000, 3) := by decide +kernel
theorem dX6_pass_24 : decode cX6_pass 24 = .ok (.if_icmp .le 7, 3) := by decide +kernel
theorem dX6_pass_27 : decode cX6_pass 27 = .ok (.iconst 2, 1) := by decide +kernel
theorem dX6_pass_28 : decode cX6_pass 28 = .ok (.goto 4, 3) := by decide +kernel
theorem dX6_pass_31 : decode cX6_pass 31 = .ok (.iconst 0, 1) := by decide +kernel
theorem dX6_pass_32 : decode cX6_pass 32 = .ok (.putfield 50, 3) := by decide +kernel
theorem dX6_pass_35 : decode cX6_pass 35 = .ok (.aload_n 0, 1) := by decide +kernel
theorem dX6_pass_36 : decode cX6_pass 36 = .ok (.dup, 1) := by decide +kernel
theorem dX6_pass_37 : decode cX6_pass 37 = .ok (.getfield 90, 3) := by decide +kernel
theorem dX6_pass_40 : decode cX6_pass 40 = .ok (.aload_n 0, 1) := by decide +kernel
theorem dX6_pass_41 : decode cX6_pass 41 = .ok (.getfield 50, 3) := by decide +kernel
theorem dX6_pass_44 : decode cX6_pass 44 = .ok (.ifCond .ne 7, 3) := by decide +kernel
theorem dX6_pass_47 : decode cX6_pass 47 = .ok (.iload_n 1, 1) := by decide +kernel
theorem dX6_pass_48 : decode cX6_pass 48 = .ok (.goto 4, 3) := by decide +kernel
theorem dX6_pass_51 : decode cX6_pass 51 = .ok (.iconst 0, 1) := by decide +kernel
theorem dX6_pass_52 : decode cX6_pass 52 = .ok (.iadd, 1) := by decide +kernel
theorem dX6_pass_53 : decode cX6_pass 53 = .ok (.putfield 90, 3) := by decide +kernel
theorem dX6_pass_56 : decode cX6_pass 56 = .ok (.aload_n 0, 1) := by decide +kernel
theorem dX6_pass_57 : decode cX6_pass 57 = .ok (.getfield 50, 3) := by decide +kernel
theorem dX6_pass_60 : decode cX6_pass 60 = .ok (.ifCond .le 7, 3) := by decide +kernel
theorem dX6_pass_63 : decode cX6_pass 63 = .ok (.iconst 0, 1) := by decide +kernel
theorem dX6_pass_64 : decode cX6_pass 64 = .ok (.goto 7, 3) := by decide +kernel
theorem dX6_pass_67 : decode cX6_pass 67 = .ok (.aload_n 0, 1) := by decide +kernel
theorem dX6_pass_68 : decode cX6_pass 68 = .ok (.getfield 90, 3) := by decide +kernel
theorem dX6_pass_71 : decode cX6_pass 71 = .ok (.ireturn, 1) := by decide +kernel
set_option maxRecDepth 20000 in
theorem ggX6_figure_X6_isCell : GoodIn wsX6_figure wsX6_isCell := goodIn_r _ [7, 8, 9, 10, 6, 11, 12, 13, 14, 15, 16, 17, 18, 19, 20, 33, 34, 35, 36, 37, 38, 39, 40, 41, 42, 43, 44, 45, 46, 47, 48, 49, 50, 51, 52, 53] (by decide +kernel) (by decide +kernel)
set_option maxRecDepth 20000 in
theorem gX6_figure_X6_isCell : GoodIn wsX6_figure (wsV RX6 74 RX6 yX6_isCell wsX6_isCell) := goodIn_app (goodIn_of _ (by decide +kernel)) ggX6_figure_X6_isCell
set_option maxRecDepth 20000 in
theorem ggX6_figure_X6_isIn : GoodIn wsX6_figure wsX6_isIn := goodIn_r _ [15] (by decide +kernel) (by decide +kernel)
set_option maxRecDepth 20000 in
theorem gX6_figure_X6_isIn : GoodIn wsX6_figure (va_wsS RX6 57 yX6_isIn wsX6_isIn) := goodIn_app (goodIn_of _ (by decide +kernel)) ggX6_figure_X6_isIn
set_option maxRecDepth 20000 in
theorem ggX6_figure_X6_cellOf : GoodIn wsX6_figure wsX6_cellOf := goodIn_r _ [23] (by decide +kernel) (by decide +kernel)
set_option maxRecDepth 20000 in
theorem gX6_figure_X6_cellOf : GoodIn wsX6_figure (va_wsS RX6 82 yX6_cellOf wsX6_cellOf) := goodIn_app (goodIn_of _ (by decide +kernel)) ggX6_figure_X6_cellOf
set_option maxRecDepth 20000 in
theorem ggX6_figure_X6_figureOn : GoodIn wsX6_figure wsX6_figureOn := goodIn_r _ [27, 28, 29, 30, 31, 32, 33, 34, 35, 36, 37, 38, 39, 40, 41, 42, 43, 44, 45, 46, 47, 48, 49, 50, 51, 52, 53] (by decide +kernel) (by decide +kernel)
set_option maxRecDepth 20000 in
theorem gX6_figure_X6_figureOn : GoodIn wsX6_figure (wsV RX6 93 RX6 yX6_figureOn wsX6_figureOn) := goodIn_app (goodIn_of _ (by decide +kernel)) ggX6_figure_X6_figureOn
theorem dX6_figure_0 : decode cX6_figure 0 = .ok (.aload_n 0, 1) := by decide +kernel
theorem dX6_figure_1 : decode cX6_figure 1 = .ok (.aload_n 0, 1) := by decide +kernel
theorem dX6_figure_2 : decode cX6_figure 2 = .ok (.iload_n 1, 1) := by decide +kernel
theorem dX6_figure_3 : decode cX6_figure 3 = .ok (.iload_n 2, 1) := by decide +kernel
theorem dX6_figure_4 : decode cX6_figure 4 = .ok (.iload_n 3, 1) := by decide +kernel
theorem dX6_figure_5 : decode cX6_figure 5 = .ok (.invokevirtual 74, 3) := by decide +kernel
theorem dX6_figure_8 : decode cX6_figure 8 = .ok (.ifCond .ne 7, 3) := by decide +kernel
theorem dX6_figure_11 : decode cX6_figure 11 = .ok (.iconst 1, 1) := by decide +kernel
theorem dX6_figure_12 : decode cX6_figure 12 = .ok (.goto 21, 3) := by decide +kernel
theorem dX6_figure_15 : decode cX6_figure 15 = .ok (.iload 4, 2) := by decide +kernel
theorem dX6_figure_17 : decode cX6_figure 17 = .ok (.iconst 0, 1) := by decide +kernel
theorem dX6_figure_18 : decode cX6_figure 18 = .ok (.aload_n 0, 1) := by decide +kernel
theorem dX6_figure_19 : decode cX6_figure 19 = .ok (.getfield 90, 3) := by decide +kernel
theorem dX6_figure_22 : decode cX6_figure 22 = .ok (.invokestatic 57, 3) := by decide +kernel
theorem dX6_figure_25 : decode cX6_figure 25 = .ok (.ifCond .ne 7, 3) := by decide +kernel
theorem dX6_figure_28 : decode cX6_figure 28 = .ok (.iconst 2, 1) := by decide +kernel
theorem dX6_figure_29 : decode cX6_figure 29 = .ok (.goto 4, 3) := by decide +kernel
theorem dX6_figure_32 : decode cX6_figure 32 = .ok (.iconst 0, 1) := by decide +kernel
theorem dX6_figure_33 : decode cX6_figure 33 = .ok (.putfield 50, 3) := by decide +kernel
theorem dX6_figure_36 : decode cX6_figure 36 = .ok (.aload_n 0, 1) := by decide +kernel
theorem dX6_figure_37 : decode cX6_figure 37 = .ok (.getfield 50, 3) := by decide +kernel
theorem dX6_figure_40 : decode cX6_figure 40 = .ok (.ifCond .le 7, 3) := by decide +kernel
theorem dX6_figure_43 : decode cX6_figure 43 = .ok (.iconst 0, 1) := by decide +kernel
theorem dX6_figure_44 : decode cX6_figure 44 = .ok (.goto 15, 3) := by decide +kernel
theorem dX6_figure_47 : decode cX6_figure 47 = .ok (.aload_n 0, 1) := by decide +kernel
theorem dX6_figure_48 : decode cX6_figure 48 = .ok (.iload_n 1, 1) := by decide +kernel
theorem dX6_figure_49 : decode cX6_figure 49 = .ok (.iload_n 2, 1) := by decide +kernel
theorem dX6_figure_50 : decode cX6_figure 50 = .ok (.iload_n 3, 1) := by decide +kernel
theorem dX6_figure_51 : decode cX6_figure 51 = .ok (.invokestatic 82, 3) := by decide +kernel
theorem dX6_figure_54 : decode cX6_figure 54 = .ok (.iload 4, 2) := by decide +kernel
theorem dX6_figure_56 : decode cX6_figure 56 = .ok (.invokevirtual 93, 3) := by decide +kernel
theorem dX6_figure_59 : decode cX6_figure 59 = .ok (.ireturn, 1) := by decide +kernel
set_option maxRecDepth 20000 in
theorem ggX6_value_X6_isCell : GoodIn wsX6_value wsX6_isCell := goodIn_r _ [8, 9, 10, 11, 7, 12, 13, 14, 15, 16, 17, 18, 19, 20, 21, 44, 45, 46, 47, 48, 49, 50, 51, 52, 53, 54, 55, 56, 57, 58, 59, 60, 61, 62, 63, 64] (by decide +kernel) (by decide +kernel)
set_option maxRecDepth 20000 in
theorem gX6_value_X6_isCell : GoodIn wsX6_value (wsV RX6 74 RX6 yX6_isCell wsX6_isCell) := goodIn_app (goodIn_of _ (by decide +kernel)) ggX6_value_X6_isCell
set_option maxRecDepth 20000 in
theorem ggX6_value_X6_isIn : GoodIn wsX6_value wsX6_isIn := goodIn_r _ [16] (by decide +kernel) (by decide +kernel)
set_option maxRecDepth 20000 in
theorem gX6_value_X6_isIn : GoodIn wsX6_value (va_wsS RX6 57 yX6_isIn wsX6_isIn) := goodIn_app (goodIn_of _ (by decide +kernel)) ggX6_value_X6_isIn
set_option maxRecDepth 20000 in
theorem ggX6_value_X6_finds : GoodIn wsX6_value wsX6_finds := goodIn_r _ [25, 13, 21, 26, 3, 27, 28, 7, 29, 30, 31, 32, 33, 34, 35, 36, 37, 38, 39, 40, 41, 42, 43, 44, 45, 46, 47, 48, 49, 50, 51, 52, 53, 54, 55, 56, 57, 58, 59, 60, 61, 62, 63, 64] (by decide +kernel) (by decide +kernel)
set_option maxRecDepth 20000 in
theorem gX6_value_X6_finds : GoodIn wsX6_value (wsV RX6 121 RX6 yX6_finds wsX6_finds) := goodIn_app (goodIn_of _ (by decide +kernel)) ggX6_value_X6_finds
theorem dX6_value_0 : decode cX6_value 0 = .ok (.aload_n 0, 1) := by decide +kernel
theorem dX6_value_1 : decode cX6_value 1 = .ok (.aload_n 0, 1) := by decide +kernel
theorem dX6_value_2 : decode cX6_value 2 = .ok (.iload_n 1, 1) := by decide +kernel
theorem dX6_value_3 : decode cX6_value 3 = .ok (.iload_n 2, 1) := by decide +kernel
theorem dX6_value_4 : decode cX6_value 4 = .ok (.iload_n 3, 1) := by decide +kernel
theorem dX6_value_5 : decode cX6_value 5 = .ok (.invokevirtual 74, 3) := by decide +kernel
theorem dX6_value_8 : decode cX6_value 8 = .ok (.ifCond .ne 7, 3) := by decide +kernel
theorem dX6_value_11 : decode cX6_value 11 = .ok (.iconst 1, 1) := by decide +kernel
theorem dX6_value_12 : decode cX6_value 12 = .ok (.goto 21, 3) := by decide +kernel
theorem dX6_value_15 : decode cX6_value 15 = .ok (.iload 4, 2) := by decide +kernel
theorem dX6_value_17 : decode cX6_value 17 = .ok (.iconst 0, 1) := by decide +kernel
theorem dX6_value_18 : decode cX6_value 18 = .ok (.aload_n 0, 1) := by decide +kernel
theorem dX6_value_19 : decode cX6_value 19 = .ok (.getfield 90, 3) := by decide +kernel
theorem dX6_value_22 : decode cX6_value 22 = .ok (.invokestatic 57, 3) := by decide +kernel
theorem dX6_value_25 : decode cX6_value 25 = .ok (.ifCond .ne 7, 3) := by decide +kernel
theorem dX6_value_28 : decode cX6_value 28 = .ok (.iconst 2, 1) := by decide +kernel
theorem dX6_value_29 : decode cX6_value 29 = .ok (.goto 4, 3) := by decide +kernel
theorem dX6_value_32 : decode cX6_value 32 = .ok (.iconst 0, 1) := by decide +kernel
theorem dX6_value_33 : decode cX6_value 33 = .ok (.putfield 50, 3) := by decide +kernel
theorem dX6_value_36 : decode cX6_value 36 = .ok (.aload_n 0, 1) := by decide +kernel
theorem dX6_value_37 : decode cX6_value 37 = .ok (.getfield 50, 3) := by decide +kernel
theorem dX6_value_40 : decode cX6_value 40 = .ok (.ifCond .le 5, 3) := by decide +kernel
theorem dX6_value_43 : decode cX6_value 43 = .ok (.iconst 0, 1) := by decide +kernel
theorem dX6_value_44 : decode cX6_value 44 = .ok (.ireturn, 1) := by decide +kernel
theorem dX6_value_45 : decode cX6_value 45 = .ok (.aload_n 0, 1) := by decide +kernel
theorem dX6_value_46 : decode cX6_value 46 = .ok (.iload_n 3, 1) := by decide +kernel
theorem dX6_value_47 : decode cX6_value 47 = .ok (.iload 4, 2) := by decide +kernel
theorem dX6_value_49 : decode cX6_value 49 = .ok (.invokevirtual 121, 3) := by decide +kernel
theorem dX6_value_52 : decode cX6_value 52 = .ok (.aload_n 0, 1) := by decide +kernel
theorem dX6_value_53 : decode cX6_value 53 = .ok (.getfield 44, 3) := by decide +kernel
theorem dX6_value_56 : decode cX6_value 56 = .ok (.bipush 10, 2) := by decide +kernel
theorem dX6_value_58 : decode cX6_value 58 = .ok (.iload_n 1, 1) := by decide +kernel
theorem dX6_value_59 : decode cX6_value 59 = .ok (.imul, 1) := by decide +kernel
theorem dX6_value_60 : decode cX6_value 60 = .ok (.iload_n 2, 1) := by decide +kernel
theorem dX6_value_61 : decode cX6_value 61 = .ok (.iadd, 1) := by decide +kernel
theorem dX6_value_62 : decode cX6_value 62 = .ok (.iaload, 1) := by decide +kernel
theorem dX6_value_63 : decode cX6_value 63 = .ok (.ireturn, 1) := by decide +kernel
set_option maxRecDepth 20000 in
theorem ggX6_first_X6_isCell : GoodIn wsX6_first wsX6_isCell := goodIn_r _ [10, 11, 12, 13, 9, 14, 15, 16, 17, 18, 19, 20, 21, 22, 23, 27, 28, 29, 30, 31, 32, 33, 34, 35, 36, 37, 38, 39, 40, 41, 42, 43, 44, 45, 46, 47] (by decide +kernel) (by decide +kernel)
set_option maxRecDepth 20000 in
theorem gX6_first_X6_isCell : GoodIn wsX6_first (wsV RX6 74 RX6 yX6_isCell wsX6_isCell) := goodIn_app (goodIn_of _ (by decide +kernel)) ggX6_first_X6_isCell
set_option maxRecDepth 20000 in
theorem ggX6_first_X6_cellOf : GoodIn wsX6_first wsX6_cellOf := goodIn_r _ [26] (by decide +kernel) (by decide +kernel)
set_option maxRecDepth 20000 in
theorem gX6_first_X6_cellOf : GoodIn wsX6_first (va_wsS RX6 82 yX6_cellOf wsX6_cellOf) := goodIn_app (goodIn_of _ (by decide +kernel)) ggX6_first_X6_cellOf
theorem dX6_first_0 : decode cX6_first 0 = .ok (.aload_n 0, 1) := by decide +kernel
theorem dX6_first_1 : decode cX6_first 1 = .ok (.aload_n 0, 1) := by decide +kernel
theorem dX6_first_2 : decode cX6_first 2 = .ok (.iload_n 1, 1) := by decide +kernel
theorem dX6_first_3 : decode cX6_first 3 = .ok (.iload_n 2, 1) := by decide +kernel
theorem dX6_first_4 : decode cX6_first 4 = .ok (.iload_n 3, 1) := by decide +kernel
theorem dX6_first_5 : decode cX6_first 5 = .ok (.invokevirtual 74, 3) := by decide +kernel
theorem dX6_first_8 : decode cX6_first 8 = .ok (.ifCond .eq 7, 3) := by decide +kernel
theorem dX6_first_11 : decode cX6_first 11 = .ok (.iconst 0, 1) := by decide +kernel
theorem dX6_first_12 : decode cX6_first 12 = .ok (.goto 4, 3) := by decide +kernel
theorem dX6_first_15 : decode cX6_first 15 = .ok (.iconst 1, 1) := by decide +kernel
theorem dX6_first_16 : decode cX6_first 16 = .ok (.putfield 50, 3) := by decide +kernel
theorem dX6_first_19 : decode cX6_first 19 = .ok (.aload_n 0, 1) := by decide +kernel
theorem dX6_first_20 : decode cX6_first 20 = .ok (.getfield 50, 3) := by decide +kernel
theorem dX6_first_23 : decode cX6_first 23 = .ok (.ifCond .le 5, 3) := by decide +kernel
theorem dX6_first_26 : decode cX6_first 26 = .ok (.iconst 0, 1) := by decide +kernel
theorem dX6_first_27 : decode cX6_first 27 = .ok (.ireturn, 1) := by decide +kernel
theorem dX6_first_28 : decode cX6_first 28 = .ok (.iconst 0, 1) := by decide +kernel
theorem dX6_first_29 : decode cX6_first 29 = .ok (.istore 4, 2) := by decide +kernel
theorem dX6_first_31 : decode cX6_first 31 = .ok (.iload 4, 2) := by decide +kernel
theorem dX6_first_33 : decode cX6_first 33 = .ok (.aload_n 0, 1) := by decide +kernel
theorem dX6_first_34 : decode cX6_first 34 = .ok (.getfield 87, 3) := by decide +kernel
theorem dX6_first_37 : decode cX6_first 37 = .ok (.if_icmp .ge 33, 3) := by decide +kernel
theorem dX6_first_40 : decode cX6_first 40 = .ok (.aload_n 0, 1) := by decide +kernel
theorem dX6_first_41 : decode cX6_first 41 = .ok (.getfield 32, 3) := by decide +kernel
theorem dX6_first_44 : decode cX6_first 44 = .ok (.iload 4, 2) := by decide +kernel
theorem dX6_first_46 : decode cX6_first 46 = .ok (.iaload, 1) := by decide +kernel
theorem dX6_first_47 : decode cX6_first 47 = .ok (.iload_n 1, 1) := by decide +kernel
theorem dX6_first_48 : decode cX6_first 48 = .ok (.iload_n 2, 1) := by decide +kernel
theorem dX6_first_49 : decode cX6_first 49 = .ok (.iload_n 3, 1) := by decide +kernel
theorem dX6_first_50 : decode cX6_first 50 = .ok (.invokestatic 82, 3) := by decide +kernel
theorem dX6_first_53 : decode cX6_first 53 = .ok (.if_icmp .ne 11, 3) := by decide +kernel
theorem dX6_first_56 : decode cX6_first 56 = .ok (.aload_n 0, 1) := by decide +kernel
theorem dX6_first_57 : decode cX6_first 57 = .ok (.getfield 38, 3) := by decide +kernel
theorem dX6_first_60 : decode cX6_first 60 = .ok (.iload 4, 2) := by decide +kernel
theorem dX6_first_62 : decode cX6_first 62 = .ok (.iaload, 1) := by decide +kernel
theorem dX6_first_63 : decode cX6_first 63 = .ok (.ireturn, 1) := by decide +kernel
theorem dX6_first_64 : decode cX6_first 64 = .ok (.iinc 4 1, 3) := by decide +kernel
theorem dX6_first_67 : decode cX6_first 67 = .ok (.goto (-36), 3) := by decide +kernel
theorem dX6_first_70 : decode cX6_first 70 = .ok (.ldc 86, 2) := by decide +kernel
theorem dX6_first_72 : decode cX6_first 72 = .ok (.ireturn, 1) := by decide +kernel
set_option maxRecDepth 20000 in
theorem ggX6_revisions_X6_isCell : GoodIn wsX6_revisions wsX6_isCell := goodIn_r _ [8, 9, 10, 11, 7, 12, 13, 14, 15, 16, 17, 18, 19, 20, 21, 25, 26, 27, 28, 29, 30, 31, 32, 33, 34, 35, 36, 37, 38, 39, 40, 41, 42, 43, 44, 45] (by decide +kernel) (by decide +kernel)
set_option maxRecDepth 20000 in
theorem gX6_revisions_X6_isCell : GoodIn wsX6_revisions (wsV RX6 74 RX6 yX6_isCell wsX6_isCell) := goodIn_app (goodIn_of _ (by decide +kernel)) ggX6_revisions_X6_isCell
set_option maxRecDepth 20000 in
theorem ggX6_revisions_X6_cellOf : GoodIn wsX6_revisions wsX6_cellOf := goodIn_r _ [24] (by decide +kernel) (by decide +kernel)
set_option maxRecDepth 20000 in
theorem gX6_revisions_X6_cellOf : GoodIn wsX6_revisions (va_wsS RX6 82 yX6_cellOf wsX6_cellOf) := goodIn_app (goodIn_of _ (by decide +kernel)) ggX6_revisions_X6_cellOf
theorem dX6_revisions_0 : decode cX6_revisions 0 = .ok (.aload_n 0, 1) := by decide +kernel
theorem dX6_revisions_1 : decode cX6_revisions 1 = .ok (.aload_n 0, 1) := by decide +kernel
theorem dX6_revisions_2 : decode cX6_revisions 2 = .ok (.iload_n 1, 1) := by decide +kernel
theorem dX6_revisions_3 : decode cX6_revisions 3 = .ok (.iload_n 2, 1) := by decide +kernel
theorem dX6_revisions_4 : decode cX6_revisions 4 = .ok (.iload_n 3, 1) := by decide +kernel
theorem dX6_revisions_5 : decode cX6_revisions 5 = .ok (.invokevirtual 74, 3) := by decide +kernel
theorem dX6_revisions_8 : decode cX6_revisions 8 = .ok (.ifCond .eq 7, 3) := by decide +kernel
theorem dX6_revisions_11 : decode cX6_revisions 11 = .ok (.iconst 0, 1) := by decide +kernel
theorem dX6_revisions_12 : decode cX6_revisions 12 = .ok (.goto 4, 3) := by decide +kernel
theorem dX6_revisions_15 : decode cX6_revisions 15 = .ok (.iconst 1, 1) := by decide +kernel
theorem dX6_revisions_16 : decode cX6_revisions 16 = .ok (.putfield 50, 3) := by decide +kernel
theorem dX6_revisions_19 : decode cX6_revisions 19 = .ok (.iconst 0, 1) := by decide +kernel
theorem dX6_revisions_20 : decode cX6_revisions 20 = .ok (.istore 4, 2) := by decide +kernel
theorem dX6_revisions_22 : decode cX6_revisions 22 = .ok (.iconst 0, 1) := by decide +kernel
theorem dX6_revisions_23 : decode cX6_revisions 23 = .ok (.istore 5, 2) := by decide +kernel
theorem dX6_revisions_25 : decode cX6_revisions 25 = .ok (.iload 5, 2) := by decide +kernel
theorem dX6_revisions_27 : decode cX6_revisions 27 = .ok (.aload_n 0, 1) := by decide +kernel
theorem dX6_revisions_28 : decode cX6_revisions 28 = .ok (.getfield 87, 3) := by decide +kernel
theorem dX6_revisions_31 : decode cX6_revisions 31 = .ok (.if_icmp .ge 42, 3) := by decide +kernel
theorem dX6_revisions_34 : decode cX6_revisions 34 = .ok (.aload_n 0, 1) := by decide +kernel
theorem dX6_revisions_35 : decode cX6_revisions 35 = .ok (.getfield 50, 3) := by decide +kernel
theorem dX6_revisions_38 : decode cX6_revisions 38 = .ok (.ifCond .ne 35, 3) := by decide +kernel
theorem dX6_revisions_41 : decode cX6_revisions 41 = .ok (.iload 4, 2) := by decide +kernel
theorem dX6_revisions_43 : decode cX6_revisions 43 = .ok (.aload_n 0, 1) := by decide +kernel
theorem dX6_revisions_44 : decode cX6_revisions 44 = .ok (.getfield 32, 3) := by decide +kernel
theorem dX6_revisions_47 : decode cX6_revisions 47 = .ok (.iload 5, 2) := by decide +kernel
theorem dX6_revisions_49 : decode cX6_revisions 49 = .ok (.iaload, 1) := by decide +kernel
theorem dX6_revisions_50 : decode cX6_revisions 50 = .ok (.iload_n 1, 1) := by decide +kernel
theorem dX6_revisions_51 : decode cX6_revisions 51 = .ok (.iload_n 2, 1) := by decide +kernel
theorem dX6_revisions_52 : decode cX6_revisions 52 = .ok (.iload_n 3, 1) := by decide +kernel
theorem dX6_revisions_53 : decode cX6_revisions 53 = .ok (.invokestatic 82, 3) := by decide +kernel
theorem dX6_revisions_56 : decode cX6_revisions 56 = .ok (.if_icmp .ne 7, 3) := by decide +kernel
theorem dX6_revisions_59 : decode cX6_revisions 59 = .ok (.iconst 1, 1) := by decide +kernel
theorem dX6_revisions_60 : decode cX6_revisions 60 = .ok (.goto 4, 3) := by decide +kernel
theorem dX6_revisions_63 : decode cX6_revisions 63 = .ok (.iconst 0, 1) := by decide +kernel
theorem dX6_revisions_64 : decode cX6_revisions 64 = .ok (.iadd, 1) := by decide +kernel
theorem dX6_revisions_65 : decode cX6_revisions 65 = .ok (.istore 4, 2) := by decide +kernel
theorem dX6_revisions_67 : decode cX6_revisions 67 = .ok (.iinc 5 1, 3) := by decide +kernel
theorem dX6_revisions_70 : decode cX6_revisions 70 = .ok (.goto (-45), 3) := by decide +kernel
theorem dX6_revisions_73 : decode cX6_revisions 73 = .ok (.iload 4, 2) := by decide +kernel
theorem dX6_revisions_75 : decode cX6_revisions 75 = .ok (.ireturn, 1) := by decide +kernel
set_option maxRecDepth 20000 in
theorem ggX6_hasFault_X6_isCell : GoodIn wsX6_hasFault wsX6_isCell := goodIn_r _ [8, 9, 10, 11, 7, 12, 13, 14, 15, 16, 17, 18, 19, 20, 21, 44, 45, 46, 47, 48, 49, 50, 51, 52, 53, 54, 55, 56, 57, 58, 59, 60, 61, 62, 63, 64] (by decide +kernel) (by decide +kernel)
set_option maxRecDepth 20000 in
theorem gX6_hasFault_X6_isCell : GoodIn wsX6_hasFault (wsV RX6 74 RX6 yX6_isCell wsX6_isCell) := goodIn_app (goodIn_of _ (by decide +kernel)) ggX6_hasFault_X6_isCell
