theorem dX0_init_0 : decode cX0_init 0 = .ok (.aload_n 0, 1) := by decide +kernel
theorem dX0_init_1 : decode cX0_init 1 = .ok (.invokespecial 3, 3) := by decide +kernel
theorem dX0_init_4 : decode cX0_init 4 = .ok (.aload_n 0, 1) := by decide +kernel
theorem dX0_init_5 : decode cX0_init 5 = .ok (.bipush 56, 2) := by decide +kernel
theorem dX0_init_7 : decode cX0_init 7 = .ok (.newarray .boolean, 2) := by decide +kernel
theorem dX0_init_9 : decode cX0_init 9 = .ok (.putfield 9, 3) := by decide +kernel
theorem dX0_init_12 : decode cX0_init 12 = .ok (.return_, 1) := by decide +kernel
theorem dX0_change_0 : decode cX0_change 0 = .ok (.iload_n 1, 1) := by decide +kernel
theorem dX0_change_1 : decode cX0_change 1 = .ok (.bipush 14, 2) := by decide +kernel
theorem dX0_change_3 : decode cX0_change 3 = .ok (.imul, 1) := by decide +kernel
theorem dX0_change_4 : decode cX0_change 4 = .ok (.iload_n 2, 1) := by decide +kernel
theorem dX0_change_5 : decode cX0_change 5 = .ok (.iadd, 1) := by decide +kernel
theorem dX0_change_6 : decode cX0_change 6 = .ok (.istore 4, 2) := by decide +kernel
theorem dX0_change_8 : decode cX0_change 8 = .ok (.aload_n 0, 1) := by decide +kernel
theorem dX0_change_9 : decode cX0_change 9 = .ok (.getfield 9, 3) := by decide +kernel
theorem dX0_change_12 : decode cX0_change 12 = .ok (.iload 4, 2) := by decide +kernel
theorem dX0_change_14 : decode cX0_change 14 = .ok (.baload, 1) := by decide +kernel
theorem dX0_change_15 : decode cX0_change 15 = .ok (.iload_n 3, 1) := by decide +kernel
theorem dX0_change_16 : decode cX0_change 16 = .ok (.if_icmp .eq 7, 3) := by decide +kernel
theorem dX0_change_19 : decode cX0_change 19 = .ok (.iconst 1, 1) := by decide +kernel
theorem dX0_change_20 : decode cX0_change 20 = .ok (.goto 4, 3) := by decide +kernel
theorem dX0_change_23 : decode cX0_change 23 = .ok (.iconst 0, 1) := by decide +kernel
theorem dX0_change_24 : decode cX0_change 24 = .ok (.istore 5, 2) := by decide +kernel
theorem dX0_change_26 : decode cX0_change 26 = .ok (.aload_n 0, 1) := by decide +kernel
theorem dX0_change_27 : decode cX0_change 27 = .ok (.getfield 9, 3) := by decide +kernel
theorem dX0_change_30 : decode cX0_change 30 = .ok (.iload 4, 2) := by decide +kernel
theorem dX0_change_32 : decode cX0_change 32 = .ok (.iload_n 3, 1) := by decide +kernel
theorem dX0_change_33 : decode cX0_change 33 = .ok (.bastore, 1) := by decide +kernel
theorem dX0_change_34 : decode cX0_change 34 = .ok (.iload 5, 2) := by decide +kernel
theorem dX0_change_36 : decode cX0_change 36 = .ok (.ireturn, 1) := by decide +kernel
set_option maxRecDepth 20000 in
theorem ggX0_cover_X4_isWithin : GoodIn wsX0_cover wsX4_isWithin := goodIn_r _ [6, 7, 8, 9, 10, 11, 5, 12, 13, 14, 15] (by decide +kernel) (by decide +kernel)
set_option maxRecDepth 20000 in
theorem gX0_cover_X4_isWithin : GoodIn wsX0_cover (wsV RX0 21 RX4 yX4_isWithin wsX4_isWithin) := goodIn_app (goodIn_of _ (by decide +kernel)) ggX0_cover_X4_isWithin
theorem dX0_cover_0 : decode cX0_cover 0 = .ok (.iconst 0, 1) := by decide +kernel
theorem dX0_cover_1 : decode cX0_cover 1 = .ok (.istore 4, 2) := by decide +kernel
theorem dX0_cover_3 : decode cX0_cover 3 = .ok (.iload 4, 2) := by decide +kernel
theorem dX0_cover_5 : decode cX0_cover 5 = .ok (.aload_n 3, 1) := by decide +kernel
theorem dX0_cover_6 : decode cX0_cover 6 = .ok (.getfield 15, 3) := by decide +kernel
theorem dX0_cover_9 : decode cX0_cover 9 = .ok (.if_icmp .ge 36, 3) := by decide +kernel
theorem dX0_cover_12 : decode cX0_cover 12 = .ok (.aload_n 0, 1) := by decide +kernel
theorem dX0_cover_13 : decode cX0_cover 13 = .ok (.getfield 9, 3) := by decide +kernel
theorem dX0_cover_16 : decode cX0_cover 16 = .ok (.iload_n 1, 1) := by decide +kernel
theorem dX0_cover_17 : decode cX0_cover 17 = .ok (.bipush 14, 2) := by decide +kernel
theorem dX0_cover_19 : decode cX0_cover 19 = .ok (.imul, 1) := by decide +kernel
theorem dX0_cover_20 : decode cX0_cover 20 = .ok (.iload 4, 2) := by decide +kernel
theorem dX0_cover_22 : decode cX0_cover 22 = .ok (.iadd, 1) := by decide +kernel
theorem dX0_cover_23 : decode cX0_cover 23 = .ok (.baload, 1) := by decide +kernel
theorem dX0_cover_24 : decode cX0_cover 24 = .ok (.ifCond .eq 15, 3) := by decide +kernel
theorem dX0_cover_27 : decode cX0_cover 27 = .ok (.aload_n 3, 1) := by decide +kernel
theorem dX0_cover_28 : decode cX0_cover 28 = .ok (.iload_n 2, 1) := by decide +kernel
theorem dX0_cover_29 : decode cX0_cover 29 = .ok (.iload 4, 2) := by decide +kernel
theorem dX0_cover_31 : decode cX0_cover 31 = .ok (.invokevirtual 21, 3) := by decide +kernel
theorem dX0_cover_34 : decode cX0_cover 34 = .ok (.ifCond .eq 5, 3) := by decide +kernel
theorem dX0_cover_37 : decode cX0_cover 37 = .ok (.iconst 1, 1) := by decide +kernel
theorem dX0_cover_38 : decode cX0_cover 38 = .ok (.ireturn, 1) := by decide +kernel
theorem dX0_cover_39 : decode cX0_cover 39 = .ok (.iinc 4 1, 3) := by decide +kernel
theorem dX0_cover_42 : decode cX0_cover 42 = .ok (.goto (-39), 3) := by decide +kernel
theorem dX0_cover_45 : decode cX0_cover 45 = .ok (.iconst 0, 1) := by decide +kernel
theorem dX0_cover_46 : decode cX0_cover 46 = .ok (.ireturn, 1) := by decide +kernel
set_option maxRecDepth 20000 in
theorem ggX1_init_J7_fill_53178 : GoodIn wsX1_init wsJ7_fill_53178 := goodIn_r _ [16] (by decide +kernel) (by decide +kernel)
set_option maxRecDepth 20000 in
theorem gX1_init_J7_fill_53178 : GoodIn wsX1_init (va_wsS RX1 34 yJ7_fill_53178 wsJ7_fill_53178) := goodIn_app (goodIn_of _ (by decide +kernel)) ggX1_init_J7_fill_53178
theorem dX1_init_0 : decode cX1_init 0 = .ok (.aload_n 0, 1) := by decide +kernel
theorem dX1_init_1 : decode cX1_init 1 = .ok (.invokespecial 3, 3) := by decide +kernel
theorem dX1_init_4 : decode cX1_init 4 = .ok (.aload_n 0, 1) := by decide +kernel
theorem dX1_init_5 : decode cX1_init 5 = .ok (.sipush 1680, 3) := by decide +kernel
theorem dX1_init_8 : decode cX1_init 8 = .ok (.newarray .int, 2) := by decide +kernel
theorem dX1_init_10 : decode cX1_init 10 = .ok (.putfield 9, 3) := by decide +kernel
theorem dX1_init_13 : decode cX1_init 13 = .ok (.aload_n 0, 1) := by decide +kernel
theorem dX1_init_14 : decode cX1_init 14 = .ok (.sipush 1680, 3) := by decide +kernel
theorem dX1_init_17 : decode cX1_init 17 = .ok (.newarray .int, 2) := by decide +kernel
theorem dX1_init_19 : decode cX1_init 19 = .ok (.putfield 15, 3) := by decide +kernel
theorem dX1_init_22 : decode cX1_init 22 = .ok (.aload_n 0, 1) := by decide +kernel
theorem dX1_init_23 : decode cX1_init 23 = .ok (.sipush 1680, 3) := by decide +kernel
theorem dX1_init_26 : decode cX1_init 26 = .ok (.newarray .int, 2) := by decide +kernel
theorem dX1_init_28 : decode cX1_init 28 = .ok (.putfield 18, 3) := by decide +kernel
theorem dX1_init_31 : decode cX1_init 31 = .ok (.aload_n 0, 1) := by decide +kernel
theorem dX1_init_32 : decode cX1_init 32 = .ok (.sipush 1680, 3) := by decide +kernel
theorem dX1_init_35 : decode cX1_init 35 = .ok (.newarray .int, 2) := by decide +kernel
theorem dX1_init_37 : decode cX1_init 37 = .ok (.putfield 21, 3) := by decide +kernel
theorem dX1_init_40 : decode cX1_init 40 = .ok (.aload_n 0, 1) := by decide +kernel
theorem dX1_init_41 : decode cX1_init 41 = .ok (.sipush 300, 3) := by decide +kernel
theorem dX1_init_44 : decode cX1_init 44 = .ok (.newarray .int, 2) := by decide +kernel
theorem dX1_init_46 : decode cX1_init 46 = .ok (.putfield 24, 3) := by decide +kernel
theorem dX1_init_49 : decode cX1_init 49 = .ok (.aload_n 0, 1) := by decide +kernel
theorem dX1_init_50 : decode cX1_init 50 = .ok (.sipush 300, 3) := by decide +kernel
theorem dX1_init_53 : decode cX1_init 53 = .ok (.newarray .int, 2) := by decide +kernel
theorem dX1_init_55 : decode cX1_init 55 = .ok (.putfield 27, 3) := by decide +kernel
theorem dX1_init_58 : decode cX1_init 58 = .ok (.aload_n 0, 1) := by decide +kernel
theorem dX1_init_59 : decode cX1_init 59 = .ok (.sipush 300, 3) := by decide +kernel
theorem dX1_init_62 : decode cX1_init 62 = .ok (.newarray .int, 2) := by decide +kernel
theorem dX1_init_64 : decode cX1_init 64 = .ok (.putfield 30, 3) := by decide +kernel
theorem dX1_init_67 : decode cX1_init 67 = .ok (.aload_n 0, 1) := by decide +kernel
theorem dX1_init_68 : decode cX1_init 68 = .ok (.getfield 9, 3) := by decide +kernel
theorem dX1_init_71 : decode cX1_init 71 = .ok (.ldc 33, 2) := by decide +kernel
theorem dX1_init_73 : decode cX1_init 73 = .ok (.invokestatic 34, 3) := by decide +kernel
theorem dX1_init_76 : decode cX1_init 76 = .ok (.aload_n 0, 1) := by decide +kernel
theorem dX1_init_77 : decode cX1_init 77 = .ok (.getfield 15, 3) := by decide +kernel
theorem dX1_init_80 : decode cX1_init 80 = .ok (.ldc 33, 2) := by decide +kernel
theorem dX1_init_82 : decode cX1_init 82 = .ok (.invokestatic 34, 3) := by decide +kernel
theorem dX1_init_85 : decode cX1_init 85 = .ok (.return_, 1) := by decide +kernel
theorem dX1_enter_0 : decode cX1_enter 0 = .ok (.aload_n 0, 1) := by decide +kernel
theorem dX1_enter_1 : decode cX1_enter 1 = .ok (.getfield 40, 3) := by decide +kernel
theorem dX1_enter_4 : decode cX1_enter 4 = .ok (.sipush 300, 3) := by decide +kernel
theorem dX1_enter_7 : decode cX1_enter 7 = .ok (.if_icmp .ge 83, 3) := by decide +kernel
theorem dX1_enter_10 : decode cX1_enter 10 = .ok (.aload_n 0, 1) := by decide +kernel
theorem dX1_enter_11 : decode cX1_enter 11 = .ok (.getfield 24, 3) := by decide +kernel
theorem dX1_enter_14 : decode cX1_enter 14 = .ok (.aload_n 0, 1) := by decide +kernel
theorem dX1_enter_15 : decode cX1_enter 15 = .ok (.getfield 40, 3) := by decide +kernel
theorem dX1_enter_18 : decode cX1_enter 18 = .ok (.iload_n 1, 1) := by decide +kernel
theorem dX1_enter_19 : decode cX1_enter 19 = .ok (.iastore, 1) := by decide +kernel
theorem dX1_enter_20 : decode cX1_enter 20 = .ok (.aload_n 0, 1) := by decide +kernel
theorem dX1_enter_21 : decode cX1_enter 21 = .ok (.getfield 27, 3) := by decide +kernel
theorem dX1_enter_24 : decode cX1_enter 24 = .ok (.aload_n 0, 1) := by decide +kernel
theorem dX1_enter_25 : decode cX1_enter 25 = .ok (.getfield 40, 3) := by decide +kernel
theorem dX1_enter_28 : decode cX1_enter 28 = .ok (.iload_n 2, 1) := by decide +kernel
theorem dX1_enter_29 : decode cX1_enter 29 = .ok (.iastore, 1) := by decide +kernel
theorem dX1_enter_30 : decode cX1_enter 30 = .ok (.aload_n 0, 1) := by decide +kernel
theorem dX1_enter_31 : decode cX1_enter 31 = .ok (.getfield 30, 3) := by decide +kernel
theorem dX1_enter_34 : decode cX1_enter 34 = .ok (.aload_n 0, 1) := by decide +kernel
theorem dX1_enter_35 : decode cX1_enter 35 = .ok (.getfield 40, 3) := by decide +kernel
theorem dX1_enter_38 : decode cX1_enter 38 = .ok (.iload_n 3, 1) := by decide +kernel
theorem dX1_enter_39 : decode cX1_enter 39 = .ok (.iastore, 1) := by decide +kernel
theorem dX1_enter_40 : decode cX1_enter 40 = .ok (.aload_n 0, 1) := by decide +kernel
theorem dX1_enter_41 : decode cX1_enter 41 = .ok (.dup, 1) := by decide +kernel
theorem dX1_enter_42 : decode cX1_enter 42 = .ok (.getfield 40, 3) := by decide +kernel
theorem dX1_enter_45 : decode cX1_enter 45 = .ok (.iconst 1, 1) := by decide +kernel
theorem dX1_enter_46 : decode cX1_enter 46 = .ok (.iadd, 1) := by decide +kernel
theorem dX1_enter_47 : decode cX1_enter 47 = .ok (.putfield 40, 3) := by decide +kernel
theorem dX1_enter_50 : decode cX1_enter 50 = .ok (.aload_n 0, 1) := by decide +kernel
theorem dX1_enter_51 : decode cX1_enter 51 = .ok (.getfield 18, 3) := by decide +kernel
theorem dX1_enter_54 : decode cX1_enter 54 = .ok (.iload_n 1, 1) := by decide +kernel
theorem dX1_enter_55 : decode cX1_enter 55 = .ok (.iaload, 1) := by decide +kernel
theorem dX1_enter_56 : decode cX1_enter 56 = .ok (.ifCond .ne 10, 3) := by decide +kernel
theorem dX1_enter_59 : decode cX1_enter 59 = .ok (.aload_n 0, 1) := by decide +kernel
theorem dX1_enter_60 : decode cX1_enter 60 = .ok (.getfield 15, 3) := by decide +kernel
theorem dX1_enter_63 : decode cX1_enter 63 = .ok (.iload_n 1, 1) := by decide +kernel
theorem dX1_enter_64 : decode cX1_enter 64 = .ok (.iload_n 3, 1) := by decide +kernel
theorem dX1_enter_65 : decode cX1_enter 65 = .ok (.iastore, 1) := by decide +kernel
theorem dX1_enter_66 : decode cX1_enter 66 = .ok (.aload_n 0, 1) := by decide +kernel
theorem dX1_enter_67 : decode cX1_enter 67 = .ok (.getfield 9, 3) := by decide +kernel
theorem dX1_enter_70 : decode cX1_enter 70 = .ok (.iload_n 1, 1) := by decide +kernel
theorem dX1_enter_71 : decode cX1_enter 71 = .ok (.iload_n 3, 1) := by decide +kernel
theorem dX1_enter_72 : decode cX1_enter 72 = .ok (.iastore, 1) := by decide +kernel
theorem dX1_enter_73 : decode cX1_enter 73 = .ok (.aload_n 0, 1) := by decide +kernel
theorem dX1_enter_74 : decode cX1_enter 74 = .ok (.getfield 18, 3) := by decide +kernel
theorem dX1_enter_77 : decode cX1_enter 77 = .ok (.iload_n 1, 1) := by decide +kernel
theorem dX1_enter_78 : decode cX1_enter 78 = .ok (.dup2, 1) := by decide +kernel
theorem dX1_enter_79 : decode cX1_enter 79 = .ok (.iaload, 1) := by decide +kernel
theorem dX1_enter_80 : decode cX1_enter 80 = .ok (.iconst 1, 1) := by decide +kernel
theorem dX1_enter_81 : decode cX1_enter 81 = .ok (.iadd, 1) := by decide +kernel
theorem dX1_enter_82 : decode cX1_enter 82 = .ok (.iastore, 1) := by decide +kernel
theorem dX1_enter_83 : decode cX1_enter 83 = .ok (.aload_n 0, 1) := by decide +kernel
theorem dX1_enter_84 : decode cX1_enter 84 = .ok (.getfield 21, 3) := by decide +kernel
theorem dX1_enter_87 : decode cX1_enter 87 = .ok (.iload_n 1, 1) := by decide +kernel
theorem dX1_enter_88 : decode cX1_enter 88 = .ok (.iload_n 2, 1) := by decide +kernel
theorem dX1_enter_89 : decode cX1_enter 89 = .ok (.iastore, 1) := by decide +kernel
theorem dX1_enter_90 : decode cX1_enter 90 = .ok (.return_, 1) := by decide +kernel
theorem dX1_figureOn_0 : decode cX1_figureOn 0 = .ok (.aload_n 0, 1) := by decide +kernel
theorem dX1_figureOn_1 : decode cX1_figureOn 1 = .ok (.getfield 40, 3) := by decide +kernel
theorem dX1_figureOn_4 : decode cX1_figureOn 4 = .ok (.iconst 1, 1) := by decide +kernel
theorem dX1_figureOn_5 : decode cX1_figureOn 5 = .ok (.isub, 1) := by decide +kernel
theorem dX1_figureOn_6 : decode cX1_figureOn 6 = .ok (.istore_n 3, 1) := by decide +kernel
theorem dX1_figureOn_7 : decode cX1_figureOn 7 = .ok (.iload_n 3, 1) := by decide +kernel
theorem dX1_figureOn_8 : decode cX1_figureOn 8 = .ok (.ifCond .lt 36, 3) := by decide +kernel
theorem dX1_figureOn_11 : decode cX1_figureOn 11 = .ok (.aload_n 0, 1) := by decide +kernel
theorem dX1_figureOn_12 : decode cX1_figureOn 12 = .ok (.getfield 24, 3) := by decide +kernel
theorem dX1_figureOn_15 : decode cX1_figureOn 15 = .ok (.iload_n 3, 1) := by decide +kernel
theorem dX1_figureOn_16 : decode cX1_figureOn 16 = .ok (.iaload, 1) := by decide +kernel
theorem dX1_figureOn_17 : decode cX1_figureOn 17 = .ok (.iload_n 1, 1) := by decide +kernel
theorem dX1_figureOn_18 : decode cX1_figureOn 18 = .ok (.if_icmp .ne 20, 3) := by decide +kernel
theorem dX1_figureOn_21 : decode cX1_figureOn 21 = .ok (.aload_n 0, 1) := by decide +kernel
theorem dX1_figureOn_22 : decode cX1_figureOn 22 = .ok (.getfield 27, 3) := by decide +kernel
theorem dX1_figureOn_25 : decode cX1_figureOn 25 = .ok (.iload_n 3, 1) := by decide +kernel
theorem dX1_figureOn_26 : decode cX1_figureOn 26 = .ok (.iaload, 1) := by decide +kernel
theorem dX1_figureOn_27 : decode cX1_figureOn 27 = .ok (.iload_n 2, 1) := by decide +kernel
theorem dX1_figureOn_28 : decode cX1_figureOn 28 = .ok (.if_icmp .gt 10, 3) := by decide +kernel
theorem dX1_figureOn_31 : decode cX1_figureOn 31 = .ok (.aload_n 0, 1) := by decide +kernel
theorem dX1_figureOn_32 : decode cX1_figureOn 32 = .ok (.getfield 30, 3) := by decide +kernel
theorem dX1_figureOn_35 : decode cX1_figureOn 35 = .ok (.iload_n 3, 1) := by decide +kernel
theorem dX1_figureOn_36 : decode cX1_figureOn 36 = .ok (.iaload, 1) := by decide +kernel
theorem dX1_figureOn_37 : decode cX1_figureOn 37 = .ok (.ireturn, 1) := by decide +kernel
theorem dX1_figureOn_38 : decode cX1_figureOn 38 = .ok (.iinc 3 (-1), 3) := by decide +kernel
theorem dX1_figureOn_41 : decode cX1_figureOn 41 = .ok (.goto (-34), 3) := by decide +kernel
theorem dX1_figureOn_44 : decode cX1_figureOn 44 = .ok (.ldc 33, 2) := by decide +kernel
theorem dX1_figureOn_46 : decode cX1_figureOn 46 = .ok (.ireturn, 1) := by decide +kernel
theorem dX1_isToldSince_0 : decode cX1_isToldSince 0 = .ok (.aload_n 0, 1) := by decide +kernel
theorem dX1_isToldSince_1 : decode cX1_isToldSince 1 = .ok (.getfield 9, 3) := by decide +kernel
theorem dX1_isToldSince_4 : decode cX1_isToldSince 4 = .ok (.iload_n 1, 1) := by decide +kernel
theorem dX1_isToldSince_5 : decode cX1_isToldSince 5 = .ok (.iaload, 1) := by decide +kernel
theorem dX1_isToldSince_6 : decode cX1_isToldSince 6 = .ok (.ldc 33, 2) := by decide +kernel
theorem dX1_isToldSince_8 : decode cX1_isToldSince 8 = .ok (.if_icmp .eq 17, 3) := by decide +kernel
theorem dX1_isToldSince_11 : decode cX1_isToldSince 11 = .ok (.aload_n 0, 1) := by decide +kernel
theorem dX1_isToldSince_12 : decode cX1_isToldSince 12 = .ok (.getfield 21, 3) := by decide +kernel
theorem dX1_isToldSince_15 : decode cX1_isToldSince 15 = .ok (.iload_n 1, 1) := by decide +kernel
theorem dX1_isToldSince_16 : decode cX1_isToldSince 16 = .ok (.iaload, 1) := by decide +kernel
theorem dX1_isToldSince_17 : decode cX1_isToldSince 17 = .ok (.iload_n 2, 1) := by decide +kernel
theorem dX1_isToldSince_18 : decode cX1_isToldSince 18 = .ok (.if_icmp .lt 7, 3) := by decide +kernel
theorem dX1_isToldSince_21 : decode cX1_isToldSince 21 = .ok (.iconst 1, 1) := by decide +kernel
theorem dX1_isToldSince_22 : decode cX1_isToldSince 22 = .ok (.goto 4, 3) := by decide +kernel
theorem dX1_isToldSince_25 : decode cX1_isToldSince 25 = .ok (.iconst 0, 1) := by decide +kernel
theorem dX1_isToldSince_26 : decode cX1_isToldSince 26 = .ok (.ireturn, 1) := by decide +kernel
theorem dX2_init_0 : decode cX2_init 0 = .ok (.aload_n 0, 1) := by decide +kernel
theorem dX2_init_1 : decode cX2_init 1 = .ok (.invokespecial 3, 3) := by decide +kernel
theorem dX2_init_4 : decode cX2_init 4 = .ok (.aload_n 0, 1) := by decide +kernel
theorem dX2_init_5 : decode cX2_init 5 = .ok (.bipush 16, 2) := by decide +kernel
theorem dX2_init_7 : decode cX2_init 7 = .ok (.newarray .int, 2) := by decide +kernel
theorem dX2_init_9 : decode cX2_init 9 = .ok (.putfield 9, 3) := by decide +kernel
theorem dX2_init_12 : decode cX2_init 12 = .ok (.aload_n 0, 1) := by decide +kernel
theorem dX2_init_13 : decode cX2_init 13 = .ok (.bipush 16, 2) := by decide +kernel
theorem dX2_init_15 : decode cX2_init 15 = .ok (.newarray .int, 2) := by decide +kernel
theorem dX2_init_17 : decode cX2_init 17 = .ok (.putfield 15, 3) := by decide +kernel
theorem dX2_init_20 : decode cX2_init 20 = .ok (.aload_n 0, 1) := by decide +kernel
theorem dX2_init_21 : decode cX2_init 21 = .ok (.bipush 16, 2) := by decide +kernel
theorem dX2_init_23 : decode cX2_init 23 = .ok (.newarray .int, 2) := by decide +kernel
theorem dX2_init_25 : decode cX2_init 25 = .ok (.putfield 18, 3) := by decide +kernel
theorem dX2_init_28 : decode cX2_init 28 = .ok (.aload_n 0, 1) := by decide +kernel
theorem dX2_init_29 : decode cX2_init 29 = .ok (.bipush 16, 2) := by decide +kernel
theorem dX2_init_31 : decode cX2_init 31 = .ok (.newarray .int, 2) := by decide +kernel
theorem dX2_init_33 : decode cX2_init 33 = .ok (.putfield 21, 3) := by decide +kernel
theorem dX2_init_36 : decode cX2_init 36 = .ok (.return_, 1) := by decide +kernel
theorem dX2_isFull_0 : decode cX2_isFull 0 = .ok (.aload_n 0, 1) := by decide +kernel
theorem dX2_isFull_1 : decode cX2_isFull 1 = .ok (.getfield 24, 3) := by decide +kernel
theorem dX2_isFull_4 : decode cX2_isFull 4 = .ok (.bipush 16, 2) := by decide +kernel
theorem dX2_isFull_6 : decode cX2_isFull 6 = .ok (.if_icmp .lt 7, 3) := by decide +kernel
theorem dX2_isFull_9 : decode cX2_isFull 9 = .ok (.iconst 1, 1) := by decide +kernel
theorem dX2_isFull_10 : decode cX2_isFull 10 = .ok (.goto 4, 3) := by decide +kernel
theorem dX2_isFull_13 : decode cX2_isFull 13 = .ok (.iconst 0, 1) := by decide +kernel
theorem dX2_isFull_14 : decode cX2_isFull 14 = .ok (.ireturn, 1) := by decide +kernel
theorem dX2_append_0 : decode cX2_append 0 = .ok (.aload_n 0, 1) := by decide +kernel
theorem dX2_append_1 : decode cX2_append 1 = .ok (.getfield 24, 3) := by decide +kernel
theorem dX2_append_4 : decode cX2_append 4 = .ok (.bipush 16, 2) := by decide +kernel
theorem dX2_append_6 : decode cX2_append 6 = .ok (.if_icmp .ge 54, 3) := by decide +kernel
theorem dX2_append_9 : decode cX2_append 9 = .ok (.aload_n 0, 1) := by decide +kernel
theorem dX2_append_10 : decode cX2_append 10 = .ok (.getfield 9, 3) := by decide +kernel
theorem dX2_append_13 : decode cX2_append 13 = .ok (.aload_n 0, 1) := by decide +kernel
theorem dX2_append_14 : decode cX2_append 14 = .ok (.getfield 24, 3) := by decide +kernel
theorem dX2_append_17 : decode cX2_append 17 = .ok (.iload_n 1, 1) := by decide +kernel
theorem dX2_append_18 : decode cX2_append 18 = .ok (.iastore, 1) := by decide +kernel
theorem dX2_append_19 : decode cX2_append 19 = .ok (.aload_n 0, 1) := by decide +kernel
theorem dX2_append_20 : decode cX2_append 20 = .ok (.getfield 15, 3) := by decide +kernel
theorem dX2_append_23 : decode cX2_append 23 = .ok (.aload_n 0, 1) := by decide +kernel
theorem dX2_append_24 : decode cX2_append 24 = .ok (.getfield 24, 3) := by decide +kernel
theorem dX2_append_27 : decode cX2_append 27 = .ok (.iload_n 2, 1) := by decide +kernel
theorem dX2_append_28 : decode cX2_append 28 = .ok (.iastore, 1) := by decide +kernel
theorem dX2_append_29 : decode cX2_append 29 = .ok (.aload_n 0, 1) := by decide +kernel
theorem dX2_append_30 : decode cX2_append 30 = .ok (.getfield 18, 3) := by decide +kernel
theorem dX2_append_33 : decode cX2_append 33 = .ok (.aload_n 0, 1) := by decide +kernel
theorem dX2_append_34 : decode cX2_append 34 = .ok (.getfield 24, 3) := by decide +kernel
theorem dX2_append_37 : decode cX2_append 37 = .ok (.iload_n 3, 1) := by decide +kernel
theorem dX2_append_38 : decode cX2_append 38 = .ok (.iastore, 1) := by decide +kernel
theorem dX2_append_39 : decode cX2_append 39 = .ok (.aload_n 0, 1) := by decide +kernel
theorem dX2_append_40 : decode cX2_append 40 = .ok (.getfield 21, 3) := by decide +kernel
theorem dX2_append_43 : decode cX2_append 43 = .ok (.aload_n 0, 1) := by decide +kernel
theorem dX2_append_44 : decode cX2_append 44 = .ok (.getfield 24, 3) := by decide +kernel
theorem dX2_append_47 : decode cX2_append 47 = .ok (.iload 4, 2) := by decide +kernel
theorem dX2_append_49 : decode cX2_append 49 = .ok (.iastore, 1) := by decide +kernel
theorem dX2_append_50 : decode cX2_append 50 = .ok (.aload_n 0, 1) := by decide +kernel
theorem dX2_append_51 : decode cX2_append 51 = .ok (.dup, 1) := by decide +kernel
theorem dX2_append_52 : decode cX2_append 52 = .ok (.getfield 24, 3) := by decide +kernel
theorem dX2_append_55 : decode cX2_append 55 = .ok (.iconst 1, 1) := by decide +kernel
theorem dX2_append_56 : decode cX2_append 56 = .ok (.iadd, 1) := by decide +kernel
theorem dX2_append_57 : decode cX2_append 57 = .ok (.putfield 24, 3) := by decide +kernel
theorem dX2_append_60 : decode cX2_append 60 = .ok (.aload_n 0, 1) := by decide +kernel
theorem dX2_append_61 : decode cX2_append 61 = .ok (.getfield 24, 3) := by decide +kernel
theorem dX2_append_64 : decode cX2_append 64 = .ok (.ireturn, 1) := by decide +kernel
theorem dX2_figureBehind_0 : decode cX2_figureBehind 0 = .ok (.aload_n 0, 1) := by decide +kernel
theorem dX2_figureBehind_1 : decode cX2_figureBehind 1 = .ok (.getfield 9, 3) := by decide +kernel
theorem dX2_figureBehind_4 : decode cX2_figureBehind 4 = .ok (.iload_n 1, 1) := by decide +kernel
theorem dX2_figureBehind_5 : decode cX2_figureBehind 5 = .ok (.iaload, 1) := by decide +kernel
theorem dX2_figureBehind_6 : decode cX2_figureBehind 6 = .ok (.iconst 2, 1) := by decide +kernel
theorem dX2_figureBehind_7 : decode cX2_figureBehind 7 = .ok (.if_icmp .ne 8, 3) := by decide +kernel
theorem dX2_figureBehind_10 : decode cX2_figureBehind 10 = .ok (.ldc 28, 2) := by decide +kernel
theorem dX2_figureBehind_12 : decode cX2_figureBehind 12 = .ok (.goto 9, 3) := by decide +kernel
theorem dX2_figureBehind_15 : decode cX2_figureBehind 15 = .ok (.aload_n 0, 1) := by decide +kernel
theorem dX2_figureBehind_16 : decode cX2_figureBehind 16 = .ok (.getfield 21, 3) := by decide +kernel
theorem dX2_figureBehind_19 : decode cX2_figureBehind 19 = .ok (.iload_n 1, 1) := by decide +kernel
theorem dX2_figureBehind_20 : decode cX2_figureBehind 20 = .ok (.iaload, 1) := by decide +kernel
theorem dX2_figureBehind_21 : decode cX2_figureBehind 21 = .ok (.ireturn, 1) := by decide +kernel
theorem dX2_clear_0 : decode cX2_clear 0 = .ok (.aload_n 0, 1) := by decide +kernel
theorem dX2_clear_1 : decode cX2_clear 1 = .ok (.getfield 24, 3) := by decide +kernel
theorem dX2_clear_4 : decode cX2_clear 4 = .ok (.istore_n 1, 1) := by decide +kernel
theorem dX2_clear_5 : decode cX2_clear 5 = .ok (.aload_n 0, 1) := by decide +kernel
theorem dX2_clear_6 : decode cX2_clear 6 = .ok (.iconst 0, 1) := by decide +kernel
theorem dX2_clear_7 : decode cX2_clear 7 = .ok (.putfield 24, 3) := by decide +kernel
theorem dX2_clear_10 : decode cX2_clear 10 = .ok (.iload_n 1, 1) := by decide +kernel
theorem dX2_clear_11 : decode cX2_clear 11 = .ok (.ireturn, 1) := by decide +kernel
theorem dX3_init_0 : decode cX3_init 0 = .ok (.aload_n 0, 1) := by decide +kernel
theorem dX3_init_1 : decode cX3_init 1 = .ok (.invokespecial 3, 3) := by decide +kernel
theorem dX3_init_4 : decode cX3_init 4 = .ok (.aload_n 0, 1) := by decide +kernel
theorem dX3_init_5 : decode cX3_init 5 = .ok (.sipush 140, 3) := by decide +kernel
theorem dX3_init_8 : decode cX3_init 8 = .ok (.newarray .int, 2) := by decide +kernel
theorem dX3_init_10 : decode cX3_init 10 = .ok (.putfield 9, 3) := by decide +kernel
theorem dX3_init_13 : decode cX3_init 13 = .ok (.aload_n 0, 1) := by decide +kernel
theorem dX3_init_14 : decode cX3_init 14 = .ok (.sipush 140, 3) := by decide +kernel
theorem dX3_init_17 : decode cX3_init 17 = .ok (.newarray .boolean, 2) := by decide +kernel
theorem dX3_init_19 : decode cX3_init 19 = .ok (.putfield 15, 3) := by decide +kernel
theorem dX3_init_22 : decode cX3_init 22 = .ok (.return_, 1) := by decide +kernel
theorem dX3_valueAt_0 : decode cX3_valueAt 0 = .ok (.iload_n 1, 1) := by decide +kernel
theorem dX3_valueAt_1 : decode cX3_valueAt 1 = .ok (.ifCond .lt 19, 3) := by decide +kernel
theorem dX3_valueAt_4 : decode cX3_valueAt 4 = .ok (.iload_n 1, 1) := by decide +kernel
theorem dX3_valueAt_5 : decode cX3_valueAt 5 = .ok (.sipush 140, 3) := by decide +kernel
theorem dX3_valueAt_8 : decode cX3_valueAt 8 = .ok (.if_icmp .ge 12, 3) := by decide +kernel
theorem dX3_valueAt_11 : decode cX3_valueAt 11 = .ok (.aload_n 0, 1) := by decide +kernel
theorem dX3_valueAt_12 : decode cX3_valueAt 12 = .ok (.getfield 9, 3) := by decide +kernel
theorem dX3_valueAt_15 : decode cX3_valueAt 15 = .ok (.iload_n 1, 1) := by decide +kernel
theorem dX3_valueAt_16 : decode cX3_valueAt 16 = .ok (.iaload, 1) := by decide +kernel
theorem dX3_valueAt_17 : decode cX3_valueAt 17 = .ok (.goto 5, 3) := by decide +kernel
theorem dX3_valueAt_20 : decode cX3_valueAt 20 = .ok (.ldc 19, 2) := by decide +kernel
theorem dX3_valueAt_22 : decode cX3_valueAt 22 = .ok (.ireturn, 1) := by decide +kernel
theorem dX3_isHidden_0 : decode cX3_isHidden 0 = .ok (.iload_n 1, 1) := by decide +kernel
theorem dX3_isHidden_1 : decode cX3_isHidden 1 = .ok (.ifCond .lt 23, 3) := by decide +kernel
theorem dX3_isHidden_4 : decode cX3_isHidden 4 = .ok (.iload_n 1, 1) := by decide +kernel
theorem dX3_isHidden_5 : decode cX3_isHidden 5 = .ok (.sipush 140, 3) := by decide +kernel
theorem dX3_isHidden_8 : decode cX3_isHidden 8 = .ok (.if_icmp .ge 16, 3) := by decide +kernel
theorem dX3_isHidden_11 : decode cX3_isHidden 11 = .ok (.aload_n 0, 1) := by decide +kernel
theorem dX3_isHidden_12 : decode cX3_isHidden 12 = .ok (.getfield 15, 3) := by decide +kernel
theorem dX3_isHidden_15 : decode cX3_isHidden 15 = .ok (.iload_n 1, 1) := by decide +kernel
theorem dX3_isHidden_16 : decode cX3_isHidden 16 = .ok (.baload, 1) := by decide +kernel
theorem dX3_isHidden_17 : decode cX3_isHidden 17 = .ok (.ifCond .eq 7, 3) := by decide +kernel
theorem dX3_isHidden_20 : decode cX3_isHidden 20 = .ok (.iconst 1, 1) := by decide +kernel
theorem dX3_isHidden_21 : decode cX3_isHidden 21 = .ok (.goto 4, 3) := by decide +kernel
theorem dX3_isHidden_24 : decode cX3_isHidden 24 = .ok (.iconst 0, 1) := by decide +kernel
theorem dX3_isHidden_25 : decode cX3_isHidden 25 = .ok (.ireturn, 1) := by decide +kernel
set_option maxRecDepth 20000 in
theorem ggX3_load_X3_loadFigures : GoodIn wsX3_load wsX3_loadFigures := goodIn_r _ [7, 1, 2, 8, 9, 10, 11, 36, 37, 38, 39, 40, 41, 42, 43, 44, 45] (by decide +kernel) (by decide +kernel)
set_option maxRecDepth 20000 in
theorem gX3_load_X3_loadFigures : GoodIn wsX3_load (wsV RX3 20 RX3 yX3_loadFigures wsX3_loadFigures) := goodIn_app (goodIn_of _ (by decide +kernel)) ggX3_load_X3_loadFigures
set_option maxRecDepth 20000 in
theorem ggX3_load_X5_slotOf : GoodIn wsX3_load wsX5_slotOf := goodIn_r _ [14] (by decide +kernel) (by decide +kernel)
set_option maxRecDepth 20000 in
theorem gX3_load_X5_slotOf_n30 : GoodIn wsX3_load (wsX5_slotOf) := ggX3_load_X5_slotOf
set_option maxRecDepth 20000 in
theorem ggX3_load_X3_sumRightIn : GoodIn wsX3_load wsX3_sumRightIn := goodIn_r _ [18, 2, 19, 20, 21, 22, 23, 24, 25, 26, 27, 6, 28, 29, 30, 31, 32, 1, 33, 34, 35, 36, 37] (by decide +kernel) (by decide +kernel)
set_option maxRecDepth 20000 in
theorem gX3_load_X3_sumRightIn : GoodIn wsX3_load (wsV RX3 34 RX3 yX3_sumRightIn wsX3_sumRightIn) := goodIn_app (goodIn_of _ (by decide +kernel)) ggX3_load_X3_sumRightIn
theorem dX3_load_0 : decode cX3_load 0 = .ok (.aload_n 0, 1) := by decide +kernel
theorem dX3_load_1 : decode cX3_load 1 = .ok (.aload_n 1, 1) := by decide +kernel
theorem dX3_load_2 : decode cX3_load 2 = .ok (.iload_n 2, 1) := by decide +kernel
theorem dX3_load_3 : decode cX3_load 3 = .ok (.iload_n 3, 1) := by decide +kernel
theorem dX3_load_4 : decode cX3_load 4 = .ok (.invokevirtual 20, 3) := by decide +kernel
theorem dX3_load_7 : decode cX3_load 7 = .ok (.aload 4, 2) := by decide +kernel
theorem dX3_load_9 : decode cX3_load 9 = .ok (.getfield 24, 3) := by decide +kernel
theorem dX3_load_12 : decode cX3_load 12 = .ok (.iconst 1, 1) := by decide +kernel
theorem dX3_load_13 : decode cX3_load 13 = .ok (.isub, 1) := by decide +kernel
theorem dX3_load_14 : decode cX3_load 14 = .ok (.istore 6, 2) := by decide +kernel
theorem dX3_load_16 : decode cX3_load 16 = .ok (.iload 6, 2) := by decide +kernel
theorem dX3_load_18 : decode cX3_load 18 = .ok (.ifCond .lt 96, 3) := by decide +kernel
theorem dX3_load_21 : decode cX3_load 21 = .ok (.aload 5, 2) := by decide +kernel
theorem dX3_load_23 : decode cX3_load 23 = .ok (.getfield 24, 3) := by decide +kernel
theorem dX3_load_26 : decode cX3_load 26 = .ok (.iconst 1, 1) := by decide +kernel
theorem dX3_load_27 : decode cX3_load 27 = .ok (.isub, 1) := by decide +kernel
theorem dX3_load_28 : decode cX3_load 28 = .ok (.istore 7, 2) := by decide +kernel
theorem dX3_load_30 : decode cX3_load 30 = .ok (.iload 7, 2) := by decide +kernel
theorem dX3_load_32 : decode cX3_load 32 = .ok (.ifCond .lt 76, 3) := by decide +kernel
theorem dX3_load_35 : decode cX3_load 35 = .ok (.iload 6, 2) := by decide +kernel
theorem dX3_load_37 : decode cX3_load 37 = .ok (.iload 7, 2) := by decide +kernel
theorem dX3_load_39 : decode cX3_load 39 = .ok (.invokestatic 30, 3) := by decide +kernel
theorem dX3_load_42 : decode cX3_load 42 = .ok (.istore 8, 2) := by decide +kernel
theorem dX3_load_44 : decode cX3_load 44 = .ok (.aload_n 0, 1) := by decide +kernel
theorem dX3_load_45 : decode cX3_load 45 = .ok (.getfield 9, 3) := by decide +kernel
theorem dX3_load_48 : decode cX3_load 48 = .ok (.iload 8, 2) := by decide +kernel
theorem dX3_load_50 : decode cX3_load 50 = .ok (.iaload, 1) := by decide +kernel
theorem dX3_load_51 : decode cX3_load 51 = .ok (.ldc 19, 2) := by decide +kernel
theorem dX3_load_53 : decode cX3_load 53 = .ok (.if_icmp .ne 20, 3) := by decide +kernel
theorem dX3_load_56 : decode cX3_load 56 = .ok (.aload_n 0, 1) := by decide +kernel
theorem dX3_load_57 : decode cX3_load 57 = .ok (.getfield 9, 3) := by decide +kernel
theorem dX3_load_60 : decode cX3_load 60 = .ok (.iload 8, 2) := by decide +kernel
theorem dX3_load_62 : decode cX3_load 62 = .ok (.aload_n 0, 1) := by decide +kernel
theorem dX3_load_63 : decode cX3_load 63 = .ok (.aload 4, 2) := by decide +kernel
theorem dX3_load_65 : decode cX3_load 65 = .ok (.iload 6, 2) := by decide +kernel
theorem dX3_load_67 : decode cX3_load 67 = .ok (.iload 8, 2) := by decide +kernel
theorem dX3_load_69 : decode cX3_load 69 = .ok (.invokevirtual 34, 3) := by decide +kernel
theorem dX3_load_72 : decode cX3_load 72 = .ok (.iastore, 1) := by decide +kernel
theorem dX3_load_73 : decode cX3_load 73 = .ok (.aload_n 0, 1) := by decide +kernel
theorem dX3_load_74 : decode cX3_load 74 = .ok (.getfield 9, 3) := by decide +kernel
theorem dX3_load_77 : decode cX3_load 77 = .ok (.iload 8, 2) := by decide +kernel
theorem dX3_load_79 : decode cX3_load 79 = .ok (.iaload, 1) := by decide +kernel
theorem dX3_load_80 : decode cX3_load 80 = .ok (.ldc 19, 2) := by decide +kernel
theorem dX3_load_82 : decode cX3_load 82 = .ok (.if_icmp .ne 20, 3) := by decide +kernel
theorem dX3_load_85 : decode cX3_load 85 = .ok (.aload_n 0, 1) := by decide +kernel
theorem dX3_load_86 : decode cX3_load 86 = .ok (.getfield 9, 3) := by decide +kernel
theorem dX3_load_89 : decode cX3_load 89 = .ok (.iload 8, 2) := by decide +kernel
theorem dX3_load_91 : decode cX3_load 91 = .ok (.aload_n 0, 1) := by decide +kernel
theorem dX3_load_92 : decode cX3_load 92 = .ok (.aload 5, 2) := by decide +kernel
theorem dX3_load_94 : decode cX3_load 94 = .ok (.iload 7, 2) := by decide +kernel
theorem dX3_load_96 : decode cX3_load 96 = .ok (.iload 8, 2) := by decide +kernel
theorem dX3_load_98 : decode cX3_load 98 = .ok (.invokevirtual 34, 3) := by decide +kernel
theorem dX3_load_101 : decode cX3_load 101 = .ok (.iastore, 1) := by decide +kernel
theorem dX3_load_102 : decode cX3_load 102 = .ok (.iinc 7 (-1), 3) := by decide +kernel
theorem dX3_load_105 : decode cX3_load 105 = .ok (.goto (-75), 3) := by decide +kernel
theorem dX3_load_108 : decode cX3_load 108 = .ok (.iinc 6 (-1), 3) := by decide +kernel
theorem dX3_load_111 : decode cX3_load 111 = .ok (.goto (-95), 3) := by decide +kernel
theorem dX3_load_114 : decode cX3_load 114 = .ok (.return_, 1) := by decide +kernel
set_option maxRecDepth 20000 in
theorem ggX3_loadFigures_J7_fill_53178 : GoodIn wsX3_loadFigures wsJ7_fill_53178 := goodIn_r _ [6] (by decide +kernel) (by decide +kernel)
set_option maxRecDepth 20000 in
theorem gX3_loadFigures_J7_fill_53178 : GoodIn wsX3_loadFigures (va_wsS RX3 38 yJ7_fill_53178 wsJ7_fill_53178) := goodIn_app (goodIn_of _ (by decide +kernel)) ggX3_loadFigures_J7_fill_53178
theorem dX3_loadFigures_0 : decode cX3_loadFigures 0 = .ok (.aload_n 0, 1) := by decide +kernel
theorem dX3_loadFigures_1 : decode cX3_loadFigures 1 = .ok (.getfield 9, 3) := by decide +kernel
theorem dX3_loadFigures_4 : decode cX3_loadFigures 4 = .ok (.ldc 19, 2) := by decide +kernel
theorem dX3_loadFigures_6 : decode cX3_loadFigures 6 = .ok (.invokestatic 38, 3) := by decide +kernel
theorem dX3_loadFigures_9 : decode cX3_loadFigures 9 = .ok (.iconst 0, 1) := by decide +kernel
theorem dX3_loadFigures_10 : decode cX3_loadFigures 10 = .ok (.istore 4, 2) := by decide +kernel
theorem dX3_loadFigures_12 : decode cX3_loadFigures 12 = .ok (.iload 4, 2) := by decide +kernel
theorem dX3_loadFigures_14 : decode cX3_loadFigures 14 = .ok (.aload_n 1, 1) := by decide +kernel
theorem dX3_loadFigures_15 : decode cX3_loadFigures 15 = .ok (.getfield 44, 3) := by decide +kernel
theorem dX3_loadFigures_18 : decode cX3_loadFigures 18 = .ok (.if_icmp .ge 62, 3) := by decide +kernel
theorem dX3_loadFigures_21 : decode cX3_loadFigures 21 = .ok (.aload_n 1, 1) := by decide +kernel
theorem dX3_loadFigures_22 : decode cX3_loadFigures 22 = .ok (.getfield 47, 3) := by decide +kernel
theorem dX3_loadFigures_25 : decode cX3_loadFigures 25 = .ok (.iload 4, 2) := by decide +kernel
theorem dX3_loadFigures_27 : decode cX3_loadFigures 27 = .ok (.iaload, 1) := by decide +kernel
theorem dX3_loadFigures_28 : decode cX3_loadFigures 28 = .ok (.iload_n 3, 1) := by decide +kernel
theorem dX3_loadFigures_29 : decode cX3_loadFigures 29 = .ok (.if_icmp .gt 51, 3) := by decide +kernel
theorem dX3_loadFigures_32 : decode cX3_loadFigures 32 = .ok (.aload_n 1, 1) := by decide +kernel
theorem dX3_loadFigures_33 : decode cX3_loadFigures 33 = .ok (.getfield 50, 3) := by decide +kernel
theorem dX3_loadFigures_36 : decode cX3_loadFigures 36 = .ok (.iload 4, 2) := by decide +kernel
theorem dX3_loadFigures_38 : decode cX3_loadFigures 38 = .ok (.iaload, 1) := by decide +kernel
theorem dX3_loadFigures_39 : decode cX3_loadFigures 39 = .ok (.iload_n 2, 1) := by decide +kernel
theorem dX3_loadFigures_40 : decode cX3_loadFigures 40 = .ok (.sipush 140, 3) := by decide +kernel
theorem dX3_loadFigures_43 : decode cX3_loadFigures 43 = .ok (.imul, 1) := by decide +kernel
theorem dX3_loadFigures_44 : decode cX3_loadFigures 44 = .ok (.isub, 1) := by decide +kernel
theorem dX3_loadFigures_45 : decode cX3_loadFigures 45 = .ok (.istore 5, 2) := by decide +kernel
theorem dX3_loadFigures_47 : decode cX3_loadFigures 47 = .ok (.iload 5, 2) := by decide +kernel
theorem dX3_loadFigures_49 : decode cX3_loadFigures 49 = .ok (.ifCond .lt 25, 3) := by decide +kernel
theorem dX3_loadFigures_52 : decode cX3_loadFigures 52 = .ok (.iload 5, 2) := by decide +kernel
theorem dX3_loadFigures_54 : decode cX3_loadFigures 54 = .ok (.sipush 140, 3) := by decide +kernel
theorem dX3_loadFigures_57 : decode cX3_loadFigures 57 = .ok (.if_icmp .ge 17, 3) := by decide +kernel
theorem dX3_loadFigures_60 : decode cX3_loadFigures 60 = .ok (.aload_n 0, 1) := by decide +kernel
theorem dX3_loadFigures_61 : decode cX3_loadFigures 61 = .ok (.getfield 9, 3) := by decide +kernel
theorem dX3_loadFigures_64 : decode cX3_loadFigures 64 = .ok (.iload 5, 2) := by decide +kernel
theorem dX3_loadFigures_66 : decode cX3_loadFigures 66 = .ok (.aload_n 1, 1) := by decide +kernel
theorem dX3_loadFigures_67 : decode cX3_loadFigures 67 = .ok (.getfield 53, 3) := by decide +kernel
theorem dX3_loadFigures_70 : decode cX3_loadFigures 70 = .ok (.iload 4, 2) := by decide +kernel
theorem dX3_loadFigures_72 : decode cX3_loadFigures 72 = .ok (.iaload, 1) := by decide +kernel
theorem dX3_loadFigures_73 : decode cX3_loadFigures 73 = .ok (.iastore, 1) := by decide +kernel
theorem dX3_loadFigures_74 : decode cX3_loadFigures 74 = .ok (.iinc 4 1, 3) := by decide +kernel
theorem dX3_loadFigures_77 : decode cX3_loadFigures 77 = .ok (.goto (-65), 3) := by decide +kernel
theorem dX3_loadFigures_80 : decode cX3_loadFigures 80 = .ok (.return_, 1) := by decide +kernel
set_option maxRecDepth 20000 in
theorem ggX3_sumRightIn_X4_isRightIn : GoodIn wsX3_sumRightIn wsX4_isRightIn := goodIn_r _ [6, 7, 8, 18, 19, 20] (by decide +kernel) (by decide +kernel)
set_option maxRecDepth 20000 in
theorem gX3_sumRightIn_X4_isRightIn : GoodIn wsX3_sumRightIn (wsV RX3 56 RX4 yX4_isRightIn wsX4_isRightIn) := goodIn_app (goodIn_of _ (by decide +kernel)) ggX3_sumRightIn_X4_isRightIn
set_option maxRecDepth 20000 in
theorem ggX3_sumRightIn_X3_slotBeside : GoodIn wsX3_sumRightIn wsX3_slotBeside := goodIn_r _ [12, 18, 19, 20] (by decide +kernel) (by decide +kernel)
set_option maxRecDepth 20000 in
theorem gX3_sumRightIn_X3_slotBeside : GoodIn wsX3_sumRightIn (va_wsS RX3 60 yX3_slotBeside wsX3_slotBeside) := goodIn_app (goodIn_of _ (by decide +kernel)) ggX3_sumRightIn_X3_slotBeside
set_option maxRecDepth 20000 in
theorem ggX3_sumRightIn_X3_valueAt : GoodIn wsX3_sumRightIn wsX3_valueAt := goodIn_r _ [16, 17, 1, 21, 22] (by decide +kernel) (by decide +kernel)
set_option maxRecDepth 20000 in
theorem gX3_sumRightIn_X3_valueAt : GoodIn wsX3_sumRightIn (wsV RX3 64 RX3 yX3_valueAt wsX3_valueAt) := goodIn_app (goodIn_of _ (by decide +kernel)) ggX3_sumRightIn_X3_valueAt
theorem dX3_sumRightIn_0 : decode cX3_sumRightIn 0 = .ok (.iconst 0, 1) := by decide +kernel
theorem dX3_sumRightIn_1 : decode cX3_sumRightIn 1 = .ok (.istore 4, 2) := by decide +kernel
theorem dX3_sumRightIn_3 : decode cX3_sumRightIn 3 = .ok (.iconst 1, 1) := by decide +kernel
theorem dX3_sumRightIn_4 : decode cX3_sumRightIn 4 = .ok (.istore 5, 2) := by decide +kernel
theorem dX3_sumRightIn_6 : decode cX3_sumRightIn 6 = .ok (.iload_n 2, 1) := by decide +kernel
theorem dX3_sumRightIn_7 : decode cX3_sumRightIn 7 = .ok (.iconst 1, 1) := by decide +kernel
theorem dX3_sumRightIn_8 : decode cX3_sumRightIn 8 = .ok (.iadd, 1) := by decide +kernel
theorem dX3_sumRightIn_9 : decode cX3_sumRightIn 9 = .ok (.istore 6, 2) := by decide +kernel
theorem dX3_sumRightIn_11 : decode cX3_sumRightIn 11 = .ok (.iload 6, 2) := by decide +kernel
theorem dX3_sumRightIn_13 : decode cX3_sumRightIn 13 = .ok (.aload_n 1, 1) := by decide +kernel
theorem dX3_sumRightIn_14 : decode cX3_sumRightIn 14 = .ok (.getfield 24, 3) := by decide +kernel
theorem dX3_sumRightIn_17 : decode cX3_sumRightIn 17 = .ok (.if_icmp .ge 53, 3) := by decide +kernel
theorem dX3_sumRightIn_20 : decode cX3_sumRightIn 20 = .ok (.aload_n 1, 1) := by decide +kernel
theorem dX3_sumRightIn_21 : decode cX3_sumRightIn 21 = .ok (.iload 6, 2) := by decide +kernel
theorem dX3_sumRightIn_23 : decode cX3_sumRightIn 23 = .ok (.iload_n 2, 1) := by decide +kernel
theorem dX3_sumRightIn_24 : decode cX3_sumRightIn 24 = .ok (.invokevirtual 56, 3) := by decide +kernel
theorem dX3_sumRightIn_27 : decode cX3_sumRightIn 27 = .ok (.ifCond .eq 37, 3) := by decide +kernel
theorem dX3_sumRightIn_30 : decode cX3_sumRightIn 30 = .ok (.aload_n 0, 1) := by decide +kernel
theorem dX3_sumRightIn_31 : decode cX3_sumRightIn 31 = .ok (.aload_n 1, 1) := by decide +kernel
theorem dX3_sumRightIn_32 : decode cX3_sumRightIn 32 = .ok (.iload_n 2, 1) := by decide +kernel
theorem dX3_sumRightIn_33 : decode cX3_sumRightIn 33 = .ok (.iload_n 3, 1) := by decide +kernel
theorem dX3_sumRightIn_34 : decode cX3_sumRightIn 34 = .ok (.iload 6, 2) := by decide +kernel
theorem dX3_sumRightIn_36 : decode cX3_sumRightIn 36 = .ok (.invokestatic 60, 3) := by decide +kernel
theorem dX3_sumRightIn_39 : decode cX3_sumRightIn 39 = .ok (.invokevirtual 64, 3) := by decide +kernel
theorem dX3_sumRightIn_42 : decode cX3_sumRightIn 42 = .ok (.istore 7, 2) := by decide +kernel
theorem dX3_sumRightIn_44 : decode cX3_sumRightIn 44 = .ok (.iload 7, 2) := by decide +kernel
theorem dX3_sumRightIn_46 : decode cX3_sumRightIn 46 = .ok (.ldc 19, 2) := by decide +kernel
theorem dX3_sumRightIn_48 : decode cX3_sumRightIn 48 = .ok (.if_icmp .ne 6, 3) := by decide +kernel
theorem dX3_sumRightIn_51 : decode cX3_sumRightIn 51 = .ok (.ldc 19, 2) := by decide +kernel
theorem dX3_sumRightIn_53 : decode cX3_sumRightIn 53 = .ok (.ireturn, 1) := by decide +kernel
theorem dX3_sumRightIn_54 : decode cX3_sumRightIn 54 = .ok (.iload 4, 2) := by decide +kernel
theorem dX3_sumRightIn_56 : decode cX3_sumRightIn 56 = .ok (.iload 7, 2) := by decide +kernel
theorem dX3_sumRightIn_58 : decode cX3_sumRightIn 58 = .ok (.iadd, 1) := by decide +kernel
theorem dX3_sumRightIn_59 : decode cX3_sumRightIn 59 = .ok (.istore 4, 2) := by decide +kernel
theorem dX3_sumRightIn_61 : decode cX3_sumRightIn 61 = .ok (.iconst 0, 1) := by decide +kernel
theorem dX3_sumRightIn_62 : decode cX3_sumRightIn 62 = .ok (.istore 5, 2) := by decide +kernel
theorem dX3_sumRightIn_64 : decode cX3_sumRightIn 64 = .ok (.iinc 6 1, 3) := by decide +kernel
theorem dX3_sumRightIn_67 : decode cX3_sumRightIn 67 = .ok (.goto (-56), 3) := by decide +kernel
theorem dX3_sumRightIn_70 : decode cX3_sumRightIn 70 = .ok (.iload 5, 2) := by decide +kernel
theorem dX3_sumRightIn_72 : decode cX3_sumRightIn 72 = .ok (.ifCond .eq 8, 3) := by decide +kernel
theorem dX3_sumRightIn_75 : decode cX3_sumRightIn 75 = .ok (.ldc 19, 2) := by decide +kernel
theorem dX3_sumRightIn_77 : decode cX3_sumRightIn 77 = .ok (.goto 5, 3) := by decide +kernel
theorem dX3_sumRightIn_80 : decode cX3_sumRightIn 80 = .ok (.iload 4, 2) := by decide +kernel
theorem dX3_sumRightIn_82 : decode cX3_sumRightIn 82 = .ok (.ireturn, 1) := by decide +kernel
theorem dX3_slotBeside_0 : decode cX3_slotBeside 0 = .ok (.iload_n 2, 1) := by decide +kernel
theorem dX3_slotBeside_1 : decode cX3_slotBeside 1 = .ok (.iload_n 3, 1) := by decide +kernel
theorem dX3_slotBeside_2 : decode cX3_slotBeside 2 = .ok (.iload_n 1, 1) := by decide +kernel
theorem dX3_slotBeside_3 : decode cX3_slotBeside 3 = .ok (.isub, 1) := by decide +kernel
theorem dX3_slotBeside_4 : decode cX3_slotBeside 4 = .ok (.aload_n 0, 1) := by decide +kernel
theorem dX3_slotBeside_5 : decode cX3_slotBeside 5 = .ok (.getfield 68, 3) := by decide +kernel
theorem dX3_slotBeside_8 : decode cX3_slotBeside 8 = .ok (.imul, 1) := by decide +kernel
theorem dX3_slotBeside_9 : decode cX3_slotBeside 9 = .ok (.iadd, 1) := by decide +kernel
theorem dX3_slotBeside_10 : decode cX3_slotBeside 10 = .ok (.ireturn, 1) := by decide +kernel
set_option maxRecDepth 20000 in
theorem ggX3_hide_X3_goThroughRows : GoodIn wsX3_hide wsX3_goThroughRows := goodIn_r _ [8, 9, 10, 11, 12, 13, 14, 7, 15, 3, 1, 16, 17, 18, 19, 20, 21, 22, 23, 24, 25, 26, 27, 28, 29, 30, 31, 32, 33, 34, 35, 36, 37, 38, 39, 40, 41, 2, 42, 43, 44, 45, 46, 47, 48, 49, 52, 53, 54, 50, 51] (by decide +kernel) (by decide +kernel)
set_option maxRecDepth 20000 in
theorem gX3_hide_X3_goThroughRows : GoodIn wsX3_hide (wsV RX3 71 RX3 yX3_goThroughRows wsX3_goThroughRows) := goodIn_app (goodIn_of _ (by decide +kernel)) ggX3_hide_X3_goThroughRows
theorem dX3_hide_0 : decode cX3_hide 0 = .ok (.iconst 0, 1) := by decide +kernel
theorem dX3_hide_1 : decode cX3_hide 1 = .ok (.istore 5, 2) := by decide +kernel
theorem dX3_hide_3 : decode cX3_hide 3 = .ok (.iload 5, 2) := by decide +kernel
theorem dX3_hide_5 : decode cX3_hide 5 = .ok (.sipush 140, 3) := by decide +kernel
theorem dX3_hide_8 : decode cX3_hide 8 = .ok (.if_icmp .ge 46, 3) := by decide +kernel
theorem dX3_hide_11 : decode cX3_hide 11 = .ok (.aload_n 0, 1) := by decide +kernel
theorem dX3_hide_12 : decode cX3_hide 12 = .ok (.getfield 15, 3) := by decide +kernel
theorem dX3_hide_15 : decode cX3_hide 15 = .ok (.iload 5, 2) := by decide +kernel
theorem dX3_hide_17 : decode cX3_hide 17 = .ok (.aload_n 1, 1) := by decide +kernel
theorem dX3_hide_18 : decode cX3_hide 18 = .ok (.iload_n 2, 1) := by decide +kernel
theorem dX3_hide_19 : decode cX3_hide 19 = .ok (.sipush 140, 3) := by decide +kernel
theorem dX3_hide_22 : decode cX3_hide 22 = .ok (.imul, 1) := by decide +kernel
theorem dX3_hide_23 : decode cX3_hide 23 = .ok (.iload 5, 2) := by decide +kernel
theorem dX3_hide_25 : decode cX3_hide 25 = .ok (.iadd, 1) := by decide +kernel
theorem dX3_hide_26 : decode cX3_hide 26 = .ok (.baload, 1) := by decide +kernel
theorem dX3_hide_27 : decode cX3_hide 27 = .ok (.ifCond .eq 19, 3) := by decide +kernel
theorem dX3_hide_30 : decode cX3_hide 30 = .ok (.aload_n 0, 1) := by decide +kernel
theorem dX3_hide_31 : decode cX3_hide 31 = .ok (.getfield 9, 3) := by decide +kernel
theorem dX3_hide_34 : decode cX3_hide 34 = .ok (.iload 5, 2) := by decide +kernel
theorem dX3_hide_36 : decode cX3_hide 36 = .ok (.iaload, 1) := by decide +kernel
theorem dX3_hide_37 : decode cX3_hide 37 = .ok (.ldc 19, 2) := by decide +kernel
theorem dX3_hide_39 : decode cX3_hide 39 = .ok (.if_icmp .eq 7, 3) := by decide +kernel
theorem dX3_hide_42 : decode cX3_hide 42 = .ok (.iconst 1, 1) := by decide +kernel
theorem dX3_hide_43 : decode cX3_hide 43 = .ok (.goto 4, 3) := by decide +kernel
theorem dX3_hide_46 : decode cX3_hide 46 = .ok (.iconst 0, 1) := by decide +kernel
theorem dX3_hide_47 : decode cX3_hide 47 = .ok (.bastore, 1) := by decide +kernel
theorem dX3_hide_48 : decode cX3_hide 48 = .ok (.iinc 5 1, 3) := by decide +kernel
theorem dX3_hide_51 : decode cX3_hide 51 = .ok (.goto (-48), 3) := by decide +kernel
theorem dX3_hide_54 : decode cX3_hide 54 = .ok (.iconst 1, 1) := by decide +kernel
theorem dX3_hide_55 : decode cX3_hide 55 = .ok (.istore 5, 2) := by decide +kernel
theorem dX3_hide_57 : decode cX3_hide 57 = .ok (.iconst 0, 1) := by decide +kernel
theorem dX3_hide_58 : decode cX3_hide 58 = .ok (.istore 6, 2) := by decide +kernel
theorem dX3_hide_60 : decode cX3_hide 60 = .ok (.iload 6, 2) := by decide +kernel
theorem dX3_hide_62 : decode cX3_hide 62 = .ok (.sipush 140, 3) := by decide +kernel
theorem dX3_hide_65 : decode cX3_hide 65 = .ok (.if_icmp .gt 51, 3) := by decide +kernel
theorem dX3_hide_68 : decode cX3_hide 68 = .ok (.iload 5, 2) := by decide +kernel
theorem dX3_hide_70 : decode cX3_hide 70 = .ok (.ifCond .eq 46, 3) := by decide +kernel
theorem dX3_hide_73 : decode cX3_hide 73 = .ok (.aload_n 0, 1) := by decide +kernel
theorem dX3_hide_74 : decode cX3_hide 74 = .ok (.aload_n 3, 1) := by decide +kernel
theorem dX3_hide_75 : decode cX3_hide 75 = .ok (.aload 4, 2) := by decide +kernel
theorem dX3_hide_77 : decode cX3_hide 77 = .ok (.iconst 1, 1) := by decide +kernel
theorem dX3_hide_78 : decode cX3_hide 78 = .ok (.invokevirtual 71, 3) := by decide +kernel
theorem dX3_hide_81 : decode cX3_hide 81 = .ok (.istore 7, 2) := by decide +kernel
theorem dX3_hide_83 : decode cX3_hide 83 = .ok (.aload_n 0, 1) := by decide +kernel
theorem dX3_hide_84 : decode cX3_hide 84 = .ok (.aload_n 3, 1) := by decide +kernel
theorem dX3_hide_85 : decode cX3_hide 85 = .ok (.aload 4, 2) := by decide +kernel
theorem dX3_hide_87 : decode cX3_hide 87 = .ok (.iconst 0, 1) := by decide +kernel
theorem dX3_hide_88 : decode cX3_hide 88 = .ok (.invokevirtual 71, 3) := by decide +kernel
theorem dX3_hide_91 : decode cX3_hide 91 = .ok (.istore 8, 2) := by decide +kernel
theorem dX3_hide_93 : decode cX3_hide 93 = .ok (.iload 7, 2) := by decide +kernel
theorem dX3_hide_95 : decode cX3_hide 95 = .ok (.ifCond .ne 8, 3) := by decide +kernel
theorem dX3_hide_98 : decode cX3_hide 98 = .ok (.iload 8, 2) := by decide +kernel
theorem dX3_hide_100 : decode cX3_hide 100 = .ok (.ifCond .eq 7, 3) := by decide +kernel
theorem dX3_hide_103 : decode cX3_hide 103 = .ok (.iconst 1, 1) := by decide +kernel
theorem dX3_hide_104 : decode cX3_hide 104 = .ok (.goto 4, 3) := by decide +kernel
theorem dX3_hide_107 : decode cX3_hide 107 = .ok (.iconst 0, 1) := by decide +kernel
theorem dX3_hide_108 : decode cX3_hide 108 = .ok (.istore 5, 2) := by decide +kernel
theorem dX3_hide_110 : decode cX3_hide 110 = .ok (.iinc 6 1, 3) := by decide +kernel
theorem dX3_hide_113 : decode cX3_hide 113 = .ok (.goto (-53), 3) := by decide +kernel
theorem dX3_hide_116 : decode cX3_hide 116 = .ok (.return_, 1) := by decide +kernel
set_option maxRecDepth 20000 in
theorem ggX3_goThroughRows_X5_slotOf : GoodIn wsX3_goThroughRows wsX5_slotOf := goodIn_r _ [3] (by decide +kernel) (by decide +kernel)
set_option maxRecDepth 20000 in
theorem gX3_goThroughRows_X5_slotOf_n30 : GoodIn wsX3_goThroughRows (wsX5_slotOf) := ggX3_goThroughRows_X5_slotOf
set_option maxRecDepth 20000 in
theorem ggX3_goThroughRows_X3_protectRow : GoodIn wsX3_goThroughRows wsX3_protectRow := goodIn_r _ [8, 9, 10, 11, 12, 13, 7, 14, 15, 16, 17, 18, 19, 20, 21, 22, 23, 24, 25, 26, 27, 28, 29, 30, 31, 32, 33, 34, 35, 36, 37, 38, 39, 40, 41, 42, 43, 44, 45, 49, 50, 46, 47, 48] (by decide +kernel) (by decide +kernel)
set_option maxRecDepth 20000 in
theorem gX3_goThroughRows_X3_protectRow : GoodIn wsX3_goThroughRows (wsV RX3 75 RX3 yX3_protectRow wsX3_protectRow) := goodIn_app (goodIn_of _ (by decide +kernel)) ggX3_goThroughRows_X3_protectRow
theorem dX3_goThroughRows_0 : decode cX3_goThroughRows 0 = .ok (.iconst 0, 1) := by decide +kernel
theorem dX3_goThroughRows_1 : decode cX3_goThroughRows 1 = .ok (.istore 4, 2) := by decide +kernel
theorem dX3_goThroughRows_3 : decode cX3_goThroughRows 3 = .ok (.iconst 0, 1) := by decide +kernel
theorem dX3_goThroughRows_4 : decode cX3_goThroughRows 4 = .ok (.istore 5, 2) := by decide +kernel
theorem dX3_goThroughRows_6 : decode cX3_goThroughRows 6 = .ok (.iload 5, 2) := by decide +kernel
theorem dX3_goThroughRows_8 : decode cX3_goThroughRows 8 = .ok (.aload_n 1, 1) := by decide +kernel
theorem dX3_goThroughRows_9 : decode cX3_goThroughRows 9 = .ok (.getfield 24, 3) := by decide +kernel
theorem dX3_goThroughRows_12 : decode cX3_goThroughRows 12 = .ok (.if_icmp .ge 70, 3) := by decide +kernel
theorem dX3_goThroughRows_15 : decode cX3_goThroughRows 15 = .ok (.iconst 0, 1) := by decide +kernel
theorem dX3_goThroughRows_16 : decode cX3_goThroughRows 16 = .ok (.istore 6, 2) := by decide +kernel
theorem dX3_goThroughRows_18 : decode cX3_goThroughRows 18 = .ok (.iload 6, 2) := by decide +kernel
theorem dX3_goThroughRows_20 : decode cX3_goThroughRows 20 = .ok (.aload_n 2, 1) := by decide +kernel
theorem dX3_goThroughRows_21 : decode cX3_goThroughRows 21 = .ok (.getfield 24, 3) := by decide +kernel
theorem dX3_goThroughRows_24 : decode cX3_goThroughRows 24 = .ok (.if_icmp .ge 52, 3) := by decide +kernel
theorem dX3_goThroughRows_27 : decode cX3_goThroughRows 27 = .ok (.iload 5, 2) := by decide +kernel
theorem dX3_goThroughRows_29 : decode cX3_goThroughRows 29 = .ok (.iload 6, 2) := by decide +kernel
theorem dX3_goThroughRows_31 : decode cX3_goThroughRows 31 = .ok (.invokestatic 30, 3) := by decide +kernel
theorem dX3_goThroughRows_34 : decode cX3_goThroughRows 34 = .ok (.istore 7, 2) := by decide +kernel
theorem dX3_goThroughRows_36 : decode cX3_goThroughRows 36 = .ok (.iload_n 3, 1) := by decide +kernel
theorem dX3_goThroughRows_37 : decode cX3_goThroughRows 37 = .ok (.ifCond .eq 18, 3) := by decide +kernel
theorem dX3_goThroughRows_40 : decode cX3_goThroughRows 40 = .ok (.aload_n 0, 1) := by decide +kernel
theorem dX3_goThroughRows_41 : decode cX3_goThroughRows 41 = .ok (.aload_n 1, 1) := by decide +kernel
theorem dX3_goThroughRows_42 : decode cX3_goThroughRows 42 = .ok (.iload 5, 2) := by decide +kernel
theorem dX3_goThroughRows_44 : decode cX3_goThroughRows 44 = .ok (.iload 7, 2) := by decide +kernel
theorem dX3_goThroughRows_46 : decode cX3_goThroughRows 46 = .ok (.invokevirtual 75, 3) := by decide +kernel
theorem dX3_goThroughRows_49 : decode cX3_goThroughRows 49 = .ok (.ifCond .eq 21, 3) := by decide +kernel
theorem dX3_goThroughRows_52 : decode cX3_goThroughRows 52 = .ok (.goto 15, 3) := by decide +kernel
theorem dX3_goThroughRows_55 : decode cX3_goThroughRows 55 = .ok (.aload_n 0, 1) := by decide +kernel
theorem dX3_goThroughRows_56 : decode cX3_goThroughRows 56 = .ok (.aload_n 2, 1) := by decide +kernel
theorem dX3_goThroughRows_57 : decode cX3_goThroughRows 57 = .ok (.iload 6, 2) := by decide +kernel
theorem dX3_goThroughRows_59 : decode cX3_goThroughRows 59 = .ok (.iload 7, 2) := by decide +kernel
theorem dX3_goThroughRows_61 : decode cX3_goThroughRows 61 = .ok (.invokevirtual 75, 3) := by decide +kernel
theorem dX3_goThroughRows_64 : decode cX3_goThroughRows 64 = .ok (.ifCond .eq 6, 3) := by decide +kernel
theorem dX3_goThroughRows_67 : decode cX3_goThroughRows 67 = .ok (.iconst 1, 1) := by decide +kernel
theorem dX3_goThroughRows_68 : decode cX3_goThroughRows 68 = .ok (.istore 4, 2) := by decide +kernel
theorem dX3_goThroughRows_70 : decode cX3_goThroughRows 70 = .ok (.iinc 6 1, 3) := by decide +kernel
theorem dX3_goThroughRows_73 : decode cX3_goThroughRows 73 = .ok (.goto (-55), 3) := by decide +kernel
theorem dX3_goThroughRows_76 : decode cX3_goThroughRows 76 = .ok (.iinc 5 1, 3) := by decide +kernel
theorem dX3_goThroughRows_79 : decode cX3_goThroughRows 79 = .ok (.goto (-73), 3) := by decide +kernel
theorem dX3_goThroughRows_82 : decode cX3_goThroughRows 82 = .ok (.iload 4, 2) := by decide +kernel
theorem dX3_goThroughRows_84 : decode cX3_goThroughRows 84 = .ok (.ireturn, 1) := by decide +kernel
set_option maxRecDepth 20000 in
theorem ggX3_protectRow_X3_countHiddenInRow : GoodIn wsX3_protectRow wsX3_countHiddenInRow := goodIn_r _ [7, 8, 9, 10, 6, 11, 2, 12, 13, 14, 15, 16, 17, 18, 19, 20, 21, 41, 42, 43, 39, 40] (by decide +kernel) (by decide +kernel)
set_option maxRecDepth 20000 in
theorem gX3_protectRow_X3_countHiddenInRow : GoodIn wsX3_protectRow (wsV RX3 79 RX3 yX3_countHiddenInRow wsX3_countHiddenInRow) := goodIn_app (goodIn_of _ (by decide +kernel)) ggX3_protectRow_X3_countHiddenInRow
set_option maxRecDepth 20000 in
theorem ggX3_protectRow_X3_sumRightIn : GoodIn wsX3_protectRow wsX3_sumRightIn := goodIn_r _ [25, 1, 12, 13, 14, 15, 16, 17, 18, 19, 20, 6, 21, 26, 27, 28, 29, 30, 41, 42, 43, 39, 40] (by decide +kernel) (by decide +kernel)
set_option maxRecDepth 20000 in
theorem gX3_protectRow_X3_sumRightIn : GoodIn wsX3_protectRow (wsV RX3 34 RX3 yX3_sumRightIn wsX3_sumRightIn) := goodIn_app (goodIn_of _ (by decide +kernel)) ggX3_protectRow_X3_sumRightIn
set_option maxRecDepth 20000 in
theorem ggX3_protectRow_X3_nearestOpenSlot : GoodIn wsX3_protectRow wsX3_nearestOpenSlot := goodIn_r _ [34, 35, 36, 37, 38, 19, 20, 6, 21, 12, 13, 14, 15, 16, 17, 18, 8, 9, 10, 11, 2, 26, 27, 28, 29, 30, 1, 41, 42, 43, 39, 40] (by decide +kernel) (by decide +kernel)
set_option maxRecDepth 20000 in
theorem gX3_protectRow_X3_nearestOpenSlot : GoodIn wsX3_protectRow (wsV RX3 82 RX3 yX3_nearestOpenSlot wsX3_nearestOpenSlot) := goodIn_app (goodIn_of _ (by decide +kernel)) ggX3_protectRow_X3_nearestOpenSlot
theorem dX3_protectRow_0 : decode cX3_protectRow 0 = .ok (.aload_n 0, 1) := by decide +kernel
theorem dX3_protectRow_1 : decode cX3_protectRow 1 = .ok (.aload_n 1, 1) := by decide +kernel
theorem dX3_protectRow_2 : decode cX3_protectRow 2 = .ok (.iload_n 2, 1) := by decide +kernel
theorem dX3_protectRow_3 : decode cX3_protectRow 3 = .ok (.iload_n 3, 1) := by decide +kernel
theorem dX3_protectRow_4 : decode cX3_protectRow 4 = .ok (.invokevirtual 79, 3) := by decide +kernel
theorem dX3_protectRow_7 : decode cX3_protectRow 7 = .ok (.iconst 1, 1) := by decide +kernel
theorem dX3_protectRow_8 : decode cX3_protectRow 8 = .ok (.if_icmp .ne 15, 3) := by decide +kernel
theorem dX3_protectRow_11 : decode cX3_protectRow 11 = .ok (.aload_n 0, 1) := by decide +kernel
theorem dX3_protectRow_12 : decode cX3_protectRow 12 = .ok (.aload_n 1, 1) := by decide +kernel
theorem dX3_protectRow_13 : decode cX3_protectRow 13 = .ok (.iload_n 2, 1) := by decide +kernel
theorem dX3_protectRow_14 : decode cX3_protectRow 14 = .ok (.iload_n 3, 1) := by decide +kernel
theorem dX3_protectRow_15 : decode cX3_protectRow 15 = .ok (.invokevirtual 34, 3) := by decide +kernel
theorem dX3_protectRow_18 : decode cX3_protectRow 18 = .ok (.ldc 19, 2) := by decide +kernel
theorem dX3_protectRow_20 : decode cX3_protectRow 20 = .ok (.if_icmp .ne 5, 3) := by decide +kernel
theorem dX3_protectRow_23 : decode cX3_protectRow 23 = .ok (.iconst 0, 1) := by decide +kernel
theorem dX3_protectRow_24 : decode cX3_protectRow 24 = .ok (.ireturn, 1) := by decide +kernel
theorem dX3_protectRow_25 : decode cX3_protectRow 25 = .ok (.aload_n 0, 1) := by decide +kernel
theorem dX3_protectRow_26 : decode cX3_protectRow 26 = .ok (.getfield 15, 3) := by decide +kernel
theorem dX3_protectRow_29 : decode cX3_protectRow 29 = .ok (.aload_n 0, 1) := by decide +kernel
theorem dX3_protectRow_30 : decode cX3_protectRow 30 = .ok (.aload_n 1, 1) := by decide +kernel
theorem dX3_protectRow_31 : decode cX3_protectRow 31 = .ok (.iload_n 2, 1) := by decide +kernel
theorem dX3_protectRow_32 : decode cX3_protectRow 32 = .ok (.iload_n 3, 1) := by decide +kernel
theorem dX3_protectRow_33 : decode cX3_protectRow 33 = .ok (.invokevirtual 82, 3) := by decide +kernel
theorem dX3_protectRow_36 : decode cX3_protectRow 36 = .ok (.iconst 1, 1) := by decide +kernel
theorem dX3_protectRow_37 : decode cX3_protectRow 37 = .ok (.bastore, 1) := by decide +kernel
theorem dX3_protectRow_38 : decode cX3_protectRow 38 = .ok (.iconst 1, 1) := by decide +kernel
theorem dX3_protectRow_39 : decode cX3_protectRow 39 = .ok (.ireturn, 1) := by decide +kernel
set_option maxRecDepth 20000 in
theorem ggX3_countHiddenInRow_X3_isHidden : GoodIn wsX3_countHiddenInRow wsX3_isHidden := goodIn_r _ [5, 6, 20, 21] (by decide +kernel) (by decide +kernel)
set_option maxRecDepth 20000 in
theorem gX3_countHiddenInRow_X3_isHidden : GoodIn wsX3_countHiddenInRow (wsV RX3 85 RX3 yX3_isHidden wsX3_isHidden) := goodIn_app (goodIn_of _ (by decide +kernel)) ggX3_countHiddenInRow_X3_isHidden
set_option maxRecDepth 20000 in
theorem ggX3_countHiddenInRow_X4_isRightIn : GoodIn wsX3_countHiddenInRow wsX4_isRightIn := goodIn_r _ [11, 12, 13, 17, 18, 19] (by decide +kernel) (by decide +kernel)
set_option maxRecDepth 20000 in
theorem gX3_countHiddenInRow_X4_isRightIn : GoodIn wsX3_countHiddenInRow (wsV RX3 56 RX4 yX4_isRightIn wsX4_isRightIn) := goodIn_app (goodIn_of _ (by decide +kernel)) ggX3_countHiddenInRow_X4_isRightIn
set_option maxRecDepth 20000 in
theorem ggX3_countHiddenInRow_X3_slotBeside : GoodIn wsX3_countHiddenInRow wsX3_slotBeside := goodIn_r _ [16, 17, 18, 19] (by decide +kernel) (by decide +kernel)
set_option maxRecDepth 20000 in
theorem gX3_countHiddenInRow_X3_slotBeside : GoodIn wsX3_countHiddenInRow (va_wsS RX3 60 yX3_slotBeside wsX3_slotBeside) := goodIn_app (goodIn_of _ (by decide +kernel)) ggX3_countHiddenInRow_X3_slotBeside
theorem dX3_countHiddenInRow_0 : decode cX3_countHiddenInRow 0 = .ok (.aload_n 0, 1) := by decide +kernel
theorem dX3_countHiddenInRow_1 : decode cX3_countHiddenInRow 1 = .ok (.iload_n 3, 1) := by decide +kernel
theorem dX3_countHiddenInRow_2 : decode cX3_countHiddenInRow 2 = .ok (.invokevirtual 85, 3) := by decide +kernel
theorem dX3_countHiddenInRow_5 : decode cX3_countHiddenInRow 5 = .ok (.ifCond .eq 7, 3) := by decide +kernel
theorem dX3_countHiddenInRow_8 : decode cX3_countHiddenInRow 8 = .ok (.iconst 1, 1) := by decide +kernel
theorem dX3_countHiddenInRow_9 : decode cX3_countHiddenInRow 9 = .ok (.goto 4, 3) := by decide +kernel
theorem dX3_countHiddenInRow_12 : decode cX3_countHiddenInRow 12 = .ok (.iconst 0, 1) := by decide +kernel
theorem dX3_countHiddenInRow_13 : decode cX3_countHiddenInRow 13 = .ok (.istore 4, 2) := by decide +kernel
theorem dX3_countHiddenInRow_15 : decode cX3_countHiddenInRow 15 = .ok (.iload_n 2, 1) := by decide +kernel
theorem dX3_countHiddenInRow_16 : decode cX3_countHiddenInRow 16 = .ok (.iconst 1, 1) := by decide +kernel
theorem dX3_countHiddenInRow_17 : decode cX3_countHiddenInRow 17 = .ok (.iadd, 1) := by decide +kernel
theorem dX3_countHiddenInRow_18 : decode cX3_countHiddenInRow 18 = .ok (.istore 5, 2) := by decide +kernel
theorem dX3_countHiddenInRow_20 : decode cX3_countHiddenInRow 20 = .ok (.iload 5, 2) := by decide +kernel
theorem dX3_countHiddenInRow_22 : decode cX3_countHiddenInRow 22 = .ok (.aload_n 1, 1) := by decide +kernel
theorem dX3_countHiddenInRow_23 : decode cX3_countHiddenInRow 23 = .ok (.getfield 24, 3) := by decide +kernel
theorem dX3_countHiddenInRow_26 : decode cX3_countHiddenInRow 26 = .ok (.if_icmp .ge 37, 3) := by decide +kernel
theorem dX3_countHiddenInRow_29 : decode cX3_countHiddenInRow 29 = .ok (.aload_n 1, 1) := by decide +kernel
theorem dX3_countHiddenInRow_30 : decode cX3_countHiddenInRow 30 = .ok (.iload 5, 2) := by decide +kernel
theorem dX3_countHiddenInRow_32 : decode cX3_countHiddenInRow 32 = .ok (.iload_n 2, 1) := by decide +kernel
theorem dX3_countHiddenInRow_33 : decode cX3_countHiddenInRow 33 = .ok (.invokevirtual 56, 3) := by decide +kernel
theorem dX3_countHiddenInRow_36 : decode cX3_countHiddenInRow 36 = .ok (.ifCond .eq 21, 3) := by decide +kernel
theorem dX3_countHiddenInRow_39 : decode cX3_countHiddenInRow 39 = .ok (.aload_n 0, 1) := by decide +kernel
theorem dX3_countHiddenInRow_40 : decode cX3_countHiddenInRow 40 = .ok (.aload_n 1, 1) := by decide +kernel
theorem dX3_countHiddenInRow_41 : decode cX3_countHiddenInRow 41 = .ok (.iload_n 2, 1) := by decide +kernel
theorem dX3_countHiddenInRow_42 : decode cX3_countHiddenInRow 42 = .ok (.iload_n 3, 1) := by decide +kernel
theorem dX3_countHiddenInRow_43 : decode cX3_countHiddenInRow 43 = .ok (.iload 5, 2) := by decide +kernel
theorem dX3_countHiddenInRow_45 : decode cX3_countHiddenInRow 45 = .ok (.invokestatic 60, 3) := by decide +kernel
theorem dX3_countHiddenInRow_48 : decode cX3_countHiddenInRow 48 = .ok (.invokevirtual 85, 3) := by decide +kernel
theorem dX3_countHiddenInRow_51 : decode cX3_countHiddenInRow 51 = .ok (.ifCond .eq 6, 3) := by decide +kernel
theorem dX3_countHiddenInRow_54 : decode cX3_countHiddenInRow 54 = .ok (.iinc 4 1, 3) := by decide +kernel
theorem dX3_countHiddenInRow_57 : decode cX3_countHiddenInRow 57 = .ok (.iinc 5 1, 3) := by decide +kernel
theorem dX3_countHiddenInRow_60 : decode cX3_countHiddenInRow 60 = .ok (.goto (-40), 3) := by decide +kernel
theorem dX3_countHiddenInRow_63 : decode cX3_countHiddenInRow 63 = .ok (.iload 4, 2) := by decide +kernel
theorem dX3_countHiddenInRow_65 : decode cX3_countHiddenInRow 65 = .ok (.ireturn, 1) := by decide +kernel
set_option maxRecDepth 20000 in
theorem ggX3_nearestOpenSlot_X3_slotBeside : GoodIn wsX3_nearestOpenSlot wsX3_slotBeside := goodIn_r _ [8, 27, 28, 29] (by decide +kernel) (by decide +kernel)
set_option maxRecDepth 20000 in
theorem gX3_nearestOpenSlot_X3_slotBeside : GoodIn wsX3_nearestOpenSlot (va_wsS RX3 60 yX3_slotBeside wsX3_slotBeside) := goodIn_app (goodIn_of _ (by decide +kernel)) ggX3_nearestOpenSlot_X3_slotBeside
set_option maxRecDepth 20000 in
theorem ggX3_nearestOpenSlot_X4_isRightIn : GoodIn wsX3_nearestOpenSlot wsX4_isRightIn := goodIn_r _ [13, 14, 15, 27, 28, 29] (by decide +kernel) (by decide +kernel)
set_option maxRecDepth 20000 in
theorem gX3_nearestOpenSlot_X4_isRightIn : GoodIn wsX3_nearestOpenSlot (wsV RX3 56 RX4 yX4_isRightIn wsX4_isRightIn) := goodIn_app (goodIn_of _ (by decide +kernel)) ggX3_nearestOpenSlot_X4_isRightIn
set_option maxRecDepth 20000 in
theorem ggX3_nearestOpenSlot_X3_isHidden : GoodIn wsX3_nearestOpenSlot wsX3_isHidden := goodIn_r _ [19, 20, 30, 31] (by decide +kernel) (by decide +kernel)
set_option maxRecDepth 20000 in
theorem gX3_nearestOpenSlot_X3_isHidden : GoodIn wsX3_nearestOpenSlot (wsV RX3 85 RX3 yX3_isHidden wsX3_isHidden) := goodIn_app (goodIn_of _ (by decide +kernel)) ggX3_nearestOpenSlot_X3_isHidden
set_option maxRecDepth 20000 in
theorem ggX3_nearestOpenSlot_X3_valueAt : GoodIn wsX3_nearestOpenSlot wsX3_valueAt := goodIn_r _ [24, 25, 26, 30, 31] (by decide +kernel) (by decide +kernel)
set_option maxRecDepth 20000 in
theorem gX3_nearestOpenSlot_X3_valueAt : GoodIn wsX3_nearestOpenSlot (wsV RX3 64 RX3 yX3_valueAt wsX3_valueAt) := goodIn_app (goodIn_of _ (by decide +kernel)) ggX3_nearestOpenSlot_X3_valueAt
theorem dX3_nearestOpenSlot_0 : decode cX3_nearestOpenSlot 0 = .ok (.iconst (-1), 1) := by decide +kernel
theorem dX3_nearestOpenSlot_1 : decode cX3_nearestOpenSlot 1 = .ok (.istore 4, 2) := by decide +kernel
theorem dX3_nearestOpenSlot_3 : decode cX3_nearestOpenSlot 3 = .ok (.iload_n 2, 1) := by decide +kernel
theorem dX3_nearestOpenSlot_4 : decode cX3_nearestOpenSlot 4 = .ok (.iconst 1, 1) := by decide +kernel
theorem dX3_nearestOpenSlot_5 : decode cX3_nearestOpenSlot 5 = .ok (.iadd, 1) := by decide +kernel
theorem dX3_nearestOpenSlot_6 : decode cX3_nearestOpenSlot 6 = .ok (.istore 5, 2) := by decide +kernel
theorem dX3_nearestOpenSlot_8 : decode cX3_nearestOpenSlot 8 = .ok (.iload 5, 2) := by decide +kernel
theorem dX3_nearestOpenSlot_10 : decode cX3_nearestOpenSlot 10 = .ok (.aload_n 1, 1) := by decide +kernel
theorem dX3_nearestOpenSlot_11 : decode cX3_nearestOpenSlot 11 = .ok (.getfield 24, 3) := by decide +kernel
theorem dX3_nearestOpenSlot_14 : decode cX3_nearestOpenSlot 14 = .ok (.if_icmp .ge 69, 3) := by decide +kernel
theorem dX3_nearestOpenSlot_17 : decode cX3_nearestOpenSlot 17 = .ok (.aload_n 1, 1) := by decide +kernel
theorem dX3_nearestOpenSlot_18 : decode cX3_nearestOpenSlot 18 = .ok (.iload_n 2, 1) := by decide +kernel
theorem dX3_nearestOpenSlot_19 : decode cX3_nearestOpenSlot 19 = .ok (.iload_n 3, 1) := by decide +kernel
theorem dX3_nearestOpenSlot_20 : decode cX3_nearestOpenSlot 20 = .ok (.iload 5, 2) := by decide +kernel
theorem dX3_nearestOpenSlot_22 : decode cX3_nearestOpenSlot 22 = .ok (.invokestatic 60, 3) := by decide +kernel
theorem dX3_nearestOpenSlot_25 : decode cX3_nearestOpenSlot 25 = .ok (.istore 6, 2) := by decide +kernel
theorem dX3_nearestOpenSlot_27 : decode cX3_nearestOpenSlot 27 = .ok (.aload_n 1, 1) := by decide +kernel
theorem dX3_nearestOpenSlot_28 : decode cX3_nearestOpenSlot 28 = .ok (.iload 5, 2) := by decide +kernel
theorem dX3_nearestOpenSlot_30 : decode cX3_nearestOpenSlot 30 = .ok (.iload_n 2, 1) := by decide +kernel
theorem dX3_nearestOpenSlot_31 : decode cX3_nearestOpenSlot 31 = .ok (.invokevirtual 56, 3) := by decide +kernel
theorem dX3_nearestOpenSlot_34 : decode cX3_nearestOpenSlot 34 = .ok (.ifCond .eq 43, 3) := by decide +kernel
theorem dX3_nearestOpenSlot_37 : decode cX3_nearestOpenSlot 37 = .ok (.aload_n 0, 1) := by decide +kernel
theorem dX3_nearestOpenSlot_38 : decode cX3_nearestOpenSlot 38 = .ok (.iload 6, 2) := by decide +kernel
theorem dX3_nearestOpenSlot_40 : decode cX3_nearestOpenSlot 40 = .ok (.invokevirtual 85, 3) := by decide +kernel
theorem dX3_nearestOpenSlot_43 : decode cX3_nearestOpenSlot 43 = .ok (.ifCond .ne 34, 3) := by decide +kernel
theorem dX3_nearestOpenSlot_46 : decode cX3_nearestOpenSlot 46 = .ok (.iload 4, 2) := by decide +kernel
theorem dX3_nearestOpenSlot_48 : decode cX3_nearestOpenSlot 48 = .ok (.iconst (-1), 1) := by decide +kernel
theorem dX3_nearestOpenSlot_49 : decode cX3_nearestOpenSlot 49 = .ok (.if_icmp .eq 24, 3) := by decide +kernel
theorem dX3_nearestOpenSlot_52 : decode cX3_nearestOpenSlot 52 = .ok (.aload_n 0, 1) := by decide +kernel
theorem dX3_nearestOpenSlot_53 : decode cX3_nearestOpenSlot 53 = .ok (.iload 6, 2) := by decide +kernel
theorem dX3_nearestOpenSlot_55 : decode cX3_nearestOpenSlot 55 = .ok (.invokevirtual 64, 3) := by decide +kernel
theorem dX3_nearestOpenSlot_58 : decode cX3_nearestOpenSlot 58 = .ok (.invokestatic 89, 3) := by decide +kernel
theorem dX3_nearestOpenSlot_61 : decode cX3_nearestOpenSlot 61 = .ok (.aload_n 0, 1) := by decide +kernel
theorem dX3_nearestOpenSlot_62 : decode cX3_nearestOpenSlot 62 = .ok (.iload 4, 2) := by decide +kernel
theorem dX3_nearestOpenSlot_64 : decode cX3_nearestOpenSlot 64 = .ok (.invokevirtual 64, 3) := by decide +kernel
theorem dX3_nearestOpenSlot_67 : decode cX3_nearestOpenSlot 67 = .ok (.invokestatic 89, 3) := by decide +kernel
theorem dX3_nearestOpenSlot_70 : decode cX3_nearestOpenSlot 70 = .ok (.if_icmp .ge 7, 3) := by decide +kernel
theorem dX3_nearestOpenSlot_73 : decode cX3_nearestOpenSlot 73 = .ok (.iload 6, 2) := by decide +kernel
theorem dX3_nearestOpenSlot_75 : decode cX3_nearestOpenSlot 75 = .ok (.istore 4, 2) := by decide +kernel
theorem dX3_nearestOpenSlot_77 : decode cX3_nearestOpenSlot 77 = .ok (.iinc 5 1, 3) := by decide +kernel
theorem dX3_nearestOpenSlot_80 : decode cX3_nearestOpenSlot 80 = .ok (.goto (-72), 3) := by decide +kernel
theorem dX3_nearestOpenSlot_83 : decode cX3_nearestOpenSlot 83 = .ok (.iload 4, 2) := by decide +kernel
theorem dX3_nearestOpenSlot_85 : decode cX3_nearestOpenSlot 85 = .ok (.iconst (-1), 1) := by decide +kernel
theorem dX3_nearestOpenSlot_86 : decode cX3_nearestOpenSlot 86 = .ok (.if_icmp .ne 7, 3) := by decide +kernel
theorem dX3_nearestOpenSlot_89 : decode cX3_nearestOpenSlot 89 = .ok (.iload_n 3, 1) := by decide +kernel
theorem dX3_nearestOpenSlot_90 : decode cX3_nearestOpenSlot 90 = .ok (.goto 5, 3) := by decide +kernel
theorem dX3_nearestOpenSlot_93 : decode cX3_nearestOpenSlot 93 = .ok (.iload 4, 2) := by decide +kernel
theorem dX3_nearestOpenSlot_95 : decode cX3_nearestOpenSlot 95 = .ok (.ireturn, 1) := by decide +kernel
theorem dX3_countHiddenSlots_0 : decode cX3_countHiddenSlots 0 = .ok (.iconst 0, 1) := by decide +kernel
theorem dX3_countHiddenSlots_1 : decode cX3_countHiddenSlots 1 = .ok (.istore_n 1, 1) := by decide +kernel
theorem dX3_countHiddenSlots_2 : decode cX3_countHiddenSlots 2 = .ok (.iconst 0, 1) := by decide +kernel
theorem dX3_countHiddenSlots_3 : decode cX3_countHiddenSlots 3 = .ok (.istore_n 2, 1) := by decide +kernel
theorem dX3_countHiddenSlots_4 : decode cX3_countHiddenSlots 4 = .ok (.iload_n 2, 1) := by decide +kernel
theorem dX3_countHiddenSlots_5 : decode cX3_countHiddenSlots 5 = .ok (.sipush 140, 3) := by decide +kernel
theorem dX3_countHiddenSlots_8 : decode cX3_countHiddenSlots 8 = .ok (.if_icmp .ge 21, 3) := by decide +kernel
theorem dX3_countHiddenSlots_11 : decode cX3_countHiddenSlots 11 = .ok (.aload_n 0, 1) := by decide +kernel
theorem dX3_countHiddenSlots_12 : decode cX3_countHiddenSlots 12 = .ok (.getfield 15, 3) := by decide +kernel
theorem dX3_countHiddenSlots_15 : decode cX3_countHiddenSlots 15 = .ok (.iload_n 2, 1) := by decide +kernel
theorem dX3_countHiddenSlots_16 : decode cX3_countHiddenSlots 16 = .ok (.baload, 1) := by decide +kernel
theorem dX3_countHiddenSlots_17 : decode cX3_countHiddenSlots 17 = .ok (.ifCond .eq 6, 3) := by decide +kernel
theorem dX3_countHiddenSlots_20 : decode cX3_countHiddenSlots 20 = .ok (.iinc 1 1, 3) := by decide +kernel
theorem dX3_countHiddenSlots_23 : decode cX3_countHiddenSlots 23 = .ok (.iinc 2 1, 3) := by decide +kernel
theorem dX3_countHiddenSlots_26 : decode cX3_countHiddenSlots 26 = .ok (.goto (-22), 3) := by decide +kernel
theorem dX3_countHiddenSlots_29 : decode cX3_countHiddenSlots 29 = .ok (.iload_n 1, 1) := by decide +kernel
theorem dX3_countHiddenSlots_30 : decode cX3_countHiddenSlots 30 = .ok (.ireturn, 1) := by decide +kernel
theorem dX4_init_0 : decode cX4_init 0 = .ok (.aload_n 0, 1) := by decide +kernel
theorem dX4_init_1 : decode cX4_init 1 = .ok (.invokespecial 1, 3) := by decide +kernel
theorem dX4_init_4 : decode cX4_init 4 = .ok (.aload_n 0, 1) := by decide +kernel
theorem dX4_init_5 : decode cX4_init 5 = .ok (.iload_n 1, 1) := by decide +kernel
theorem dX4_init_6 : decode cX4_init 6 = .ok (.newarray .int, 2) := by decide +kernel
theorem dX4_init_8 : decode cX4_init 8 = .ok (.putfield 7, 3) := by decide +kernel
theorem dX4_init_11 : decode cX4_init 11 = .ok (.aload_n 0, 1) := by decide +kernel
theorem dX4_init_12 : decode cX4_init 12 = .ok (.iload_n 2, 1) := by decide +kernel
theorem dX4_init_13 : decode cX4_init 13 = .ok (.putfield 13, 3) := by decide +kernel
theorem dX4_init_16 : decode cX4_init 16 = .ok (.return_, 1) := by decide +kernel
theorem dX4_has_0 : decode cX4_has 0 = .ok (.iload_n 1, 1) := by decide +kernel
theorem dX4_has_1 : decode cX4_has 1 = .ok (.ifCond .lt 15, 3) := by decide +kernel
theorem dX4_has_4 : decode cX4_has 4 = .ok (.iload_n 1, 1) := by decide +kernel
theorem dX4_has_5 : decode cX4_has 5 = .ok (.aload_n 0, 1) := by decide +kernel
theorem dX4_has_6 : decode cX4_has 6 = .ok (.getfield 17, 3) := by decide +kernel
theorem dX4_has_9 : decode cX4_has 9 = .ok (.if_icmp .ge 7, 3) := by decide +kernel
theorem dX4_has_12 : decode cX4_has 12 = .ok (.iconst 1, 1) := by decide +kernel
theorem dX4_has_13 : decode cX4_has 13 = .ok (.goto 4, 3) := by decide +kernel
theorem dX4_has_16 : decode cX4_has 16 = .ok (.iconst 0, 1) := by decide +kernel
theorem dX4_has_17 : decode cX4_has 17 = .ok (.ireturn, 1) := by decide +kernel
theorem dX4_isFull_0 : decode cX4_isFull 0 = .ok (.aload_n 0, 1) := by decide +kernel
theorem dX4_isFull_1 : decode cX4_isFull 1 = .ok (.getfield 17, 3) := by decide +kernel
theorem dX4_isFull_4 : decode cX4_isFull 4 = .ok (.aload_n 0, 1) := by decide +kernel
theorem dX4_isFull_5 : decode cX4_isFull 5 = .ok (.getfield 7, 3) := by decide +kernel
theorem dX4_isFull_8 : decode cX4_isFull 8 = .ok (.arraylength, 1) := by decide +kernel
theorem dX4_isFull_9 : decode cX4_isFull 9 = .ok (.if_icmp .lt 7, 3) := by decide +kernel
theorem dX4_isFull_12 : decode cX4_isFull 12 = .ok (.iconst 1, 1) := by decide +kernel
theorem dX4_isFull_13 : decode cX4_isFull 13 = .ok (.goto 4, 3) := by decide +kernel
theorem dX4_isFull_16 : decode cX4_isFull 16 = .ok (.iconst 0, 1) := by decide +kernel
theorem dX4_isFull_17 : decode cX4_isFull 17 = .ok (.ireturn, 1) := by decide +kernel
theorem dX4_grow_0 : decode cX4_grow 0 = .ok (.aload_n 0, 1) := by decide +kernel
theorem dX4_grow_1 : decode cX4_grow 1 = .ok (.getfield 17, 3) := by decide +kernel
theorem dX4_grow_4 : decode cX4_grow 4 = .ok (.istore_n 2, 1) := by decide +kernel
theorem dX4_grow_5 : decode cX4_grow 5 = .ok (.iload_n 2, 1) := by decide +kernel
theorem dX4_grow_6 : decode cX4_grow 6 = .ok (.aload_n 0, 1) := by decide +kernel
theorem dX4_grow_7 : decode cX4_grow 7 = .ok (.getfield 7, 3) := by decide +kernel
theorem dX4_grow_10 : decode cX4_grow 10 = .ok (.arraylength, 1) := by decide +kernel
theorem dX4_grow_11 : decode cX4_grow 11 = .ok (.if_icmp .ge 17, 3) := by decide +kernel
theorem dX4_grow_14 : decode cX4_grow 14 = .ok (.aload_n 0, 1) := by decide +kernel
theorem dX4_grow_15 : decode cX4_grow 15 = .ok (.getfield 7, 3) := by decide +kernel
theorem dX4_grow_18 : decode cX4_grow 18 = .ok (.iload_n 2, 1) := by decide +kernel
theorem dX4_grow_19 : decode cX4_grow 19 = .ok (.iload_n 1, 1) := by decide +kernel
theorem dX4_grow_20 : decode cX4_grow 20 = .ok (.iastore, 1) := by decide +kernel
theorem dX4_grow_21 : decode cX4_grow 21 = .ok (.aload_n 0, 1) := by decide +kernel
theorem dX4_grow_22 : decode cX4_grow 22 = .ok (.iload_n 2, 1) := by decide +kernel
theorem dX4_grow_23 : decode cX4_grow 23 = .ok (.iconst 1, 1) := by decide +kernel
theorem dX4_grow_24 : decode cX4_grow 24 = .ok (.iadd, 1) := by decide +kernel
theorem dX4_grow_25 : decode cX4_grow 25 = .ok (.putfield 17, 3) := by decide +kernel
theorem dX4_grow_28 : decode cX4_grow 28 = .ok (.iload_n 2, 1) := by decide +kernel
theorem dX4_grow_29 : decode cX4_grow 29 = .ok (.ireturn, 1) := by decide +kernel
theorem dX4_isRightIn_0 : decode cX4_isRightIn 0 = .ok (.iload_n 1, 1) := by decide +kernel
theorem dX4_isRightIn_1 : decode cX4_isRightIn 1 = .ok (.ifCond .lt 25, 3) := by decide +kernel
theorem dX4_isRightIn_4 : decode cX4_isRightIn 4 = .ok (.iload_n 1, 1) := by decide +kernel
theorem dX4_isRightIn_5 : decode cX4_isRightIn 5 = .ok (.aload_n 0, 1) := by decide +kernel
theorem dX4_isRightIn_6 : decode cX4_isRightIn 6 = .ok (.getfield 17, 3) := by decide +kernel
theorem dX4_isRightIn_9 : decode cX4_isRightIn 9 = .ok (.if_icmp .ge 17, 3) := by decide +kernel
theorem dX4_isRightIn_12 : decode cX4_isRightIn 12 = .ok (.aload_n 0, 1) := by decide +kernel
theorem dX4_isRightIn_13 : decode cX4_isRightIn 13 = .ok (.getfield 7, 3) := by decide +kernel
theorem dX4_isRightIn_16 : decode cX4_isRightIn 16 = .ok (.iload_n 1, 1) := by decide +kernel
theorem dX4_isRightIn_17 : decode cX4_isRightIn 17 = .ok (.iaload, 1) := by decide +kernel
theorem dX4_isRightIn_18 : decode cX4_isRightIn 18 = .ok (.iload_n 2, 1) := by decide +kernel
theorem dX4_isRightIn_19 : decode cX4_isRightIn 19 = .ok (.if_icmp .ne 7, 3) := by decide +kernel
theorem dX4_isRightIn_22 : decode cX4_isRightIn 22 = .ok (.iconst 1, 1) := by decide +kernel
theorem dX4_isRightIn_23 : decode cX4_isRightIn 23 = .ok (.goto 4, 3) := by decide +kernel
theorem dX4_isRightIn_26 : decode cX4_isRightIn 26 = .ok (.iconst 0, 1) := by decide +kernel
theorem dX4_isRightIn_27 : decode cX4_isRightIn 27 = .ok (.ireturn, 1) := by decide +kernel
set_option maxRecDepth 20000 in
theorem ggX4_isWithin_X4_has : GoodIn wsX4_isWithin wsX4_has := goodIn_r _ [7, 1, 8, 9, 10] (by decide +kernel) (by decide +kernel)
set_option maxRecDepth 20000 in
theorem gX4_isWithin_X4_has : GoodIn wsX4_isWithin (wsV RX4 20 RX4 yX4_has wsX4_has) := goodIn_app (goodIn_of _ (by decide +kernel)) ggX4_isWithin_X4_has
theorem dX4_isWithin_0 : decode cX4_isWithin 0 = .ok (.iload_n 1, 1) := by decide +kernel
theorem dX4_isWithin_1 : decode cX4_isWithin 1 = .ok (.istore_n 3, 1) := by decide +kernel
theorem dX4_isWithin_2 : decode cX4_isWithin 2 = .ok (.iconst 0, 1) := by decide +kernel
theorem dX4_isWithin_3 : decode cX4_isWithin 3 = .ok (.istore 4, 2) := by decide +kernel
theorem dX4_isWithin_5 : decode cX4_isWithin 5 = .ok (.iload 4, 2) := by decide +kernel
theorem dX4_isWithin_7 : decode cX4_isWithin 7 = .ok (.aload_n 0, 1) := by decide +kernel
theorem dX4_isWithin_8 : decode cX4_isWithin 8 = .ok (.getfield 17, 3) := by decide +kernel
theorem dX4_isWithin_11 : decode cX4_isWithin 11 = .ok (.if_icmp .ge 29, 3) := by decide +kernel
theorem dX4_isWithin_14 : decode cX4_isWithin 14 = .ok (.aload_n 0, 1) := by decide +kernel
theorem dX4_isWithin_15 : decode cX4_isWithin 15 = .ok (.iload_n 3, 1) := by decide +kernel
theorem dX4_isWithin_16 : decode cX4_isWithin 16 = .ok (.invokevirtual 20, 3) := by decide +kernel
theorem dX4_isWithin_19 : decode cX4_isWithin 19 = .ok (.ifCond .eq 21, 3) := by decide +kernel
theorem dX4_isWithin_22 : decode cX4_isWithin 22 = .ok (.iload_n 3, 1) := by decide +kernel
theorem dX4_isWithin_23 : decode cX4_isWithin 23 = .ok (.iload_n 2, 1) := by decide +kernel
theorem dX4_isWithin_24 : decode cX4_isWithin 24 = .ok (.if_icmp .eq 16, 3) := by decide +kernel
theorem dX4_isWithin_27 : decode cX4_isWithin 27 = .ok (.aload_n 0, 1) := by decide +kernel
theorem dX4_isWithin_28 : decode cX4_isWithin 28 = .ok (.getfield 7, 3) := by decide +kernel
theorem dX4_isWithin_31 : decode cX4_isWithin 31 = .ok (.iload_n 3, 1) := by decide +kernel
theorem dX4_isWithin_32 : decode cX4_isWithin 32 = .ok (.iaload, 1) := by decide +kernel
theorem dX4_isWithin_33 : decode cX4_isWithin 33 = .ok (.istore_n 3, 1) := by decide +kernel
theorem dX4_isWithin_34 : decode cX4_isWithin 34 = .ok (.iinc 4 1, 3) := by decide +kernel
theorem dX4_isWithin_37 : decode cX4_isWithin 37 = .ok (.goto (-32), 3) := by decide +kernel
theorem dX4_isWithin_40 : decode cX4_isWithin 40 = .ok (.iload_n 3, 1) := by decide +kernel
theorem dX4_isWithin_41 : decode cX4_isWithin 41 = .ok (.iload_n 2, 1) := by decide +kernel
theorem dX4_isWithin_42 : decode cX4_isWithin 42 = .ok (.if_icmp .ne 7, 3) := by decide +kernel
theorem dX4_isWithin_45 : decode cX4_isWithin 45 = .ok (.iconst 1, 1) := by decide +kernel
theorem dX4_isWithin_46 : decode cX4_isWithin 46 = .ok (.goto 4, 3) := by decide +kernel
theorem dX4_isWithin_49 : decode cX4_isWithin 49 = .ok (.iconst 0, 1) := by decide +kernel
theorem dX4_isWithin_50 : decode cX4_isWithin 50 = .ok (.ireturn, 1) := by decide +kernel
set_option maxRecDepth 20000 in
theorem ggX5_init_X4_init : GoodIn wsX5_init wsX4_init := goodIn_r _ [31, 32, 2, 3, 27, 33, 34, 67, 68, 69] (by decide +kernel) (by decide +kernel)
set_option maxRecDepth 20000 in
theorem gX5_init_X4_init : GoodIn wsX5_init (wsX4_init) := ggX5_init_X4_init
set_option maxRecDepth 20000 in
theorem ggX5_init_X0_init : GoodIn wsX5_init wsX0_init := goodIn_r _ [36, 37, 2, 3, 25, 38, 81] (by decide +kernel) (by decide +kernel)
set_option maxRecDepth 20000 in
theorem gX5_init_X0_init_n23 : GoodIn wsX5_init (wsX0_init) := ggX5_init_X0_init
set_option maxRecDepth 20000 in
theorem ggX5_init_X2_init : GoodIn wsX5_init wsX2_init := goodIn_r _ [40, 41, 2, 3, 27, 42, 43, 44, 45, 82, 83, 84, 85, 86] (by decide +kernel) (by decide +kernel)
set_option maxRecDepth 20000 in
theorem gX5_init_X2_init_n30 : GoodIn wsX5_init (wsX2_init) := ggX5_init_X2_init
set_option maxRecDepth 20000 in
theorem ggX5_init_X1_init : GoodIn wsX5_init wsX1_init := goodIn_r _ [48, 49, 2, 3, 27, 50, 51, 52, 53, 54, 55, 56, 57, 58, 59, 60, 61, 87, 88, 89, 90, 91, 92, 93, 94] (by decide +kernel) (by decide +kernel)
set_option maxRecDepth 20000 in
theorem gX5_init_X1_init : GoodIn wsX5_init (wsX1_init) := ggX5_init_X1_init
set_option maxRecDepth 20000 in
theorem ggX5_init_X3_init : GoodIn wsX5_init wsX3_init := goodIn_r _ [63, 64, 2, 3, 27, 65, 25, 66, 95, 96] (by decide +kernel) (by decide +kernel)
set_option maxRecDepth 20000 in
theorem gX5_init_X3_init_n44 : GoodIn wsX5_init (wsX3_init) := ggX5_init_X3_init
theorem dX5_init_0 : decode cX5_init 0 = .ok (.aload_n 0, 1) := by decide +kernel
theorem dX5_init_1 : decode cX5_init 1 = .ok (.invokespecial 3, 3) := by decide +kernel
theorem dX5_init_4 : decode cX5_init 4 = .ok (.aload_n 0, 1) := by decide +kernel
theorem dX5_init_5 : decode cX5_init 5 = .ok (.new 9, 3) := by decide +kernel
theorem dX5_init_8 : decode cX5_init 8 = .ok (.dup, 1) := by decide +kernel
theorem dX5_init_9 : decode cX5_init 9 = .ok (.bipush 14, 2) := by decide +kernel
theorem dX5_init_11 : decode cX5_init 11 = .ok (.bipush 10, 2) := by decide +kernel
theorem dX5_init_13 : decode cX5_init 13 = .ok (.invokespecial 11, 3) := by decide +kernel
theorem dX5_init_16 : decode cX5_init 16 = .ok (.putfield 14, 3) := by decide +kernel
theorem dX5_init_19 : decode cX5_init 19 = .ok (.aload_n 0, 1) := by decide +kernel
theorem dX5_init_20 : decode cX5_init 20 = .ok (.new 9, 3) := by decide +kernel
theorem dX5_init_23 : decode cX5_init 23 = .ok (.dup, 1) := by decide +kernel
theorem dX5_init_24 : decode cX5_init 24 = .ok (.bipush 10, 2) := by decide +kernel
theorem dX5_init_26 : decode cX5_init 26 = .ok (.iconst 1, 1) := by decide +kernel
theorem dX5_init_27 : decode cX5_init 27 = .ok (.invokespecial 11, 3) := by decide +kernel
theorem dX5_init_30 : decode cX5_init 30 = .ok (.putfield 18, 3) := by decide +kernel
theorem dX5_init_33 : decode cX5_init 33 = .ok (.aload_n 0, 1) := by decide +kernel
theorem dX5_init_34 : decode cX5_init 34 = .ok (.new 21, 3) := by decide +kernel
theorem dX5_init_37 : decode cX5_init 37 = .ok (.dup, 1) := by decide +kernel
theorem dX5_init_38 : decode cX5_init 38 = .ok (.invokespecial 23, 3) := by decide +kernel
theorem dX5_init_41 : decode cX5_init 41 = .ok (.putfield 24, 3) := by decide +kernel
theorem dX5_init_44 : decode cX5_init 44 = .ok (.aload_n 0, 1) := by decide +kernel
theorem dX5_init_45 : decode cX5_init 45 = .ok (.new 28, 3) := by decide +kernel
theorem dX5_init_48 : decode cX5_init 48 = .ok (.dup, 1) := by decide +kernel
theorem dX5_init_49 : decode cX5_init 49 = .ok (.invokespecial 30, 3) := by decide +kernel
theorem dX5_init_52 : decode cX5_init 52 = .ok (.putfield 31, 3) := by decide +kernel
theorem dX5_init_55 : decode cX5_init 55 = .ok (.aload_n 0, 1) := by decide +kernel
theorem dX5_init_56 : decode cX5_init 56 = .ok (.new 35, 3) := by decide +kernel
theorem dX5_init_59 : decode cX5_init 59 = .ok (.dup, 1) := by decide +kernel
theorem dX5_init_60 : decode cX5_init 60 = .ok (.invokespecial 37, 3) := by decide +kernel
theorem dX5_init_63 : decode cX5_init 63 = .ok (.putfield 38, 3) := by decide +kernel
theorem dX5_init_66 : decode cX5_init 66 = .ok (.aload_n 0, 1) := by decide +kernel
theorem dX5_init_67 : decode cX5_init 67 = .ok (.new 42, 3) := by decide +kernel
theorem dX5_init_70 : decode cX5_init 70 = .ok (.dup, 1) := by decide +kernel
theorem dX5_init_71 : decode cX5_init 71 = .ok (.invokespecial 44, 3) := by decide +kernel
theorem dX5_init_74 : decode cX5_init 74 = .ok (.putfield 45, 3) := by decide +kernel
theorem dX5_init_77 : decode cX5_init 77 = .ok (.aload_n 0, 1) := by decide +kernel
theorem dX5_init_78 : decode cX5_init 78 = .ok (.sipush 1680, 3) := by decide +kernel
theorem dX5_init_81 : decode cX5_init 81 = .ok (.newarray .boolean, 2) := by decide +kernel
theorem dX5_init_83 : decode cX5_init 83 = .ok (.putfield 49, 3) := by decide +kernel
theorem dX5_init_86 : decode cX5_init 86 = .ok (.aload_n 0, 1) := by decide +kernel
theorem dX5_init_87 : decode cX5_init 87 = .ok (.bipush 16, 2) := by decide +kernel
theorem dX5_init_89 : decode cX5_init 89 = .ok (.newarray .int, 2) := by decide +kernel
theorem dX5_init_91 : decode cX5_init 91 = .ok (.putfield 53, 3) := by decide +kernel
theorem dX5_init_94 : decode cX5_init 94 = .ok (.return_, 1) := by decide +kernel
set_option maxRecDepth 20000 in
theorem ggX5_area_X5_requireNumberOrNone : GoodIn wsX5_area wsX5_requireNumberOrNone := goodIn_ca (goodIn_r _ [5, 6, 7, 8, 9, 10, 11, 12, 13, 39, 40, 41] (by decide +kernel) (by decide +kernel)) (goodIn_sub (fun _ h => List.mem_cons_of_mem _ (List.mem_append_left _ (List.mem_append_right _ h))) (by decide +kernel))
set_option maxRecDepth 20000 in
theorem gX5_area_X5_requireNumberOrNone : GoodIn wsX5_area (va_wsS RX5 57 yX5_requireNumberOrNone wsX5_requireNumberOrNone) := goodIn_app (goodIn_of _ (by decide +kernel)) ggX5_area_X5_requireNumberOrNone
set_option maxRecDepth 20000 in
theorem ggX5_area_X5_requireRoom : GoodIn wsX5_area wsX5_requireRoom := goodIn_ca (goodIn_r _ [16, 17, 18, 19, 20, 21, 11, 22, 13, 23, 39, 40, 41] (by decide +kernel) (by decide +kernel)) (goodIn_sub (fun _ h => List.mem_cons_of_mem _ (List.mem_append_right _ h)) (by decide +kernel))
set_option maxRecDepth 20000 in
theorem gX5_area_X5_requireRoom : GoodIn wsX5_area (va_wsS RX5 61 yX5_requireRoom wsX5_requireRoom) := goodIn_app (goodIn_of _ (by decide +kernel)) ggX5_area_X5_requireRoom
set_option maxRecDepth 20000 in
theorem ggX5_area_X4_grow : GoodIn wsX5_area wsX4_grow := goodIn_r _ [27, 13, 23, 39, 40, 41] (by decide +kernel) (by decide +kernel)
set_option maxRecDepth 20000 in
theorem gX5_area_X4_grow : GoodIn wsX5_area (wsV RX5 65 RX4 yX4_grow wsX4_grow) := goodIn_app (goodIn_of _ (by decide +kernel)) ggX5_area_X4_grow
theorem dX5_area_0 : decode cX5_area 0 = .ok (.aload_n 0, 1) := by decide +kernel
theorem dX5_area_1 : decode cX5_area 1 = .ok (.getfield 14, 3) := by decide +kernel
theorem dX5_area_4 : decode cX5_area 4 = .ok (.iload_n 1, 1) := by decide +kernel
theorem dX5_area_5 : decode cX5_area 5 = .ok (.invokestatic 57, 3) := by decide +kernel
theorem dX5_area_8 : decode cX5_area 8 = .ok (.aload_n 0, 1) := by decide +kernel
theorem dX5_area_9 : decode cX5_area 9 = .ok (.getfield 14, 3) := by decide +kernel
theorem dX5_area_12 : decode cX5_area 12 = .ok (.invokestatic 61, 3) := by decide +kernel
theorem dX5_area_15 : decode cX5_area 15 = .ok (.aload_n 0, 1) := by decide +kernel
theorem dX5_area_16 : decode cX5_area 16 = .ok (.getfield 14, 3) := by decide +kernel
theorem dX5_area_19 : decode cX5_area 19 = .ok (.iload_n 1, 1) := by decide +kernel
theorem dX5_area_20 : decode cX5_area 20 = .ok (.invokevirtual 65, 3) := by decide +kernel
theorem dX5_area_23 : decode cX5_area 23 = .ok (.ireturn, 1) := by decide +kernel
set_option maxRecDepth 20000 in
theorem ggX5_item_X5_requireNumberOrNone : GoodIn wsX5_item wsX5_requireNumberOrNone := goodIn_ca (goodIn_r _ [5, 6, 7, 8, 9, 10, 11, 12, 13, 39, 40, 41] (by decide +kernel) (by decide +kernel)) (goodIn_sub (fun _ h => List.mem_cons_of_mem _ (List.mem_append_left _ (List.mem_append_right _ h))) (by decide +kernel))
set_option maxRecDepth 20000 in
theorem gX5_item_X5_requireNumberOrNone : GoodIn wsX5_item (va_wsS RX5 57 yX5_requireNumberOrNone wsX5_requireNumberOrNone) := goodIn_app (goodIn_of _ (by decide +kernel)) ggX5_item_X5_requireNumberOrNone
set_option maxRecDepth 20000 in
theorem ggX5_item_X5_requireRoom : GoodIn wsX5_item wsX5_requireRoom := goodIn_ca (goodIn_r _ [16, 17, 18, 19, 20, 21, 11, 22, 13, 23, 39, 40, 41] (by decide +kernel) (by decide +kernel)) (goodIn_sub (fun _ h => List.mem_cons_of_mem _ (List.mem_append_right _ h)) (by decide +kernel))
set_option maxRecDepth 20000 in
theorem gX5_item_X5_requireRoom : GoodIn wsX5_item (va_wsS RX5 61 yX5_requireRoom wsX5_requireRoom) := goodIn_app (goodIn_of _ (by decide +kernel)) ggX5_item_X5_requireRoom
set_option maxRecDepth 20000 in
theorem ggX5_item_X4_grow : GoodIn wsX5_item wsX4_grow := goodIn_r _ [27, 13, 23, 39, 40, 41] (by decide +kernel) (by decide +kernel)
set_option maxRecDepth 20000 in
theorem gX5_item_X4_grow : GoodIn wsX5_item (wsV RX5 65 RX4 yX4_grow wsX4_grow) := goodIn_app (goodIn_of _ (by decide +kernel)) ggX5_item_X4_grow
theorem dX5_item_0 : decode cX5_item 0 = .ok (.aload_n 0, 1) := by decide +kernel
theorem dX5_item_1 : decode cX5_item 1 = .ok (.getfield 18, 3) := by decide +kernel
theorem dX5_item_4 : decode cX5_item 4 = .ok (.iload_n 1, 1) := by decide +kernel
theorem dX5_item_5 : decode cX5_item 5 = .ok (.invokestatic 57, 3) := by decide +kernel
theorem dX5_item_8 : decode cX5_item 8 = .ok (.aload_n 0, 1) := by decide +kernel
theorem dX5_item_9 : decode cX5_item 9 = .ok (.getfield 18, 3) := by decide +kernel
theorem dX5_item_12 : decode cX5_item 12 = .ok (.invokestatic 61, 3) := by decide +kernel
theorem dX5_item_15 : decode cX5_item 15 = .ok (.aload_n 0, 1) := by decide +kernel
theorem dX5_item_16 : decode cX5_item 16 = .ok (.getfield 18, 3) := by decide +kernel
theorem dX5_item_19 : decode cX5_item 19 = .ok (.iload_n 1, 1) := by decide +kernel
theorem dX5_item_20 : decode cX5_item 20 = .ok (.invokevirtual 65, 3) := by decide +kernel
theorem dX5_item_23 : decode cX5_item 23 = .ok (.ireturn, 1) := by decide +kernel
set_option maxRecDepth 20000 in
theorem ggX5_agree_X5_requireSender : GoodIn wsX5_agree wsX5_requireSender := goodIn_ca (goodIn_r _ [5, 6, 7] (by decide +kernel) (by decide +kernel)) (goodIn_sub (fun _ h => List.mem_cons_of_mem _ (List.mem_append_right _ h)) (by decide +kernel))
set_option maxRecDepth 20000 in
theorem gX5_agree_X5_requireSender : GoodIn wsX5_agree (va_wsS RX5 69 yX5_requireSender wsX5_requireSender) := goodIn_app (goodIn_of _ (by decide +kernel)) ggX5_agree_X5_requireSender
set_option maxRecDepth 20000 in
theorem ggX5_agree_X5_requireArea : GoodIn wsX5_agree wsX5_requireArea := goodIn_ca (goodIn_r _ [11, 6, 7, 12, 13, 14, 15, 16, 17, 18, 25, 26, 27, 28, 29, 30, 31, 32, 33, 34, 35, 36, 37, 38] (by decide +kernel) (by decide +kernel)) (goodIn_sub (fun _ h => List.mem_cons_of_mem _ (List.mem_append_right _ h)) (by decide +kernel))
set_option maxRecDepth 20000 in
theorem gX5_agree_X5_requireArea : GoodIn wsX5_agree (wsV RX5 73 RX5 yX5_requireArea wsX5_requireArea) := goodIn_app (goodIn_of _ (by decide +kernel)) ggX5_agree_X5_requireArea
set_option maxRecDepth 20000 in
theorem ggX5_agree_X0_change : GoodIn wsX5_agree wsX0_change := goodIn_r _ [23, 24, 39] (by decide +kernel) (by decide +kernel)
set_option maxRecDepth 20000 in
theorem gX5_agree_X0_change : GoodIn wsX5_agree (wsV RX5 76 RX0 yX0_change wsX0_change) := goodIn_app (goodIn_of _ (by decide +kernel)) ggX5_agree_X0_change
theorem dX5_agree_0 : decode cX5_agree 0 = .ok (.iload_n 1, 1) := by decide +kernel
theorem dX5_agree_1 : decode cX5_agree 1 = .ok (.invokestatic 69, 3) := by decide +kernel
theorem dX5_agree_4 : decode cX5_agree 4 = .ok (.aload_n 0, 1) := by decide +kernel
theorem dX5_agree_5 : decode cX5_agree 5 = .ok (.iload_n 2, 1) := by decide +kernel
theorem dX5_agree_6 : decode cX5_agree 6 = .ok (.invokevirtual 73, 3) := by decide +kernel
theorem dX5_agree_9 : decode cX5_agree 9 = .ok (.aload_n 0, 1) := by decide +kernel
theorem dX5_agree_10 : decode cX5_agree 10 = .ok (.getfield 24, 3) := by decide +kernel
theorem dX5_agree_13 : decode cX5_agree 13 = .ok (.iload_n 1, 1) := by decide +kernel
theorem dX5_agree_14 : decode cX5_agree 14 = .ok (.iload_n 2, 1) := by decide +kernel
theorem dX5_agree_15 : decode cX5_agree 15 = .ok (.iload_n 3, 1) := by decide +kernel
theorem dX5_agree_16 : decode cX5_agree 16 = .ok (.invokevirtual 76, 3) := by decide +kernel
theorem dX5_agree_19 : decode cX5_agree 19 = .ok (.ireturn, 1) := by decide +kernel
set_option maxRecDepth 20000 in
theorem ggX5_put_X5_requireCell : GoodIn wsX5_put wsX5_requireCell := goodIn_ca (goodIn_r _ [12, 13, 14, 15, 16, 17, 18, 19, 20, 21, 22, 23, 24, 11, 25, 26, 27, 28, 29, 30, 31, 46, 47, 48, 49, 50, 51, 52, 53, 54, 55, 56, 57, 58, 59] (by decide +kernel) (by decide +kernel)) (goodIn_sub (fun _ h => List.mem_cons_of_mem _ (List.mem_append_right _ h)) (by decide +kernel))
set_option maxRecDepth 20000 in
theorem gX5_put_X5_requireCell : GoodIn wsX5_put (wsV RX5 80 RX5 yX5_requireCell wsX5_requireCell) := goodIn_app (goodIn_of _ (by decide +kernel)) ggX5_put_X5_requireCell
set_option maxRecDepth 20000 in
theorem ggX5_put_X2_isFull : GoodIn wsX5_put wsX2_isFull := goodIn_r _ [36, 37, 60, 61, 62, 63, 64] (by decide +kernel) (by decide +kernel)
set_option maxRecDepth 20000 in
theorem gX5_put_X2_isFull : GoodIn wsX5_put (wsV RX5 95 RX2 yX2_isFull wsX2_isFull) := goodIn_app (goodIn_of _ (by decide +kernel)) ggX5_put_X2_isFull
set_option maxRecDepth 20000 in
theorem ggX5_put_X2_append : GoodIn wsX5_put wsX2_append := goodIn_r _ [41, 37, 42, 43, 44, 45, 60, 61, 62, 63, 64] (by decide +kernel) (by decide +kernel)
set_option maxRecDepth 20000 in
theorem gX5_put_X2_append : GoodIn wsX5_put (wsV RX5 104 RX2 yX2_append wsX2_append) := goodIn_app (goodIn_of _ (by decide +kernel)) ggX5_put_X2_append
theorem dX5_put_0 : decode cX5_put 0 = .ok (.aload_n 0, 1) := by decide +kernel
theorem dX5_put_1 : decode cX5_put 1 = .ok (.iload_n 2, 1) := by decide +kernel
theorem dX5_put_2 : decode cX5_put 2 = .ok (.iload_n 3, 1) := by decide +kernel
theorem dX5_put_3 : decode cX5_put 3 = .ok (.iload 4, 2) := by decide +kernel
theorem dX5_put_5 : decode cX5_put 5 = .ok (.invokevirtual 80, 3) := by decide +kernel
theorem dX5_put_8 : decode cX5_put 8 = .ok (.istore 6, 2) := by decide +kernel
theorem dX5_put_10 : decode cX5_put 10 = .ok (.iload_n 1, 1) := by decide +kernel
theorem dX5_put_11 : decode cX5_put 11 = .ok (.ifCond .lt 8, 3) := by decide +kernel
theorem dX5_put_14 : decode cX5_put 14 = .ok (.iload_n 1, 1) := by decide +kernel
theorem dX5_put_15 : decode cX5_put 15 = .ok (.iconst 2, 1) := by decide +kernel
theorem dX5_put_16 : decode cX5_put 16 = .ok (.if_icmp .le 13, 3) := by decide +kernel
theorem dX5_put_19 : decode cX5_put 19 = .ok (.new 84, 3) := by decide +kernel
theorem dX5_put_22 : decode cX5_put 22 = .ok (.dup, 1) := by decide +kernel
theorem dX5_put_23 : decode cX5_put 23 = .ok (.ldc 86, 2) := by decide +kernel
theorem dX5_put_25 : decode cX5_put 25 = .ok (.invokespecial 88, 3) := by decide +kernel
theorem dX5_put_28 : decode cX5_put 28 = .ok (.athrow, 1) := by decide +kernel
theorem dX5_put_29 : decode cX5_put 29 = .ok (.iload 5, 2) := by decide +kernel
theorem dX5_put_31 : decode cX5_put 31 = .ok (.ldc 91, 2) := by decide +kernel
theorem dX5_put_33 : decode cX5_put 33 = .ok (.if_icmp .lt 10, 3) := by decide +kernel
theorem dX5_put_36 : decode cX5_put 36 = .ok (.iload 5, 2) := by decide +kernel
theorem dX5_put_38 : decode cX5_put 38 = .ok (.ldc 92, 2) := by decide +kernel
theorem dX5_put_40 : decode cX5_put 40 = .ok (.if_icmp .le 13, 3) := by decide +kernel
theorem dX5_put_43 : decode cX5_put 43 = .ok (.new 84, 3) := by decide +kernel
theorem dX5_put_46 : decode cX5_put 46 = .ok (.dup, 1) := by decide +kernel
theorem dX5_put_47 : decode cX5_put 47 = .ok (.ldc 93, 2) := by decide +kernel
theorem dX5_put_49 : decode cX5_put 49 = .ok (.invokespecial 88, 3) := by decide +kernel
theorem dX5_put_52 : decode cX5_put 52 = .ok (.athrow, 1) := by decide +kernel
theorem dX5_put_53 : decode cX5_put 53 = .ok (.aload_n 0, 1) := by decide +kernel
theorem dX5_put_54 : decode cX5_put 54 = .ok (.getfield 31, 3) := by decide +kernel
theorem dX5_put_57 : decode cX5_put 57 = .ok (.invokevirtual 95, 3) := by decide +kernel
theorem dX5_put_60 : decode cX5_put 60 = .ok (.ifCond .eq 13, 3) := by decide +kernel
theorem dX5_put_63 : decode cX5_put 63 = .ok (.new 99, 3) := by decide +kernel
theorem dX5_put_66 : decode cX5_put 66 = .ok (.dup, 1) := by decide +kernel
theorem dX5_put_67 : decode cX5_put 67 = .ok (.ldc 101, 2) := by decide +kernel
theorem dX5_put_69 : decode cX5_put 69 = .ok (.invokespecial 103, 3) := by decide +kernel
theorem dX5_put_72 : decode cX5_put 72 = .ok (.athrow, 1) := by decide +kernel
theorem dX5_put_73 : decode cX5_put 73 = .ok (.aload_n 0, 1) := by decide +kernel
theorem dX5_put_74 : decode cX5_put 74 = .ok (.getfield 31, 3) := by decide +kernel
theorem dX5_put_77 : decode cX5_put 77 = .ok (.iload_n 1, 1) := by decide +kernel
theorem dX5_put_78 : decode cX5_put 78 = .ok (.iload_n 2, 1) := by decide +kernel
theorem dX5_put_79 : decode cX5_put 79 = .ok (.iload 6, 2) := by decide +kernel
theorem dX5_put_81 : decode cX5_put 81 = .ok (.iload 5, 2) := by decide +kernel
theorem dX5_put_83 : decode cX5_put 83 = .ok (.invokevirtual 104, 3) := by decide +kernel
theorem dX5_put_86 : decode cX5_put 86 = .ok (.ireturn, 1) := by decide +kernel
set_option maxRecDepth 20000 in
theorem ggX5_wipe_X2_clear : GoodIn wsX5_wipe wsX2_clear := goodIn_r _ [6, 7, 19, 20, 21, 22, 23] (by decide +kernel) (by decide +kernel)
set_option maxRecDepth 20000 in
theorem gX5_wipe_X2_clear : GoodIn wsX5_wipe (wsV RX5 108 RX2 yX2_clear wsX2_clear) := goodIn_app (goodIn_of _ (by decide +kernel)) ggX5_wipe_X2_clear
theorem dX5_wipe_0 : decode cX5_wipe 0 = .ok (.aload_n 0, 1) := by decide +kernel
theorem dX5_wipe_1 : decode cX5_wipe 1 = .ok (.getfield 31, 3) := by decide +kernel
theorem dX5_wipe_4 : decode cX5_wipe 4 = .ok (.invokevirtual 108, 3) := by decide +kernel
theorem dX5_wipe_7 : decode cX5_wipe 7 = .ok (.ireturn, 1) := by decide +kernel
set_option maxRecDepth 20000 in
theorem ggX5_send_X5_requireSender : GoodIn wsX5_send wsX5_requireSender := goodIn_ca (goodIn_r _ [8, 9, 10] (by decide +kernel) (by decide +kernel)) (goodIn_sub (fun _ h => List.mem_cons_of_mem _ (List.mem_append_right _ h)) (by decide +kernel))
set_option maxRecDepth 20000 in
theorem gX5_send_X5_requireSender : GoodIn wsX5_send (va_wsS RX5 69 yX5_requireSender wsX5_requireSender) := goodIn_app (goodIn_of _ (by decide +kernel)) ggX5_send_X5_requireSender
set_option maxRecDepth 20000 in
theorem ggX5_send_X5_judgeDraft : GoodIn wsX5_send wsX5_judgeDraft := goodIn_r _ [14, 3, 15, 16, 17, 18, 19, 20, 21, 7, 22, 23, 24, 25, 26, 27, 28, 29, 30, 31, 32, 33, 34, 35, 36, 37, 38, 39, 40, 41, 42, 43, 44, 45, 46, 47, 48, 49, 50, 51, 52, 53, 54, 55, 56, 57, 58, 59, 60, 61, 62, 63, 69, 70, 71, 72, 73, 74, 75, 76, 77, 78, 79, 80, 81, 82, 83, 84, 85, 86, 87, 88, 89, 90, 91, 92, 93, 94, 95, 96] (by decide +kernel) (by decide +kernel)
set_option maxRecDepth 20000 in
theorem gX5_send_X5_judgeDraft : GoodIn wsX5_send (wsV RX5 123 RX5 yX5_judgeDraft wsX5_judgeDraft) := goodIn_app (goodIn_of _ (by decide +kernel)) ggX5_send_X5_judgeDraft
set_option maxRecDepth 20000 in
theorem ggX5_send_X2_clear : GoodIn wsX5_send wsX2_clear := goodIn_r _ [67, 68, 80, 81, 82, 83, 84] (by decide +kernel) (by decide +kernel)
set_option maxRecDepth 20000 in
theorem gX5_send_X2_clear : GoodIn wsX5_send (wsV RX5 108 RX2 yX2_clear wsX2_clear) := goodIn_app (goodIn_of _ (by decide +kernel)) ggX5_send_X2_clear
theorem dX5_send_0 : decode cX5_send 0 = .ok (.iload_n 1, 1) := by decide +kernel
theorem dX5_send_1 : decode cX5_send 1 = .ok (.invokestatic 69, 3) := by decide +kernel
theorem dX5_send_4 : decode cX5_send 4 = .ok (.aload_n 0, 1) := by decide +kernel
theorem dX5_send_5 : decode cX5_send 5 = .ok (.getfield 31, 3) := by decide +kernel
