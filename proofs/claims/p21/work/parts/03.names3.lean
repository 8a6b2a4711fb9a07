theorem dX5_send_8 : decode cX5_send 8 = .ok (.getfield 112, 3) := by decide +kernel
theorem dX5_send_11 : decode cX5_send 11 = .ok (.istore_n 2, 1) := by decide +kernel
theorem dX5_send_12 : decode cX5_send 12 = .ok (.iload_n 2, 1) := by decide +kernel
theorem dX5_send_13 : decode cX5_send 13 = .ok (.ifCond .ne 13, 3) := by decide +kernel
theorem dX5_send_16 : decode cX5_send 16 = .ok (.new 99, 3) := by decide +kernel
theorem dX5_send_19 : decode cX5_send 19 = .ok (.dup, 1) := by decide +kernel
theorem dX5_send_20 : decode cX5_send 20 = .ok (.ldc 116, 2) := by decide +kernel
theorem dX5_send_22 : decode cX5_send 22 = .ok (.invokespecial 103, 3) := by decide +kernel
theorem dX5_send_25 : decode cX5_send 25 = .ok (.athrow, 1) := by decide +kernel
theorem dX5_send_26 : decode cX5_send 26 = .ok (.aload_n 0, 1) := by decide +kernel
theorem dX5_send_27 : decode cX5_send 27 = .ok (.getfield 118, 3) := by decide +kernel
theorem dX5_send_30 : decode cX5_send 30 = .ok (.iload_n 2, 1) := by decide +kernel
theorem dX5_send_31 : decode cX5_send 31 = .ok (.iadd, 1) := by decide +kernel
theorem dX5_send_32 : decode cX5_send 32 = .ok (.sipush 300, 3) := by decide +kernel
theorem dX5_send_35 : decode cX5_send 35 = .ok (.if_icmp .le 13, 3) := by decide +kernel
theorem dX5_send_38 : decode cX5_send 38 = .ok (.new 99, 3) := by decide +kernel
theorem dX5_send_41 : decode cX5_send 41 = .ok (.dup, 1) := by decide +kernel
theorem dX5_send_42 : decode cX5_send 42 = .ok (.ldc 121, 2) := by decide +kernel
theorem dX5_send_44 : decode cX5_send 44 = .ok (.invokespecial 103, 3) := by decide +kernel
theorem dX5_send_47 : decode cX5_send 47 = .ok (.athrow, 1) := by decide +kernel
theorem dX5_send_48 : decode cX5_send 48 = .ok (.aload_n 0, 1) := by decide +kernel
theorem dX5_send_49 : decode cX5_send 49 = .ok (.dup, 1) := by decide +kernel
theorem dX5_send_50 : decode cX5_send 50 = .ok (.getfield 118, 3) := by decide +kernel
theorem dX5_send_53 : decode cX5_send 53 = .ok (.iload_n 2, 1) := by decide +kernel
theorem dX5_send_54 : decode cX5_send 54 = .ok (.iadd, 1) := by decide +kernel
theorem dX5_send_55 : decode cX5_send 55 = .ok (.putfield 118, 3) := by decide +kernel
theorem dX5_send_58 : decode cX5_send 58 = .ok (.aload_n 0, 1) := by decide +kernel
theorem dX5_send_59 : decode cX5_send 59 = .ok (.iload_n 1, 1) := by decide +kernel
theorem dX5_send_60 : decode cX5_send 60 = .ok (.invokevirtual 123, 3) := by decide +kernel
theorem dX5_send_63 : decode cX5_send 63 = .ok (.istore_n 3, 1) := by decide +kernel
theorem dX5_send_64 : decode cX5_send 64 = .ok (.aload_n 0, 1) := by decide +kernel
theorem dX5_send_65 : decode cX5_send 65 = .ok (.getfield 31, 3) := by decide +kernel
theorem dX5_send_68 : decode cX5_send 68 = .ok (.invokevirtual 108, 3) := by decide +kernel
theorem dX5_send_71 : decode cX5_send 71 = .ok (.pop, 1) := by decide +kernel
theorem dX5_send_72 : decode cX5_send 72 = .ok (.iload_n 3, 1) := by decide +kernel
theorem dX5_send_73 : decode cX5_send 73 = .ok (.ireturn, 1) := by decide +kernel
theorem dX5_refusal_0 : decode cX5_refusal 0 = .ok (.iload_n 1, 1) := by decide +kernel
theorem dX5_refusal_1 : decode cX5_refusal 1 = .ok (.ifCond .lt 20, 3) := by decide +kernel
theorem dX5_refusal_4 : decode cX5_refusal 4 = .ok (.iload_n 1, 1) := by decide +kernel
theorem dX5_refusal_5 : decode cX5_refusal 5 = .ok (.aload_n 0, 1) := by decide +kernel
theorem dX5_refusal_6 : decode cX5_refusal 6 = .ok (.getfield 126, 3) := by decide +kernel
theorem dX5_refusal_9 : decode cX5_refusal 9 = .ok (.if_icmp .ge 12, 3) := by decide +kernel
theorem dX5_refusal_12 : decode cX5_refusal 12 = .ok (.iload_n 1, 1) := by decide +kernel
theorem dX5_refusal_13 : decode cX5_refusal 13 = .ok (.aload_n 0, 1) := by decide +kernel
theorem dX5_refusal_14 : decode cX5_refusal 14 = .ok (.getfield 53, 3) := by decide +kernel
theorem dX5_refusal_17 : decode cX5_refusal 17 = .ok (.arraylength, 1) := by decide +kernel
theorem dX5_refusal_18 : decode cX5_refusal 18 = .ok (.if_icmp .lt 13, 3) := by decide +kernel
theorem dX5_refusal_21 : decode cX5_refusal 21 = .ok (.new 129, 3) := by decide +kernel
theorem dX5_refusal_24 : decode cX5_refusal 24 = .ok (.dup, 1) := by decide +kernel
theorem dX5_refusal_25 : decode cX5_refusal 25 = .ok (.ldc 131, 2) := by decide +kernel
theorem dX5_refusal_27 : decode cX5_refusal 27 = .ok (.invokespecial 133, 3) := by decide +kernel
theorem dX5_refusal_30 : decode cX5_refusal 30 = .ok (.athrow, 1) := by decide +kernel
theorem dX5_refusal_31 : decode cX5_refusal 31 = .ok (.aload_n 0, 1) := by decide +kernel
theorem dX5_refusal_32 : decode cX5_refusal 32 = .ok (.getfield 53, 3) := by decide +kernel
theorem dX5_refusal_35 : decode cX5_refusal 35 = .ok (.iload_n 1, 1) := by decide +kernel
theorem dX5_refusal_36 : decode cX5_refusal 36 = .ok (.iaload, 1) := by decide +kernel
theorem dX5_refusal_37 : decode cX5_refusal 37 = .ok (.ireturn, 1) := by decide +kernel
set_option maxRecDepth 20000 in
theorem ggX5_secret_X5_requireCell : GoodIn wsX5_secret wsX5_requireCell := goodIn_ca (goodIn_r _ [7, 8, 9, 10, 11, 12, 13, 14, 15, 16, 17, 18, 19, 6, 20, 21, 22, 23, 24, 25, 26, 97, 98, 99, 100, 101, 102, 103, 104, 105, 106, 107, 108, 109, 110] (by decide +kernel) (by decide +kernel)) (goodIn_sub (fun _ h => List.mem_cons_of_mem _ (List.mem_append_right _ h)) (by decide +kernel))
set_option maxRecDepth 20000 in
theorem gX5_secret_X5_requireCell : GoodIn wsX5_secret (wsV RX5 80 RX5 yX5_requireCell wsX5_requireCell) := goodIn_app (goodIn_of _ (by decide +kernel)) ggX5_secret_X5_requireCell
set_option maxRecDepth 20000 in
theorem ggX5_secret_X5_loadHidden : GoodIn wsX5_secret wsX5_loadHidden := goodIn_r _ [30, 2, 31, 32, 10, 11, 1, 33, 34, 35, 36, 37, 38, 39, 40, 41, 42, 43, 44, 45, 46, 47, 25, 6, 26, 48, 49, 50, 51, 52, 53, 54, 15, 55, 17, 56, 57, 58, 59, 60, 61, 62, 63, 64, 65, 66, 67, 68, 69, 70, 71, 72, 73, 74, 75, 76, 77, 78, 79, 80, 81, 82, 83, 84, 85, 86, 87, 88, 89, 90, 91, 92, 97, 98, 99, 100, 101, 102, 103, 104, 105, 106, 107, 108, 109, 110, 111, 112, 113, 114, 115, 116, 117, 118, 119, 120] (by decide +kernel) (by decide +kernel)
set_option maxRecDepth 20000 in
theorem gX5_secret_X5_loadHidden : GoodIn wsX5_secret (wsV RX5 134 RX5 yX5_loadHidden wsX5_loadHidden) := goodIn_app (goodIn_of _ (by decide +kernel)) ggX5_secret_X5_loadHidden
set_option maxRecDepth 20000 in
theorem ggX5_secret_X3_countHiddenSlots : GoodIn wsX5_secret wsX3_countHiddenSlots := goodIn_r _ [96, 68, 111, 112] (by decide +kernel) (by decide +kernel)
set_option maxRecDepth 20000 in
theorem gX5_secret_X3_countHiddenSlots : GoodIn wsX5_secret (wsV RX5 137 RX3 yX3_countHiddenSlots wsX3_countHiddenSlots) := goodIn_app (goodIn_of _ (by decide +kernel)) ggX5_secret_X3_countHiddenSlots
theorem dX5_secret_0 : decode cX5_secret 0 = .ok (.aload_n 0, 1) := by decide +kernel
theorem dX5_secret_1 : decode cX5_secret 1 = .ok (.iload_n 1, 1) := by decide +kernel
theorem dX5_secret_2 : decode cX5_secret 2 = .ok (.iload_n 2, 1) := by decide +kernel
theorem dX5_secret_3 : decode cX5_secret 3 = .ok (.iload_n 3, 1) := by decide +kernel
theorem dX5_secret_4 : decode cX5_secret 4 = .ok (.invokevirtual 80, 3) := by decide +kernel
theorem dX5_secret_7 : decode cX5_secret 7 = .ok (.istore 5, 2) := by decide +kernel
theorem dX5_secret_9 : decode cX5_secret 9 = .ok (.aload_n 0, 1) := by decide +kernel
theorem dX5_secret_10 : decode cX5_secret 10 = .ok (.getfield 49, 3) := by decide +kernel
theorem dX5_secret_13 : decode cX5_secret 13 = .ok (.iload 5, 2) := by decide +kernel
theorem dX5_secret_15 : decode cX5_secret 15 = .ok (.iload 4, 2) := by decide +kernel
theorem dX5_secret_17 : decode cX5_secret 17 = .ok (.bastore, 1) := by decide +kernel
theorem dX5_secret_18 : decode cX5_secret 18 = .ok (.aload_n 0, 1) := by decide +kernel
theorem dX5_secret_19 : decode cX5_secret 19 = .ok (.iload_n 3, 1) := by decide +kernel
theorem dX5_secret_20 : decode cX5_secret 20 = .ok (.invokevirtual 134, 3) := by decide +kernel
theorem dX5_secret_23 : decode cX5_secret 23 = .ok (.aload_n 0, 1) := by decide +kernel
theorem dX5_secret_24 : decode cX5_secret 24 = .ok (.getfield 45, 3) := by decide +kernel
theorem dX5_secret_27 : decode cX5_secret 27 = .ok (.invokevirtual 137, 3) := by decide +kernel
theorem dX5_secret_30 : decode cX5_secret 30 = .ok (.ireturn, 1) := by decide +kernel
theorem dX5_pass_0 : decode cX5_pass 0 = .ok (.iload_n 1, 1) := by decide +kernel
theorem dX5_pass_1 : decode cX5_pass 1 = .ok (.iconst 1, 1) := by decide +kernel
theorem dX5_pass_2 : decode cX5_pass 2 = .ok (.if_icmp .lt 9, 3) := by decide +kernel
theorem dX5_pass_5 : decode cX5_pass 5 = .ok (.iload_n 1, 1) := by decide +kernel
theorem dX5_pass_6 : decode cX5_pass 6 = .ok (.bipush 100, 2) := by decide +kernel
theorem dX5_pass_8 : decode cX5_pass 8 = .ok (.if_icmp .le 13, 3) := by decide +kernel
theorem dX5_pass_11 : decode cX5_pass 11 = .ok (.new 84, 3) := by decide +kernel
theorem dX5_pass_14 : decode cX5_pass 14 = .ok (.dup, 1) := by decide +kernel
theorem dX5_pass_15 : decode cX5_pass 15 = .ok (.ldc 140, 2) := by decide +kernel
theorem dX5_pass_17 : decode cX5_pass 17 = .ok (.invokespecial 88, 3) := by decide +kernel
theorem dX5_pass_20 : decode cX5_pass 20 = .ok (.athrow, 1) := by decide +kernel
theorem dX5_pass_21 : decode cX5_pass 21 = .ok (.aload_n 0, 1) := by decide +kernel
theorem dX5_pass_22 : decode cX5_pass 22 = .ok (.getfield 142, 3) := by decide +kernel
theorem dX5_pass_25 : decode cX5_pass 25 = .ok (.iload_n 1, 1) := by decide +kernel
theorem dX5_pass_26 : decode cX5_pass 26 = .ok (.iadd, 1) := by decide +kernel
theorem dX5_pass_27 : decode cX5_pass 27 = .ok (.sipush 1000, 3) := by decide +kernel
theorem dX5_pass_30 : decode cX5_pass 30 = .ok (.if_icmp .le 13, 3) := by decide +kernel
theorem dX5_pass_33 : decode cX5_pass 33 = .ok (.new 99, 3) := by decide +kernel
theorem dX5_pass_36 : decode cX5_pass 36 = .ok (.dup, 1) := by decide +kernel
theorem dX5_pass_37 : decode cX5_pass 37 = .ok (.ldc 145, 2) := by decide +kernel
theorem dX5_pass_39 : decode cX5_pass 39 = .ok (.invokespecial 103, 3) := by decide +kernel
theorem dX5_pass_42 : decode cX5_pass 42 = .ok (.athrow, 1) := by decide +kernel
theorem dX5_pass_43 : decode cX5_pass 43 = .ok (.aload_n 0, 1) := by decide +kernel
theorem dX5_pass_44 : decode cX5_pass 44 = .ok (.dup, 1) := by decide +kernel
theorem dX5_pass_45 : decode cX5_pass 45 = .ok (.getfield 142, 3) := by decide +kernel
theorem dX5_pass_48 : decode cX5_pass 48 = .ok (.iload_n 1, 1) := by decide +kernel
theorem dX5_pass_49 : decode cX5_pass 49 = .ok (.iadd, 1) := by decide +kernel
theorem dX5_pass_50 : decode cX5_pass 50 = .ok (.putfield 142, 3) := by decide +kernel
theorem dX5_pass_53 : decode cX5_pass 53 = .ok (.aload_n 0, 1) := by decide +kernel
theorem dX5_pass_54 : decode cX5_pass 54 = .ok (.getfield 142, 3) := by decide +kernel
theorem dX5_pass_57 : decode cX5_pass 57 = .ok (.ireturn, 1) := by decide +kernel
set_option maxRecDepth 20000 in
theorem ggX5_figure_X5_requireCell : GoodIn wsX5_figure wsX5_requireCell := goodIn_ca (goodIn_r _ [6, 7, 8, 9, 10, 11, 12, 13, 14, 15, 16, 17, 18, 5, 19, 20, 21, 22, 23, 24, 25, 43, 44, 45, 46, 47, 48, 49, 50, 51, 52, 53, 54, 55, 56] (by decide +kernel) (by decide +kernel)) (goodIn_sub (fun _ h => List.mem_cons_of_mem _ (List.mem_append_left _ (List.mem_append_right _ h))) (by decide +kernel))
set_option maxRecDepth 20000 in
theorem gX5_figure_X5_requireCell : GoodIn wsX5_figure (wsV RX5 80 RX5 yX5_requireCell wsX5_requireCell) := goodIn_app (goodIn_of _ (by decide +kernel)) ggX5_figure_X5_requireCell
set_option maxRecDepth 20000 in
theorem ggX5_figure_X5_requireDay : GoodIn wsX5_figure wsX5_requireDay := goodIn_ca (goodIn_r _ [29, 30, 31, 32, 43, 44, 45, 46, 47, 48, 49, 50, 51, 52, 53] (by decide +kernel) (by decide +kernel)) (goodIn_sub (fun _ h => List.mem_cons_of_mem _ (List.mem_append_right _ h)) (by decide +kernel))
set_option maxRecDepth 20000 in
theorem gX5_figure_X5_requireDay : GoodIn wsX5_figure (wsV RX5 147 RX5 yX5_requireDay wsX5_requireDay) := goodIn_app (goodIn_of _ (by decide +kernel)) ggX5_figure_X5_requireDay
set_option maxRecDepth 20000 in
theorem ggX5_figure_X1_figureOn : GoodIn wsX5_figure wsX1_figureOn := goodIn_r _ [37, 38, 39, 40, 41, 42, 57, 58, 59, 60, 61, 62, 63, 64] (by decide +kernel) (by decide +kernel)
set_option maxRecDepth 20000 in
theorem gX5_figure_X1_figureOn : GoodIn wsX5_figure (wsV RX5 150 RX1 yX1_figureOn wsX1_figureOn) := goodIn_app (goodIn_of _ (by decide +kernel)) ggX5_figure_X1_figureOn
theorem dX5_figure_0 : decode cX5_figure 0 = .ok (.aload_n 0, 1) := by decide +kernel
theorem dX5_figure_1 : decode cX5_figure 1 = .ok (.iload_n 1, 1) := by decide +kernel
theorem dX5_figure_2 : decode cX5_figure 2 = .ok (.iload_n 2, 1) := by decide +kernel
theorem dX5_figure_3 : decode cX5_figure 3 = .ok (.iload_n 3, 1) := by decide +kernel
theorem dX5_figure_4 : decode cX5_figure 4 = .ok (.invokevirtual 80, 3) := by decide +kernel
theorem dX5_figure_7 : decode cX5_figure 7 = .ok (.istore 5, 2) := by decide +kernel
theorem dX5_figure_9 : decode cX5_figure 9 = .ok (.aload_n 0, 1) := by decide +kernel
theorem dX5_figure_10 : decode cX5_figure 10 = .ok (.iload 4, 2) := by decide +kernel
theorem dX5_figure_12 : decode cX5_figure 12 = .ok (.invokevirtual 147, 3) := by decide +kernel
theorem dX5_figure_15 : decode cX5_figure 15 = .ok (.aload_n 0, 1) := by decide +kernel
theorem dX5_figure_16 : decode cX5_figure 16 = .ok (.getfield 38, 3) := by decide +kernel
theorem dX5_figure_19 : decode cX5_figure 19 = .ok (.iload 5, 2) := by decide +kernel
theorem dX5_figure_21 : decode cX5_figure 21 = .ok (.iload 4, 2) := by decide +kernel
theorem dX5_figure_23 : decode cX5_figure 23 = .ok (.invokevirtual 150, 3) := by decide +kernel
theorem dX5_figure_26 : decode cX5_figure 26 = .ok (.ireturn, 1) := by decide +kernel
set_option maxRecDepth 20000 in
theorem ggX5_value_X5_requireCell : GoodIn wsX5_value wsX5_requireCell := goodIn_ca (goodIn_r _ [9, 10, 11, 3, 4, 12, 13, 14, 15, 16, 17, 18, 19, 8, 20, 21, 22, 23, 24, 25, 26, 66, 67, 68, 69, 70, 71, 72, 73, 74, 75, 76, 77, 78, 79] (by decide +kernel) (by decide +kernel)) (goodIn_sub (fun _ h => List.mem_cons_of_mem _ (List.mem_append_left _ (List.mem_append_right _ h))) (by decide +kernel))
set_option maxRecDepth 20000 in
theorem gX5_value_X5_requireCell : GoodIn wsX5_value (wsV RX5 80 RX5 yX5_requireCell wsX5_requireCell) := goodIn_app (goodIn_of _ (by decide +kernel)) ggX5_value_X5_requireCell
set_option maxRecDepth 20000 in
theorem ggX5_value_X5_requireDay : GoodIn wsX5_value wsX5_requireDay := goodIn_ca (goodIn_r _ [30, 31, 32, 33, 66, 67, 68, 69, 70, 71, 72, 73, 74, 75, 76] (by decide +kernel) (by decide +kernel)) (goodIn_sub (fun _ h => List.mem_cons_of_mem _ (List.mem_append_right _ h)) (by decide +kernel))
set_option maxRecDepth 20000 in
theorem gX5_value_X5_requireDay : GoodIn wsX5_value (wsV RX5 147 RX5 yX5_requireDay wsX5_requireDay) := goodIn_app (goodIn_of _ (by decide +kernel)) ggX5_value_X5_requireDay
set_option maxRecDepth 20000 in
theorem ggX5_value_X3_load : GoodIn wsX5_value wsX3_load := goodIn_r _ [38, 39, 40, 41, 42, 43, 37, 44, 45, 46, 47, 48, 25, 8, 26, 49, 50, 51, 52, 53, 54, 55, 15, 56, 17, 57, 58, 59, 60, 61, 62, 63, 64, 77, 78, 79, 80, 81, 82, 83, 84, 85, 86, 87, 88, 89] (by decide +kernel) (by decide +kernel)
set_option maxRecDepth 20000 in
theorem gX5_value_X3_load : GoodIn wsX5_value (wsV RX5 154 RX3 yX3_load wsX3_load) := goodIn_app (goodIn_of _ (by decide +kernel)) ggX5_value_X3_load
set_option maxRecDepth 20000 in
theorem ggX5_value_X5_slotOf : GoodIn wsX5_value wsX5_slotOf := goodIn_r _ [26] (by decide +kernel) (by decide +kernel)
set_option maxRecDepth 20000 in
theorem gX5_value_X5_slotOf : GoodIn wsX5_value (va_wsS RX5 158 yX5_slotOf wsX5_slotOf) := goodIn_app (goodIn_of _ (by decide +kernel)) ggX5_value_X5_slotOf
set_option maxRecDepth 20000 in
theorem ggX5_value_X3_valueAt : GoodIn wsX5_value wsX3_valueAt := goodIn_r _ [64, 39, 40, 80, 81] (by decide +kernel) (by decide +kernel)
set_option maxRecDepth 20000 in
theorem gX5_value_X3_valueAt : GoodIn wsX5_value (wsV RX5 161 RX3 yX3_valueAt wsX3_valueAt) := goodIn_app (goodIn_of _ (by decide +kernel)) ggX5_value_X3_valueAt
theorem dX5_value_0 : decode cX5_value 0 = .ok (.aload_n 0, 1) := by decide +kernel
theorem dX5_value_1 : decode cX5_value 1 = .ok (.iload_n 1, 1) := by decide +kernel
theorem dX5_value_2 : decode cX5_value 2 = .ok (.iload_n 2, 1) := by decide +kernel
theorem dX5_value_3 : decode cX5_value 3 = .ok (.iload_n 3, 1) := by decide +kernel
theorem dX5_value_4 : decode cX5_value 4 = .ok (.invokevirtual 80, 3) := by decide +kernel
theorem dX5_value_7 : decode cX5_value 7 = .ok (.pop, 1) := by decide +kernel
theorem dX5_value_8 : decode cX5_value 8 = .ok (.aload_n 0, 1) := by decide +kernel
theorem dX5_value_9 : decode cX5_value 9 = .ok (.iload 4, 2) := by decide +kernel
theorem dX5_value_11 : decode cX5_value 11 = .ok (.invokevirtual 147, 3) := by decide +kernel
theorem dX5_value_14 : decode cX5_value 14 = .ok (.aload_n 0, 1) := by decide +kernel
theorem dX5_value_15 : decode cX5_value 15 = .ok (.getfield 45, 3) := by decide +kernel
theorem dX5_value_18 : decode cX5_value 18 = .ok (.aload_n 0, 1) := by decide +kernel
theorem dX5_value_19 : decode cX5_value 19 = .ok (.getfield 38, 3) := by decide +kernel
theorem dX5_value_22 : decode cX5_value 22 = .ok (.iload_n 3, 1) := by decide +kernel
theorem dX5_value_23 : decode cX5_value 23 = .ok (.iload 4, 2) := by decide +kernel
theorem dX5_value_25 : decode cX5_value 25 = .ok (.aload_n 0, 1) := by decide +kernel
theorem dX5_value_26 : decode cX5_value 26 = .ok (.getfield 14, 3) := by decide +kernel
theorem dX5_value_29 : decode cX5_value 29 = .ok (.aload_n 0, 1) := by decide +kernel
theorem dX5_value_30 : decode cX5_value 30 = .ok (.getfield 18, 3) := by decide +kernel
theorem dX5_value_33 : decode cX5_value 33 = .ok (.invokevirtual 154, 3) := by decide +kernel
theorem dX5_value_36 : decode cX5_value 36 = .ok (.aload_n 0, 1) := by decide +kernel
theorem dX5_value_37 : decode cX5_value 37 = .ok (.getfield 45, 3) := by decide +kernel
theorem dX5_value_40 : decode cX5_value 40 = .ok (.iload_n 1, 1) := by decide +kernel
theorem dX5_value_41 : decode cX5_value 41 = .ok (.iload_n 2, 1) := by decide +kernel
theorem dX5_value_42 : decode cX5_value 42 = .ok (.invokestatic 158, 3) := by decide +kernel
theorem dX5_value_45 : decode cX5_value 45 = .ok (.invokevirtual 161, 3) := by decide +kernel
theorem dX5_value_48 : decode cX5_value 48 = .ok (.ireturn, 1) := by decide +kernel
set_option maxRecDepth 20000 in
theorem ggX5_first_X5_requireCell : GoodIn wsX5_first wsX5_requireCell := goodIn_ca (goodIn_r _ [6, 7, 8, 9, 10, 11, 12, 13, 14, 15, 16, 17, 18, 5, 19, 20, 21, 22, 23, 24, 25, 26, 27, 28, 29, 30, 31, 32, 33, 34, 35, 36, 45, 46, 47] (by decide +kernel) (by decide +kernel)) (goodIn_sub (fun _ h => List.mem_cons_of_mem _ (List.mem_append_right _ h)) (by decide +kernel))
set_option maxRecDepth 20000 in
theorem gX5_first_X5_requireCell : GoodIn wsX5_first (wsV RX5 80 RX5 yX5_requireCell wsX5_requireCell) := goodIn_app (goodIn_of _ (by decide +kernel)) ggX5_first_X5_requireCell
theorem dX5_first_0 : decode cX5_first 0 = .ok (.aload_n 0, 1) := by decide +kernel
theorem dX5_first_1 : decode cX5_first 1 = .ok (.getfield 38, 3) := by decide +kernel
theorem dX5_first_4 : decode cX5_first 4 = .ok (.getfield 164, 3) := by decide +kernel
theorem dX5_first_7 : decode cX5_first 7 = .ok (.aload_n 0, 1) := by decide +kernel
theorem dX5_first_8 : decode cX5_first 8 = .ok (.iload_n 1, 1) := by decide +kernel
theorem dX5_first_9 : decode cX5_first 9 = .ok (.iload_n 2, 1) := by decide +kernel
theorem dX5_first_10 : decode cX5_first 10 = .ok (.iload_n 3, 1) := by decide +kernel
theorem dX5_first_11 : decode cX5_first 11 = .ok (.invokevirtual 80, 3) := by decide +kernel
theorem dX5_first_14 : decode cX5_first 14 = .ok (.iaload, 1) := by decide +kernel
theorem dX5_first_15 : decode cX5_first 15 = .ok (.ireturn, 1) := by decide +kernel
set_option maxRecDepth 20000 in
theorem ggX5_revisions_X5_requireCell : GoodIn wsX5_revisions wsX5_requireCell := goodIn_ca (goodIn_r _ [6, 7, 8, 9, 10, 11, 12, 13, 14, 15, 16, 17, 18, 5, 19, 20, 21, 22, 23, 24, 25, 26, 27, 28, 29, 30, 31, 32, 33, 34, 35, 36, 45, 46, 47] (by decide +kernel) (by decide +kernel)) (goodIn_sub (fun _ h => List.mem_cons_of_mem _ (List.mem_append_right _ h)) (by decide +kernel))
set_option maxRecDepth 20000 in
theorem gX5_revisions_X5_requireCell : GoodIn wsX5_revisions (wsV RX5 80 RX5 yX5_requireCell wsX5_requireCell) := goodIn_app (goodIn_of _ (by decide +kernel)) ggX5_revisions_X5_requireCell
theorem dX5_revisions_0 : decode cX5_revisions 0 = .ok (.aload_n 0, 1) := by decide +kernel
theorem dX5_revisions_1 : decode cX5_revisions 1 = .ok (.getfield 38, 3) := by decide +kernel
theorem dX5_revisions_4 : decode cX5_revisions 4 = .ok (.getfield 167, 3) := by decide +kernel
theorem dX5_revisions_7 : decode cX5_revisions 7 = .ok (.aload_n 0, 1) := by decide +kernel
theorem dX5_revisions_8 : decode cX5_revisions 8 = .ok (.iload_n 1, 1) := by decide +kernel
theorem dX5_revisions_9 : decode cX5_revisions 9 = .ok (.iload_n 2, 1) := by decide +kernel
theorem dX5_revisions_10 : decode cX5_revisions 10 = .ok (.iload_n 3, 1) := by decide +kernel
theorem dX5_revisions_11 : decode cX5_revisions 11 = .ok (.invokevirtual 80, 3) := by decide +kernel
theorem dX5_revisions_14 : decode cX5_revisions 14 = .ok (.iaload, 1) := by decide +kernel
theorem dX5_revisions_15 : decode cX5_revisions 15 = .ok (.ireturn, 1) := by decide +kernel
set_option maxRecDepth 20000 in
theorem ggX5_hasFault_X5_requireCell : GoodIn wsX5_hasFault wsX5_requireCell := goodIn_ca (goodIn_r _ [11, 12, 13, 5, 6, 14, 15, 16, 17, 18, 19, 20, 21, 10, 22, 23, 24, 25, 26, 27, 28, 64, 65, 66, 67, 68, 69, 70, 71, 72, 73, 74, 83, 84, 85] (by decide +kernel) (by decide +kernel)) (goodIn_sub (fun _ h => List.mem_cons_of_mem _ (List.mem_append_right _ h)) (by decide +kernel))
set_option maxRecDepth 20000 in
theorem gX5_hasFault_X5_requireCell : GoodIn wsX5_hasFault (wsV RX5 80 RX5 yX5_requireCell wsX5_requireCell) := goodIn_app (goodIn_of _ (by decide +kernel)) ggX5_hasFault_X5_requireCell
set_option maxRecDepth 20000 in
theorem ggX5_hasFault_X3_load : GoodIn wsX5_hasFault wsX3_load := goodIn_r _ [33, 34, 35, 36, 37, 38, 32, 39, 40, 41, 42, 43, 27, 10, 28, 44, 45, 46, 47, 48, 49, 50, 17, 51, 19, 52, 53, 54, 55, 56, 57, 58, 59, 83, 84, 85, 86, 87, 75, 76, 77, 78, 79, 80, 81, 82] (by decide +kernel) (by decide +kernel)
set_option maxRecDepth 20000 in
theorem gX5_hasFault_X3_load : GoodIn wsX5_hasFault (wsV RX5 154 RX3 yX3_load wsX3_load) := goodIn_app (goodIn_of _ (by decide +kernel)) ggX5_hasFault_X3_load
set_option maxRecDepth 20000 in
theorem ggX5_hasFault_X5_slotOf : GoodIn wsX5_hasFault wsX5_slotOf := goodIn_r _ [28] (by decide +kernel) (by decide +kernel)
set_option maxRecDepth 20000 in
theorem gX5_hasFault_X5_slotOf : GoodIn wsX5_hasFault (va_wsS RX5 158 yX5_slotOf wsX5_slotOf) := goodIn_app (goodIn_of _ (by decide +kernel)) ggX5_hasFault_X5_slotOf
set_option maxRecDepth 20000 in
theorem ggX5_hasFault_X3_sumRightIn : GoodIn wsX5_hasFault wsX3_sumRightIn := goodIn_r _ [47, 35, 48, 49, 50, 17, 51, 19, 52, 53, 54, 32, 55, 56, 57, 58, 59, 34, 83, 84, 85, 86, 87] (by decide +kernel) (by decide +kernel)
set_option maxRecDepth 20000 in
theorem gX5_hasFault_X3_sumRightIn : GoodIn wsX5_hasFault (wsV RX5 174 RX3 yX3_sumRightIn wsX3_sumRightIn) := goodIn_app (goodIn_of _ (by decide +kernel)) ggX5_hasFault_X3_sumRightIn
set_option maxRecDepth 20000 in
theorem ggX5_hasFault_X5_isOtherSum : GoodIn wsX5_hasFault wsX5_isOtherSum := goodIn_r _ [63, 2] (by decide +kernel) (by decide +kernel)
set_option maxRecDepth 20000 in
theorem gX5_hasFault_X5_isOtherSum : GoodIn wsX5_hasFault (va_wsS RX5 178 yX5_isOtherSum wsX5_isOtherSum) := goodIn_app (goodIn_of _ (by decide +kernel)) ggX5_hasFault_X5_isOtherSum
theorem dX5_hasFault_0 : decode cX5_hasFault 0 = .ok (.aload_n 0, 1) := by decide +kernel
theorem dX5_hasFault_1 : decode cX5_hasFault 1 = .ok (.getfield 38, 3) := by decide +kernel
theorem dX5_hasFault_4 : decode cX5_hasFault 4 = .ok (.getfield 170, 3) := by decide +kernel
theorem dX5_hasFault_7 : decode cX5_hasFault 7 = .ok (.aload_n 0, 1) := by decide +kernel
theorem dX5_hasFault_8 : decode cX5_hasFault 8 = .ok (.iload_n 1, 1) := by decide +kernel
theorem dX5_hasFault_9 : decode cX5_hasFault 9 = .ok (.iload_n 2, 1) := by decide +kernel
theorem dX5_hasFault_10 : decode cX5_hasFault 10 = .ok (.iload_n 3, 1) := by decide +kernel
theorem dX5_hasFault_11 : decode cX5_hasFault 11 = .ok (.invokevirtual 80, 3) := by decide +kernel
theorem dX5_hasFault_14 : decode cX5_hasFault 14 = .ok (.iaload, 1) := by decide +kernel
theorem dX5_hasFault_15 : decode cX5_hasFault 15 = .ok (.istore 4, 2) := by decide +kernel
theorem dX5_hasFault_17 : decode cX5_hasFault 17 = .ok (.iload 4, 2) := by decide +kernel
theorem dX5_hasFault_19 : decode cX5_hasFault 19 = .ok (.ldc 173, 2) := by decide +kernel
theorem dX5_hasFault_21 : decode cX5_hasFault 21 = .ok (.if_icmp .ne 5, 3) := by decide +kernel
theorem dX5_hasFault_24 : decode cX5_hasFault 24 = .ok (.iconst 0, 1) := by decide +kernel
theorem dX5_hasFault_25 : decode cX5_hasFault 25 = .ok (.ireturn, 1) := by decide +kernel
theorem dX5_hasFault_26 : decode cX5_hasFault 26 = .ok (.aload_n 0, 1) := by decide +kernel
theorem dX5_hasFault_27 : decode cX5_hasFault 27 = .ok (.getfield 45, 3) := by decide +kernel
theorem dX5_hasFault_30 : decode cX5_hasFault 30 = .ok (.aload_n 0, 1) := by decide +kernel
theorem dX5_hasFault_31 : decode cX5_hasFault 31 = .ok (.getfield 38, 3) := by decide +kernel
theorem dX5_hasFault_34 : decode cX5_hasFault 34 = .ok (.iload_n 3, 1) := by decide +kernel
theorem dX5_hasFault_35 : decode cX5_hasFault 35 = .ok (.aload_n 0, 1) := by decide +kernel
theorem dX5_hasFault_36 : decode cX5_hasFault 36 = .ok (.getfield 142, 3) := by decide +kernel
theorem dX5_hasFault_39 : decode cX5_hasFault 39 = .ok (.aload_n 0, 1) := by decide +kernel
theorem dX5_hasFault_40 : decode cX5_hasFault 40 = .ok (.getfield 14, 3) := by decide +kernel
theorem dX5_hasFault_43 : decode cX5_hasFault 43 = .ok (.aload_n 0, 1) := by decide +kernel
theorem dX5_hasFault_44 : decode cX5_hasFault 44 = .ok (.getfield 18, 3) := by decide +kernel
theorem dX5_hasFault_47 : decode cX5_hasFault 47 = .ok (.invokevirtual 154, 3) := by decide +kernel
theorem dX5_hasFault_50 : decode cX5_hasFault 50 = .ok (.iload_n 1, 1) := by decide +kernel
theorem dX5_hasFault_51 : decode cX5_hasFault 51 = .ok (.iload_n 2, 1) := by decide +kernel
theorem dX5_hasFault_52 : decode cX5_hasFault 52 = .ok (.invokestatic 158, 3) := by decide +kernel
theorem dX5_hasFault_55 : decode cX5_hasFault 55 = .ok (.istore 5, 2) := by decide +kernel
theorem dX5_hasFault_57 : decode cX5_hasFault 57 = .ok (.aload_n 0, 1) := by decide +kernel
theorem dX5_hasFault_58 : decode cX5_hasFault 58 = .ok (.getfield 45, 3) := by decide +kernel
theorem dX5_hasFault_61 : decode cX5_hasFault 61 = .ok (.aload_n 0, 1) := by decide +kernel
theorem dX5_hasFault_62 : decode cX5_hasFault 62 = .ok (.getfield 14, 3) := by decide +kernel
theorem dX5_hasFault_65 : decode cX5_hasFault 65 = .ok (.iload_n 1, 1) := by decide +kernel
theorem dX5_hasFault_66 : decode cX5_hasFault 66 = .ok (.iload 5, 2) := by decide +kernel
theorem dX5_hasFault_68 : decode cX5_hasFault 68 = .ok (.invokevirtual 174, 3) := by decide +kernel
theorem dX5_hasFault_71 : decode cX5_hasFault 71 = .ok (.iload 4, 2) := by decide +kernel
theorem dX5_hasFault_73 : decode cX5_hasFault 73 = .ok (.invokestatic 178, 3) := by decide +kernel
theorem dX5_hasFault_76 : decode cX5_hasFault 76 = .ok (.ifCond .ne 25, 3) := by decide +kernel
theorem dX5_hasFault_79 : decode cX5_hasFault 79 = .ok (.aload_n 0, 1) := by decide +kernel
theorem dX5_hasFault_80 : decode cX5_hasFault 80 = .ok (.getfield 45, 3) := by decide +kernel
theorem dX5_hasFault_83 : decode cX5_hasFault 83 = .ok (.aload_n 0, 1) := by decide +kernel
theorem dX5_hasFault_84 : decode cX5_hasFault 84 = .ok (.getfield 18, 3) := by decide +kernel
theorem dX5_hasFault_87 : decode cX5_hasFault 87 = .ok (.iload_n 2, 1) := by decide +kernel
theorem dX5_hasFault_88 : decode cX5_hasFault 88 = .ok (.iload 5, 2) := by decide +kernel
theorem dX5_hasFault_90 : decode cX5_hasFault 90 = .ok (.invokevirtual 174, 3) := by decide +kernel
theorem dX5_hasFault_93 : decode cX5_hasFault 93 = .ok (.iload 4, 2) := by decide +kernel
theorem dX5_hasFault_95 : decode cX5_hasFault 95 = .ok (.invokestatic 178, 3) := by decide +kernel
theorem dX5_hasFault_98 : decode cX5_hasFault 98 = .ok (.ifCond .eq 7, 3) := by decide +kernel
theorem dX5_hasFault_101 : decode cX5_hasFault 101 = .ok (.iconst 1, 1) := by decide +kernel
theorem dX5_hasFault_102 : decode cX5_hasFault 102 = .ok (.goto 4, 3) := by decide +kernel
theorem dX5_hasFault_105 : decode cX5_hasFault 105 = .ok (.iconst 0, 1) := by decide +kernel
theorem dX5_hasFault_106 : decode cX5_hasFault 106 = .ok (.ireturn, 1) := by decide +kernel
set_option maxRecDepth 20000 in
theorem ggX5_shown_X5_requireCell : GoodIn wsX5_shown wsX5_requireCell := goodIn_ca (goodIn_r _ [7, 8, 9, 10, 11, 12, 13, 14, 15, 16, 17, 18, 19, 6, 20, 21, 22, 23, 24, 25, 26, 96, 97, 98, 99, 100, 101, 102, 103, 104, 105, 106, 107, 108, 109] (by decide +kernel) (by decide +kernel)) (goodIn_sub (fun _ h => List.mem_cons_of_mem _ (List.mem_append_right _ h)) (by decide +kernel))
set_option maxRecDepth 20000 in
theorem gX5_shown_X5_requireCell : GoodIn wsX5_shown (wsV RX5 80 RX5 yX5_requireCell wsX5_requireCell) := goodIn_app (goodIn_of _ (by decide +kernel)) ggX5_shown_X5_requireCell
set_option maxRecDepth 20000 in
theorem ggX5_shown_X5_loadHidden : GoodIn wsX5_shown wsX5_loadHidden := goodIn_r _ [30, 1, 31, 32, 10, 11, 33, 34, 35, 36, 37, 38, 39, 40, 41, 42, 43, 44, 45, 46, 47, 48, 25, 6, 26, 49, 50, 51, 52, 53, 54, 55, 15, 56, 17, 57, 58, 59, 60, 61, 62, 63, 64, 65, 66, 67, 68, 69, 70, 71, 72, 73, 74, 75, 76, 77, 78, 79, 80, 81, 82, 83, 84, 85, 86, 87, 88, 89, 90, 91, 92, 93, 96, 97, 98, 99, 100, 101, 102, 103, 104, 105, 106, 107, 108, 109, 110, 111, 112, 113, 114, 115, 116, 117, 118, 119] (by decide +kernel) (by decide +kernel)
set_option maxRecDepth 20000 in
theorem gX5_shown_X5_loadHidden : GoodIn wsX5_shown (wsV RX5 134 RX5 yX5_loadHidden wsX5_loadHidden) := goodIn_app (goodIn_of _ (by decide +kernel)) ggX5_shown_X5_loadHidden
set_option maxRecDepth 20000 in
theorem ggX5_shown_X5_slotOf : GoodIn wsX5_shown wsX5_slotOf := goodIn_r _ [26] (by decide +kernel) (by decide +kernel)
set_option maxRecDepth 20000 in
theorem gX5_shown_X5_slotOf : GoodIn wsX5_shown (va_wsS RX5 158 yX5_slotOf wsX5_slotOf) := goodIn_app (goodIn_of _ (by decide +kernel)) ggX5_shown_X5_slotOf
set_option maxRecDepth 20000 in
theorem ggX5_shown_X3_isHidden : GoodIn wsX5_shown wsX3_isHidden := goodIn_r _ [85, 69, 110, 111] (by decide +kernel) (by decide +kernel)
set_option maxRecDepth 20000 in
theorem gX5_shown_X3_isHidden : GoodIn wsX5_shown (wsV RX5 182 RX3 yX3_isHidden wsX3_isHidden) := goodIn_app (goodIn_of _ (by decide +kernel)) ggX5_shown_X3_isHidden
set_option maxRecDepth 20000 in
theorem ggX5_shown_X3_valueAt : GoodIn wsX5_shown wsX3_valueAt := goodIn_r _ [64, 39, 40, 110, 111] (by decide +kernel) (by decide +kernel)
set_option maxRecDepth 20000 in
theorem gX5_shown_X3_valueAt : GoodIn wsX5_shown (wsV RX5 161 RX3 yX3_valueAt wsX3_valueAt) := goodIn_app (goodIn_of _ (by decide +kernel)) ggX5_shown_X3_valueAt
theorem dX5_shown_0 : decode cX5_shown 0 = .ok (.aload_n 0, 1) := by decide +kernel
theorem dX5_shown_1 : decode cX5_shown 1 = .ok (.iload_n 1, 1) := by decide +kernel
theorem dX5_shown_2 : decode cX5_shown 2 = .ok (.iload_n 2, 1) := by decide +kernel
theorem dX5_shown_3 : decode cX5_shown 3 = .ok (.iload_n 3, 1) := by decide +kernel
theorem dX5_shown_4 : decode cX5_shown 4 = .ok (.invokevirtual 80, 3) := by decide +kernel
theorem dX5_shown_7 : decode cX5_shown 7 = .ok (.pop, 1) := by decide +kernel
theorem dX5_shown_8 : decode cX5_shown 8 = .ok (.aload_n 0, 1) := by decide +kernel
theorem dX5_shown_9 : decode cX5_shown 9 = .ok (.iload_n 3, 1) := by decide +kernel
theorem dX5_shown_10 : decode cX5_shown 10 = .ok (.invokevirtual 134, 3) := by decide +kernel
theorem dX5_shown_13 : decode cX5_shown 13 = .ok (.iload_n 1, 1) := by decide +kernel
theorem dX5_shown_14 : decode cX5_shown 14 = .ok (.iload_n 2, 1) := by decide +kernel
theorem dX5_shown_15 : decode cX5_shown 15 = .ok (.invokestatic 158, 3) := by decide +kernel
theorem dX5_shown_18 : decode cX5_shown 18 = .ok (.istore 4, 2) := by decide +kernel
theorem dX5_shown_20 : decode cX5_shown 20 = .ok (.aload_n 0, 1) := by decide +kernel
theorem dX5_shown_21 : decode cX5_shown 21 = .ok (.getfield 45, 3) := by decide +kernel
theorem dX5_shown_24 : decode cX5_shown 24 = .ok (.iload 4, 2) := by decide +kernel
theorem dX5_shown_26 : decode cX5_shown 26 = .ok (.invokevirtual 182, 3) := by decide +kernel
theorem dX5_shown_29 : decode cX5_shown 29 = .ok (.ifCond .eq 8, 3) := by decide +kernel
theorem dX5_shown_32 : decode cX5_shown 32 = .ok (.ldc 186, 2) := by decide +kernel
theorem dX5_shown_34 : decode cX5_shown 34 = .ok (.goto 12, 3) := by decide +kernel
theorem dX5_shown_37 : decode cX5_shown 37 = .ok (.aload_n 0, 1) := by decide +kernel
theorem dX5_shown_38 : decode cX5_shown 38 = .ok (.getfield 45, 3) := by decide +kernel
theorem dX5_shown_41 : decode cX5_shown 41 = .ok (.iload 4, 2) := by decide +kernel
theorem dX5_shown_43 : decode cX5_shown 43 = .ok (.invokevirtual 161, 3) := by decide +kernel
theorem dX5_shown_46 : decode cX5_shown 46 = .ok (.ireturn, 1) := by decide +kernel
set_option maxRecDepth 20000 in
theorem ggX5_hidden_X5_isPeriod : GoodIn wsX5_hidden wsX5_isPeriod := goodIn_r _ [7] (by decide +kernel) (by decide +kernel)
set_option maxRecDepth 20000 in
theorem gX5_hidden_X5_isPeriod : GoodIn wsX5_hidden (va_wsS RX5 187 yX5_isPeriod wsX5_isPeriod) := goodIn_app (goodIn_of _ (by decide +kernel)) ggX5_hidden_X5_isPeriod
set_option maxRecDepth 20000 in
theorem ggX5_hidden_X5_loadHidden : GoodIn wsX5_hidden wsX5_loadHidden := goodIn_r _ [11, 3, 12, 13, 14, 15, 16, 17, 18, 19, 20, 21, 22, 23, 24, 25, 26, 27, 28, 29, 30, 31, 32, 6, 33, 34, 35, 36, 37, 38, 39, 40, 41, 42, 43, 44, 45, 46, 47, 48, 49, 50, 51, 52, 53, 54, 55, 56, 57, 58, 59, 60, 61, 62, 63, 64, 65, 66, 67, 68, 69, 70, 71, 72, 73, 74, 75, 76, 77, 78, 79, 80, 85, 86, 87, 88, 89, 90, 91, 92, 93, 94, 95, 96, 97, 98, 99, 100, 101, 102, 103, 104, 105, 106, 107, 108] (by decide +kernel) (by decide +kernel)
set_option maxRecDepth 20000 in
theorem gX5_hidden_X5_loadHidden : GoodIn wsX5_hidden (wsV RX5 134 RX5 yX5_loadHidden wsX5_loadHidden) := goodIn_app (goodIn_of _ (by decide +kernel)) ggX5_hidden_X5_loadHidden
set_option maxRecDepth 20000 in
theorem ggX5_hidden_X3_countHiddenSlots : GoodIn wsX5_hidden wsX3_countHiddenSlots := goodIn_r _ [84, 56, 99, 100] (by decide +kernel) (by decide +kernel)
set_option maxRecDepth 20000 in
theorem gX5_hidden_X3_countHiddenSlots : GoodIn wsX5_hidden (wsV RX5 137 RX3 yX3_countHiddenSlots wsX3_countHiddenSlots) := goodIn_app (goodIn_of _ (by decide +kernel)) ggX5_hidden_X3_countHiddenSlots
theorem dX5_hidden_0 : decode cX5_hidden 0 = .ok (.iload_n 1, 1) := by decide +kernel
theorem dX5_hidden_1 : decode cX5_hidden 1 = .ok (.invokestatic 187, 3) := by decide +kernel
theorem dX5_hidden_4 : decode cX5_hidden 4 = .ok (.ifCond .ne 13, 3) := by decide +kernel
theorem dX5_hidden_7 : decode cX5_hidden 7 = .ok (.new 129, 3) := by decide +kernel
theorem dX5_hidden_10 : decode cX5_hidden 10 = .ok (.dup, 1) := by decide +kernel
theorem dX5_hidden_11 : decode cX5_hidden 11 = .ok (.ldc 190, 2) := by decide +kernel
theorem dX5_hidden_13 : decode cX5_hidden 13 = .ok (.invokespecial 133, 3) := by decide +kernel
theorem dX5_hidden_16 : decode cX5_hidden 16 = .ok (.athrow, 1) := by decide +kernel
theorem dX5_hidden_17 : decode cX5_hidden 17 = .ok (.aload_n 0, 1) := by decide +kernel
theorem dX5_hidden_18 : decode cX5_hidden 18 = .ok (.iload_n 1, 1) := by decide +kernel
theorem dX5_hidden_19 : decode cX5_hidden 19 = .ok (.invokevirtual 134, 3) := by decide +kernel
theorem dX5_hidden_22 : decode cX5_hidden 22 = .ok (.aload_n 0, 1) := by decide +kernel
theorem dX5_hidden_23 : decode cX5_hidden 23 = .ok (.getfield 45, 3) := by decide +kernel
theorem dX5_hidden_26 : decode cX5_hidden 26 = .ok (.invokevirtual 137, 3) := by decide +kernel
theorem dX5_hidden_29 : decode cX5_hidden 29 = .ok (.ireturn, 1) := by decide +kernel
set_option maxRecDepth 20000 in
theorem ggX5_find_X5_requireNumberOrNone : GoodIn wsX5_find wsX5_requireNumberOrNone := goodIn_ca (goodIn_r _ [10, 1, 2, 11, 12, 13, 14, 15, 16, 56, 57, 58] (by decide +kernel) (by decide +kernel)) (goodIn_sub (fun _ h => List.mem_cons_of_mem _ (List.mem_append_left _ (List.mem_append_right _ h))) (by decide +kernel))
set_option maxRecDepth 20000 in
theorem gX5_find_X5_requireNumberOrNone : GoodIn wsX5_find (va_wsS RX5 57 yX5_requireNumberOrNone wsX5_requireNumberOrNone) := goodIn_app (goodIn_of _ (by decide +kernel)) ggX5_find_X5_requireNumberOrNone
set_option maxRecDepth 20000 in
theorem ggX5_find_X5_isPeriod : GoodIn wsX5_find wsX5_isPeriod := goodIn_r _ [19] (by decide +kernel) (by decide +kernel)
set_option maxRecDepth 20000 in
theorem gX5_find_X5_isPeriod : GoodIn wsX5_find (va_wsS RX5 187 yX5_isPeriod wsX5_isPeriod) := goodIn_app (goodIn_of _ (by decide +kernel)) ggX5_find_X5_isPeriod
set_option maxRecDepth 20000 in
theorem ggX5_find_X5_matchAt : GoodIn wsX5_find wsX5_matchAt := goodIn_r _ [23, 5, 6, 24, 25, 26, 9, 27, 28, 29, 30, 31, 32, 33, 34, 35, 36, 37, 38, 39, 40, 41, 14, 42, 16, 43, 44, 12, 13, 15, 45, 46, 47, 48, 49, 50, 51, 52, 53, 54, 55, 56, 57, 58, 59, 60, 61, 62, 63, 64, 65, 66] (by decide +kernel) (by decide +kernel)
set_option maxRecDepth 20000 in
theorem gX5_find_X5_matchAt : GoodIn wsX5_find (wsV RX5 198 RX5 yX5_matchAt wsX5_matchAt) := goodIn_app (goodIn_of _ (by decide +kernel)) ggX5_find_X5_matchAt
theorem dX5_find_0 : decode cX5_find 0 = .ok (.aload_n 0, 1) := by decide +kernel
theorem dX5_find_1 : decode cX5_find 1 = .ok (.getfield 14, 3) := by decide +kernel
theorem dX5_find_4 : decode cX5_find 4 = .ok (.iload_n 1, 1) := by decide +kernel
theorem dX5_find_5 : decode cX5_find 5 = .ok (.invokestatic 57, 3) := by decide +kernel
theorem dX5_find_8 : decode cX5_find 8 = .ok (.aload_n 0, 1) := by decide +kernel
theorem dX5_find_9 : decode cX5_find 9 = .ok (.getfield 18, 3) := by decide +kernel
theorem dX5_find_12 : decode cX5_find 12 = .ok (.iload_n 2, 1) := by decide +kernel
theorem dX5_find_13 : decode cX5_find 13 = .ok (.invokestatic 57, 3) := by decide +kernel
theorem dX5_find_16 : decode cX5_find 16 = .ok (.iload 6, 2) := by decide +kernel
theorem dX5_find_18 : decode cX5_find 18 = .ok (.ifCond .ge 13, 3) := by decide +kernel
theorem dX5_find_21 : decode cX5_find 21 = .ok (.new 129, 3) := by decide +kernel
theorem dX5_find_24 : decode cX5_find 24 = .ok (.dup, 1) := by decide +kernel
theorem dX5_find_25 : decode cX5_find 25 = .ok (.ldc 192, 2) := by decide +kernel
theorem dX5_find_27 : decode cX5_find 27 = .ok (.invokespecial 133, 3) := by decide +kernel
theorem dX5_find_30 : decode cX5_find 30 = .ok (.athrow, 1) := by decide +kernel
theorem dX5_find_31 : decode cX5_find 31 = .ok (.iload_n 3, 1) := by decide +kernel
theorem dX5_find_32 : decode cX5_find 32 = .ok (.invokestatic 187, 3) := by decide +kernel
theorem dX5_find_35 : decode cX5_find 35 = .ok (.ifCond .eq 17, 3) := by decide +kernel
theorem dX5_find_38 : decode cX5_find 38 = .ok (.iload 4, 2) := by decide +kernel
theorem dX5_find_40 : decode cX5_find 40 = .ok (.invokestatic 187, 3) := by decide +kernel
theorem dX5_find_43 : decode cX5_find 43 = .ok (.ifCond .eq 9, 3) := by decide +kernel
theorem dX5_find_46 : decode cX5_find 46 = .ok (.iload 4, 2) := by decide +kernel
theorem dX5_find_48 : decode cX5_find 48 = .ok (.iload_n 3, 1) := by decide +kernel
theorem dX5_find_49 : decode cX5_find 49 = .ok (.if_icmp .ge 13, 3) := by decide +kernel
theorem dX5_find_52 : decode cX5_find 52 = .ok (.new 84, 3) := by decide +kernel
theorem dX5_find_55 : decode cX5_find 55 = .ok (.dup, 1) := by decide +kernel
theorem dX5_find_56 : decode cX5_find 56 = .ok (.ldc 194, 2) := by decide +kernel
theorem dX5_find_58 : decode cX5_find 58 = .ok (.invokespecial 88, 3) := by decide +kernel
theorem dX5_find_61 : decode cX5_find 61 = .ok (.athrow, 1) := by decide +kernel
theorem dX5_find_62 : decode cX5_find 62 = .ok (.iload 5, 2) := by decide +kernel
theorem dX5_find_64 : decode cX5_find 64 = .ok (.ifCond .lt 11, 3) := by decide +kernel
theorem dX5_find_67 : decode cX5_find 67 = .ok (.iload 5, 2) := by decide +kernel
theorem dX5_find_69 : decode cX5_find 69 = .ok (.sipush 1000, 3) := by decide +kernel
theorem dX5_find_72 : decode cX5_find 72 = .ok (.if_icmp .le 13, 3) := by decide +kernel
theorem dX5_find_75 : decode cX5_find 75 = .ok (.new 84, 3) := by decide +kernel
theorem dX5_find_78 : decode cX5_find 78 = .ok (.dup, 1) := by decide +kernel
theorem dX5_find_79 : decode cX5_find 79 = .ok (.ldc 196, 2) := by decide +kernel
theorem dX5_find_81 : decode cX5_find 81 = .ok (.invokespecial 88, 3) := by decide +kernel
theorem dX5_find_84 : decode cX5_find 84 = .ok (.athrow, 1) := by decide +kernel
theorem dX5_find_85 : decode cX5_find 85 = .ok (.aload_n 0, 1) := by decide +kernel
theorem dX5_find_86 : decode cX5_find 86 = .ok (.iload_n 1, 1) := by decide +kernel
theorem dX5_find_87 : decode cX5_find 87 = .ok (.iload_n 2, 1) := by decide +kernel
theorem dX5_find_88 : decode cX5_find 88 = .ok (.iload_n 3, 1) := by decide +kernel
theorem dX5_find_89 : decode cX5_find 89 = .ok (.iload 4, 2) := by decide +kernel
theorem dX5_find_91 : decode cX5_find 91 = .ok (.iload 5, 2) := by decide +kernel
theorem dX5_find_93 : decode cX5_find 93 = .ok (.iload 6, 2) := by decide +kernel
theorem dX5_find_95 : decode cX5_find 95 = .ok (.invokevirtual 198, 3) := by decide +kernel
theorem dX5_find_98 : decode cX5_find 98 = .ok (.ireturn, 1) := by decide +kernel
set_option maxRecDepth 20000 in
theorem ggX5_mayTell_X5_requireSender : GoodIn wsX5_mayTell wsX5_requireSender := goodIn_ca (goodIn_r _ [6, 7, 8] (by decide +kernel) (by decide +kernel)) (goodIn_sub (fun _ h => List.mem_cons_of_mem _ (List.mem_append_right _ h)) (by decide +kernel))
set_option maxRecDepth 20000 in
theorem gX5_mayTell_X5_requireSender : GoodIn wsX5_mayTell (va_wsS RX5 69 yX5_requireSender wsX5_requireSender) := goodIn_app (goodIn_of _ (by decide +kernel)) ggX5_mayTell_X5_requireSender
set_option maxRecDepth 20000 in
theorem ggX5_mayTell_X5_requireArea : GoodIn wsX5_mayTell wsX5_requireArea := goodIn_ca (goodIn_r _ [12, 7, 8, 2, 13, 14, 15, 16, 17, 18, 31, 32, 33, 34, 35, 36, 37, 38, 39, 40, 41, 42, 43, 44] (by decide +kernel) (by decide +kernel)) (goodIn_sub (fun _ h => List.mem_cons_of_mem _ (List.mem_append_right _ h)) (by decide +kernel))
set_option maxRecDepth 20000 in
theorem gX5_mayTell_X5_requireArea : GoodIn wsX5_mayTell (wsV RX5 73 RX5 yX5_requireArea wsX5_requireArea) := goodIn_app (goodIn_of _ (by decide +kernel)) ggX5_mayTell_X5_requireArea
set_option maxRecDepth 20000 in
theorem ggX5_mayTell_X0_cover : GoodIn wsX5_mayTell wsX0_cover := goodIn_r _ [23, 24, 25, 26, 27, 16, 28, 18, 29, 30, 14, 15, 17, 42, 43, 44, 45] (by decide +kernel) (by decide +kernel)
set_option maxRecDepth 20000 in
theorem gX5_mayTell_X0_cover : GoodIn wsX5_mayTell (wsV RX5 202 RX0 yX0_cover wsX0_cover) := goodIn_app (goodIn_of _ (by decide +kernel)) ggX5_mayTell_X0_cover
theorem dX5_mayTell_0 : decode cX5_mayTell 0 = .ok (.iload_n 1, 1) := by decide +kernel
theorem dX5_mayTell_1 : decode cX5_mayTell 1 = .ok (.invokestatic 69, 3) := by decide +kernel
theorem dX5_mayTell_4 : decode cX5_mayTell 4 = .ok (.aload_n 0, 1) := by decide +kernel
theorem dX5_mayTell_5 : decode cX5_mayTell 5 = .ok (.iload_n 2, 1) := by decide +kernel
theorem dX5_mayTell_6 : decode cX5_mayTell 6 = .ok (.invokevirtual 73, 3) := by decide +kernel
theorem dX5_mayTell_9 : decode cX5_mayTell 9 = .ok (.aload_n 0, 1) := by decide +kernel
theorem dX5_mayTell_10 : decode cX5_mayTell 10 = .ok (.getfield 24, 3) := by decide +kernel
theorem dX5_mayTell_13 : decode cX5_mayTell 13 = .ok (.iload_n 1, 1) := by decide +kernel
theorem dX5_mayTell_14 : decode cX5_mayTell 14 = .ok (.iload_n 2, 1) := by decide +kernel
theorem dX5_mayTell_15 : decode cX5_mayTell 15 = .ok (.aload_n 0, 1) := by decide +kernel
theorem dX5_mayTell_16 : decode cX5_mayTell 16 = .ok (.getfield 14, 3) := by decide +kernel
theorem dX5_mayTell_19 : decode cX5_mayTell 19 = .ok (.invokevirtual 202, 3) := by decide +kernel
theorem dX5_mayTell_22 : decode cX5_mayTell 22 = .ok (.ireturn, 1) := by decide +kernel
theorem dX5_isPeriod_0 : decode cX5_isPeriod 0 = .ok (.iload_n 0, 1) := by decide +kernel
theorem dX5_isPeriod_1 : decode cX5_isPeriod 1 = .ok (.ifCond .lt 13, 3) := by decide +kernel
theorem dX5_isPeriod_4 : decode cX5_isPeriod 4 = .ok (.iload_n 0, 1) := by decide +kernel
theorem dX5_isPeriod_5 : decode cX5_isPeriod 5 = .ok (.bipush 12, 2) := by decide +kernel
theorem dX5_isPeriod_7 : decode cX5_isPeriod 7 = .ok (.if_icmp .ge 7, 3) := by decide +kernel
theorem dX5_isPeriod_10 : decode cX5_isPeriod 10 = .ok (.iconst 1, 1) := by decide +kernel
theorem dX5_isPeriod_11 : decode cX5_isPeriod 11 = .ok (.goto 4, 3) := by decide +kernel
theorem dX5_isPeriod_14 : decode cX5_isPeriod 14 = .ok (.iconst 0, 1) := by decide +kernel
theorem dX5_isPeriod_15 : decode cX5_isPeriod 15 = .ok (.ireturn, 1) := by decide +kernel
theorem dX5_requireSender_0 : decode cX5_requireSender 0 = .ok (.iload_n 0, 1) := by decide +kernel
theorem dX5_requireSender_1 : decode cX5_requireSender 1 = .ok (.ifCond .lt 8, 3) := by decide +kernel
theorem dX5_requireSender_4 : decode cX5_requireSender 4 = .ok (.iload_n 0, 1) := by decide +kernel
theorem dX5_requireSender_5 : decode cX5_requireSender 5 = .ok (.iconst 4, 1) := by decide +kernel
theorem dX5_requireSender_6 : decode cX5_requireSender 6 = .ok (.if_icmp .lt 13, 3) := by decide +kernel
theorem dX5_requireSender_9 : decode cX5_requireSender 9 = .ok (.new 129, 3) := by decide +kernel
theorem dX5_requireSender_12 : decode cX5_requireSender 12 = .ok (.dup, 1) := by decide +kernel
theorem dX5_requireSender_13 : decode cX5_requireSender 13 = .ok (.ldc 206, 2) := by decide +kernel
theorem dX5_requireSender_15 : decode cX5_requireSender 15 = .ok (.invokespecial 133, 3) := by decide +kernel
theorem dX5_requireSender_18 : decode cX5_requireSender 18 = .ok (.athrow, 1) := by decide +kernel
theorem dX5_requireSender_19 : decode cX5_requireSender 19 = .ok (.return_, 1) := by decide +kernel
set_option maxRecDepth 20000 in
theorem ggX5_requireNumberOrNone_X4_has : GoodIn wsX5_requireNumberOrNone wsX4_has := goodIn_r _ [7, 8, 9, 10, 11] (by decide +kernel) (by decide +kernel)
set_option maxRecDepth 20000 in
theorem gX5_requireNumberOrNone_X4_has : GoodIn wsX5_requireNumberOrNone (wsV RX5 208 RX4 yX4_has wsX4_has) := goodIn_app (goodIn_of _ (by decide +kernel)) ggX5_requireNumberOrNone_X4_has
theorem dX5_requireNumberOrNone_0 : decode cX5_requireNumberOrNone 0 = .ok (.iload_n 1, 1) := by decide +kernel
theorem dX5_requireNumberOrNone_1 : decode cX5_requireNumberOrNone 1 = .ok (.iconst (-1), 1) := by decide +kernel
theorem dX5_requireNumberOrNone_2 : decode cX5_requireNumberOrNone 2 = .ok (.if_icmp .eq 21, 3) := by decide +kernel
theorem dX5_requireNumberOrNone_5 : decode cX5_requireNumberOrNone 5 = .ok (.aload_n 0, 1) := by decide +kernel
theorem dX5_requireNumberOrNone_6 : decode cX5_requireNumberOrNone 6 = .ok (.iload_n 1, 1) := by decide +kernel
theorem dX5_requireNumberOrNone_7 : decode cX5_requireNumberOrNone 7 = .ok (.invokevirtual 208, 3) := by decide +kernel
theorem dX5_requireNumberOrNone_10 : decode cX5_requireNumberOrNone 10 = .ok (.ifCond .ne 13, 3) := by decide +kernel
theorem dX5_requireNumberOrNone_13 : decode cX5_requireNumberOrNone 13 = .ok (.new 129, 3) := by decide +kernel
theorem dX5_requireNumberOrNone_16 : decode cX5_requireNumberOrNone 16 = .ok (.dup, 1) := by decide +kernel
theorem dX5_requireNumberOrNone_17 : decode cX5_requireNumberOrNone 17 = .ok (.ldc 211, 2) := by decide +kernel
theorem dX5_requireNumberOrNone_19 : decode cX5_requireNumberOrNone 19 = .ok (.invokespecial 133, 3) := by decide +kernel
theorem dX5_requireNumberOrNone_22 : decode cX5_requireNumberOrNone 22 = .ok (.athrow, 1) := by decide +kernel
theorem dX5_requireNumberOrNone_23 : decode cX5_requireNumberOrNone 23 = .ok (.return_, 1) := by decide +kernel
set_option maxRecDepth 20000 in
theorem ggX5_requireRoom_X4_isFull : GoodIn wsX5_requireRoom wsX4_isFull := goodIn_r _ [7, 8, 9, 10, 11, 12] (by decide +kernel) (by decide +kernel)
set_option maxRecDepth 20000 in
theorem gX5_requireRoom_X4_isFull : GoodIn wsX5_requireRoom (wsV RX5 213 RX4 yX4_isFull wsX4_isFull) := goodIn_app (goodIn_of _ (by decide +kernel)) ggX5_requireRoom_X4_isFull
theorem dX5_requireRoom_0 : decode cX5_requireRoom 0 = .ok (.aload_n 0, 1) := by decide +kernel
theorem dX5_requireRoom_1 : decode cX5_requireRoom 1 = .ok (.invokevirtual 213, 3) := by decide +kernel
theorem dX5_requireRoom_4 : decode cX5_requireRoom 4 = .ok (.ifCond .eq 13, 3) := by decide +kernel
theorem dX5_requireRoom_7 : decode cX5_requireRoom 7 = .ok (.new 99, 3) := by decide +kernel
theorem dX5_requireRoom_10 : decode cX5_requireRoom 10 = .ok (.dup, 1) := by decide +kernel
theorem dX5_requireRoom_11 : decode cX5_requireRoom 11 = .ok (.ldc 214, 2) := by decide +kernel
theorem dX5_requireRoom_13 : decode cX5_requireRoom 13 = .ok (.invokespecial 103, 3) := by decide +kernel
theorem dX5_requireRoom_16 : decode cX5_requireRoom 16 = .ok (.athrow, 1) := by decide +kernel
theorem dX5_requireRoom_17 : decode cX5_requireRoom 17 = .ok (.return_, 1) := by decide +kernel
set_option maxRecDepth 20000 in
theorem ggX5_requireArea_X4_has : GoodIn wsX5_requireArea wsX4_has := goodIn_r _ [8, 9, 21, 22, 23] (by decide +kernel) (by decide +kernel)
set_option maxRecDepth 20000 in
theorem gX5_requireArea_X4_has : GoodIn wsX5_requireArea (wsV RX5 208 RX4 yX4_has wsX4_has) := goodIn_app (goodIn_of _ (by decide +kernel)) ggX5_requireArea_X4_has
theorem dX5_requireArea_0 : decode cX5_requireArea 0 = .ok (.aload_n 0, 1) := by decide +kernel
theorem dX5_requireArea_1 : decode cX5_requireArea 1 = .ok (.getfield 14, 3) := by decide +kernel
theorem dX5_requireArea_4 : decode cX5_requireArea 4 = .ok (.iload_n 1, 1) := by decide +kernel
theorem dX5_requireArea_5 : decode cX5_requireArea 5 = .ok (.invokevirtual 208, 3) := by decide +kernel
theorem dX5_requireArea_8 : decode cX5_requireArea 8 = .ok (.ifCond .ne 13, 3) := by decide +kernel
theorem dX5_requireArea_11 : decode cX5_requireArea 11 = .ok (.new 129, 3) := by decide +kernel
theorem dX5_requireArea_14 : decode cX5_requireArea 14 = .ok (.dup, 1) := by decide +kernel
theorem dX5_requireArea_15 : decode cX5_requireArea 15 = .ok (.ldc 216, 2) := by decide +kernel
theorem dX5_requireArea_17 : decode cX5_requireArea 17 = .ok (.invokespecial 133, 3) := by decide +kernel
theorem dX5_requireArea_20 : decode cX5_requireArea 20 = .ok (.athrow, 1) := by decide +kernel
theorem dX5_requireArea_21 : decode cX5_requireArea 21 = .ok (.return_, 1) := by decide +kernel
set_option maxRecDepth 20000 in
theorem ggX5_requireCell_X4_has : GoodIn wsX5_requireCell wsX4_has := goodIn_r _ [9, 10, 32, 33, 34] (by decide +kernel) (by decide +kernel)
set_option maxRecDepth 20000 in
theorem gX5_requireCell_X4_has : GoodIn wsX5_requireCell (wsV RX5 208 RX4 yX4_has wsX4_has) := goodIn_app (goodIn_of _ (by decide +kernel)) ggX5_requireCell_X4_has
set_option maxRecDepth 20000 in
theorem ggX5_requireCell_X5_isPeriod : GoodIn wsX5_requireCell wsX5_isPeriod := goodIn_r _ [14] (by decide +kernel) (by decide +kernel)
set_option maxRecDepth 20000 in
theorem gX5_requireCell_X5_isPeriod : GoodIn wsX5_requireCell (va_wsS RX5 187 yX5_isPeriod wsX5_isPeriod) := goodIn_app (goodIn_of _ (by decide +kernel)) ggX5_requireCell_X5_isPeriod
set_option maxRecDepth 20000 in
theorem ggX5_requireCell_X5_cellOf : GoodIn wsX5_requireCell wsX5_cellOf := goodIn_r _ [17, 18, 19, 13, 20] (by decide +kernel) (by decide +kernel)
set_option maxRecDepth 20000 in
theorem gX5_requireCell_X5_cellOf : GoodIn wsX5_requireCell (va_wsS RX5 220 yX5_cellOf wsX5_cellOf) := goodIn_app (goodIn_of _ (by decide +kernel)) ggX5_requireCell_X5_cellOf
theorem dX5_requireCell_0 : decode cX5_requireCell 0 = .ok (.aload_n 0, 1) := by decide +kernel
theorem dX5_requireCell_1 : decode cX5_requireCell 1 = .ok (.getfield 14, 3) := by decide +kernel
theorem dX5_requireCell_4 : decode cX5_requireCell 4 = .ok (.iload_n 1, 1) := by decide +kernel
theorem dX5_requireCell_5 : decode cX5_requireCell 5 = .ok (.invokevirtual 208, 3) := by decide +kernel
theorem dX5_requireCell_8 : decode cX5_requireCell 8 = .ok (.ifCond .eq 21, 3) := by decide +kernel
theorem dX5_requireCell_11 : decode cX5_requireCell 11 = .ok (.aload_n 0, 1) := by decide +kernel
theorem dX5_requireCell_12 : decode cX5_requireCell 12 = .ok (.getfield 18, 3) := by decide +kernel
theorem dX5_requireCell_15 : decode cX5_requireCell 15 = .ok (.iload_n 2, 1) := by decide +kernel
theorem dX5_requireCell_16 : decode cX5_requireCell 16 = .ok (.invokevirtual 208, 3) := by decide +kernel
theorem dX5_requireCell_19 : decode cX5_requireCell 19 = .ok (.ifCond .eq 10, 3) := by decide +kernel
theorem dX5_requireCell_22 : decode cX5_requireCell 22 = .ok (.iload_n 3, 1) := by decide +kernel
theorem dX5_requireCell_23 : decode cX5_requireCell 23 = .ok (.invokestatic 187, 3) := by decide +kernel
theorem dX5_requireCell_26 : decode cX5_requireCell 26 = .ok (.ifCond .ne 13, 3) := by decide +kernel
theorem dX5_requireCell_29 : decode cX5_requireCell 29 = .ok (.new 129, 3) := by decide +kernel
theorem dX5_requireCell_32 : decode cX5_requireCell 32 = .ok (.dup, 1) := by decide +kernel
theorem dX5_requireCell_33 : decode cX5_requireCell 33 = .ok (.ldc 218, 2) := by decide +kernel
theorem dX5_requireCell_35 : decode cX5_requireCell 35 = .ok (.invokespecial 133, 3) := by decide +kernel
theorem dX5_requireCell_38 : decode cX5_requireCell 38 = .ok (.athrow, 1) := by decide +kernel
theorem dX5_requireCell_39 : decode cX5_requireCell 39 = .ok (.iload_n 1, 1) := by decide +kernel
theorem dX5_requireCell_40 : decode cX5_requireCell 40 = .ok (.iload_n 2, 1) := by decide +kernel
theorem dX5_requireCell_41 : decode cX5_requireCell 41 = .ok (.iload_n 3, 1) := by decide +kernel
theorem dX5_requireCell_42 : decode cX5_requireCell 42 = .ok (.invokestatic 220, 3) := by decide +kernel
theorem dX5_requireCell_45 : decode cX5_requireCell 45 = .ok (.ireturn, 1) := by decide +kernel
theorem dX5_requireDay_0 : decode cX5_requireDay 0 = .ok (.iload_n 1, 1) := by decide +kernel
theorem dX5_requireDay_1 : decode cX5_requireDay 1 = .ok (.ifCond .lt 11, 3) := by decide +kernel
theorem dX5_requireDay_4 : decode cX5_requireDay 4 = .ok (.iload_n 1, 1) := by decide +kernel
theorem dX5_requireDay_5 : decode cX5_requireDay 5 = .ok (.aload_n 0, 1) := by decide +kernel
theorem dX5_requireDay_6 : decode cX5_requireDay 6 = .ok (.getfield 142, 3) := by decide +kernel
theorem dX5_requireDay_9 : decode cX5_requireDay 9 = .ok (.if_icmp .le 13, 3) := by decide +kernel
theorem dX5_requireDay_12 : decode cX5_requireDay 12 = .ok (.new 84, 3) := by decide +kernel
theorem dX5_requireDay_15 : decode cX5_requireDay 15 = .ok (.dup, 1) := by decide +kernel
theorem dX5_requireDay_16 : decode cX5_requireDay 16 = .ok (.ldc 223, 2) := by decide +kernel
theorem dX5_requireDay_18 : decode cX5_requireDay 18 = .ok (.invokespecial 88, 3) := by decide +kernel
theorem dX5_requireDay_21 : decode cX5_requireDay 21 = .ok (.athrow, 1) := by decide +kernel
theorem dX5_requireDay_22 : decode cX5_requireDay 22 = .ok (.return_, 1) := by decide +kernel
theorem dX5_slotOf_0 : decode cX5_slotOf 0 = .ok (.iload_n 0, 1) := by decide +kernel
theorem dX5_slotOf_1 : decode cX5_slotOf 1 = .ok (.bipush 10, 2) := by decide +kernel
theorem dX5_slotOf_3 : decode cX5_slotOf 3 = .ok (.imul, 1) := by decide +kernel
theorem dX5_slotOf_4 : decode cX5_slotOf 4 = .ok (.iload_n 1, 1) := by decide +kernel
theorem dX5_slotOf_5 : decode cX5_slotOf 5 = .ok (.iadd, 1) := by decide +kernel
theorem dX5_slotOf_6 : decode cX5_slotOf 6 = .ok (.ireturn, 1) := by decide +kernel
set_option maxRecDepth 20000 in
theorem ggX5_cellOf_X5_slotOf : GoodIn wsX5_cellOf wsX5_slotOf := goodIn_r _ [4] (by decide +kernel) (by decide +kernel)
set_option maxRecDepth 20000 in
theorem gX5_cellOf_X5_slotOf : GoodIn wsX5_cellOf (va_wsS RX5 158 yX5_slotOf wsX5_slotOf) := goodIn_app (goodIn_of _ (by decide +kernel)) ggX5_cellOf_X5_slotOf
theorem dX5_cellOf_0 : decode cX5_cellOf 0 = .ok (.iload_n 2, 1) := by decide +kernel
theorem dX5_cellOf_1 : decode cX5_cellOf 1 = .ok (.sipush 140, 3) := by decide +kernel
theorem dX5_cellOf_4 : decode cX5_cellOf 4 = .ok (.imul, 1) := by decide +kernel
theorem dX5_cellOf_5 : decode cX5_cellOf 5 = .ok (.iload_n 0, 1) := by decide +kernel
theorem dX5_cellOf_6 : decode cX5_cellOf 6 = .ok (.iload_n 1, 1) := by decide +kernel
theorem dX5_cellOf_7 : decode cX5_cellOf 7 = .ok (.invokestatic 158, 3) := by decide +kernel
theorem dX5_cellOf_10 : decode cX5_cellOf 10 = .ok (.iadd, 1) := by decide +kernel
theorem dX5_cellOf_11 : decode cX5_cellOf 11 = .ok (.ireturn, 1) := by decide +kernel
set_option maxRecDepth 20000 in
theorem ggX5_judgeDraft_X5_judge : GoodIn wsX5_judgeDraft wsX5_judge := goodIn_r _ [10, 11, 1, 12, 3, 13, 14, 15, 16, 17, 18, 19, 20, 21, 22, 23, 24, 25, 26, 27, 28, 29, 30, 52, 53, 54, 55, 56, 57, 58, 59, 60, 61, 62, 63, 64, 65, 66, 67, 68, 69, 70, 71, 72, 73, 74, 75, 76, 77, 78, 79] (by decide +kernel) (by decide +kernel)
set_option maxRecDepth 20000 in
theorem gX5_judgeDraft_X5_judge : GoodIn wsX5_judgeDraft (wsV RX5 225 RX5 yX5_judge wsX5_judge) := goodIn_app (goodIn_of _ (by decide +kernel)) ggX5_judgeDraft_X5_judge
set_option maxRecDepth 20000 in
theorem ggX5_judgeDraft_X2_figureBehind : GoodIn wsX5_judgeDraft wsX2_figureBehind := goodIn_r _ [35, 36, 37, 38, 63, 64, 65, 66, 67] (by decide +kernel) (by decide +kernel)
set_option maxRecDepth 20000 in
theorem gX5_judgeDraft_X2_figureBehind : GoodIn wsX5_judgeDraft (wsV RX5 231 RX2 yX2_figureBehind wsX2_figureBehind) := goodIn_app (goodIn_of _ (by decide +kernel)) ggX5_judgeDraft_X2_figureBehind
set_option maxRecDepth 20000 in
theorem ggX5_judgeDraft_X1_enter : GoodIn wsX5_judgeDraft wsX1_enter := goodIn_r _ [43, 44, 45, 46, 47, 48, 49, 50, 51, 68, 69, 70, 71, 72, 73, 74, 75] (by decide +kernel) (by decide +kernel)
set_option maxRecDepth 20000 in
theorem gX5_judgeDraft_X1_enter : GoodIn wsX5_judgeDraft (wsV RX5 234 RX1 yX1_enter wsX1_enter) := goodIn_app (goodIn_of _ (by decide +kernel)) ggX5_judgeDraft_X1_enter
theorem dX5_judgeDraft_0 : decode cX5_judgeDraft 0 = .ok (.iconst 0, 1) := by decide +kernel
theorem dX5_judgeDraft_1 : decode cX5_judgeDraft 1 = .ok (.istore_n 2, 1) := by decide +kernel
theorem dX5_judgeDraft_2 : decode cX5_judgeDraft 2 = .ok (.iconst 0, 1) := by decide +kernel
theorem dX5_judgeDraft_3 : decode cX5_judgeDraft 3 = .ok (.istore_n 3, 1) := by decide +kernel
theorem dX5_judgeDraft_4 : decode cX5_judgeDraft 4 = .ok (.iload_n 3, 1) := by decide +kernel
theorem dX5_judgeDraft_5 : decode cX5_judgeDraft 5 = .ok (.aload_n 0, 1) := by decide +kernel
theorem dX5_judgeDraft_6 : decode cX5_judgeDraft 6 = .ok (.getfield 31, 3) := by decide +kernel
theorem dX5_judgeDraft_9 : decode cX5_judgeDraft 9 = .ok (.getfield 112, 3) := by decide +kernel
theorem dX5_judgeDraft_12 : decode cX5_judgeDraft 12 = .ok (.if_icmp .ge 67, 3) := by decide +kernel
theorem dX5_judgeDraft_15 : decode cX5_judgeDraft 15 = .ok (.iload_n 3, 1) := by decide +kernel
theorem dX5_judgeDraft_16 : decode cX5_judgeDraft 16 = .ok (.bipush 16, 2) := by decide +kernel
theorem dX5_judgeDraft_18 : decode cX5_judgeDraft 18 = .ok (.if_icmp .ge 61, 3) := by decide +kernel
theorem dX5_judgeDraft_21 : decode cX5_judgeDraft 21 = .ok (.aload_n 0, 1) := by decide +kernel
theorem dX5_judgeDraft_22 : decode cX5_judgeDraft 22 = .ok (.iload_n 1, 1) := by decide +kernel
theorem dX5_judgeDraft_23 : decode cX5_judgeDraft 23 = .ok (.iload_n 3, 1) := by decide +kernel
theorem dX5_judgeDraft_24 : decode cX5_judgeDraft 24 = .ok (.invokevirtual 225, 3) := by decide +kernel
theorem dX5_judgeDraft_27 : decode cX5_judgeDraft 27 = .ok (.istore 4, 2) := by decide +kernel
theorem dX5_judgeDraft_29 : decode cX5_judgeDraft 29 = .ok (.aload_n 0, 1) := by decide +kernel
theorem dX5_judgeDraft_30 : decode cX5_judgeDraft 30 = .ok (.getfield 53, 3) := by decide +kernel
theorem dX5_judgeDraft_33 : decode cX5_judgeDraft 33 = .ok (.iload_n 3, 1) := by decide +kernel
theorem dX5_judgeDraft_34 : decode cX5_judgeDraft 34 = .ok (.iload 4, 2) := by decide +kernel
theorem dX5_judgeDraft_36 : decode cX5_judgeDraft 36 = .ok (.iastore, 1) := by decide +kernel
theorem dX5_judgeDraft_37 : decode cX5_judgeDraft 37 = .ok (.iload 4, 2) := by decide +kernel
theorem dX5_judgeDraft_39 : decode cX5_judgeDraft 39 = .ok (.ifCond .ne 34, 3) := by decide +kernel
theorem dX5_judgeDraft_42 : decode cX5_judgeDraft 42 = .ok (.aload_n 0, 1) := by decide +kernel
theorem dX5_judgeDraft_43 : decode cX5_judgeDraft 43 = .ok (.getfield 38, 3) := by decide +kernel
theorem dX5_judgeDraft_46 : decode cX5_judgeDraft 46 = .ok (.aload_n 0, 1) := by decide +kernel
theorem dX5_judgeDraft_47 : decode cX5_judgeDraft 47 = .ok (.getfield 31, 3) := by decide +kernel
theorem dX5_judgeDraft_50 : decode cX5_judgeDraft 50 = .ok (.getfield 228, 3) := by decide +kernel
theorem dX5_judgeDraft_53 : decode cX5_judgeDraft 53 = .ok (.iload_n 3, 1) := by decide +kernel
theorem dX5_judgeDraft_54 : decode cX5_judgeDraft 54 = .ok (.iaload, 1) := by decide +kernel
theorem dX5_judgeDraft_55 : decode cX5_judgeDraft 55 = .ok (.aload_n 0, 1) := by decide +kernel
theorem dX5_judgeDraft_56 : decode cX5_judgeDraft 56 = .ok (.getfield 142, 3) := by decide +kernel
theorem dX5_judgeDraft_59 : decode cX5_judgeDraft 59 = .ok (.aload_n 0, 1) := by decide +kernel
theorem dX5_judgeDraft_60 : decode cX5_judgeDraft 60 = .ok (.getfield 31, 3) := by decide +kernel
theorem dX5_judgeDraft_63 : decode cX5_judgeDraft 63 = .ok (.iload_n 3, 1) := by decide +kernel
theorem dX5_judgeDraft_64 : decode cX5_judgeDraft 64 = .ok (.invokevirtual 231, 3) := by decide +kernel
theorem dX5_judgeDraft_67 : decode cX5_judgeDraft 67 = .ok (.invokevirtual 234, 3) := by decide +kernel
theorem dX5_judgeDraft_70 : decode cX5_judgeDraft 70 = .ok (.iinc 2 1, 3) := by decide +kernel
theorem dX5_judgeDraft_73 : decode cX5_judgeDraft 73 = .ok (.iinc 3 1, 3) := by decide +kernel
theorem dX5_judgeDraft_76 : decode cX5_judgeDraft 76 = .ok (.goto (-72), 3) := by decide +kernel
theorem dX5_judgeDraft_79 : decode cX5_judgeDraft 79 = .ok (.aload_n 0, 1) := by decide +kernel
theorem dX5_judgeDraft_80 : decode cX5_judgeDraft 80 = .ok (.aload_n 0, 1) := by decide +kernel
theorem dX5_judgeDraft_81 : decode cX5_judgeDraft 81 = .ok (.getfield 31, 3) := by decide +kernel
theorem dX5_judgeDraft_84 : decode cX5_judgeDraft 84 = .ok (.getfield 112, 3) := by decide +kernel
theorem dX5_judgeDraft_87 : decode cX5_judgeDraft 87 = .ok (.putfield 126, 3) := by decide +kernel
theorem dX5_judgeDraft_90 : decode cX5_judgeDraft 90 = .ok (.iload_n 2, 1) := by decide +kernel
theorem dX5_judgeDraft_91 : decode cX5_judgeDraft 91 = .ok (.ireturn, 1) := by decide +kernel
set_option maxRecDepth 20000 in
theorem ggX5_judge_X0_cover : GoodIn wsX5_judge wsX0_cover := goodIn_r _ [10, 11, 12, 13, 14, 15, 16, 17, 18, 19, 20, 21, 22, 47, 48, 49, 50] (by decide +kernel) (by decide +kernel)
set_option maxRecDepth 20000 in
theorem gX5_judge_X0_cover : GoodIn wsX5_judge (wsV RX5 202 RX0 yX0_cover wsX0_cover) := goodIn_app (goodIn_of _ (by decide +kernel)) ggX5_judge_X0_cover
theorem dX5_judge_0 : decode cX5_judge 0 = .ok (.aload_n 0, 1) := by decide +kernel
theorem dX5_judge_1 : decode cX5_judge 1 = .ok (.getfield 24, 3) := by decide +kernel
theorem dX5_judge_4 : decode cX5_judge 4 = .ok (.iload_n 1, 1) := by decide +kernel
theorem dX5_judge_5 : decode cX5_judge 5 = .ok (.aload_n 0, 1) := by decide +kernel
theorem dX5_judge_6 : decode cX5_judge 6 = .ok (.getfield 31, 3) := by decide +kernel
theorem dX5_judge_9 : decode cX5_judge 9 = .ok (.getfield 238, 3) := by decide +kernel
theorem dX5_judge_12 : decode cX5_judge 12 = .ok (.iload_n 2, 1) := by decide +kernel
theorem dX5_judge_13 : decode cX5_judge 13 = .ok (.iaload, 1) := by decide +kernel
theorem dX5_judge_14 : decode cX5_judge 14 = .ok (.aload_n 0, 1) := by decide +kernel
theorem dX5_judge_15 : decode cX5_judge 15 = .ok (.getfield 14, 3) := by decide +kernel
theorem dX5_judge_18 : decode cX5_judge 18 = .ok (.invokevirtual 202, 3) := by decide +kernel
theorem dX5_judge_21 : decode cX5_judge 21 = .ok (.ifCond .ne 5, 3) := by decide +kernel
theorem dX5_judge_24 : decode cX5_judge 24 = .ok (.iconst 1, 1) := by decide +kernel
theorem dX5_judge_25 : decode cX5_judge 25 = .ok (.ireturn, 1) := by decide +kernel
theorem dX5_judge_26 : decode cX5_judge 26 = .ok (.aload_n 0, 1) := by decide +kernel
theorem dX5_judge_27 : decode cX5_judge 27 = .ok (.getfield 31, 3) := by decide +kernel
theorem dX5_judge_30 : decode cX5_judge 30 = .ok (.getfield 240, 3) := by decide +kernel
theorem dX5_judge_33 : decode cX5_judge 33 = .ok (.iload_n 2, 1) := by decide +kernel
theorem dX5_judge_34 : decode cX5_judge 34 = .ok (.iaload, 1) := by decide +kernel
theorem dX5_judge_35 : decode cX5_judge 35 = .ok (.istore_n 3, 1) := by decide +kernel
theorem dX5_judge_36 : decode cX5_judge 36 = .ok (.aload_n 0, 1) := by decide +kernel
theorem dX5_judge_37 : decode cX5_judge 37 = .ok (.getfield 38, 3) := by decide +kernel
theorem dX5_judge_40 : decode cX5_judge 40 = .ok (.getfield 170, 3) := by decide +kernel
theorem dX5_judge_43 : decode cX5_judge 43 = .ok (.aload_n 0, 1) := by decide +kernel
theorem dX5_judge_44 : decode cX5_judge 44 = .ok (.getfield 31, 3) := by decide +kernel
theorem dX5_judge_47 : decode cX5_judge 47 = .ok (.getfield 228, 3) := by decide +kernel
theorem dX5_judge_50 : decode cX5_judge 50 = .ok (.iload_n 2, 1) := by decide +kernel
theorem dX5_judge_51 : decode cX5_judge 51 = .ok (.iaload, 1) := by decide +kernel
theorem dX5_judge_52 : decode cX5_judge 52 = .ok (.iaload, 1) := by decide +kernel
theorem dX5_judge_53 : decode cX5_judge 53 = .ok (.istore 4, 2) := by decide +kernel
theorem dX5_judge_55 : decode cX5_judge 55 = .ok (.iload_n 3, 1) := by decide +kernel
theorem dX5_judge_56 : decode cX5_judge 56 = .ok (.ifCond .ne 16, 3) := by decide +kernel
theorem dX5_judge_59 : decode cX5_judge 59 = .ok (.iload 4, 2) := by decide +kernel
theorem dX5_judge_61 : decode cX5_judge 61 = .ok (.ldc 173, 2) := by decide +kernel
theorem dX5_judge_63 : decode cX5_judge 63 = .ok (.if_icmp .ne 7, 3) := by decide +kernel
theorem dX5_judge_66 : decode cX5_judge 66 = .ok (.iconst 0, 1) := by decide +kernel
theorem dX5_judge_67 : decode cX5_judge 67 = .ok (.goto 4, 3) := by decide +kernel
theorem dX5_judge_70 : decode cX5_judge 70 = .ok (.iconst 2, 1) := by decide +kernel
theorem dX5_judge_71 : decode cX5_judge 71 = .ok (.ireturn, 1) := by decide +kernel
theorem dX5_judge_72 : decode cX5_judge 72 = .ok (.iload 4, 2) := by decide +kernel
theorem dX5_judge_74 : decode cX5_judge 74 = .ok (.ldc 173, 2) := by decide +kernel
theorem dX5_judge_76 : decode cX5_judge 76 = .ok (.if_icmp .ne 5, 3) := by decide +kernel
theorem dX5_judge_79 : decode cX5_judge 79 = .ok (.iconst 3, 1) := by decide +kernel
theorem dX5_judge_80 : decode cX5_judge 80 = .ok (.ireturn, 1) := by decide +kernel
theorem dX5_judge_81 : decode cX5_judge 81 = .ok (.iload_n 3, 1) := by decide +kernel
theorem dX5_judge_82 : decode cX5_judge 82 = .ok (.iconst 1, 1) := by decide +kernel
theorem dX5_judge_83 : decode cX5_judge 83 = .ok (.if_icmp .ne 21, 3) := by decide +kernel
theorem dX5_judge_86 : decode cX5_judge 86 = .ok (.aload_n 0, 1) := by decide +kernel
theorem dX5_judge_87 : decode cX5_judge 87 = .ok (.getfield 31, 3) := by decide +kernel
theorem dX5_judge_90 : decode cX5_judge 90 = .ok (.getfield 243, 3) := by decide +kernel
theorem dX5_judge_93 : decode cX5_judge 93 = .ok (.iload_n 2, 1) := by decide +kernel
theorem dX5_judge_94 : decode cX5_judge 94 = .ok (.iaload, 1) := by decide +kernel
theorem dX5_judge_95 : decode cX5_judge 95 = .ok (.iload 4, 2) := by decide +kernel
theorem dX5_judge_97 : decode cX5_judge 97 = .ok (.if_icmp .ne 7, 3) := by decide +kernel
theorem dX5_judge_100 : decode cX5_judge 100 = .ok (.iconst 4, 1) := by decide +kernel
theorem dX5_judge_101 : decode cX5_judge 101 = .ok (.goto 4, 3) := by decide +kernel
theorem dX5_judge_104 : decode cX5_judge 104 = .ok (.iconst 0, 1) := by decide +kernel
theorem dX5_judge_105 : decode cX5_judge 105 = .ok (.ireturn, 1) := by decide +kernel
theorem dX5_isOtherSum_0 : decode cX5_isOtherSum 0 = .ok (.iload_n 0, 1) := by decide +kernel
theorem dX5_isOtherSum_1 : decode cX5_isOtherSum 1 = .ok (.ldc 173, 2) := by decide +kernel
theorem dX5_isOtherSum_3 : decode cX5_isOtherSum 3 = .ok (.if_icmp .eq 12, 3) := by decide +kernel
theorem dX5_isOtherSum_6 : decode cX5_isOtherSum 6 = .ok (.iload_n 0, 1) := by decide +kernel
theorem dX5_isOtherSum_7 : decode cX5_isOtherSum 7 = .ok (.iload_n 1, 1) := by decide +kernel
theorem dX5_isOtherSum_8 : decode cX5_isOtherSum 8 = .ok (.if_icmp .eq 7, 3) := by decide +kernel
theorem dX5_isOtherSum_11 : decode cX5_isOtherSum 11 = .ok (.iconst 1, 1) := by decide +kernel
theorem dX5_isOtherSum_12 : decode cX5_isOtherSum 12 = .ok (.goto 4, 3) := by decide +kernel
theorem dX5_isOtherSum_15 : decode cX5_isOtherSum 15 = .ok (.iconst 0, 1) := by decide +kernel
theorem dX5_isOtherSum_16 : decode cX5_isOtherSum 16 = .ok (.ireturn, 1) := by decide +kernel
set_option maxRecDepth 20000 in
theorem ggX5_loadHidden_X3_load : GoodIn wsX5_loadHidden wsX3_load := goodIn_r _ [11, 12, 13, 14, 15, 16, 10, 17, 18, 19, 20, 21, 22, 23, 24, 25, 26, 27, 28, 29, 30, 31, 32, 33, 34, 35, 36, 37, 38, 39, 40, 41, 42, 83, 84, 85, 86, 87, 88, 89, 90, 91, 92, 93, 94, 95] (by decide +kernel) (by decide +kernel)
set_option maxRecDepth 20000 in
theorem gX5_loadHidden_X3_load : GoodIn wsX5_loadHidden (wsV RX5 154 RX3 yX3_load wsX3_load) := goodIn_app (goodIn_of _ (by decide +kernel)) ggX5_loadHidden_X3_load
set_option maxRecDepth 20000 in
theorem ggX5_loadHidden_X3_hide : GoodIn wsX5_loadHidden wsX3_hide := goodIn_r _ [46, 47, 12, 13, 48, 49, 50, 10, 51, 22, 23, 24, 52, 53, 54, 55, 56, 57, 58, 59, 60, 61, 62, 63, 29, 30, 31, 32, 33, 34, 35, 36, 37, 38, 25, 26, 27, 28, 39, 40, 41, 42, 64, 65, 66, 67, 68, 69, 70, 71, 86, 87, 83, 84, 85] (by decide +kernel) (by decide +kernel)
set_option maxRecDepth 20000 in
theorem gX5_loadHidden_X3_hide : GoodIn wsX5_loadHidden (wsV RX5 246 RX3 yX3_hide wsX3_hide) := goodIn_app (goodIn_of _ (by decide +kernel)) ggX5_loadHidden_X3_hide
theorem dX5_loadHidden_0 : decode cX5_loadHidden 0 = .ok (.aload_n 0, 1) := by decide +kernel
theorem dX5_loadHidden_1 : decode cX5_loadHidden 1 = .ok (.getfield 45, 3) := by decide +kernel
theorem dX5_loadHidden_4 : decode cX5_loadHidden 4 = .ok (.aload_n 0, 1) := by decide +kernel
theorem dX5_loadHidden_5 : decode cX5_loadHidden 5 = .ok (.getfield 38, 3) := by decide +kernel
theorem dX5_loadHidden_8 : decode cX5_loadHidden 8 = .ok (.iload_n 1, 1) := by decide +kernel
theorem dX5_loadHidden_9 : decode cX5_loadHidden 9 = .ok (.aload_n 0, 1) := by decide +kernel
theorem dX5_loadHidden_10 : decode cX5_loadHidden 10 = .ok (.getfield 142, 3) := by decide +kernel
theorem dX5_loadHidden_13 : decode cX5_loadHidden 13 = .ok (.aload_n 0, 1) := by decide +kernel
theorem dX5_loadHidden_14 : decode cX5_loadHidden 14 = .ok (.getfield 14, 3) := by decide +kernel
theorem dX5_loadHidden_17 : decode cX5_loadHidden 17 = .ok (.aload_n 0, 1) := by decide +kernel
theorem dX5_loadHidden_18 : decode cX5_loadHidden 18 = .ok (.getfield 18, 3) := by decide +kernel
theorem dX5_loadHidden_21 : decode cX5_loadHidden 21 = .ok (.invokevirtual 154, 3) := by decide +kernel
theorem dX5_loadHidden_24 : decode cX5_loadHidden 24 = .ok (.aload_n 0, 1) := by decide +kernel
theorem dX5_loadHidden_25 : decode cX5_loadHidden 25 = .ok (.getfield 45, 3) := by decide +kernel
theorem dX5_loadHidden_28 : decode cX5_loadHidden 28 = .ok (.aload_n 0, 1) := by decide +kernel
theorem dX5_loadHidden_29 : decode cX5_loadHidden 29 = .ok (.getfield 49, 3) := by decide +kernel
theorem dX5_loadHidden_32 : decode cX5_loadHidden 32 = .ok (.iload_n 1, 1) := by decide +kernel
theorem dX5_loadHidden_33 : decode cX5_loadHidden 33 = .ok (.aload_n 0, 1) := by decide +kernel
theorem dX5_loadHidden_34 : decode cX5_loadHidden 34 = .ok (.getfield 14, 3) := by decide +kernel
theorem dX5_loadHidden_37 : decode cX5_loadHidden 37 = .ok (.aload_n 0, 1) := by decide +kernel
theorem dX5_loadHidden_38 : decode cX5_loadHidden 38 = .ok (.getfield 18, 3) := by decide +kernel
theorem dX5_loadHidden_41 : decode cX5_loadHidden 41 = .ok (.invokevirtual 246, 3) := by decide +kernel
theorem dX5_loadHidden_44 : decode cX5_loadHidden 44 = .ok (.return_, 1) := by decide +kernel
set_option maxRecDepth 20000 in
theorem ggX5_matchAt_X5_cellOf : GoodIn wsX5_matchAt wsX5_cellOf := goodIn_r _ [7, 8, 9, 6, 10] (by decide +kernel) (by decide +kernel)
set_option maxRecDepth 20000 in
theorem gX5_matchAt_X5_cellOf : GoodIn wsX5_matchAt (va_wsS RX5 220 yX5_cellOf wsX5_cellOf) := goodIn_app (goodIn_of _ (by decide +kernel)) ggX5_matchAt_X5_cellOf
set_option maxRecDepth 20000 in
theorem ggX5_matchAt_X1_isToldSince : GoodIn wsX5_matchAt wsX1_isToldSince := goodIn_r _ [15, 16, 17, 18, 44, 45, 46, 47, 48, 49, 50, 51] (by decide +kernel) (by decide +kernel)
set_option maxRecDepth 20000 in
theorem gX5_matchAt_X1_isToldSince : GoodIn wsX5_matchAt (wsV RX5 251 RX1 yX1_isToldSince wsX1_isToldSince) := goodIn_app (goodIn_of _ (by decide +kernel)) ggX5_matchAt_X1_isToldSince
set_option maxRecDepth 20000 in
theorem ggX5_matchAt_X4_isWithin : GoodIn wsX5_matchAt wsX4_isWithin := goodIn_r _ [23, 24, 25, 26, 27, 28, 22, 29, 41, 42, 43] (by decide +kernel) (by decide +kernel)
set_option maxRecDepth 20000 in
theorem gX5_matchAt_X4_isWithin : GoodIn wsX5_matchAt (wsV RX5 254 RX4 yX4_isWithin wsX4_isWithin) := goodIn_app (goodIn_of _ (by decide +kernel)) ggX5_matchAt_X4_isWithin
theorem dX5_matchAt_0 : decode cX5_matchAt 0 = .ok (.iload 6, 2) := by decide +kernel
theorem dX5_matchAt_2 : decode cX5_matchAt 2 = .ok (.istore 7, 2) := by decide +kernel
theorem dX5_matchAt_4 : decode cX5_matchAt 4 = .ok (.iload_n 3, 1) := by decide +kernel
theorem dX5_matchAt_5 : decode cX5_matchAt 5 = .ok (.istore 8, 2) := by decide +kernel
theorem dX5_matchAt_7 : decode cX5_matchAt 7 = .ok (.iload 8, 2) := by decide +kernel
theorem dX5_matchAt_9 : decode cX5_matchAt 9 = .ok (.iload 4, 2) := by decide +kernel
theorem dX5_matchAt_11 : decode cX5_matchAt 11 = .ok (.if_icmp .gt 122, 3) := by decide +kernel
theorem dX5_matchAt_14 : decode cX5_matchAt 14 = .ok (.iconst 0, 1) := by decide +kernel
theorem dX5_matchAt_15 : decode cX5_matchAt 15 = .ok (.istore 9, 2) := by decide +kernel
theorem dX5_matchAt_17 : decode cX5_matchAt 17 = .ok (.iload 9, 2) := by decide +kernel
theorem dX5_matchAt_19 : decode cX5_matchAt 19 = .ok (.aload_n 0, 1) := by decide +kernel
theorem dX5_matchAt_20 : decode cX5_matchAt 20 = .ok (.getfield 14, 3) := by decide +kernel
theorem dX5_matchAt_23 : decode cX5_matchAt 23 = .ok (.getfield 250, 3) := by decide +kernel
theorem dX5_matchAt_26 : decode cX5_matchAt 26 = .ok (.if_icmp .ge 101, 3) := by decide +kernel
theorem dX5_matchAt_29 : decode cX5_matchAt 29 = .ok (.iconst 0, 1) := by decide +kernel
theorem dX5_matchAt_30 : decode cX5_matchAt 30 = .ok (.istore 10, 2) := by decide +kernel
theorem dX5_matchAt_32 : decode cX5_matchAt 32 = .ok (.iload 10, 2) := by decide +kernel
theorem dX5_matchAt_34 : decode cX5_matchAt 34 = .ok (.aload_n 0, 1) := by decide +kernel
theorem dX5_matchAt_35 : decode cX5_matchAt 35 = .ok (.getfield 18, 3) := by decide +kernel
theorem dX5_matchAt_38 : decode cX5_matchAt 38 = .ok (.getfield 250, 3) := by decide +kernel
theorem dX5_matchAt_41 : decode cX5_matchAt 41 = .ok (.if_icmp .ge 80, 3) := by decide +kernel
theorem dX5_matchAt_44 : decode cX5_matchAt 44 = .ok (.aload_n 0, 1) := by decide +kernel
theorem dX5_matchAt_45 : decode cX5_matchAt 45 = .ok (.getfield 38, 3) := by decide +kernel
theorem dX5_matchAt_48 : decode cX5_matchAt 48 = .ok (.iload 9, 2) := by decide +kernel
theorem dX5_matchAt_50 : decode cX5_matchAt 50 = .ok (.iload 10, 2) := by decide +kernel
theorem dX5_matchAt_52 : decode cX5_matchAt 52 = .ok (.iload 8, 2) := by decide +kernel
theorem dX5_matchAt_54 : decode cX5_matchAt 54 = .ok (.invokestatic 220, 3) := by decide +kernel
theorem dX5_matchAt_57 : decode cX5_matchAt 57 = .ok (.iload 5, 2) := by decide +kernel
theorem dX5_matchAt_59 : decode cX5_matchAt 59 = .ok (.invokevirtual 251, 3) := by decide +kernel
theorem dX5_matchAt_62 : decode cX5_matchAt 62 = .ok (.ifCond .eq 53, 3) := by decide +kernel
theorem dX5_matchAt_65 : decode cX5_matchAt 65 = .ok (.aload_n 0, 1) := by decide +kernel
theorem dX5_matchAt_66 : decode cX5_matchAt 66 = .ok (.getfield 14, 3) := by decide +kernel
theorem dX5_matchAt_69 : decode cX5_matchAt 69 = .ok (.iload 9, 2) := by decide +kernel
theorem dX5_matchAt_71 : decode cX5_matchAt 71 = .ok (.iload_n 1, 1) := by decide +kernel
theorem dX5_matchAt_72 : decode cX5_matchAt 72 = .ok (.invokevirtual 254, 3) := by decide +kernel
theorem dX5_matchAt_75 : decode cX5_matchAt 75 = .ok (.ifCond .eq 40, 3) := by decide +kernel
theorem dX5_matchAt_78 : decode cX5_matchAt 78 = .ok (.aload_n 0, 1) := by decide +kernel
theorem dX5_matchAt_79 : decode cX5_matchAt 79 = .ok (.getfield 18, 3) := by decide +kernel
theorem dX5_matchAt_82 : decode cX5_matchAt 82 = .ok (.iload 10, 2) := by decide +kernel
theorem dX5_matchAt_84 : decode cX5_matchAt 84 = .ok (.iload_n 2, 1) := by decide +kernel
theorem dX5_matchAt_85 : decode cX5_matchAt 85 = .ok (.invokevirtual 254, 3) := by decide +kernel
theorem dX5_matchAt_88 : decode cX5_matchAt 88 = .ok (.ifCond .eq 27, 3) := by decide +kernel
theorem dX5_matchAt_91 : decode cX5_matchAt 91 = .ok (.iload 7, 2) := by decide +kernel
theorem dX5_matchAt_93 : decode cX5_matchAt 93 = .ok (.ifCond .ne 19, 3) := by decide +kernel
theorem dX5_matchAt_96 : decode cX5_matchAt 96 = .ok (.sipush 1000, 3) := by decide +kernel
theorem dX5_matchAt_99 : decode cX5_matchAt 99 = .ok (.iload 8, 2) := by decide +kernel
theorem dX5_matchAt_101 : decode cX5_matchAt 101 = .ok (.imul, 1) := by decide +kernel
theorem dX5_matchAt_102 : decode cX5_matchAt 102 = .ok (.bipush 20, 2) := by decide +kernel
theorem dX5_matchAt_104 : decode cX5_matchAt 104 = .ok (.iload 9, 2) := by decide +kernel
theorem dX5_matchAt_106 : decode cX5_matchAt 106 = .ok (.imul, 1) := by decide +kernel
theorem dX5_matchAt_107 : decode cX5_matchAt 107 = .ok (.iadd, 1) := by decide +kernel
theorem dX5_matchAt_108 : decode cX5_matchAt 108 = .ok (.iload 10, 2) := by decide +kernel
theorem dX5_matchAt_110 : decode cX5_matchAt 110 = .ok (.iadd, 1) := by decide +kernel
theorem dX5_matchAt_111 : decode cX5_matchAt 111 = .ok (.ireturn, 1) := by decide +kernel
theorem dX5_matchAt_112 : decode cX5_matchAt 112 = .ok (.iinc 7 (-1), 3) := by decide +kernel
theorem dX5_matchAt_115 : decode cX5_matchAt 115 = .ok (.iinc 10 1, 3) := by decide +kernel
theorem dX5_matchAt_118 : decode cX5_matchAt 118 = .ok (.goto (-86), 3) := by decide +kernel
theorem dX5_matchAt_121 : decode cX5_matchAt 121 = .ok (.iinc 9 1, 3) := by decide +kernel
theorem dX5_matchAt_124 : decode cX5_matchAt 124 = .ok (.goto (-107), 3) := by decide +kernel
theorem dX5_matchAt_127 : decode cX5_matchAt 127 = .ok (.iinc 8 1, 3) := by decide +kernel
theorem dX5_matchAt_130 : decode cX5_matchAt 130 = .ok (.goto (-123), 3) := by decide +kernel
theorem dX5_matchAt_133 : decode cX5_matchAt 133 = .ok (.iconst (-1), 1) := by decide +kernel
theorem dX5_matchAt_134 : decode cX5_matchAt 134 = .ok (.ireturn, 1) := by decide +kernel
theorem dJ9_abs_0f7a4_0 : decode cJ9_abs_0f7a4 0 = .ok (.iload_n 0, 1) := by decide +kernel
theorem dJ9_abs_0f7a4_1 : decode cJ9_abs_0f7a4 1 = .ok (.ifCond .ge 8, 3) := by decide +kernel
theorem dJ9_abs_0f7a4_4 : decode cJ9_abs_0f7a4 4 = .ok (.iload_n 0, 1) := by decide +kernel
theorem dJ9_abs_0f7a4_5 : decode cJ9_abs_0f7a4 5 = .ok (.ineg, 1) := by decide +kernel
theorem dJ9_abs_0f7a4_6 : decode cJ9_abs_0f7a4 6 = .ok (.goto 4, 3) := by decide +kernel
theorem dJ9_abs_0f7a4_9 : decode cJ9_abs_0f7a4 9 = .ok (.iload_n 0, 1) := by decide +kernel
theorem dJ9_abs_0f7a4_10 : decode cJ9_abs_0f7a4 10 = .ok (.ireturn, 1) := by decide +kernel
theorem dJ7_fill_53178_0 : decode cJ7_fill_53178 0 = .ok (.iconst 0, 1) := by decide +kernel
theorem dJ7_fill_53178_1 : decode cJ7_fill_53178 1 = .ok (.istore_n 2, 1) := by decide +kernel
theorem dJ7_fill_53178_2 : decode cJ7_fill_53178 2 = .ok (.aload_n 0, 1) := by decide +kernel
theorem dJ7_fill_53178_3 : decode cJ7_fill_53178 3 = .ok (.arraylength, 1) := by decide +kernel
theorem dJ7_fill_53178_4 : decode cJ7_fill_53178 4 = .ok (.istore_n 3, 1) := by decide +kernel
theorem dJ7_fill_53178_5 : decode cJ7_fill_53178 5 = .ok (.iload_n 2, 1) := by decide +kernel
theorem dJ7_fill_53178_6 : decode cJ7_fill_53178 6 = .ok (.iload_n 3, 1) := by decide +kernel
theorem dJ7_fill_53178_7 : decode cJ7_fill_53178 7 = .ok (.if_icmp .ge 13, 3) := by decide +kernel
theorem dJ7_fill_53178_10 : decode cJ7_fill_53178 10 = .ok (.aload_n 0, 1) := by decide +kernel
theorem dJ7_fill_53178_11 : decode cJ7_fill_53178 11 = .ok (.iload_n 2, 1) := by decide +kernel
theorem dJ7_fill_53178_12 : decode cJ7_fill_53178 12 = .ok (.iload_n 1, 1) := by decide +kernel
theorem dJ7_fill_53178_13 : decode cJ7_fill_53178 13 = .ok (.iastore, 1) := by decide +kernel
theorem dJ7_fill_53178_14 : decode cJ7_fill_53178 14 = .ok (.iinc 2 1, 3) := by decide +kernel
theorem dJ7_fill_53178_17 : decode cJ7_fill_53178 17 = .ok (.goto (-12), 3) := by decide +kernel
theorem dJ7_fill_53178_20 : decode cJ7_fill_53178 20 = .ok (.return_, 1) := by decide +kernel
set_option maxRecDepth 20000 in
theorem ggL_act_X5_area : GoodIn wsL_act wsX5_area := goodIn_ca (goodIn_ca (goodIn_r _ [8, 9, 10, 11, 7, 12, 13, 14, 15, 16, 17, 18, 19, 20, 21, 22, 23, 24, 25, 26, 27, 28, 29, 30, 31, 32, 33, 34, 272, 273, 274, 275, 276, 277, 278, 279, 280, 281, 282, 283, 284, 285] (by decide +kernel) (by decide +kernel)) (goodIn_sub (fun _ h => List.mem_cons_of_mem _ (List.mem_append_left _ (List.mem_append_left _ (List.mem_append_right _ h)))) (by decide +kernel))) (goodIn_sub (fun _ h => List.mem_cons_of_mem _ (List.mem_append_left _ (List.mem_append_right _ h))) (by decide +kernel))
set_option maxRecDepth 20000 in
theorem gL_act_X5_area : GoodIn wsL_act (wsV RL 7 RX5 yX5_area wsX5_area) := goodIn_app (goodIn_of _ (by decide +kernel)) ggL_act_X5_area
set_option maxRecDepth 20000 in
theorem ggL_act_X5_item : GoodIn wsL_act wsX5_item := goodIn_ca (goodIn_ca (goodIn_r _ [38, 39, 10, 11, 7, 12, 13, 14, 15, 16, 17, 18, 19, 20, 21, 22, 23, 24, 25, 26, 27, 28, 29, 30, 31, 32, 33, 34, 272, 273, 274, 275, 276, 277, 278, 279, 280, 281, 282, 283, 284, 285] (by decide +kernel) (by decide +kernel)) (goodIn_sub (fun _ h => List.mem_cons_of_mem _ (List.mem_append_left _ (List.mem_append_left _ (List.mem_append_right _ h)))) (by decide +kernel))) (goodIn_sub (fun _ h => List.mem_cons_of_mem _ (List.mem_append_left _ (List.mem_append_right _ h))) (by decide +kernel))
set_option maxRecDepth 20000 in
theorem gL_act_X5_item : GoodIn wsL_act (wsV RL 13 RX5 yX5_item wsX5_item) := goodIn_app (goodIn_of _ (by decide +kernel)) ggL_act_X5_item
set_option maxRecDepth 20000 in
theorem ggL_act_X5_agree : GoodIn wsL_act wsX5_agree := goodIn_ca (goodIn_r _ [43, 44, 45, 46, 7, 47, 13, 14, 48, 49, 50, 51, 9, 15, 16, 17, 18, 19, 20, 52, 53, 54, 55, 56, 57, 272, 273, 274, 275, 276, 277, 278, 279, 280, 281, 282, 283, 284, 285, 286] (by decide +kernel) (by decide +kernel)) (goodIn_sub (fun _ h => List.mem_cons_of_mem _ (List.mem_append_left _ (List.mem_append_left _ (List.mem_append_right _ h)))) (by decide +kernel))
set_option maxRecDepth 20000 in
theorem gL_act_X5_agree : GoodIn wsL_act (wsV RL 16 RX5 yX5_agree wsX5_agree) := goodIn_app (goodIn_of _ (by decide +kernel)) ggL_act_X5_agree
set_option maxRecDepth 20000 in
theorem ggL_act_X5_put : GoodIn wsL_act wsX5_put := goodIn_ca (goodIn_ca (goodIn_ca (goodIn_r _ [61, 62, 63, 24, 25, 64, 65, 66, 67, 68, 69, 7, 70, 13, 14, 9, 39, 15, 16, 17, 18, 19, 20, 71, 72, 73, 74, 75, 76, 77, 78, 79, 80, 81, 82, 83, 84, 85, 86, 87, 88, 89, 90, 91, 92, 93, 272, 273, 274, 275, 276, 277, 278, 279, 280, 281, 282, 283, 284, 285, 287, 288, 289, 290, 291] (by decide +kernel) (by decide +kernel)) (goodIn_sub (fun _ h => List.mem_cons_of_mem _ (List.mem_append_right _ h)) (by decide +kernel))) (goodIn_sub (fun _ h => List.mem_cons_of_mem _ (List.mem_append_left _ (List.mem_append_right _ h))) (by decide +kernel))) (goodIn_sub (fun _ h => List.mem_cons_of_mem _ (List.mem_append_left _ (List.mem_append_left _ (List.mem_append_right _ h)))) (by decide +kernel))
set_option maxRecDepth 20000 in
theorem gL_act_X5_put : GoodIn wsL_act (wsV RL 20 RX5 yX5_put wsX5_put) := goodIn_app (goodIn_of _ (by decide +kernel)) ggL_act_X5_put
set_option maxRecDepth 20000 in
theorem ggL_act_X5_send : GoodIn wsL_act wsX5_send := goodIn_ca (goodIn_ca (goodIn_r _ [97, 24, 25, 66, 98, 45, 46, 7, 47, 13, 14, 99, 100, 101, 102, 103, 104, 105, 106, 107, 108, 109, 110, 44, 9, 111, 112, 113, 114, 55, 115, 57, 116, 117, 118, 18, 119, 20, 30, 120, 16, 17, 19, 121, 122, 123, 83, 124, 90, 125, 93, 126, 127, 128, 129, 130, 131, 132, 133, 134, 135, 136, 137, 138, 139, 140, 141, 142, 85, 272, 273, 274, 275, 276, 277, 278, 279, 280, 281, 282, 287, 288, 289, 290, 291, 292, 293, 294, 295, 296, 297, 298, 299, 283, 284, 285, 286] (by decide +kernel) (by decide +kernel)) (goodIn_sub (fun _ h => List.mem_cons_of_mem _ (List.mem_append_left _ (List.mem_append_right _ h))) (by decide +kernel))) (goodIn_sub (fun _ h => List.mem_cons_of_mem _ (List.mem_append_left _ (List.mem_append_left _ (List.mem_append_right _ h)))) (by decide +kernel))
set_option maxRecDepth 20000 in
theorem gL_act_X5_send : GoodIn wsL_act (wsV RL 24 RX5 yX5_send wsX5_send) := goodIn_app (goodIn_of _ (by decide +kernel)) ggL_act_X5_send
set_option maxRecDepth 20000 in
theorem ggL_act_X5_refusal : GoodIn wsL_act wsX5_refusal := goodIn_ca (goodIn_r _ [146, 13, 14, 106, 103, 272, 273, 274, 275, 276, 277, 278, 279, 280, 281, 282] (by decide +kernel) (by decide +kernel)) (goodIn_sub (fun _ h => List.mem_cons_of_mem _ (List.mem_append_left _ (List.mem_append_left _ (List.mem_append_right _ h)))) (by decide +kernel))
set_option maxRecDepth 20000 in
theorem gL_act_X5_refusal : GoodIn wsL_act (wsV RL 27 RX5 yX5_refusal wsX5_refusal) := goodIn_app (goodIn_of _ (by decide +kernel)) ggL_act_X5_refusal
set_option maxRecDepth 20000 in
theorem ggL_act_X5_secret : GoodIn wsL_act wsX5_secret := goodIn_ca (goodIn_r _ [150, 151, 152, 67, 68, 69, 7, 70, 13, 14, 9, 39, 15, 16, 17, 18, 19, 20, 71, 72, 73, 74, 75, 76, 77, 78, 79, 153, 154, 155, 156, 104, 105, 157, 158, 159, 160, 161, 162, 163, 164, 165, 166, 167, 168, 169, 170, 171, 172, 173, 174, 175, 176, 177, 178, 179, 30, 180, 181, 182, 183, 184, 185, 186, 187, 188, 189, 190, 191, 192, 193, 194, 195, 196, 197, 198, 199, 200, 201, 202, 203, 204, 205, 206, 207, 208, 209, 210, 211, 212, 213, 214, 215, 216, 217, 218, 219, 272, 273, 274, 275, 276, 277, 278, 279, 280, 281, 282, 283, 284, 285, 300, 301, 292, 293, 294, 295, 296, 297, 298, 299] (by decide +kernel) (by decide +kernel)) (goodIn_sub (fun _ h => List.mem_cons_of_mem _ (List.mem_append_left _ (List.mem_append_left _ (List.mem_append_right _ h)))) (by decide +kernel))
set_option maxRecDepth 20000 in
theorem gL_act_X5_secret : GoodIn wsL_act (wsV RL 30 RX5 yX5_secret wsX5_secret) := goodIn_app (goodIn_of _ (by decide +kernel)) ggL_act_X5_secret
set_option maxRecDepth 20000 in
theorem ggL_act_X5_pass : GoodIn wsL_act wsX5_pass := goodIn_ca (goodIn_ca (goodIn_r _ [223, 62, 63, 24, 25, 105, 272, 273, 274, 275, 276, 277, 278, 279, 280, 281, 282] (by decide +kernel) (by decide +kernel)) (goodIn_sub (fun _ h => List.mem_cons_of_mem _ (List.mem_append_right _ h)) (by decide +kernel))) (goodIn_sub (fun _ h => List.mem_cons_of_mem _ (List.mem_append_left _ (List.mem_append_right _ h))) (by decide +kernel))
set_option maxRecDepth 20000 in
theorem gL_act_X5_pass : GoodIn wsL_act (wsV RL 34 RX5 yX5_pass wsX5_pass) := goodIn_app (goodIn_of _ (by decide +kernel)) ggL_act_X5_pass
set_option maxRecDepth 20000 in
theorem ggL_act_X5_figure : GoodIn wsL_act wsX5_figure := goodIn_ca (goodIn_ca (goodIn_r _ [227, 104, 67, 68, 69, 7, 70, 13, 14, 9, 39, 15, 16, 17, 18, 19, 20, 71, 72, 73, 74, 75, 76, 77, 78, 79, 228, 229, 230, 231, 62, 63, 105, 232, 233, 234, 129, 235, 131, 132, 133, 134, 236, 272, 273, 274, 275, 276, 277, 278, 279, 280, 281, 282, 283, 284, 285, 292, 293, 294, 295, 296, 297, 298, 299] (by decide +kernel) (by decide +kernel)) (goodIn_sub (fun _ h => List.mem_cons_of_mem _ (List.mem_append_left _ (List.mem_append_left _ (List.mem_append_right _ h)))) (by decide +kernel))) (goodIn_sub (fun _ h => List.mem_cons_of_mem _ (List.mem_append_right _ h)) (by decide +kernel))
set_option maxRecDepth 20000 in
theorem gL_act_X5_figure : GoodIn wsL_act (wsV RL 37 RX5 yX5_figure wsX5_figure) := goodIn_app (goodIn_of _ (by decide +kernel)) ggL_act_X5_figure
set_option maxRecDepth 20000 in
theorem ggL_act_X5_value : GoodIn wsL_act wsX5_value := goodIn_ca (goodIn_ca (goodIn_r _ [240, 152, 104, 9, 39, 67, 68, 69, 7, 70, 13, 14, 15, 16, 17, 18, 19, 20, 71, 72, 73, 74, 75, 76, 77, 78, 79, 228, 229, 230, 231, 62, 63, 105, 157, 158, 159, 160, 161, 162, 163, 164, 165, 166, 167, 168, 169, 170, 171, 172, 173, 174, 175, 176, 177, 178, 179, 30, 180, 181, 182, 183, 184, 185, 186, 241, 272, 273, 274, 275, 276, 277, 278, 279, 280, 281, 282, 283, 284, 285, 300, 301, 292, 293, 294, 295, 296, 297, 298, 299] (by decide +kernel) (by decide +kernel)) (goodIn_sub (fun _ h => List.mem_cons_of_mem _ (List.mem_append_left _ (List.mem_append_left _ (List.mem_append_right _ h)))) (by decide +kernel))) (goodIn_sub (fun _ h => List.mem_cons_of_mem _ (List.mem_append_right _ h)) (by decide +kernel))
set_option maxRecDepth 20000 in
theorem gL_act_X5_value : GoodIn wsL_act (wsV RL 41 RX5 yX5_value wsX5_value) := goodIn_app (goodIn_of _ (by decide +kernel)) ggL_act_X5_value
set_option maxRecDepth 20000 in
theorem ggL_act_X5_first : GoodIn wsL_act wsX5_first := goodIn_ca (goodIn_r _ [245, 104, 67, 68, 69, 7, 70, 13, 14, 9, 39, 15, 16, 17, 18, 19, 20, 71, 72, 73, 74, 75, 76, 77, 78, 79, 272, 273, 274, 275, 276, 277, 278, 279, 280, 281, 282, 292, 293, 294, 295, 296, 297, 298, 299, 283, 284, 285] (by decide +kernel) (by decide +kernel)) (goodIn_sub (fun _ h => List.mem_cons_of_mem _ (List.mem_append_left _ (List.mem_append_left _ (List.mem_append_right _ h)))) (by decide +kernel))
set_option maxRecDepth 20000 in
theorem gL_act_X5_first : GoodIn wsL_act (wsV RL 44 RX5 yX5_first wsX5_first) := goodIn_app (goodIn_of _ (by decide +kernel)) ggL_act_X5_first
set_option maxRecDepth 20000 in
theorem ggL_act_X5_revisions : GoodIn wsL_act wsX5_revisions := goodIn_ca (goodIn_r _ [249, 104, 67, 68, 69, 7, 70, 13, 14, 9, 39, 15, 16, 17, 18, 19, 20, 71, 72, 73, 74, 75, 76, 77, 78, 79, 272, 273, 274, 275, 276, 277, 278, 279, 280, 281, 282, 292, 293, 294, 295, 296, 297, 298, 299, 283, 284, 285] (by decide +kernel) (by decide +kernel)) (goodIn_sub (fun _ h => List.mem_cons_of_mem _ (List.mem_append_left _ (List.mem_append_left _ (List.mem_append_right _ h)))) (by decide +kernel))
set_option maxRecDepth 20000 in
theorem gL_act_X5_revisions : GoodIn wsL_act (wsV RL 48 RX5 yX5_revisions wsX5_revisions) := goodIn_app (goodIn_of _ (by decide +kernel)) ggL_act_X5_revisions
set_option maxRecDepth 20000 in
theorem ggL_act_X5_hasFault : GoodIn wsL_act wsX5_hasFault := goodIn_ca (goodIn_r _ [253, 104, 111, 152, 105, 9, 39, 67, 68, 69, 7, 70, 13, 14, 15, 16, 17, 18, 19, 20, 71, 72, 73, 74, 75, 76, 77, 78, 79, 157, 158, 159, 160, 161, 162, 163, 164, 165, 166, 167, 168, 169, 170, 171, 172, 173, 174, 175, 176, 177, 178, 179, 30, 180, 181, 182, 183, 184, 185, 186, 254, 255, 256, 257, 272, 273, 274, 275, 276, 277, 278, 279, 280, 281, 282, 292, 293, 294, 295, 296, 297, 298, 299, 283, 284, 285, 300, 301] (by decide +kernel) (by decide +kernel)) (goodIn_sub (fun _ h => List.mem_cons_of_mem _ (List.mem_append_left _ (List.mem_append_left _ (List.mem_append_right _ h)))) (by decide +kernel))
set_option maxRecDepth 20000 in
theorem gL_act_X5_hasFault : GoodIn wsL_act (wsV RL 51 RX5 yX5_hasFault wsX5_hasFault) := goodIn_app (goodIn_of _ (by decide +kernel)) ggL_act_X5_hasFault
set_option maxRecDepth 20000 in
theorem ggL_act_X5_shown : GoodIn wsL_act wsX5_shown := goodIn_ca (goodIn_r _ [261, 152, 262, 67, 68, 69, 7, 70, 13, 14, 9, 39, 15, 16, 17, 18, 19, 20, 71, 72, 73, 74, 75, 76, 77, 78, 79, 153, 154, 155, 156, 104, 105, 151, 157, 158, 159, 160, 161, 162, 163, 164, 165, 166, 167, 168, 169, 170, 171, 172, 173, 174, 175, 176, 177, 178, 179, 30, 180, 181, 182, 183, 184, 185, 186, 187, 188, 189, 190, 191, 192, 193, 194, 195, 196, 197, 198, 199, 200, 201, 202, 203, 204, 205, 206, 207, 208, 209, 210, 211, 212, 213, 214, 215, 263, 241, 272, 273, 274, 275, 276, 277, 278, 279, 280, 281, 282, 283, 284, 285, 300, 301, 292, 293, 294, 295, 296, 297, 298, 299] (by decide +kernel) (by decide +kernel)) (goodIn_sub (fun _ h => List.mem_cons_of_mem _ (List.mem_append_left _ (List.mem_append_left _ (List.mem_append_right _ h)))) (by decide +kernel))
set_option maxRecDepth 20000 in
theorem gL_act_X5_shown : GoodIn wsL_act (wsV RL 55 RX5 yX5_shown wsX5_shown) := goodIn_app (goodIn_of _ (by decide +kernel)) ggL_act_X5_shown
set_option maxRecDepth 20000 in
theorem ggL_act_X5_hidden : GoodIn wsL_act wsX5_hidden := goodIn_ca (goodIn_r _ [267, 13, 14, 152, 71, 72, 7, 73, 153, 154, 155, 156, 104, 105, 9, 39, 151, 157, 158, 159, 160, 161, 162, 163, 164, 165, 166, 167, 168, 169, 170, 171, 78, 79, 172, 173, 174, 175, 176, 177, 178, 18, 179, 20, 30, 180, 181, 182, 183, 184, 185, 186, 187, 188, 189, 190, 191, 192, 193, 194, 195, 196, 197, 198, 199, 200, 201, 202, 203, 204, 205, 206, 207, 208, 209, 210, 211, 212, 213, 214, 215, 216, 217, 218, 219, 272, 273, 274, 275, 276, 277, 278, 279, 280, 281, 282, 283, 284, 285, 300, 301, 292, 293, 294, 295, 296, 297, 298, 299] (by decide +kernel) (by decide +kernel)) (goodIn_sub (fun _ h => List.mem_cons_of_mem _ (List.mem_append_left _ (List.mem_append_left _ (List.mem_append_right _ h)))) (by decide +kernel))
set_option maxRecDepth 20000 in
theorem gL_act_X5_hidden : GoodIn wsL_act (wsV RL 58 RX5 yX5_hidden wsX5_hidden) := goodIn_app (goodIn_of _ (by decide +kernel)) ggL_act_X5_hidden
set_option maxRecDepth 20000 in
theorem ggL_act_X5_mayTell : GoodIn wsL_act wsX5_mayTell := goodIn_ca (goodIn_r _ [271, 44, 9, 45, 46, 7, 47, 13, 14, 48, 49, 50, 51, 15, 16, 17, 18, 19, 20, 112, 113, 114, 55, 115, 57, 116, 117, 118, 119, 30, 120, 272, 273, 274, 275, 276, 277, 278, 279, 280, 281, 282, 283, 284, 285, 286] (by decide +kernel) (by decide +kernel)) (goodIn_sub (fun _ h => List.mem_cons_of_mem _ (List.mem_append_left _ (List.mem_append_left _ (List.mem_append_right _ h)))) (by decide +kernel))
set_option maxRecDepth 20000 in
theorem gL_act_X5_mayTell : GoodIn wsL_act (wsV RL 61 RX5 yX5_mayTell wsX5_mayTell) := goodIn_app (goodIn_of _ (by decide +kernel)) ggL_act_X5_mayTell
theorem dL_act_0 : decode cL_act 0 = .ok (.iload_n 1, 1) := by decide +kernel
theorem dL_act_1 : decode cL_act 1 = .ok (.ifCond .ne 11, 3) := by decide +kernel
theorem dL_act_4 : decode cL_act 4 = .ok (.aload_n 0, 1) := by decide +kernel
theorem dL_act_5 : decode cL_act 5 = .ok (.iload_n 2, 1) := by decide +kernel
theorem dL_act_6 : decode cL_act 6 = .ok (.invokevirtual 7, 3) := by decide +kernel
theorem dL_act_9 : decode cL_act 9 = .ok (.goto 279, 3) := by decide +kernel
theorem dL_act_12 : decode cL_act 12 = .ok (.iload_n 1, 1) := by decide +kernel
theorem dL_act_13 : decode cL_act 13 = .ok (.iconst 1, 1) := by decide +kernel
theorem dL_act_14 : decode cL_act 14 = .ok (.if_icmp .ne 11, 3) := by decide +kernel
theorem dL_act_17 : decode cL_act 17 = .ok (.aload_n 0, 1) := by decide +kernel
theorem dL_act_18 : decode cL_act 18 = .ok (.iload_n 2, 1) := by decide +kernel
theorem dL_act_19 : decode cL_act 19 = .ok (.invokevirtual 13, 3) := by decide +kernel
theorem dL_act_22 : decode cL_act 22 = .ok (.goto 266, 3) := by decide +kernel
theorem dL_act_25 : decode cL_act 25 = .ok (.iload_n 1, 1) := by decide +kernel
theorem dL_act_26 : decode cL_act 26 = .ok (.iconst 2, 1) := by decide +kernel
theorem dL_act_27 : decode cL_act 27 = .ok (.if_icmp .ne 31, 3) := by decide +kernel
theorem dL_act_30 : decode cL_act 30 = .ok (.aload_n 0, 1) := by decide +kernel
theorem dL_act_31 : decode cL_act 31 = .ok (.iload_n 2, 1) := by decide +kernel
theorem dL_act_32 : decode cL_act 32 = .ok (.iload_n 3, 1) := by decide +kernel
theorem dL_act_33 : decode cL_act 33 = .ok (.iload 4, 2) := by decide +kernel
theorem dL_act_35 : decode cL_act 35 = .ok (.iconst 1, 1) := by decide +kernel
theorem dL_act_36 : decode cL_act 36 = .ok (.if_icmp .ne 7, 3) := by decide +kernel
theorem dL_act_39 : decode cL_act 39 = .ok (.iconst 1, 1) := by decide +kernel
theorem dL_act_40 : decode cL_act 40 = .ok (.goto 4, 3) := by decide +kernel
theorem dL_act_43 : decode cL_act 43 = .ok (.iconst 0, 1) := by decide +kernel
theorem dL_act_44 : decode cL_act 44 = .ok (.invokevirtual 16, 3) := by decide +kernel
theorem dL_act_47 : decode cL_act 47 = .ok (.ifCond .eq 7, 3) := by decide +kernel
theorem dL_act_50 : decode cL_act 50 = .ok (.iconst 1, 1) := by decide +kernel
theorem dL_act_51 : decode cL_act 51 = .ok (.goto 237, 3) := by decide +kernel
theorem dL_act_54 : decode cL_act 54 = .ok (.iconst 0, 1) := by decide +kernel
theorem dL_act_55 : decode cL_act 55 = .ok (.goto 233, 3) := by decide +kernel
theorem dL_act_58 : decode cL_act 58 = .ok (.iload_n 1, 1) := by decide +kernel
theorem dL_act_59 : decode cL_act 59 = .ok (.iconst 3, 1) := by decide +kernel
theorem dL_act_60 : decode cL_act 60 = .ok (.if_icmp .ne 18, 3) := by decide +kernel
theorem dL_act_63 : decode cL_act 63 = .ok (.aload_n 0, 1) := by decide +kernel
theorem dL_act_64 : decode cL_act 64 = .ok (.iload_n 2, 1) := by decide +kernel
theorem dL_act_65 : decode cL_act 65 = .ok (.iload_n 3, 1) := by decide +kernel
theorem dL_act_66 : decode cL_act 66 = .ok (.iload 4, 2) := by decide +kernel
theorem dL_act_68 : decode cL_act 68 = .ok (.iload 5, 2) := by decide +kernel
theorem dL_act_70 : decode cL_act 70 = .ok (.iload 6, 2) := by decide +kernel
theorem dL_act_72 : decode cL_act 72 = .ok (.invokevirtual 20, 3) := by decide +kernel
theorem dL_act_75 : decode cL_act 75 = .ok (.goto 213, 3) := by decide +kernel
theorem dL_act_78 : decode cL_act 78 = .ok (.iload_n 1, 1) := by decide +kernel
theorem dL_act_79 : decode cL_act 79 = .ok (.iconst 4, 1) := by decide +kernel
theorem dL_act_80 : decode cL_act 80 = .ok (.if_icmp .ne 11, 3) := by decide +kernel
theorem dL_act_83 : decode cL_act 83 = .ok (.aload_n 0, 1) := by decide +kernel
theorem dL_act_84 : decode cL_act 84 = .ok (.iload_n 2, 1) := by decide +kernel
theorem dL_act_85 : decode cL_act 85 = .ok (.invokevirtual 24, 3) := by decide +kernel
theorem dL_act_88 : decode cL_act 88 = .ok (.goto 200, 3) := by decide +kernel
theorem dL_act_91 : decode cL_act 91 = .ok (.iload_n 1, 1) := by decide +kernel
theorem dL_act_92 : decode cL_act 92 = .ok (.iconst 5, 1) := by decide +kernel
theorem dL_act_93 : decode cL_act 93 = .ok (.if_icmp .ne 11, 3) := by decide +kernel
theorem dL_act_96 : decode cL_act 96 = .ok (.aload_n 0, 1) := by decide +kernel
theorem dL_act_97 : decode cL_act 97 = .ok (.iload_n 2, 1) := by decide +kernel
theorem dL_act_98 : decode cL_act 98 = .ok (.invokevirtual 27, 3) := by decide +kernel
theorem dL_act_101 : decode cL_act 101 = .ok (.goto 187, 3) := by decide +kernel
theorem dL_act_104 : decode cL_act 104 = .ok (.iload_n 1, 1) := by decide +kernel
theorem dL_act_105 : decode cL_act 105 = .ok (.bipush 6, 2) := by decide +kernel
theorem dL_act_107 : decode cL_act 107 = .ok (.if_icmp .ne 25, 3) := by decide +kernel
theorem dL_act_110 : decode cL_act 110 = .ok (.aload_n 0, 1) := by decide +kernel
theorem dL_act_111 : decode cL_act 111 = .ok (.iload_n 2, 1) := by decide +kernel
theorem dL_act_112 : decode cL_act 112 = .ok (.iload_n 3, 1) := by decide +kernel
theorem dL_act_113 : decode cL_act 113 = .ok (.iload 4, 2) := by decide +kernel
theorem dL_act_115 : decode cL_act 115 = .ok (.iload 5, 2) := by decide +kernel
theorem dL_act_117 : decode cL_act 117 = .ok (.iconst 1, 1) := by decide +kernel
theorem dL_act_118 : decode cL_act 118 = .ok (.if_icmp .ne 7, 3) := by decide +kernel
theorem dL_act_121 : decode cL_act 121 = .ok (.iconst 1, 1) := by decide +kernel
theorem dL_act_122 : decode cL_act 122 = .ok (.goto 4, 3) := by decide +kernel
theorem dL_act_125 : decode cL_act 125 = .ok (.iconst 0, 1) := by decide +kernel
theorem dL_act_126 : decode cL_act 126 = .ok (.invokevirtual 30, 3) := by decide +kernel
theorem dL_act_129 : decode cL_act 129 = .ok (.goto 159, 3) := by decide +kernel
theorem dL_act_132 : decode cL_act 132 = .ok (.iload_n 1, 1) := by decide +kernel
theorem dL_act_133 : decode cL_act 133 = .ok (.bipush 7, 2) := by decide +kernel
theorem dL_act_135 : decode cL_act 135 = .ok (.if_icmp .ne 11, 3) := by decide +kernel
theorem dL_act_138 : decode cL_act 138 = .ok (.aload_n 0, 1) := by decide +kernel
theorem dL_act_139 : decode cL_act 139 = .ok (.iload_n 2, 1) := by decide +kernel
theorem dL_act_140 : decode cL_act 140 = .ok (.invokevirtual 34, 3) := by decide +kernel
theorem dL_act_143 : decode cL_act 143 = .ok (.goto 145, 3) := by decide +kernel
theorem dL_act_146 : decode cL_act 146 = .ok (.iload_n 1, 1) := by decide +kernel
theorem dL_act_147 : decode cL_act 147 = .ok (.bipush 8, 2) := by decide +kernel
theorem dL_act_149 : decode cL_act 149 = .ok (.if_icmp .ne 16, 3) := by decide +kernel
theorem dL_act_152 : decode cL_act 152 = .ok (.aload_n 0, 1) := by decide +kernel
theorem dL_act_153 : decode cL_act 153 = .ok (.iload_n 2, 1) := by decide +kernel
theorem dL_act_154 : decode cL_act 154 = .ok (.iload_n 3, 1) := by decide +kernel
theorem dL_act_155 : decode cL_act 155 = .ok (.iload 4, 2) := by decide +kernel
theorem dL_act_157 : decode cL_act 157 = .ok (.iload 5, 2) := by decide +kernel
theorem dL_act_159 : decode cL_act 159 = .ok (.invokevirtual 37, 3) := by decide +kernel
theorem dL_act_162 : decode cL_act 162 = .ok (.goto 126, 3) := by decide +kernel
theorem dL_act_165 : decode cL_act 165 = .ok (.iload_n 1, 1) := by decide +kernel
theorem dL_act_166 : decode cL_act 166 = .ok (.bipush 9, 2) := by decide +kernel
theorem dL_act_168 : decode cL_act 168 = .ok (.if_icmp .ne 16, 3) := by decide +kernel
theorem dL_act_171 : decode cL_act 171 = .ok (.aload_n 0, 1) := by decide +kernel
theorem dL_act_172 : decode cL_act 172 = .ok (.iload_n 2, 1) := by decide +kernel
theorem dL_act_173 : decode cL_act 173 = .ok (.iload_n 3, 1) := by decide +kernel
theorem dL_act_174 : decode cL_act 174 = .ok (.iload 4, 2) := by decide +kernel
theorem dL_act_176 : decode cL_act 176 = .ok (.iload 5, 2) := by decide +kernel
theorem dL_act_178 : decode cL_act 178 = .ok (.invokevirtual 41, 3) := by decide +kernel
theorem dL_act_181 : decode cL_act 181 = .ok (.goto 107, 3) := by decide +kernel
theorem dL_act_184 : decode cL_act 184 = .ok (.iload_n 1, 1) := by decide +kernel
theorem dL_act_185 : decode cL_act 185 = .ok (.bipush 10, 2) := by decide +kernel
theorem dL_act_187 : decode cL_act 187 = .ok (.if_icmp .ne 14, 3) := by decide +kernel
theorem dL_act_190 : decode cL_act 190 = .ok (.aload_n 0, 1) := by decide +kernel
theorem dL_act_191 : decode cL_act 191 = .ok (.iload_n 2, 1) := by decide +kernel
theorem dL_act_192 : decode cL_act 192 = .ok (.iload_n 3, 1) := by decide +kernel
theorem dL_act_193 : decode cL_act 193 = .ok (.iload 4, 2) := by decide +kernel
theorem dL_act_195 : decode cL_act 195 = .ok (.invokevirtual 44, 3) := by decide +kernel
theorem dL_act_198 : decode cL_act 198 = .ok (.goto 90, 3) := by decide +kernel
theorem dL_act_201 : decode cL_act 201 = .ok (.iload_n 1, 1) := by decide +kernel
theorem dL_act_202 : decode cL_act 202 = .ok (.bipush 11, 2) := by decide +kernel
theorem dL_act_204 : decode cL_act 204 = .ok (.if_icmp .ne 14, 3) := by decide +kernel
theorem dL_act_207 : decode cL_act 207 = .ok (.aload_n 0, 1) := by decide +kernel
theorem dL_act_208 : decode cL_act 208 = .ok (.iload_n 2, 1) := by decide +kernel
theorem dL_act_209 : decode cL_act 209 = .ok (.iload_n 3, 1) := by decide +kernel
theorem dL_act_210 : decode cL_act 210 = .ok (.iload 4, 2) := by decide +kernel
theorem dL_act_212 : decode cL_act 212 = .ok (.invokevirtual 48, 3) := by decide +kernel
theorem dL_act_215 : decode cL_act 215 = .ok (.goto 73, 3) := by decide +kernel
theorem dL_act_218 : decode cL_act 218 = .ok (.iload_n 1, 1) := by decide +kernel
theorem dL_act_219 : decode cL_act 219 = .ok (.bipush 12, 2) := by decide +kernel
theorem dL_act_221 : decode cL_act 221 = .ok (.if_icmp .ne 22, 3) := by decide +kernel
theorem dL_act_224 : decode cL_act 224 = .ok (.aload_n 0, 1) := by decide +kernel
theorem dL_act_225 : decode cL_act 225 = .ok (.iload_n 2, 1) := by decide +kernel
theorem dL_act_226 : decode cL_act 226 = .ok (.iload_n 3, 1) := by decide +kernel
theorem dL_act_227 : decode cL_act 227 = .ok (.iload 4, 2) := by decide +kernel
theorem dL_act_229 : decode cL_act 229 = .ok (.invokevirtual 51, 3) := by decide +kernel
theorem dL_act_232 : decode cL_act 232 = .ok (.ifCond .eq 7, 3) := by decide +kernel
theorem dL_act_235 : decode cL_act 235 = .ok (.iconst 1, 1) := by decide +kernel
theorem dL_act_236 : decode cL_act 236 = .ok (.goto 52, 3) := by decide +kernel
theorem dL_act_239 : decode cL_act 239 = .ok (.iconst 0, 1) := by decide +kernel
theorem dL_act_240 : decode cL_act 240 = .ok (.goto 48, 3) := by decide +kernel
theorem dL_act_243 : decode cL_act 243 = .ok (.iload_n 1, 1) := by decide +kernel
theorem dL_act_244 : decode cL_act 244 = .ok (.bipush 13, 2) := by decide +kernel
theorem dL_act_246 : decode cL_act 246 = .ok (.if_icmp .ne 14, 3) := by decide +kernel
theorem dL_act_249 : decode cL_act 249 = .ok (.aload_n 0, 1) := by decide +kernel
theorem dL_act_250 : decode cL_act 250 = .ok (.iload_n 2, 1) := by decide +kernel
theorem dL_act_251 : decode cL_act 251 = .ok (.iload_n 3, 1) := by decide +kernel
theorem dL_act_252 : decode cL_act 252 = .ok (.iload 4, 2) := by decide +kernel
theorem dL_act_254 : decode cL_act 254 = .ok (.invokevirtual 55, 3) := by decide +kernel
theorem dL_act_257 : decode cL_act 257 = .ok (.goto 31, 3) := by decide +kernel
theorem dL_act_260 : decode cL_act 260 = .ok (.iload_n 1, 1) := by decide +kernel
theorem dL_act_261 : decode cL_act 261 = .ok (.bipush 14, 2) := by decide +kernel
theorem dL_act_263 : decode cL_act 263 = .ok (.if_icmp .ne 11, 3) := by decide +kernel
theorem dL_act_266 : decode cL_act 266 = .ok (.aload_n 0, 1) := by decide +kernel
theorem dL_act_267 : decode cL_act 267 = .ok (.iload_n 2, 1) := by decide +kernel
theorem dL_act_268 : decode cL_act 268 = .ok (.invokevirtual 58, 3) := by decide +kernel
theorem dL_act_271 : decode cL_act 271 = .ok (.goto 17, 3) := by decide +kernel
theorem dL_act_274 : decode cL_act 274 = .ok (.aload_n 0, 1) := by decide +kernel
theorem dL_act_275 : decode cL_act 275 = .ok (.iload_n 2, 1) := by decide +kernel
theorem dL_act_276 : decode cL_act 276 = .ok (.iload_n 3, 1) := by decide +kernel
theorem dL_act_277 : decode cL_act 277 = .ok (.invokevirtual 61, 3) := by decide +kernel
theorem dL_act_280 : decode cL_act 280 = .ok (.ifCond .eq 7, 3) := by decide +kernel
theorem dL_act_283 : decode cL_act 283 = .ok (.iconst 1, 1) := by decide +kernel
theorem dL_act_284 : decode cL_act 284 = .ok (.goto 4, 3) := by decide +kernel
theorem dL_act_287 : decode cL_act 287 = .ok (.iconst 0, 1) := by decide +kernel
theorem dL_act_288 : decode cL_act 288 = .ok (.ireturn, 1) := by decide +kernel
theorem dL_act_289 : decode cL_act 289 = .ok (.astore 7, 2) := by decide +kernel
theorem dL_act_291 : decode cL_act 291 = .ok (.bipush (-71), 2) := by decide +kernel
theorem dL_act_293 : decode cL_act 293 = .ok (.ireturn, 1) := by decide +kernel
theorem dL_act_294 : decode cL_act 294 = .ok (.astore 7, 2) := by decide +kernel
theorem dL_act_296 : decode cL_act 296 = .ok (.bipush (-72), 2) := by decide +kernel
theorem dL_act_298 : decode cL_act 298 = .ok (.ireturn, 1) := by decide +kernel
theorem dL_act_299 : decode cL_act 299 = .ok (.astore 7, 2) := by decide +kernel
theorem dL_act_301 : decode cL_act 301 = .ok (.bipush (-73), 2) := by decide +kernel
theorem dL_act_303 : decode cL_act 303 = .ok (.ireturn, 1) := by decide +kernel
set_option maxRecDepth 20000 in
theorem ggL_find_X5_find : GoodIn wsL_find wsX5_find := goodIn_ca (goodIn_ca (goodIn_r _ [7, 8, 9, 10, 11, 12, 13, 14, 15, 6, 16, 17, 18, 19, 20, 21, 22, 23, 24, 25, 26, 27, 28, 29, 30, 31, 32, 33, 34, 35, 36, 37, 38, 39, 40, 41, 42, 43, 44, 45, 46, 47, 48, 49, 50, 51, 52, 53, 54, 55, 56, 57, 58, 59, 60, 61, 62, 63, 64, 65, 66, 67, 68, 69, 70, 71, 72] (by decide +kernel) (by decide +kernel)) (goodIn_sub (fun _ h => List.mem_cons_of_mem _ (List.mem_append_left _ (List.mem_append_right _ h))) (by decide +kernel))) (goodIn_sub (fun _ h => List.mem_cons_of_mem _ (List.mem_append_right _ h)) (by decide +kernel))
set_option maxRecDepth 20000 in
theorem gL_find_X5_find : GoodIn wsL_find (wsV RL 71 RX5 yX5_find wsX5_find) := goodIn_app (goodIn_of _ (by decide +kernel)) ggL_find_X5_find
theorem dL_find_0 : decode cL_find 0 = .ok (.aload_n 0, 1) := by decide +kernel
theorem dL_find_1 : decode cL_find 1 = .ok (.iload_n 1, 1) := by decide +kernel
theorem dL_find_2 : decode cL_find 2 = .ok (.iload_n 2, 1) := by decide +kernel
theorem dL_find_3 : decode cL_find 3 = .ok (.iload_n 3, 1) := by decide +kernel
theorem dL_find_4 : decode cL_find 4 = .ok (.iload 4, 2) := by decide +kernel
theorem dL_find_6 : decode cL_find 6 = .ok (.iload 5, 2) := by decide +kernel
theorem dL_find_8 : decode cL_find 8 = .ok (.iload 6, 2) := by decide +kernel
theorem dL_find_10 : decode cL_find 10 = .ok (.invokevirtual 71, 3) := by decide +kernel
theorem dL_find_13 : decode cL_find 13 = .ok (.ireturn, 1) := by decide +kernel
theorem dL_find_14 : decode cL_find 14 = .ok (.astore 7, 2) := by decide +kernel
theorem dL_find_16 : decode cL_find 16 = .ok (.bipush (-71), 2) := by decide +kernel
theorem dL_find_18 : decode cL_find 18 = .ok (.ireturn, 1) := by decide +kernel
theorem dL_find_19 : decode cL_find 19 = .ok (.astore 7, 2) := by decide +kernel
theorem dL_find_21 : decode cL_find 21 = .ok (.bipush (-72), 2) := by decide +kernel
theorem dL_find_23 : decode cL_find 23 = .ok (.ireturn, 1) := by decide +kernel
set_option maxRecDepth 20000 in
theorem ggL_refuses_X5_hidden : GoodIn wsL_refuses wsX5_hidden := goodIn_ca (goodIn_r _ [8, 9, 10, 11, 12, 13, 7, 14, 15, 16, 17, 18, 19, 20, 21, 22, 23, 24, 25, 26, 27, 28, 29, 30, 31, 32, 33, 34, 35, 36, 37, 38, 39, 40, 41, 42, 43, 44, 45, 46, 47, 48, 49, 50, 51, 52, 53, 54, 55, 56, 57, 58, 59, 60, 61, 62, 63, 64, 65, 66, 67, 68, 69, 70, 71, 72, 73, 74, 75, 76, 77, 78, 79, 80, 81, 82, 83, 84, 85, 86, 87, 88, 89, 90, 91, 295, 296, 297, 298, 299, 300, 301, 302, 303, 304, 305, 306, 307, 308, 309, 310, 311, 312, 313, 314, 315, 316, 317, 318] (by decide +kernel) (by decide +kernel)) (goodIn_sub (fun _ h => List.mem_cons_of_mem _ (List.mem_append_left _ (List.mem_append_left _ (List.mem_append_right _ h)))) (by decide +kernel))
set_option maxRecDepth 20000 in
theorem gL_refuses_X5_hidden : GoodIn wsL_refuses (wsV RL 58 RX5 yX5_hidden wsX5_hidden) := goodIn_app (goodIn_of _ (by decide +kernel)) ggL_refuses_X5_hidden
set_option maxRecDepth 20000 in
theorem ggL_refuses_L_find : GoodIn wsL_refuses wsL_find := goodIn_ca (goodIn_ca (goodIn_r _ [95, 96, 97, 98, 99, 100, 7, 101, 9, 10, 102, 103, 21, 22, 104, 105, 106, 107, 108, 109, 48, 110, 50, 12, 13, 14, 111, 112, 113, 114, 19, 115, 116, 117, 118, 39, 40, 119, 120, 121, 122, 123, 124, 125, 126, 127, 128, 129, 130, 51, 131, 295, 296, 297, 298, 299, 300, 301, 302, 303, 304, 305, 306, 307, 308, 311, 312, 313, 314, 315, 316, 317, 318] (by decide +kernel) (by decide +kernel)) (goodIn_sub (fun _ h => List.mem_cons_of_mem _ (List.mem_append_left _ (List.mem_append_left _ (List.mem_append_right _ h)))) (by decide +kernel))) (goodIn_sub (fun _ h => List.mem_cons_of_mem _ (List.mem_append_left _ (List.mem_append_right _ h))) (by decide +kernel))
set_option maxRecDepth 20000 in
theorem gL_refuses_L_find : GoodIn wsL_refuses (va_wsS RL 76 yL_find wsL_find) := goodIn_app (goodIn_of _ (by decide +kernel)) ggL_refuses_L_find
set_option maxRecDepth 20000 in
theorem ggL_refuses_L_act : GoodIn wsL_refuses wsL_act := goodIn_ca (goodIn_ca (goodIn_ca (goodIn_r _ [134, 96, 97, 135, 136, 137, 138, 7, 139, 21, 104, 105, 106, 9, 10, 107, 108, 109, 48, 110, 50, 140, 141, 142, 143, 144, 145, 146, 147, 148, 51, 149, 150, 151, 152, 153, 154, 155, 156, 22, 157, 158, 159, 160, 161, 162, 163, 164, 165, 166, 167, 168, 169, 170, 171, 172, 173, 174, 175, 176, 177, 178, 102, 103, 179, 180, 181, 182, 183, 184, 185, 12, 13, 14, 115, 116, 117, 118, 39, 40, 186, 187, 188, 189, 190, 191, 192, 193, 194, 195, 196, 197, 198, 199, 200, 201, 202, 203, 204, 205, 206, 207, 208, 209, 19, 20, 210, 211, 212, 213, 214, 215, 216, 217, 218, 219, 220, 128, 129, 130, 131, 221, 222, 223, 224, 225, 226, 227, 228, 122, 229, 230, 231, 232, 233, 234, 235, 124, 126, 236, 237, 238, 239, 240, 241, 242, 243, 244, 245, 246, 247, 23, 11, 15, 16, 17, 18, 24, 25, 26, 27, 28, 29, 30, 31, 32, 33, 34, 35, 36, 37, 38, 41, 42, 43, 44, 45, 46, 47, 49, 52, 53, 54, 55, 56, 57, 58, 59, 60, 61, 62, 63, 64, 65, 66, 67, 68, 69, 70, 71, 72, 73, 74, 75, 76, 77, 78, 79, 80, 81, 82, 83, 84, 85, 86, 87, 88, 89, 90, 91, 248, 249, 250, 251, 252, 253, 254, 255, 256, 257, 258, 259, 260, 261, 262, 263, 125, 264, 265, 266, 267, 268, 269, 270, 271, 272, 273, 274, 275, 276, 277, 278, 279, 280, 281, 282, 283, 284, 285, 286, 287, 288, 289, 290, 4, 5, 6, 8, 291, 292, 293, 294, 295, 296, 297, 298, 299, 300, 301, 302, 303, 304, 305, 306, 307, 308, 319, 320, 321, 322, 323, 324, 311, 312, 313, 314, 315, 316, 317, 318, 309, 310] rfl (by decide +kernel)) (goodIn_sub (fun _ h => List.mem_cons_of_mem _ (List.mem_append_left _ (List.mem_append_left _ (List.mem_append_right _ h)))) (by decide +kernel))) (goodIn_sub (fun _ h => List.mem_cons_of_mem _ (List.mem_append_right _ h)) (by decide +kernel))) (goodIn_sub (fun _ h => List.mem_cons_of_mem _ (List.mem_append_left _ (List.mem_append_right _ h))) (by decide +kernel))
set_option maxRecDepth 20000 in
theorem gL_refuses_L_act : GoodIn wsL_refuses (va_wsS RL 81 yL_act wsL_act) := goodIn_app (goodIn_of _ (by decide +kernel)) ggL_refuses_L_act
theorem dL_refuses_0 : decode cL_refuses 0 = .ok (.ldc 75, 2) := by decide +kernel
