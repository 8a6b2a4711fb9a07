set_option maxHeartbeats 4000000 in
set_option maxRecDepth 100000 in
theorem sg_signs_0 {p : Program} {l : Launch} (hl0 : l.stackTraces = false) {e : Env} {s : State} {m : MethodId} {below : List Frame} {meth : Method} {c : Code} {G : bG} {args : Array Value} {Q : State → Prop} (X : CallFix p m c cL_signs 2 s args wsL_signs RL) (E : bE G vwCl bNW bSW s) {a : Nat → Nat} (Z9 : bZ [] s) (hm9 : ∀ q ∈ hs_M a, Aw [] s.heap.size q) {i : hs_I} {H : Heap} {locs : List Loc} {ls : Array Slot} (hI : hs_Inv hs_e0 i) (w : bSt G vwCl [] s (hs_W G a hs_e0 i) H locs) (hl : lv_has ls 2 [(0, .ref (a 0))])
    (kk : ∀ (i : hs_I) (H : Heap) (locs : List Loc) (ls : Array Slot), hs_Inv eg_13 i → bSt G vwCl [] s (hs_W G a eg_13 i) H locs → lv_has ls 2 [(0, .ref (a 0)), (1, .int (nI 5))] → W p l e ({ frames := 10, cells := 417, slots := 12125, locals := 237 }) s m args below meth c H locs 57 9965 Q (F0 m 205 ls [])) : W p l e ({ frames := 10, cells := 417, slots := 12125, locals := 237 }) s m args below meth c H locs 25 9773 Q (F0 m 8 ls []) := by
  have hx := X.1
  have hb := X.2.1
  have hml := X.2.2.1
  have hown := X.2.2.2.1
  have hts := X.2.2.2.2
  refine lv_iconst (v := nI 0) hx hb dL_signs_8 (by decide) ?_
  refine lv_istore_n (lv' := [(1, .int (nI 0)), (0, .ref (a 0))]) hx hb dL_signs_9 rfl hl (by decide) rfl (fun ls hl => ?_)
  refine lv_iload_n hx hb dL_signs_10 rfl (lv_at hl 0 rfl) ?_
  refine lv_iconst (v := nI 5) hx hb dL_signs_11 (by decide) ?_
  refine lv_icmp_ge (tgt := 49) hx hb dL_signs_12 (by decide) (fun c9 => absurd c9 (by decide)) (fun c9 => ?_)
  refine lv_aload_n hx hb dL_signs_15 rfl (lv_at hl 1 rfl) ?_
  refine lv_iload_n hx hb dL_signs_16 rfl (lv_at hl 0 rfl) ?_
  refine lv_if_ne (tgt := 24) hx hb dL_signs_17 (by decide) (fun c9 => absurd rfl c9) (fun c9 => ?_)
  refine lv_iconst (v := -1) hx hb dL_signs_20 (by decide) ?_
  refine lv_goto (tgt := 34) hx hb dL_signs_21 (by decide) ?_
  refine hs_calli w (va_runV (As := [.int (-1)]) (rest := []) X (n_area l hl0 G _ a _ _ _ _ hI _ egq_1) (cwV 1 hts gL_signs_X5_area rfl rfl rfl (by decide +kernel) ⟨Nat.le_of_ble_eq_true rfl, Nat.le_of_ble_eq_true rfl⟩) ⟨b_blind, hs_recv E w, fun U9 hU9 hW9 => ⟨rfl, hs_pre E Z9 w hm9 U9 hU9 hW9⟩⟩ rfl rfl hl.1 rfl (lv_room (Nat.le_of_ble_eq_true rfl)) dL_signs_34 ⟨Nat.le_of_ble_eq_true rfl, Nat.le_of_ble_eq_true rfl⟩) hm9 (fun r i H locs hr w => ?_)
  obtain ⟨hI, hr9⟩ := hr
  refine b_tp hr9 ?_
  refine lv_iload_n hx hb dL_signs_37 rfl (lv_at hl 0 rfl) ?_
  refine lv_icmp_eq (tgt := 43) hx hb dL_signs_38 (by decide) (fun c9 => ?_) (fun c9 => absurd rfl c9)
  refine lv_iinc (v := nI 1) (lv' := [(1, .int (nI 1)), (0, .ref (a 0))]) hx hb dL_signs_43 hl (k := 0) rfl (by decide) (by decide) rfl (fun ls hl => ?_)
  refine lv_goto (tgt := 10) hx hb dL_signs_46 (by decide) ?_
  refine lv_iload_n hx hb dL_signs_10 rfl (lv_at hl 0 rfl) ?_
  refine lv_iconst (v := nI 5) hx hb dL_signs_11 (by decide) ?_
  refine lv_icmp_ge (tgt := 49) hx hb dL_signs_12 (by decide) (fun c9 => absurd c9 (by decide)) (fun c9 => ?_)
  refine lv_aload_n hx hb dL_signs_15 rfl (lv_at hl 1 rfl) ?_
  refine lv_iload_n hx hb dL_signs_16 rfl (lv_at hl 0 rfl) ?_
  refine lv_if_ne (tgt := 24) hx hb dL_signs_17 (by decide) (fun c9 => ?_) (fun c9 => absurd c9 (by decide))
  refine lv_iload_n hx hb dL_signs_24 rfl (lv_at hl 0 rfl) ?_
  refine lv_iconst (v := nI 4) hx hb dL_signs_25 (by decide) ?_
  refine lv_icmp_ne (tgt := 33) hx hb dL_signs_26 (by decide) (fun c9 => ?_) (fun c9 => absurd c9 (by decide))
  refine lv_iconst (v := nI 0) hx hb dL_signs_33 (by decide) ?_
  refine hs_calli w (va_runV (As := [.int (nI 0)]) (rest := []) X (n_area l hl0 G _ a _ _ _ _ hI _ egq_2) (cwV 1 hts gL_signs_X5_area rfl rfl rfl (by decide +kernel) ⟨Nat.le_of_ble_eq_true rfl, Nat.le_of_ble_eq_true rfl⟩) ⟨b_blind, hs_recv E w, fun U9 hU9 hW9 => ⟨rfl, hs_pre E Z9 w hm9 U9 hU9 hW9⟩⟩ rfl rfl hl.1 rfl (lv_room (Nat.le_of_ble_eq_true rfl)) dL_signs_34 ⟨Nat.le_of_ble_eq_true rfl, Nat.le_of_ble_eq_true rfl⟩) hm9 (fun r i H locs hr w => ?_)
  obtain ⟨hI, hr9⟩ := hr
  refine b_tp hr9 ?_
  refine lv_iload_n hx hb dL_signs_37 rfl (lv_at hl 0 rfl) ?_
  refine lv_icmp_eq (tgt := 43) hx hb dL_signs_38 (by decide) (fun c9 => ?_) (fun c9 => absurd rfl c9)
  refine lv_iinc (v := nI 2) (lv' := [(1, .int (nI 2)), (0, .ref (a 0))]) hx hb dL_signs_43 hl (k := 0) rfl (by decide) (by decide) rfl (fun ls hl => ?_)
  refine lv_goto (tgt := 10) hx hb dL_signs_46 (by decide) ?_
  refine lv_iload_n hx hb dL_signs_10 rfl (lv_at hl 0 rfl) ?_
  refine lv_iconst (v := nI 5) hx hb dL_signs_11 (by decide) ?_
  refine lv_icmp_ge (tgt := 49) hx hb dL_signs_12 (by decide) (fun c9 => absurd c9 (by decide)) (fun c9 => ?_)
  refine lv_aload_n hx hb dL_signs_15 rfl (lv_at hl 1 rfl) ?_
  refine lv_iload_n hx hb dL_signs_16 rfl (lv_at hl 0 rfl) ?_
  refine lv_if_ne (tgt := 24) hx hb dL_signs_17 (by decide) (fun c9 => ?_) (fun c9 => absurd c9 (by decide))
  refine lv_iload_n hx hb dL_signs_24 rfl (lv_at hl 0 rfl) ?_
  refine lv_iconst (v := nI 4) hx hb dL_signs_25 (by decide) ?_
  refine lv_icmp_ne (tgt := 33) hx hb dL_signs_26 (by decide) (fun c9 => ?_) (fun c9 => absurd c9 (by decide))
  refine lv_iconst (v := nI 0) hx hb dL_signs_33 (by decide) ?_
  refine hs_calli w (va_runV (As := [.int (nI 0)]) (rest := []) X (n_area l hl0 G _ a _ _ _ _ hI _ egq_3) (cwV 1 hts gL_signs_X5_area rfl rfl rfl (by decide +kernel) ⟨Nat.le_of_ble_eq_true rfl, Nat.le_of_ble_eq_true rfl⟩) ⟨b_blind, hs_recv E w, fun U9 hU9 hW9 => ⟨rfl, hs_pre E Z9 w hm9 U9 hU9 hW9⟩⟩ rfl rfl hl.1 rfl (lv_room (Nat.le_of_ble_eq_true rfl)) dL_signs_34 ⟨Nat.le_of_ble_eq_true rfl, Nat.le_of_ble_eq_true rfl⟩) hm9 (fun r i H locs hr w => ?_)
  obtain ⟨hI, hr9⟩ := hr
  refine b_tp hr9 ?_
  refine lv_iload_n hx hb dL_signs_37 rfl (lv_at hl 0 rfl) ?_
  refine lv_icmp_eq (tgt := 43) hx hb dL_signs_38 (by decide) (fun c9 => ?_) (fun c9 => absurd rfl c9)
  refine lv_iinc (v := nI 3) (lv' := [(1, .int (nI 3)), (0, .ref (a 0))]) hx hb dL_signs_43 hl (k := 0) rfl (by decide) (by decide) rfl (fun ls hl => ?_)
  refine lv_goto (tgt := 10) hx hb dL_signs_46 (by decide) ?_
  refine lv_iload_n hx hb dL_signs_10 rfl (lv_at hl 0 rfl) ?_
  refine lv_iconst (v := nI 5) hx hb dL_signs_11 (by decide) ?_
  refine lv_icmp_ge (tgt := 49) hx hb dL_signs_12 (by decide) (fun c9 => absurd c9 (by decide)) (fun c9 => ?_)
  refine lv_aload_n hx hb dL_signs_15 rfl (lv_at hl 1 rfl) ?_
  refine lv_iload_n hx hb dL_signs_16 rfl (lv_at hl 0 rfl) ?_
  refine lv_if_ne (tgt := 24) hx hb dL_signs_17 (by decide) (fun c9 => ?_) (fun c9 => absurd c9 (by decide))
  refine lv_iload_n hx hb dL_signs_24 rfl (lv_at hl 0 rfl) ?_
  refine lv_iconst (v := nI 4) hx hb dL_signs_25 (by decide) ?_
  refine lv_icmp_ne (tgt := 33) hx hb dL_signs_26 (by decide) (fun c9 => ?_) (fun c9 => absurd c9 (by decide))
  refine lv_iconst (v := nI 0) hx hb dL_signs_33 (by decide) ?_
  refine hs_calli w (va_runV (As := [.int (nI 0)]) (rest := []) X (n_area l hl0 G _ a _ _ _ _ hI _ egq_4) (cwV 1 hts gL_signs_X5_area rfl rfl rfl (by decide +kernel) ⟨Nat.le_of_ble_eq_true rfl, Nat.le_of_ble_eq_true rfl⟩) ⟨b_blind, hs_recv E w, fun U9 hU9 hW9 => ⟨rfl, hs_pre E Z9 w hm9 U9 hU9 hW9⟩⟩ rfl rfl hl.1 rfl (lv_room (Nat.le_of_ble_eq_true rfl)) dL_signs_34 ⟨Nat.le_of_ble_eq_true rfl, Nat.le_of_ble_eq_true rfl⟩) hm9 (fun r i H locs hr w => ?_)
  obtain ⟨hI, hr9⟩ := hr
  refine b_tp hr9 ?_
  refine lv_iload_n hx hb dL_signs_37 rfl (lv_at hl 0 rfl) ?_
  refine lv_icmp_eq (tgt := 43) hx hb dL_signs_38 (by decide) (fun c9 => ?_) (fun c9 => absurd rfl c9)
  refine lv_iinc (v := nI 4) (lv' := [(1, .int (nI 4)), (0, .ref (a 0))]) hx hb dL_signs_43 hl (k := 0) rfl (by decide) (by decide) rfl (fun ls hl => ?_)
  refine lv_goto (tgt := 10) hx hb dL_signs_46 (by decide) ?_
  refine lv_iload_n hx hb dL_signs_10 rfl (lv_at hl 0 rfl) ?_
  refine lv_iconst (v := nI 5) hx hb dL_signs_11 (by decide) ?_
  refine lv_icmp_ge (tgt := 49) hx hb dL_signs_12 (by decide) (fun c9 => absurd c9 (by decide)) (fun c9 => ?_)
  refine lv_aload_n hx hb dL_signs_15 rfl (lv_at hl 1 rfl) ?_
  refine lv_iload_n hx hb dL_signs_16 rfl (lv_at hl 0 rfl) ?_
  refine lv_if_ne (tgt := 24) hx hb dL_signs_17 (by decide) (fun c9 => ?_) (fun c9 => absurd c9 (by decide))
  refine lv_iload_n hx hb dL_signs_24 rfl (lv_at hl 0 rfl) ?_
  refine lv_iconst (v := nI 4) hx hb dL_signs_25 (by decide) ?_
  refine lv_icmp_ne (tgt := 33) hx hb dL_signs_26 (by decide) (fun c9 => absurd rfl c9) (fun c9 => ?_)
  refine lv_iconst (v := nI 3) hx hb dL_signs_29 (by decide) ?_
  refine lv_goto (tgt := 34) hx hb dL_signs_30 (by decide) ?_
  refine hs_calli w (va_runV (As := [.int (nI 3)]) (rest := []) X (n_area l hl0 G _ a _ _ _ _ hI _ egq_5) (cwV 1 hts gL_signs_X5_area rfl rfl rfl (by decide +kernel) ⟨Nat.le_of_ble_eq_true rfl, Nat.le_of_ble_eq_true rfl⟩) ⟨b_blind, hs_recv E w, fun U9 hU9 hW9 => ⟨rfl, hs_pre E Z9 w hm9 U9 hU9 hW9⟩⟩ rfl rfl hl.1 rfl (lv_room (Nat.le_of_ble_eq_true rfl)) dL_signs_34 ⟨Nat.le_of_ble_eq_true rfl, Nat.le_of_ble_eq_true rfl⟩) hm9 (fun r i H locs hr w => ?_)
  obtain ⟨hI, hr9⟩ := hr
  refine b_tp hr9 ?_
  refine lv_iload_n hx hb dL_signs_37 rfl (lv_at hl 0 rfl) ?_
  refine lv_icmp_eq (tgt := 43) hx hb dL_signs_38 (by decide) (fun c9 => ?_) (fun c9 => absurd rfl c9)
  refine lv_iinc (v := nI 5) (lv' := [(1, .int (nI 5)), (0, .ref (a 0))]) hx hb dL_signs_43 hl (k := 0) rfl (by decide) (by decide) rfl (fun ls hl => ?_)
  refine lv_goto (tgt := 10) hx hb dL_signs_46 (by decide) ?_
  refine lv_iload_n hx hb dL_signs_10 rfl (lv_at hl 0 rfl) ?_
  refine lv_iconst (v := nI 5) hx hb dL_signs_11 (by decide) ?_
  refine lv_icmp_ge (tgt := 49) hx hb dL_signs_12 (by decide) (fun c9 => ?_) (fun c9 => absurd (by decide) c9)
  refine lv_aload_n hx hb dL_signs_49 rfl (lv_at hl 1 rfl) ?_
  refine lv_iconst (v := -1) hx hb dL_signs_50 (by decide) ?_
  refine hs_calli w (va_runV (As := [.int (-1)]) (rest := []) X (n_item l hl0 G _ a _ _ _ _ hI _ egq_6) (cwV 1 hts gL_signs_X5_item rfl rfl rfl (by decide +kernel) ⟨Nat.le_of_ble_eq_true rfl, Nat.le_of_ble_eq_true rfl⟩) ⟨b_blind, hs_recv E w, fun U9 hU9 hW9 => ⟨rfl, hs_pre E Z9 w hm9 U9 hU9 hW9⟩⟩ rfl rfl hl.1 rfl (lv_room (Nat.le_of_ble_eq_true rfl)) dL_signs_51 ⟨Nat.le_of_ble_eq_true rfl, Nat.le_of_ble_eq_true rfl⟩) hm9 (fun r i H locs hr w => ?_)
  obtain ⟨hI, hr9⟩ := hr
  refine b_tp hr9 ?_
  refine lv_if_ne (tgt := 360) hx hb dL_signs_54 (by decide) (fun c9 => absurd rfl c9) (fun c9 => ?_)
  refine lv_aload_n hx hb dL_signs_57 rfl (lv_at hl 1 rfl) ?_
  refine lv_iconst (v := nI 3) hx hb dL_signs_58 (by decide) ?_
  refine lv_iconst (v := nI 0) hx hb dL_signs_59 (by decide) ?_
  refine lv_iconst (v := nI 1) hx hb dL_signs_60 (by decide) ?_
  refine b_tp (show nI 1 = bI true from rfl) ?_
  refine hs_calli w (va_runV (As := [.int (nI 3), .int (nI 0), .int (bI true)]) (rest := []) X (n_agree l hl0 G _ a _ _ _ _ hI _ _ _ egq_7) (cwV 3 hts gL_signs_X5_agree rfl rfl rfl (by decide +kernel) ⟨Nat.le_of_ble_eq_true rfl, Nat.le_of_ble_eq_true rfl⟩) ⟨b_blind, hs_recv E w, fun U9 hU9 hW9 => ⟨rfl, hs_pre E Z9 w hm9 U9 hU9 hW9⟩⟩ rfl rfl hl.1 rfl (lv_room (Nat.le_of_ble_eq_true rfl)) dL_signs_61 ⟨Nat.le_of_ble_eq_true rfl, Nat.le_of_ble_eq_true rfl⟩) hm9 (fun r i H locs hr w => ?_)
  obtain ⟨hI, hr9⟩ := hr
  refine b_tp hr9 ?_
  refine lv_if_eq (tgt := 360) hx hb dL_signs_64 (by decide) (fun c9 => absurd c9 (by decide)) (fun c9 => ?_)
  refine lv_aload_n hx hb dL_signs_67 rfl (lv_at hl 1 rfl) ?_
  refine lv_iconst (v := nI 0) hx hb dL_signs_68 (by decide) ?_
  refine lv_iconst (v := nI 1) hx hb dL_signs_69 (by decide) ?_
  refine lv_iconst (v := nI 0) hx hb dL_signs_70 (by decide) ?_
  refine lv_iconst (v := nI 0) hx hb dL_signs_71 (by decide) ?_
  refine lv_iconst (v := nI 5) hx hb dL_signs_72 (by decide) ?_
  refine hs_calli w (va_runV (As := [.int (nI 0), .int (nI 1), .int (nI 0), .int (nI 0), .int (nI 5)]) (rest := []) X (n_put l hl0 G _ a _ _ _ _ hI _ _ _ _ _ egq_8) (cwV 5 hts gL_signs_X5_put rfl rfl rfl (by decide +kernel) ⟨Nat.le_of_ble_eq_true rfl, Nat.le_of_ble_eq_true rfl⟩) ⟨b_blind, hs_recv E w, fun U9 hU9 hW9 => ⟨rfl, hs_pre E Z9 w hm9 U9 hU9 hW9⟩⟩ rfl rfl hl.1 rfl (lv_room (Nat.le_of_ble_eq_true rfl)) dL_signs_73 ⟨Nat.le_of_ble_eq_true rfl, Nat.le_of_ble_eq_true rfl⟩) hm9 (fun r i H locs hr w => ?_)
  obtain ⟨hI, hr9⟩ := hr
  refine b_tp hr9 ?_
  refine lv_iconst (v := nI 1) hx hb dL_signs_76 (by decide) ?_
  refine lv_icmp_ne (tgt := 360) hx hb dL_signs_77 (by decide) (fun c9 => absurd rfl c9) (fun c9 => ?_)
  refine lv_aload_n hx hb dL_signs_80 rfl (lv_at hl 1 rfl) ?_
  refine lv_iconst (v := nI 0) hx hb dL_signs_81 (by decide) ?_
  refine lv_iconst (v := nI 2) hx hb dL_signs_82 (by decide) ?_
  refine lv_iconst (v := nI 0) hx hb dL_signs_83 (by decide) ?_
  refine lv_iconst (v := nI 0) hx hb dL_signs_84 (by decide) ?_
  refine lv_bipush (v := -5) hx hb dL_signs_85 (by decide) ?_
  refine hs_calli w (va_runV (As := [.int (nI 0), .int (nI 2), .int (nI 0), .int (nI 0), .int (-5)]) (rest := []) X (n_put l hl0 G _ a _ _ _ _ hI _ _ _ _ _ egq_9) (cwV 5 hts gL_signs_X5_put rfl rfl rfl (by decide +kernel) ⟨Nat.le_of_ble_eq_true rfl, Nat.le_of_ble_eq_true rfl⟩) ⟨b_blind, hs_recv E w, fun U9 hU9 hW9 => ⟨rfl, hs_pre E Z9 w hm9 U9 hU9 hW9⟩⟩ rfl rfl hl.1 rfl (lv_room (Nat.le_of_ble_eq_true rfl)) dL_signs_87 ⟨Nat.le_of_ble_eq_true rfl, Nat.le_of_ble_eq_true rfl⟩) hm9 (fun r i H locs hr w => ?_)
  obtain ⟨hI, hr9⟩ := hr
  refine b_tp hr9 ?_
  refine lv_iconst (v := nI 2) hx hb dL_signs_90 (by decide) ?_
  refine lv_icmp_ne (tgt := 360) hx hb dL_signs_91 (by decide) (fun c9 => absurd rfl c9) (fun c9 => ?_)
  refine lv_aload_n hx hb dL_signs_94 rfl (lv_at hl 1 rfl) ?_
  refine lv_iconst (v := nI 0) hx hb dL_signs_95 (by decide) ?_
  refine lv_iconst (v := nI 4) hx hb dL_signs_96 (by decide) ?_
  refine lv_iconst (v := nI 0) hx hb dL_signs_97 (by decide) ?_
  refine lv_iconst (v := nI 0) hx hb dL_signs_98 (by decide) ?_
  refine lv_bipush (v := nI 9) hx hb dL_signs_99 (by decide) ?_
  refine hs_calli w (va_runV (As := [.int (nI 0), .int (nI 4), .int (nI 0), .int (nI 0), .int (nI 9)]) (rest := []) X (n_put l hl0 G _ a _ _ _ _ hI _ _ _ _ _ egq_10) (cwV 5 hts gL_signs_X5_put rfl rfl rfl (by decide +kernel) ⟨Nat.le_of_ble_eq_true rfl, Nat.le_of_ble_eq_true rfl⟩) ⟨b_blind, hs_recv E w, fun U9 hU9 hW9 => ⟨rfl, hs_pre E Z9 w hm9 U9 hU9 hW9⟩⟩ rfl rfl hl.1 rfl (lv_room (Nat.le_of_ble_eq_true rfl)) dL_signs_101 ⟨Nat.le_of_ble_eq_true rfl, Nat.le_of_ble_eq_true rfl⟩) hm9 (fun r i H locs hr w => ?_)
  obtain ⟨hI, hr9⟩ := hr
  refine b_tp hr9 ?_
  refine lv_iconst (v := nI 3) hx hb dL_signs_104 (by decide) ?_
  refine lv_icmp_ne (tgt := 360) hx hb dL_signs_105 (by decide) (fun c9 => absurd rfl c9) (fun c9 => ?_)
  refine lv_aload_n hx hb dL_signs_108 rfl (lv_at hl 1 rfl) ?_
  refine lv_iconst (v := nI 0) hx hb dL_signs_109 (by decide) ?_
  refine lv_iconst (v := nI 4) hx hb dL_signs_110 (by decide) ?_
  refine lv_iconst (v := nI 0) hx hb dL_signs_111 (by decide) ?_
  refine lv_bipush (v := nI 11) hx hb dL_signs_112 (by decide) ?_
  refine lv_iconst (v := nI 0) hx hb dL_signs_114 (by decide) ?_
  refine hs_calli w (va_runV (As := [.int (nI 0), .int (nI 4), .int (nI 0), .int (nI 11), .int (nI 0)]) (rest := []) X (n_put l hl0 G _ a _ _ _ _ hI _ _ _ _ _ egq_11) (cwV 5 hts gL_signs_X5_put rfl rfl rfl (by decide +kernel) ⟨Nat.le_of_ble_eq_true rfl, Nat.le_of_ble_eq_true rfl⟩) ⟨b_blind, hs_recv E w, fun U9 hU9 hW9 => ⟨rfl, hs_pre E Z9 w hm9 U9 hU9 hW9⟩⟩ rfl rfl hl.1 rfl (lv_room (Nat.le_of_ble_eq_true rfl)) dL_signs_115 ⟨Nat.le_of_ble_eq_true rfl, Nat.le_of_ble_eq_true rfl⟩) hm9 (fun r i H locs hr w => ?_)
  obtain ⟨hI, hr9⟩ := hr
  refine b_tp hr9 ?_
  refine lv_iconst (v := nI 4) hx hb dL_signs_118 (by decide) ?_
  refine lv_icmp_ne (tgt := 360) hx hb dL_signs_119 (by decide) (fun c9 => absurd rfl c9) (fun c9 => ?_)
  refine lv_aload_n hx hb dL_signs_122 rfl (lv_at hl 1 rfl) ?_
  refine lv_iconst (v := nI 3) hx hb dL_signs_123 (by decide) ?_
  refine hs_calli w (va_runV (As := [.int (nI 3)]) (rest := []) X (n_send l hl0 G _ a _ _ _ _ hI _ egq_12) (cwV 1 hts gL_signs_X5_send rfl rfl rfl (by decide +kernel) ⟨Nat.le_of_ble_eq_true rfl, Nat.le_of_ble_eq_true rfl⟩) ⟨b_blind, hs_recv E w, fun U9 hU9 hW9 => ⟨rfl, hs_pre E Z9 w hm9 U9 hU9 hW9⟩⟩ rfl rfl hl.1 rfl (lv_room (Nat.le_of_ble_eq_true rfl)) dL_signs_124 ⟨Nat.le_of_ble_eq_true rfl, Nat.le_of_ble_eq_true rfl⟩) hm9 (fun r i H locs hr w => ?_)
  obtain ⟨hI, hr9⟩ := hr
  refine b_tp hr9 ?_
  refine lv_iconst (v := nI 4) hx hb dL_signs_127 (by decide) ?_
  refine lv_icmp_ne (tgt := 360) hx hb dL_signs_128 (by decide) (fun c9 => absurd rfl c9) (fun c9 => ?_)
  refine lv_aload_n hx hb dL_signs_131 rfl (lv_at hl 1 rfl) ?_
  refine lv_iconst (v := nI 3) hx hb dL_signs_132 (by decide) ?_
  refine lv_iconst (v := nI 0) hx hb dL_signs_133 (by decide) ?_
  refine lv_iconst (v := nI 0) hx hb dL_signs_134 (by decide) ?_
  refine lv_iconst (v := nI 0) hx hb dL_signs_135 (by decide) ?_
  refine hs_calli w (va_runV (As := [.int (nI 3), .int (nI 0), .int (nI 0), .int (nI 0)]) (rest := []) X (n_value l hl0 G _ a _ _ _ _ hI _ _ _ _ egq_13) (cwV 4 hts gL_signs_X5_value rfl rfl rfl (by decide +kernel) ⟨Nat.le_of_ble_eq_true rfl, Nat.le_of_ble_eq_true rfl⟩) ⟨b_blind, hs_recv E w, fun U9 hU9 hW9 => ⟨rfl, hs_pre E Z9 w hm9 U9 hU9 hW9⟩⟩ rfl rfl hl.1 rfl (lv_room (Nat.le_of_ble_eq_true rfl)) dL_signs_136 ⟨Nat.le_of_ble_eq_true rfl, Nat.le_of_ble_eq_true rfl⟩) hm9 (fun r i H locs hr w => ?_)
  obtain ⟨hI, hr9, -⟩ := hr
  refine b_tp hr9 ?_
  refine lv_bipush (v := nI 9) hx hb dL_signs_139 (by decide) ?_
  refine lv_icmp_ne (tgt := 360) hx hb dL_signs_141 (by decide) (fun c9 => absurd rfl c9) (fun c9 => ?_)
  refine lv_aload_n hx hb dL_signs_144 rfl (lv_at hl 1 rfl) ?_
  refine lv_iconst (v := nI 0) hx hb dL_signs_145 (by decide) ?_
  refine lv_iconst (v := nI 0) hx hb dL_signs_146 (by decide) ?_
  refine lv_iconst (v := nI 0) hx hb dL_signs_147 (by decide) ?_
  refine lv_iconst (v := nI 0) hx hb dL_signs_148 (by decide) ?_
  refine hs_calli w (va_runV (As := [.int (nI 0), .int (nI 0), .int (nI 0), .int (nI 0)]) (rest := []) X (n_value l hl0 G _ a _ _ _ _ hI _ _ _ _ egq_14) (cwV 4 hts gL_signs_X5_value rfl rfl rfl (by decide +kernel) ⟨Nat.le_of_ble_eq_true rfl, Nat.le_of_ble_eq_true rfl⟩) ⟨b_blind, hs_recv E w, fun U9 hU9 hW9 => ⟨rfl, hs_pre E Z9 w hm9 U9 hU9 hW9⟩⟩ rfl rfl hl.1 rfl (lv_room (Nat.le_of_ble_eq_true rfl)) dL_signs_149 ⟨Nat.le_of_ble_eq_true rfl, Nat.le_of_ble_eq_true rfl⟩) hm9 (fun r i H locs hr w => ?_)
  obtain ⟨hI, hr9, -⟩ := hr
  refine b_tp hr9 ?_
  refine lv_bipush (v := nI 9) hx hb dL_signs_152 (by decide) ?_
  refine lv_icmp_ne (tgt := 360) hx hb dL_signs_154 (by decide) (fun c9 => absurd rfl c9) (fun c9 => ?_)
  refine lv_aload_n hx hb dL_signs_157 rfl (lv_at hl 1 rfl) ?_
  refine lv_iconst (v := nI 4) hx hb dL_signs_158 (by decide) ?_
  refine lv_iconst (v := nI 0) hx hb dL_signs_159 (by decide) ?_
  refine lv_iconst (v := nI 0) hx hb dL_signs_160 (by decide) ?_
  refine lv_iconst (v := nI 1) hx hb dL_signs_161 (by decide) ?_
  refine b_tp (show nI 1 = bI true from rfl) ?_
  refine hs_calli w (va_runV (As := [.int (nI 4), .int (nI 0), .int (nI 0), .int (bI true)]) (rest := []) X (n_secret l hl0 G _ a _ _ _ _ hI _ _ _ _ egq_15) (cwV 4 hts gL_signs_X5_secret rfl rfl rfl (by decide +kernel) ⟨Nat.le_of_ble_eq_true rfl, Nat.le_of_ble_eq_true rfl⟩) ⟨b_blind, hs_recv E w, fun U9 hU9 hW9 => ⟨rfl, hs_pre E Z9 w hm9 U9 hU9 hW9⟩⟩ rfl rfl hl.1 rfl (lv_room (Nat.le_of_ble_eq_true rfl)) dL_signs_162 ⟨Nat.le_of_ble_eq_true rfl, Nat.le_of_ble_eq_true rfl⟩) hm9 (fun r i H locs hr w => ?_)
  obtain ⟨hI, hr9, -⟩ := hr
  refine b_tp hr9 ?_
  refine lv_iconst (v := nI 3) hx hb dL_signs_165 (by decide) ?_
  refine lv_icmp_ne (tgt := 360) hx hb dL_signs_166 (by decide) (fun c9 => absurd rfl c9) (fun c9 => ?_)
  refine lv_aload_n hx hb dL_signs_169 rfl (lv_at hl 1 rfl) ?_
  refine lv_iconst (v := nI 4) hx hb dL_signs_170 (by decide) ?_
  refine lv_iconst (v := nI 0) hx hb dL_signs_171 (by decide) ?_
  refine lv_iconst (v := nI 0) hx hb dL_signs_172 (by decide) ?_
  refine hs_calli w (va_runV (As := [.int (nI 4), .int (nI 0), .int (nI 0)]) (rest := []) X (n_shown l hl0 G _ a _ _ _ _ hI _ _ _ egq_16) (cwV 3 hts gL_signs_X5_shown rfl rfl rfl (by decide +kernel) ⟨Nat.le_of_ble_eq_true rfl, Nat.le_of_ble_eq_true rfl⟩) ⟨b_blind, hs_recv E w, fun U9 hU9 hW9 => ⟨rfl, hs_pre E Z9 w hm9 U9 hU9 hW9⟩⟩ rfl rfl hl.1 rfl (lv_room (Nat.le_of_ble_eq_true rfl)) dL_signs_173 ⟨Nat.le_of_ble_eq_true rfl, Nat.le_of_ble_eq_true rfl⟩) hm9 (fun r i H locs hr w => ?_)
  obtain ⟨hI, hr9, -⟩ := hr
  refine b_tp hr9 ?_
  refine lv_ldc (v := HID) hx hb hown (hts (.constant RL 108 (-2000000002)) (by decide +kernel)) dL_signs_176 ?_
  refine lv_icmp_ne (tgt := 360) hx hb dL_signs_178 (by decide) (fun c9 => absurd rfl c9) (fun c9 => ?_)
  refine lv_aload_n hx hb dL_signs_181 rfl (lv_at hl 1 rfl) ?_
  refine lv_iconst (v := nI 3) hx hb dL_signs_182 (by decide) ?_
  refine lv_iconst (v := nI 0) hx hb dL_signs_183 (by decide) ?_
  refine lv_iconst (v := nI 0) hx hb dL_signs_184 (by decide) ?_
  refine hs_calli w (va_runV (As := [.int (nI 3), .int (nI 0), .int (nI 0)]) (rest := []) X (n_shown l hl0 G _ a _ _ _ _ hI _ _ _ egq_17) (cwV 3 hts gL_signs_X5_shown rfl rfl rfl (by decide +kernel) ⟨Nat.le_of_ble_eq_true rfl, Nat.le_of_ble_eq_true rfl⟩) ⟨b_blind, hs_recv E w, fun U9 hU9 hW9 => ⟨rfl, hs_pre E Z9 w hm9 U9 hU9 hW9⟩⟩ rfl rfl hl.1 rfl (lv_room (Nat.le_of_ble_eq_true rfl)) dL_signs_185 ⟨Nat.le_of_ble_eq_true rfl, Nat.le_of_ble_eq_true rfl⟩) hm9 (fun r i H locs hr w => ?_)
  obtain ⟨hI, hr9, -⟩ := hr
  refine b_tp hr9 ?_
  refine lv_ldc (v := HID) hx hb hown (hts (.constant RL 108 (-2000000002)) (by decide +kernel)) dL_signs_188 ?_
  refine lv_icmp_ne (tgt := 360) hx hb dL_signs_190 (by decide) (fun c9 => absurd rfl c9) (fun c9 => ?_)
  refine lv_aload_n hx hb dL_signs_193 rfl (lv_at hl 1 rfl) ?_
  refine lv_iconst (v := nI 1) hx hb dL_signs_194 (by decide) ?_
  refine lv_iconst (v := nI 0) hx hb dL_signs_195 (by decide) ?_
  refine lv_iconst (v := nI 0) hx hb dL_signs_196 (by decide) ?_
  refine hs_calli w (va_runV (As := [.int (nI 1), .int (nI 0), .int (nI 0)]) (rest := []) X (n_shown l hl0 G _ a _ _ _ _ hI _ _ _ egq_18) (cwV 3 hts gL_signs_X5_shown rfl rfl rfl (by decide +kernel) ⟨Nat.le_of_ble_eq_true rfl, Nat.le_of_ble_eq_true rfl⟩) ⟨b_blind, hs_recv E w, fun U9 hU9 hW9 => ⟨rfl, hs_pre E Z9 w hm9 U9 hU9 hW9⟩⟩ rfl rfl hl.1 rfl (lv_room (Nat.le_of_ble_eq_true rfl)) dL_signs_197 ⟨Nat.le_of_ble_eq_true rfl, Nat.le_of_ble_eq_true rfl⟩) hm9 (fun r i H locs hr w => ?_)
  obtain ⟨hI, hr9, -⟩ := hr
  refine b_tp hr9 ?_
  refine lv_ldc (v := HID) hx hb hown (hts (.constant RL 108 (-2000000002)) (by decide +kernel)) dL_signs_200 ?_
  refine lv_icmp_ne (tgt := 360) hx hb dL_signs_202 (by decide) (fun c9 => absurd rfl c9) (fun c9 => ?_)
  exact kk i _ _ _ hI w (lv_sub hl [1, 0] rfl)
set_option maxHeartbeats 4000000 in
set_option maxRecDepth 100000 in
theorem sg_signs_1 {p : Program} {l : Launch} (hl0 : l.stackTraces = false) {e : Env} {s : State} {m : MethodId} {below : List Frame} {meth : Method} {c : Code} {G : bG} {args : Array Value} {Q : State → Prop} (X : CallFix p m c cL_signs 2 s args wsL_signs RL) (E : bE G vwCl bNW bSW s) {a : Nat → Nat} (Z9 : bZ [] s) (hm9 : ∀ q ∈ hs_M a, Aw [] s.heap.size q) {i : hs_I} {H : Heap} {locs : List Loc} {ls : Array Slot} (hI : hs_Inv eg_13 i) (w : bSt G vwCl [] s (hs_W G a eg_13 i) H locs) (hl : lv_has ls 2 [(0, .ref (a 0)), (1, .int (nI 5))])
    (kk : ∀ (i : hs_I) (H : Heap) (locs : List Loc) (ls : Array Slot), hs_Inv eg_19 i → bSt G vwCl [] s (hs_W G a eg_19 i) H locs → lv_has ls 2 [(0, .ref (a 0)), (1, .int (nI 5))] → W p l e ({ frames := 10, cells := 417, slots := 12125, locals := 237 }) s m args below meth c H locs 78 10091 Q (F0 m 419 ls [])) : W p l e ({ frames := 10, cells := 417, slots := 12125, locals := 237 }) s m args below meth c H locs 57 9965 Q (F0 m 205 ls []) := by
  have hx := X.1
  have hb := X.2.1
  have hml := X.2.2.1
  have hown := X.2.2.2.1
  have hts := X.2.2.2.2
  refine lv_aload_n hx hb dL_signs_205 rfl (lv_at hl 0 rfl) ?_
  refine lv_iconst (v := nI 2) hx hb dL_signs_206 (by decide) ?_
  refine lv_iconst (v := nI 0) hx hb dL_signs_207 (by decide) ?_
  refine lv_iconst (v := nI 0) hx hb dL_signs_208 (by decide) ?_
  refine hs_calli w (va_runV (As := [.int (nI 2), .int (nI 0), .int (nI 0)]) (rest := []) X (n_shown l hl0 G _ a _ _ _ _ hI _ _ _ egq_19) (cwV 3 hts gL_signs_X5_shown rfl rfl rfl (by decide +kernel) ⟨Nat.le_of_ble_eq_true rfl, Nat.le_of_ble_eq_true rfl⟩) ⟨b_blind, hs_recv E w, fun U9 hU9 hW9 => ⟨rfl, hs_pre E Z9 w hm9 U9 hU9 hW9⟩⟩ rfl rfl hl.1 rfl (lv_room (Nat.le_of_ble_eq_true rfl)) dL_signs_209 ⟨Nat.le_of_ble_eq_true rfl, Nat.le_of_ble_eq_true rfl⟩) hm9 (fun r i H locs hr w => ?_)
  obtain ⟨hI, hr9, -⟩ := hr
  refine b_tp hr9 ?_
  refine lv_bipush (v := -5) hx hb dL_signs_212 (by decide) ?_
  refine lv_icmp_ne (tgt := 360) hx hb dL_signs_214 (by decide) (fun c9 => absurd rfl c9) (fun c9 => ?_)
  refine lv_aload_n hx hb dL_signs_217 rfl (lv_at hl 0 rfl) ?_
  refine lv_iconst (v := nI 0) hx hb dL_signs_218 (by decide) ?_
  refine lv_iconst (v := nI 0) hx hb dL_signs_219 (by decide) ?_
  refine lv_iconst (v := nI 0) hx hb dL_signs_220 (by decide) ?_
  refine hs_calli w (va_runV (As := [.int (nI 0), .int (nI 0), .int (nI 0)]) (rest := []) X (n_shown l hl0 G _ a _ _ _ _ hI _ _ _ egq_20) (cwV 3 hts gL_signs_X5_shown rfl rfl rfl (by decide +kernel) ⟨Nat.le_of_ble_eq_true rfl, Nat.le_of_ble_eq_true rfl⟩) ⟨b_blind, hs_recv E w, fun U9 hU9 hW9 => ⟨rfl, hs_pre E Z9 w hm9 U9 hU9 hW9⟩⟩ rfl rfl hl.1 rfl (lv_room (Nat.le_of_ble_eq_true rfl)) dL_signs_221 ⟨Nat.le_of_ble_eq_true rfl, Nat.le_of_ble_eq_true rfl⟩) hm9 (fun r i H locs hr w => ?_)
  obtain ⟨hI, hr9, -⟩ := hr
  refine b_tp hr9 ?_
  refine lv_bipush (v := nI 9) hx hb dL_signs_224 (by decide) ?_
  refine lv_icmp_ne (tgt := 360) hx hb dL_signs_226 (by decide) (fun c9 => absurd rfl c9) (fun c9 => ?_)
  refine lv_aload_n hx hb dL_signs_229 rfl (lv_at hl 0 rfl) ?_
  refine lv_iconst (v := nI 0) hx hb dL_signs_230 (by decide) ?_
  refine lv_iconst (v := nI 0) hx hb dL_signs_231 (by decide) ?_
  refine lv_iconst (v := nI 0) hx hb dL_signs_232 (by decide) ?_
  refine lv_iconst (v := nI 1) hx hb dL_signs_233 (by decide) ?_
  refine b_tp (show nI 1 = bI true from rfl) ?_
  refine hs_calli w (va_runV (As := [.int (nI 0), .int (nI 0), .int (nI 0), .int (bI true)]) (rest := []) X (n_secret l hl0 G _ a _ _ _ _ hI _ _ _ _ egq_21) (cwV 4 hts gL_signs_X5_secret rfl rfl rfl (by decide +kernel) ⟨Nat.le_of_ble_eq_true rfl, Nat.le_of_ble_eq_true rfl⟩) ⟨b_blind, hs_recv E w, fun U9 hU9 hW9 => ⟨rfl, hs_pre E Z9 w hm9 U9 hU9 hW9⟩⟩ rfl rfl hl.1 rfl (lv_room (Nat.le_of_ble_eq_true rfl)) dL_signs_234 ⟨Nat.le_of_ble_eq_true rfl, Nat.le_of_ble_eq_true rfl⟩) hm9 (fun r i H locs hr w => ?_)
  obtain ⟨hI, hr9, -⟩ := hr
  refine b_tp hr9 ?_
  refine lv_iconst (v := nI 4) hx hb dL_signs_237 (by decide) ?_
  refine lv_icmp_ne (tgt := 360) hx hb dL_signs_238 (by decide) (fun c9 => absurd rfl c9) (fun c9 => ?_)
  refine lv_aload_n hx hb dL_signs_241 rfl (lv_at hl 0 rfl) ?_
  refine lv_iconst (v := nI 1) hx hb dL_signs_242 (by decide) ?_
  refine lv_iconst (v := nI 0) hx hb dL_signs_243 (by decide) ?_
  refine lv_iconst (v := nI 0) hx hb dL_signs_244 (by decide) ?_
  refine hs_calli w (va_runV (As := [.int (nI 1), .int (nI 0), .int (nI 0)]) (rest := []) X (n_shown l hl0 G _ a _ _ _ _ hI _ _ _ egq_22) (cwV 3 hts gL_signs_X5_shown rfl rfl rfl (by decide +kernel) ⟨Nat.le_of_ble_eq_true rfl, Nat.le_of_ble_eq_true rfl⟩) ⟨b_blind, hs_recv E w, fun U9 hU9 hW9 => ⟨rfl, hs_pre E Z9 w hm9 U9 hU9 hW9⟩⟩ rfl rfl hl.1 rfl (lv_room (Nat.le_of_ble_eq_true rfl)) dL_signs_245 ⟨Nat.le_of_ble_eq_true rfl, Nat.le_of_ble_eq_true rfl⟩) hm9 (fun r i H locs hr w => ?_)
  obtain ⟨hI, hr9, -⟩ := hr
  refine b_tp hr9 ?_
  refine lv_ldc (v := HID) hx hb hown (hts (.constant RL 108 (-2000000002)) (by decide +kernel)) dL_signs_248 ?_
  refine lv_icmp_ne (tgt := 360) hx hb dL_signs_250 (by decide) (fun c9 => absurd rfl c9) (fun c9 => ?_)
  refine lv_aload_n hx hb dL_signs_253 rfl (lv_at hl 0 rfl) ?_
  refine lv_iconst (v := nI 2) hx hb dL_signs_254 (by decide) ?_
  refine lv_iconst (v := nI 0) hx hb dL_signs_255 (by decide) ?_
  refine lv_iconst (v := nI 0) hx hb dL_signs_256 (by decide) ?_
  refine hs_calli w (va_runV (As := [.int (nI 2), .int (nI 0), .int (nI 0)]) (rest := []) X (n_shown l hl0 G _ a _ _ _ _ hI _ _ _ egq_23) (cwV 3 hts gL_signs_X5_shown rfl rfl rfl (by decide +kernel) ⟨Nat.le_of_ble_eq_true rfl, Nat.le_of_ble_eq_true rfl⟩) ⟨b_blind, hs_recv E w, fun U9 hU9 hW9 => ⟨rfl, hs_pre E Z9 w hm9 U9 hU9 hW9⟩⟩ rfl rfl hl.1 rfl (lv_room (Nat.le_of_ble_eq_true rfl)) dL_signs_257 ⟨Nat.le_of_ble_eq_true rfl, Nat.le_of_ble_eq_true rfl⟩) hm9 (fun r i H locs hr w => ?_)
  obtain ⟨hI, hr9, -⟩ := hr
  refine b_tp hr9 ?_
  refine lv_bipush (v := -5) hx hb dL_signs_260 (by decide) ?_
  refine lv_icmp_ne (tgt := 360) hx hb dL_signs_262 (by decide) (fun c9 => absurd rfl c9) (fun c9 => ?_)
  refine lv_aload_n hx hb dL_signs_265 rfl (lv_at hl 0 rfl) ?_
  refine lv_iconst (v := nI 0) hx hb dL_signs_266 (by decide) ?_
  refine lv_iconst (v := nI 0) hx hb dL_signs_267 (by decide) ?_
  refine lv_iconst (v := nI 0) hx hb dL_signs_268 (by decide) ?_
  refine hs_calli w (va_runV (As := [.int (nI 0), .int (nI 0), .int (nI 0)]) (rest := []) X (n_shown l hl0 G _ a _ _ _ _ hI _ _ _ egq_24) (cwV 3 hts gL_signs_X5_shown rfl rfl rfl (by decide +kernel) ⟨Nat.le_of_ble_eq_true rfl, Nat.le_of_ble_eq_true rfl⟩) ⟨b_blind, hs_recv E w, fun U9 hU9 hW9 => ⟨rfl, hs_pre E Z9 w hm9 U9 hU9 hW9⟩⟩ rfl rfl hl.1 rfl (lv_room (Nat.le_of_ble_eq_true rfl)) dL_signs_269 ⟨Nat.le_of_ble_eq_true rfl, Nat.le_of_ble_eq_true rfl⟩) hm9 (fun r i H locs hr w => ?_)
  obtain ⟨hI, hr9, -⟩ := hr
  refine b_tp hr9 ?_
  refine lv_ldc (v := HID) hx hb hown (hts (.constant RL 108 (-2000000002)) (by decide +kernel)) dL_signs_272 ?_
  refine lv_icmp_ne (tgt := 360) hx hb dL_signs_274 (by decide) (fun c9 => absurd rfl c9) (fun c9 => ?_)
  refine lv_aload_n hx hb dL_signs_277 rfl (lv_at hl 0 rfl) ?_
  refine lv_iconst (v := nI 4) hx hb dL_signs_278 (by decide) ?_
  refine lv_iconst (v := nI 0) hx hb dL_signs_279 (by decide) ?_
  refine lv_iconst (v := nI 0) hx hb dL_signs_280 (by decide) ?_
  refine lv_iconst (v := nI 0) hx hb dL_signs_281 (by decide) ?_
  refine b_tp (show nI 0 = bI false from rfl) ?_
  refine hs_calli w (va_runV (As := [.int (nI 4), .int (nI 0), .int (nI 0), .int (bI false)]) (rest := []) X (n_secret l hl0 G _ a _ _ _ _ hI _ _ _ _ egq_25) (cwV 4 hts gL_signs_X5_secret rfl rfl rfl (by decide +kernel) ⟨Nat.le_of_ble_eq_true rfl, Nat.le_of_ble_eq_true rfl⟩) ⟨b_blind, hs_recv E w, fun U9 hU9 hW9 => ⟨rfl, hs_pre E Z9 w hm9 U9 hU9 hW9⟩⟩ rfl rfl hl.1 rfl (lv_room (Nat.le_of_ble_eq_true rfl)) dL_signs_282 ⟨Nat.le_of_ble_eq_true rfl, Nat.le_of_ble_eq_true rfl⟩) hm9 (fun r i H locs hr w => ?_)
  obtain ⟨hI, hr9, -⟩ := hr
  refine b_tp hr9 ?_
  refine lv_iconst (v := nI 2) hx hb dL_signs_285 (by decide) ?_
  refine lv_icmp_ne (tgt := 360) hx hb dL_signs_286 (by decide) (fun c9 => absurd rfl c9) (fun c9 => ?_)
  refine lv_aload_n hx hb dL_signs_289 rfl (lv_at hl 0 rfl) ?_
  refine lv_iconst (v := nI 1) hx hb dL_signs_290 (by decide) ?_
  refine lv_iconst (v := nI 0) hx hb dL_signs_291 (by decide) ?_
  refine lv_iconst (v := nI 0) hx hb dL_signs_292 (by decide) ?_
  refine hs_calli w (va_runV (As := [.int (nI 1), .int (nI 0), .int (nI 0)]) (rest := []) X (n_shown l hl0 G _ a _ _ _ _ hI _ _ _ egq_26) (cwV 3 hts gL_signs_X5_shown rfl rfl rfl (by decide +kernel) ⟨Nat.le_of_ble_eq_true rfl, Nat.le_of_ble_eq_true rfl⟩) ⟨b_blind, hs_recv E w, fun U9 hU9 hW9 => ⟨rfl, hs_pre E Z9 w hm9 U9 hU9 hW9⟩⟩ rfl rfl hl.1 rfl (lv_room (Nat.le_of_ble_eq_true rfl)) dL_signs_293 ⟨Nat.le_of_ble_eq_true rfl, Nat.le_of_ble_eq_true rfl⟩) hm9 (fun r i H locs hr w => ?_)
  obtain ⟨hI, hr9, -⟩ := hr
  refine b_tp hr9 ?_
  refine lv_ldc (v := HID) hx hb hown (hts (.constant RL 108 (-2000000002)) (by decide +kernel)) dL_signs_296 ?_
  refine lv_icmp_ne (tgt := 360) hx hb dL_signs_298 (by decide) (fun c9 => absurd rfl c9) (fun c9 => ?_)
  refine lv_aload_n hx hb dL_signs_301 rfl (lv_at hl 0 rfl) ?_
  refine lv_iconst (v := nI 2) hx hb dL_signs_302 (by decide) ?_
  refine lv_iconst (v := nI 0) hx hb dL_signs_303 (by decide) ?_
  refine lv_iconst (v := nI 0) hx hb dL_signs_304 (by decide) ?_
  refine hs_calli w (va_runV (As := [.int (nI 2), .int (nI 0), .int (nI 0)]) (rest := []) X (n_shown l hl0 G _ a _ _ _ _ hI _ _ _ egq_27) (cwV 3 hts gL_signs_X5_shown rfl rfl rfl (by decide +kernel) ⟨Nat.le_of_ble_eq_true rfl, Nat.le_of_ble_eq_true rfl⟩) ⟨b_blind, hs_recv E w, fun U9 hU9 hW9 => ⟨rfl, hs_pre E Z9 w hm9 U9 hU9 hW9⟩⟩ rfl rfl hl.1 rfl (lv_room (Nat.le_of_ble_eq_true rfl)) dL_signs_305 ⟨Nat.le_of_ble_eq_true rfl, Nat.le_of_ble_eq_true rfl⟩) hm9 (fun r i H locs hr w => ?_)
  obtain ⟨hI, hr9, -⟩ := hr
  refine b_tp hr9 ?_
  refine lv_bipush (v := -5) hx hb dL_signs_308 (by decide) ?_
  refine lv_icmp_ne (tgt := 360) hx hb dL_signs_310 (by decide) (fun c9 => absurd rfl c9) (fun c9 => ?_)
  refine lv_aload_n hx hb dL_signs_313 rfl (lv_at hl 0 rfl) ?_
  refine lv_iconst (v := nI 3) hx hb dL_signs_314 (by decide) ?_
  refine lv_iconst (v := nI 0) hx hb dL_signs_315 (by decide) ?_
  refine lv_iconst (v := nI 0) hx hb dL_signs_316 (by decide) ?_
  refine hs_calli w (va_runV (As := [.int (nI 3), .int (nI 0), .int (nI 0)]) (rest := []) X (n_shown l hl0 G _ a _ _ _ _ hI _ _ _ egq_28) (cwV 3 hts gL_signs_X5_shown rfl rfl rfl (by decide +kernel) ⟨Nat.le_of_ble_eq_true rfl, Nat.le_of_ble_eq_true rfl⟩) ⟨b_blind, hs_recv E w, fun U9 hU9 hW9 => ⟨rfl, hs_pre E Z9 w hm9 U9 hU9 hW9⟩⟩ rfl rfl hl.1 rfl (lv_room (Nat.le_of_ble_eq_true rfl)) dL_signs_317 ⟨Nat.le_of_ble_eq_true rfl, Nat.le_of_ble_eq_true rfl⟩) hm9 (fun r i H locs hr w => ?_)
  obtain ⟨hI, hr9, -⟩ := hr
  refine b_tp hr9 ?_
  refine lv_bipush (v := nI 9) hx hb dL_signs_320 (by decide) ?_
  refine lv_icmp_ne (tgt := 360) hx hb dL_signs_322 (by decide) (fun c9 => absurd rfl c9) (fun c9 => ?_)
  refine lv_aload_n hx hb dL_signs_325 rfl (lv_at hl 0 rfl) ?_
  refine lv_bipush (v := nI 11) hx hb dL_signs_326 (by decide) ?_
  refine hs_calli w (va_runV (As := [.int (nI 11)]) (rest := []) X (n_hidden l hl0 G _ a _ _ _ _ hI _ egq_29) (cwV 1 hts gL_signs_X5_hidden rfl rfl rfl (by decide +kernel) ⟨Nat.le_of_ble_eq_true rfl, Nat.le_of_ble_eq_true rfl⟩) ⟨b_blind, hs_recv E w, fun U9 hU9 hW9 => ⟨rfl, hs_pre E Z9 w hm9 U9 hU9 hW9⟩⟩ rfl rfl hl.1 rfl (lv_room (Nat.le_of_ble_eq_true rfl)) dL_signs_328 ⟨Nat.le_of_ble_eq_true rfl, Nat.le_of_ble_eq_true rfl⟩) hm9 (fun r i H locs hr w => ?_)
  obtain ⟨hI, hr9, -⟩ := hr
  refine b_tp hr9 ?_
  refine lv_if_ne (tgt := 360) hx hb dL_signs_331 (by decide) (fun c9 => absurd rfl c9) (fun c9 => ?_)
  refine lv_aload_n hx hb dL_signs_334 rfl (lv_at hl 0 rfl) ?_
  refine lv_iconst (v := nI 3) hx hb dL_signs_335 (by decide) ?_
  refine lv_iconst (v := nI 0) hx hb dL_signs_336 (by decide) ?_
  refine lv_bipush (v := nI 11) hx hb dL_signs_337 (by decide) ?_
  refine lv_iconst (v := nI 1) hx hb dL_signs_339 (by decide) ?_
  refine b_tp (show nI 1 = bI true from rfl) ?_
  refine hs_calli w (va_runV (As := [.int (nI 3), .int (nI 0), .int (nI 11), .int (bI true)]) (rest := []) X (n_secret l hl0 G _ a _ _ _ _ hI _ _ _ _ egq_30) (cwV 4 hts gL_signs_X5_secret rfl rfl rfl (by decide +kernel) ⟨Nat.le_of_ble_eq_true rfl, Nat.le_of_ble_eq_true rfl⟩) ⟨b_blind, hs_recv E w, fun U9 hU9 hW9 => ⟨rfl, hs_pre E Z9 w hm9 U9 hU9 hW9⟩⟩ rfl rfl hl.1 rfl (lv_room (Nat.le_of_ble_eq_true rfl)) dL_signs_340 ⟨Nat.le_of_ble_eq_true rfl, Nat.le_of_ble_eq_true rfl⟩) hm9 (fun r i H locs hr w => ?_)
  obtain ⟨hI, hr9, -⟩ := hr
  refine b_tp hr9 ?_
  refine lv_iconst (v := nI 2) hx hb dL_signs_343 (by decide) ?_
  refine lv_icmp_ne (tgt := 360) hx hb dL_signs_344 (by decide) (fun c9 => absurd rfl c9) (fun c9 => ?_)
  refine lv_aload_n hx hb dL_signs_347 rfl (lv_at hl 0 rfl) ?_
  refine lv_iconst (v := nI 4) hx hb dL_signs_348 (by decide) ?_
  refine lv_iconst (v := nI 0) hx hb dL_signs_349 (by decide) ?_
  refine lv_bipush (v := nI 11) hx hb dL_signs_350 (by decide) ?_
  refine hs_calli w (va_runV (As := [.int (nI 4), .int (nI 0), .int (nI 11)]) (rest := []) X (n_shown l hl0 G _ a _ _ _ _ hI _ _ _ egq_31) (cwV 3 hts gL_signs_X5_shown rfl rfl rfl (by decide +kernel) ⟨Nat.le_of_ble_eq_true rfl, Nat.le_of_ble_eq_true rfl⟩) ⟨b_blind, hs_recv E w, fun U9 hU9 hW9 => ⟨rfl, hs_pre E Z9 w hm9 U9 hU9 hW9⟩⟩ rfl rfl hl.1 rfl (lv_room (Nat.le_of_ble_eq_true rfl)) dL_signs_352 ⟨Nat.le_of_ble_eq_true rfl, Nat.le_of_ble_eq_true rfl⟩) hm9 (fun r i H locs hr w => ?_)
  obtain ⟨hI, hr9, -⟩ := hr
  refine b_tp hr9 ?_
  refine lv_ldc (v := HID) hx hb hown (hts (.constant RL 108 (-2000000002)) (by decide +kernel)) dL_signs_355 ?_
  refine lv_icmp_eq (tgt := 362) hx hb dL_signs_357 (by decide) (fun c9 => ?_) (fun c9 => absurd rfl c9)
  refine lv_aload_n hx hb dL_signs_362 rfl (lv_at hl 0 rfl) ?_
  refine lv_iconst (v := nI 0) hx hb dL_signs_363 (by decide) ?_
  refine lv_iconst (v := nI 3) hx hb dL_signs_364 (by decide) ?_
  refine lv_iconst (v := nI 0) hx hb dL_signs_365 (by decide) ?_
  refine lv_iconst (v := nI 0) hx hb dL_signs_366 (by decide) ?_
  refine lv_bipush (v := nI 8) hx hb dL_signs_367 (by decide) ?_
  refine hs_calli w (va_runV (As := [.int (nI 0), .int (nI 3), .int (nI 0), .int (nI 0), .int (nI 8)]) (rest := []) X (n_put l hl0 G _ a _ _ _ _ hI _ _ _ _ _ egq_32) (cwV 5 hts gL_signs_X5_put rfl rfl rfl (by decide +kernel) ⟨Nat.le_of_ble_eq_true rfl, Nat.le_of_ble_eq_true rfl⟩) ⟨b_blind, hs_recv E w, fun U9 hU9 hW9 => ⟨rfl, hs_pre E Z9 w hm9 U9 hU9 hW9⟩⟩ rfl rfl hl.1 rfl (lv_room (Nat.le_of_ble_eq_true rfl)) dL_signs_369 ⟨Nat.le_of_ble_eq_true rfl, Nat.le_of_ble_eq_true rfl⟩) hm9 (fun r i H locs hr w => ?_)
  obtain ⟨hI, hr9⟩ := hr
  refine b_tp hr9 ?_
  refine lv_iconst (v := nI 1) hx hb dL_signs_372 (by decide) ?_
  refine lv_icmp_ne (tgt := 546) hx hb dL_signs_373 (by decide) (fun c9 => absurd rfl c9) (fun c9 => ?_)
  refine lv_aload_n hx hb dL_signs_376 rfl (lv_at hl 0 rfl) ?_
  refine lv_iconst (v := nI 1) hx hb dL_signs_377 (by decide) ?_
  refine lv_iconst (v := nI 2) hx hb dL_signs_378 (by decide) ?_
  refine lv_iconst (v := nI 0) hx hb dL_signs_379 (by decide) ?_
  refine lv_iconst (v := nI 0) hx hb dL_signs_380 (by decide) ?_
  refine lv_bipush (v := -8) hx hb dL_signs_381 (by decide) ?_
  refine hs_calli w (va_runV (As := [.int (nI 1), .int (nI 2), .int (nI 0), .int (nI 0), .int (-8)]) (rest := []) X (n_put l hl0 G _ a _ _ _ _ hI _ _ _ _ _ egq_33) (cwV 5 hts gL_signs_X5_put rfl rfl rfl (by decide +kernel) ⟨Nat.le_of_ble_eq_true rfl, Nat.le_of_ble_eq_true rfl⟩) ⟨b_blind, hs_recv E w, fun U9 hU9 hW9 => ⟨rfl, hs_pre E Z9 w hm9 U9 hU9 hW9⟩⟩ rfl rfl hl.1 rfl (lv_room (Nat.le_of_ble_eq_true rfl)) dL_signs_383 ⟨Nat.le_of_ble_eq_true rfl, Nat.le_of_ble_eq_true rfl⟩) hm9 (fun r i H locs hr w => ?_)
  obtain ⟨hI, hr9⟩ := hr
  refine b_tp hr9 ?_
  refine lv_iconst (v := nI 2) hx hb dL_signs_386 (by decide) ?_
  refine lv_icmp_ne (tgt := 546) hx hb dL_signs_387 (by decide) (fun c9 => absurd rfl c9) (fun c9 => ?_)
  refine lv_aload_n hx hb dL_signs_390 rfl (lv_at hl 0 rfl) ?_
  refine lv_iconst (v := nI 3) hx hb dL_signs_391 (by decide) ?_
  refine hs_calli w (va_runV (As := [.int (nI 3)]) (rest := []) X (n_send l hl0 G _ a _ _ _ _ hI _ egq_34) (cwV 1 hts gL_signs_X5_send rfl rfl rfl (by decide +kernel) ⟨Nat.le_of_ble_eq_true rfl, Nat.le_of_ble_eq_true rfl⟩) ⟨b_blind, hs_recv E w, fun U9 hU9 hW9 => ⟨rfl, hs_pre E Z9 w hm9 U9 hU9 hW9⟩⟩ rfl rfl hl.1 rfl (lv_room (Nat.le_of_ble_eq_true rfl)) dL_signs_392 ⟨Nat.le_of_ble_eq_true rfl, Nat.le_of_ble_eq_true rfl⟩) hm9 (fun r i H locs hr w => ?_)
  obtain ⟨hI, hr9⟩ := hr
  refine b_tp hr9 ?_
  refine lv_iconst (v := nI 2) hx hb dL_signs_395 (by decide) ?_
  refine lv_icmp_ne (tgt := 546) hx hb dL_signs_396 (by decide) (fun c9 => absurd rfl c9) (fun c9 => ?_)
  refine lv_aload_n hx hb dL_signs_399 rfl (lv_at hl 0 rfl) ?_
  refine lv_iconst (v := nI 3) hx hb dL_signs_400 (by decide) ?_
  refine lv_iconst (v := nI 0) hx hb dL_signs_401 (by decide) ?_
  refine lv_iconst (v := nI 0) hx hb dL_signs_402 (by decide) ?_
  refine hs_calli w (va_runV (As := [.int (nI 3), .int (nI 0), .int (nI 0)]) (rest := []) X (n_hasFault l hl0 G _ a _ _ _ _ hI _ _ _ egq_35) (cwV 3 hts gL_signs_X5_hasFault rfl rfl rfl (by decide +kernel) ⟨Nat.le_of_ble_eq_true rfl, Nat.le_of_ble_eq_true rfl⟩) ⟨b_blind, hs_recv E w, fun U9 hU9 hW9 => ⟨rfl, hs_pre E Z9 w hm9 U9 hU9 hW9⟩⟩ rfl rfl hl.1 rfl (lv_room (Nat.le_of_ble_eq_true rfl)) dL_signs_403 ⟨Nat.le_of_ble_eq_true rfl, Nat.le_of_ble_eq_true rfl⟩) hm9 (fun r i H locs hr w => ?_)
  obtain ⟨hI, hr9⟩ := hr
  refine b_tp hr9 ?_
  refine lv_if_eq (tgt := 546) hx hb dL_signs_406 (by decide) (fun c9 => absurd c9 (by decide)) (fun c9 => ?_)
  refine lv_aload_n hx hb dL_signs_409 rfl (lv_at hl 0 rfl) ?_
  refine lv_iconst (v := nI 0) hx hb dL_signs_410 (by decide) ?_
  refine lv_iconst (v := nI 0) hx hb dL_signs_411 (by decide) ?_
  refine lv_iconst (v := nI 0) hx hb dL_signs_412 (by decide) ?_
  refine hs_calli w (va_runV (As := [.int (nI 0), .int (nI 0), .int (nI 0)]) (rest := []) X (n_hasFault l hl0 G _ a _ _ _ _ hI _ _ _ egq_36) (cwV 3 hts gL_signs_X5_hasFault rfl rfl rfl (by decide +kernel) ⟨Nat.le_of_ble_eq_true rfl, Nat.le_of_ble_eq_true rfl⟩) ⟨b_blind, hs_recv E w, fun U9 hU9 hW9 => ⟨rfl, hs_pre E Z9 w hm9 U9 hU9 hW9⟩⟩ rfl rfl hl.1 rfl (lv_room (Nat.le_of_ble_eq_true rfl)) dL_signs_413 ⟨Nat.le_of_ble_eq_true rfl, Nat.le_of_ble_eq_true rfl⟩) hm9 (fun r i H locs hr w => ?_)
  obtain ⟨hI, hr9⟩ := hr
  refine b_tp hr9 ?_
  refine lv_if_ne (tgt := 546) hx hb dL_signs_416 (by decide) (fun c9 => absurd (by decide) c9) (fun c9 => ?_)
  exact kk i _ _ _ hI w (lv_sub hl [0, 1] rfl)
set_option maxHeartbeats 4000000 in
set_option maxRecDepth 100000 in
theorem c_signs (l : Launch) (hl0 : l.stackTraces = false) (G : bG) (sz : Nat)  : Met l yL_signs wsL_signs ({ frames := 10, cells := 417, slots := 12125, locals := 237 }) (va_Pc [] (bPre G vwCl bNW bSW sz [] [])) (va_Qi (fun (r : Int32) (_ : Unit) => r = nI 1) (fun (_ : Unit) (tS : State) => va_P G.1 vwCl [] tS.heap) (Aw [] sz)) 417 12125 (Aw [] sz) := by
  refine Met.ofW (cc := cL_signs) (maxL := 2) (ret := (some .boolean)) (by decide) rfl ?_
  intro p e s m args below meth c s₁ B hml hv
  obtain ⟨rfl, hsz, hP, hD, E, Z⟩ := hv
  have hts := atoms_spec (ws := wsL_signs) B.pre
  have hown : s.vm.findClass RL = some m.cls := findClass_of_methodNamed B.named
  have X : CallFix p m c cL_signs 2 s _ wsL_signs RL := ⟨B.exec, B.bytes, hml, hown, hts⟩
  have hx := B.exec
  have hb := B.bytes
  have hr0 := B.returns
  have hlocks := B.notSynchronized
  have hts2 : ∀ w, w ∈ wsL_signs → w ∈ wsL_signs := fun _ h9 => h9
  subst hsz
  have w : bSt G vwCl [] s [] s.heap [] := ⟨hP, va_S.rf, hD⟩
  have Z9 : bZ [] s := Z
  have hl := lv_entry ([]) (n := 2) (Nat.le_of_ble_eq_true rfl)
  rw [lg_entry_eq]
  generalize (lg_sl ([]) ++ List.replicate (2 - (lg_sl ([])).length) Slot.unset).toArray = ls at hl ⊢
  have hl : lv_has ls 2 [] := hl
  have iX5 : ∀ w ∈ wsX50, w ∈ wsL_signs := by decide +kernel
  have Z0 := Z9
  refine b_new X E w (fs := [.null, .null, .null, .null, .null, .null, .null, .null, .int (nI 0), .int (nI 0), .int (nI 0)]) (ci := 5) iX5 tyX5 tyX5_ok (hts2 (.classLink RL 8 RX5) (by decide +kernel)) (hts2 (.instantiable RX5 11) (by decide +kernel)) (hts2 (.initialized RX5) (by decide +kernel)) rfl (by decide) (Nat.le_of_ble_eq_true rfl) (Nat.le_of_ble_eq_true rfl) dL_signs_0 (fun q0 H hq0 w => ?_)
  have w : bSt G vwCl [] s [(q0, .inr (5, [.null, .null, .null, .null, .null, .null, .null, .null, .int (nI 0), .int (nI 0), .int (nI 0)]))] _ _ := w
  refine lv_dup hx hb dL_signs_3 rfl ?_
  refine b_callc w (va_runI (As := []) (rest := [.ref q0]) X (c_X5_init l hl0 G _ (h := q0)) (cwI 0 hts gL_signs_X5_init rfl rfl rfl (hts (.initialized RX5) (by decide +kernel)) (hts (.methodLink RL 86 yX5_init) (by decide +kernel)) (hts (.instanceMethod yX5_init) (by decide +kernel)) rfl (by decide +kernel) ⟨Nat.le_of_ble_eq_true rfl, Nat.le_of_ble_eq_true rfl⟩) ⟨b_blind, fun U9 hU9 hW9 => ⟨rfl, b_pre E Z0 w [0] (by decide) rfl (b_inc (Or.inr hq0) b_inn) U9 hU9 hW9⟩⟩ rfl rfl hl.1 rfl (lv_room (Nat.le_of_ble_eq_true rfl)) dL_signs_4 ⟨Nat.le_of_ble_eq_true rfl, Nat.le_of_ble_eq_true rfl⟩) (Or.inr hq0) 0 (fun _ => rfl) rfl (fun u4 H locs _ hnu4 w => ?_)
  have w : bSt G vwCl [] s [(q0, .inr (5, [.ref (u4 0), .ref (u4 2), .ref (u4 4), .ref (u4 6), .ref (u4 11), .ref (u4 19), .ref (u4 22), .ref (u4 23), .int (nI 0), .int (nI 0), .int (nI 0)])), ((u4 0), .inr (4, [.ref (u4 1), .int (nI 10), .int (nI 0)])), ((u4 1), .inl (G.2.1, 14, .inl (fun _ => 0))), ((u4 2), .inr (4, [.ref (u4 3), .int (nI 1), .int (nI 0)])), ((u4 3), .inl (G.2.1, 10, .inl (fun _ => 0))), ((u4 4), .inr (0, [.ref (u4 5)])), ((u4 5), .inl (G.2.2.1, 56, .inl (zB (fun _ => false)))), ((u4 6), .inr (2, [.ref (u4 7), .ref (u4 8), .ref (u4 9), .ref (u4 10), .int (nI 0)])), ((u4 7), .inl (G.2.1, 16, .inl (fun _ => 0))), ((u4 8), .inl (G.2.1, 16, .inl (fun _ => 0))), ((u4 9), .inl (G.2.1, 16, .inl (fun _ => 0))), ((u4 10), .inl (G.2.1, 16, .inl (fun _ => 0))), ((u4 11), .inr (1, [.ref (u4 12), .ref (u4 13), .ref (u4 14), .ref (u4 15), .ref (u4 16), .ref (u4 17), .ref (u4 18), .int (nI 0)])), ((u4 12), .inl (G.2.1, 1680, .inl (fillF (fun _ => 0) MIS 1680))), ((u4 13), .inl (G.2.1, 1680, .inl (fillF (fun _ => 0) MIS 1680))), ((u4 14), .inl (G.2.1, 1680, .inl (fun _ => 0))), ((u4 15), .inl (G.2.1, 1680, .inl (fun _ => 0))), ((u4 16), .inl (G.2.1, 300, .inl (fun _ => 0))), ((u4 17), .inl (G.2.1, 300, .inl (fun _ => 0))), ((u4 18), .inl (G.2.1, 300, .inl (fun _ => 0))), ((u4 19), .inr (3, [.ref (u4 20), .ref (u4 21)])), ((u4 20), .inl (G.2.1, 140, .inl (fun _ => 0))), ((u4 21), .inl (G.2.2.1, 140, .inl (zB (fun _ => false)))), ((u4 22), .inl (G.2.2.1, 1680, .inl (zB (fun _ => false)))), ((u4 23), .inl (G.2.1, 16, .inl (fun _ => 0)))] _ _ := w
  refine lv_astore_n (lv' := [(0, .ref q0)]) hx hb dL_signs_7 rfl hl (by decide) rfl (fun ls hl => ?_)
  have h5 : ∀ k, k < 24 → s.heap.size ≤ u4 k := fun k hk => hnu4 _ (List.mem_of_getElem? (i := k) (by rcases (show k = 0 ∨ k = 1 ∨ k = 2 ∨ k = 3 ∨ k = 4 ∨ k = 5 ∨ k = 6 ∨ k = 7 ∨ k = 8 ∨ k = 9 ∨ k = 10 ∨ k = 11 ∨ k = 12 ∨ k = 13 ∨ k = 14 ∨ k = 15 ∨ k = 16 ∨ k = 17 ∨ k = 18 ∨ k = 19 ∨ k = 20 ∨ k = 21 ∨ k = 22 ∨ k = 23 by omega) with rfl | rfl | rfl | rfl | rfl | rfl | rfl | rfl | rfl | rfl | rfl | rfl | rfl | rfl | rfl | rfl | rfl | rfl | rfl | rfl | rfl | rfl | rfl | rfl <;> rfl))
  have hm9 : ∀ z ∈ hs_M (hs_ad q0 u4), Aw [] s.heap.size z := hs_new hq0 h5
  have w : bSt G vwCl [] s (hs_W G (hs_ad q0 u4) hs_e0 hs_i0) _ _ := w
  have hI := hs_inv0
  have hl : lv_has ls 2 [(0, .ref (hs_ad q0 u4 0))] := hl
  obtain ⟨a, ha9⟩ : ∃ a, a = hs_ad q0 u4 := ⟨_, rfl⟩
  rw [← ha9] at hm9 w hl
  refine sg_signs_0 hl0 X E Z9 hm9 hI w hl (fun i H locs ls hI w hl => ?_)
  refine sg_signs_1 hl0 X E Z9 hm9 hI w hl (fun i H locs ls hI w hl => ?_)
  refine lv_aload_n hx hb dL_signs_419 rfl (lv_at hl 0 rfl) ?_
  refine lv_iconst (v := nI 0) hx hb dL_signs_420 (by decide) ?_
  refine lv_iconst (v := nI 0) hx hb dL_signs_421 (by decide) ?_
  refine lv_iconst (v := nI 0) hx hb dL_signs_422 (by decide) ?_
  refine lv_iconst (v := nI 0) hx hb dL_signs_423 (by decide) ?_
  refine hs_calli w (va_runV (As := [.int (nI 0), .int (nI 0), .int (nI 0), .int (nI 0)]) (rest := []) X (n_value l hl0 G _ a _ _ _ _ hI _ _ _ _ egq_37) (cwV 4 hts gL_signs_X5_value rfl rfl rfl (by decide +kernel) ⟨Nat.le_of_ble_eq_true rfl, Nat.le_of_ble_eq_true rfl⟩) ⟨b_blind, hs_recv E w, fun U9 hU9 hW9 => ⟨rfl, hs_pre E Z9 w hm9 U9 hU9 hW9⟩⟩ rfl rfl hl.1 rfl (lv_room (Nat.le_of_ble_eq_true rfl)) dL_signs_424 ⟨Nat.le_of_ble_eq_true rfl, Nat.le_of_ble_eq_true rfl⟩) hm9 (fun r i H locs hr w => ?_)
  obtain ⟨hI, hr9, -⟩ := hr
  refine b_tp hr9 ?_
  refine lv_iconst (v := nI 5) hx hb dL_signs_427 (by decide) ?_
  refine lv_icmp_ne (tgt := 546) hx hb dL_signs_428 (by decide) (fun c9 => absurd rfl c9) (fun c9 => ?_)
  refine lv_aload_n hx hb dL_signs_431 rfl (lv_at hl 0 rfl) ?_
  refine lv_iconst (v := nI 0) hx hb dL_signs_432 (by decide) ?_
  refine lv_iconst (v := nI 0) hx hb dL_signs_433 (by decide) ?_
  refine lv_iconst (v := nI 0) hx hb dL_signs_434 (by decide) ?_
  refine lv_iconst (v := nI 0) hx hb dL_signs_435 (by decide) ?_
  refine lv_iconst (v := nI 5) hx hb dL_signs_436 (by decide) ?_
  refine hs_calli w (va_runV (As := [.int (nI 0), .int (nI 0), .int (nI 0), .int (nI 0), .int (nI 5)]) (rest := []) X (n_put l hl0 G _ a _ _ _ _ hI _ _ _ _ _ egq_38) (cwV 5 hts gL_signs_X5_put rfl rfl rfl (by decide +kernel) ⟨Nat.le_of_ble_eq_true rfl, Nat.le_of_ble_eq_true rfl⟩) ⟨b_blind, hs_recv E w, fun U9 hU9 hW9 => ⟨rfl, hs_pre E Z9 w hm9 U9 hU9 hW9⟩⟩ rfl rfl hl.1 rfl (lv_room (Nat.le_of_ble_eq_true rfl)) dL_signs_437 ⟨Nat.le_of_ble_eq_true rfl, Nat.le_of_ble_eq_true rfl⟩) hm9 (fun r i H locs hr w => ?_)
  obtain ⟨hI, hr9⟩ := hr
  refine b_tp hr9 ?_
  refine lv_iconst (v := nI 1) hx hb dL_signs_440 (by decide) ?_
  refine lv_icmp_ne (tgt := 546) hx hb dL_signs_441 (by decide) (fun c9 => absurd rfl c9) (fun c9 => ?_)
  refine lv_aload_n hx hb dL_signs_444 rfl (lv_at hl 0 rfl) ?_
  refine lv_iconst (v := nI 3) hx hb dL_signs_445 (by decide) ?_
  refine hs_calli w (va_runV (As := [.int (nI 3)]) (rest := []) X (n_send l hl0 G _ a _ _ _ _ hI _ egq_39) (cwV 1 hts gL_signs_X5_send rfl rfl rfl (by decide +kernel) ⟨Nat.le_of_ble_eq_true rfl, Nat.le_of_ble_eq_true rfl⟩) ⟨b_blind, hs_recv E w, fun U9 hU9 hW9 => ⟨rfl, hs_pre E Z9 w hm9 U9 hU9 hW9⟩⟩ rfl rfl hl.1 rfl (lv_room (Nat.le_of_ble_eq_true rfl)) dL_signs_446 ⟨Nat.le_of_ble_eq_true rfl, Nat.le_of_ble_eq_true rfl⟩) hm9 (fun r i H locs hr w => ?_)
  obtain ⟨hI, hr9⟩ := hr
  refine b_tp hr9 ?_
  refine lv_iconst (v := nI 1) hx hb dL_signs_449 (by decide) ?_
  refine lv_icmp_ne (tgt := 546) hx hb dL_signs_450 (by decide) (fun c9 => absurd rfl c9) (fun c9 => ?_)
  refine lv_aload_n hx hb dL_signs_453 rfl (lv_at hl 0 rfl) ?_
  refine lv_iconst (v := nI 0) hx hb dL_signs_454 (by decide) ?_
  refine lv_iconst (v := nI 0) hx hb dL_signs_455 (by decide) ?_
  refine lv_iconst (v := nI 0) hx hb dL_signs_456 (by decide) ?_
  refine hs_calli w (va_runV (As := [.int (nI 0), .int (nI 0), .int (nI 0)]) (rest := []) X (n_hasFault l hl0 G _ a _ _ _ _ hI _ _ _ egq_40) (cwV 3 hts gL_signs_X5_hasFault rfl rfl rfl (by decide +kernel) ⟨Nat.le_of_ble_eq_true rfl, Nat.le_of_ble_eq_true rfl⟩) ⟨b_blind, hs_recv E w, fun U9 hU9 hW9 => ⟨rfl, hs_pre E Z9 w hm9 U9 hU9 hW9⟩⟩ rfl rfl hl.1 rfl (lv_room (Nat.le_of_ble_eq_true rfl)) dL_signs_457 ⟨Nat.le_of_ble_eq_true rfl, Nat.le_of_ble_eq_true rfl⟩) hm9 (fun r i H locs hr w => ?_)
  obtain ⟨hI, hr9⟩ := hr
  refine b_tp hr9 ?_
  refine lv_if_ne (tgt := 546) hx hb dL_signs_460 (by decide) (fun c9 => absurd (by decide) c9) (fun c9 => ?_)
  refine lv_aload_n hx hb dL_signs_463 rfl (lv_at hl 0 rfl) ?_
  refine lv_iconst (v := nI 1) hx hb dL_signs_464 (by decide) ?_
  refine lv_iconst (v := nI 0) hx hb dL_signs_465 (by decide) ?_
  refine lv_iconst (v := nI 0) hx hb dL_signs_466 (by decide) ?_
  refine lv_iconst (v := nI 0) hx hb dL_signs_467 (by decide) ?_
  refine lv_bipush (v := nI 6) hx hb dL_signs_468 (by decide) ?_
  refine hs_calli w (va_runV (As := [.int (nI 1), .int (nI 0), .int (nI 0), .int (nI 0), .int (nI 6)]) (rest := []) X (n_put l hl0 G _ a _ _ _ _ hI _ _ _ _ _ egq_41) (cwV 5 hts gL_signs_X5_put rfl rfl rfl (by decide +kernel) ⟨Nat.le_of_ble_eq_true rfl, Nat.le_of_ble_eq_true rfl⟩) ⟨b_blind, hs_recv E w, fun U9 hU9 hW9 => ⟨rfl, hs_pre E Z9 w hm9 U9 hU9 hW9⟩⟩ rfl rfl hl.1 rfl (lv_room (Nat.le_of_ble_eq_true rfl)) dL_signs_470 ⟨Nat.le_of_ble_eq_true rfl, Nat.le_of_ble_eq_true rfl⟩) hm9 (fun r i H locs hr w => ?_)
  obtain ⟨hI, hr9⟩ := hr
  refine b_tp hr9 ?_
  refine lv_iconst (v := nI 1) hx hb dL_signs_473 (by decide) ?_
  refine lv_icmp_ne (tgt := 546) hx hb dL_signs_474 (by decide) (fun c9 => absurd rfl c9) (fun c9 => ?_)
  refine lv_aload_n hx hb dL_signs_477 rfl (lv_at hl 0 rfl) ?_
  refine lv_iconst (v := nI 3) hx hb dL_signs_478 (by decide) ?_
  refine hs_calli w (va_runV (As := [.int (nI 3)]) (rest := []) X (n_send l hl0 G _ a _ _ _ _ hI _ egq_42) (cwV 1 hts gL_signs_X5_send rfl rfl rfl (by decide +kernel) ⟨Nat.le_of_ble_eq_true rfl, Nat.le_of_ble_eq_true rfl⟩) ⟨b_blind, hs_recv E w, fun U9 hU9 hW9 => ⟨rfl, hs_pre E Z9 w hm9 U9 hU9 hW9⟩⟩ rfl rfl hl.1 rfl (lv_room (Nat.le_of_ble_eq_true rfl)) dL_signs_479 ⟨Nat.le_of_ble_eq_true rfl, Nat.le_of_ble_eq_true rfl⟩) hm9 (fun r i H locs hr w => ?_)
  obtain ⟨hI, hr9⟩ := hr
  refine b_tp hr9 ?_
  refine lv_iconst (v := nI 1) hx hb dL_signs_482 (by decide) ?_
  refine lv_icmp_ne (tgt := 546) hx hb dL_signs_483 (by decide) (fun c9 => absurd rfl c9) (fun c9 => ?_)
  refine lv_aload_n hx hb dL_signs_486 rfl (lv_at hl 0 rfl) ?_
  refine lv_iconst (v := nI 0) hx hb dL_signs_487 (by decide) ?_
  refine lv_iconst (v := nI 0) hx hb dL_signs_488 (by decide) ?_
  refine lv_iconst (v := nI 0) hx hb dL_signs_489 (by decide) ?_
  refine hs_calli w (va_runV (As := [.int (nI 0), .int (nI 0), .int (nI 0)]) (rest := []) X (n_hasFault l hl0 G _ a _ _ _ _ hI _ _ _ egq_43) (cwV 3 hts gL_signs_X5_hasFault rfl rfl rfl (by decide +kernel) ⟨Nat.le_of_ble_eq_true rfl, Nat.le_of_ble_eq_true rfl⟩) ⟨b_blind, hs_recv E w, fun U9 hU9 hW9 => ⟨rfl, hs_pre E Z9 w hm9 U9 hU9 hW9⟩⟩ rfl rfl hl.1 rfl (lv_room (Nat.le_of_ble_eq_true rfl)) dL_signs_490 ⟨Nat.le_of_ble_eq_true rfl, Nat.le_of_ble_eq_true rfl⟩) hm9 (fun r i H locs hr w => ?_)
  obtain ⟨hI, hr9⟩ := hr
  refine b_tp hr9 ?_
  refine lv_if_eq (tgt := 546) hx hb dL_signs_493 (by decide) (fun c9 => absurd c9 (by decide)) (fun c9 => ?_)
  refine lv_aload_n hx hb dL_signs_496 rfl (lv_at hl 0 rfl) ?_
  refine lv_iconst (v := nI 0) hx hb dL_signs_497 (by decide) ?_
  refine lv_iconst (v := nI 0) hx hb dL_signs_498 (by decide) ?_
  refine lv_iconst (v := nI 0) hx hb dL_signs_499 (by decide) ?_
  refine hs_calli w (va_runV (As := [.int (nI 0), .int (nI 0), .int (nI 0)]) (rest := []) X (n_shown l hl0 G _ a _ _ _ _ hI _ _ _ egq_44) (cwV 3 hts gL_signs_X5_shown rfl rfl rfl (by decide +kernel) ⟨Nat.le_of_ble_eq_true rfl, Nat.le_of_ble_eq_true rfl⟩) ⟨b_blind, hs_recv E w, fun U9 hU9 hW9 => ⟨rfl, hs_pre E Z9 w hm9 U9 hU9 hW9⟩⟩ rfl rfl hl.1 rfl (lv_room (Nat.le_of_ble_eq_true rfl)) dL_signs_500 ⟨Nat.le_of_ble_eq_true rfl, Nat.le_of_ble_eq_true rfl⟩) hm9 (fun r i H locs hr w => ?_)
  obtain ⟨hI, hr9, -⟩ := hr
  refine b_tp hr9 ?_
  refine lv_ldc (v := HID) hx hb hown (hts (.constant RL 108 (-2000000002)) (by decide +kernel)) dL_signs_503 ?_
  refine lv_icmp_ne (tgt := 546) hx hb dL_signs_505 (by decide) (fun c9 => absurd rfl c9) (fun c9 => ?_)
  refine lv_aload_n hx hb dL_signs_508 rfl (lv_at hl 0 rfl) ?_
  refine lv_iconst (v := nI 1) hx hb dL_signs_509 (by decide) ?_
  refine lv_iconst (v := nI 0) hx hb dL_signs_510 (by decide) ?_
  refine lv_iconst (v := nI 0) hx hb dL_signs_511 (by decide) ?_
  refine hs_calli w (va_runV (As := [.int (nI 1), .int (nI 0), .int (nI 0)]) (rest := []) X (n_shown l hl0 G _ a _ _ _ _ hI _ _ _ egq_45) (cwV 3 hts gL_signs_X5_shown rfl rfl rfl (by decide +kernel) ⟨Nat.le_of_ble_eq_true rfl, Nat.le_of_ble_eq_true rfl⟩) ⟨b_blind, hs_recv E w, fun U9 hU9 hW9 => ⟨rfl, hs_pre E Z9 w hm9 U9 hU9 hW9⟩⟩ rfl rfl hl.1 rfl (lv_room (Nat.le_of_ble_eq_true rfl)) dL_signs_512 ⟨Nat.le_of_ble_eq_true rfl, Nat.le_of_ble_eq_true rfl⟩) hm9 (fun r i H locs hr w => ?_)
  obtain ⟨hI, hr9, -⟩ := hr
  refine b_tp hr9 ?_
  refine lv_ldc (v := HID) hx hb hown (hts (.constant RL 108 (-2000000002)) (by decide +kernel)) dL_signs_515 ?_
  refine lv_icmp_ne (tgt := 546) hx hb dL_signs_517 (by decide) (fun c9 => absurd rfl c9) (fun c9 => ?_)
  refine lv_aload_n hx hb dL_signs_520 rfl (lv_at hl 0 rfl) ?_
  refine lv_iconst (v := nI 2) hx hb dL_signs_521 (by decide) ?_
  refine lv_iconst (v := nI 0) hx hb dL_signs_522 (by decide) ?_
  refine lv_iconst (v := nI 0) hx hb dL_signs_523 (by decide) ?_
  refine hs_calli w (va_runV (As := [.int (nI 2), .int (nI 0), .int (nI 0)]) (rest := []) X (n_shown l hl0 G _ a _ _ _ _ hI _ _ _ egq_46) (cwV 3 hts gL_signs_X5_shown rfl rfl rfl (by decide +kernel) ⟨Nat.le_of_ble_eq_true rfl, Nat.le_of_ble_eq_true rfl⟩) ⟨b_blind, hs_recv E w, fun U9 hU9 hW9 => ⟨rfl, hs_pre E Z9 w hm9 U9 hU9 hW9⟩⟩ rfl rfl hl.1 rfl (lv_room (Nat.le_of_ble_eq_true rfl)) dL_signs_524 ⟨Nat.le_of_ble_eq_true rfl, Nat.le_of_ble_eq_true rfl⟩) hm9 (fun r i H locs hr w => ?_)
  obtain ⟨hI, hr9, -⟩ := hr
  refine b_tp hr9 ?_
  refine lv_bipush (v := -8) hx hb dL_signs_527 (by decide) ?_
  refine lv_icmp_ne (tgt := 546) hx hb dL_signs_529 (by decide) (fun c9 => absurd rfl c9) (fun c9 => ?_)
  refine lv_aload_n hx hb dL_signs_532 rfl (lv_at hl 0 rfl) ?_
  refine lv_iconst (v := nI 5) hx hb dL_signs_533 (by decide) ?_
  refine lv_iconst (v := nI 1) hx hb dL_signs_534 (by decide) ?_
  refine lv_iconst (v := nI 0) hx hb dL_signs_535 (by decide) ?_
  refine hs_calli w (va_runS (As := [.ref (a 0), .int (nI 5), .int (nI 1), .int (nI 0)]) (rest := []) X (c_refuses l hl0 G _ a _ _ hI 5 1 0 egq_47) (va_cwS 4 hts gL_signs_L_refuses rfl rfl rfl (by decide +kernel) ⟨Nat.le_of_ble_eq_true rfl, Nat.le_of_ble_eq_true rfl⟩) ⟨b_blind, fun U9 hU9 hW9 => ⟨rfl, hs_pre E Z9 w hm9 U9 hU9 hW9⟩⟩ rfl rfl hl.1 rfl (lv_room (Nat.le_of_ble_eq_true rfl)) dL_signs_536 ⟨Nat.le_of_ble_eq_true rfl, Nat.le_of_ble_eq_true rfl⟩) hm9 (fun r i H locs hr w => ?_)
  obtain ⟨hI, hr9⟩ := hr
  refine b_tp hr9 ?_
  refine lv_if_eq (tgt := 546) hx hb dL_signs_539 (by decide) (fun c9 => absurd c9 (by decide)) (fun c9 => ?_)
  refine lv_iconst (v := nI 1) hx hb dL_signs_542 (by decide) ?_
  refine lv_goto (tgt := 547) hx hb dL_signs_543 (by decide) ?_
  exact W.zret (v := nI 1) hx hb hr0 rfl (fun t9 ht9 hW9 => ⟨⟨nI 1, (), rfl, rfl, (fun k q h => by simp at h)⟩, w.2.1.F ht9⟩) w.2.1.2.2 dL_signs_547
