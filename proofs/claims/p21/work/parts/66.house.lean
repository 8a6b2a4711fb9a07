set_option maxHeartbeats 4000000 in
set_option maxRecDepth 100000 in
theorem sg_house_0 {p : Program} {l : Launch} (hl0 : l.stackTraces = false) {e : Env} {s : State} {m : MethodId} {below : List Frame} {meth : Method} {c : Code} {G : bG} {args : Array Value} {Q : State → Prop} (X : CallFix p m c cL_house 1 s args wsL_house RL) (E : bE G vwCl bNW bSW s) {a : Nat → Nat} (Z9 : bZ [] s) (hm9 : ∀ q ∈ hs_M a, Aw [] s.heap.size q) {i : hs_I} {H : Heap} {locs : List Loc} {ls : Array Slot} (hI : hs_Inv hs_e0 i) (w : bSt G vwCl [] s (hs_W G a hs_e0 i) H locs) (hl : lv_has ls 1 [(0, .ref (a 0))])
    (kk : ∀ (i : hs_I) (H : Heap) (locs : List Loc) (ls : Array Slot), hs_Inv eh_11 i → bSt G vwCl [] s (hs_W G a eh_11 i) H locs → lv_has ls 1 [(0, .ref (a 0))] → W p l e ({ frames := 11, cells := 2785, slots := 45655, locals := 259 }) s m args below meth c H locs 383 11921 Q (F0 m 179 ls [])) : W p l e ({ frames := 11, cells := 2785, slots := 45655, locals := 259 }) s m args below meth c H locs 25 9773 Q (F0 m 8 ls []) := by
  have hx := X.1
  have hb := X.2.1
  have hml := X.2.2.1
  have hown := X.2.2.2.1
  have hts := X.2.2.2.2
  refine lv_aload_n hx hb dL_house_8 rfl (lv_at hl 0 rfl) ?_
  refine lv_iconst (v := nI 0) hx hb dL_house_9 (by decide) ?_
  refine lv_iconst (v := nI 0) hx hb dL_house_10 (by decide) ?_
  refine lv_iconst (v := nI 0) hx hb dL_house_11 (by decide) ?_
  refine hs_calli w (va_runS (As := [.ref (a 0), .int (nI 0), .int (nI 0), .int (nI 0)]) (rest := []) X (c_refuses l hl0 G _ a _ _ hI 0 0 0 ehq_1) (va_cwS 4 hts gL_house_L_refuses rfl rfl rfl (by decide +kernel) ⟨Nat.le_of_ble_eq_true rfl, Nat.le_of_ble_eq_true rfl⟩) ⟨b_blind, fun U9 hU9 hW9 => ⟨rfl, hs_pre E Z9 w hm9 U9 hU9 hW9⟩⟩ rfl rfl hl.1 rfl (lv_room (Nat.le_of_ble_eq_true rfl)) dL_house_12 ⟨Nat.le_of_ble_eq_true rfl, Nat.le_of_ble_eq_true rfl⟩) hm9 (fun r i H locs hr w => ?_)
  obtain ⟨hI, hr9⟩ := hr
  refine b_tp hr9 ?_
  refine lv_if_eq (tgt := 201) hx hb dL_house_15 (by decide) (fun c9 => absurd c9 (by decide)) (fun c9 => ?_)
  refine lv_aload_n hx hb dL_house_18 rfl (lv_at hl 0 rfl) ?_
  refine lv_iconst (v := -1) hx hb dL_house_19 (by decide) ?_
  refine hs_calli w (va_runV (As := [.int (-1)]) (rest := []) X (n_area l hl0 G _ a _ _ _ _ hI _ ehq_2) (cwV 1 hts gL_house_X5_area rfl rfl rfl (by decide +kernel) ⟨Nat.le_of_ble_eq_true rfl, Nat.le_of_ble_eq_true rfl⟩) ⟨b_blind, hs_recv E w, fun U9 hU9 hW9 => ⟨rfl, hs_pre E Z9 w hm9 U9 hU9 hW9⟩⟩ rfl rfl hl.1 rfl (lv_room (Nat.le_of_ble_eq_true rfl)) dL_house_20 ⟨Nat.le_of_ble_eq_true rfl, Nat.le_of_ble_eq_true rfl⟩) hm9 (fun r i H locs hr w => ?_)
  obtain ⟨hI, hr9⟩ := hr
  refine b_tp hr9 ?_
  refine lv_if_ne (tgt := 201) hx hb dL_house_23 (by decide) (fun c9 => absurd rfl c9) (fun c9 => ?_)
  refine lv_aload_n hx hb dL_house_26 rfl (lv_at hl 0 rfl) ?_
  refine lv_iconst (v := nI 0) hx hb dL_house_27 (by decide) ?_
  refine hs_calli w (va_runV (As := [.int (nI 0)]) (rest := []) X (n_area l hl0 G _ a _ _ _ _ hI _ ehq_3) (cwV 1 hts gL_house_X5_area rfl rfl rfl (by decide +kernel) ⟨Nat.le_of_ble_eq_true rfl, Nat.le_of_ble_eq_true rfl⟩) ⟨b_blind, hs_recv E w, fun U9 hU9 hW9 => ⟨rfl, hs_pre E Z9 w hm9 U9 hU9 hW9⟩⟩ rfl rfl hl.1 rfl (lv_room (Nat.le_of_ble_eq_true rfl)) dL_house_28 ⟨Nat.le_of_ble_eq_true rfl, Nat.le_of_ble_eq_true rfl⟩) hm9 (fun r i H locs hr w => ?_)
  obtain ⟨hI, hr9⟩ := hr
  refine b_tp hr9 ?_
  refine lv_iconst (v := nI 1) hx hb dL_house_31 (by decide) ?_
  refine lv_icmp_ne (tgt := 201) hx hb dL_house_32 (by decide) (fun c9 => absurd rfl c9) (fun c9 => ?_)
  refine lv_aload_n hx hb dL_house_35 rfl (lv_at hl 0 rfl) ?_
  refine lv_iconst (v := nI 0) hx hb dL_house_36 (by decide) ?_
  refine hs_calli w (va_runV (As := [.int (nI 0)]) (rest := []) X (n_area l hl0 G _ a _ _ _ _ hI _ ehq_4) (cwV 1 hts gL_house_X5_area rfl rfl rfl (by decide +kernel) ⟨Nat.le_of_ble_eq_true rfl, Nat.le_of_ble_eq_true rfl⟩) ⟨b_blind, hs_recv E w, fun U9 hU9 hW9 => ⟨rfl, hs_pre E Z9 w hm9 U9 hU9 hW9⟩⟩ rfl rfl hl.1 rfl (lv_room (Nat.le_of_ble_eq_true rfl)) dL_house_37 ⟨Nat.le_of_ble_eq_true rfl, Nat.le_of_ble_eq_true rfl⟩) hm9 (fun r i H locs hr w => ?_)
  obtain ⟨hI, hr9⟩ := hr
  refine b_tp hr9 ?_
  refine lv_iconst (v := nI 2) hx hb dL_house_40 (by decide) ?_
  refine lv_icmp_ne (tgt := 201) hx hb dL_house_41 (by decide) (fun c9 => absurd rfl c9) (fun c9 => ?_)
  refine lv_aload_n hx hb dL_house_44 rfl (lv_at hl 0 rfl) ?_
  refine lv_iconst (v := nI 2) hx hb dL_house_45 (by decide) ?_
  refine hs_calli w (va_runV (As := [.int (nI 2)]) (rest := []) X (n_area l hl0 G _ a _ _ _ _ hI _ ehq_5) (cwV 1 hts gL_house_X5_area rfl rfl rfl (by decide +kernel) ⟨Nat.le_of_ble_eq_true rfl, Nat.le_of_ble_eq_true rfl⟩) ⟨b_blind, hs_recv E w, fun U9 hU9 hW9 => ⟨rfl, hs_pre E Z9 w hm9 U9 hU9 hW9⟩⟩ rfl rfl hl.1 rfl (lv_room (Nat.le_of_ble_eq_true rfl)) dL_house_46 ⟨Nat.le_of_ble_eq_true rfl, Nat.le_of_ble_eq_true rfl⟩) hm9 (fun r i H locs hr w => ?_)
  obtain ⟨hI, hr9⟩ := hr
  refine b_tp hr9 ?_
  refine lv_iconst (v := nI 3) hx hb dL_house_49 (by decide) ?_
  refine lv_icmp_ne (tgt := 201) hx hb dL_house_50 (by decide) (fun c9 => absurd rfl c9) (fun c9 => ?_)
  refine lv_aload_n hx hb dL_house_53 rfl (lv_at hl 0 rfl) ?_
  refine lv_iconst (v := -1) hx hb dL_house_54 (by decide) ?_
  refine hs_calli w (va_runV (As := [.int (-1)]) (rest := []) X (n_item l hl0 G _ a _ _ _ _ hI _ ehq_6) (cwV 1 hts gL_house_X5_item rfl rfl rfl (by decide +kernel) ⟨Nat.le_of_ble_eq_true rfl, Nat.le_of_ble_eq_true rfl⟩) ⟨b_blind, hs_recv E w, fun U9 hU9 hW9 => ⟨rfl, hs_pre E Z9 w hm9 U9 hU9 hW9⟩⟩ rfl rfl hl.1 rfl (lv_room (Nat.le_of_ble_eq_true rfl)) dL_house_55 ⟨Nat.le_of_ble_eq_true rfl, Nat.le_of_ble_eq_true rfl⟩) hm9 (fun r i H locs hr w => ?_)
  obtain ⟨hI, hr9⟩ := hr
  refine b_tp hr9 ?_
  refine lv_if_ne (tgt := 201) hx hb dL_house_58 (by decide) (fun c9 => absurd rfl c9) (fun c9 => ?_)
  refine lv_aload_n hx hb dL_house_61 rfl (lv_at hl 0 rfl) ?_
  refine lv_iconst (v := nI 0) hx hb dL_house_62 (by decide) ?_
  refine hs_calli w (va_runV (As := [.int (nI 0)]) (rest := []) X (n_item l hl0 G _ a _ _ _ _ hI _ ehq_7) (cwV 1 hts gL_house_X5_item rfl rfl rfl (by decide +kernel) ⟨Nat.le_of_ble_eq_true rfl, Nat.le_of_ble_eq_true rfl⟩) ⟨b_blind, hs_recv E w, fun U9 hU9 hW9 => ⟨rfl, hs_pre E Z9 w hm9 U9 hU9 hW9⟩⟩ rfl rfl hl.1 rfl (lv_room (Nat.le_of_ble_eq_true rfl)) dL_house_63 ⟨Nat.le_of_ble_eq_true rfl, Nat.le_of_ble_eq_true rfl⟩) hm9 (fun r i H locs hr w => ?_)
  obtain ⟨hI, hr9⟩ := hr
  refine b_tp hr9 ?_
  refine lv_iconst (v := nI 1) hx hb dL_house_66 (by decide) ?_
  refine lv_icmp_ne (tgt := 201) hx hb dL_house_67 (by decide) (fun c9 => absurd rfl c9) (fun c9 => ?_)
  refine lv_aload_n hx hb dL_house_70 rfl (lv_at hl 0 rfl) ?_
  refine lv_iconst (v := nI 0) hx hb dL_house_71 (by decide) ?_
  refine hs_calli w (va_runV (As := [.int (nI 0)]) (rest := []) X (n_item l hl0 G _ a _ _ _ _ hI _ ehq_8) (cwV 1 hts gL_house_X5_item rfl rfl rfl (by decide +kernel) ⟨Nat.le_of_ble_eq_true rfl, Nat.le_of_ble_eq_true rfl⟩) ⟨b_blind, hs_recv E w, fun U9 hU9 hW9 => ⟨rfl, hs_pre E Z9 w hm9 U9 hU9 hW9⟩⟩ rfl rfl hl.1 rfl (lv_room (Nat.le_of_ble_eq_true rfl)) dL_house_72 ⟨Nat.le_of_ble_eq_true rfl, Nat.le_of_ble_eq_true rfl⟩) hm9 (fun r i H locs hr w => ?_)
  obtain ⟨hI, hr9⟩ := hr
  refine b_tp hr9 ?_
  refine lv_iconst (v := nI 2) hx hb dL_house_75 (by decide) ?_
  refine lv_icmp_ne (tgt := 201) hx hb dL_house_76 (by decide) (fun c9 => absurd rfl c9) (fun c9 => ?_)
  refine lv_aload_n hx hb dL_house_79 rfl (lv_at hl 0 rfl) ?_
  refine lv_iconst (v := nI 0) hx hb dL_house_80 (by decide) ?_
  refine lv_iconst (v := nI 0) hx hb dL_house_81 (by decide) ?_
  refine lv_iconst (v := nI 1) hx hb dL_house_82 (by decide) ?_
  refine b_tp (show nI 1 = bI true from rfl) ?_
  refine hs_calli w (va_runV (As := [.int (nI 0), .int (nI 0), .int (bI true)]) (rest := []) X (n_agree l hl0 G _ a _ _ _ _ hI _ _ _ ehq_9) (cwV 3 hts gL_house_X5_agree rfl rfl rfl (by decide +kernel) ⟨Nat.le_of_ble_eq_true rfl, Nat.le_of_ble_eq_true rfl⟩) ⟨b_blind, hs_recv E w, fun U9 hU9 hW9 => ⟨rfl, hs_pre E Z9 w hm9 U9 hU9 hW9⟩⟩ rfl rfl hl.1 rfl (lv_room (Nat.le_of_ble_eq_true rfl)) dL_house_83 ⟨Nat.le_of_ble_eq_true rfl, Nat.le_of_ble_eq_true rfl⟩) hm9 (fun r i H locs hr w => ?_)
  obtain ⟨hI, hr9⟩ := hr
  refine b_tp hr9 ?_
  refine lv_if_eq (tgt := 201) hx hb dL_house_86 (by decide) (fun c9 => absurd c9 (by decide)) (fun c9 => ?_)
  refine lv_aload_n hx hb dL_house_89 rfl (lv_at hl 0 rfl) ?_
  refine lv_iconst (v := nI 0) hx hb dL_house_90 (by decide) ?_
  refine lv_iconst (v := nI 0) hx hb dL_house_91 (by decide) ?_
  refine lv_iconst (v := nI 1) hx hb dL_house_92 (by decide) ?_
  refine b_tp (show nI 1 = bI true from rfl) ?_
  refine hs_calli w (va_runV (As := [.int (nI 0), .int (nI 0), .int (bI true)]) (rest := []) X (n_agree l hl0 G _ a _ _ _ _ hI _ _ _ ehq_10) (cwV 3 hts gL_house_X5_agree rfl rfl rfl (by decide +kernel) ⟨Nat.le_of_ble_eq_true rfl, Nat.le_of_ble_eq_true rfl⟩) ⟨b_blind, hs_recv E w, fun U9 hU9 hW9 => ⟨rfl, hs_pre E Z9 w hm9 U9 hU9 hW9⟩⟩ rfl rfl hl.1 rfl (lv_room (Nat.le_of_ble_eq_true rfl)) dL_house_93 ⟨Nat.le_of_ble_eq_true rfl, Nat.le_of_ble_eq_true rfl⟩) hm9 (fun r i H locs hr w => ?_)
  obtain ⟨hI, hr9⟩ := hr
  refine b_tp hr9 ?_
  refine lv_if_ne (tgt := 201) hx hb dL_house_96 (by decide) (fun c9 => absurd (by decide) c9) (fun c9 => ?_)
  refine lv_aload_n hx hb dL_house_99 rfl (lv_at hl 0 rfl) ?_
  refine lv_iconst (v := nI 2) hx hb dL_house_100 (by decide) ?_
  refine lv_iconst (v := nI 1) hx hb dL_house_101 (by decide) ?_
  refine lv_iconst (v := nI 0) hx hb dL_house_102 (by decide) ?_
  refine b_tp (show nI 0 = bI false from rfl) ?_
  refine hs_calli w (va_runV (As := [.int (nI 2), .int (nI 1), .int (bI false)]) (rest := []) X (n_agree l hl0 G _ a _ _ _ _ hI _ _ _ ehq_11) (cwV 3 hts gL_house_X5_agree rfl rfl rfl (by decide +kernel) ⟨Nat.le_of_ble_eq_true rfl, Nat.le_of_ble_eq_true rfl⟩) ⟨b_blind, hs_recv E w, fun U9 hU9 hW9 => ⟨rfl, hs_pre E Z9 w hm9 U9 hU9 hW9⟩⟩ rfl rfl hl.1 rfl (lv_room (Nat.le_of_ble_eq_true rfl)) dL_house_103 ⟨Nat.le_of_ble_eq_true rfl, Nat.le_of_ble_eq_true rfl⟩) hm9 (fun r i H locs hr w => ?_)
  obtain ⟨hI, hr9⟩ := hr
  refine b_tp hr9 ?_
  refine lv_if_ne (tgt := 201) hx hb dL_house_106 (by decide) (fun c9 => absurd (by decide) c9) (fun c9 => ?_)
  refine lv_aload_n hx hb dL_house_109 rfl (lv_at hl 0 rfl) ?_
  refine lv_iconst (v := nI 0) hx hb dL_house_110 (by decide) ?_
  refine lv_iconst (v := nI 3) hx hb dL_house_111 (by decide) ?_
  refine hs_calli w (va_runV (As := [.int (nI 0), .int (nI 3)]) (rest := []) X (n_mayTell l hl0 G _ a _ _ _ _ hI _ _ ehq_12) (cwV 2 hts gL_house_X5_mayTell rfl rfl rfl (by decide +kernel) ⟨Nat.le_of_ble_eq_true rfl, Nat.le_of_ble_eq_true rfl⟩) ⟨b_blind, hs_recv E w, fun U9 hU9 hW9 => ⟨rfl, hs_pre E Z9 w hm9 U9 hU9 hW9⟩⟩ rfl rfl hl.1 rfl (lv_room (Nat.le_of_ble_eq_true rfl)) dL_house_112 ⟨Nat.le_of_ble_eq_true rfl, Nat.le_of_ble_eq_true rfl⟩) hm9 (fun r i H locs hr w => ?_)
  obtain ⟨hI, hr9⟩ := hr
  refine b_tp hr9 ?_
  refine lv_if_eq (tgt := 201) hx hb dL_house_115 (by decide) (fun c9 => absurd c9 (by decide)) (fun c9 => ?_)
  refine lv_aload_n hx hb dL_house_118 rfl (lv_at hl 0 rfl) ?_
  refine lv_iconst (v := nI 1) hx hb dL_house_119 (by decide) ?_
  refine lv_iconst (v := nI 3) hx hb dL_house_120 (by decide) ?_
  refine hs_calli w (va_runV (As := [.int (nI 1), .int (nI 3)]) (rest := []) X (n_mayTell l hl0 G _ a _ _ _ _ hI _ _ ehq_13) (cwV 2 hts gL_house_X5_mayTell rfl rfl rfl (by decide +kernel) ⟨Nat.le_of_ble_eq_true rfl, Nat.le_of_ble_eq_true rfl⟩) ⟨b_blind, hs_recv E w, fun U9 hU9 hW9 => ⟨rfl, hs_pre E Z9 w hm9 U9 hU9 hW9⟩⟩ rfl rfl hl.1 rfl (lv_room (Nat.le_of_ble_eq_true rfl)) dL_house_121 ⟨Nat.le_of_ble_eq_true rfl, Nat.le_of_ble_eq_true rfl⟩) hm9 (fun r i H locs hr w => ?_)
  obtain ⟨hI, hr9⟩ := hr
  refine b_tp hr9 ?_
  refine lv_if_ne (tgt := 201) hx hb dL_house_124 (by decide) (fun c9 => absurd (by decide) c9) (fun c9 => ?_)
  refine lv_aload_n hx hb dL_house_127 rfl (lv_at hl 0 rfl) ?_
  refine lv_iconst (v := nI 1) hx hb dL_house_128 (by decide) ?_
  refine lv_iconst (v := nI 2) hx hb dL_house_129 (by decide) ?_
  refine lv_iconst (v := nI 1) hx hb dL_house_130 (by decide) ?_
  refine b_tp (show nI 1 = bI true from rfl) ?_
  refine hs_calli w (va_runV (As := [.int (nI 1), .int (nI 2), .int (bI true)]) (rest := []) X (n_agree l hl0 G _ a _ _ _ _ hI _ _ _ ehq_14) (cwV 3 hts gL_house_X5_agree rfl rfl rfl (by decide +kernel) ⟨Nat.le_of_ble_eq_true rfl, Nat.le_of_ble_eq_true rfl⟩) ⟨b_blind, hs_recv E w, fun U9 hU9 hW9 => ⟨rfl, hs_pre E Z9 w hm9 U9 hU9 hW9⟩⟩ rfl rfl hl.1 rfl (lv_room (Nat.le_of_ble_eq_true rfl)) dL_house_131 ⟨Nat.le_of_ble_eq_true rfl, Nat.le_of_ble_eq_true rfl⟩) hm9 (fun r i H locs hr w => ?_)
  obtain ⟨hI, hr9⟩ := hr
  refine b_tp hr9 ?_
  refine lv_if_eq (tgt := 201) hx hb dL_house_134 (by decide) (fun c9 => absurd c9 (by decide)) (fun c9 => ?_)
  refine lv_aload_n hx hb dL_house_137 rfl (lv_at hl 0 rfl) ?_
  refine lv_iconst (v := nI 1) hx hb dL_house_138 (by decide) ?_
  refine lv_iconst (v := nI 3) hx hb dL_house_139 (by decide) ?_
  refine hs_calli w (va_runV (As := [.int (nI 1), .int (nI 3)]) (rest := []) X (n_mayTell l hl0 G _ a _ _ _ _ hI _ _ ehq_15) (cwV 2 hts gL_house_X5_mayTell rfl rfl rfl (by decide +kernel) ⟨Nat.le_of_ble_eq_true rfl, Nat.le_of_ble_eq_true rfl⟩) ⟨b_blind, hs_recv E w, fun U9 hU9 hW9 => ⟨rfl, hs_pre E Z9 w hm9 U9 hU9 hW9⟩⟩ rfl rfl hl.1 rfl (lv_room (Nat.le_of_ble_eq_true rfl)) dL_house_140 ⟨Nat.le_of_ble_eq_true rfl, Nat.le_of_ble_eq_true rfl⟩) hm9 (fun r i H locs hr w => ?_)
  obtain ⟨hI, hr9⟩ := hr
  refine b_tp hr9 ?_
  refine lv_if_eq (tgt := 201) hx hb dL_house_143 (by decide) (fun c9 => absurd c9 (by decide)) (fun c9 => ?_)
  refine lv_aload_n hx hb dL_house_146 rfl (lv_at hl 0 rfl) ?_
  refine lv_iconst (v := nI 1) hx hb dL_house_147 (by decide) ?_
  refine lv_iconst (v := nI 1) hx hb dL_house_148 (by decide) ?_
  refine hs_calli w (va_runV (As := [.int (nI 1), .int (nI 1)]) (rest := []) X (n_mayTell l hl0 G _ a _ _ _ _ hI _ _ ehq_16) (cwV 2 hts gL_house_X5_mayTell rfl rfl rfl (by decide +kernel) ⟨Nat.le_of_ble_eq_true rfl, Nat.le_of_ble_eq_true rfl⟩) ⟨b_blind, hs_recv E w, fun U9 hU9 hW9 => ⟨rfl, hs_pre E Z9 w hm9 U9 hU9 hW9⟩⟩ rfl rfl hl.1 rfl (lv_room (Nat.le_of_ble_eq_true rfl)) dL_house_149 ⟨Nat.le_of_ble_eq_true rfl, Nat.le_of_ble_eq_true rfl⟩) hm9 (fun r i H locs hr w => ?_)
  obtain ⟨hI, hr9⟩ := hr
  refine b_tp hr9 ?_
  refine lv_if_ne (tgt := 201) hx hb dL_house_152 (by decide) (fun c9 => absurd (by decide) c9) (fun c9 => ?_)
  refine lv_aload_n hx hb dL_house_155 rfl (lv_at hl 0 rfl) ?_
  refine lv_iconst (v := nI 1) hx hb dL_house_156 (by decide) ?_
  refine lv_iconst (v := nI 0) hx hb dL_house_157 (by decide) ?_
  refine hs_calli w (va_runV (As := [.int (nI 1), .int (nI 0)]) (rest := []) X (n_mayTell l hl0 G _ a _ _ _ _ hI _ _ ehq_17) (cwV 2 hts gL_house_X5_mayTell rfl rfl rfl (by decide +kernel) ⟨Nat.le_of_ble_eq_true rfl, Nat.le_of_ble_eq_true rfl⟩) ⟨b_blind, hs_recv E w, fun U9 hU9 hW9 => ⟨rfl, hs_pre E Z9 w hm9 U9 hU9 hW9⟩⟩ rfl rfl hl.1 rfl (lv_room (Nat.le_of_ble_eq_true rfl)) dL_house_158 ⟨Nat.le_of_ble_eq_true rfl, Nat.le_of_ble_eq_true rfl⟩) hm9 (fun r i H locs hr w => ?_)
  obtain ⟨hI, hr9⟩ := hr
  refine b_tp hr9 ?_
  refine lv_if_ne (tgt := 201) hx hb dL_house_161 (by decide) (fun c9 => absurd (by decide) c9) (fun c9 => ?_)
  refine lv_aload_n hx hb dL_house_164 rfl (lv_at hl 0 rfl) ?_
  refine lv_iconst (v := nI 4) hx hb dL_house_165 (by decide) ?_
  refine lv_iconst (v := nI 0) hx hb dL_house_166 (by decide) ?_
  refine lv_iconst (v := nI 0) hx hb dL_house_167 (by decide) ?_
  refine lv_iconst (v := nI 0) hx hb dL_house_168 (by decide) ?_
  refine lv_iconst (v := nI 0) hx hb dL_house_169 (by decide) ?_
  refine lv_iconst (v := nI 0) hx hb dL_house_170 (by decide) ?_
  refine hs_calli w (vx_runSW (As := [.ref (a 0), .int (nI 4), .int (nI 0), .int (nI 0), .int (nI 0), .int (nI 0), .int (nI 0)]) (rest := []) X (aF_send l hl0 G _ a _ _ hI (nI 0) (nI 0) (nI 0) (nI 0) (nI 0) 3 ehq_18 (by decide)) (vx_cwSW 7 hts gL_house_L_act rfl rfl rfl (by decide +kernel) ⟨Nat.le_of_ble_eq_true rfl, Nat.le_of_ble_eq_true rfl⟩) ⟨b_blind, fun U9 hU9 hW9 => ⟨rfl, hs_pre E Z9 w hm9 U9 hU9 hW9⟩⟩ rfl rfl hl.1 rfl (lv_room (Nat.le_of_ble_eq_true rfl)) dL_house_171 ⟨Nat.le_of_ble_eq_true rfl, Nat.le_of_ble_eq_true rfl⟩) hm9 (fun r i H locs hr w => ?_)
  obtain ⟨hI, hr9⟩ := hr
  refine b_tp (hr9.trans (show hs_r 3 = -73 from by decide)) ?_
  refine lv_bipush (v := -73) hx hb dL_house_174 (by decide) ?_
  refine lv_icmp_ne (tgt := 201) hx hb dL_house_176 (by decide) (fun c9 => absurd rfl c9) (fun c9 => ?_)
  exact kk i _ _ _ hI w (lv_sub hl [0] rfl)
set_option maxHeartbeats 4000000 in
set_option maxRecDepth 100000 in
theorem sg_house_1 {p : Program} {l : Launch} (hl0 : l.stackTraces = false) {e : Env} {s : State} {m : MethodId} {below : List Frame} {meth : Method} {c : Code} {G : bG} {args : Array Value} {Q : State → Prop} (X : CallFix p m c cL_house 1 s args wsL_house RL) (E : bE G vwCl bNW bSW s) {a : Nat → Nat} (Z9 : bZ [] s) (hm9 : ∀ q ∈ hs_M a, Aw [] s.heap.size q) {i : hs_I} {H : Heap} {locs : List Loc} {ls : Array Slot} (hI : hs_Inv eh_11 i) (w : bSt G vwCl [] s (hs_W G a eh_11 i) H locs) (hl : lv_has ls 1 [(0, .ref (a 0))])
    (kk : ∀ (i : hs_I) (H : Heap) (locs : List Loc) (ls : Array Slot), hs_Inv eh_21 i → bSt G vwCl [] s (hs_W G a eh_21 i) H locs → lv_has ls 1 [(0, .ref (a 0))] → W p l e ({ frames := 11, cells := 2785, slots := 45655, locals := 259 }) s m args below meth c H locs 408 12071 Q (F0 m 390 ls [])) : W p l e ({ frames := 11, cells := 2785, slots := 45655, locals := 259 }) s m args below meth c H locs 383 11921 Q (F0 m 179 ls []) := by
  have hx := X.1
  have hb := X.2.1
  have hml := X.2.2.1
  have hown := X.2.2.2.1
  have hts := X.2.2.2.2
  refine lv_aload_n hx hb dL_house_179 rfl (lv_at hl 0 rfl) ?_
  refine lv_iconst (v := nI 5) hx hb dL_house_180 (by decide) ?_
  refine lv_iconst (v := nI 0) hx hb dL_house_181 (by decide) ?_
  refine lv_iconst (v := nI 0) hx hb dL_house_182 (by decide) ?_
  refine lv_iconst (v := nI 0) hx hb dL_house_183 (by decide) ?_
  refine lv_iconst (v := nI 0) hx hb dL_house_184 (by decide) ?_
  refine lv_iconst (v := nI 0) hx hb dL_house_185 (by decide) ?_
  refine hs_calli w (vx_runSW (As := [.ref (a 0), .int (nI 5), .int (nI 0), .int (nI 0), .int (nI 0), .int (nI 0), .int (nI 0)]) (rest := []) X (aF_refusal l hl0 G _ a _ _ hI (nI 0) (nI 0) (nI 0) (nI 0) (nI 0) 1 ehq_19 (by decide)) (vx_cwSW 7 hts gL_house_L_act rfl rfl rfl (by decide +kernel) ⟨Nat.le_of_ble_eq_true rfl, Nat.le_of_ble_eq_true rfl⟩) ⟨b_blind, fun U9 hU9 hW9 => ⟨rfl, hs_pre E Z9 w hm9 U9 hU9 hW9⟩⟩ rfl rfl hl.1 rfl (lv_room (Nat.le_of_ble_eq_true rfl)) dL_house_186 ⟨Nat.le_of_ble_eq_true rfl, Nat.le_of_ble_eq_true rfl⟩) hm9 (fun r i H locs hr w => ?_)
  obtain ⟨hI, hr9⟩ := hr
  refine b_tp (hr9.trans (show hs_r 1 = -71 from by decide)) ?_
  refine lv_bipush (v := -71) hx hb dL_house_189 (by decide) ?_
  refine lv_icmp_ne (tgt := 201) hx hb dL_house_191 (by decide) (fun c9 => absurd rfl c9) (fun c9 => ?_)
  refine lv_aload_n hx hb dL_house_194 rfl (lv_at hl 0 rfl) ?_
  refine hs_calli w (va_runV (As := []) (rest := []) X (n_wipe l hl0 G _ a _ _ _ _ hI ehq_20) (cwV 0 hts gL_house_X5_wipe rfl rfl rfl (by decide +kernel) ⟨Nat.le_of_ble_eq_true rfl, Nat.le_of_ble_eq_true rfl⟩) ⟨b_blind, hs_recv E w, fun U9 hU9 hW9 => ⟨rfl, hs_pre E Z9 w hm9 U9 hU9 hW9⟩⟩ rfl rfl hl.1 rfl (lv_room (Nat.le_of_ble_eq_true rfl)) dL_house_195 ⟨Nat.le_of_ble_eq_true rfl, Nat.le_of_ble_eq_true rfl⟩) hm9 (fun r i H locs hr w => ?_)
  obtain ⟨hI, hr9⟩ := hr
  refine b_tp hr9 ?_
  refine lv_if_eq (tgt := 203) hx hb dL_house_198 (by decide) (fun c9 => ?_) (fun c9 => absurd rfl c9)
  refine lv_aload_n hx hb dL_house_203 rfl (lv_at hl 0 rfl) ?_
  refine lv_iconst (v := nI 0) hx hb dL_house_204 (by decide) ?_
  refine lv_iconst (v := nI 1) hx hb dL_house_205 (by decide) ?_
  refine lv_iconst (v := nI 1) hx hb dL_house_206 (by decide) ?_
  refine lv_iconst (v := nI 5) hx hb dL_house_207 (by decide) ?_
  refine lv_bipush (v := nI 10) hx hb dL_house_208 (by decide) ?_
  refine hs_calli w (va_runV (As := [.int (nI 0), .int (nI 1), .int (nI 1), .int (nI 5), .int (nI 10)]) (rest := []) X (n_put l hl0 G _ a _ _ _ _ hI _ _ _ _ _ ehq_21) (cwV 5 hts gL_house_X5_put rfl rfl rfl (by decide +kernel) ⟨Nat.le_of_ble_eq_true rfl, Nat.le_of_ble_eq_true rfl⟩) ⟨b_blind, hs_recv E w, fun U9 hU9 hW9 => ⟨rfl, hs_pre E Z9 w hm9 U9 hU9 hW9⟩⟩ rfl rfl hl.1 rfl (lv_room (Nat.le_of_ble_eq_true rfl)) dL_house_210 ⟨Nat.le_of_ble_eq_true rfl, Nat.le_of_ble_eq_true rfl⟩) hm9 (fun r i H locs hr w => ?_)
  obtain ⟨hI, hr9⟩ := hr
  refine b_tp hr9 ?_
  refine lv_iconst (v := nI 1) hx hb dL_house_213 (by decide) ?_
  refine lv_icmp_ne (tgt := 598) hx hb dL_house_214 (by decide) (fun c9 => absurd rfl c9) (fun c9 => ?_)
  refine lv_aload_n hx hb dL_house_217 rfl (lv_at hl 0 rfl) ?_
  refine lv_iconst (v := nI 0) hx hb dL_house_218 (by decide) ?_
  refine lv_iconst (v := nI 1) hx hb dL_house_219 (by decide) ?_
  refine lv_iconst (v := nI 2) hx hb dL_house_220 (by decide) ?_
  refine lv_iconst (v := nI 5) hx hb dL_house_221 (by decide) ?_
  refine lv_iconst (v := nI 4) hx hb dL_house_222 (by decide) ?_
  refine hs_calli w (va_runV (As := [.int (nI 0), .int (nI 1), .int (nI 2), .int (nI 5), .int (nI 4)]) (rest := []) X (n_put l hl0 G _ a _ _ _ _ hI _ _ _ _ _ ehq_22) (cwV 5 hts gL_house_X5_put rfl rfl rfl (by decide +kernel) ⟨Nat.le_of_ble_eq_true rfl, Nat.le_of_ble_eq_true rfl⟩) ⟨b_blind, hs_recv E w, fun U9 hU9 hW9 => ⟨rfl, hs_pre E Z9 w hm9 U9 hU9 hW9⟩⟩ rfl rfl hl.1 rfl (lv_room (Nat.le_of_ble_eq_true rfl)) dL_house_223 ⟨Nat.le_of_ble_eq_true rfl, Nat.le_of_ble_eq_true rfl⟩) hm9 (fun r i H locs hr w => ?_)
  obtain ⟨hI, hr9⟩ := hr
  refine b_tp hr9 ?_
  refine lv_iconst (v := nI 2) hx hb dL_house_226 (by decide) ?_
  refine lv_icmp_ne (tgt := 598) hx hb dL_house_227 (by decide) (fun c9 => absurd rfl c9) (fun c9 => ?_)
  refine lv_aload_n hx hb dL_house_230 rfl (lv_at hl 0 rfl) ?_
  refine lv_iconst (v := nI 0) hx hb dL_house_231 (by decide) ?_
  refine lv_iconst (v := nI 2) hx hb dL_house_232 (by decide) ?_
  refine lv_iconst (v := nI 1) hx hb dL_house_233 (by decide) ?_
  refine lv_iconst (v := nI 5) hx hb dL_house_234 (by decide) ?_
  refine lv_bipush (v := nI 7) hx hb dL_house_235 (by decide) ?_
  refine hs_calli w (va_runV (As := [.int (nI 0), .int (nI 2), .int (nI 1), .int (nI 5), .int (nI 7)]) (rest := []) X (n_put l hl0 G _ a _ _ _ _ hI _ _ _ _ _ ehq_23) (cwV 5 hts gL_house_X5_put rfl rfl rfl (by decide +kernel) ⟨Nat.le_of_ble_eq_true rfl, Nat.le_of_ble_eq_true rfl⟩) ⟨b_blind, hs_recv E w, fun U9 hU9 hW9 => ⟨rfl, hs_pre E Z9 w hm9 U9 hU9 hW9⟩⟩ rfl rfl hl.1 rfl (lv_room (Nat.le_of_ble_eq_true rfl)) dL_house_237 ⟨Nat.le_of_ble_eq_true rfl, Nat.le_of_ble_eq_true rfl⟩) hm9 (fun r i H locs hr w => ?_)
  obtain ⟨hI, hr9⟩ := hr
  refine b_tp hr9 ?_
  refine lv_iconst (v := nI 3) hx hb dL_house_240 (by decide) ?_
  refine lv_icmp_ne (tgt := 598) hx hb dL_house_241 (by decide) (fun c9 => absurd rfl c9) (fun c9 => ?_)
  refine lv_aload_n hx hb dL_house_244 rfl (lv_at hl 0 rfl) ?_
  refine lv_iconst (v := nI 0) hx hb dL_house_245 (by decide) ?_
  refine lv_iconst (v := nI 3) hx hb dL_house_246 (by decide) ?_
  refine lv_iconst (v := nI 2) hx hb dL_house_247 (by decide) ?_
  refine lv_iconst (v := nI 5) hx hb dL_house_248 (by decide) ?_
  refine lv_bipush (v := -3) hx hb dL_house_249 (by decide) ?_
  refine hs_calli w (va_runV (As := [.int (nI 0), .int (nI 3), .int (nI 2), .int (nI 5), .int (-3)]) (rest := []) X (n_put l hl0 G _ a _ _ _ _ hI _ _ _ _ _ ehq_24) (cwV 5 hts gL_house_X5_put rfl rfl rfl (by decide +kernel) ⟨Nat.le_of_ble_eq_true rfl, Nat.le_of_ble_eq_true rfl⟩) ⟨b_blind, hs_recv E w, fun U9 hU9 hW9 => ⟨rfl, hs_pre E Z9 w hm9 U9 hU9 hW9⟩⟩ rfl rfl hl.1 rfl (lv_room (Nat.le_of_ble_eq_true rfl)) dL_house_251 ⟨Nat.le_of_ble_eq_true rfl, Nat.le_of_ble_eq_true rfl⟩) hm9 (fun r i H locs hr w => ?_)
  obtain ⟨hI, hr9⟩ := hr
  refine b_tp hr9 ?_
  refine lv_iconst (v := nI 4) hx hb dL_house_254 (by decide) ?_
  refine lv_icmp_ne (tgt := 598) hx hb dL_house_255 (by decide) (fun c9 => absurd rfl c9) (fun c9 => ?_)
  refine lv_aload_n hx hb dL_house_258 rfl (lv_at hl 0 rfl) ?_
  refine lv_iconst (v := nI 0) hx hb dL_house_259 (by decide) ?_
  refine lv_iconst (v := nI 1) hx hb dL_house_260 (by decide) ?_
  refine lv_iconst (v := nI 1) hx hb dL_house_261 (by decide) ?_
  refine lv_iconst (v := nI 5) hx hb dL_house_262 (by decide) ?_
  refine lv_bipush (v := nI 11) hx hb dL_house_263 (by decide) ?_
  refine hs_calli w (va_runV (As := [.int (nI 0), .int (nI 1), .int (nI 1), .int (nI 5), .int (nI 11)]) (rest := []) X (n_put l hl0 G _ a _ _ _ _ hI _ _ _ _ _ ehq_25) (cwV 5 hts gL_house_X5_put rfl rfl rfl (by decide +kernel) ⟨Nat.le_of_ble_eq_true rfl, Nat.le_of_ble_eq_true rfl⟩) ⟨b_blind, hs_recv E w, fun U9 hU9 hW9 => ⟨rfl, hs_pre E Z9 w hm9 U9 hU9 hW9⟩⟩ rfl rfl hl.1 rfl (lv_room (Nat.le_of_ble_eq_true rfl)) dL_house_265 ⟨Nat.le_of_ble_eq_true rfl, Nat.le_of_ble_eq_true rfl⟩) hm9 (fun r i H locs hr w => ?_)
  obtain ⟨hI, hr9⟩ := hr
  refine b_tp hr9 ?_
  refine lv_iconst (v := nI 5) hx hb dL_house_268 (by decide) ?_
  refine lv_icmp_ne (tgt := 598) hx hb dL_house_269 (by decide) (fun c9 => absurd rfl c9) (fun c9 => ?_)
  refine lv_aload_n hx hb dL_house_272 rfl (lv_at hl 0 rfl) ?_
  refine lv_iconst (v := nI 1) hx hb dL_house_273 (by decide) ?_
  refine lv_iconst (v := nI 1) hx hb dL_house_274 (by decide) ?_
  refine lv_iconst (v := nI 1) hx hb dL_house_275 (by decide) ?_
  refine lv_iconst (v := nI 5) hx hb dL_house_276 (by decide) ?_
  refine lv_bipush (v := nI 10) hx hb dL_house_277 (by decide) ?_
  refine hs_calli w (va_runV (As := [.int (nI 1), .int (nI 1), .int (nI 1), .int (nI 5), .int (nI 10)]) (rest := []) X (n_put l hl0 G _ a _ _ _ _ hI _ _ _ _ _ ehq_26) (cwV 5 hts gL_house_X5_put rfl rfl rfl (by decide +kernel) ⟨Nat.le_of_ble_eq_true rfl, Nat.le_of_ble_eq_true rfl⟩) ⟨b_blind, hs_recv E w, fun U9 hU9 hW9 => ⟨rfl, hs_pre E Z9 w hm9 U9 hU9 hW9⟩⟩ rfl rfl hl.1 rfl (lv_room (Nat.le_of_ble_eq_true rfl)) dL_house_279 ⟨Nat.le_of_ble_eq_true rfl, Nat.le_of_ble_eq_true rfl⟩) hm9 (fun r i H locs hr w => ?_)
  obtain ⟨hI, hr9⟩ := hr
  refine b_tp hr9 ?_
  refine lv_bipush (v := nI 6) hx hb dL_house_282 (by decide) ?_
  refine lv_icmp_ne (tgt := 598) hx hb dL_house_284 (by decide) (fun c9 => absurd rfl c9) (fun c9 => ?_)
  refine lv_aload_n hx hb dL_house_287 rfl (lv_at hl 0 rfl) ?_
  refine lv_iconst (v := nI 2) hx hb dL_house_288 (by decide) ?_
  refine lv_iconst (v := nI 2) hx hb dL_house_289 (by decide) ?_
  refine lv_iconst (v := nI 2) hx hb dL_house_290 (by decide) ?_
  refine lv_iconst (v := nI 5) hx hb dL_house_291 (by decide) ?_
  refine lv_iconst (v := nI 0) hx hb dL_house_292 (by decide) ?_
  refine hs_calli w (va_runV (As := [.int (nI 2), .int (nI 2), .int (nI 2), .int (nI 5), .int (nI 0)]) (rest := []) X (n_put l hl0 G _ a _ _ _ _ hI _ _ _ _ _ ehq_27) (cwV 5 hts gL_house_X5_put rfl rfl rfl (by decide +kernel) ⟨Nat.le_of_ble_eq_true rfl, Nat.le_of_ble_eq_true rfl⟩) ⟨b_blind, hs_recv E w, fun U9 hU9 hW9 => ⟨rfl, hs_pre E Z9 w hm9 U9 hU9 hW9⟩⟩ rfl rfl hl.1 rfl (lv_room (Nat.le_of_ble_eq_true rfl)) dL_house_293 ⟨Nat.le_of_ble_eq_true rfl, Nat.le_of_ble_eq_true rfl⟩) hm9 (fun r i H locs hr w => ?_)
  obtain ⟨hI, hr9⟩ := hr
  refine b_tp hr9 ?_
  refine lv_bipush (v := nI 7) hx hb dL_house_296 (by decide) ?_
  refine lv_icmp_ne (tgt := 598) hx hb dL_house_298 (by decide) (fun c9 => absurd rfl c9) (fun c9 => ?_)
  refine lv_aload_n hx hb dL_house_301 rfl (lv_at hl 0 rfl) ?_
  refine lv_iconst (v := nI 0) hx hb dL_house_302 (by decide) ?_
  refine hs_calli w (va_runV (As := [.int (nI 0)]) (rest := []) X (n_send l hl0 G _ a _ _ _ _ hI _ ehq_28) (cwV 1 hts gL_house_X5_send rfl rfl rfl (by decide +kernel) ⟨Nat.le_of_ble_eq_true rfl, Nat.le_of_ble_eq_true rfl⟩) ⟨b_blind, hs_recv E w, fun U9 hU9 hW9 => ⟨rfl, hs_pre E Z9 w hm9 U9 hU9 hW9⟩⟩ rfl rfl hl.1 rfl (lv_room (Nat.le_of_ble_eq_true rfl)) dL_house_303 ⟨Nat.le_of_ble_eq_true rfl, Nat.le_of_ble_eq_true rfl⟩) hm9 (fun r i H locs hr w => ?_)
  obtain ⟨hI, hr9⟩ := hr
  refine b_tp hr9 ?_
  refine lv_iconst (v := nI 4) hx hb dL_house_306 (by decide) ?_
  refine lv_icmp_ne (tgt := 598) hx hb dL_house_307 (by decide) (fun c9 => absurd rfl c9) (fun c9 => ?_)
  refine lv_aload_n hx hb dL_house_310 rfl (lv_at hl 0 rfl) ?_
  refine lv_iconst (v := nI 0) hx hb dL_house_311 (by decide) ?_
  refine hs_calli w (va_runV (As := [.int (nI 0)]) (rest := []) X (n_refusal l hl0 G _ a _ _ _ _ hI _ ehq_29) (cwV 1 hts gL_house_X5_refusal rfl rfl rfl (by decide +kernel) ⟨Nat.le_of_ble_eq_true rfl, Nat.le_of_ble_eq_true rfl⟩) ⟨b_blind, hs_recv E w, fun U9 hU9 hW9 => ⟨rfl, hs_pre E Z9 w hm9 U9 hU9 hW9⟩⟩ rfl rfl hl.1 rfl (lv_room (Nat.le_of_ble_eq_true rfl)) dL_house_312 ⟨Nat.le_of_ble_eq_true rfl, Nat.le_of_ble_eq_true rfl⟩) hm9 (fun r i H locs hr w => ?_)
  obtain ⟨hI, hr9⟩ := hr
  refine b_tp hr9 ?_
  refine lv_if_ne (tgt := 598) hx hb dL_house_315 (by decide) (fun c9 => absurd rfl c9) (fun c9 => ?_)
  refine lv_aload_n hx hb dL_house_318 rfl (lv_at hl 0 rfl) ?_
  refine lv_iconst (v := nI 3) hx hb dL_house_319 (by decide) ?_
  refine hs_calli w (va_runV (As := [.int (nI 3)]) (rest := []) X (n_refusal l hl0 G _ a _ _ _ _ hI _ ehq_30) (cwV 1 hts gL_house_X5_refusal rfl rfl rfl (by decide +kernel) ⟨Nat.le_of_ble_eq_true rfl, Nat.le_of_ble_eq_true rfl⟩) ⟨b_blind, hs_recv E w, fun U9 hU9 hW9 => ⟨rfl, hs_pre E Z9 w hm9 U9 hU9 hW9⟩⟩ rfl rfl hl.1 rfl (lv_room (Nat.le_of_ble_eq_true rfl)) dL_house_320 ⟨Nat.le_of_ble_eq_true rfl, Nat.le_of_ble_eq_true rfl⟩) hm9 (fun r i H locs hr w => ?_)
  obtain ⟨hI, hr9⟩ := hr
  refine b_tp hr9 ?_
  refine lv_if_ne (tgt := 598) hx hb dL_house_323 (by decide) (fun c9 => absurd rfl c9) (fun c9 => ?_)
  refine lv_aload_n hx hb dL_house_326 rfl (lv_at hl 0 rfl) ?_
  refine lv_iconst (v := nI 4) hx hb dL_house_327 (by decide) ?_
  refine hs_calli w (va_runV (As := [.int (nI 4)]) (rest := []) X (n_refusal l hl0 G _ a _ _ _ _ hI _ ehq_31) (cwV 1 hts gL_house_X5_refusal rfl rfl rfl (by decide +kernel) ⟨Nat.le_of_ble_eq_true rfl, Nat.le_of_ble_eq_true rfl⟩) ⟨b_blind, hs_recv E w, fun U9 hU9 hW9 => ⟨rfl, hs_pre E Z9 w hm9 U9 hU9 hW9⟩⟩ rfl rfl hl.1 rfl (lv_room (Nat.le_of_ble_eq_true rfl)) dL_house_328 ⟨Nat.le_of_ble_eq_true rfl, Nat.le_of_ble_eq_true rfl⟩) hm9 (fun r i H locs hr w => ?_)
  obtain ⟨hI, hr9⟩ := hr
  refine b_tp hr9 ?_
  refine lv_iconst (v := nI 2) hx hb dL_house_331 (by decide) ?_
  refine lv_icmp_ne (tgt := 598) hx hb dL_house_332 (by decide) (fun c9 => absurd rfl c9) (fun c9 => ?_)
  refine lv_aload_n hx hb dL_house_335 rfl (lv_at hl 0 rfl) ?_
  refine lv_iconst (v := nI 5) hx hb dL_house_336 (by decide) ?_
  refine hs_calli w (va_runV (As := [.int (nI 5)]) (rest := []) X (n_refusal l hl0 G _ a _ _ _ _ hI _ ehq_32) (cwV 1 hts gL_house_X5_refusal rfl rfl rfl (by decide +kernel) ⟨Nat.le_of_ble_eq_true rfl, Nat.le_of_ble_eq_true rfl⟩) ⟨b_blind, hs_recv E w, fun U9 hU9 hW9 => ⟨rfl, hs_pre E Z9 w hm9 U9 hU9 hW9⟩⟩ rfl rfl hl.1 rfl (lv_room (Nat.le_of_ble_eq_true rfl)) dL_house_337 ⟨Nat.le_of_ble_eq_true rfl, Nat.le_of_ble_eq_true rfl⟩) hm9 (fun r i H locs hr w => ?_)
  obtain ⟨hI, hr9⟩ := hr
  refine b_tp hr9 ?_
  refine lv_iconst (v := nI 4) hx hb dL_house_340 (by decide) ?_
  refine lv_icmp_ne (tgt := 598) hx hb dL_house_341 (by decide) (fun c9 => absurd rfl c9) (fun c9 => ?_)
  refine lv_aload_n hx hb dL_house_344 rfl (lv_at hl 0 rfl) ?_
  refine lv_bipush (v := nI 6) hx hb dL_house_345 (by decide) ?_
  refine hs_calli w (va_runV (As := [.int (nI 6)]) (rest := []) X (n_refusal l hl0 G _ a _ _ _ _ hI _ ehq_33) (cwV 1 hts gL_house_X5_refusal rfl rfl rfl (by decide +kernel) ⟨Nat.le_of_ble_eq_true rfl, Nat.le_of_ble_eq_true rfl⟩) ⟨b_blind, hs_recv E w, fun U9 hU9 hW9 => ⟨rfl, hs_pre E Z9 w hm9 U9 hU9 hW9⟩⟩ rfl rfl hl.1 rfl (lv_room (Nat.le_of_ble_eq_true rfl)) dL_house_347 ⟨Nat.le_of_ble_eq_true rfl, Nat.le_of_ble_eq_true rfl⟩) hm9 (fun r i H locs hr w => ?_)
  obtain ⟨hI, hr9⟩ := hr
  refine b_tp hr9 ?_
  refine lv_iconst (v := nI 3) hx hb dL_house_350 (by decide) ?_
  refine lv_icmp_ne (tgt := 598) hx hb dL_house_351 (by decide) (fun c9 => absurd rfl c9) (fun c9 => ?_)
  refine lv_aload_n hx hb dL_house_354 rfl (lv_at hl 0 rfl) ?_
  refine lv_iconst (v := nI 5) hx hb dL_house_355 (by decide) ?_
  refine lv_bipush (v := nI 7) hx hb dL_house_356 (by decide) ?_
  refine lv_iconst (v := nI 0) hx hb dL_house_358 (by decide) ?_
  refine lv_iconst (v := nI 0) hx hb dL_house_359 (by decide) ?_
  refine lv_iconst (v := nI 0) hx hb dL_house_360 (by decide) ?_
  refine lv_iconst (v := nI 0) hx hb dL_house_361 (by decide) ?_
  refine hs_calli w (vx_runSW (As := [.ref (a 0), .int (nI 5), .int (nI 7), .int (nI 0), .int (nI 0), .int (nI 0), .int (nI 0)]) (rest := []) X (aF_refusal l hl0 G _ a _ _ hI (nI 7) (nI 0) (nI 0) (nI 0) (nI 0) 1 ehq_34 (by decide)) (vx_cwSW 7 hts gL_house_L_act rfl rfl rfl (by decide +kernel) ⟨Nat.le_of_ble_eq_true rfl, Nat.le_of_ble_eq_true rfl⟩) ⟨b_blind, fun U9 hU9 hW9 => ⟨rfl, hs_pre E Z9 w hm9 U9 hU9 hW9⟩⟩ rfl rfl hl.1 rfl (lv_room (Nat.le_of_ble_eq_true rfl)) dL_house_362 ⟨Nat.le_of_ble_eq_true rfl, Nat.le_of_ble_eq_true rfl⟩) hm9 (fun r i H locs hr w => ?_)
  obtain ⟨hI, hr9⟩ := hr
  refine b_tp (hr9.trans (show hs_r 1 = -71 from by decide)) ?_
  refine lv_bipush (v := -71) hx hb dL_house_365 (by decide) ?_
  refine lv_icmp_ne (tgt := 598) hx hb dL_house_367 (by decide) (fun c9 => absurd rfl c9) (fun c9 => ?_)
  refine lv_aload_n hx hb dL_house_370 rfl (lv_at hl 0 rfl) ?_
  refine hs_calli w (va_runV (As := []) (rest := []) X (n_wipe l hl0 G _ a _ _ _ _ hI ehq_35) (cwV 0 hts gL_house_X5_wipe rfl rfl rfl (by decide +kernel) ⟨Nat.le_of_ble_eq_true rfl, Nat.le_of_ble_eq_true rfl⟩) ⟨b_blind, hs_recv E w, fun U9 hU9 hW9 => ⟨rfl, hs_pre E Z9 w hm9 U9 hU9 hW9⟩⟩ rfl rfl hl.1 rfl (lv_room (Nat.le_of_ble_eq_true rfl)) dL_house_371 ⟨Nat.le_of_ble_eq_true rfl, Nat.le_of_ble_eq_true rfl⟩) hm9 (fun r i H locs hr w => ?_)
  obtain ⟨hI, hr9⟩ := hr
  refine b_tp hr9 ?_
  refine lv_if_ne (tgt := 598) hx hb dL_house_374 (by decide) (fun c9 => absurd rfl c9) (fun c9 => ?_)
  refine lv_aload_n hx hb dL_house_377 rfl (lv_at hl 0 rfl) ?_
  refine lv_iconst (v := nI 1) hx hb dL_house_378 (by decide) ?_
  refine lv_iconst (v := nI 1) hx hb dL_house_379 (by decide) ?_
  refine lv_iconst (v := nI 5) hx hb dL_house_380 (by decide) ?_
  refine lv_iconst (v := nI 0) hx hb dL_house_381 (by decide) ?_
  refine hs_calli w (va_runV (As := [.int (nI 1), .int (nI 1), .int (nI 5), .int (nI 0)]) (rest := []) X (n_figure l hl0 G _ a _ _ _ _ hI _ _ _ _ ehq_36) (cwV 4 hts gL_house_X5_figure rfl rfl rfl (by decide +kernel) ⟨Nat.le_of_ble_eq_true rfl, Nat.le_of_ble_eq_true rfl⟩) ⟨b_blind, hs_recv E w, fun U9 hU9 hW9 => ⟨rfl, hs_pre E Z9 w hm9 U9 hU9 hW9⟩⟩ rfl rfl hl.1 rfl (lv_room (Nat.le_of_ble_eq_true rfl)) dL_house_382 ⟨Nat.le_of_ble_eq_true rfl, Nat.le_of_ble_eq_true rfl⟩) hm9 (fun r i H locs hr w => ?_)
  obtain ⟨hI, hr9⟩ := hr
  refine b_tp hr9 ?_
  refine lv_bipush (v := nI 10) hx hb dL_house_385 (by decide) ?_
  refine lv_icmp_ne (tgt := 598) hx hb dL_house_387 (by decide) (fun c9 => absurd rfl c9) (fun c9 => ?_)
  exact kk i _ _ _ hI w (lv_sub hl [0] rfl)
set_option maxHeartbeats 4000000 in
set_option maxRecDepth 100000 in
theorem sg_house_2 {p : Program} {l : Launch} (hl0 : l.stackTraces = false) {e : Env} {s : State} {m : MethodId} {below : List Frame} {meth : Method} {c : Code} {G : bG} {args : Array Value} {Q : State → Prop} (X : CallFix p m c cL_house 1 s args wsL_house RL) (E : bE G vwCl bNW bSW s) {a : Nat → Nat} (Z9 : bZ [] s) (hm9 : ∀ q ∈ hs_M a, Aw [] s.heap.size q) {i : hs_I} {H : Heap} {locs : List Loc} {ls : Array Slot} (hI : hs_Inv eh_21 i) (w : bSt G vwCl [] s (hs_W G a eh_21 i) H locs) (hl : lv_has ls 1 [(0, .ref (a 0))])
    (kk : ∀ (i : hs_I) (H : Heap) (locs : List Loc) (ls : Array Slot), hs_Inv eh_22 i → bSt G vwCl [] s (hs_W G a eh_22 i) H locs → lv_has ls 1 [(0, .ref (a 0))] → W p l e ({ frames := 11, cells := 2785, slots := 45655, locals := 259 }) s m args below meth c H locs 437 12245 Q (F0 m 609 ls [])) : W p l e ({ frames := 11, cells := 2785, slots := 45655, locals := 259 }) s m args below meth c H locs 408 12071 Q (F0 m 390 ls []) := by
  have hx := X.1
  have hb := X.2.1
  have hml := X.2.2.1
  have hown := X.2.2.2.1
  have hts := X.2.2.2.2
  refine lv_aload_n hx hb dL_house_390 rfl (lv_at hl 0 rfl) ?_
  refine lv_iconst (v := nI 1) hx hb dL_house_391 (by decide) ?_
  refine lv_iconst (v := nI 1) hx hb dL_house_392 (by decide) ?_
  refine lv_iconst (v := nI 4) hx hb dL_house_393 (by decide) ?_
  refine lv_iconst (v := nI 0) hx hb dL_house_394 (by decide) ?_
  refine hs_calli w (va_runV (As := [.int (nI 1), .int (nI 1), .int (nI 4), .int (nI 0)]) (rest := []) X (n_figure l hl0 G _ a _ _ _ _ hI _ _ _ _ ehq_37) (cwV 4 hts gL_house_X5_figure rfl rfl rfl (by decide +kernel) ⟨Nat.le_of_ble_eq_true rfl, Nat.le_of_ble_eq_true rfl⟩) ⟨b_blind, hs_recv E w, fun U9 hU9 hW9 => ⟨rfl, hs_pre E Z9 w hm9 U9 hU9 hW9⟩⟩ rfl rfl hl.1 rfl (lv_room (Nat.le_of_ble_eq_true rfl)) dL_house_395 ⟨Nat.le_of_ble_eq_true rfl, Nat.le_of_ble_eq_true rfl⟩) hm9 (fun r i H locs hr w => ?_)
  obtain ⟨hI, hr9⟩ := hr
  refine b_tp hr9 ?_
  refine lv_ldc (v := MIS) hx hb hown (hts (.constant RL 95 (-2000000001)) (by decide +kernel)) dL_house_398 ?_
  refine lv_icmp_ne (tgt := 598) hx hb dL_house_400 (by decide) (fun c9 => absurd rfl c9) (fun c9 => ?_)
  refine lv_aload_n hx hb dL_house_403 rfl (lv_at hl 0 rfl) ?_
  refine lv_iconst (v := nI 0) hx hb dL_house_404 (by decide) ?_
  refine lv_iconst (v := nI 1) hx hb dL_house_405 (by decide) ?_
  refine lv_iconst (v := nI 5) hx hb dL_house_406 (by decide) ?_
  refine lv_iconst (v := nI 0) hx hb dL_house_407 (by decide) ?_
  refine hs_calli w (va_runV (As := [.int (nI 0), .int (nI 1), .int (nI 5), .int (nI 0)]) (rest := []) X (n_value l hl0 G _ a _ _ _ _ hI _ _ _ _ ehq_38) (cwV 4 hts gL_house_X5_value rfl rfl rfl (by decide +kernel) ⟨Nat.le_of_ble_eq_true rfl, Nat.le_of_ble_eq_true rfl⟩) ⟨b_blind, hs_recv E w, fun U9 hU9 hW9 => ⟨rfl, hs_pre E Z9 w hm9 U9 hU9 hW9⟩⟩ rfl rfl hl.1 rfl (lv_room (Nat.le_of_ble_eq_true rfl)) dL_house_408 ⟨Nat.le_of_ble_eq_true rfl, Nat.le_of_ble_eq_true rfl⟩) hm9 (fun r i H locs hr w => ?_)
  obtain ⟨hI, hr9, -⟩ := hr
  refine b_tp hr9 ?_
  refine lv_bipush (v := nI 17) hx hb dL_house_411 (by decide) ?_
  refine lv_icmp_ne (tgt := 598) hx hb dL_house_413 (by decide) (fun c9 => absurd rfl c9) (fun c9 => ?_)
  refine lv_aload_n hx hb dL_house_416 rfl (lv_at hl 0 rfl) ?_
  refine lv_iconst (v := nI 0) hx hb dL_house_417 (by decide) ?_
  refine lv_iconst (v := nI 1) hx hb dL_house_418 (by decide) ?_
  refine lv_iconst (v := nI 5) hx hb dL_house_419 (by decide) ?_
  refine lv_iconst (v := nI 0) hx hb dL_house_420 (by decide) ?_
  refine hs_calli w (va_runV (As := [.int (nI 0), .int (nI 1), .int (nI 5), .int (nI 0)]) (rest := []) X (n_figure l hl0 G _ a _ _ _ _ hI _ _ _ _ ehq_39) (cwV 4 hts gL_house_X5_figure rfl rfl rfl (by decide +kernel) ⟨Nat.le_of_ble_eq_true rfl, Nat.le_of_ble_eq_true rfl⟩) ⟨b_blind, hs_recv E w, fun U9 hU9 hW9 => ⟨rfl, hs_pre E Z9 w hm9 U9 hU9 hW9⟩⟩ rfl rfl hl.1 rfl (lv_room (Nat.le_of_ble_eq_true rfl)) dL_house_421 ⟨Nat.le_of_ble_eq_true rfl, Nat.le_of_ble_eq_true rfl⟩) hm9 (fun r i H locs hr w => ?_)
  obtain ⟨hI, hr9⟩ := hr
  refine b_tp hr9 ?_
  refine lv_ldc (v := MIS) hx hb hown (hts (.constant RL 95 (-2000000001)) (by decide +kernel)) dL_house_424 ?_
  refine lv_icmp_ne (tgt := 598) hx hb dL_house_426 (by decide) (fun c9 => absurd rfl c9) (fun c9 => ?_)
  refine lv_aload_n hx hb dL_house_429 rfl (lv_at hl 0 rfl) ?_
  refine lv_iconst (v := nI 2) hx hb dL_house_430 (by decide) ?_
  refine lv_iconst (v := nI 2) hx hb dL_house_431 (by decide) ?_
  refine lv_iconst (v := nI 5) hx hb dL_house_432 (by decide) ?_
  refine lv_iconst (v := nI 0) hx hb dL_house_433 (by decide) ?_
  refine hs_calli w (va_runV (As := [.int (nI 2), .int (nI 2), .int (nI 5), .int (nI 0)]) (rest := []) X (n_value l hl0 G _ a _ _ _ _ hI _ _ _ _ ehq_40) (cwV 4 hts gL_house_X5_value rfl rfl rfl (by decide +kernel) ⟨Nat.le_of_ble_eq_true rfl, Nat.le_of_ble_eq_true rfl⟩) ⟨b_blind, hs_recv E w, fun U9 hU9 hW9 => ⟨rfl, hs_pre E Z9 w hm9 U9 hU9 hW9⟩⟩ rfl rfl hl.1 rfl (lv_room (Nat.le_of_ble_eq_true rfl)) dL_house_434 ⟨Nat.le_of_ble_eq_true rfl, Nat.le_of_ble_eq_true rfl⟩) hm9 (fun r i H locs hr w => ?_)
  obtain ⟨hI, hr9, -⟩ := hr
  refine b_tp hr9 ?_
  refine lv_bipush (v := -3) hx hb dL_house_437 (by decide) ?_
  refine lv_icmp_ne (tgt := 598) hx hb dL_house_439 (by decide) (fun c9 => absurd rfl c9) (fun c9 => ?_)
  refine lv_aload_n hx hb dL_house_442 rfl (lv_at hl 0 rfl) ?_
  refine lv_iconst (v := nI 0) hx hb dL_house_443 (by decide) ?_
  refine lv_iconst (v := nI 2) hx hb dL_house_444 (by decide) ?_
  refine lv_iconst (v := nI 5) hx hb dL_house_445 (by decide) ?_
  refine lv_iconst (v := nI 0) hx hb dL_house_446 (by decide) ?_
  refine hs_calli w (va_runV (As := [.int (nI 0), .int (nI 2), .int (nI 5), .int (nI 0)]) (rest := []) X (n_value l hl0 G _ a _ _ _ _ hI _ _ _ _ ehq_41) (cwV 4 hts gL_house_X5_value rfl rfl rfl (by decide +kernel) ⟨Nat.le_of_ble_eq_true rfl, Nat.le_of_ble_eq_true rfl⟩) ⟨b_blind, hs_recv E w, fun U9 hU9 hW9 => ⟨rfl, hs_pre E Z9 w hm9 U9 hU9 hW9⟩⟩ rfl rfl hl.1 rfl (lv_room (Nat.le_of_ble_eq_true rfl)) dL_house_447 ⟨Nat.le_of_ble_eq_true rfl, Nat.le_of_ble_eq_true rfl⟩) hm9 (fun r i H locs hr w => ?_)
  obtain ⟨hI, hr9, -⟩ := hr
  refine b_tp hr9 ?_
  refine lv_iconst (v := nI 1) hx hb dL_house_450 (by decide) ?_
  refine lv_icmp_ne (tgt := 598) hx hb dL_house_451 (by decide) (fun c9 => absurd rfl c9) (fun c9 => ?_)
  refine lv_aload_n hx hb dL_house_454 rfl (lv_at hl 0 rfl) ?_
  refine lv_iconst (v := nI 1) hx hb dL_house_455 (by decide) ?_
  refine lv_iconst (v := nI 0) hx hb dL_house_456 (by decide) ?_
  refine lv_iconst (v := nI 5) hx hb dL_house_457 (by decide) ?_
  refine lv_iconst (v := nI 0) hx hb dL_house_458 (by decide) ?_
  refine hs_calli w (va_runV (As := [.int (nI 1), .int (nI 0), .int (nI 5), .int (nI 0)]) (rest := []) X (n_value l hl0 G _ a _ _ _ _ hI _ _ _ _ ehq_42) (cwV 4 hts gL_house_X5_value rfl rfl rfl (by decide +kernel) ⟨Nat.le_of_ble_eq_true rfl, Nat.le_of_ble_eq_true rfl⟩) ⟨b_blind, hs_recv E w, fun U9 hU9 hW9 => ⟨rfl, hs_pre E Z9 w hm9 U9 hU9 hW9⟩⟩ rfl rfl hl.1 rfl (lv_room (Nat.le_of_ble_eq_true rfl)) dL_house_459 ⟨Nat.le_of_ble_eq_true rfl, Nat.le_of_ble_eq_true rfl⟩) hm9 (fun r i H locs hr w => ?_)
  obtain ⟨hI, hr9, -⟩ := hr
  refine b_tp hr9 ?_
  refine lv_bipush (v := nI 14) hx hb dL_house_462 (by decide) ?_
  refine lv_icmp_ne (tgt := 598) hx hb dL_house_464 (by decide) (fun c9 => absurd rfl c9) (fun c9 => ?_)
  refine lv_aload_n hx hb dL_house_467 rfl (lv_at hl 0 rfl) ?_
  refine lv_iconst (v := nI 2) hx hb dL_house_468 (by decide) ?_
  refine lv_iconst (v := nI 0) hx hb dL_house_469 (by decide) ?_
  refine lv_iconst (v := nI 5) hx hb dL_house_470 (by decide) ?_
  refine lv_iconst (v := nI 0) hx hb dL_house_471 (by decide) ?_
  refine hs_calli w (va_runV (As := [.int (nI 2), .int (nI 0), .int (nI 5), .int (nI 0)]) (rest := []) X (n_value l hl0 G _ a _ _ _ _ hI _ _ _ _ ehq_43) (cwV 4 hts gL_house_X5_value rfl rfl rfl (by decide +kernel) ⟨Nat.le_of_ble_eq_true rfl, Nat.le_of_ble_eq_true rfl⟩) ⟨b_blind, hs_recv E w, fun U9 hU9 hW9 => ⟨rfl, hs_pre E Z9 w hm9 U9 hU9 hW9⟩⟩ rfl rfl hl.1 rfl (lv_room (Nat.le_of_ble_eq_true rfl)) dL_house_472 ⟨Nat.le_of_ble_eq_true rfl, Nat.le_of_ble_eq_true rfl⟩) hm9 (fun r i H locs hr w => ?_)
  obtain ⟨hI, hr9, -⟩ := hr
  refine b_tp hr9 ?_
  refine lv_iconst (v := nI 4) hx hb dL_house_475 (by decide) ?_
  refine lv_icmp_ne (tgt := 598) hx hb dL_house_476 (by decide) (fun c9 => absurd rfl c9) (fun c9 => ?_)
  refine lv_aload_n hx hb dL_house_479 rfl (lv_at hl 0 rfl) ?_
  refine lv_iconst (v := nI 0) hx hb dL_house_480 (by decide) ?_
  refine lv_iconst (v := nI 0) hx hb dL_house_481 (by decide) ?_
  refine lv_iconst (v := nI 5) hx hb dL_house_482 (by decide) ?_
  refine lv_iconst (v := nI 0) hx hb dL_house_483 (by decide) ?_
  refine hs_calli w (va_runV (As := [.int (nI 0), .int (nI 0), .int (nI 5), .int (nI 0)]) (rest := []) X (n_value l hl0 G _ a _ _ _ _ hI _ _ _ _ ehq_44) (cwV 4 hts gL_house_X5_value rfl rfl rfl (by decide +kernel) ⟨Nat.le_of_ble_eq_true rfl, Nat.le_of_ble_eq_true rfl⟩) ⟨b_blind, hs_recv E w, fun U9 hU9 hW9 => ⟨rfl, hs_pre E Z9 w hm9 U9 hU9 hW9⟩⟩ rfl rfl hl.1 rfl (lv_room (Nat.le_of_ble_eq_true rfl)) dL_house_484 ⟨Nat.le_of_ble_eq_true rfl, Nat.le_of_ble_eq_true rfl⟩) hm9 (fun r i H locs hr w => ?_)
  obtain ⟨hI, hr9, -⟩ := hr
  refine b_tp hr9 ?_
  refine lv_bipush (v := nI 18) hx hb dL_house_487 (by decide) ?_
  refine lv_icmp_ne (tgt := 598) hx hb dL_house_489 (by decide) (fun c9 => absurd rfl c9) (fun c9 => ?_)
  refine lv_aload_n hx hb dL_house_492 rfl (lv_at hl 0 rfl) ?_
  refine lv_iconst (v := nI 3) hx hb dL_house_493 (by decide) ?_
  refine lv_iconst (v := nI 1) hx hb dL_house_494 (by decide) ?_
  refine lv_iconst (v := nI 5) hx hb dL_house_495 (by decide) ?_
  refine lv_iconst (v := nI 0) hx hb dL_house_496 (by decide) ?_
  refine hs_calli w (va_runV (As := [.int (nI 3), .int (nI 1), .int (nI 5), .int (nI 0)]) (rest := []) X (n_value l hl0 G _ a _ _ _ _ hI _ _ _ _ ehq_45) (cwV 4 hts gL_house_X5_value rfl rfl rfl (by decide +kernel) ⟨Nat.le_of_ble_eq_true rfl, Nat.le_of_ble_eq_true rfl⟩) ⟨b_blind, hs_recv E w, fun U9 hU9 hW9 => ⟨rfl, hs_pre E Z9 w hm9 U9 hU9 hW9⟩⟩ rfl rfl hl.1 rfl (lv_room (Nat.le_of_ble_eq_true rfl)) dL_house_497 ⟨Nat.le_of_ble_eq_true rfl, Nat.le_of_ble_eq_true rfl⟩) hm9 (fun r i H locs hr w => ?_)
  obtain ⟨hI, hr9, -⟩ := hr
  refine b_tp hr9 ?_
  refine lv_ldc (v := MIS) hx hb hown (hts (.constant RL 95 (-2000000001)) (by decide +kernel)) dL_house_500 ?_
  refine lv_icmp_ne (tgt := 598) hx hb dL_house_502 (by decide) (fun c9 => absurd rfl c9) (fun c9 => ?_)
  refine lv_aload_n hx hb dL_house_505 rfl (lv_at hl 0 rfl) ?_
  refine lv_iconst (v := nI 3) hx hb dL_house_506 (by decide) ?_
  refine lv_iconst (v := nI 0) hx hb dL_house_507 (by decide) ?_
  refine lv_iconst (v := nI 5) hx hb dL_house_508 (by decide) ?_
  refine lv_iconst (v := nI 0) hx hb dL_house_509 (by decide) ?_
  refine hs_calli w (va_runV (As := [.int (nI 3), .int (nI 0), .int (nI 5), .int (nI 0)]) (rest := []) X (n_value l hl0 G _ a _ _ _ _ hI _ _ _ _ ehq_46) (cwV 4 hts gL_house_X5_value rfl rfl rfl (by decide +kernel) ⟨Nat.le_of_ble_eq_true rfl, Nat.le_of_ble_eq_true rfl⟩) ⟨b_blind, hs_recv E w, fun U9 hU9 hW9 => ⟨rfl, hs_pre E Z9 w hm9 U9 hU9 hW9⟩⟩ rfl rfl hl.1 rfl (lv_room (Nat.le_of_ble_eq_true rfl)) dL_house_510 ⟨Nat.le_of_ble_eq_true rfl, Nat.le_of_ble_eq_true rfl⟩) hm9 (fun r i H locs hr w => ?_)
  obtain ⟨hI, hr9, -⟩ := hr
  refine b_tp hr9 ?_
  refine lv_ldc (v := MIS) hx hb hown (hts (.constant RL 95 (-2000000001)) (by decide +kernel)) dL_house_513 ?_
  refine lv_icmp_ne (tgt := 598) hx hb dL_house_515 (by decide) (fun c9 => absurd rfl c9) (fun c9 => ?_)
  refine lv_aload_n hx hb dL_house_518 rfl (lv_at hl 0 rfl) ?_
  refine lv_iconst (v := nI 0) hx hb dL_house_519 (by decide) ?_
  refine lv_iconst (v := nI 0) hx hb dL_house_520 (by decide) ?_
  refine lv_iconst (v := nI 4) hx hb dL_house_521 (by decide) ?_
  refine lv_iconst (v := nI 0) hx hb dL_house_522 (by decide) ?_
  refine hs_calli w (va_runV (As := [.int (nI 0), .int (nI 0), .int (nI 4), .int (nI 0)]) (rest := []) X (n_value l hl0 G _ a _ _ _ _ hI _ _ _ _ ehq_47) (cwV 4 hts gL_house_X5_value rfl rfl rfl (by decide +kernel) ⟨Nat.le_of_ble_eq_true rfl, Nat.le_of_ble_eq_true rfl⟩) ⟨b_blind, hs_recv E w, fun U9 hU9 hW9 => ⟨rfl, hs_pre E Z9 w hm9 U9 hU9 hW9⟩⟩ rfl rfl hl.1 rfl (lv_room (Nat.le_of_ble_eq_true rfl)) dL_house_523 ⟨Nat.le_of_ble_eq_true rfl, Nat.le_of_ble_eq_true rfl⟩) hm9 (fun r i H locs hr w => ?_)
  obtain ⟨hI, hr9, -⟩ := hr
  refine b_tp hr9 ?_
  refine lv_ldc (v := MIS) hx hb hown (hts (.constant RL 95 (-2000000001)) (by decide +kernel)) dL_house_526 ?_
  refine lv_icmp_ne (tgt := 598) hx hb dL_house_528 (by decide) (fun c9 => absurd rfl c9) (fun c9 => ?_)
  refine lv_aload_n hx hb dL_house_531 rfl (lv_at hl 0 rfl) ?_
  refine lv_iconst (v := nI 1) hx hb dL_house_532 (by decide) ?_
  refine lv_iconst (v := nI 1) hx hb dL_house_533 (by decide) ?_
  refine lv_iconst (v := nI 5) hx hb dL_house_534 (by decide) ?_
  refine hs_calli w (va_runV (As := [.int (nI 1), .int (nI 1), .int (nI 5)]) (rest := []) X (n_first l hl0 G _ a _ _ _ _ hI _ _ _ ehq_48) (cwV 3 hts gL_house_X5_first rfl rfl rfl (by decide +kernel) ⟨Nat.le_of_ble_eq_true rfl, Nat.le_of_ble_eq_true rfl⟩) ⟨b_blind, hs_recv E w, fun U9 hU9 hW9 => ⟨rfl, hs_pre E Z9 w hm9 U9 hU9 hW9⟩⟩ rfl rfl hl.1 rfl (lv_room (Nat.le_of_ble_eq_true rfl)) dL_house_535 ⟨Nat.le_of_ble_eq_true rfl, Nat.le_of_ble_eq_true rfl⟩) hm9 (fun r i H locs hr w => ?_)
  obtain ⟨hI, hr9⟩ := hr
  refine b_tp hr9 ?_
  refine lv_bipush (v := nI 10) hx hb dL_house_538 (by decide) ?_
  refine lv_icmp_ne (tgt := 598) hx hb dL_house_540 (by decide) (fun c9 => absurd rfl c9) (fun c9 => ?_)
  refine lv_aload_n hx hb dL_house_543 rfl (lv_at hl 0 rfl) ?_
  refine lv_iconst (v := nI 1) hx hb dL_house_544 (by decide) ?_
  refine lv_iconst (v := nI 1) hx hb dL_house_545 (by decide) ?_
  refine lv_iconst (v := nI 5) hx hb dL_house_546 (by decide) ?_
  refine hs_calli w (va_runV (As := [.int (nI 1), .int (nI 1), .int (nI 5)]) (rest := []) X (n_revisions l hl0 G _ a _ _ _ _ hI _ _ _ ehq_49) (cwV 3 hts gL_house_X5_revisions rfl rfl rfl (by decide +kernel) ⟨Nat.le_of_ble_eq_true rfl, Nat.le_of_ble_eq_true rfl⟩) ⟨b_blind, hs_recv E w, fun U9 hU9 hW9 => ⟨rfl, hs_pre E Z9 w hm9 U9 hU9 hW9⟩⟩ rfl rfl hl.1 rfl (lv_room (Nat.le_of_ble_eq_true rfl)) dL_house_547 ⟨Nat.le_of_ble_eq_true rfl, Nat.le_of_ble_eq_true rfl⟩) hm9 (fun r i H locs hr w => ?_)
  obtain ⟨hI, hr9⟩ := hr
  refine b_tp hr9 ?_
  refine lv_iconst (v := nI 1) hx hb dL_house_550 (by decide) ?_
  refine lv_icmp_ne (tgt := 598) hx hb dL_house_551 (by decide) (fun c9 => absurd rfl c9) (fun c9 => ?_)
  refine lv_aload_n hx hb dL_house_554 rfl (lv_at hl 0 rfl) ?_
  refine lv_iconst (v := nI 2) hx hb dL_house_555 (by decide) ?_
  refine lv_iconst (v := nI 2) hx hb dL_house_556 (by decide) ?_
  refine lv_iconst (v := nI 5) hx hb dL_house_557 (by decide) ?_
  refine hs_calli w (va_runV (As := [.int (nI 2), .int (nI 2), .int (nI 5)]) (rest := []) X (n_revisions l hl0 G _ a _ _ _ _ hI _ _ _ ehq_50) (cwV 3 hts gL_house_X5_revisions rfl rfl rfl (by decide +kernel) ⟨Nat.le_of_ble_eq_true rfl, Nat.le_of_ble_eq_true rfl⟩) ⟨b_blind, hs_recv E w, fun U9 hU9 hW9 => ⟨rfl, hs_pre E Z9 w hm9 U9 hU9 hW9⟩⟩ rfl rfl hl.1 rfl (lv_room (Nat.le_of_ble_eq_true rfl)) dL_house_558 ⟨Nat.le_of_ble_eq_true rfl, Nat.le_of_ble_eq_true rfl⟩) hm9 (fun r i H locs hr w => ?_)
  obtain ⟨hI, hr9⟩ := hr
  refine b_tp hr9 ?_
  refine lv_if_ne (tgt := 598) hx hb dL_house_561 (by decide) (fun c9 => absurd rfl c9) (fun c9 => ?_)
  refine lv_aload_n hx hb dL_house_564 rfl (lv_at hl 0 rfl) ?_
  refine lv_iconst (v := nI 2) hx hb dL_house_565 (by decide) ?_
  refine lv_iconst (v := nI 2) hx hb dL_house_566 (by decide) ?_
  refine lv_iconst (v := nI 5) hx hb dL_house_567 (by decide) ?_
  refine hs_calli w (va_runV (As := [.int (nI 2), .int (nI 2), .int (nI 5)]) (rest := []) X (n_first l hl0 G _ a _ _ _ _ hI _ _ _ ehq_51) (cwV 3 hts gL_house_X5_first rfl rfl rfl (by decide +kernel) ⟨Nat.le_of_ble_eq_true rfl, Nat.le_of_ble_eq_true rfl⟩) ⟨b_blind, hs_recv E w, fun U9 hU9 hW9 => ⟨rfl, hs_pre E Z9 w hm9 U9 hU9 hW9⟩⟩ rfl rfl hl.1 rfl (lv_room (Nat.le_of_ble_eq_true rfl)) dL_house_568 ⟨Nat.le_of_ble_eq_true rfl, Nat.le_of_ble_eq_true rfl⟩) hm9 (fun r i H locs hr w => ?_)
  obtain ⟨hI, hr9⟩ := hr
  refine b_tp hr9 ?_
  refine lv_ldc (v := MIS) hx hb hown (hts (.constant RL 95 (-2000000001)) (by decide +kernel)) dL_house_571 ?_
  refine lv_icmp_ne (tgt := 598) hx hb dL_house_573 (by decide) (fun c9 => absurd rfl c9) (fun c9 => ?_)
  refine lv_aload_n hx hb dL_house_576 rfl (lv_at hl 0 rfl) ?_
  refine lv_iconst (v := nI 1) hx hb dL_house_577 (by decide) ?_
  refine lv_iconst (v := nI 1) hx hb dL_house_578 (by decide) ?_
  refine lv_iconst (v := nI 5) hx hb dL_house_579 (by decide) ?_
  refine hs_calli w (va_runV (As := [.int (nI 1), .int (nI 1), .int (nI 5)]) (rest := []) X (n_hasFault l hl0 G _ a _ _ _ _ hI _ _ _ ehq_52) (cwV 3 hts gL_house_X5_hasFault rfl rfl rfl (by decide +kernel) ⟨Nat.le_of_ble_eq_true rfl, Nat.le_of_ble_eq_true rfl⟩) ⟨b_blind, hs_recv E w, fun U9 hU9 hW9 => ⟨rfl, hs_pre E Z9 w hm9 U9 hU9 hW9⟩⟩ rfl rfl hl.1 rfl (lv_room (Nat.le_of_ble_eq_true rfl)) dL_house_580 ⟨Nat.le_of_ble_eq_true rfl, Nat.le_of_ble_eq_true rfl⟩) hm9 (fun r i H locs hr w => ?_)
  obtain ⟨hI, hr9⟩ := hr
  refine b_tp hr9 ?_
  refine lv_if_ne (tgt := 598) hx hb dL_house_583 (by decide) (fun c9 => absurd (by decide) c9) (fun c9 => ?_)
  refine lv_aload_n hx hb dL_house_586 rfl (lv_at hl 0 rfl) ?_
  refine lv_iconst (v := nI 0) hx hb dL_house_587 (by decide) ?_
  refine lv_iconst (v := nI 0) hx hb dL_house_588 (by decide) ?_
  refine lv_iconst (v := nI 5) hx hb dL_house_589 (by decide) ?_
  refine hs_calli w (va_runV (As := [.int (nI 0), .int (nI 0), .int (nI 5)]) (rest := []) X (n_shown l hl0 G _ a _ _ _ _ hI _ _ _ ehq_53) (cwV 3 hts gL_house_X5_shown rfl rfl rfl (by decide +kernel) ⟨Nat.le_of_ble_eq_true rfl, Nat.le_of_ble_eq_true rfl⟩) ⟨b_blind, hs_recv E w, fun U9 hU9 hW9 => ⟨rfl, hs_pre E Z9 w hm9 U9 hU9 hW9⟩⟩ rfl rfl hl.1 rfl (lv_room (Nat.le_of_ble_eq_true rfl)) dL_house_590 ⟨Nat.le_of_ble_eq_true rfl, Nat.le_of_ble_eq_true rfl⟩) hm9 (fun r i H locs hr w => ?_)
  obtain ⟨hI, hr9, -⟩ := hr
  refine b_tp hr9 ?_
  refine lv_bipush (v := nI 18) hx hb dL_house_593 (by decide) ?_
  refine lv_icmp_eq (tgt := 600) hx hb dL_house_595 (by decide) (fun c9 => ?_) (fun c9 => absurd rfl c9)
  refine lv_aload_n hx hb dL_house_600 rfl (lv_at hl 0 rfl) ?_
  refine lv_iconst (v := nI 2) hx hb dL_house_601 (by decide) ?_
  refine hs_calli w (va_runV (As := [.int (nI 2)]) (rest := []) X (n_pass l hl0 G _ a _ _ _ _ hI _ ehq_54) (cwV 1 hts gL_house_X5_pass rfl rfl rfl (by decide +kernel) ⟨Nat.le_of_ble_eq_true rfl, Nat.le_of_ble_eq_true rfl⟩) ⟨b_blind, hs_recv E w, fun U9 hU9 hW9 => ⟨rfl, hs_pre E Z9 w hm9 U9 hU9 hW9⟩⟩ rfl rfl hl.1 rfl (lv_room (Nat.le_of_ble_eq_true rfl)) dL_house_602 ⟨Nat.le_of_ble_eq_true rfl, Nat.le_of_ble_eq_true rfl⟩) hm9 (fun r i H locs hr w => ?_)
  obtain ⟨hI, hr9⟩ := hr
  refine b_tp hr9 ?_
  refine lv_iconst (v := nI 2) hx hb dL_house_605 (by decide) ?_
  refine lv_icmp_ne (tgt := 987) hx hb dL_house_606 (by decide) (fun c9 => absurd rfl c9) (fun c9 => ?_)
  exact kk i _ _ _ hI w (lv_sub hl [0] rfl)
set_option maxHeartbeats 4000000 in
set_option maxRecDepth 100000 in
theorem sg_house_3 {p : Program} {l : Launch} (hl0 : l.stackTraces = false) {e : Env} {s : State} {m : MethodId} {below : List Frame} {meth : Method} {c : Code} {G : bG} {args : Array Value} {Q : State → Prop} (X : CallFix p m c cL_house 1 s args wsL_house RL) (E : bE G vwCl bNW bSW s) {a : Nat → Nat} (Z9 : bZ [] s) (hm9 : ∀ q ∈ hs_M a, Aw [] s.heap.size q) {i : hs_I} {H : Heap} {locs : List Loc} {ls : Array Slot} (hI : hs_Inv eh_22 i) (w : bSt G vwCl [] s (hs_W G a eh_22 i) H locs) (hl : lv_has ls 1 [(0, .ref (a 0))])
    (kk : ∀ (i : hs_I) (H : Heap) (locs : List Loc) (ls : Array Slot), hs_Inv eh_27 i → bSt G vwCl [] s (hs_W G a eh_27 i) H locs → lv_has ls 1 [(0, .ref (a 0))] → W p l e ({ frames := 11, cells := 2785, slots := 45655, locals := 259 }) s m args below meth c H locs 470 12443 Q (F0 m 835 ls [])) : W p l e ({ frames := 11, cells := 2785, slots := 45655, locals := 259 }) s m args below meth c H locs 437 12245 Q (F0 m 609 ls []) := by
  have hx := X.1
  have hb := X.2.1
  have hml := X.2.2.1
  have hown := X.2.2.2.1
  have hts := X.2.2.2.2
  refine lv_aload_n hx hb dL_house_609 rfl (lv_at hl 0 rfl) ?_
  refine lv_iconst (v := nI 1) hx hb dL_house_610 (by decide) ?_
  refine lv_iconst (v := nI 1) hx hb dL_house_611 (by decide) ?_
  refine lv_iconst (v := nI 1) hx hb dL_house_612 (by decide) ?_
  refine lv_iconst (v := nI 5) hx hb dL_house_613 (by decide) ?_
  refine lv_bipush (v := nI 12) hx hb dL_house_614 (by decide) ?_
  refine hs_calli w (va_runV (As := [.int (nI 1), .int (nI 1), .int (nI 1), .int (nI 5), .int (nI 12)]) (rest := []) X (n_put l hl0 G _ a _ _ _ _ hI _ _ _ _ _ ehq_55) (cwV 5 hts gL_house_X5_put rfl rfl rfl (by decide +kernel) ⟨Nat.le_of_ble_eq_true rfl, Nat.le_of_ble_eq_true rfl⟩) ⟨b_blind, hs_recv E w, fun U9 hU9 hW9 => ⟨rfl, hs_pre E Z9 w hm9 U9 hU9 hW9⟩⟩ rfl rfl hl.1 rfl (lv_room (Nat.le_of_ble_eq_true rfl)) dL_house_616 ⟨Nat.le_of_ble_eq_true rfl, Nat.le_of_ble_eq_true rfl⟩) hm9 (fun r i H locs hr w => ?_)
  obtain ⟨hI, hr9⟩ := hr
  refine b_tp hr9 ?_
  refine lv_iconst (v := nI 1) hx hb dL_house_619 (by decide) ?_
  refine lv_icmp_ne (tgt := 987) hx hb dL_house_620 (by decide) (fun c9 => absurd rfl c9) (fun c9 => ?_)
  refine lv_aload_n hx hb dL_house_623 rfl (lv_at hl 0 rfl) ?_
  refine lv_iconst (v := nI 0) hx hb dL_house_624 (by decide) ?_
  refine lv_iconst (v := nI 0) hx hb dL_house_625 (by decide) ?_
  refine lv_iconst (v := nI 1) hx hb dL_house_626 (by decide) ?_
  refine lv_iconst (v := nI 5) hx hb dL_house_627 (by decide) ?_
  refine lv_bipush (v := nI 19) hx hb dL_house_628 (by decide) ?_
  refine hs_calli w (va_runV (As := [.int (nI 0), .int (nI 0), .int (nI 1), .int (nI 5), .int (nI 19)]) (rest := []) X (n_put l hl0 G _ a _ _ _ _ hI _ _ _ _ _ ehq_56) (cwV 5 hts gL_house_X5_put rfl rfl rfl (by decide +kernel) ⟨Nat.le_of_ble_eq_true rfl, Nat.le_of_ble_eq_true rfl⟩) ⟨b_blind, hs_recv E w, fun U9 hU9 hW9 => ⟨rfl, hs_pre E Z9 w hm9 U9 hU9 hW9⟩⟩ rfl rfl hl.1 rfl (lv_room (Nat.le_of_ble_eq_true rfl)) dL_house_630 ⟨Nat.le_of_ble_eq_true rfl, Nat.le_of_ble_eq_true rfl⟩) hm9 (fun r i H locs hr w => ?_)
  obtain ⟨hI, hr9⟩ := hr
  refine b_tp hr9 ?_
  refine lv_iconst (v := nI 2) hx hb dL_house_633 (by decide) ?_
  refine lv_icmp_ne (tgt := 987) hx hb dL_house_634 (by decide) (fun c9 => absurd rfl c9) (fun c9 => ?_)
  refine lv_aload_n hx hb dL_house_637 rfl (lv_at hl 0 rfl) ?_
  refine lv_iconst (v := nI 2) hx hb dL_house_638 (by decide) ?_
  refine lv_iconst (v := nI 1) hx hb dL_house_639 (by decide) ?_
  refine lv_iconst (v := nI 2) hx hb dL_house_640 (by decide) ?_
  refine lv_iconst (v := nI 5) hx hb dL_house_641 (by decide) ?_
  refine lv_ldc (v := -1000000) hx hb hown (hts (.constant RL 96 (-1000000)) (by decide +kernel)) dL_house_642 ?_
  refine hs_calli w (va_runV (As := [.int (nI 2), .int (nI 1), .int (nI 2), .int (nI 5), .int (-1000000)]) (rest := []) X (n_put l hl0 G _ a _ _ _ _ hI _ _ _ _ _ ehq_57) (cwV 5 hts gL_house_X5_put rfl rfl rfl (by decide +kernel) ⟨Nat.le_of_ble_eq_true rfl, Nat.le_of_ble_eq_true rfl⟩) ⟨b_blind, hs_recv E w, fun U9 hU9 hW9 => ⟨rfl, hs_pre E Z9 w hm9 U9 hU9 hW9⟩⟩ rfl rfl hl.1 rfl (lv_room (Nat.le_of_ble_eq_true rfl)) dL_house_644 ⟨Nat.le_of_ble_eq_true rfl, Nat.le_of_ble_eq_true rfl⟩) hm9 (fun r i H locs hr w => ?_)
  obtain ⟨hI, hr9⟩ := hr
  refine b_tp hr9 ?_
  refine lv_iconst (v := nI 3) hx hb dL_house_647 (by decide) ?_
  refine lv_icmp_ne (tgt := 987) hx hb dL_house_648 (by decide) (fun c9 => absurd rfl c9) (fun c9 => ?_)
  refine lv_aload_n hx hb dL_house_651 rfl (lv_at hl 0 rfl) ?_
  refine lv_iconst (v := nI 0) hx hb dL_house_652 (by decide) ?_
  refine lv_iconst (v := nI 0) hx hb dL_house_653 (by decide) ?_
  refine lv_iconst (v := nI 0) hx hb dL_house_654 (by decide) ?_
  refine lv_iconst (v := nI 5) hx hb dL_house_655 (by decide) ?_
  refine lv_bipush (v := nI 20) hx hb dL_house_656 (by decide) ?_
  refine hs_calli w (va_runV (As := [.int (nI 0), .int (nI 0), .int (nI 0), .int (nI 5), .int (nI 20)]) (rest := []) X (n_put l hl0 G _ a _ _ _ _ hI _ _ _ _ _ ehq_58) (cwV 5 hts gL_house_X5_put rfl rfl rfl (by decide +kernel) ⟨Nat.le_of_ble_eq_true rfl, Nat.le_of_ble_eq_true rfl⟩) ⟨b_blind, hs_recv E w, fun U9 hU9 hW9 => ⟨rfl, hs_pre E Z9 w hm9 U9 hU9 hW9⟩⟩ rfl rfl hl.1 rfl (lv_room (Nat.le_of_ble_eq_true rfl)) dL_house_658 ⟨Nat.le_of_ble_eq_true rfl, Nat.le_of_ble_eq_true rfl⟩) hm9 (fun r i H locs hr w => ?_)
  obtain ⟨hI, hr9⟩ := hr
  refine b_tp hr9 ?_
  refine lv_iconst (v := nI 4) hx hb dL_house_661 (by decide) ?_
  refine lv_icmp_ne (tgt := 987) hx hb dL_house_662 (by decide) (fun c9 => absurd rfl c9) (fun c9 => ?_)
  refine lv_aload_n hx hb dL_house_665 rfl (lv_at hl 0 rfl) ?_
  refine lv_iconst (v := nI 0) hx hb dL_house_666 (by decide) ?_
  refine hs_calli w (va_runV (As := [.int (nI 0)]) (rest := []) X (n_send l hl0 G _ a _ _ _ _ hI _ ehq_59) (cwV 1 hts gL_house_X5_send rfl rfl rfl (by decide +kernel) ⟨Nat.le_of_ble_eq_true rfl, Nat.le_of_ble_eq_true rfl⟩) ⟨b_blind, hs_recv E w, fun U9 hU9 hW9 => ⟨rfl, hs_pre E Z9 w hm9 U9 hU9 hW9⟩⟩ rfl rfl hl.1 rfl (lv_room (Nat.le_of_ble_eq_true rfl)) dL_house_667 ⟨Nat.le_of_ble_eq_true rfl, Nat.le_of_ble_eq_true rfl⟩) hm9 (fun r i H locs hr w => ?_)
  obtain ⟨hI, hr9⟩ := hr
  refine b_tp hr9 ?_
  refine lv_iconst (v := nI 4) hx hb dL_house_670 (by decide) ?_
  refine lv_icmp_ne (tgt := 987) hx hb dL_house_671 (by decide) (fun c9 => absurd rfl c9) (fun c9 => ?_)
  refine lv_aload_n hx hb dL_house_674 rfl (lv_at hl 0 rfl) ?_
  refine lv_iconst (v := nI 0) hx hb dL_house_675 (by decide) ?_
  refine lv_iconst (v := nI 1) hx hb dL_house_676 (by decide) ?_
  refine lv_iconst (v := nI 5) hx hb dL_house_677 (by decide) ?_
  refine lv_iconst (v := nI 0) hx hb dL_house_678 (by decide) ?_
  refine hs_calli w (va_runV (As := [.int (nI 0), .int (nI 1), .int (nI 5), .int (nI 0)]) (rest := []) X (n_value l hl0 G _ a _ _ _ _ hI _ _ _ _ ehq_60) (cwV 4 hts gL_house_X5_value rfl rfl rfl (by decide +kernel) ⟨Nat.le_of_ble_eq_true rfl, Nat.le_of_ble_eq_true rfl⟩) ⟨b_blind, hs_recv E w, fun U9 hU9 hW9 => ⟨rfl, hs_pre E Z9 w hm9 U9 hU9 hW9⟩⟩ rfl rfl hl.1 rfl (lv_room (Nat.le_of_ble_eq_true rfl)) dL_house_679 ⟨Nat.le_of_ble_eq_true rfl, Nat.le_of_ble_eq_true rfl⟩) hm9 (fun r i H locs hr w => ?_)
  obtain ⟨hI, hr9, -⟩ := hr
  refine b_tp hr9 ?_
  refine lv_bipush (v := nI 17) hx hb dL_house_682 (by decide) ?_
  refine lv_icmp_ne (tgt := 987) hx hb dL_house_684 (by decide) (fun c9 => absurd rfl c9) (fun c9 => ?_)
  refine lv_aload_n hx hb dL_house_687 rfl (lv_at hl 0 rfl) ?_
  refine lv_iconst (v := nI 0) hx hb dL_house_688 (by decide) ?_
  refine lv_iconst (v := nI 1) hx hb dL_house_689 (by decide) ?_
  refine lv_iconst (v := nI 5) hx hb dL_house_690 (by decide) ?_
  refine lv_iconst (v := nI 1) hx hb dL_house_691 (by decide) ?_
  refine hs_calli w (va_runV (As := [.int (nI 0), .int (nI 1), .int (nI 5), .int (nI 1)]) (rest := []) X (n_value l hl0 G _ a _ _ _ _ hI _ _ _ _ ehq_61) (cwV 4 hts gL_house_X5_value rfl rfl rfl (by decide +kernel) ⟨Nat.le_of_ble_eq_true rfl, Nat.le_of_ble_eq_true rfl⟩) ⟨b_blind, hs_recv E w, fun U9 hU9 hW9 => ⟨rfl, hs_pre E Z9 w hm9 U9 hU9 hW9⟩⟩ rfl rfl hl.1 rfl (lv_room (Nat.le_of_ble_eq_true rfl)) dL_house_692 ⟨Nat.le_of_ble_eq_true rfl, Nat.le_of_ble_eq_true rfl⟩) hm9 (fun r i H locs hr w => ?_)
  obtain ⟨hI, hr9, -⟩ := hr
  refine b_tp hr9 ?_
  refine lv_bipush (v := nI 17) hx hb dL_house_695 (by decide) ?_
  refine lv_icmp_ne (tgt := 987) hx hb dL_house_697 (by decide) (fun c9 => absurd rfl c9) (fun c9 => ?_)
  refine lv_aload_n hx hb dL_house_700 rfl (lv_at hl 0 rfl) ?_
  refine lv_iconst (v := nI 0) hx hb dL_house_701 (by decide) ?_
  refine lv_iconst (v := nI 1) hx hb dL_house_702 (by decide) ?_
  refine lv_iconst (v := nI 5) hx hb dL_house_703 (by decide) ?_
  refine lv_iconst (v := nI 2) hx hb dL_house_704 (by decide) ?_
  refine hs_calli w (va_runV (As := [.int (nI 0), .int (nI 1), .int (nI 5), .int (nI 2)]) (rest := []) X (n_value l hl0 G _ a _ _ _ _ hI _ _ _ _ ehq_62) (cwV 4 hts gL_house_X5_value rfl rfl rfl (by decide +kernel) ⟨Nat.le_of_ble_eq_true rfl, Nat.le_of_ble_eq_true rfl⟩) ⟨b_blind, hs_recv E w, fun U9 hU9 hW9 => ⟨rfl, hs_pre E Z9 w hm9 U9 hU9 hW9⟩⟩ rfl rfl hl.1 rfl (lv_room (Nat.le_of_ble_eq_true rfl)) dL_house_705 ⟨Nat.le_of_ble_eq_true rfl, Nat.le_of_ble_eq_true rfl⟩) hm9 (fun r i H locs hr w => ?_)
  obtain ⟨hI, hr9, -⟩ := hr
  refine b_tp hr9 ?_
  refine lv_bipush (v := nI 19) hx hb dL_house_708 (by decide) ?_
  refine lv_icmp_ne (tgt := 987) hx hb dL_house_710 (by decide) (fun c9 => absurd rfl c9) (fun c9 => ?_)
  refine lv_aload_n hx hb dL_house_713 rfl (lv_at hl 0 rfl) ?_
  refine lv_iconst (v := nI 1) hx hb dL_house_714 (by decide) ?_
  refine lv_iconst (v := nI 2) hx hb dL_house_715 (by decide) ?_
  refine lv_iconst (v := nI 5) hx hb dL_house_716 (by decide) ?_
  refine lv_iconst (v := nI 1) hx hb dL_house_717 (by decide) ?_
  refine hs_calli w (va_runV (As := [.int (nI 1), .int (nI 2), .int (nI 5), .int (nI 1)]) (rest := []) X (n_figure l hl0 G _ a _ _ _ _ hI _ _ _ _ ehq_63) (cwV 4 hts gL_house_X5_figure rfl rfl rfl (by decide +kernel) ⟨Nat.le_of_ble_eq_true rfl, Nat.le_of_ble_eq_true rfl⟩) ⟨b_blind, hs_recv E w, fun U9 hU9 hW9 => ⟨rfl, hs_pre E Z9 w hm9 U9 hU9 hW9⟩⟩ rfl rfl hl.1 rfl (lv_room (Nat.le_of_ble_eq_true rfl)) dL_house_718 ⟨Nat.le_of_ble_eq_true rfl, Nat.le_of_ble_eq_true rfl⟩) hm9 (fun r i H locs hr w => ?_)
  obtain ⟨hI, hr9⟩ := hr
  refine b_tp hr9 ?_
  refine lv_iconst (v := nI 4) hx hb dL_house_721 (by decide) ?_
  refine lv_icmp_ne (tgt := 987) hx hb dL_house_722 (by decide) (fun c9 => absurd rfl c9) (fun c9 => ?_)
  refine lv_aload_n hx hb dL_house_725 rfl (lv_at hl 0 rfl) ?_
  refine lv_iconst (v := nI 1) hx hb dL_house_726 (by decide) ?_
  refine lv_iconst (v := nI 2) hx hb dL_house_727 (by decide) ?_
  refine lv_iconst (v := nI 5) hx hb dL_house_728 (by decide) ?_
  refine lv_iconst (v := nI 2) hx hb dL_house_729 (by decide) ?_
  refine hs_calli w (va_runV (As := [.int (nI 1), .int (nI 2), .int (nI 5), .int (nI 2)]) (rest := []) X (n_figure l hl0 G _ a _ _ _ _ hI _ _ _ _ ehq_64) (cwV 4 hts gL_house_X5_figure rfl rfl rfl (by decide +kernel) ⟨Nat.le_of_ble_eq_true rfl, Nat.le_of_ble_eq_true rfl⟩) ⟨b_blind, hs_recv E w, fun U9 hU9 hW9 => ⟨rfl, hs_pre E Z9 w hm9 U9 hU9 hW9⟩⟩ rfl rfl hl.1 rfl (lv_room (Nat.le_of_ble_eq_true rfl)) dL_house_730 ⟨Nat.le_of_ble_eq_true rfl, Nat.le_of_ble_eq_true rfl⟩) hm9 (fun r i H locs hr w => ?_)
  obtain ⟨hI, hr9⟩ := hr
  refine b_tp hr9 ?_
  refine lv_ldc (v := MIS) hx hb hown (hts (.constant RL 95 (-2000000001)) (by decide +kernel)) dL_house_733 ?_
  refine lv_icmp_ne (tgt := 987) hx hb dL_house_735 (by decide) (fun c9 => absurd rfl c9) (fun c9 => ?_)
  refine lv_aload_n hx hb dL_house_738 rfl (lv_at hl 0 rfl) ?_
  refine lv_iconst (v := nI 1) hx hb dL_house_739 (by decide) ?_
  refine lv_iconst (v := nI 2) hx hb dL_house_740 (by decide) ?_
  refine lv_iconst (v := nI 5) hx hb dL_house_741 (by decide) ?_
  refine hs_calli w (va_runV (As := [.int (nI 1), .int (nI 2), .int (nI 5)]) (rest := []) X (n_first l hl0 G _ a _ _ _ _ hI _ _ _ ehq_65) (cwV 3 hts gL_house_X5_first rfl rfl rfl (by decide +kernel) ⟨Nat.le_of_ble_eq_true rfl, Nat.le_of_ble_eq_true rfl⟩) ⟨b_blind, hs_recv E w, fun U9 hU9 hW9 => ⟨rfl, hs_pre E Z9 w hm9 U9 hU9 hW9⟩⟩ rfl rfl hl.1 rfl (lv_room (Nat.le_of_ble_eq_true rfl)) dL_house_742 ⟨Nat.le_of_ble_eq_true rfl, Nat.le_of_ble_eq_true rfl⟩) hm9 (fun r i H locs hr w => ?_)
  obtain ⟨hI, hr9⟩ := hr
  refine b_tp hr9 ?_
  refine lv_iconst (v := nI 4) hx hb dL_house_745 (by decide) ?_
  refine lv_icmp_ne (tgt := 987) hx hb dL_house_746 (by decide) (fun c9 => absurd rfl c9) (fun c9 => ?_)
  refine lv_aload_n hx hb dL_house_749 rfl (lv_at hl 0 rfl) ?_
  refine lv_iconst (v := nI 1) hx hb dL_house_750 (by decide) ?_
  refine lv_iconst (v := nI 2) hx hb dL_house_751 (by decide) ?_
  refine lv_iconst (v := nI 5) hx hb dL_house_752 (by decide) ?_
  refine hs_calli w (va_runV (As := [.int (nI 1), .int (nI 2), .int (nI 5)]) (rest := []) X (n_revisions l hl0 G _ a _ _ _ _ hI _ _ _ ehq_66) (cwV 3 hts gL_house_X5_revisions rfl rfl rfl (by decide +kernel) ⟨Nat.le_of_ble_eq_true rfl, Nat.le_of_ble_eq_true rfl⟩) ⟨b_blind, hs_recv E w, fun U9 hU9 hW9 => ⟨rfl, hs_pre E Z9 w hm9 U9 hU9 hW9⟩⟩ rfl rfl hl.1 rfl (lv_room (Nat.le_of_ble_eq_true rfl)) dL_house_753 ⟨Nat.le_of_ble_eq_true rfl, Nat.le_of_ble_eq_true rfl⟩) hm9 (fun r i H locs hr w => ?_)
  obtain ⟨hI, hr9⟩ := hr
  refine b_tp hr9 ?_
  refine lv_iconst (v := nI 2) hx hb dL_house_756 (by decide) ?_
  refine lv_icmp_ne (tgt := 987) hx hb dL_house_757 (by decide) (fun c9 => absurd rfl c9) (fun c9 => ?_)
  refine lv_aload_n hx hb dL_house_760 rfl (lv_at hl 0 rfl) ?_
  refine lv_iconst (v := nI 0) hx hb dL_house_761 (by decide) ?_
  refine lv_iconst (v := nI 2) hx hb dL_house_762 (by decide) ?_
  refine lv_iconst (v := nI 5) hx hb dL_house_763 (by decide) ?_
  refine lv_iconst (v := nI 2) hx hb dL_house_764 (by decide) ?_
  refine hs_calli w (va_runV (As := [.int (nI 0), .int (nI 2), .int (nI 5), .int (nI 2)]) (rest := []) X (n_value l hl0 G _ a _ _ _ _ hI _ _ _ _ ehq_67) (cwV 4 hts gL_house_X5_value rfl rfl rfl (by decide +kernel) ⟨Nat.le_of_ble_eq_true rfl, Nat.le_of_ble_eq_true rfl⟩) ⟨b_blind, hs_recv E w, fun U9 hU9 hW9 => ⟨rfl, hs_pre E Z9 w hm9 U9 hU9 hW9⟩⟩ rfl rfl hl.1 rfl (lv_room (Nat.le_of_ble_eq_true rfl)) dL_house_765 ⟨Nat.le_of_ble_eq_true rfl, Nat.le_of_ble_eq_true rfl⟩) hm9 (fun r i H locs hr w => ?_)
  obtain ⟨hI, hr9, -⟩ := hr
  refine b_tp hr9 ?_
  refine lv_ldc (v := MIS) hx hb hown (hts (.constant RL 95 (-2000000001)) (by decide +kernel)) dL_house_768 ?_
  refine lv_icmp_ne (tgt := 987) hx hb dL_house_770 (by decide) (fun c9 => absurd rfl c9) (fun c9 => ?_)
  refine lv_aload_n hx hb dL_house_773 rfl (lv_at hl 0 rfl) ?_
  refine lv_iconst (v := nI 1) hx hb dL_house_774 (by decide) ?_
  refine lv_iconst (v := nI 0) hx hb dL_house_775 (by decide) ?_
  refine lv_iconst (v := nI 5) hx hb dL_house_776 (by decide) ?_
  refine lv_iconst (v := nI 2) hx hb dL_house_777 (by decide) ?_
  refine hs_calli w (va_runV (As := [.int (nI 1), .int (nI 0), .int (nI 5), .int (nI 2)]) (rest := []) X (n_value l hl0 G _ a _ _ _ _ hI _ _ _ _ ehq_68) (cwV 4 hts gL_house_X5_value rfl rfl rfl (by decide +kernel) ⟨Nat.le_of_ble_eq_true rfl, Nat.le_of_ble_eq_true rfl⟩) ⟨b_blind, hs_recv E w, fun U9 hU9 hW9 => ⟨rfl, hs_pre E Z9 w hm9 U9 hU9 hW9⟩⟩ rfl rfl hl.1 rfl (lv_room (Nat.le_of_ble_eq_true rfl)) dL_house_778 ⟨Nat.le_of_ble_eq_true rfl, Nat.le_of_ble_eq_true rfl⟩) hm9 (fun r i H locs hr w => ?_)
  obtain ⟨hI, hr9, -⟩ := hr
  refine b_tp hr9 ?_
  refine lv_ldc (v := MIS) hx hb hown (hts (.constant RL 95 (-2000000001)) (by decide +kernel)) dL_house_781 ?_
  refine lv_icmp_ne (tgt := 987) hx hb dL_house_783 (by decide) (fun c9 => absurd rfl c9) (fun c9 => ?_)
  refine lv_aload_n hx hb dL_house_786 rfl (lv_at hl 0 rfl) ?_
  refine lv_iconst (v := nI 1) hx hb dL_house_787 (by decide) ?_
  refine lv_iconst (v := nI 0) hx hb dL_house_788 (by decide) ?_
  refine lv_iconst (v := nI 5) hx hb dL_house_789 (by decide) ?_
  refine lv_iconst (v := nI 1) hx hb dL_house_790 (by decide) ?_
  refine hs_calli w (va_runV (As := [.int (nI 1), .int (nI 0), .int (nI 5), .int (nI 1)]) (rest := []) X (n_value l hl0 G _ a _ _ _ _ hI _ _ _ _ ehq_69) (cwV 4 hts gL_house_X5_value rfl rfl rfl (by decide +kernel) ⟨Nat.le_of_ble_eq_true rfl, Nat.le_of_ble_eq_true rfl⟩) ⟨b_blind, hs_recv E w, fun U9 hU9 hW9 => ⟨rfl, hs_pre E Z9 w hm9 U9 hU9 hW9⟩⟩ rfl rfl hl.1 rfl (lv_room (Nat.le_of_ble_eq_true rfl)) dL_house_791 ⟨Nat.le_of_ble_eq_true rfl, Nat.le_of_ble_eq_true rfl⟩) hm9 (fun r i H locs hr w => ?_)
  obtain ⟨hI, hr9, -⟩ := hr
  refine b_tp hr9 ?_
  refine lv_bipush (v := nI 14) hx hb dL_house_794 (by decide) ?_
  refine lv_icmp_ne (tgt := 987) hx hb dL_house_796 (by decide) (fun c9 => absurd rfl c9) (fun c9 => ?_)
  refine lv_aload_n hx hb dL_house_799 rfl (lv_at hl 0 rfl) ?_
  refine lv_iconst (v := nI 0) hx hb dL_house_800 (by decide) ?_
  refine lv_iconst (v := nI 0) hx hb dL_house_801 (by decide) ?_
  refine lv_iconst (v := nI 5) hx hb dL_house_802 (by decide) ?_
  refine lv_iconst (v := nI 2) hx hb dL_house_803 (by decide) ?_
  refine hs_calli w (va_runV (As := [.int (nI 0), .int (nI 0), .int (nI 5), .int (nI 2)]) (rest := []) X (n_value l hl0 G _ a _ _ _ _ hI _ _ _ _ ehq_70) (cwV 4 hts gL_house_X5_value rfl rfl rfl (by decide +kernel) ⟨Nat.le_of_ble_eq_true rfl, Nat.le_of_ble_eq_true rfl⟩) ⟨b_blind, hs_recv E w, fun U9 hU9 hW9 => ⟨rfl, hs_pre E Z9 w hm9 U9 hU9 hW9⟩⟩ rfl rfl hl.1 rfl (lv_room (Nat.le_of_ble_eq_true rfl)) dL_house_804 ⟨Nat.le_of_ble_eq_true rfl, Nat.le_of_ble_eq_true rfl⟩) hm9 (fun r i H locs hr w => ?_)
  obtain ⟨hI, hr9, -⟩ := hr
  refine b_tp hr9 ?_
  refine lv_bipush (v := nI 20) hx hb dL_house_807 (by decide) ?_
  refine lv_icmp_ne (tgt := 987) hx hb dL_house_809 (by decide) (fun c9 => absurd rfl c9) (fun c9 => ?_)
  refine lv_aload_n hx hb dL_house_812 rfl (lv_at hl 0 rfl) ?_
  refine lv_iconst (v := nI 0) hx hb dL_house_813 (by decide) ?_
  refine lv_iconst (v := nI 0) hx hb dL_house_814 (by decide) ?_
  refine lv_iconst (v := nI 5) hx hb dL_house_815 (by decide) ?_
  refine lv_iconst (v := nI 1) hx hb dL_house_816 (by decide) ?_
  refine hs_calli w (va_runV (As := [.int (nI 0), .int (nI 0), .int (nI 5), .int (nI 1)]) (rest := []) X (n_value l hl0 G _ a _ _ _ _ hI _ _ _ _ ehq_71) (cwV 4 hts gL_house_X5_value rfl rfl rfl (by decide +kernel) ⟨Nat.le_of_ble_eq_true rfl, Nat.le_of_ble_eq_true rfl⟩) ⟨b_blind, hs_recv E w, fun U9 hU9 hW9 => ⟨rfl, hs_pre E Z9 w hm9 U9 hU9 hW9⟩⟩ rfl rfl hl.1 rfl (lv_room (Nat.le_of_ble_eq_true rfl)) dL_house_817 ⟨Nat.le_of_ble_eq_true rfl, Nat.le_of_ble_eq_true rfl⟩) hm9 (fun r i H locs hr w => ?_)
  obtain ⟨hI, hr9, -⟩ := hr
  refine b_tp hr9 ?_
  refine lv_bipush (v := nI 18) hx hb dL_house_820 (by decide) ?_
  refine lv_icmp_ne (tgt := 987) hx hb dL_house_822 (by decide) (fun c9 => absurd rfl c9) (fun c9 => ?_)
  refine lv_aload_n hx hb dL_house_825 rfl (lv_at hl 0 rfl) ?_
  refine lv_iconst (v := nI 0) hx hb dL_house_826 (by decide) ?_
  refine lv_iconst (v := nI 1) hx hb dL_house_827 (by decide) ?_
  refine lv_iconst (v := nI 5) hx hb dL_house_828 (by decide) ?_
  refine hs_calli w (va_runV (As := [.int (nI 0), .int (nI 1), .int (nI 5)]) (rest := []) X (n_hasFault l hl0 G _ a _ _ _ _ hI _ _ _ ehq_72) (cwV 3 hts gL_house_X5_hasFault rfl rfl rfl (by decide +kernel) ⟨Nat.le_of_ble_eq_true rfl, Nat.le_of_ble_eq_true rfl⟩) ⟨b_blind, hs_recv E w, fun U9 hU9 hW9 => ⟨rfl, hs_pre E Z9 w hm9 U9 hU9 hW9⟩⟩ rfl rfl hl.1 rfl (lv_room (Nat.le_of_ble_eq_true rfl)) dL_house_829 ⟨Nat.le_of_ble_eq_true rfl, Nat.le_of_ble_eq_true rfl⟩) hm9 (fun r i H locs hr w => ?_)
  obtain ⟨hI, hr9⟩ := hr
  refine b_tp hr9 ?_
  refine lv_if_ne (tgt := 987) hx hb dL_house_832 (by decide) (fun c9 => absurd (by decide) c9) (fun c9 => ?_)
  exact kk i _ _ _ hI w (lv_sub hl [0] rfl)
set_option maxHeartbeats 4000000 in
set_option maxRecDepth 100000 in
theorem c_house (l : Launch) (hl0 : l.stackTraces = false) (G : bG) (sz : Nat)  : Met l yL_house wsL_house ({ frames := 11, cells := 2785, slots := 45655, locals := 259 }) (va_Pc [] (bPre G vwCl bNW bSW sz [] [])) (va_Qi (fun (r : Int32) (_ : Unit) => r = nI 1) (fun (_ : Unit) (tS : State) => va_P G.1 vwCl [] tS.heap) (Aw [] sz)) 2785 45655 (Aw [] sz) := by
  refine Met.ofW (cc := cL_house) (maxL := 1) (ret := (some .boolean)) (by decide) rfl ?_
  intro p e s m args below meth c s₁ B hml hv
  obtain ⟨rfl, hsz, hP, hD, E, Z⟩ := hv
  have hts := atoms_spec (ws := wsL_house) B.pre
  have hown : s.vm.findClass RL = some m.cls := findClass_of_methodNamed B.named
  have X : CallFix p m c cL_house 1 s _ wsL_house RL := ⟨B.exec, B.bytes, hml, hown, hts⟩
  have hx := B.exec
  have hb := B.bytes
  have hr0 := B.returns
  have hlocks := B.notSynchronized
  have hts2 : ∀ w, w ∈ wsL_house → w ∈ wsL_house := fun _ h9 => h9
  subst hsz
  have w : bSt G vwCl [] s [] s.heap [] := ⟨hP, va_S.rf, hD⟩
  have Z9 : bZ [] s := Z
  have hl := lv_entry ([]) (n := 1) (Nat.le_of_ble_eq_true rfl)
  rw [lg_entry_eq]
  generalize (lg_sl ([]) ++ List.replicate (1 - (lg_sl ([])).length) Slot.unset).toArray = ls at hl ⊢
  have hl : lv_has ls 1 [] := hl
  have iX5 : ∀ w ∈ wsX50, w ∈ wsL_house := by decide +kernel
  have Z0 := Z9
  refine b_new X E w (fs := [.null, .null, .null, .null, .null, .null, .null, .null, .int (nI 0), .int (nI 0), .int (nI 0)]) (ci := 5) iX5 tyX5 tyX5_ok (hts2 (.classLink RL 8 RX5) (by decide +kernel)) (hts2 (.instantiable RX5 11) (by decide +kernel)) (hts2 (.initialized RX5) (by decide +kernel)) rfl (by decide) (Nat.le_of_ble_eq_true rfl) (Nat.le_of_ble_eq_true rfl) dL_house_0 (fun q0 H hq0 w => ?_)
  have w : bSt G vwCl [] s [(q0, .inr (5, [.null, .null, .null, .null, .null, .null, .null, .null, .int (nI 0), .int (nI 0), .int (nI 0)]))] _ _ := w
  refine lv_dup hx hb dL_house_3 rfl ?_
  refine b_callc w (va_runI (As := []) (rest := [.ref q0]) X (c_X5_init l hl0 G _ (h := q0)) (cwI 0 hts gL_house_X5_init rfl rfl rfl (hts (.initialized RX5) (by decide +kernel)) (hts (.methodLink RL 86 yX5_init) (by decide +kernel)) (hts (.instanceMethod yX5_init) (by decide +kernel)) rfl (by decide +kernel) ⟨Nat.le_of_ble_eq_true rfl, Nat.le_of_ble_eq_true rfl⟩) ⟨b_blind, fun U9 hU9 hW9 => ⟨rfl, b_pre E Z0 w [0] (by decide) rfl (b_inc (Or.inr hq0) b_inn) U9 hU9 hW9⟩⟩ rfl rfl hl.1 rfl (lv_room (Nat.le_of_ble_eq_true rfl)) dL_house_4 ⟨Nat.le_of_ble_eq_true rfl, Nat.le_of_ble_eq_true rfl⟩) (Or.inr hq0) 0 (fun _ => rfl) rfl (fun u4 H locs _ hnu4 w => ?_)
  have w : bSt G vwCl [] s [(q0, .inr (5, [.ref (u4 0), .ref (u4 2), .ref (u4 4), .ref (u4 6), .ref (u4 11), .ref (u4 19), .ref (u4 22), .ref (u4 23), .int (nI 0), .int (nI 0), .int (nI 0)])), ((u4 0), .inr (4, [.ref (u4 1), .int (nI 10), .int (nI 0)])), ((u4 1), .inl (G.2.1, 14, .inl (fun _ => 0))), ((u4 2), .inr (4, [.ref (u4 3), .int (nI 1), .int (nI 0)])), ((u4 3), .inl (G.2.1, 10, .inl (fun _ => 0))), ((u4 4), .inr (0, [.ref (u4 5)])), ((u4 5), .inl (G.2.2.1, 56, .inl (zB (fun _ => false)))), ((u4 6), .inr (2, [.ref (u4 7), .ref (u4 8), .ref (u4 9), .ref (u4 10), .int (nI 0)])), ((u4 7), .inl (G.2.1, 16, .inl (fun _ => 0))), ((u4 8), .inl (G.2.1, 16, .inl (fun _ => 0))), ((u4 9), .inl (G.2.1, 16, .inl (fun _ => 0))), ((u4 10), .inl (G.2.1, 16, .inl (fun _ => 0))), ((u4 11), .inr (1, [.ref (u4 12), .ref (u4 13), .ref (u4 14), .ref (u4 15), .ref (u4 16), .ref (u4 17), .ref (u4 18), .int (nI 0)])), ((u4 12), .inl (G.2.1, 1680, .inl (fillF (fun _ => 0) MIS 1680))), ((u4 13), .inl (G.2.1, 1680, .inl (fillF (fun _ => 0) MIS 1680))), ((u4 14), .inl (G.2.1, 1680, .inl (fun _ => 0))), ((u4 15), .inl (G.2.1, 1680, .inl (fun _ => 0))), ((u4 16), .inl (G.2.1, 300, .inl (fun _ => 0))), ((u4 17), .inl (G.2.1, 300, .inl (fun _ => 0))), ((u4 18), .inl (G.2.1, 300, .inl (fun _ => 0))), ((u4 19), .inr (3, [.ref (u4 20), .ref (u4 21)])), ((u4 20), .inl (G.2.1, 140, .inl (fun _ => 0))), ((u4 21), .inl (G.2.2.1, 140, .inl (zB (fun _ => false)))), ((u4 22), .inl (G.2.2.1, 1680, .inl (zB (fun _ => false)))), ((u4 23), .inl (G.2.1, 16, .inl (fun _ => 0)))] _ _ := w
  refine lv_astore_n (lv' := [(0, .ref q0)]) hx hb dL_house_7 rfl hl (by decide) rfl (fun ls hl => ?_)
  have h5 : ∀ k, k < 24 → s.heap.size ≤ u4 k := fun k hk => hnu4 _ (List.mem_of_getElem? (i := k) (by rcases (show k = 0 ∨ k = 1 ∨ k = 2 ∨ k = 3 ∨ k = 4 ∨ k = 5 ∨ k = 6 ∨ k = 7 ∨ k = 8 ∨ k = 9 ∨ k = 10 ∨ k = 11 ∨ k = 12 ∨ k = 13 ∨ k = 14 ∨ k = 15 ∨ k = 16 ∨ k = 17 ∨ k = 18 ∨ k = 19 ∨ k = 20 ∨ k = 21 ∨ k = 22 ∨ k = 23 by omega) with rfl | rfl | rfl | rfl | rfl | rfl | rfl | rfl | rfl | rfl | rfl | rfl | rfl | rfl | rfl | rfl | rfl | rfl | rfl | rfl | rfl | rfl | rfl | rfl <;> rfl))
  have hm9 : ∀ z ∈ hs_M (hs_ad q0 u4), Aw [] s.heap.size z := hs_new hq0 h5
  have w : bSt G vwCl [] s (hs_W G (hs_ad q0 u4) hs_e0 hs_i0) _ _ := w
  have hI := hs_inv0
  have hl : lv_has ls 1 [(0, .ref (hs_ad q0 u4 0))] := hl
  obtain ⟨a, ha9⟩ : ∃ a, a = hs_ad q0 u4 := ⟨_, rfl⟩
  rw [← ha9] at hm9 w hl
  refine sg_house_0 hl0 X E Z9 hm9 hI w hl (fun i H locs ls hI w hl => ?_)
  refine sg_house_1 hl0 X E Z9 hm9 hI w hl (fun i H locs ls hI w hl => ?_)
  refine sg_house_2 hl0 X E Z9 hm9 hI w hl (fun i H locs ls hI w hl => ?_)
  refine sg_house_3 hl0 X E Z9 hm9 hI w hl (fun i H locs ls hI w hl => ?_)
  refine lv_aload_n hx hb dL_house_835 rfl (lv_at hl 0 rfl) ?_
  refine lv_iconst (v := nI 0) hx hb dL_house_836 (by decide) ?_
  refine lv_iconst (v := nI 0) hx hb dL_house_837 (by decide) ?_
  refine lv_iconst (v := nI 5) hx hb dL_house_838 (by decide) ?_
  refine hs_calli w (va_runV (As := [.int (nI 0), .int (nI 0), .int (nI 5)]) (rest := []) X (n_hasFault l hl0 G _ a _ _ _ _ hI _ _ _ ehq_73) (cwV 3 hts gL_house_X5_hasFault rfl rfl rfl (by decide +kernel) ⟨Nat.le_of_ble_eq_true rfl, Nat.le_of_ble_eq_true rfl⟩) ⟨b_blind, hs_recv E w, fun U9 hU9 hW9 => ⟨rfl, hs_pre E Z9 w hm9 U9 hU9 hW9⟩⟩ rfl rfl hl.1 rfl (lv_room (Nat.le_of_ble_eq_true rfl)) dL_house_839 ⟨Nat.le_of_ble_eq_true rfl, Nat.le_of_ble_eq_true rfl⟩) hm9 (fun r i H locs hr w => ?_)
  obtain ⟨hI, hr9⟩ := hr
  refine b_tp hr9 ?_
  refine lv_if_ne (tgt := 987) hx hb dL_house_842 (by decide) (fun c9 => absurd (by decide) c9) (fun c9 => ?_)
  refine lv_aload_n hx hb dL_house_845 rfl (lv_at hl 0 rfl) ?_
  refine lv_iconst (v := nI 0) hx hb dL_house_846 (by decide) ?_
  refine lv_iconst (v := nI 1) hx hb dL_house_847 (by decide) ?_
  refine lv_iconst (v := nI 2) hx hb dL_house_848 (by decide) ?_
  refine lv_iconst (v := nI 5) hx hb dL_house_849 (by decide) ?_
  refine lv_iconst (v := nI 5) hx hb dL_house_850 (by decide) ?_
  refine hs_calli w (va_runV (As := [.int (nI 0), .int (nI 1), .int (nI 2), .int (nI 5), .int (nI 5)]) (rest := []) X (n_put l hl0 G _ a _ _ _ _ hI _ _ _ _ _ ehq_74) (cwV 5 hts gL_house_X5_put rfl rfl rfl (by decide +kernel) ⟨Nat.le_of_ble_eq_true rfl, Nat.le_of_ble_eq_true rfl⟩) ⟨b_blind, hs_recv E w, fun U9 hU9 hW9 => ⟨rfl, hs_pre E Z9 w hm9 U9 hU9 hW9⟩⟩ rfl rfl hl.1 rfl (lv_room (Nat.le_of_ble_eq_true rfl)) dL_house_851 ⟨Nat.le_of_ble_eq_true rfl, Nat.le_of_ble_eq_true rfl⟩) hm9 (fun r i H locs hr w => ?_)
  obtain ⟨hI, hr9⟩ := hr
  refine b_tp hr9 ?_
  refine lv_iconst (v := nI 1) hx hb dL_house_854 (by decide) ?_
  refine lv_icmp_ne (tgt := 987) hx hb dL_house_855 (by decide) (fun c9 => absurd rfl c9) (fun c9 => ?_)
  refine lv_aload_n hx hb dL_house_858 rfl (lv_at hl 0 rfl) ?_
  refine lv_iconst (v := nI 1) hx hb dL_house_859 (by decide) ?_
  refine hs_calli w (va_runV (As := [.int (nI 1)]) (rest := []) X (n_send l hl0 G _ a _ _ _ _ hI _ ehq_75) (cwV 1 hts gL_house_X5_send rfl rfl rfl (by decide +kernel) ⟨Nat.le_of_ble_eq_true rfl, Nat.le_of_ble_eq_true rfl⟩) ⟨b_blind, hs_recv E w, fun U9 hU9 hW9 => ⟨rfl, hs_pre E Z9 w hm9 U9 hU9 hW9⟩⟩ rfl rfl hl.1 rfl (lv_room (Nat.le_of_ble_eq_true rfl)) dL_house_860 ⟨Nat.le_of_ble_eq_true rfl, Nat.le_of_ble_eq_true rfl⟩) hm9 (fun r i H locs hr w => ?_)
  obtain ⟨hI, hr9⟩ := hr
  refine b_tp hr9 ?_
  refine lv_if_ne (tgt := 987) hx hb dL_house_863 (by decide) (fun c9 => absurd rfl c9) (fun c9 => ?_)
  refine lv_aload_n hx hb dL_house_866 rfl (lv_at hl 0 rfl) ?_
  refine lv_iconst (v := nI 0) hx hb dL_house_867 (by decide) ?_
  refine hs_calli w (va_runV (As := [.int (nI 0)]) (rest := []) X (n_refusal l hl0 G _ a _ _ _ _ hI _ ehq_76) (cwV 1 hts gL_house_X5_refusal rfl rfl rfl (by decide +kernel) ⟨Nat.le_of_ble_eq_true rfl, Nat.le_of_ble_eq_true rfl⟩) ⟨b_blind, hs_recv E w, fun U9 hU9 hW9 => ⟨rfl, hs_pre E Z9 w hm9 U9 hU9 hW9⟩⟩ rfl rfl hl.1 rfl (lv_room (Nat.le_of_ble_eq_true rfl)) dL_house_868 ⟨Nat.le_of_ble_eq_true rfl, Nat.le_of_ble_eq_true rfl⟩) hm9 (fun r i H locs hr w => ?_)
  obtain ⟨hI, hr9⟩ := hr
  refine b_tp hr9 ?_
  refine lv_iconst (v := nI 1) hx hb dL_house_871 (by decide) ?_
  refine lv_icmp_ne (tgt := 987) hx hb dL_house_872 (by decide) (fun c9 => absurd rfl c9) (fun c9 => ?_)
  refine lv_aload_n hx hb dL_house_875 rfl (lv_at hl 0 rfl) ?_
  refine lv_iconst (v := nI 5) hx hb dL_house_876 (by decide) ?_
  refine lv_iconst (v := nI 1) hx hb dL_house_877 (by decide) ?_
  refine lv_iconst (v := nI 0) hx hb dL_house_878 (by decide) ?_
  refine lv_iconst (v := nI 0) hx hb dL_house_879 (by decide) ?_
  refine lv_iconst (v := nI 0) hx hb dL_house_880 (by decide) ?_
  refine lv_iconst (v := nI 0) hx hb dL_house_881 (by decide) ?_
  refine hs_calli w (vx_runSW (As := [.ref (a 0), .int (nI 5), .int (nI 1), .int (nI 0), .int (nI 0), .int (nI 0), .int (nI 0)]) (rest := []) X (aF_refusal l hl0 G _ a _ _ hI (nI 1) (nI 0) (nI 0) (nI 0) (nI 0) 1 ehq_77 (by decide)) (vx_cwSW 7 hts gL_house_L_act rfl rfl rfl (by decide +kernel) ⟨Nat.le_of_ble_eq_true rfl, Nat.le_of_ble_eq_true rfl⟩) ⟨b_blind, fun U9 hU9 hW9 => ⟨rfl, hs_pre E Z9 w hm9 U9 hU9 hW9⟩⟩ rfl rfl hl.1 rfl (lv_room (Nat.le_of_ble_eq_true rfl)) dL_house_882 ⟨Nat.le_of_ble_eq_true rfl, Nat.le_of_ble_eq_true rfl⟩) hm9 (fun r i H locs hr w => ?_)
  obtain ⟨hI, hr9⟩ := hr
  refine b_tp (hr9.trans (show hs_r 1 = -71 from by decide)) ?_
  refine lv_bipush (v := -71) hx hb dL_house_885 (by decide) ?_
  refine lv_icmp_ne (tgt := 987) hx hb dL_house_887 (by decide) (fun c9 => absurd rfl c9) (fun c9 => ?_)
  refine lv_aload_n hx hb dL_house_890 rfl (lv_at hl 0 rfl) ?_
  refine lv_iconst (v := nI 0) hx hb dL_house_891 (by decide) ?_
  refine lv_iconst (v := nI 1) hx hb dL_house_892 (by decide) ?_
  refine lv_iconst (v := nI 2) hx hb dL_house_893 (by decide) ?_
  refine lv_iconst (v := nI 5) hx hb dL_house_894 (by decide) ?_
  refine lv_iconst (v := nI 5) hx hb dL_house_895 (by decide) ?_
  refine hs_calli w (va_runV (As := [.int (nI 0), .int (nI 1), .int (nI 2), .int (nI 5), .int (nI 5)]) (rest := []) X (n_put l hl0 G _ a _ _ _ _ hI _ _ _ _ _ ehq_78) (cwV 5 hts gL_house_X5_put rfl rfl rfl (by decide +kernel) ⟨Nat.le_of_ble_eq_true rfl, Nat.le_of_ble_eq_true rfl⟩) ⟨b_blind, hs_recv E w, fun U9 hU9 hW9 => ⟨rfl, hs_pre E Z9 w hm9 U9 hU9 hW9⟩⟩ rfl rfl hl.1 rfl (lv_room (Nat.le_of_ble_eq_true rfl)) dL_house_896 ⟨Nat.le_of_ble_eq_true rfl, Nat.le_of_ble_eq_true rfl⟩) hm9 (fun r i H locs hr w => ?_)
  obtain ⟨hI, hr9⟩ := hr
  refine b_tp hr9 ?_
  refine lv_iconst (v := nI 1) hx hb dL_house_899 (by decide) ?_
  refine lv_icmp_ne (tgt := 987) hx hb dL_house_900 (by decide) (fun c9 => absurd rfl c9) (fun c9 => ?_)
  refine lv_aload_n hx hb dL_house_903 rfl (lv_at hl 0 rfl) ?_
  refine lv_iconst (v := nI 0) hx hb dL_house_904 (by decide) ?_
  refine hs_calli w (va_runV (As := [.int (nI 0)]) (rest := []) X (n_send l hl0 G _ a _ _ _ _ hI _ ehq_79) (cwV 1 hts gL_house_X5_send rfl rfl rfl (by decide +kernel) ⟨Nat.le_of_ble_eq_true rfl, Nat.le_of_ble_eq_true rfl⟩) ⟨b_blind, hs_recv E w, fun U9 hU9 hW9 => ⟨rfl, hs_pre E Z9 w hm9 U9 hU9 hW9⟩⟩ rfl rfl hl.1 rfl (lv_room (Nat.le_of_ble_eq_true rfl)) dL_house_905 ⟨Nat.le_of_ble_eq_true rfl, Nat.le_of_ble_eq_true rfl⟩) hm9 (fun r i H locs hr w => ?_)
  obtain ⟨hI, hr9⟩ := hr
  refine b_tp hr9 ?_
  refine lv_iconst (v := nI 1) hx hb dL_house_908 (by decide) ?_
  refine lv_icmp_ne (tgt := 987) hx hb dL_house_909 (by decide) (fun c9 => absurd rfl c9) (fun c9 => ?_)
  refine lv_aload_n hx hb dL_house_912 rfl (lv_at hl 0 rfl) ?_
  refine lv_iconst (v := nI 0) hx hb dL_house_913 (by decide) ?_
  refine hs_calli w (va_runV (As := [.int (nI 0)]) (rest := []) X (n_refusal l hl0 G _ a _ _ _ _ hI _ ehq_80) (cwV 1 hts gL_house_X5_refusal rfl rfl rfl (by decide +kernel) ⟨Nat.le_of_ble_eq_true rfl, Nat.le_of_ble_eq_true rfl⟩) ⟨b_blind, hs_recv E w, fun U9 hU9 hW9 => ⟨rfl, hs_pre E Z9 w hm9 U9 hU9 hW9⟩⟩ rfl rfl hl.1 rfl (lv_room (Nat.le_of_ble_eq_true rfl)) dL_house_914 ⟨Nat.le_of_ble_eq_true rfl, Nat.le_of_ble_eq_true rfl⟩) hm9 (fun r i H locs hr w => ?_)
  obtain ⟨hI, hr9⟩ := hr
  refine b_tp hr9 ?_
  refine lv_if_ne (tgt := 987) hx hb dL_house_917 (by decide) (fun c9 => absurd rfl c9) (fun c9 => ?_)
  refine lv_aload_n hx hb dL_house_920 rfl (lv_at hl 0 rfl) ?_
  refine lv_iconst (v := nI 1) hx hb dL_house_921 (by decide) ?_
  refine lv_iconst (v := nI 0) hx hb dL_house_922 (by decide) ?_
  refine lv_iconst (v := nI 5) hx hb dL_house_923 (by decide) ?_
  refine lv_iconst (v := nI 2) hx hb dL_house_924 (by decide) ?_
  refine hs_calli w (va_runV (As := [.int (nI 1), .int (nI 0), .int (nI 5), .int (nI 2)]) (rest := []) X (n_value l hl0 G _ a _ _ _ _ hI _ _ _ _ ehq_81) (cwV 4 hts gL_house_X5_value rfl rfl rfl (by decide +kernel) ⟨Nat.le_of_ble_eq_true rfl, Nat.le_of_ble_eq_true rfl⟩) ⟨b_blind, hs_recv E w, fun U9 hU9 hW9 => ⟨rfl, hs_pre E Z9 w hm9 U9 hU9 hW9⟩⟩ rfl rfl hl.1 rfl (lv_room (Nat.le_of_ble_eq_true rfl)) dL_house_925 ⟨Nat.le_of_ble_eq_true rfl, Nat.le_of_ble_eq_true rfl⟩) hm9 (fun r i H locs hr w => ?_)
  obtain ⟨hI, hr9, -⟩ := hr
  refine b_tp hr9 ?_
  refine lv_bipush (v := nI 17) hx hb dL_house_928 (by decide) ?_
  refine lv_icmp_ne (tgt := 987) hx hb dL_house_930 (by decide) (fun c9 => absurd rfl c9) (fun c9 => ?_)
  refine lv_aload_n hx hb dL_house_933 rfl (lv_at hl 0 rfl) ?_
  refine lv_iconst (v := nI 0) hx hb dL_house_934 (by decide) ?_
  refine lv_iconst (v := nI 2) hx hb dL_house_935 (by decide) ?_
  refine lv_iconst (v := nI 5) hx hb dL_house_936 (by decide) ?_
  refine lv_iconst (v := nI 2) hx hb dL_house_937 (by decide) ?_
  refine hs_calli w (va_runV (As := [.int (nI 0), .int (nI 2), .int (nI 5), .int (nI 2)]) (rest := []) X (n_value l hl0 G _ a _ _ _ _ hI _ _ _ _ ehq_82) (cwV 4 hts gL_house_X5_value rfl rfl rfl (by decide +kernel) ⟨Nat.le_of_ble_eq_true rfl, Nat.le_of_ble_eq_true rfl⟩) ⟨b_blind, hs_recv E w, fun U9 hU9 hW9 => ⟨rfl, hs_pre E Z9 w hm9 U9 hU9 hW9⟩⟩ rfl rfl hl.1 rfl (lv_room (Nat.le_of_ble_eq_true rfl)) dL_house_938 ⟨Nat.le_of_ble_eq_true rfl, Nat.le_of_ble_eq_true rfl⟩) hm9 (fun r i H locs hr w => ?_)
  obtain ⟨hI, hr9, -⟩ := hr
  refine b_tp hr9 ?_
  refine lv_iconst (v := nI 2) hx hb dL_house_941 (by decide) ?_
  refine lv_icmp_ne (tgt := 987) hx hb dL_house_942 (by decide) (fun c9 => absurd rfl c9) (fun c9 => ?_)
  refine lv_aload_n hx hb dL_house_945 rfl (lv_at hl 0 rfl) ?_
  refine lv_iconst (v := nI 0) hx hb dL_house_946 (by decide) ?_
  refine lv_iconst (v := nI 0) hx hb dL_house_947 (by decide) ?_
  refine lv_iconst (v := nI 5) hx hb dL_house_948 (by decide) ?_
  refine hs_calli w (va_runV (As := [.int (nI 0), .int (nI 0), .int (nI 5)]) (rest := []) X (n_hasFault l hl0 G _ a _ _ _ _ hI _ _ _ ehq_83) (cwV 3 hts gL_house_X5_hasFault rfl rfl rfl (by decide +kernel) ⟨Nat.le_of_ble_eq_true rfl, Nat.le_of_ble_eq_true rfl⟩) ⟨b_blind, hs_recv E w, fun U9 hU9 hW9 => ⟨rfl, hs_pre E Z9 w hm9 U9 hU9 hW9⟩⟩ rfl rfl hl.1 rfl (lv_room (Nat.le_of_ble_eq_true rfl)) dL_house_949 ⟨Nat.le_of_ble_eq_true rfl, Nat.le_of_ble_eq_true rfl⟩) hm9 (fun r i H locs hr w => ?_)
  obtain ⟨hI, hr9⟩ := hr
  refine b_tp hr9 ?_
  refine lv_if_eq (tgt := 987) hx hb dL_house_952 (by decide) (fun c9 => absurd c9 (by decide)) (fun c9 => ?_)
  refine lv_aload_n hx hb dL_house_955 rfl (lv_at hl 0 rfl) ?_
  refine lv_iconst (v := nI 1) hx hb dL_house_956 (by decide) ?_
  refine lv_iconst (v := nI 2) hx hb dL_house_957 (by decide) ?_
  refine lv_iconst (v := nI 5) hx hb dL_house_958 (by decide) ?_
  refine hs_calli w (va_runV (As := [.int (nI 1), .int (nI 2), .int (nI 5)]) (rest := []) X (n_revisions l hl0 G _ a _ _ _ _ hI _ _ _ ehq_84) (cwV 3 hts gL_house_X5_revisions rfl rfl rfl (by decide +kernel) ⟨Nat.le_of_ble_eq_true rfl, Nat.le_of_ble_eq_true rfl⟩) ⟨b_blind, hs_recv E w, fun U9 hU9 hW9 => ⟨rfl, hs_pre E Z9 w hm9 U9 hU9 hW9⟩⟩ rfl rfl hl.1 rfl (lv_room (Nat.le_of_ble_eq_true rfl)) dL_house_959 ⟨Nat.le_of_ble_eq_true rfl, Nat.le_of_ble_eq_true rfl⟩) hm9 (fun r i H locs hr w => ?_)
  obtain ⟨hI, hr9⟩ := hr
  refine b_tp hr9 ?_
  refine lv_iconst (v := nI 3) hx hb dL_house_962 (by decide) ?_
  refine lv_icmp_ne (tgt := 987) hx hb dL_house_963 (by decide) (fun c9 => absurd rfl c9) (fun c9 => ?_)
  refine lv_aload_n hx hb dL_house_966 rfl (lv_at hl 0 rfl) ?_
  refine lv_iconst (v := nI 1) hx hb dL_house_967 (by decide) ?_
  refine lv_iconst (v := nI 2) hx hb dL_house_968 (by decide) ?_
  refine lv_iconst (v := nI 5) hx hb dL_house_969 (by decide) ?_
  refine hs_calli w (va_runV (As := [.int (nI 1), .int (nI 2), .int (nI 5)]) (rest := []) X (n_first l hl0 G _ a _ _ _ _ hI _ _ _ ehq_85) (cwV 3 hts gL_house_X5_first rfl rfl rfl (by decide +kernel) ⟨Nat.le_of_ble_eq_true rfl, Nat.le_of_ble_eq_true rfl⟩) ⟨b_blind, hs_recv E w, fun U9 hU9 hW9 => ⟨rfl, hs_pre E Z9 w hm9 U9 hU9 hW9⟩⟩ rfl rfl hl.1 rfl (lv_room (Nat.le_of_ble_eq_true rfl)) dL_house_970 ⟨Nat.le_of_ble_eq_true rfl, Nat.le_of_ble_eq_true rfl⟩) hm9 (fun r i H locs hr w => ?_)
  obtain ⟨hI, hr9⟩ := hr
  refine b_tp hr9 ?_
  refine lv_iconst (v := nI 4) hx hb dL_house_973 (by decide) ?_
  refine lv_icmp_ne (tgt := 987) hx hb dL_house_974 (by decide) (fun c9 => absurd rfl c9) (fun c9 => ?_)
  refine lv_aload_n hx hb dL_house_977 rfl (lv_at hl 0 rfl) ?_
  refine lv_iconst (v := nI 4) hx hb dL_house_978 (by decide) ?_
  refine lv_iconst (v := nI 3) hx hb dL_house_979 (by decide) ?_
  refine lv_iconst (v := nI 2) hx hb dL_house_980 (by decide) ?_
  refine hs_calli w (va_runS (As := [.ref (a 0), .int (nI 4), .int (nI 3), .int (nI 2)]) (rest := []) X (c_refuses l hl0 G _ a _ _ hI 4 3 2 ehq_86) (va_cwS 4 hts gL_house_L_refuses rfl rfl rfl (by decide +kernel) ⟨Nat.le_of_ble_eq_true rfl, Nat.le_of_ble_eq_true rfl⟩) ⟨b_blind, fun U9 hU9 hW9 => ⟨rfl, hs_pre E Z9 w hm9 U9 hU9 hW9⟩⟩ rfl rfl hl.1 rfl (lv_room (Nat.le_of_ble_eq_true rfl)) dL_house_981 ⟨Nat.le_of_ble_eq_true rfl, Nat.le_of_ble_eq_true rfl⟩) hm9 (fun r i H locs hr w => ?_)
  obtain ⟨hI, hr9⟩ := hr
  refine b_tp hr9 ?_
  refine lv_if_ne (tgt := 989) hx hb dL_house_984 (by decide) (fun c9 => ?_) (fun c9 => absurd c9 (by decide))
  refine lv_aload_n hx hb dL_house_989 rfl (lv_at hl 0 rfl) ?_
  refine hs_calli w (va_runS (As := [.ref (a 0)]) (rest := []) X (c_secrets l hl0 G _ a _ hI) (va_cwS 1 hts gL_house_L_secrets rfl rfl rfl (by decide +kernel) ⟨Nat.le_of_ble_eq_true rfl, Nat.le_of_ble_eq_true rfl⟩) ⟨b_blind, fun U9 hU9 hW9 => ⟨rfl, hs_pre E Z9 w hm9 U9 hU9 hW9⟩⟩ rfl rfl hl.1 rfl (lv_room (Nat.le_of_ble_eq_true rfl)) dL_house_990 ⟨Nat.le_of_ble_eq_true rfl, Nat.le_of_ble_eq_true rfl⟩) hm9 (fun r i H locs hr w => ?_)
  obtain ⟨hI, hr9⟩ := hr
  refine b_tp hr9 ?_
  refine lv_if_eq (tgt := 1012) hx hb dL_house_993 (by decide) (fun c9 => absurd c9 (by decide)) (fun c9 => ?_)
  refine b_calli w (va_runS (As := []) (rest := []) X (c_signs l hl0 G _) (va_cwS 0 hts gL_house_L_signs rfl rfl rfl (by decide +kernel) ⟨Nat.le_of_ble_eq_true rfl, Nat.le_of_ble_eq_true rfl⟩) ⟨b_blind, fun U9 hU9 hW9 => ⟨rfl, b_pre E Z9 w [] (by decide) rfl b_nil U9 hU9 hW9⟩⟩ rfl rfl hl.1 rfl (lv_room (Nat.le_of_ble_eq_true rfl)) dL_house_996 ⟨Nat.le_of_ble_eq_true rfl, Nat.le_of_ble_eq_true rfl⟩) b_nil [] (fun _ => rfl) rfl (fun r _ H locs hr w => ?_)
  have w : bSt G vwCl [] s (hs_W G a es_12 i) _ _ := w
  have hr9 := hr
  refine b_tp hr9 ?_
  refine lv_if_eq (tgt := 1012) hx hb dL_house_999 (by decide) (fun c9 => absurd c9 (by decide)) (fun c9 => ?_)
  refine b_calli w (va_runS (As := []) (rest := []) X (c_most l hl0 G _) (va_cwS 0 hts gL_house_L_most rfl rfl rfl (by decide +kernel) ⟨Nat.le_of_ble_eq_true rfl, Nat.le_of_ble_eq_true rfl⟩) ⟨b_blind, fun U9 hU9 hW9 => ⟨rfl, b_pre E Z9 w [] (by decide) rfl b_nil U9 hU9 hW9⟩⟩ rfl rfl hl.1 rfl (lv_room (Nat.le_of_ble_eq_true rfl)) dL_house_1002 ⟨Nat.le_of_ble_eq_true rfl, Nat.le_of_ble_eq_true rfl⟩) b_nil [] (fun _ => rfl) rfl (fun r _ H locs hr w => ?_)
  have w : bSt G vwCl [] s (hs_W G a es_12 i) _ _ := w
  have hr9 := hr
  refine b_tp hr9 ?_
  refine lv_if_eq (tgt := 1012) hx hb dL_house_1005 (by decide) (fun c9 => absurd c9 (by decide)) (fun c9 => ?_)
  refine lv_iconst (v := nI 1) hx hb dL_house_1008 (by decide) ?_
  refine lv_goto (tgt := 1013) hx hb dL_house_1009 (by decide) ?_
  exact W.zret (v := nI 1) hx hb hr0 rfl (fun t9 ht9 hW9 => ⟨⟨nI 1, (), rfl, rfl, (fun k q h => by simp at h)⟩, w.2.1.F ht9⟩) w.2.1.2.2 dL_house_1013
