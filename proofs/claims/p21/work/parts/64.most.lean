set_option maxHeartbeats 4000000 in
set_option maxRecDepth 100000 in
theorem sg_most_0 {p : Program} {l : Launch} (hl0 : l.stackTraces = false) {e : Env} {s : State} {m : MethodId} {below : List Frame} {meth : Method} {c : Code} {G : bG} {args : Array Value} {Q : State → Prop} (X : CallFix p m c cL_most 3 s args wsL_most RL) (E : bE G vwCl bNW bSW s) {a : Nat → Nat} (Z9 : bZ [] s) (hm9 : ∀ q ∈ hs_M a, Aw [] s.heap.size q) {i : hs_I} {H : Heap} {locs : List Loc} {ls : Array Slot} (hI : hs_Inv hs_e0 i) (w : bSt G vwCl [] s (hs_W G a hs_e0 i) H locs) (hl : lv_has ls 3 [(0, .ref (a 0))])
    (kk : ∀ (i : hs_I) (H : Heap) (locs : List Loc) (ls : Array Slot), hs_Inv em_19 i → bSt G vwCl [] s (hs_W G a em_19 i) H locs → lv_has ls 3 [(0, .ref (a 0)), (1, .int (nI 4))] → W p l e ({ frames := 10, cells := 1128, slots := 16467, locals := 237 }) s m args below meth c H locs 65 10013 Q (F0 m 88 ls [])) : W p l e ({ frames := 10, cells := 1128, slots := 16467, locals := 237 }) s m args below meth c H locs 25 9773 Q (F0 m 8 ls []) := by
  have hx := X.1
  have hb := X.2.1
  have hml := X.2.2.1
  have hown := X.2.2.2.1
  have hts := X.2.2.2.2
  refine lv_iconst (v := nI 0) hx hb dL_most_8 (by decide) ?_
  refine lv_istore_n (lv' := [(1, .int (nI 0)), (0, .ref (a 0))]) hx hb dL_most_9 rfl hl (by decide) rfl (fun ls hl => ?_)
  refine lv_iload_n hx hb dL_most_10 rfl (lv_at hl 0 rfl) ?_
  refine lv_bipush (v := nI 15) hx hb dL_most_11 (by decide) ?_
  refine lv_icmp_ge (tgt := 51) hx hb dL_most_13 (by decide) (fun c9 => absurd c9 (by decide)) (fun c9 => ?_)
  refine lv_aload_n hx hb dL_most_16 rfl (lv_at hl 1 rfl) ?_
  refine lv_iconst (v := nI 0) hx hb dL_most_17 (by decide) ?_
  refine lv_iload_n hx hb dL_most_18 rfl (lv_at hl 0 rfl) ?_
  refine lv_iconst (v := nI 1) hx hb dL_most_19 (by decide) ?_
  refine lv_isub hx hb dL_most_20 ?_
  refine b_tp (show (nI 0) - (nI 1) = -1 from by decide) ?_
  refine lv_iconst (v := nI 0) hx hb dL_most_21 (by decide) ?_
  refine lv_iconst (v := nI 0) hx hb dL_most_22 (by decide) ?_
  refine lv_iconst (v := nI 0) hx hb dL_most_23 (by decide) ?_
  refine lv_iconst (v := nI 0) hx hb dL_most_24 (by decide) ?_
  refine hs_calli w (vx_runSW (As := [.ref (a 0), .int (nI 0), .int (-1), .int (nI 0), .int (nI 0), .int (nI 0), .int (nI 0)]) (rest := []) X (aS_area l hl0 G _ a _ _ hI (-1) (nI 0) (nI 0) (nI 0) (nI 0) _ _ emq_1) (vx_cwSW 7 hts gL_most_L_act rfl rfl rfl (by decide +kernel) ⟨Nat.le_of_ble_eq_true rfl, Nat.le_of_ble_eq_true rfl⟩) ⟨b_blind, fun U9 hU9 hW9 => ⟨rfl, hs_pre E Z9 w hm9 U9 hU9 hW9⟩⟩ rfl rfl hl.1 rfl (lv_room (Nat.le_of_ble_eq_true rfl)) dL_most_25 ⟨Nat.le_of_ble_eq_true rfl, Nat.le_of_ble_eq_true rfl⟩) hm9 (fun r i H locs hr w => ?_)
  obtain ⟨hI, hr9⟩ := hr
  refine b_tp hr9 ?_
  refine lv_iload_n hx hb dL_most_28 rfl (lv_at hl 0 rfl) ?_
  refine lv_bipush (v := nI 14) hx hb dL_most_29 (by decide) ?_
  refine lv_icmp_ge (tgt := 38) hx hb dL_most_31 (by decide) (fun c9 => absurd c9 (by decide)) (fun c9 => ?_)
  refine lv_iload_n hx hb dL_most_34 rfl (lv_at hl 0 rfl) ?_
  refine lv_goto (tgt := 40) hx hb dL_most_35 (by decide) ?_
  refine lv_icmp_eq (tgt := 45) hx hb dL_most_40 (by decide) (fun c9 => ?_) (fun c9 => absurd rfl c9)
  refine lv_iinc (v := nI 1) (lv' := [(1, .int (nI 1)), (0, .ref (a 0))]) hx hb dL_most_45 hl (k := 0) rfl (by decide) (by decide) rfl (fun ls hl => ?_)
  refine lv_goto (tgt := 10) hx hb dL_most_48 (by decide) ?_
  refine lv_iload_n hx hb dL_most_10 rfl (lv_at hl 0 rfl) ?_
  refine lv_bipush (v := nI 15) hx hb dL_most_11 (by decide) ?_
  refine lv_icmp_ge (tgt := 51) hx hb dL_most_13 (by decide) (fun c9 => absurd c9 (by decide)) (fun c9 => ?_)
  refine lv_aload_n hx hb dL_most_16 rfl (lv_at hl 1 rfl) ?_
  refine lv_iconst (v := nI 0) hx hb dL_most_17 (by decide) ?_
  refine lv_iload_n hx hb dL_most_18 rfl (lv_at hl 0 rfl) ?_
  refine lv_iconst (v := nI 1) hx hb dL_most_19 (by decide) ?_
  refine lv_isub hx hb dL_most_20 ?_
  refine b_tp (show (nI 1) - (nI 1) = nI 0 from by decide) ?_
  refine lv_iconst (v := nI 0) hx hb dL_most_21 (by decide) ?_
  refine lv_iconst (v := nI 0) hx hb dL_most_22 (by decide) ?_
  refine lv_iconst (v := nI 0) hx hb dL_most_23 (by decide) ?_
  refine lv_iconst (v := nI 0) hx hb dL_most_24 (by decide) ?_
  refine hs_calli w (vx_runSW (As := [.ref (a 0), .int (nI 0), .int (nI 0), .int (nI 0), .int (nI 0), .int (nI 0), .int (nI 0)]) (rest := []) X (aS_area l hl0 G _ a _ _ hI (nI 0) (nI 0) (nI 0) (nI 0) (nI 0) _ _ emq_2) (vx_cwSW 7 hts gL_most_L_act rfl rfl rfl (by decide +kernel) ⟨Nat.le_of_ble_eq_true rfl, Nat.le_of_ble_eq_true rfl⟩) ⟨b_blind, fun U9 hU9 hW9 => ⟨rfl, hs_pre E Z9 w hm9 U9 hU9 hW9⟩⟩ rfl rfl hl.1 rfl (lv_room (Nat.le_of_ble_eq_true rfl)) dL_most_25 ⟨Nat.le_of_ble_eq_true rfl, Nat.le_of_ble_eq_true rfl⟩) hm9 (fun r i H locs hr w => ?_)
  obtain ⟨hI, hr9⟩ := hr
  refine b_tp hr9 ?_
  refine lv_iload_n hx hb dL_most_28 rfl (lv_at hl 0 rfl) ?_
  refine lv_bipush (v := nI 14) hx hb dL_most_29 (by decide) ?_
  refine lv_icmp_ge (tgt := 38) hx hb dL_most_31 (by decide) (fun c9 => absurd c9 (by decide)) (fun c9 => ?_)
  refine lv_iload_n hx hb dL_most_34 rfl (lv_at hl 0 rfl) ?_
  refine lv_goto (tgt := 40) hx hb dL_most_35 (by decide) ?_
  refine lv_icmp_eq (tgt := 45) hx hb dL_most_40 (by decide) (fun c9 => ?_) (fun c9 => absurd rfl c9)
  refine lv_iinc (v := nI 2) (lv' := [(1, .int (nI 2)), (0, .ref (a 0))]) hx hb dL_most_45 hl (k := 0) rfl (by decide) (by decide) rfl (fun ls hl => ?_)
  refine lv_goto (tgt := 10) hx hb dL_most_48 (by decide) ?_
  refine lv_iload_n hx hb dL_most_10 rfl (lv_at hl 0 rfl) ?_
  refine lv_bipush (v := nI 15) hx hb dL_most_11 (by decide) ?_
  refine lv_icmp_ge (tgt := 51) hx hb dL_most_13 (by decide) (fun c9 => absurd c9 (by decide)) (fun c9 => ?_)
  refine lv_aload_n hx hb dL_most_16 rfl (lv_at hl 1 rfl) ?_
  refine lv_iconst (v := nI 0) hx hb dL_most_17 (by decide) ?_
  refine lv_iload_n hx hb dL_most_18 rfl (lv_at hl 0 rfl) ?_
  refine lv_iconst (v := nI 1) hx hb dL_most_19 (by decide) ?_
  refine lv_isub hx hb dL_most_20 ?_
  refine b_tp (show (nI 2) - (nI 1) = nI 1 from by decide) ?_
  refine lv_iconst (v := nI 0) hx hb dL_most_21 (by decide) ?_
  refine lv_iconst (v := nI 0) hx hb dL_most_22 (by decide) ?_
  refine lv_iconst (v := nI 0) hx hb dL_most_23 (by decide) ?_
  refine lv_iconst (v := nI 0) hx hb dL_most_24 (by decide) ?_
  refine hs_calli w (vx_runSW (As := [.ref (a 0), .int (nI 0), .int (nI 1), .int (nI 0), .int (nI 0), .int (nI 0), .int (nI 0)]) (rest := []) X (aS_area l hl0 G _ a _ _ hI (nI 1) (nI 0) (nI 0) (nI 0) (nI 0) _ _ emq_3) (vx_cwSW 7 hts gL_most_L_act rfl rfl rfl (by decide +kernel) ⟨Nat.le_of_ble_eq_true rfl, Nat.le_of_ble_eq_true rfl⟩) ⟨b_blind, fun U9 hU9 hW9 => ⟨rfl, hs_pre E Z9 w hm9 U9 hU9 hW9⟩⟩ rfl rfl hl.1 rfl (lv_room (Nat.le_of_ble_eq_true rfl)) dL_most_25 ⟨Nat.le_of_ble_eq_true rfl, Nat.le_of_ble_eq_true rfl⟩) hm9 (fun r i H locs hr w => ?_)
  obtain ⟨hI, hr9⟩ := hr
  refine b_tp hr9 ?_
  refine lv_iload_n hx hb dL_most_28 rfl (lv_at hl 0 rfl) ?_
  refine lv_bipush (v := nI 14) hx hb dL_most_29 (by decide) ?_
  refine lv_icmp_ge (tgt := 38) hx hb dL_most_31 (by decide) (fun c9 => absurd c9 (by decide)) (fun c9 => ?_)
  refine lv_iload_n hx hb dL_most_34 rfl (lv_at hl 0 rfl) ?_
  refine lv_goto (tgt := 40) hx hb dL_most_35 (by decide) ?_
  refine lv_icmp_eq (tgt := 45) hx hb dL_most_40 (by decide) (fun c9 => ?_) (fun c9 => absurd rfl c9)
  refine lv_iinc (v := nI 3) (lv' := [(1, .int (nI 3)), (0, .ref (a 0))]) hx hb dL_most_45 hl (k := 0) rfl (by decide) (by decide) rfl (fun ls hl => ?_)
  refine lv_goto (tgt := 10) hx hb dL_most_48 (by decide) ?_
  refine lv_iload_n hx hb dL_most_10 rfl (lv_at hl 0 rfl) ?_
  refine lv_bipush (v := nI 15) hx hb dL_most_11 (by decide) ?_
  refine lv_icmp_ge (tgt := 51) hx hb dL_most_13 (by decide) (fun c9 => absurd c9 (by decide)) (fun c9 => ?_)
  refine lv_aload_n hx hb dL_most_16 rfl (lv_at hl 1 rfl) ?_
  refine lv_iconst (v := nI 0) hx hb dL_most_17 (by decide) ?_
  refine lv_iload_n hx hb dL_most_18 rfl (lv_at hl 0 rfl) ?_
  refine lv_iconst (v := nI 1) hx hb dL_most_19 (by decide) ?_
  refine lv_isub hx hb dL_most_20 ?_
  refine b_tp (show (nI 3) - (nI 1) = nI 2 from by decide) ?_
  refine lv_iconst (v := nI 0) hx hb dL_most_21 (by decide) ?_
  refine lv_iconst (v := nI 0) hx hb dL_most_22 (by decide) ?_
  refine lv_iconst (v := nI 0) hx hb dL_most_23 (by decide) ?_
  refine lv_iconst (v := nI 0) hx hb dL_most_24 (by decide) ?_
  refine hs_calli w (vx_runSW (As := [.ref (a 0), .int (nI 0), .int (nI 2), .int (nI 0), .int (nI 0), .int (nI 0), .int (nI 0)]) (rest := []) X (aS_area l hl0 G _ a _ _ hI (nI 2) (nI 0) (nI 0) (nI 0) (nI 0) _ _ emq_4) (vx_cwSW 7 hts gL_most_L_act rfl rfl rfl (by decide +kernel) ⟨Nat.le_of_ble_eq_true rfl, Nat.le_of_ble_eq_true rfl⟩) ⟨b_blind, fun U9 hU9 hW9 => ⟨rfl, hs_pre E Z9 w hm9 U9 hU9 hW9⟩⟩ rfl rfl hl.1 rfl (lv_room (Nat.le_of_ble_eq_true rfl)) dL_most_25 ⟨Nat.le_of_ble_eq_true rfl, Nat.le_of_ble_eq_true rfl⟩) hm9 (fun r i H locs hr w => ?_)
  obtain ⟨hI, hr9⟩ := hr
  refine b_tp hr9 ?_
  refine lv_iload_n hx hb dL_most_28 rfl (lv_at hl 0 rfl) ?_
  refine lv_bipush (v := nI 14) hx hb dL_most_29 (by decide) ?_
  refine lv_icmp_ge (tgt := 38) hx hb dL_most_31 (by decide) (fun c9 => absurd c9 (by decide)) (fun c9 => ?_)
  refine lv_iload_n hx hb dL_most_34 rfl (lv_at hl 0 rfl) ?_
  refine lv_goto (tgt := 40) hx hb dL_most_35 (by decide) ?_
  refine lv_icmp_eq (tgt := 45) hx hb dL_most_40 (by decide) (fun c9 => ?_) (fun c9 => absurd rfl c9)
  refine lv_iinc (v := nI 4) (lv' := [(1, .int (nI 4)), (0, .ref (a 0))]) hx hb dL_most_45 hl (k := 0) rfl (by decide) (by decide) rfl (fun ls hl => ?_)
  refine lv_goto (tgt := 10) hx hb dL_most_48 (by decide) ?_
  refine lv_iload_n hx hb dL_most_10 rfl (lv_at hl 0 rfl) ?_
  refine lv_bipush (v := nI 15) hx hb dL_most_11 (by decide) ?_
  refine lv_icmp_ge (tgt := 51) hx hb dL_most_13 (by decide) (fun c9 => absurd c9 (by decide)) (fun c9 => ?_)
  refine lv_aload_n hx hb dL_most_16 rfl (lv_at hl 1 rfl) ?_
  refine lv_iconst (v := nI 0) hx hb dL_most_17 (by decide) ?_
  refine lv_iload_n hx hb dL_most_18 rfl (lv_at hl 0 rfl) ?_
  refine lv_iconst (v := nI 1) hx hb dL_most_19 (by decide) ?_
  refine lv_isub hx hb dL_most_20 ?_
  refine b_tp (show (nI 4) - (nI 1) = nI 3 from by decide) ?_
  refine lv_iconst (v := nI 0) hx hb dL_most_21 (by decide) ?_
  refine lv_iconst (v := nI 0) hx hb dL_most_22 (by decide) ?_
  refine lv_iconst (v := nI 0) hx hb dL_most_23 (by decide) ?_
  refine lv_iconst (v := nI 0) hx hb dL_most_24 (by decide) ?_
  refine hs_calli w (vx_runSW (As := [.ref (a 0), .int (nI 0), .int (nI 3), .int (nI 0), .int (nI 0), .int (nI 0), .int (nI 0)]) (rest := []) X (aS_area l hl0 G _ a _ _ hI (nI 3) (nI 0) (nI 0) (nI 0) (nI 0) _ _ emq_5) (vx_cwSW 7 hts gL_most_L_act rfl rfl rfl (by decide +kernel) ⟨Nat.le_of_ble_eq_true rfl, Nat.le_of_ble_eq_true rfl⟩) ⟨b_blind, fun U9 hU9 hW9 => ⟨rfl, hs_pre E Z9 w hm9 U9 hU9 hW9⟩⟩ rfl rfl hl.1 rfl (lv_room (Nat.le_of_ble_eq_true rfl)) dL_most_25 ⟨Nat.le_of_ble_eq_true rfl, Nat.le_of_ble_eq_true rfl⟩) hm9 (fun r i H locs hr w => ?_)
  obtain ⟨hI, hr9⟩ := hr
  refine b_tp hr9 ?_
  refine lv_iload_n hx hb dL_most_28 rfl (lv_at hl 0 rfl) ?_
  refine lv_bipush (v := nI 14) hx hb dL_most_29 (by decide) ?_
  refine lv_icmp_ge (tgt := 38) hx hb dL_most_31 (by decide) (fun c9 => absurd c9 (by decide)) (fun c9 => ?_)
  refine lv_iload_n hx hb dL_most_34 rfl (lv_at hl 0 rfl) ?_
  refine lv_goto (tgt := 40) hx hb dL_most_35 (by decide) ?_
  refine lv_icmp_eq (tgt := 45) hx hb dL_most_40 (by decide) (fun c9 => ?_) (fun c9 => absurd rfl c9)
  refine lv_iinc (v := nI 5) (lv' := [(1, .int (nI 5)), (0, .ref (a 0))]) hx hb dL_most_45 hl (k := 0) rfl (by decide) (by decide) rfl (fun ls hl => ?_)
  refine lv_goto (tgt := 10) hx hb dL_most_48 (by decide) ?_
  refine lv_iload_n hx hb dL_most_10 rfl (lv_at hl 0 rfl) ?_
  refine lv_bipush (v := nI 15) hx hb dL_most_11 (by decide) ?_
  refine lv_icmp_ge (tgt := 51) hx hb dL_most_13 (by decide) (fun c9 => absurd c9 (by decide)) (fun c9 => ?_)
  refine lv_aload_n hx hb dL_most_16 rfl (lv_at hl 1 rfl) ?_
  refine lv_iconst (v := nI 0) hx hb dL_most_17 (by decide) ?_
  refine lv_iload_n hx hb dL_most_18 rfl (lv_at hl 0 rfl) ?_
  refine lv_iconst (v := nI 1) hx hb dL_most_19 (by decide) ?_
  refine lv_isub hx hb dL_most_20 ?_
  refine b_tp (show (nI 5) - (nI 1) = nI 4 from by decide) ?_
  refine lv_iconst (v := nI 0) hx hb dL_most_21 (by decide) ?_
  refine lv_iconst (v := nI 0) hx hb dL_most_22 (by decide) ?_
  refine lv_iconst (v := nI 0) hx hb dL_most_23 (by decide) ?_
  refine lv_iconst (v := nI 0) hx hb dL_most_24 (by decide) ?_
  refine hs_calli w (vx_runSW (As := [.ref (a 0), .int (nI 0), .int (nI 4), .int (nI 0), .int (nI 0), .int (nI 0), .int (nI 0)]) (rest := []) X (aS_area l hl0 G _ a _ _ hI (nI 4) (nI 0) (nI 0) (nI 0) (nI 0) _ _ emq_6) (vx_cwSW 7 hts gL_most_L_act rfl rfl rfl (by decide +kernel) ⟨Nat.le_of_ble_eq_true rfl, Nat.le_of_ble_eq_true rfl⟩) ⟨b_blind, fun U9 hU9 hW9 => ⟨rfl, hs_pre E Z9 w hm9 U9 hU9 hW9⟩⟩ rfl rfl hl.1 rfl (lv_room (Nat.le_of_ble_eq_true rfl)) dL_most_25 ⟨Nat.le_of_ble_eq_true rfl, Nat.le_of_ble_eq_true rfl⟩) hm9 (fun r i H locs hr w => ?_)
  obtain ⟨hI, hr9⟩ := hr
  refine b_tp hr9 ?_
  refine lv_iload_n hx hb dL_most_28 rfl (lv_at hl 0 rfl) ?_
  refine lv_bipush (v := nI 14) hx hb dL_most_29 (by decide) ?_
  refine lv_icmp_ge (tgt := 38) hx hb dL_most_31 (by decide) (fun c9 => absurd c9 (by decide)) (fun c9 => ?_)
  refine lv_iload_n hx hb dL_most_34 rfl (lv_at hl 0 rfl) ?_
  refine lv_goto (tgt := 40) hx hb dL_most_35 (by decide) ?_
  refine lv_icmp_eq (tgt := 45) hx hb dL_most_40 (by decide) (fun c9 => ?_) (fun c9 => absurd rfl c9)
  refine lv_iinc (v := nI 6) (lv' := [(1, .int (nI 6)), (0, .ref (a 0))]) hx hb dL_most_45 hl (k := 0) rfl (by decide) (by decide) rfl (fun ls hl => ?_)
  refine lv_goto (tgt := 10) hx hb dL_most_48 (by decide) ?_
  refine lv_iload_n hx hb dL_most_10 rfl (lv_at hl 0 rfl) ?_
  refine lv_bipush (v := nI 15) hx hb dL_most_11 (by decide) ?_
  refine lv_icmp_ge (tgt := 51) hx hb dL_most_13 (by decide) (fun c9 => absurd c9 (by decide)) (fun c9 => ?_)
  refine lv_aload_n hx hb dL_most_16 rfl (lv_at hl 1 rfl) ?_
  refine lv_iconst (v := nI 0) hx hb dL_most_17 (by decide) ?_
  refine lv_iload_n hx hb dL_most_18 rfl (lv_at hl 0 rfl) ?_
  refine lv_iconst (v := nI 1) hx hb dL_most_19 (by decide) ?_
  refine lv_isub hx hb dL_most_20 ?_
  refine b_tp (show (nI 6) - (nI 1) = nI 5 from by decide) ?_
  refine lv_iconst (v := nI 0) hx hb dL_most_21 (by decide) ?_
  refine lv_iconst (v := nI 0) hx hb dL_most_22 (by decide) ?_
  refine lv_iconst (v := nI 0) hx hb dL_most_23 (by decide) ?_
  refine lv_iconst (v := nI 0) hx hb dL_most_24 (by decide) ?_
  refine hs_calli w (vx_runSW (As := [.ref (a 0), .int (nI 0), .int (nI 5), .int (nI 0), .int (nI 0), .int (nI 0), .int (nI 0)]) (rest := []) X (aS_area l hl0 G _ a _ _ hI (nI 5) (nI 0) (nI 0) (nI 0) (nI 0) _ _ emq_7) (vx_cwSW 7 hts gL_most_L_act rfl rfl rfl (by decide +kernel) ⟨Nat.le_of_ble_eq_true rfl, Nat.le_of_ble_eq_true rfl⟩) ⟨b_blind, fun U9 hU9 hW9 => ⟨rfl, hs_pre E Z9 w hm9 U9 hU9 hW9⟩⟩ rfl rfl hl.1 rfl (lv_room (Nat.le_of_ble_eq_true rfl)) dL_most_25 ⟨Nat.le_of_ble_eq_true rfl, Nat.le_of_ble_eq_true rfl⟩) hm9 (fun r i H locs hr w => ?_)
  obtain ⟨hI, hr9⟩ := hr
  refine b_tp hr9 ?_
  refine lv_iload_n hx hb dL_most_28 rfl (lv_at hl 0 rfl) ?_
  refine lv_bipush (v := nI 14) hx hb dL_most_29 (by decide) ?_
  refine lv_icmp_ge (tgt := 38) hx hb dL_most_31 (by decide) (fun c9 => absurd c9 (by decide)) (fun c9 => ?_)
  refine lv_iload_n hx hb dL_most_34 rfl (lv_at hl 0 rfl) ?_
  refine lv_goto (tgt := 40) hx hb dL_most_35 (by decide) ?_
  refine lv_icmp_eq (tgt := 45) hx hb dL_most_40 (by decide) (fun c9 => ?_) (fun c9 => absurd rfl c9)
  refine lv_iinc (v := nI 7) (lv' := [(1, .int (nI 7)), (0, .ref (a 0))]) hx hb dL_most_45 hl (k := 0) rfl (by decide) (by decide) rfl (fun ls hl => ?_)
  refine lv_goto (tgt := 10) hx hb dL_most_48 (by decide) ?_
  refine lv_iload_n hx hb dL_most_10 rfl (lv_at hl 0 rfl) ?_
  refine lv_bipush (v := nI 15) hx hb dL_most_11 (by decide) ?_
  refine lv_icmp_ge (tgt := 51) hx hb dL_most_13 (by decide) (fun c9 => absurd c9 (by decide)) (fun c9 => ?_)
  refine lv_aload_n hx hb dL_most_16 rfl (lv_at hl 1 rfl) ?_
  refine lv_iconst (v := nI 0) hx hb dL_most_17 (by decide) ?_
  refine lv_iload_n hx hb dL_most_18 rfl (lv_at hl 0 rfl) ?_
  refine lv_iconst (v := nI 1) hx hb dL_most_19 (by decide) ?_
  refine lv_isub hx hb dL_most_20 ?_
  refine b_tp (show (nI 7) - (nI 1) = nI 6 from by decide) ?_
  refine lv_iconst (v := nI 0) hx hb dL_most_21 (by decide) ?_
  refine lv_iconst (v := nI 0) hx hb dL_most_22 (by decide) ?_
  refine lv_iconst (v := nI 0) hx hb dL_most_23 (by decide) ?_
  refine lv_iconst (v := nI 0) hx hb dL_most_24 (by decide) ?_
  refine hs_calli w (vx_runSW (As := [.ref (a 0), .int (nI 0), .int (nI 6), .int (nI 0), .int (nI 0), .int (nI 0), .int (nI 0)]) (rest := []) X (aS_area l hl0 G _ a _ _ hI (nI 6) (nI 0) (nI 0) (nI 0) (nI 0) _ _ emq_8) (vx_cwSW 7 hts gL_most_L_act rfl rfl rfl (by decide +kernel) ⟨Nat.le_of_ble_eq_true rfl, Nat.le_of_ble_eq_true rfl⟩) ⟨b_blind, fun U9 hU9 hW9 => ⟨rfl, hs_pre E Z9 w hm9 U9 hU9 hW9⟩⟩ rfl rfl hl.1 rfl (lv_room (Nat.le_of_ble_eq_true rfl)) dL_most_25 ⟨Nat.le_of_ble_eq_true rfl, Nat.le_of_ble_eq_true rfl⟩) hm9 (fun r i H locs hr w => ?_)
  obtain ⟨hI, hr9⟩ := hr
  refine b_tp hr9 ?_
  refine lv_iload_n hx hb dL_most_28 rfl (lv_at hl 0 rfl) ?_
  refine lv_bipush (v := nI 14) hx hb dL_most_29 (by decide) ?_
  refine lv_icmp_ge (tgt := 38) hx hb dL_most_31 (by decide) (fun c9 => absurd c9 (by decide)) (fun c9 => ?_)
  refine lv_iload_n hx hb dL_most_34 rfl (lv_at hl 0 rfl) ?_
  refine lv_goto (tgt := 40) hx hb dL_most_35 (by decide) ?_
  refine lv_icmp_eq (tgt := 45) hx hb dL_most_40 (by decide) (fun c9 => ?_) (fun c9 => absurd rfl c9)
  refine lv_iinc (v := nI 8) (lv' := [(1, .int (nI 8)), (0, .ref (a 0))]) hx hb dL_most_45 hl (k := 0) rfl (by decide) (by decide) rfl (fun ls hl => ?_)
  refine lv_goto (tgt := 10) hx hb dL_most_48 (by decide) ?_
  refine lv_iload_n hx hb dL_most_10 rfl (lv_at hl 0 rfl) ?_
  refine lv_bipush (v := nI 15) hx hb dL_most_11 (by decide) ?_
  refine lv_icmp_ge (tgt := 51) hx hb dL_most_13 (by decide) (fun c9 => absurd c9 (by decide)) (fun c9 => ?_)
  refine lv_aload_n hx hb dL_most_16 rfl (lv_at hl 1 rfl) ?_
  refine lv_iconst (v := nI 0) hx hb dL_most_17 (by decide) ?_
  refine lv_iload_n hx hb dL_most_18 rfl (lv_at hl 0 rfl) ?_
  refine lv_iconst (v := nI 1) hx hb dL_most_19 (by decide) ?_
  refine lv_isub hx hb dL_most_20 ?_
  refine b_tp (show (nI 8) - (nI 1) = nI 7 from by decide) ?_
  refine lv_iconst (v := nI 0) hx hb dL_most_21 (by decide) ?_
  refine lv_iconst (v := nI 0) hx hb dL_most_22 (by decide) ?_
  refine lv_iconst (v := nI 0) hx hb dL_most_23 (by decide) ?_
  refine lv_iconst (v := nI 0) hx hb dL_most_24 (by decide) ?_
  refine hs_calli w (vx_runSW (As := [.ref (a 0), .int (nI 0), .int (nI 7), .int (nI 0), .int (nI 0), .int (nI 0), .int (nI 0)]) (rest := []) X (aS_area l hl0 G _ a _ _ hI (nI 7) (nI 0) (nI 0) (nI 0) (nI 0) _ _ emq_9) (vx_cwSW 7 hts gL_most_L_act rfl rfl rfl (by decide +kernel) ⟨Nat.le_of_ble_eq_true rfl, Nat.le_of_ble_eq_true rfl⟩) ⟨b_blind, fun U9 hU9 hW9 => ⟨rfl, hs_pre E Z9 w hm9 U9 hU9 hW9⟩⟩ rfl rfl hl.1 rfl (lv_room (Nat.le_of_ble_eq_true rfl)) dL_most_25 ⟨Nat.le_of_ble_eq_true rfl, Nat.le_of_ble_eq_true rfl⟩) hm9 (fun r i H locs hr w => ?_)
  obtain ⟨hI, hr9⟩ := hr
  refine b_tp hr9 ?_
  refine lv_iload_n hx hb dL_most_28 rfl (lv_at hl 0 rfl) ?_
  refine lv_bipush (v := nI 14) hx hb dL_most_29 (by decide) ?_
  refine lv_icmp_ge (tgt := 38) hx hb dL_most_31 (by decide) (fun c9 => absurd c9 (by decide)) (fun c9 => ?_)
  refine lv_iload_n hx hb dL_most_34 rfl (lv_at hl 0 rfl) ?_
  refine lv_goto (tgt := 40) hx hb dL_most_35 (by decide) ?_
  refine lv_icmp_eq (tgt := 45) hx hb dL_most_40 (by decide) (fun c9 => ?_) (fun c9 => absurd rfl c9)
  refine lv_iinc (v := nI 9) (lv' := [(1, .int (nI 9)), (0, .ref (a 0))]) hx hb dL_most_45 hl (k := 0) rfl (by decide) (by decide) rfl (fun ls hl => ?_)
  refine lv_goto (tgt := 10) hx hb dL_most_48 (by decide) ?_
  refine lv_iload_n hx hb dL_most_10 rfl (lv_at hl 0 rfl) ?_
  refine lv_bipush (v := nI 15) hx hb dL_most_11 (by decide) ?_
  refine lv_icmp_ge (tgt := 51) hx hb dL_most_13 (by decide) (fun c9 => absurd c9 (by decide)) (fun c9 => ?_)
  refine lv_aload_n hx hb dL_most_16 rfl (lv_at hl 1 rfl) ?_
  refine lv_iconst (v := nI 0) hx hb dL_most_17 (by decide) ?_
  refine lv_iload_n hx hb dL_most_18 rfl (lv_at hl 0 rfl) ?_
  refine lv_iconst (v := nI 1) hx hb dL_most_19 (by decide) ?_
  refine lv_isub hx hb dL_most_20 ?_
  refine b_tp (show (nI 9) - (nI 1) = nI 8 from by decide) ?_
  refine lv_iconst (v := nI 0) hx hb dL_most_21 (by decide) ?_
  refine lv_iconst (v := nI 0) hx hb dL_most_22 (by decide) ?_
  refine lv_iconst (v := nI 0) hx hb dL_most_23 (by decide) ?_
  refine lv_iconst (v := nI 0) hx hb dL_most_24 (by decide) ?_
  refine hs_calli w (vx_runSW (As := [.ref (a 0), .int (nI 0), .int (nI 8), .int (nI 0), .int (nI 0), .int (nI 0), .int (nI 0)]) (rest := []) X (aS_area l hl0 G _ a _ _ hI (nI 8) (nI 0) (nI 0) (nI 0) (nI 0) _ _ emq_10) (vx_cwSW 7 hts gL_most_L_act rfl rfl rfl (by decide +kernel) ⟨Nat.le_of_ble_eq_true rfl, Nat.le_of_ble_eq_true rfl⟩) ⟨b_blind, fun U9 hU9 hW9 => ⟨rfl, hs_pre E Z9 w hm9 U9 hU9 hW9⟩⟩ rfl rfl hl.1 rfl (lv_room (Nat.le_of_ble_eq_true rfl)) dL_most_25 ⟨Nat.le_of_ble_eq_true rfl, Nat.le_of_ble_eq_true rfl⟩) hm9 (fun r i H locs hr w => ?_)
  obtain ⟨hI, hr9⟩ := hr
  refine b_tp hr9 ?_
  refine lv_iload_n hx hb dL_most_28 rfl (lv_at hl 0 rfl) ?_
  refine lv_bipush (v := nI 14) hx hb dL_most_29 (by decide) ?_
  refine lv_icmp_ge (tgt := 38) hx hb dL_most_31 (by decide) (fun c9 => absurd c9 (by decide)) (fun c9 => ?_)
  refine lv_iload_n hx hb dL_most_34 rfl (lv_at hl 0 rfl) ?_
  refine lv_goto (tgt := 40) hx hb dL_most_35 (by decide) ?_
  refine lv_icmp_eq (tgt := 45) hx hb dL_most_40 (by decide) (fun c9 => ?_) (fun c9 => absurd rfl c9)
  refine lv_iinc (v := nI 10) (lv' := [(1, .int (nI 10)), (0, .ref (a 0))]) hx hb dL_most_45 hl (k := 0) rfl (by decide) (by decide) rfl (fun ls hl => ?_)
  refine lv_goto (tgt := 10) hx hb dL_most_48 (by decide) ?_
  refine lv_iload_n hx hb dL_most_10 rfl (lv_at hl 0 rfl) ?_
  refine lv_bipush (v := nI 15) hx hb dL_most_11 (by decide) ?_
  refine lv_icmp_ge (tgt := 51) hx hb dL_most_13 (by decide) (fun c9 => absurd c9 (by decide)) (fun c9 => ?_)
  refine lv_aload_n hx hb dL_most_16 rfl (lv_at hl 1 rfl) ?_
  refine lv_iconst (v := nI 0) hx hb dL_most_17 (by decide) ?_
  refine lv_iload_n hx hb dL_most_18 rfl (lv_at hl 0 rfl) ?_
  refine lv_iconst (v := nI 1) hx hb dL_most_19 (by decide) ?_
  refine lv_isub hx hb dL_most_20 ?_
  refine b_tp (show (nI 10) - (nI 1) = nI 9 from by decide) ?_
  refine lv_iconst (v := nI 0) hx hb dL_most_21 (by decide) ?_
  refine lv_iconst (v := nI 0) hx hb dL_most_22 (by decide) ?_
  refine lv_iconst (v := nI 0) hx hb dL_most_23 (by decide) ?_
  refine lv_iconst (v := nI 0) hx hb dL_most_24 (by decide) ?_
  refine hs_calli w (vx_runSW (As := [.ref (a 0), .int (nI 0), .int (nI 9), .int (nI 0), .int (nI 0), .int (nI 0), .int (nI 0)]) (rest := []) X (aS_area l hl0 G _ a _ _ hI (nI 9) (nI 0) (nI 0) (nI 0) (nI 0) _ _ emq_11) (vx_cwSW 7 hts gL_most_L_act rfl rfl rfl (by decide +kernel) ⟨Nat.le_of_ble_eq_true rfl, Nat.le_of_ble_eq_true rfl⟩) ⟨b_blind, fun U9 hU9 hW9 => ⟨rfl, hs_pre E Z9 w hm9 U9 hU9 hW9⟩⟩ rfl rfl hl.1 rfl (lv_room (Nat.le_of_ble_eq_true rfl)) dL_most_25 ⟨Nat.le_of_ble_eq_true rfl, Nat.le_of_ble_eq_true rfl⟩) hm9 (fun r i H locs hr w => ?_)
  obtain ⟨hI, hr9⟩ := hr
  refine b_tp hr9 ?_
  refine lv_iload_n hx hb dL_most_28 rfl (lv_at hl 0 rfl) ?_
  refine lv_bipush (v := nI 14) hx hb dL_most_29 (by decide) ?_
  refine lv_icmp_ge (tgt := 38) hx hb dL_most_31 (by decide) (fun c9 => absurd c9 (by decide)) (fun c9 => ?_)
  refine lv_iload_n hx hb dL_most_34 rfl (lv_at hl 0 rfl) ?_
  refine lv_goto (tgt := 40) hx hb dL_most_35 (by decide) ?_
  refine lv_icmp_eq (tgt := 45) hx hb dL_most_40 (by decide) (fun c9 => ?_) (fun c9 => absurd rfl c9)
  refine lv_iinc (v := nI 11) (lv' := [(1, .int (nI 11)), (0, .ref (a 0))]) hx hb dL_most_45 hl (k := 0) rfl (by decide) (by decide) rfl (fun ls hl => ?_)
  refine lv_goto (tgt := 10) hx hb dL_most_48 (by decide) ?_
  refine lv_iload_n hx hb dL_most_10 rfl (lv_at hl 0 rfl) ?_
  refine lv_bipush (v := nI 15) hx hb dL_most_11 (by decide) ?_
  refine lv_icmp_ge (tgt := 51) hx hb dL_most_13 (by decide) (fun c9 => absurd c9 (by decide)) (fun c9 => ?_)
  refine lv_aload_n hx hb dL_most_16 rfl (lv_at hl 1 rfl) ?_
  refine lv_iconst (v := nI 0) hx hb dL_most_17 (by decide) ?_
  refine lv_iload_n hx hb dL_most_18 rfl (lv_at hl 0 rfl) ?_
  refine lv_iconst (v := nI 1) hx hb dL_most_19 (by decide) ?_
  refine lv_isub hx hb dL_most_20 ?_
  refine b_tp (show (nI 11) - (nI 1) = nI 10 from by decide) ?_
  refine lv_iconst (v := nI 0) hx hb dL_most_21 (by decide) ?_
  refine lv_iconst (v := nI 0) hx hb dL_most_22 (by decide) ?_
  refine lv_iconst (v := nI 0) hx hb dL_most_23 (by decide) ?_
  refine lv_iconst (v := nI 0) hx hb dL_most_24 (by decide) ?_
  refine hs_calli w (vx_runSW (As := [.ref (a 0), .int (nI 0), .int (nI 10), .int (nI 0), .int (nI 0), .int (nI 0), .int (nI 0)]) (rest := []) X (aS_area l hl0 G _ a _ _ hI (nI 10) (nI 0) (nI 0) (nI 0) (nI 0) _ _ emq_12) (vx_cwSW 7 hts gL_most_L_act rfl rfl rfl (by decide +kernel) ⟨Nat.le_of_ble_eq_true rfl, Nat.le_of_ble_eq_true rfl⟩) ⟨b_blind, fun U9 hU9 hW9 => ⟨rfl, hs_pre E Z9 w hm9 U9 hU9 hW9⟩⟩ rfl rfl hl.1 rfl (lv_room (Nat.le_of_ble_eq_true rfl)) dL_most_25 ⟨Nat.le_of_ble_eq_true rfl, Nat.le_of_ble_eq_true rfl⟩) hm9 (fun r i H locs hr w => ?_)
  obtain ⟨hI, hr9⟩ := hr
  refine b_tp hr9 ?_
  refine lv_iload_n hx hb dL_most_28 rfl (lv_at hl 0 rfl) ?_
  refine lv_bipush (v := nI 14) hx hb dL_most_29 (by decide) ?_
  refine lv_icmp_ge (tgt := 38) hx hb dL_most_31 (by decide) (fun c9 => absurd c9 (by decide)) (fun c9 => ?_)
  refine lv_iload_n hx hb dL_most_34 rfl (lv_at hl 0 rfl) ?_
  refine lv_goto (tgt := 40) hx hb dL_most_35 (by decide) ?_
  refine lv_icmp_eq (tgt := 45) hx hb dL_most_40 (by decide) (fun c9 => ?_) (fun c9 => absurd rfl c9)
  refine lv_iinc (v := nI 12) (lv' := [(1, .int (nI 12)), (0, .ref (a 0))]) hx hb dL_most_45 hl (k := 0) rfl (by decide) (by decide) rfl (fun ls hl => ?_)
  refine lv_goto (tgt := 10) hx hb dL_most_48 (by decide) ?_
  refine lv_iload_n hx hb dL_most_10 rfl (lv_at hl 0 rfl) ?_
  refine lv_bipush (v := nI 15) hx hb dL_most_11 (by decide) ?_
  refine lv_icmp_ge (tgt := 51) hx hb dL_most_13 (by decide) (fun c9 => absurd c9 (by decide)) (fun c9 => ?_)
  refine lv_aload_n hx hb dL_most_16 rfl (lv_at hl 1 rfl) ?_
  refine lv_iconst (v := nI 0) hx hb dL_most_17 (by decide) ?_
  refine lv_iload_n hx hb dL_most_18 rfl (lv_at hl 0 rfl) ?_
  refine lv_iconst (v := nI 1) hx hb dL_most_19 (by decide) ?_
  refine lv_isub hx hb dL_most_20 ?_
  refine b_tp (show (nI 12) - (nI 1) = nI 11 from by decide) ?_
  refine lv_iconst (v := nI 0) hx hb dL_most_21 (by decide) ?_
  refine lv_iconst (v := nI 0) hx hb dL_most_22 (by decide) ?_
  refine lv_iconst (v := nI 0) hx hb dL_most_23 (by decide) ?_
  refine lv_iconst (v := nI 0) hx hb dL_most_24 (by decide) ?_
  refine hs_calli w (vx_runSW (As := [.ref (a 0), .int (nI 0), .int (nI 11), .int (nI 0), .int (nI 0), .int (nI 0), .int (nI 0)]) (rest := []) X (aS_area l hl0 G _ a _ _ hI (nI 11) (nI 0) (nI 0) (nI 0) (nI 0) _ _ emq_13) (vx_cwSW 7 hts gL_most_L_act rfl rfl rfl (by decide +kernel) ⟨Nat.le_of_ble_eq_true rfl, Nat.le_of_ble_eq_true rfl⟩) ⟨b_blind, fun U9 hU9 hW9 => ⟨rfl, hs_pre E Z9 w hm9 U9 hU9 hW9⟩⟩ rfl rfl hl.1 rfl (lv_room (Nat.le_of_ble_eq_true rfl)) dL_most_25 ⟨Nat.le_of_ble_eq_true rfl, Nat.le_of_ble_eq_true rfl⟩) hm9 (fun r i H locs hr w => ?_)
  obtain ⟨hI, hr9⟩ := hr
  refine b_tp hr9 ?_
  refine lv_iload_n hx hb dL_most_28 rfl (lv_at hl 0 rfl) ?_
  refine lv_bipush (v := nI 14) hx hb dL_most_29 (by decide) ?_
  refine lv_icmp_ge (tgt := 38) hx hb dL_most_31 (by decide) (fun c9 => absurd c9 (by decide)) (fun c9 => ?_)
  refine lv_iload_n hx hb dL_most_34 rfl (lv_at hl 0 rfl) ?_
  refine lv_goto (tgt := 40) hx hb dL_most_35 (by decide) ?_
  refine lv_icmp_eq (tgt := 45) hx hb dL_most_40 (by decide) (fun c9 => ?_) (fun c9 => absurd rfl c9)
  refine lv_iinc (v := nI 13) (lv' := [(1, .int (nI 13)), (0, .ref (a 0))]) hx hb dL_most_45 hl (k := 0) rfl (by decide) (by decide) rfl (fun ls hl => ?_)
  refine lv_goto (tgt := 10) hx hb dL_most_48 (by decide) ?_
  refine lv_iload_n hx hb dL_most_10 rfl (lv_at hl 0 rfl) ?_
  refine lv_bipush (v := nI 15) hx hb dL_most_11 (by decide) ?_
  refine lv_icmp_ge (tgt := 51) hx hb dL_most_13 (by decide) (fun c9 => absurd c9 (by decide)) (fun c9 => ?_)
  refine lv_aload_n hx hb dL_most_16 rfl (lv_at hl 1 rfl) ?_
  refine lv_iconst (v := nI 0) hx hb dL_most_17 (by decide) ?_
  refine lv_iload_n hx hb dL_most_18 rfl (lv_at hl 0 rfl) ?_
  refine lv_iconst (v := nI 1) hx hb dL_most_19 (by decide) ?_
  refine lv_isub hx hb dL_most_20 ?_
  refine b_tp (show (nI 13) - (nI 1) = nI 12 from by decide) ?_
  refine lv_iconst (v := nI 0) hx hb dL_most_21 (by decide) ?_
  refine lv_iconst (v := nI 0) hx hb dL_most_22 (by decide) ?_
  refine lv_iconst (v := nI 0) hx hb dL_most_23 (by decide) ?_
  refine lv_iconst (v := nI 0) hx hb dL_most_24 (by decide) ?_
  refine hs_calli w (vx_runSW (As := [.ref (a 0), .int (nI 0), .int (nI 12), .int (nI 0), .int (nI 0), .int (nI 0), .int (nI 0)]) (rest := []) X (aS_area l hl0 G _ a _ _ hI (nI 12) (nI 0) (nI 0) (nI 0) (nI 0) _ _ emq_14) (vx_cwSW 7 hts gL_most_L_act rfl rfl rfl (by decide +kernel) ⟨Nat.le_of_ble_eq_true rfl, Nat.le_of_ble_eq_true rfl⟩) ⟨b_blind, fun U9 hU9 hW9 => ⟨rfl, hs_pre E Z9 w hm9 U9 hU9 hW9⟩⟩ rfl rfl hl.1 rfl (lv_room (Nat.le_of_ble_eq_true rfl)) dL_most_25 ⟨Nat.le_of_ble_eq_true rfl, Nat.le_of_ble_eq_true rfl⟩) hm9 (fun r i H locs hr w => ?_)
  obtain ⟨hI, hr9⟩ := hr
  refine b_tp hr9 ?_
  refine lv_iload_n hx hb dL_most_28 rfl (lv_at hl 0 rfl) ?_
  refine lv_bipush (v := nI 14) hx hb dL_most_29 (by decide) ?_
  refine lv_icmp_ge (tgt := 38) hx hb dL_most_31 (by decide) (fun c9 => absurd c9 (by decide)) (fun c9 => ?_)
  refine lv_iload_n hx hb dL_most_34 rfl (lv_at hl 0 rfl) ?_
  refine lv_goto (tgt := 40) hx hb dL_most_35 (by decide) ?_
  refine lv_icmp_eq (tgt := 45) hx hb dL_most_40 (by decide) (fun c9 => ?_) (fun c9 => absurd rfl c9)
  refine lv_iinc (v := nI 14) (lv' := [(1, .int (nI 14)), (0, .ref (a 0))]) hx hb dL_most_45 hl (k := 0) rfl (by decide) (by decide) rfl (fun ls hl => ?_)
  refine lv_goto (tgt := 10) hx hb dL_most_48 (by decide) ?_
  refine lv_iload_n hx hb dL_most_10 rfl (lv_at hl 0 rfl) ?_
  refine lv_bipush (v := nI 15) hx hb dL_most_11 (by decide) ?_
  refine lv_icmp_ge (tgt := 51) hx hb dL_most_13 (by decide) (fun c9 => absurd c9 (by decide)) (fun c9 => ?_)
  refine lv_aload_n hx hb dL_most_16 rfl (lv_at hl 1 rfl) ?_
  refine lv_iconst (v := nI 0) hx hb dL_most_17 (by decide) ?_
  refine lv_iload_n hx hb dL_most_18 rfl (lv_at hl 0 rfl) ?_
  refine lv_iconst (v := nI 1) hx hb dL_most_19 (by decide) ?_
  refine lv_isub hx hb dL_most_20 ?_
  refine b_tp (show (nI 14) - (nI 1) = nI 13 from by decide) ?_
  refine lv_iconst (v := nI 0) hx hb dL_most_21 (by decide) ?_
  refine lv_iconst (v := nI 0) hx hb dL_most_22 (by decide) ?_
  refine lv_iconst (v := nI 0) hx hb dL_most_23 (by decide) ?_
  refine lv_iconst (v := nI 0) hx hb dL_most_24 (by decide) ?_
  refine hs_calli w (vx_runSW (As := [.ref (a 0), .int (nI 0), .int (nI 13), .int (nI 0), .int (nI 0), .int (nI 0), .int (nI 0)]) (rest := []) X (aF_area l hl0 G _ a _ _ hI (nI 13) (nI 0) (nI 0) (nI 0) (nI 0) 3 emq_15 (by decide)) (vx_cwSW 7 hts gL_most_L_act rfl rfl rfl (by decide +kernel) ⟨Nat.le_of_ble_eq_true rfl, Nat.le_of_ble_eq_true rfl⟩) ⟨b_blind, fun U9 hU9 hW9 => ⟨rfl, hs_pre E Z9 w hm9 U9 hU9 hW9⟩⟩ rfl rfl hl.1 rfl (lv_room (Nat.le_of_ble_eq_true rfl)) dL_most_25 ⟨Nat.le_of_ble_eq_true rfl, Nat.le_of_ble_eq_true rfl⟩) hm9 (fun r i H locs hr w => ?_)
  obtain ⟨hI, hr9⟩ := hr
  refine b_tp (hr9.trans (show hs_r 3 = -73 from by decide)) ?_
  refine lv_iload_n hx hb dL_most_28 rfl (lv_at hl 0 rfl) ?_
  refine lv_bipush (v := nI 14) hx hb dL_most_29 (by decide) ?_
  refine lv_icmp_ge (tgt := 38) hx hb dL_most_31 (by decide) (fun c9 => ?_) (fun c9 => absurd (by decide) c9)
  refine lv_bipush (v := -73) hx hb dL_most_38 (by decide) ?_
  refine lv_icmp_eq (tgt := 45) hx hb dL_most_40 (by decide) (fun c9 => ?_) (fun c9 => absurd rfl c9)
  refine lv_iinc (v := nI 15) (lv' := [(1, .int (nI 15)), (0, .ref (a 0))]) hx hb dL_most_45 hl (k := 0) rfl (by decide) (by decide) rfl (fun ls hl => ?_)
  refine lv_goto (tgt := 10) hx hb dL_most_48 (by decide) ?_
  refine lv_iload_n hx hb dL_most_10 rfl (lv_at hl 0 rfl) ?_
  refine lv_bipush (v := nI 15) hx hb dL_most_11 (by decide) ?_
  refine lv_icmp_ge (tgt := 51) hx hb dL_most_13 (by decide) (fun c9 => ?_) (fun c9 => absurd (by decide) c9)
  refine lv_iconst (v := nI 0) hx hb dL_most_51 (by decide) ?_
  refine lv_istore_n (lv' := [(1, .int (nI 0)), (0, .ref (a 0))]) hx hb dL_most_52 rfl hl (by decide) rfl (fun ls hl => ?_)
  refine lv_iload_n hx hb dL_most_53 rfl (lv_at hl 0 rfl) ?_
  refine lv_bipush (v := nI 11) hx hb dL_most_54 (by decide) ?_
  refine lv_icmp_ge (tgt := 94) hx hb dL_most_56 (by decide) (fun c9 => absurd c9 (by decide)) (fun c9 => ?_)
  refine lv_aload_n hx hb dL_most_59 rfl (lv_at hl 1 rfl) ?_
  refine lv_iconst (v := nI 1) hx hb dL_most_60 (by decide) ?_
  refine lv_iload_n hx hb dL_most_61 rfl (lv_at hl 0 rfl) ?_
  refine lv_iconst (v := nI 1) hx hb dL_most_62 (by decide) ?_
  refine lv_isub hx hb dL_most_63 ?_
  refine b_tp (show (nI 0) - (nI 1) = -1 from by decide) ?_
  refine lv_iconst (v := nI 0) hx hb dL_most_64 (by decide) ?_
  refine lv_iconst (v := nI 0) hx hb dL_most_65 (by decide) ?_
  refine lv_iconst (v := nI 0) hx hb dL_most_66 (by decide) ?_
  refine lv_iconst (v := nI 0) hx hb dL_most_67 (by decide) ?_
  refine hs_calli w (vx_runSW (As := [.ref (a 0), .int (nI 1), .int (-1), .int (nI 0), .int (nI 0), .int (nI 0), .int (nI 0)]) (rest := []) X (aS_item l hl0 G _ a _ _ hI (-1) (nI 0) (nI 0) (nI 0) (nI 0) _ _ emq_16) (vx_cwSW 7 hts gL_most_L_act rfl rfl rfl (by decide +kernel) ⟨Nat.le_of_ble_eq_true rfl, Nat.le_of_ble_eq_true rfl⟩) ⟨b_blind, fun U9 hU9 hW9 => ⟨rfl, hs_pre E Z9 w hm9 U9 hU9 hW9⟩⟩ rfl rfl hl.1 rfl (lv_room (Nat.le_of_ble_eq_true rfl)) dL_most_68 ⟨Nat.le_of_ble_eq_true rfl, Nat.le_of_ble_eq_true rfl⟩) hm9 (fun r i H locs hr w => ?_)
  obtain ⟨hI, hr9⟩ := hr
  refine b_tp hr9 ?_
  refine lv_iload_n hx hb dL_most_71 rfl (lv_at hl 0 rfl) ?_
  refine lv_bipush (v := nI 10) hx hb dL_most_72 (by decide) ?_
  refine lv_icmp_ge (tgt := 81) hx hb dL_most_74 (by decide) (fun c9 => absurd c9 (by decide)) (fun c9 => ?_)
  refine lv_iload_n hx hb dL_most_77 rfl (lv_at hl 0 rfl) ?_
  refine lv_goto (tgt := 83) hx hb dL_most_78 (by decide) ?_
  refine lv_icmp_eq (tgt := 88) hx hb dL_most_83 (by decide) (fun c9 => ?_) (fun c9 => absurd rfl c9)
  refine lv_iinc (v := nI 1) (lv' := [(1, .int (nI 1)), (0, .ref (a 0))]) hx hb dL_most_88 hl (k := 0) rfl (by decide) (by decide) rfl (fun ls hl => ?_)
  refine lv_goto (tgt := 53) hx hb dL_most_91 (by decide) ?_
  refine lv_iload_n hx hb dL_most_53 rfl (lv_at hl 0 rfl) ?_
  refine lv_bipush (v := nI 11) hx hb dL_most_54 (by decide) ?_
  refine lv_icmp_ge (tgt := 94) hx hb dL_most_56 (by decide) (fun c9 => absurd c9 (by decide)) (fun c9 => ?_)
  refine lv_aload_n hx hb dL_most_59 rfl (lv_at hl 1 rfl) ?_
  refine lv_iconst (v := nI 1) hx hb dL_most_60 (by decide) ?_
  refine lv_iload_n hx hb dL_most_61 rfl (lv_at hl 0 rfl) ?_
  refine lv_iconst (v := nI 1) hx hb dL_most_62 (by decide) ?_
  refine lv_isub hx hb dL_most_63 ?_
  refine b_tp (show (nI 1) - (nI 1) = nI 0 from by decide) ?_
  refine lv_iconst (v := nI 0) hx hb dL_most_64 (by decide) ?_
  refine lv_iconst (v := nI 0) hx hb dL_most_65 (by decide) ?_
  refine lv_iconst (v := nI 0) hx hb dL_most_66 (by decide) ?_
  refine lv_iconst (v := nI 0) hx hb dL_most_67 (by decide) ?_
  refine hs_calli w (vx_runSW (As := [.ref (a 0), .int (nI 1), .int (nI 0), .int (nI 0), .int (nI 0), .int (nI 0), .int (nI 0)]) (rest := []) X (aS_item l hl0 G _ a _ _ hI (nI 0) (nI 0) (nI 0) (nI 0) (nI 0) _ _ emq_17) (vx_cwSW 7 hts gL_most_L_act rfl rfl rfl (by decide +kernel) ⟨Nat.le_of_ble_eq_true rfl, Nat.le_of_ble_eq_true rfl⟩) ⟨b_blind, fun U9 hU9 hW9 => ⟨rfl, hs_pre E Z9 w hm9 U9 hU9 hW9⟩⟩ rfl rfl hl.1 rfl (lv_room (Nat.le_of_ble_eq_true rfl)) dL_most_68 ⟨Nat.le_of_ble_eq_true rfl, Nat.le_of_ble_eq_true rfl⟩) hm9 (fun r i H locs hr w => ?_)
  obtain ⟨hI, hr9⟩ := hr
  refine b_tp hr9 ?_
  refine lv_iload_n hx hb dL_most_71 rfl (lv_at hl 0 rfl) ?_
  refine lv_bipush (v := nI 10) hx hb dL_most_72 (by decide) ?_
  refine lv_icmp_ge (tgt := 81) hx hb dL_most_74 (by decide) (fun c9 => absurd c9 (by decide)) (fun c9 => ?_)
  refine lv_iload_n hx hb dL_most_77 rfl (lv_at hl 0 rfl) ?_
  refine lv_goto (tgt := 83) hx hb dL_most_78 (by decide) ?_
  refine lv_icmp_eq (tgt := 88) hx hb dL_most_83 (by decide) (fun c9 => ?_) (fun c9 => absurd rfl c9)
  refine lv_iinc (v := nI 2) (lv' := [(1, .int (nI 2)), (0, .ref (a 0))]) hx hb dL_most_88 hl (k := 0) rfl (by decide) (by decide) rfl (fun ls hl => ?_)
  refine lv_goto (tgt := 53) hx hb dL_most_91 (by decide) ?_
  refine lv_iload_n hx hb dL_most_53 rfl (lv_at hl 0 rfl) ?_
  refine lv_bipush (v := nI 11) hx hb dL_most_54 (by decide) ?_
  refine lv_icmp_ge (tgt := 94) hx hb dL_most_56 (by decide) (fun c9 => absurd c9 (by decide)) (fun c9 => ?_)
  refine lv_aload_n hx hb dL_most_59 rfl (lv_at hl 1 rfl) ?_
  refine lv_iconst (v := nI 1) hx hb dL_most_60 (by decide) ?_
  refine lv_iload_n hx hb dL_most_61 rfl (lv_at hl 0 rfl) ?_
  refine lv_iconst (v := nI 1) hx hb dL_most_62 (by decide) ?_
  refine lv_isub hx hb dL_most_63 ?_
  refine b_tp (show (nI 2) - (nI 1) = nI 1 from by decide) ?_
  refine lv_iconst (v := nI 0) hx hb dL_most_64 (by decide) ?_
  refine lv_iconst (v := nI 0) hx hb dL_most_65 (by decide) ?_
  refine lv_iconst (v := nI 0) hx hb dL_most_66 (by decide) ?_
  refine lv_iconst (v := nI 0) hx hb dL_most_67 (by decide) ?_
  refine hs_calli w (vx_runSW (As := [.ref (a 0), .int (nI 1), .int (nI 1), .int (nI 0), .int (nI 0), .int (nI 0), .int (nI 0)]) (rest := []) X (aS_item l hl0 G _ a _ _ hI (nI 1) (nI 0) (nI 0) (nI 0) (nI 0) _ _ emq_18) (vx_cwSW 7 hts gL_most_L_act rfl rfl rfl (by decide +kernel) ⟨Nat.le_of_ble_eq_true rfl, Nat.le_of_ble_eq_true rfl⟩) ⟨b_blind, fun U9 hU9 hW9 => ⟨rfl, hs_pre E Z9 w hm9 U9 hU9 hW9⟩⟩ rfl rfl hl.1 rfl (lv_room (Nat.le_of_ble_eq_true rfl)) dL_most_68 ⟨Nat.le_of_ble_eq_true rfl, Nat.le_of_ble_eq_true rfl⟩) hm9 (fun r i H locs hr w => ?_)
  obtain ⟨hI, hr9⟩ := hr
  refine b_tp hr9 ?_
  refine lv_iload_n hx hb dL_most_71 rfl (lv_at hl 0 rfl) ?_
  refine lv_bipush (v := nI 10) hx hb dL_most_72 (by decide) ?_
  refine lv_icmp_ge (tgt := 81) hx hb dL_most_74 (by decide) (fun c9 => absurd c9 (by decide)) (fun c9 => ?_)
  refine lv_iload_n hx hb dL_most_77 rfl (lv_at hl 0 rfl) ?_
  refine lv_goto (tgt := 83) hx hb dL_most_78 (by decide) ?_
  refine lv_icmp_eq (tgt := 88) hx hb dL_most_83 (by decide) (fun c9 => ?_) (fun c9 => absurd rfl c9)
  refine lv_iinc (v := nI 3) (lv' := [(1, .int (nI 3)), (0, .ref (a 0))]) hx hb dL_most_88 hl (k := 0) rfl (by decide) (by decide) rfl (fun ls hl => ?_)
  refine lv_goto (tgt := 53) hx hb dL_most_91 (by decide) ?_
  refine lv_iload_n hx hb dL_most_53 rfl (lv_at hl 0 rfl) ?_
  refine lv_bipush (v := nI 11) hx hb dL_most_54 (by decide) ?_
  refine lv_icmp_ge (tgt := 94) hx hb dL_most_56 (by decide) (fun c9 => absurd c9 (by decide)) (fun c9 => ?_)
  refine lv_aload_n hx hb dL_most_59 rfl (lv_at hl 1 rfl) ?_
  refine lv_iconst (v := nI 1) hx hb dL_most_60 (by decide) ?_
  refine lv_iload_n hx hb dL_most_61 rfl (lv_at hl 0 rfl) ?_
  refine lv_iconst (v := nI 1) hx hb dL_most_62 (by decide) ?_
  refine lv_isub hx hb dL_most_63 ?_
  refine b_tp (show (nI 3) - (nI 1) = nI 2 from by decide) ?_
  refine lv_iconst (v := nI 0) hx hb dL_most_64 (by decide) ?_
  refine lv_iconst (v := nI 0) hx hb dL_most_65 (by decide) ?_
  refine lv_iconst (v := nI 0) hx hb dL_most_66 (by decide) ?_
  refine lv_iconst (v := nI 0) hx hb dL_most_67 (by decide) ?_
  refine hs_calli w (vx_runSW (As := [.ref (a 0), .int (nI 1), .int (nI 2), .int (nI 0), .int (nI 0), .int (nI 0), .int (nI 0)]) (rest := []) X (aS_item l hl0 G _ a _ _ hI (nI 2) (nI 0) (nI 0) (nI 0) (nI 0) _ _ emq_19) (vx_cwSW 7 hts gL_most_L_act rfl rfl rfl (by decide +kernel) ⟨Nat.le_of_ble_eq_true rfl, Nat.le_of_ble_eq_true rfl⟩) ⟨b_blind, fun U9 hU9 hW9 => ⟨rfl, hs_pre E Z9 w hm9 U9 hU9 hW9⟩⟩ rfl rfl hl.1 rfl (lv_room (Nat.le_of_ble_eq_true rfl)) dL_most_68 ⟨Nat.le_of_ble_eq_true rfl, Nat.le_of_ble_eq_true rfl⟩) hm9 (fun r i H locs hr w => ?_)
  obtain ⟨hI, hr9⟩ := hr
  refine b_tp hr9 ?_
  refine lv_iload_n hx hb dL_most_71 rfl (lv_at hl 0 rfl) ?_
  refine lv_bipush (v := nI 10) hx hb dL_most_72 (by decide) ?_
  refine lv_icmp_ge (tgt := 81) hx hb dL_most_74 (by decide) (fun c9 => absurd c9 (by decide)) (fun c9 => ?_)
  refine lv_iload_n hx hb dL_most_77 rfl (lv_at hl 0 rfl) ?_
  refine lv_goto (tgt := 83) hx hb dL_most_78 (by decide) ?_
  refine lv_icmp_eq (tgt := 88) hx hb dL_most_83 (by decide) (fun c9 => ?_) (fun c9 => absurd rfl c9)
  refine lv_iinc (v := nI 4) (lv' := [(1, .int (nI 4)), (0, .ref (a 0))]) hx hb dL_most_88 hl (k := 0) rfl (by decide) (by decide) rfl (fun ls hl => ?_)
  refine lv_goto (tgt := 53) hx hb dL_most_91 (by decide) ?_
  refine lv_iload_n hx hb dL_most_53 rfl (lv_at hl 0 rfl) ?_
  refine lv_bipush (v := nI 11) hx hb dL_most_54 (by decide) ?_
  refine lv_icmp_ge (tgt := 94) hx hb dL_most_56 (by decide) (fun c9 => absurd c9 (by decide)) (fun c9 => ?_)
  refine lv_aload_n hx hb dL_most_59 rfl (lv_at hl 1 rfl) ?_
  refine lv_iconst (v := nI 1) hx hb dL_most_60 (by decide) ?_
  refine lv_iload_n hx hb dL_most_61 rfl (lv_at hl 0 rfl) ?_
  refine lv_iconst (v := nI 1) hx hb dL_most_62 (by decide) ?_
  refine lv_isub hx hb dL_most_63 ?_
  refine b_tp (show (nI 4) - (nI 1) = nI 3 from by decide) ?_
  refine lv_iconst (v := nI 0) hx hb dL_most_64 (by decide) ?_
  refine lv_iconst (v := nI 0) hx hb dL_most_65 (by decide) ?_
  refine lv_iconst (v := nI 0) hx hb dL_most_66 (by decide) ?_
  refine lv_iconst (v := nI 0) hx hb dL_most_67 (by decide) ?_
  refine hs_calli w (vx_runSW (As := [.ref (a 0), .int (nI 1), .int (nI 3), .int (nI 0), .int (nI 0), .int (nI 0), .int (nI 0)]) (rest := []) X (aS_item l hl0 G _ a _ _ hI (nI 3) (nI 0) (nI 0) (nI 0) (nI 0) _ _ emq_20) (vx_cwSW 7 hts gL_most_L_act rfl rfl rfl (by decide +kernel) ⟨Nat.le_of_ble_eq_true rfl, Nat.le_of_ble_eq_true rfl⟩) ⟨b_blind, fun U9 hU9 hW9 => ⟨rfl, hs_pre E Z9 w hm9 U9 hU9 hW9⟩⟩ rfl rfl hl.1 rfl (lv_room (Nat.le_of_ble_eq_true rfl)) dL_most_68 ⟨Nat.le_of_ble_eq_true rfl, Nat.le_of_ble_eq_true rfl⟩) hm9 (fun r i H locs hr w => ?_)
  obtain ⟨hI, hr9⟩ := hr
  refine b_tp hr9 ?_
  refine lv_iload_n hx hb dL_most_71 rfl (lv_at hl 0 rfl) ?_
  refine lv_bipush (v := nI 10) hx hb dL_most_72 (by decide) ?_
  refine lv_icmp_ge (tgt := 81) hx hb dL_most_74 (by decide) (fun c9 => absurd c9 (by decide)) (fun c9 => ?_)
  refine lv_iload_n hx hb dL_most_77 rfl (lv_at hl 0 rfl) ?_
  refine lv_goto (tgt := 83) hx hb dL_most_78 (by decide) ?_
  refine lv_icmp_eq (tgt := 88) hx hb dL_most_83 (by decide) (fun c9 => ?_) (fun c9 => absurd rfl c9)
  exact kk i _ _ _ hI w (lv_sub hl [1, 0] rfl)
set_option maxHeartbeats 4000000 in
set_option maxRecDepth 100000 in
theorem sg_most_1 {p : Program} {l : Launch} (hl0 : l.stackTraces = false) {e : Env} {s : State} {m : MethodId} {below : List Frame} {meth : Method} {c : Code} {G : bG} {args : Array Value} {Q : State → Prop} (X : CallFix p m c cL_most 3 s args wsL_most RL) (E : bE G vwCl bNW bSW s) {a : Nat → Nat} (Z9 : bZ [] s) (hm9 : ∀ q ∈ hs_M a, Aw [] s.heap.size q) {i : hs_I} {H : Heap} {locs : List Loc} {ls : Array Slot} (hI : hs_Inv em_19 i) (w : bSt G vwCl [] s (hs_W G a em_19 i) H locs) (hl : lv_has ls 3 [(0, .ref (a 0)), (1, .int (nI 4))])
    (kk : ∀ (i : hs_I) (H : Heap) (locs : List Loc) (ls : Array Slot), hs_Inv em_25 i → bSt G vwCl [] s (hs_W G a em_25 i) H locs → lv_has ls 3 [(0, .ref (a 0)), (1, .int (nI 0))] → W p l e ({ frames := 10, cells := 1128, slots := 16467, locals := 237 }) s m args below meth c H locs 83 10121 Q (F0 m 129 ls [])) : W p l e ({ frames := 10, cells := 1128, slots := 16467, locals := 237 }) s m args below meth c H locs 65 10013 Q (F0 m 88 ls []) := by
  have hx := X.1
  have hb := X.2.1
  have hml := X.2.2.1
  have hown := X.2.2.2.1
  have hts := X.2.2.2.2
  refine lv_iinc (v := nI 5) (lv' := [(1, .int (nI 5)), (0, .ref (a 0))]) hx hb dL_most_88 hl (k := 1) rfl (by decide) (by decide) rfl (fun ls hl => ?_)
  refine lv_goto (tgt := 53) hx hb dL_most_91 (by decide) ?_
  refine lv_iload_n hx hb dL_most_53 rfl (lv_at hl 0 rfl) ?_
  refine lv_bipush (v := nI 11) hx hb dL_most_54 (by decide) ?_
  refine lv_icmp_ge (tgt := 94) hx hb dL_most_56 (by decide) (fun c9 => absurd c9 (by decide)) (fun c9 => ?_)
  refine lv_aload_n hx hb dL_most_59 rfl (lv_at hl 1 rfl) ?_
  refine lv_iconst (v := nI 1) hx hb dL_most_60 (by decide) ?_
  refine lv_iload_n hx hb dL_most_61 rfl (lv_at hl 0 rfl) ?_
  refine lv_iconst (v := nI 1) hx hb dL_most_62 (by decide) ?_
  refine lv_isub hx hb dL_most_63 ?_
  refine b_tp (show (nI 5) - (nI 1) = nI 4 from by decide) ?_
  refine lv_iconst (v := nI 0) hx hb dL_most_64 (by decide) ?_
  refine lv_iconst (v := nI 0) hx hb dL_most_65 (by decide) ?_
  refine lv_iconst (v := nI 0) hx hb dL_most_66 (by decide) ?_
  refine lv_iconst (v := nI 0) hx hb dL_most_67 (by decide) ?_
  refine hs_calli w (vx_runSW (As := [.ref (a 0), .int (nI 1), .int (nI 4), .int (nI 0), .int (nI 0), .int (nI 0), .int (nI 0)]) (rest := []) X (aS_item l hl0 G _ a _ _ hI (nI 4) (nI 0) (nI 0) (nI 0) (nI 0) _ _ emq_21) (vx_cwSW 7 hts gL_most_L_act rfl rfl rfl (by decide +kernel) ⟨Nat.le_of_ble_eq_true rfl, Nat.le_of_ble_eq_true rfl⟩) ⟨b_blind, fun U9 hU9 hW9 => ⟨rfl, hs_pre E Z9 w hm9 U9 hU9 hW9⟩⟩ rfl rfl hl.1 rfl (lv_room (Nat.le_of_ble_eq_true rfl)) dL_most_68 ⟨Nat.le_of_ble_eq_true rfl, Nat.le_of_ble_eq_true rfl⟩) hm9 (fun r i H locs hr w => ?_)
  obtain ⟨hI, hr9⟩ := hr
  refine b_tp hr9 ?_
  refine lv_iload_n hx hb dL_most_71 rfl (lv_at hl 0 rfl) ?_
  refine lv_bipush (v := nI 10) hx hb dL_most_72 (by decide) ?_
  refine lv_icmp_ge (tgt := 81) hx hb dL_most_74 (by decide) (fun c9 => absurd c9 (by decide)) (fun c9 => ?_)
  refine lv_iload_n hx hb dL_most_77 rfl (lv_at hl 0 rfl) ?_
  refine lv_goto (tgt := 83) hx hb dL_most_78 (by decide) ?_
  refine lv_icmp_eq (tgt := 88) hx hb dL_most_83 (by decide) (fun c9 => ?_) (fun c9 => absurd rfl c9)
  refine lv_iinc (v := nI 6) (lv' := [(1, .int (nI 6)), (0, .ref (a 0))]) hx hb dL_most_88 hl (k := 0) rfl (by decide) (by decide) rfl (fun ls hl => ?_)
  refine lv_goto (tgt := 53) hx hb dL_most_91 (by decide) ?_
  refine lv_iload_n hx hb dL_most_53 rfl (lv_at hl 0 rfl) ?_
  refine lv_bipush (v := nI 11) hx hb dL_most_54 (by decide) ?_
  refine lv_icmp_ge (tgt := 94) hx hb dL_most_56 (by decide) (fun c9 => absurd c9 (by decide)) (fun c9 => ?_)
  refine lv_aload_n hx hb dL_most_59 rfl (lv_at hl 1 rfl) ?_
  refine lv_iconst (v := nI 1) hx hb dL_most_60 (by decide) ?_
  refine lv_iload_n hx hb dL_most_61 rfl (lv_at hl 0 rfl) ?_
  refine lv_iconst (v := nI 1) hx hb dL_most_62 (by decide) ?_
  refine lv_isub hx hb dL_most_63 ?_
  refine b_tp (show (nI 6) - (nI 1) = nI 5 from by decide) ?_
  refine lv_iconst (v := nI 0) hx hb dL_most_64 (by decide) ?_
  refine lv_iconst (v := nI 0) hx hb dL_most_65 (by decide) ?_
  refine lv_iconst (v := nI 0) hx hb dL_most_66 (by decide) ?_
  refine lv_iconst (v := nI 0) hx hb dL_most_67 (by decide) ?_
  refine hs_calli w (vx_runSW (As := [.ref (a 0), .int (nI 1), .int (nI 5), .int (nI 0), .int (nI 0), .int (nI 0), .int (nI 0)]) (rest := []) X (aS_item l hl0 G _ a _ _ hI (nI 5) (nI 0) (nI 0) (nI 0) (nI 0) _ _ emq_22) (vx_cwSW 7 hts gL_most_L_act rfl rfl rfl (by decide +kernel) ⟨Nat.le_of_ble_eq_true rfl, Nat.le_of_ble_eq_true rfl⟩) ⟨b_blind, fun U9 hU9 hW9 => ⟨rfl, hs_pre E Z9 w hm9 U9 hU9 hW9⟩⟩ rfl rfl hl.1 rfl (lv_room (Nat.le_of_ble_eq_true rfl)) dL_most_68 ⟨Nat.le_of_ble_eq_true rfl, Nat.le_of_ble_eq_true rfl⟩) hm9 (fun r i H locs hr w => ?_)
  obtain ⟨hI, hr9⟩ := hr
  refine b_tp hr9 ?_
  refine lv_iload_n hx hb dL_most_71 rfl (lv_at hl 0 rfl) ?_
  refine lv_bipush (v := nI 10) hx hb dL_most_72 (by decide) ?_
  refine lv_icmp_ge (tgt := 81) hx hb dL_most_74 (by decide) (fun c9 => absurd c9 (by decide)) (fun c9 => ?_)
  refine lv_iload_n hx hb dL_most_77 rfl (lv_at hl 0 rfl) ?_
  refine lv_goto (tgt := 83) hx hb dL_most_78 (by decide) ?_
  refine lv_icmp_eq (tgt := 88) hx hb dL_most_83 (by decide) (fun c9 => ?_) (fun c9 => absurd rfl c9)
  refine lv_iinc (v := nI 7) (lv' := [(1, .int (nI 7)), (0, .ref (a 0))]) hx hb dL_most_88 hl (k := 0) rfl (by decide) (by decide) rfl (fun ls hl => ?_)
  refine lv_goto (tgt := 53) hx hb dL_most_91 (by decide) ?_
  refine lv_iload_n hx hb dL_most_53 rfl (lv_at hl 0 rfl) ?_
  refine lv_bipush (v := nI 11) hx hb dL_most_54 (by decide) ?_
  refine lv_icmp_ge (tgt := 94) hx hb dL_most_56 (by decide) (fun c9 => absurd c9 (by decide)) (fun c9 => ?_)
  refine lv_aload_n hx hb dL_most_59 rfl (lv_at hl 1 rfl) ?_
  refine lv_iconst (v := nI 1) hx hb dL_most_60 (by decide) ?_
  refine lv_iload_n hx hb dL_most_61 rfl (lv_at hl 0 rfl) ?_
  refine lv_iconst (v := nI 1) hx hb dL_most_62 (by decide) ?_
  refine lv_isub hx hb dL_most_63 ?_
  refine b_tp (show (nI 7) - (nI 1) = nI 6 from by decide) ?_
  refine lv_iconst (v := nI 0) hx hb dL_most_64 (by decide) ?_
  refine lv_iconst (v := nI 0) hx hb dL_most_65 (by decide) ?_
  refine lv_iconst (v := nI 0) hx hb dL_most_66 (by decide) ?_
  refine lv_iconst (v := nI 0) hx hb dL_most_67 (by decide) ?_
  refine hs_calli w (vx_runSW (As := [.ref (a 0), .int (nI 1), .int (nI 6), .int (nI 0), .int (nI 0), .int (nI 0), .int (nI 0)]) (rest := []) X (aS_item l hl0 G _ a _ _ hI (nI 6) (nI 0) (nI 0) (nI 0) (nI 0) _ _ emq_23) (vx_cwSW 7 hts gL_most_L_act rfl rfl rfl (by decide +kernel) ⟨Nat.le_of_ble_eq_true rfl, Nat.le_of_ble_eq_true rfl⟩) ⟨b_blind, fun U9 hU9 hW9 => ⟨rfl, hs_pre E Z9 w hm9 U9 hU9 hW9⟩⟩ rfl rfl hl.1 rfl (lv_room (Nat.le_of_ble_eq_true rfl)) dL_most_68 ⟨Nat.le_of_ble_eq_true rfl, Nat.le_of_ble_eq_true rfl⟩) hm9 (fun r i H locs hr w => ?_)
  obtain ⟨hI, hr9⟩ := hr
  refine b_tp hr9 ?_
  refine lv_iload_n hx hb dL_most_71 rfl (lv_at hl 0 rfl) ?_
  refine lv_bipush (v := nI 10) hx hb dL_most_72 (by decide) ?_
  refine lv_icmp_ge (tgt := 81) hx hb dL_most_74 (by decide) (fun c9 => absurd c9 (by decide)) (fun c9 => ?_)
  refine lv_iload_n hx hb dL_most_77 rfl (lv_at hl 0 rfl) ?_
  refine lv_goto (tgt := 83) hx hb dL_most_78 (by decide) ?_
  refine lv_icmp_eq (tgt := 88) hx hb dL_most_83 (by decide) (fun c9 => ?_) (fun c9 => absurd rfl c9)
  refine lv_iinc (v := nI 8) (lv' := [(1, .int (nI 8)), (0, .ref (a 0))]) hx hb dL_most_88 hl (k := 0) rfl (by decide) (by decide) rfl (fun ls hl => ?_)
  refine lv_goto (tgt := 53) hx hb dL_most_91 (by decide) ?_
  refine lv_iload_n hx hb dL_most_53 rfl (lv_at hl 0 rfl) ?_
  refine lv_bipush (v := nI 11) hx hb dL_most_54 (by decide) ?_
  refine lv_icmp_ge (tgt := 94) hx hb dL_most_56 (by decide) (fun c9 => absurd c9 (by decide)) (fun c9 => ?_)
  refine lv_aload_n hx hb dL_most_59 rfl (lv_at hl 1 rfl) ?_
  refine lv_iconst (v := nI 1) hx hb dL_most_60 (by decide) ?_
  refine lv_iload_n hx hb dL_most_61 rfl (lv_at hl 0 rfl) ?_
  refine lv_iconst (v := nI 1) hx hb dL_most_62 (by decide) ?_
  refine lv_isub hx hb dL_most_63 ?_
  refine b_tp (show (nI 8) - (nI 1) = nI 7 from by decide) ?_
  refine lv_iconst (v := nI 0) hx hb dL_most_64 (by decide) ?_
  refine lv_iconst (v := nI 0) hx hb dL_most_65 (by decide) ?_
  refine lv_iconst (v := nI 0) hx hb dL_most_66 (by decide) ?_
  refine lv_iconst (v := nI 0) hx hb dL_most_67 (by decide) ?_
  refine hs_calli w (vx_runSW (As := [.ref (a 0), .int (nI 1), .int (nI 7), .int (nI 0), .int (nI 0), .int (nI 0), .int (nI 0)]) (rest := []) X (aS_item l hl0 G _ a _ _ hI (nI 7) (nI 0) (nI 0) (nI 0) (nI 0) _ _ emq_24) (vx_cwSW 7 hts gL_most_L_act rfl rfl rfl (by decide +kernel) ⟨Nat.le_of_ble_eq_true rfl, Nat.le_of_ble_eq_true rfl⟩) ⟨b_blind, fun U9 hU9 hW9 => ⟨rfl, hs_pre E Z9 w hm9 U9 hU9 hW9⟩⟩ rfl rfl hl.1 rfl (lv_room (Nat.le_of_ble_eq_true rfl)) dL_most_68 ⟨Nat.le_of_ble_eq_true rfl, Nat.le_of_ble_eq_true rfl⟩) hm9 (fun r i H locs hr w => ?_)
  obtain ⟨hI, hr9⟩ := hr
  refine b_tp hr9 ?_
  refine lv_iload_n hx hb dL_most_71 rfl (lv_at hl 0 rfl) ?_
  refine lv_bipush (v := nI 10) hx hb dL_most_72 (by decide) ?_
  refine lv_icmp_ge (tgt := 81) hx hb dL_most_74 (by decide) (fun c9 => absurd c9 (by decide)) (fun c9 => ?_)
  refine lv_iload_n hx hb dL_most_77 rfl (lv_at hl 0 rfl) ?_
  refine lv_goto (tgt := 83) hx hb dL_most_78 (by decide) ?_
  refine lv_icmp_eq (tgt := 88) hx hb dL_most_83 (by decide) (fun c9 => ?_) (fun c9 => absurd rfl c9)
  refine lv_iinc (v := nI 9) (lv' := [(1, .int (nI 9)), (0, .ref (a 0))]) hx hb dL_most_88 hl (k := 0) rfl (by decide) (by decide) rfl (fun ls hl => ?_)
  refine lv_goto (tgt := 53) hx hb dL_most_91 (by decide) ?_
  refine lv_iload_n hx hb dL_most_53 rfl (lv_at hl 0 rfl) ?_
  refine lv_bipush (v := nI 11) hx hb dL_most_54 (by decide) ?_
  refine lv_icmp_ge (tgt := 94) hx hb dL_most_56 (by decide) (fun c9 => absurd c9 (by decide)) (fun c9 => ?_)
  refine lv_aload_n hx hb dL_most_59 rfl (lv_at hl 1 rfl) ?_
  refine lv_iconst (v := nI 1) hx hb dL_most_60 (by decide) ?_
  refine lv_iload_n hx hb dL_most_61 rfl (lv_at hl 0 rfl) ?_
  refine lv_iconst (v := nI 1) hx hb dL_most_62 (by decide) ?_
  refine lv_isub hx hb dL_most_63 ?_
  refine b_tp (show (nI 9) - (nI 1) = nI 8 from by decide) ?_
  refine lv_iconst (v := nI 0) hx hb dL_most_64 (by decide) ?_
  refine lv_iconst (v := nI 0) hx hb dL_most_65 (by decide) ?_
  refine lv_iconst (v := nI 0) hx hb dL_most_66 (by decide) ?_
  refine lv_iconst (v := nI 0) hx hb dL_most_67 (by decide) ?_
  refine hs_calli w (vx_runSW (As := [.ref (a 0), .int (nI 1), .int (nI 8), .int (nI 0), .int (nI 0), .int (nI 0), .int (nI 0)]) (rest := []) X (aS_item l hl0 G _ a _ _ hI (nI 8) (nI 0) (nI 0) (nI 0) (nI 0) _ _ emq_25) (vx_cwSW 7 hts gL_most_L_act rfl rfl rfl (by decide +kernel) ⟨Nat.le_of_ble_eq_true rfl, Nat.le_of_ble_eq_true rfl⟩) ⟨b_blind, fun U9 hU9 hW9 => ⟨rfl, hs_pre E Z9 w hm9 U9 hU9 hW9⟩⟩ rfl rfl hl.1 rfl (lv_room (Nat.le_of_ble_eq_true rfl)) dL_most_68 ⟨Nat.le_of_ble_eq_true rfl, Nat.le_of_ble_eq_true rfl⟩) hm9 (fun r i H locs hr w => ?_)
  obtain ⟨hI, hr9⟩ := hr
  refine b_tp hr9 ?_
  refine lv_iload_n hx hb dL_most_71 rfl (lv_at hl 0 rfl) ?_
  refine lv_bipush (v := nI 10) hx hb dL_most_72 (by decide) ?_
  refine lv_icmp_ge (tgt := 81) hx hb dL_most_74 (by decide) (fun c9 => absurd c9 (by decide)) (fun c9 => ?_)
  refine lv_iload_n hx hb dL_most_77 rfl (lv_at hl 0 rfl) ?_
  refine lv_goto (tgt := 83) hx hb dL_most_78 (by decide) ?_
  refine lv_icmp_eq (tgt := 88) hx hb dL_most_83 (by decide) (fun c9 => ?_) (fun c9 => absurd rfl c9)
  refine lv_iinc (v := nI 10) (lv' := [(1, .int (nI 10)), (0, .ref (a 0))]) hx hb dL_most_88 hl (k := 0) rfl (by decide) (by decide) rfl (fun ls hl => ?_)
  refine lv_goto (tgt := 53) hx hb dL_most_91 (by decide) ?_
  refine lv_iload_n hx hb dL_most_53 rfl (lv_at hl 0 rfl) ?_
  refine lv_bipush (v := nI 11) hx hb dL_most_54 (by decide) ?_
  refine lv_icmp_ge (tgt := 94) hx hb dL_most_56 (by decide) (fun c9 => absurd c9 (by decide)) (fun c9 => ?_)
  refine lv_aload_n hx hb dL_most_59 rfl (lv_at hl 1 rfl) ?_
  refine lv_iconst (v := nI 1) hx hb dL_most_60 (by decide) ?_
  refine lv_iload_n hx hb dL_most_61 rfl (lv_at hl 0 rfl) ?_
  refine lv_iconst (v := nI 1) hx hb dL_most_62 (by decide) ?_
  refine lv_isub hx hb dL_most_63 ?_
  refine b_tp (show (nI 10) - (nI 1) = nI 9 from by decide) ?_
  refine lv_iconst (v := nI 0) hx hb dL_most_64 (by decide) ?_
  refine lv_iconst (v := nI 0) hx hb dL_most_65 (by decide) ?_
  refine lv_iconst (v := nI 0) hx hb dL_most_66 (by decide) ?_
  refine lv_iconst (v := nI 0) hx hb dL_most_67 (by decide) ?_
  refine hs_calli w (vx_runSW (As := [.ref (a 0), .int (nI 1), .int (nI 9), .int (nI 0), .int (nI 0), .int (nI 0), .int (nI 0)]) (rest := []) X (aF_item l hl0 G _ a _ _ hI (nI 9) (nI 0) (nI 0) (nI 0) (nI 0) 3 emq_26 (by decide)) (vx_cwSW 7 hts gL_most_L_act rfl rfl rfl (by decide +kernel) ⟨Nat.le_of_ble_eq_true rfl, Nat.le_of_ble_eq_true rfl⟩) ⟨b_blind, fun U9 hU9 hW9 => ⟨rfl, hs_pre E Z9 w hm9 U9 hU9 hW9⟩⟩ rfl rfl hl.1 rfl (lv_room (Nat.le_of_ble_eq_true rfl)) dL_most_68 ⟨Nat.le_of_ble_eq_true rfl, Nat.le_of_ble_eq_true rfl⟩) hm9 (fun r i H locs hr w => ?_)
  obtain ⟨hI, hr9⟩ := hr
  refine b_tp (hr9.trans (show hs_r 3 = -73 from by decide)) ?_
  refine lv_iload_n hx hb dL_most_71 rfl (lv_at hl 0 rfl) ?_
  refine lv_bipush (v := nI 10) hx hb dL_most_72 (by decide) ?_
  refine lv_icmp_ge (tgt := 81) hx hb dL_most_74 (by decide) (fun c9 => ?_) (fun c9 => absurd (by decide) c9)
  refine lv_bipush (v := -73) hx hb dL_most_81 (by decide) ?_
  refine lv_icmp_eq (tgt := 88) hx hb dL_most_83 (by decide) (fun c9 => ?_) (fun c9 => absurd rfl c9)
  refine lv_iinc (v := nI 11) (lv' := [(1, .int (nI 11)), (0, .ref (a 0))]) hx hb dL_most_88 hl (k := 0) rfl (by decide) (by decide) rfl (fun ls hl => ?_)
  refine lv_goto (tgt := 53) hx hb dL_most_91 (by decide) ?_
  refine lv_iload_n hx hb dL_most_53 rfl (lv_at hl 0 rfl) ?_
  refine lv_bipush (v := nI 11) hx hb dL_most_54 (by decide) ?_
  refine lv_icmp_ge (tgt := 94) hx hb dL_most_56 (by decide) (fun c9 => ?_) (fun c9 => absurd (by decide) c9)
  refine lv_aload_n hx hb dL_most_94 rfl (lv_at hl 1 rfl) ?_
  refine lv_iconst (v := nI 2) hx hb dL_most_95 (by decide) ?_
  refine lv_bipush (v := nI 7) hx hb dL_most_96 (by decide) ?_
  refine lv_iconst (v := nI 1) hx hb dL_most_98 (by decide) ?_
  refine b_tp (show nI 1 = bI true from rfl) ?_
  refine hs_calli w (va_runV (As := [.int (nI 2), .int (nI 7), .int (bI true)]) (rest := []) X (n_agree l hl0 G _ a _ _ _ _ hI _ _ _ emq_27) (cwV 3 hts gL_most_X5_agree rfl rfl rfl (by decide +kernel) ⟨Nat.le_of_ble_eq_true rfl, Nat.le_of_ble_eq_true rfl⟩) ⟨b_blind, hs_recv E w, fun U9 hU9 hW9 => ⟨rfl, hs_pre E Z9 w hm9 U9 hU9 hW9⟩⟩ rfl rfl hl.1 rfl (lv_room (Nat.le_of_ble_eq_true rfl)) dL_most_99 ⟨Nat.le_of_ble_eq_true rfl, Nat.le_of_ble_eq_true rfl⟩) hm9 (fun r i H locs hr w => ?_)
  obtain ⟨hI, hr9⟩ := hr
  refine b_tp hr9 ?_
  refine lv_if_eq (tgt := 125) hx hb dL_most_102 (by decide) (fun c9 => absurd c9 (by decide)) (fun c9 => ?_)
  refine lv_aload_n hx hb dL_most_105 rfl (lv_at hl 1 rfl) ?_
  refine lv_iconst (v := nI 2) hx hb dL_most_106 (by decide) ?_
  refine lv_bipush (v := nI 6) hx hb dL_most_107 (by decide) ?_
  refine hs_calli w (va_runV (As := [.int (nI 2), .int (nI 6)]) (rest := []) X (n_mayTell l hl0 G _ a _ _ _ _ hI _ _ emq_28) (cwV 2 hts gL_most_X5_mayTell rfl rfl rfl (by decide +kernel) ⟨Nat.le_of_ble_eq_true rfl, Nat.le_of_ble_eq_true rfl⟩) ⟨b_blind, hs_recv E w, fun U9 hU9 hW9 => ⟨rfl, hs_pre E Z9 w hm9 U9 hU9 hW9⟩⟩ rfl rfl hl.1 rfl (lv_room (Nat.le_of_ble_eq_true rfl)) dL_most_109 ⟨Nat.le_of_ble_eq_true rfl, Nat.le_of_ble_eq_true rfl⟩) hm9 (fun r i H locs hr w => ?_)
  obtain ⟨hI, hr9⟩ := hr
  refine b_tp hr9 ?_
  refine lv_if_ne (tgt := 125) hx hb dL_most_112 (by decide) (fun c9 => absurd (by decide) c9) (fun c9 => ?_)
  refine lv_aload_n hx hb dL_most_115 rfl (lv_at hl 1 rfl) ?_
  refine lv_iconst (v := nI 2) hx hb dL_most_116 (by decide) ?_
  refine lv_bipush (v := nI 13) hx hb dL_most_117 (by decide) ?_
  refine hs_calli w (va_runV (As := [.int (nI 2), .int (nI 13)]) (rest := []) X (n_mayTell l hl0 G _ a _ _ _ _ hI _ _ emq_29) (cwV 2 hts gL_most_X5_mayTell rfl rfl rfl (by decide +kernel) ⟨Nat.le_of_ble_eq_true rfl, Nat.le_of_ble_eq_true rfl⟩) ⟨b_blind, hs_recv E w, fun U9 hU9 hW9 => ⟨rfl, hs_pre E Z9 w hm9 U9 hU9 hW9⟩⟩ rfl rfl hl.1 rfl (lv_room (Nat.le_of_ble_eq_true rfl)) dL_most_119 ⟨Nat.le_of_ble_eq_true rfl, Nat.le_of_ble_eq_true rfl⟩) hm9 (fun r i H locs hr w => ?_)
  obtain ⟨hI, hr9⟩ := hr
  refine b_tp hr9 ?_
  refine lv_if_ne (tgt := 127) hx hb dL_most_122 (by decide) (fun c9 => ?_) (fun c9 => absurd c9 (by decide))
  refine lv_iconst (v := nI 0) hx hb dL_most_127 (by decide) ?_
  refine lv_istore_n (lv' := [(1, .int (nI 0)), (0, .ref (a 0))]) hx hb dL_most_128 rfl hl (by decide) rfl (fun ls hl => ?_)
  exact kk i _ _ _ hI w (lv_sub hl [1, 0] rfl)
set_option maxHeartbeats 4000000 in
set_option maxRecDepth 100000 in
theorem sg_most_lt {p : Program} {l : Launch} (hl0 : l.stackTraces = false) {e : Env} {s : State} {m : MethodId} {below : List Frame} {meth : Method} {c : Code} {G : bG} {args : Array Value} {Q : State → Prop} (X : CallFix p m c cL_most 3 s args wsL_most RL) (E : bE G vwCl bNW bSW s) {a : Nat → Nat} (Z9 : bZ [] s) (hm9 : ∀ q ∈ hs_M a, Aw [] s.heap.size q) {k : Nat} (hk : k < 19) {j : Nat} (hj16 : j < 16) {i : hs_I} {H : Heap} {locs : List Loc} {ls : Array Slot} {cells slots : Nat} (hc : cells + 2 ≤ 1128) (hs : slots + 12 ≤ 16467) (hI : hs_Inv (eP (eK k) k j) i) (w : bSt G vwCl [] s (hs_W G a (eP (eK k) k j) i) H locs) (hl : lv_has ls 3 [(0, .ref (a 0)), (1, .int (nI k)), (2, .int (nI j))])
    (kk : ∀ (i : hs_I) (H : Heap) (locs : List Loc) (ls : Array Slot), hs_Inv (eP (eK k) k (j + 1)) i → bSt G vwCl [] s (hs_W G a (eP (eK k) k (j + 1)) i) H locs → lv_has ls 3 [(0, .ref (a 0)), (1, .int (nI k)), (2, .int (nI (j + 1)))] → W p l e ({ frames := 10, cells := 1128, slots := 16467, locals := 237 }) s m args below meth c H locs (cells + 2) (slots + 12) Q (F0 m 137 ls [])) : W p l e ({ frames := 10, cells := 1128, slots := 16467, locals := 237 }) s m args below meth c H locs cells slots Q (F0 m 158 ls []) := by
  have hx := X.1
  have hb := X.2.1
  have hml := X.2.2.1
  have hown := X.2.2.2.1
  have hts := X.2.2.2.2
  refine lv_aload_n hx hb dL_most_158 rfl (lv_at hl 0 rfl) ?_
  refine lv_iconst (v := nI 3) hx hb dL_most_159 (by decide) ?_
  refine lv_iconst (v := nI 0) hx hb dL_most_160 (by decide) ?_
  refine lv_bipush (v := nI 13) hx hb dL_most_161 (by decide) ?_
  refine lv_bipush (v := nI 9) hx hb dL_most_163 (by decide) ?_
  refine lv_iload_n hx hb dL_most_165 rfl (lv_at hl 2 rfl) ?_
  refine lv_bipush (v := nI 12) hx hb dL_most_166 (by decide) ?_
  refine lv_irem hx hb dL_most_168 (by decide) ?_
  refine b_tp (pk_rem (by omega) (by decide) (by decide)) ?_
  refine lv_ldc (v := 1000000) hx hb hown (hts (.constant RL 109 (1000000)) (by decide +kernel)) dL_most_169 ?_
  refine lv_iload_n hx hb dL_most_171 rfl (lv_at hl 1 rfl) ?_
  refine lv_isub hx hb dL_most_172 ?_
  refine hs_calli w (vx_runSW (As := [.ref (a 0), .int (nI 3), .int (nI 0), .int (nI 13), .int (nI 9), .int (nI (j % 12)), .int (1000000 - (nI k))]) (rest := []) X (aS_put l hl0 G _ a _ _ hI _ _ _ _ _ _ _ (e_put hk hj16)) (vx_cwSW 7 hts gL_most_L_act rfl rfl rfl (by decide +kernel) ⟨Nat.le_of_ble_eq_true rfl, Nat.le_of_ble_eq_true rfl⟩) ⟨b_blind, fun U9 hU9 hW9 => ⟨rfl, hs_pre E Z9 w hm9 U9 hU9 hW9⟩⟩ rfl rfl hl.1 rfl (lv_room (Nat.le_of_ble_eq_true rfl)) dL_most_173 ⟨by show _ ≤ 1128; omega, by show _ ≤ 16467; omega⟩) hm9 (fun r i H locs hr w => ?_)
  obtain ⟨hI, hr9⟩ := hr
  refine b_tp hr9 ?_
  refine lv_iload_n hx hb dL_most_176 rfl (lv_at hl 2 rfl) ?_
  refine lv_bipush (v := nI 16) hx hb dL_most_177 (by decide) ?_
  refine lv_icmp_ge (tgt := 188) hx hb dL_most_179 (by decide) (fun c_179_1 => ?_) (fun c_179_1 => ?_)
  · have q_179_2 : 16 ≤ j := q_le (by omega) (by omega) c_179_1
    exact absurd q_179_2 (Nat.not_le.mpr hj16)
  · have q_179_2 : j < 16 := q_nle (by omega) (by omega) c_179_1
    refine lv_iload_n hx hb dL_most_182 rfl (lv_at hl 2 rfl) ?_
    refine lv_iconst (v := nI 1) hx hb dL_most_183 (by decide) ?_
    refine lv_iadd hx hb dL_most_184 ?_
    refine b_tp (show (nI j) + (nI 1) = nI (j + 1) from nI_add j 1) ?_
    refine lv_goto (tgt := 190) hx hb dL_most_185 (by decide) ?_
    refine lv_icmp_eq (tgt := 195) hx hb dL_most_190 (by decide) (fun c9 => ?_) (fun c9 => absurd rfl c9)
    refine lv_iinc (v := nI (j + 1)) (lv' := [(2, .int (nI (j + 1))), (0, .ref (a 0)), (1, .int (nI k))]) hx hb dL_most_195 hl (k := 2) rfl (nI_add j 1) (by decide) rfl (fun ls hl => ?_)
    refine lv_goto (tgt := 137) hx hb dL_most_198 (by decide) ?_
    exact kk i _ _ _ hI w (lv_sub hl [1, 2, 0] rfl)
set_option maxHeartbeats 4000000 in
set_option maxRecDepth 100000 in
theorem sg_most_eq {p : Program} {l : Launch} (hl0 : l.stackTraces = false) {e : Env} {s : State} {m : MethodId} {below : List Frame} {meth : Method} {c : Code} {G : bG} {args : Array Value} {Q : State → Prop} (X : CallFix p m c cL_most 3 s args wsL_most RL) (E : bE G vwCl bNW bSW s) {a : Nat → Nat} (Z9 : bZ [] s) (hm9 : ∀ q ∈ hs_M a, Aw [] s.heap.size q) {k : Nat} (hk : k < 19)  {i : hs_I} {H : Heap} {locs : List Loc} {ls : Array Slot} {cells slots : Nat} (hc : cells + 2 ≤ 1128) (hs : slots + 12 ≤ 16467) (hI : hs_Inv (eP (eK k) k 16) i) (w : bSt G vwCl [] s (hs_W G a (eP (eK k) k 16) i) H locs) (hl : lv_has ls 3 [(0, .ref (a 0)), (1, .int (nI k)), (2, .int (nI 16))])
    (kk : ∀ (i : hs_I) (H : Heap) (locs : List Loc) (ls : Array Slot), hs_Inv (eP (eK k) k 16) i → bSt G vwCl [] s (hs_W G a (eP (eK k) k 16) i) H locs → lv_has ls 3 [(0, .ref (a 0)), (1, .int (nI k)), (2, .int (nI (16 + 1)))] → W p l e ({ frames := 10, cells := 1128, slots := 16467, locals := 237 }) s m args below meth c H locs (cells + 2) (slots + 12) Q (F0 m 137 ls [])) : W p l e ({ frames := 10, cells := 1128, slots := 16467, locals := 237 }) s m args below meth c H locs cells slots Q (F0 m 158 ls []) := by
  have hx := X.1
  have hb := X.2.1
  have hml := X.2.2.1
  have hown := X.2.2.2.1
  have hts := X.2.2.2.2
  refine lv_aload_n hx hb dL_most_158 rfl (lv_at hl 0 rfl) ?_
  refine lv_iconst (v := nI 3) hx hb dL_most_159 (by decide) ?_
  refine lv_iconst (v := nI 0) hx hb dL_most_160 (by decide) ?_
  refine lv_bipush (v := nI 13) hx hb dL_most_161 (by decide) ?_
  refine lv_bipush (v := nI 9) hx hb dL_most_163 (by decide) ?_
  refine lv_iload_n hx hb dL_most_165 rfl (lv_at hl 2 rfl) ?_
  refine lv_bipush (v := nI 12) hx hb dL_most_166 (by decide) ?_
  refine lv_irem hx hb dL_most_168 (by decide) ?_
  refine b_tp (pk_rem (by omega) (by decide) (by decide)) ?_
  refine lv_ldc (v := 1000000) hx hb hown (hts (.constant RL 109 (1000000)) (by decide +kernel)) dL_most_169 ?_
  refine lv_iload_n hx hb dL_most_171 rfl (lv_at hl 1 rfl) ?_
  refine lv_isub hx hb dL_most_172 ?_
  refine hs_calli w (vx_runSW (As := [.ref (a 0), .int (nI 3), .int (nI 0), .int (nI 13), .int (nI 9), .int (nI (16 % 12)), .int (1000000 - (nI k))]) (rest := []) X (aF_put l hl0 G _ a _ _ hI _ _ _ _ _ 3 (e_putF hk) (by decide)) (vx_cwSW 7 hts gL_most_L_act rfl rfl rfl (by decide +kernel) ⟨Nat.le_of_ble_eq_true rfl, Nat.le_of_ble_eq_true rfl⟩) ⟨b_blind, fun U9 hU9 hW9 => ⟨rfl, hs_pre E Z9 w hm9 U9 hU9 hW9⟩⟩ rfl rfl hl.1 rfl (lv_room (Nat.le_of_ble_eq_true rfl)) dL_most_173 ⟨by show _ ≤ 1128; omega, by show _ ≤ 16467; omega⟩) hm9 (fun r i H locs hr w => ?_)
  obtain ⟨hI, hr9⟩ := hr
  refine b_tp (hr9.trans (show hs_r 3 = -73 from by decide)) ?_
  refine lv_iload_n hx hb dL_most_176 rfl (lv_at hl 2 rfl) ?_
  refine lv_bipush (v := nI 16) hx hb dL_most_177 (by decide) ?_
  refine lv_icmp_ge (tgt := 188) hx hb dL_most_179 (by decide) (fun c9 => ?_) (fun c9 => absurd (by decide) c9)
  refine lv_bipush (v := -73) hx hb dL_most_188 (by decide) ?_
  refine lv_icmp_eq (tgt := 195) hx hb dL_most_190 (by decide) (fun c9 => ?_) (fun c9 => absurd rfl c9)
  refine lv_iinc (v := nI 17) (lv' := [(2, .int (nI 17)), (0, .ref (a 0)), (1, .int (nI k))]) hx hb dL_most_195 hl (k := 2) rfl (by decide) (by decide) rfl (fun ls hl => ?_)
  refine lv_goto (tgt := 137) hx hb dL_most_198 (by decide) ?_
  exact kk i _ _ _ hI w (lv_sub hl [1, 2, 0] rfl)
set_option maxHeartbeats 4000000 in
set_option maxRecDepth 100000 in
theorem sg_most_in {p : Program} {l : Launch} (hl0 : l.stackTraces = false) {e : Env} {s : State} {m : MethodId} {below : List Frame} {meth : Method} {c : Code} {G : bG} {args : Array Value} {Q : State → Prop} (X : CallFix p m c cL_most 3 s args wsL_most RL) (E : bE G vwCl bNW bSW s) {a : Nat → Nat} (Z9 : bZ [] s) (hm9 : ∀ q ∈ hs_M a, Aw [] s.heap.size q) {k : Nat} (hk : k < 19) : ∀ (n j cells slots : Nat) (i : hs_I) (H : Heap) (locs : List Loc) (ls : Array Slot), j + n = 17 → (k = 18 → j ≤ 12) → cells + 2 * n ≤ 1128 → slots + 12 * n ≤ 16467 → hs_Inv (eP (eK k) k (min j 16)) i → bSt G vwCl [] s (hs_W G a (eP (eK k) k (min j 16)) i) H locs → lv_has ls 3 [(0, .ref (a 0)), (1, .int (nI k)), (2, .int (nI j))] →
    (∀ (i : hs_I) (H : Heap) (locs : List Loc) (ls : Array Slot), hs_Inv (eP (eK k) k (eN k)) i → bSt G vwCl [] s (hs_W G a (eP (eK k) k (eN k)) i) H locs → lv_has ls 3 [(0, .ref (a 0)), (1, .int (nI k))] → W p l e ({ frames := 10, cells := 1128, slots := 16467, locals := 237 }) s m args below meth c H locs (cells + 2 * n) (slots + 12 * n) Q (F0 m 201 ls [])) → W p l e ({ frames := 10, cells := 1128, slots := 16467, locals := 237 }) s m args below meth c H locs cells slots Q (F0 m 137 ls []) := by
  have hx := X.1
  have hb := X.2.1
  intro n
  induction n with
  | zero =>
    intro j cells slots i H locs ls h1 h2 h3 h4 hI w hl kk
    have hj : j = 17 := by omega
    subst hj
    have hN : eN k = 16 := if_neg (fun h9 => by have := h2 h9; omega)
    rw [hN] at kk
    refine lv_iload_n hx hb dL_most_137 rfl (lv_at hl 2 rfl) ?_
    refine lv_bipush (v := nI 17) hx hb dL_most_138 (by decide) ?_
    refine lv_icmp_ge (tgt := 201) hx hb dL_most_140 (by decide) (fun c9 => ?_) (fun c9 => absurd (by decide) c9)
    exact kk i _ _ _ hI w (lv_sub hl [0, 1] rfl)
  | succ n ih =>
    intro j cells slots i H locs ls h1 h2 h3 h4 hI w hl kk
    have hj : j < 17 := by omega
    refine lv_iload_n hx hb dL_most_137 rfl (lv_at hl 2 rfl) ?_
    refine lv_bipush (v := nI 17) hx hb dL_most_138 (by decide) ?_
    refine lv_icmp_ge (tgt := 201) hx hb dL_most_140 (by decide) (fun c9 => absurd (q_le (by omega) (by omega) c9) (by omega)) (fun c9 => ?_)
    refine lv_iload_n hx hb dL_most_143 rfl (lv_at hl 1 rfl) ?_
    refine lv_bipush (v := nI 18) hx hb dL_most_144 (by decide) ?_
    have go : (k = 18 → j < 12) → W p l e ({ frames := 10, cells := 1128, slots := 16467, locals := 237 }) s m args below meth c H locs cells slots Q (F0 m 158 ls []) := by
      intro h18
      rcases Nat.lt_or_ge j 16 with h16 | h16
      · rw [Nat.min_eq_left (by omega)] at hI w
        refine sg_most_lt hl0 X E Z9 hm9 hk h16 (by omega) (by omega) hI w hl (fun i H locs ls hI w hl => ?_)
        have e9 : min (j + 1) 16 = j + 1 := Nat.min_eq_left (by omega)
        refine ih (j + 1) (cells + 2) (slots + 12) i H locs ls (by omega) (fun h9 => h18 h9) (by omega) (by omega) (by rw [e9]; exact hI) (by rw [e9]; exact w) hl (fun i H locs ls hI w hl => ?_)
        rw [show cells + 2 + 2 * n = cells + 2 * (n + 1) by omega, show slots + 12 + 12 * n = slots + 12 * (n + 1) by omega]
        exact kk i H locs ls hI w hl
      · have hj6 : j = 16 := by omega
        subst hj6
        refine sg_most_eq hl0 X E Z9 hm9 hk (by omega) (by omega) hI w hl (fun i H locs ls hI w hl => ?_)
        refine ih 17 (cells + 2) (slots + 12) i H locs ls (by omega) (fun h9 => by have := h18 h9; omega) (by omega) (by omega) hI w hl (fun i H locs ls hI w hl => ?_)
        rw [show cells + 2 + 2 * n = cells + 2 * (n + 1) by omega, show slots + 12 + 12 * n = slots + 12 * (n + 1) by omega]
        exact kk i H locs ls hI w hl
    refine lv_icmp_ne (tgt := 158) hx hb dL_most_146 (by decide) (fun c9 => go (fun h9 => absurd (by rw [h9]) c9)) (fun c9 => ?_)
    have hk8 : k = 18 := (nI_eq (by omega) (by decide)).mp c9
    refine lv_iload_n hx hb dL_most_149 rfl (lv_at hl 2 rfl) ?_
    refine lv_bipush (v := nI 12) hx hb dL_most_150 (by decide) ?_
    refine lv_icmp_ne (tgt := 158) hx hb dL_most_152 (by decide) (fun c12 => go (fun _ => by
      have h9 := h2 hk8
      have h10 : ¬ j = 12 := fun h11 => c12 (by rw [h11])
      omega)) (fun c12 => ?_)
    have hj2 : j = 12 := (nI_eq (by omega) (by decide)).mp c12
    subst hj2
    have hN : eN k = 12 := if_pos hk8
    refine lv_goto (tgt := 201) hx hb dL_most_155 (by decide) ?_
    refine W.widen (k := cells + 2 * (n + 1)) (n := slots + 12 * (n + 1)) (by omega) (by omega) ?_
    rw [hN] at kk
    exact kk i _ _ _ hI w (lv_sub hl [0, 1] rfl)
set_option maxHeartbeats 4000000 in
set_option maxRecDepth 100000 in
theorem sg_most_s0 {p : Program} {l : Launch} (hl0 : l.stackTraces = false) {e : Env} {s : State} {m : MethodId} {below : List Frame} {meth : Method} {c : Code} {G : bG} {args : Array Value} {Q : State → Prop} (X : CallFix p m c cL_most 3 s args wsL_most RL) (E : bE G vwCl bNW bSW s) {a : Nat → Nat} (Z9 : bZ [] s) (hm9 : ∀ q ∈ hs_M a, Aw [] s.heap.size q) {i : hs_I} {H : Heap} {locs : List Loc} {ls : Array Slot} {cells slots : Nat} (hc : cells + 2 ≤ 1128) (hs : slots + 12 ≤ 16467) (hI : hs_Inv (eP (eK 0) 0 (eN 0)) i) (w : bSt G vwCl [] s (hs_W G a (eP (eK 0) 0 (eN 0)) i) H locs) (hl : lv_has ls 3 [(0, .ref (a 0)), (1, .int (nI (0)))])
    (kk : ∀ (i : hs_I) (H : Heap) (locs : List Loc) (ls : Array Slot), hs_Inv (eK 1) i → bSt G vwCl [] s (hs_W G a (eK 1) i) H locs → lv_has ls 3 [(0, .ref (a 0)), (1, .int (nI (1)))] → W p l e ({ frames := 10, cells := 1128, slots := 16467, locals := 237 }) s m args below meth c H locs (cells + 2) (slots + 12) Q (F0 m 129 ls [])) : W p l e ({ frames := 10, cells := 1128, slots := 16467, locals := 237 }) s m args below meth c H locs cells slots Q (F0 m 201 ls []) := by
  have hx := X.1
  have hb := X.2.1
  have hml := X.2.2.1
  have hown := X.2.2.2.1
  have hts := X.2.2.2.2
  refine lv_aload_n hx hb dL_most_201 rfl (lv_at hl 0 rfl) ?_
  refine lv_iconst (v := nI 2) hx hb dL_most_202 (by decide) ?_
  refine hs_calli w (va_runV (As := [.int (nI 2)]) (rest := []) X (n_send l hl0 G _ a _ _ _ _ hI (nI 2) e_send0) (cwV 1 hts gL_most_X5_send rfl rfl rfl (by decide +kernel) ⟨Nat.le_of_ble_eq_true rfl, Nat.le_of_ble_eq_true rfl⟩) ⟨b_blind, hs_recv E w, fun U9 hU9 hW9 => ⟨rfl, hs_pre E Z9 w hm9 U9 hU9 hW9⟩⟩ rfl rfl hl.1 rfl (lv_room (Nat.le_of_ble_eq_true rfl)) dL_most_203 ⟨by show _ ≤ 1128; omega, by show _ ≤ 16467; omega⟩) hm9 (fun r i H locs hr w => ?_)
  obtain ⟨hI, hr9⟩ := hr
  refine b_tp hr9 ?_
  refine lv_iload_n hx hb dL_most_206 rfl (lv_at hl 1 rfl) ?_
  refine lv_if_ne (tgt := 215) hx hb dL_most_207 (by decide) (fun c9 => absurd rfl c9) (fun c9 => ?_)
  refine lv_bipush (v := nI 12) hx hb dL_most_210 (by decide) ?_
  refine lv_goto (tgt := 216) hx hb dL_most_212 (by decide) ?_
  refine lv_icmp_eq (tgt := 221) hx hb dL_most_216 (by decide) (fun c9 => ?_) (fun c9 => absurd rfl c9)
  refine lv_iinc (v := nI 1) (lv' := [(1, .int (nI 1)), (0, .ref (a 0))]) hx hb dL_most_221 hl (k := 1) rfl (by decide) (by decide) rfl (fun ls hl => ?_)
  refine lv_goto (tgt := 129) hx hb dL_most_224 (by decide) ?_
  exact kk i _ _ _ hI w (lv_sub hl [1, 0] rfl)
set_option maxHeartbeats 4000000 in
set_option maxRecDepth 100000 in
theorem sg_most_sS {p : Program} {l : Launch} (hl0 : l.stackTraces = false) {e : Env} {s : State} {m : MethodId} {below : List Frame} {meth : Method} {c : Code} {G : bG} {args : Array Value} {Q : State → Prop} (X : CallFix p m c cL_most 3 s args wsL_most RL) (E : bE G vwCl bNW bSW s) {a : Nat → Nat} (Z9 : bZ [] s) (hm9 : ∀ q ∈ hs_M a, Aw [] s.heap.size q) {k : Nat} (hk : k + 1 < 19) {i : hs_I} {H : Heap} {locs : List Loc} {ls : Array Slot} {cells slots : Nat} (hc : cells + 2 ≤ 1128) (hs : slots + 12 ≤ 16467) (hI : hs_Inv (eP (eK (k + 1)) (k + 1) (eN (k + 1))) i) (w : bSt G vwCl [] s (hs_W G a (eP (eK (k + 1)) (k + 1) (eN (k + 1))) i) H locs) (hl : lv_has ls 3 [(0, .ref (a 0)), (1, .int (nI (k + 1)))])
    (kk : ∀ (i : hs_I) (H : Heap) (locs : List Loc) (ls : Array Slot), hs_Inv (eK (k + 1 + 1)) i → bSt G vwCl [] s (hs_W G a (eK (k + 1 + 1)) i) H locs → lv_has ls 3 [(0, .ref (a 0)), (1, .int (nI (k + 1 + 1)))] → W p l e ({ frames := 10, cells := 1128, slots := 16467, locals := 237 }) s m args below meth c H locs (cells + 2) (slots + 12) Q (F0 m 129 ls [])) : W p l e ({ frames := 10, cells := 1128, slots := 16467, locals := 237 }) s m args below meth c H locs cells slots Q (F0 m 201 ls []) := by
  have hx := X.1
  have hb := X.2.1
  have hml := X.2.2.1
  have hown := X.2.2.2.1
  have hts := X.2.2.2.2
  refine lv_aload_n hx hb dL_most_201 rfl (lv_at hl 0 rfl) ?_
  refine lv_iconst (v := nI 2) hx hb dL_most_202 (by decide) ?_
  refine hs_calli w (va_runV (As := [.int (nI 2)]) (rest := []) X (n_send l hl0 G _ a _ _ _ _ hI (nI 2) (e_sendS hk)) (cwV 1 hts gL_most_X5_send rfl rfl rfl (by decide +kernel) ⟨Nat.le_of_ble_eq_true rfl, Nat.le_of_ble_eq_true rfl⟩) ⟨b_blind, hs_recv E w, fun U9 hU9 hW9 => ⟨rfl, hs_pre E Z9 w hm9 U9 hU9 hW9⟩⟩ rfl rfl hl.1 rfl (lv_room (Nat.le_of_ble_eq_true rfl)) dL_most_203 ⟨by show _ ≤ 1128; omega, by show _ ≤ 16467; omega⟩) hm9 (fun r i H locs hr w => ?_)
  obtain ⟨hI, hr9⟩ := hr
  refine b_tp hr9 ?_
  refine lv_iload_n hx hb dL_most_206 rfl (lv_at hl 1 rfl) ?_
  refine lv_if_ne (tgt := 215) hx hb dL_most_207 (by decide) (fun c_207_1 => ?_) (fun c_207_1 => ?_)
  · have q_207_2 : ¬ (k + 1) = 0 := fun h9 => c_207_1 ((nI_z (by omega)).mpr h9)
    refine lv_iconst (v := nI 0) hx hb dL_most_215 (by decide) ?_
    refine lv_icmp_eq (tgt := 221) hx hb dL_most_216 (by decide) (fun c9 => ?_) (fun c9 => absurd rfl c9)
    refine lv_iinc (v := nI (k + 1 + 1)) (lv' := [(1, .int (nI (k + 1 + 1))), (0, .ref (a 0))]) hx hb dL_most_221 hl (k := 1) rfl (nI_add (k + 1) 1) (by decide) rfl (fun ls hl => ?_)
    refine lv_goto (tgt := 129) hx hb dL_most_224 (by decide) ?_
    exact kk i _ _ _ hI w (lv_sub hl [1, 0] rfl)
  · have q_207_2 : (k + 1) = 0 := (nI_z (by omega)).mp c_207_1
    exact absurd q_207_2 (Nat.succ_ne_zero k)
set_option maxHeartbeats 4000000 in
set_option maxRecDepth 100000 in
theorem sg_most_loop {p : Program} {l : Launch} (hl0 : l.stackTraces = false) {e : Env} {s : State} {m : MethodId} {below : List Frame} {meth : Method} {c : Code} {G : bG} {args : Array Value} {Q : State → Prop} (X : CallFix p m c cL_most 3 s args wsL_most RL) (E : bE G vwCl bNW bSW s) {a : Nat → Nat} (Z9 : bZ [] s) (hm9 : ∀ q ∈ hs_M a, Aw [] s.heap.size q) : ∀ (n k cells slots : Nat) (i : hs_I) (H : Heap) (locs : List Loc) (ls : Array Slot), k + n = 19 → cells + 36 * n ≤ 1128 → slots + 220 * n ≤ 16467 → hs_Inv (eK k) i → bSt G vwCl [] s (hs_W G a (eK k) i) H locs → lv_has ls 3 [(0, .ref (a 0)), (1, .int (nI k))] →
    (∀ (i : hs_I) (H : Heap) (locs : List Loc) (ls : Array Slot), hs_Inv (eK 19) i → bSt G vwCl [] s (hs_W G a (eK 19) i) H locs → lv_has ls 3 [(0, .ref (a 0))] → W p l e ({ frames := 10, cells := 1128, slots := 16467, locals := 237 }) s m args below meth c H locs (cells + 36 * n) (slots + 220 * n) Q (F0 m 227 ls [])) → W p l e ({ frames := 10, cells := 1128, slots := 16467, locals := 237 }) s m args below meth c H locs cells slots Q (F0 m 129 ls []) := by
  have hx := X.1
  have hb := X.2.1
  intro n
  induction n with
  | zero =>
    intro k cells slots i H locs ls h1 h3 h4 hI w hl kk
    have hk : k = 19 := by omega
    subst hk
    refine lv_iload_n hx hb dL_most_129 rfl (lv_at hl 1 rfl) ?_
    refine lv_bipush (v := nI 19) hx hb dL_most_130 (by decide) ?_
    refine lv_icmp_ge (tgt := 227) hx hb dL_most_132 (by decide) (fun c9 => ?_) (fun c9 => absurd (by decide) c9)
    exact kk i _ _ _ hI w (lv_sub hl [0] rfl)
  | succ n ih =>
    intro k cells slots i H locs ls h1 h3 h4 hI w hl kk
    have hk : k < 19 := by omega
    refine lv_iload_n hx hb dL_most_129 rfl (lv_at hl 1 rfl) ?_
    refine lv_bipush (v := nI 19) hx hb dL_most_130 (by decide) ?_
    refine lv_icmp_ge (tgt := 227) hx hb dL_most_132 (by decide) (fun c9 => absurd (q_le (by omega) (by omega) c9) (by omega)) (fun c9 => ?_)
    refine lv_iconst (v := nI 0) hx hb dL_most_135 (by decide) ?_
    refine lv_istore_n (lv' := [(2, .int (nI 0)), (0, .ref (a 0)), (1, .int (nI k))]) hx hb dL_most_136 rfl hl (by decide) rfl (fun ls hl => ?_)
    refine sg_most_in hl0 X E Z9 hm9 hk 17 0 cells slots i H locs ls rfl (fun _ => Nat.zero_le _) (by omega) (by omega) hI w (lv_sub hl [1, 2, 0] rfl) (fun i H locs ls hI w hl => ?_)
    have fin : ∀ (i : hs_I) (H : Heap) (locs : List Loc) (ls : Array Slot), hs_Inv (eK (k + 1)) i → bSt G vwCl [] s (hs_W G a (eK (k + 1)) i) H locs → lv_has ls 3 [(0, .ref (a 0)), (1, .int (nI (k + 1)))] → W p l e ({ frames := 10, cells := 1128, slots := 16467, locals := 237 }) s m args below meth c H locs (cells + 2 * 17 + 2) (slots + 12 * 17 + 12) Q (F0 m 129 ls []) := by
      intro i H locs ls hI w hl
      refine W.widen (k := cells + 36) (n := slots + 220) (by omega) (by omega) ?_
      refine ih (k + 1) (cells + 36) (slots + 220) i H locs ls (by omega) (by omega) (by omega) hI w hl (fun i H locs ls hI w hl => ?_)
      rw [show cells + 36 + 36 * n = cells + 36 * (n + 1) by omega, show slots + 220 + 220 * n = slots + 220 * (n + 1) by omega]
      exact kk i H locs ls hI w hl
    cases k with
    | zero => exact sg_most_s0 hl0 X E Z9 hm9 (by omega) (by omega) hI w hl fin
    | succ k => exact sg_most_sS hl0 X E Z9 hm9 hk (by omega) (by omega) hI w hl fin
set_option maxHeartbeats 4000000 in
set_option maxRecDepth 100000 in
theorem sg_most_100 {p : Program} {l : Launch} (hl0 : l.stackTraces = false) {e : Env} {s : State} {m : MethodId} {below : List Frame} {meth : Method} {c : Code} {G : bG} {args : Array Value} {Q : State → Prop} (X : CallFix p m c cL_most 3 s args wsL_most RL) (E : bE G vwCl bNW bSW s) {a : Nat → Nat} (Z9 : bZ [] s) (hm9 : ∀ q ∈ hs_M a, Aw [] s.heap.size q) {i : hs_I} {H : Heap} {locs : List Loc} {ls : Array Slot} (hI : hs_Inv em_L i) (w : bSt G vwCl [] s (hs_W G a em_L i) H locs) (hl : lv_has ls 3 [(0, .ref (a 0))])
    (kk : ∀ (i : hs_I) (H : Heap) (locs : List Loc) (ls : Array Slot), hs_Inv em_36 i → bSt G vwCl [] s (hs_W G a em_36 i) H locs → lv_has ls 3 [(0, .ref (a 0)), (1, .int (nI 8))] → W p l e ({ frames := 10, cells := 1128, slots := 16467, locals := 237 }) s m args below meth c H locs 787 14421 Q (F0 m 357 ls [])) : W p l e ({ frames := 10, cells := 1128, slots := 16467, locals := 237 }) s m args below meth c H locs 767 14301 Q (F0 m 227 ls []) := by
  have hx := X.1
  have hb := X.2.1
  have hml := X.2.2.1
  have hown := X.2.2.2.1
  have hts := X.2.2.2.2
  refine lv_aload_n hx hb dL_most_227 rfl (lv_at hl 0 rfl) ?_
  refine lv_iconst (v := nI 0) hx hb dL_most_228 (by decide) ?_
  refine lv_bipush (v := nI 13) hx hb dL_most_229 (by decide) ?_
  refine lv_bipush (v := nI 9) hx hb dL_most_231 (by decide) ?_
  refine lv_iconst (v := nI 0) hx hb dL_most_233 (by decide) ?_
  refine lv_iconst (v := nI 5) hx hb dL_most_234 (by decide) ?_
  refine hs_calli w (va_runV (As := [.int (nI 0), .int (nI 13), .int (nI 9), .int (nI 0), .int (nI 5)]) (rest := []) X (n_put l hl0 G _ a _ _ _ _ hI _ _ _ _ _ emq_30) (cwV 5 hts gL_most_X5_put rfl rfl rfl (by decide +kernel) ⟨Nat.le_of_ble_eq_true rfl, Nat.le_of_ble_eq_true rfl⟩) ⟨b_blind, hs_recv E w, fun U9 hU9 hW9 => ⟨rfl, hs_pre E Z9 w hm9 U9 hU9 hW9⟩⟩ rfl rfl hl.1 rfl (lv_room (Nat.le_of_ble_eq_true rfl)) dL_most_235 ⟨Nat.le_of_ble_eq_true rfl, Nat.le_of_ble_eq_true rfl⟩) hm9 (fun r i H locs hr w => ?_)
  obtain ⟨hI, hr9⟩ := hr
  refine b_tp hr9 ?_
  refine lv_iconst (v := nI 1) hx hb dL_most_238 (by decide) ?_
  refine lv_icmp_ne (tgt := 332) hx hb dL_most_239 (by decide) (fun c9 => absurd rfl c9) (fun c9 => ?_)
  refine lv_aload_n hx hb dL_most_242 rfl (lv_at hl 0 rfl) ?_
  refine lv_iconst (v := nI 4) hx hb dL_most_243 (by decide) ?_
  refine lv_iconst (v := nI 2) hx hb dL_most_244 (by decide) ?_
  refine lv_iconst (v := nI 0) hx hb dL_most_245 (by decide) ?_
  refine lv_iconst (v := nI 0) hx hb dL_most_246 (by decide) ?_
  refine lv_iconst (v := nI 0) hx hb dL_most_247 (by decide) ?_
  refine lv_iconst (v := nI 0) hx hb dL_most_248 (by decide) ?_
  refine hs_calli w (vx_runSW (As := [.ref (a 0), .int (nI 4), .int (nI 2), .int (nI 0), .int (nI 0), .int (nI 0), .int (nI 0)]) (rest := []) X (aF_send l hl0 G _ a _ _ hI (nI 2) (nI 0) (nI 0) (nI 0) (nI 0) 3 emq_31 (by decide)) (vx_cwSW 7 hts gL_most_L_act rfl rfl rfl (by decide +kernel) ⟨Nat.le_of_ble_eq_true rfl, Nat.le_of_ble_eq_true rfl⟩) ⟨b_blind, fun U9 hU9 hW9 => ⟨rfl, hs_pre E Z9 w hm9 U9 hU9 hW9⟩⟩ rfl rfl hl.1 rfl (lv_room (Nat.le_of_ble_eq_true rfl)) dL_most_249 ⟨Nat.le_of_ble_eq_true rfl, Nat.le_of_ble_eq_true rfl⟩) hm9 (fun r i H locs hr w => ?_)
  obtain ⟨hI, hr9⟩ := hr
  refine b_tp (hr9.trans (show hs_r 3 = -73 from by decide)) ?_
  refine lv_bipush (v := -73) hx hb dL_most_252 (by decide) ?_
  refine lv_icmp_ne (tgt := 332) hx hb dL_most_254 (by decide) (fun c9 => absurd rfl c9) (fun c9 => ?_)
  refine lv_aload_n hx hb dL_most_257 rfl (lv_at hl 0 rfl) ?_
  refine hs_calli w (va_runV (As := []) (rest := []) X (n_wipe l hl0 G _ a _ _ _ _ hI emq_32) (cwV 0 hts gL_most_X5_wipe rfl rfl rfl (by decide +kernel) ⟨Nat.le_of_ble_eq_true rfl, Nat.le_of_ble_eq_true rfl⟩) ⟨b_blind, hs_recv E w, fun U9 hU9 hW9 => ⟨rfl, hs_pre E Z9 w hm9 U9 hU9 hW9⟩⟩ rfl rfl hl.1 rfl (lv_room (Nat.le_of_ble_eq_true rfl)) dL_most_258 ⟨Nat.le_of_ble_eq_true rfl, Nat.le_of_ble_eq_true rfl⟩) hm9 (fun r i H locs hr w => ?_)
  obtain ⟨hI, hr9⟩ := hr
  refine b_tp hr9 ?_
  refine lv_iconst (v := nI 1) hx hb dL_most_261 (by decide) ?_
  refine lv_icmp_ne (tgt := 332) hx hb dL_most_262 (by decide) (fun c9 => absurd rfl c9) (fun c9 => ?_)
  refine lv_aload_n hx hb dL_most_265 rfl (lv_at hl 0 rfl) ?_
  refine lv_iconst (v := nI 0) hx hb dL_most_266 (by decide) ?_
  refine lv_iconst (v := nI 0) hx hb dL_most_267 (by decide) ?_
  refine lv_iconst (v := nI 3) hx hb dL_most_268 (by decide) ?_
  refine lv_iconst (v := nI 0) hx hb dL_most_269 (by decide) ?_
  refine hs_calli w (va_runV (As := [.int (nI 0), .int (nI 0), .int (nI 3), .int (nI 0)]) (rest := []) X (n_value l hl0 G _ a _ _ _ _ hI _ _ _ _ emq_33) (cwV 4 hts gL_most_X5_value rfl rfl rfl (by decide +kernel) ⟨Nat.le_of_ble_eq_true rfl, Nat.le_of_ble_eq_true rfl⟩) ⟨b_blind, hs_recv E w, fun U9 hU9 hW9 => ⟨rfl, hs_pre E Z9 w hm9 U9 hU9 hW9⟩⟩ rfl rfl hl.1 rfl (lv_room (Nat.le_of_ble_eq_true rfl)) dL_most_270 ⟨Nat.le_of_ble_eq_true rfl, Nat.le_of_ble_eq_true rfl⟩) hm9 (fun r i H locs hr w => ?_)
  obtain ⟨hI, hr9, -⟩ := hr
  refine b_tp hr9 ?_
  refine lv_ldc (v := 1000000) hx hb hown (hts (.constant RL 109 (1000000)) (by decide +kernel)) dL_most_273 ?_
  refine lv_icmp_ne (tgt := 332) hx hb dL_most_275 (by decide) (fun c9 => absurd rfl c9) (fun c9 => ?_)
  refine lv_aload_n hx hb dL_most_278 rfl (lv_at hl 0 rfl) ?_
  refine lv_iconst (v := nI 0) hx hb dL_most_279 (by decide) ?_
  refine lv_bipush (v := nI 9) hx hb dL_most_280 (by decide) ?_
  refine lv_iconst (v := nI 3) hx hb dL_most_282 (by decide) ?_
  refine lv_iconst (v := nI 0) hx hb dL_most_283 (by decide) ?_
  refine hs_calli w (va_runV (As := [.int (nI 0), .int (nI 9), .int (nI 3), .int (nI 0)]) (rest := []) X (n_value l hl0 G _ a _ _ _ _ hI _ _ _ _ emq_34) (cwV 4 hts gL_most_X5_value rfl rfl rfl (by decide +kernel) ⟨Nat.le_of_ble_eq_true rfl, Nat.le_of_ble_eq_true rfl⟩) ⟨b_blind, hs_recv E w, fun U9 hU9 hW9 => ⟨rfl, hs_pre E Z9 w hm9 U9 hU9 hW9⟩⟩ rfl rfl hl.1 rfl (lv_room (Nat.le_of_ble_eq_true rfl)) dL_most_284 ⟨Nat.le_of_ble_eq_true rfl, Nat.le_of_ble_eq_true rfl⟩) hm9 (fun r i H locs hr w => ?_)
  obtain ⟨hI, hr9, -⟩ := hr
  refine b_tp hr9 ?_
  refine lv_ldc (v := 1000000) hx hb hown (hts (.constant RL 109 (1000000)) (by decide +kernel)) dL_most_287 ?_
  refine lv_icmp_ne (tgt := 332) hx hb dL_most_289 (by decide) (fun c9 => absurd rfl c9) (fun c9 => ?_)
  refine lv_aload_n hx hb dL_most_292 rfl (lv_at hl 0 rfl) ?_
  refine lv_iconst (v := nI 5) hx hb dL_most_293 (by decide) ?_
  refine lv_iconst (v := nI 4) hx hb dL_most_294 (by decide) ?_
  refine lv_bipush (v := nI 11) hx hb dL_most_295 (by decide) ?_
  refine lv_iconst (v := nI 0) hx hb dL_most_297 (by decide) ?_
  refine hs_calli w (va_runV (As := [.int (nI 5), .int (nI 4), .int (nI 11), .int (nI 0)]) (rest := []) X (n_value l hl0 G _ a _ _ _ _ hI _ _ _ _ emq_35) (cwV 4 hts gL_most_X5_value rfl rfl rfl (by decide +kernel) ⟨Nat.le_of_ble_eq_true rfl, Nat.le_of_ble_eq_true rfl⟩) ⟨b_blind, hs_recv E w, fun U9 hU9 hW9 => ⟨rfl, hs_pre E Z9 w hm9 U9 hU9 hW9⟩⟩ rfl rfl hl.1 rfl (lv_room (Nat.le_of_ble_eq_true rfl)) dL_most_298 ⟨Nat.le_of_ble_eq_true rfl, Nat.le_of_ble_eq_true rfl⟩) hm9 (fun r i H locs hr w => ?_)
  obtain ⟨hI, hr9, -⟩ := hr
  refine b_tp hr9 ?_
  refine lv_ldc (v := 1000000) hx hb hown (hts (.constant RL 109 (1000000)) (by decide +kernel)) dL_most_301 ?_
  refine lv_icmp_ne (tgt := 332) hx hb dL_most_303 (by decide) (fun c9 => absurd rfl c9) (fun c9 => ?_)
  refine lv_aload_n hx hb dL_most_306 rfl (lv_at hl 0 rfl) ?_
  refine lv_bipush (v := nI 6) hx hb dL_most_307 (by decide) ?_
  refine lv_iconst (v := nI 5) hx hb dL_most_309 (by decide) ?_
  refine lv_iconst (v := nI 3) hx hb dL_most_310 (by decide) ?_
  refine lv_iconst (v := nI 1) hx hb dL_most_311 (by decide) ?_
  refine b_tp (show nI 1 = bI true from rfl) ?_
  refine hs_calli w (va_runV (As := [.int (nI 6), .int (nI 5), .int (nI 3), .int (bI true)]) (rest := []) X (n_secret l hl0 G _ a _ _ _ _ hI _ _ _ _ emq_36) (cwV 4 hts gL_most_X5_secret rfl rfl rfl (by decide +kernel) ⟨Nat.le_of_ble_eq_true rfl, Nat.le_of_ble_eq_true rfl⟩) ⟨b_blind, hs_recv E w, fun U9 hU9 hW9 => ⟨rfl, hs_pre E Z9 w hm9 U9 hU9 hW9⟩⟩ rfl rfl hl.1 rfl (lv_room (Nat.le_of_ble_eq_true rfl)) dL_most_312 ⟨Nat.le_of_ble_eq_true rfl, Nat.le_of_ble_eq_true rfl⟩) hm9 (fun r i H locs hr w => ?_)
  obtain ⟨hI, hr9, -⟩ := hr
  refine b_tp hr9 ?_
  refine lv_sipush (v := nI 140) hx hb dL_most_315 (by decide) ?_
  refine lv_icmp_ne (tgt := 332) hx hb dL_most_318 (by decide) (fun c9 => absurd rfl c9) (fun c9 => ?_)
  refine lv_aload_n hx hb dL_most_321 rfl (lv_at hl 0 rfl) ?_
  refine lv_iconst (v := nI 3) hx hb dL_most_322 (by decide) ?_
  refine hs_calli w (va_runV (As := [.int (nI 3)]) (rest := []) X (n_hidden l hl0 G _ a _ _ _ _ hI _ emq_37) (cwV 1 hts gL_most_X5_hidden rfl rfl rfl (by decide +kernel) ⟨Nat.le_of_ble_eq_true rfl, Nat.le_of_ble_eq_true rfl⟩) ⟨b_blind, hs_recv E w, fun U9 hU9 hW9 => ⟨rfl, hs_pre E Z9 w hm9 U9 hU9 hW9⟩⟩ rfl rfl hl.1 rfl (lv_room (Nat.le_of_ble_eq_true rfl)) dL_most_323 ⟨Nat.le_of_ble_eq_true rfl, Nat.le_of_ble_eq_true rfl⟩) hm9 (fun r i H locs hr w => ?_)
  obtain ⟨hI, hr9, -⟩ := hr
  refine b_tp hr9 ?_
  refine lv_sipush (v := nI 140) hx hb dL_most_326 (by decide) ?_
  refine lv_icmp_eq (tgt := 334) hx hb dL_most_329 (by decide) (fun c9 => ?_) (fun c9 => absurd rfl c9)
  refine lv_iconst (v := nI 1) hx hb dL_most_334 (by decide) ?_
  refine lv_istore_n (lv' := [(1, .int (nI 1)), (0, .ref (a 0))]) hx hb dL_most_335 rfl hl (by decide) rfl (fun ls hl => ?_)
  refine lv_iload_n hx hb dL_most_336 rfl (lv_at hl 0 rfl) ?_
  refine lv_bipush (v := nI 11) hx hb dL_most_337 (by decide) ?_
  refine lv_icmp_ge (tgt := 363) hx hb dL_most_339 (by decide) (fun c9 => absurd c9 (by decide)) (fun c9 => ?_)
  refine lv_aload_n hx hb dL_most_342 rfl (lv_at hl 1 rfl) ?_
  refine lv_bipush (v := nI 100) hx hb dL_most_343 (by decide) ?_
  refine hs_calli w (va_runV (As := [.int (nI 100)]) (rest := []) X (n_pass l hl0 G _ a _ _ _ _ hI _ emq_38) (cwV 1 hts gL_most_X5_pass rfl rfl rfl (by decide +kernel) ⟨Nat.le_of_ble_eq_true rfl, Nat.le_of_ble_eq_true rfl⟩) ⟨b_blind, hs_recv E w, fun U9 hU9 hW9 => ⟨rfl, hs_pre E Z9 w hm9 U9 hU9 hW9⟩⟩ rfl rfl hl.1 rfl (lv_room (Nat.le_of_ble_eq_true rfl)) dL_most_345 ⟨Nat.le_of_ble_eq_true rfl, Nat.le_of_ble_eq_true rfl⟩) hm9 (fun r i H locs hr w => ?_)
  obtain ⟨hI, hr9⟩ := hr
  refine b_tp hr9 ?_
  refine lv_bipush (v := nI 100) hx hb dL_most_348 (by decide) ?_
  refine lv_iload_n hx hb dL_most_350 rfl (lv_at hl 0 rfl) ?_
  refine lv_imul hx hb dL_most_351 ?_
  refine b_tp (show (nI 100) * (nI 1) = nI 100 from by decide) ?_
  refine lv_icmp_eq (tgt := 357) hx hb dL_most_352 (by decide) (fun c9 => ?_) (fun c9 => absurd rfl c9)
  refine lv_iinc (v := nI 2) (lv' := [(1, .int (nI 2)), (0, .ref (a 0))]) hx hb dL_most_357 hl (k := 0) rfl (by decide) (by decide) rfl (fun ls hl => ?_)
  refine lv_goto (tgt := 336) hx hb dL_most_360 (by decide) ?_
  refine lv_iload_n hx hb dL_most_336 rfl (lv_at hl 0 rfl) ?_
  refine lv_bipush (v := nI 11) hx hb dL_most_337 (by decide) ?_
  refine lv_icmp_ge (tgt := 363) hx hb dL_most_339 (by decide) (fun c9 => absurd c9 (by decide)) (fun c9 => ?_)
  refine lv_aload_n hx hb dL_most_342 rfl (lv_at hl 1 rfl) ?_
  refine lv_bipush (v := nI 100) hx hb dL_most_343 (by decide) ?_
  refine hs_calli w (va_runV (As := [.int (nI 100)]) (rest := []) X (n_pass l hl0 G _ a _ _ _ _ hI _ emq_39) (cwV 1 hts gL_most_X5_pass rfl rfl rfl (by decide +kernel) ⟨Nat.le_of_ble_eq_true rfl, Nat.le_of_ble_eq_true rfl⟩) ⟨b_blind, hs_recv E w, fun U9 hU9 hW9 => ⟨rfl, hs_pre E Z9 w hm9 U9 hU9 hW9⟩⟩ rfl rfl hl.1 rfl (lv_room (Nat.le_of_ble_eq_true rfl)) dL_most_345 ⟨Nat.le_of_ble_eq_true rfl, Nat.le_of_ble_eq_true rfl⟩) hm9 (fun r i H locs hr w => ?_)
  obtain ⟨hI, hr9⟩ := hr
  refine b_tp hr9 ?_
  refine lv_bipush (v := nI 100) hx hb dL_most_348 (by decide) ?_
  refine lv_iload_n hx hb dL_most_350 rfl (lv_at hl 0 rfl) ?_
  refine lv_imul hx hb dL_most_351 ?_
  refine b_tp (show (nI 100) * (nI 2) = nI 200 from by decide) ?_
  refine lv_icmp_eq (tgt := 357) hx hb dL_most_352 (by decide) (fun c9 => ?_) (fun c9 => absurd rfl c9)
  refine lv_iinc (v := nI 3) (lv' := [(1, .int (nI 3)), (0, .ref (a 0))]) hx hb dL_most_357 hl (k := 0) rfl (by decide) (by decide) rfl (fun ls hl => ?_)
  refine lv_goto (tgt := 336) hx hb dL_most_360 (by decide) ?_
  refine lv_iload_n hx hb dL_most_336 rfl (lv_at hl 0 rfl) ?_
  refine lv_bipush (v := nI 11) hx hb dL_most_337 (by decide) ?_
  refine lv_icmp_ge (tgt := 363) hx hb dL_most_339 (by decide) (fun c9 => absurd c9 (by decide)) (fun c9 => ?_)
  refine lv_aload_n hx hb dL_most_342 rfl (lv_at hl 1 rfl) ?_
  refine lv_bipush (v := nI 100) hx hb dL_most_343 (by decide) ?_
  refine hs_calli w (va_runV (As := [.int (nI 100)]) (rest := []) X (n_pass l hl0 G _ a _ _ _ _ hI _ emq_40) (cwV 1 hts gL_most_X5_pass rfl rfl rfl (by decide +kernel) ⟨Nat.le_of_ble_eq_true rfl, Nat.le_of_ble_eq_true rfl⟩) ⟨b_blind, hs_recv E w, fun U9 hU9 hW9 => ⟨rfl, hs_pre E Z9 w hm9 U9 hU9 hW9⟩⟩ rfl rfl hl.1 rfl (lv_room (Nat.le_of_ble_eq_true rfl)) dL_most_345 ⟨Nat.le_of_ble_eq_true rfl, Nat.le_of_ble_eq_true rfl⟩) hm9 (fun r i H locs hr w => ?_)
  obtain ⟨hI, hr9⟩ := hr
  refine b_tp hr9 ?_
  refine lv_bipush (v := nI 100) hx hb dL_most_348 (by decide) ?_
  refine lv_iload_n hx hb dL_most_350 rfl (lv_at hl 0 rfl) ?_
  refine lv_imul hx hb dL_most_351 ?_
  refine b_tp (show (nI 100) * (nI 3) = nI 300 from by decide) ?_
  refine lv_icmp_eq (tgt := 357) hx hb dL_most_352 (by decide) (fun c9 => ?_) (fun c9 => absurd rfl c9)
  refine lv_iinc (v := nI 4) (lv' := [(1, .int (nI 4)), (0, .ref (a 0))]) hx hb dL_most_357 hl (k := 0) rfl (by decide) (by decide) rfl (fun ls hl => ?_)
  refine lv_goto (tgt := 336) hx hb dL_most_360 (by decide) ?_
  refine lv_iload_n hx hb dL_most_336 rfl (lv_at hl 0 rfl) ?_
  refine lv_bipush (v := nI 11) hx hb dL_most_337 (by decide) ?_
  refine lv_icmp_ge (tgt := 363) hx hb dL_most_339 (by decide) (fun c9 => absurd c9 (by decide)) (fun c9 => ?_)
  refine lv_aload_n hx hb dL_most_342 rfl (lv_at hl 1 rfl) ?_
  refine lv_bipush (v := nI 100) hx hb dL_most_343 (by decide) ?_
  refine hs_calli w (va_runV (As := [.int (nI 100)]) (rest := []) X (n_pass l hl0 G _ a _ _ _ _ hI _ emq_41) (cwV 1 hts gL_most_X5_pass rfl rfl rfl (by decide +kernel) ⟨Nat.le_of_ble_eq_true rfl, Nat.le_of_ble_eq_true rfl⟩) ⟨b_blind, hs_recv E w, fun U9 hU9 hW9 => ⟨rfl, hs_pre E Z9 w hm9 U9 hU9 hW9⟩⟩ rfl rfl hl.1 rfl (lv_room (Nat.le_of_ble_eq_true rfl)) dL_most_345 ⟨Nat.le_of_ble_eq_true rfl, Nat.le_of_ble_eq_true rfl⟩) hm9 (fun r i H locs hr w => ?_)
  obtain ⟨hI, hr9⟩ := hr
  refine b_tp hr9 ?_
  refine lv_bipush (v := nI 100) hx hb dL_most_348 (by decide) ?_
  refine lv_iload_n hx hb dL_most_350 rfl (lv_at hl 0 rfl) ?_
  refine lv_imul hx hb dL_most_351 ?_
  refine b_tp (show (nI 100) * (nI 4) = nI 400 from by decide) ?_
  refine lv_icmp_eq (tgt := 357) hx hb dL_most_352 (by decide) (fun c9 => ?_) (fun c9 => absurd rfl c9)
  refine lv_iinc (v := nI 5) (lv' := [(1, .int (nI 5)), (0, .ref (a 0))]) hx hb dL_most_357 hl (k := 0) rfl (by decide) (by decide) rfl (fun ls hl => ?_)
  refine lv_goto (tgt := 336) hx hb dL_most_360 (by decide) ?_
  refine lv_iload_n hx hb dL_most_336 rfl (lv_at hl 0 rfl) ?_
  refine lv_bipush (v := nI 11) hx hb dL_most_337 (by decide) ?_
  refine lv_icmp_ge (tgt := 363) hx hb dL_most_339 (by decide) (fun c9 => absurd c9 (by decide)) (fun c9 => ?_)
  refine lv_aload_n hx hb dL_most_342 rfl (lv_at hl 1 rfl) ?_
  refine lv_bipush (v := nI 100) hx hb dL_most_343 (by decide) ?_
  refine hs_calli w (va_runV (As := [.int (nI 100)]) (rest := []) X (n_pass l hl0 G _ a _ _ _ _ hI _ emq_42) (cwV 1 hts gL_most_X5_pass rfl rfl rfl (by decide +kernel) ⟨Nat.le_of_ble_eq_true rfl, Nat.le_of_ble_eq_true rfl⟩) ⟨b_blind, hs_recv E w, fun U9 hU9 hW9 => ⟨rfl, hs_pre E Z9 w hm9 U9 hU9 hW9⟩⟩ rfl rfl hl.1 rfl (lv_room (Nat.le_of_ble_eq_true rfl)) dL_most_345 ⟨Nat.le_of_ble_eq_true rfl, Nat.le_of_ble_eq_true rfl⟩) hm9 (fun r i H locs hr w => ?_)
  obtain ⟨hI, hr9⟩ := hr
  refine b_tp hr9 ?_
  refine lv_bipush (v := nI 100) hx hb dL_most_348 (by decide) ?_
  refine lv_iload_n hx hb dL_most_350 rfl (lv_at hl 0 rfl) ?_
  refine lv_imul hx hb dL_most_351 ?_
  refine b_tp (show (nI 100) * (nI 5) = nI 500 from by decide) ?_
  refine lv_icmp_eq (tgt := 357) hx hb dL_most_352 (by decide) (fun c9 => ?_) (fun c9 => absurd rfl c9)
  refine lv_iinc (v := nI 6) (lv' := [(1, .int (nI 6)), (0, .ref (a 0))]) hx hb dL_most_357 hl (k := 0) rfl (by decide) (by decide) rfl (fun ls hl => ?_)
  refine lv_goto (tgt := 336) hx hb dL_most_360 (by decide) ?_
  refine lv_iload_n hx hb dL_most_336 rfl (lv_at hl 0 rfl) ?_
  refine lv_bipush (v := nI 11) hx hb dL_most_337 (by decide) ?_
  refine lv_icmp_ge (tgt := 363) hx hb dL_most_339 (by decide) (fun c9 => absurd c9 (by decide)) (fun c9 => ?_)
  refine lv_aload_n hx hb dL_most_342 rfl (lv_at hl 1 rfl) ?_
  refine lv_bipush (v := nI 100) hx hb dL_most_343 (by decide) ?_
  refine hs_calli w (va_runV (As := [.int (nI 100)]) (rest := []) X (n_pass l hl0 G _ a _ _ _ _ hI _ emq_43) (cwV 1 hts gL_most_X5_pass rfl rfl rfl (by decide +kernel) ⟨Nat.le_of_ble_eq_true rfl, Nat.le_of_ble_eq_true rfl⟩) ⟨b_blind, hs_recv E w, fun U9 hU9 hW9 => ⟨rfl, hs_pre E Z9 w hm9 U9 hU9 hW9⟩⟩ rfl rfl hl.1 rfl (lv_room (Nat.le_of_ble_eq_true rfl)) dL_most_345 ⟨Nat.le_of_ble_eq_true rfl, Nat.le_of_ble_eq_true rfl⟩) hm9 (fun r i H locs hr w => ?_)
  obtain ⟨hI, hr9⟩ := hr
  refine b_tp hr9 ?_
  refine lv_bipush (v := nI 100) hx hb dL_most_348 (by decide) ?_
  refine lv_iload_n hx hb dL_most_350 rfl (lv_at hl 0 rfl) ?_
  refine lv_imul hx hb dL_most_351 ?_
  refine b_tp (show (nI 100) * (nI 6) = nI 600 from by decide) ?_
  refine lv_icmp_eq (tgt := 357) hx hb dL_most_352 (by decide) (fun c9 => ?_) (fun c9 => absurd rfl c9)
  refine lv_iinc (v := nI 7) (lv' := [(1, .int (nI 7)), (0, .ref (a 0))]) hx hb dL_most_357 hl (k := 0) rfl (by decide) (by decide) rfl (fun ls hl => ?_)
  refine lv_goto (tgt := 336) hx hb dL_most_360 (by decide) ?_
  refine lv_iload_n hx hb dL_most_336 rfl (lv_at hl 0 rfl) ?_
  refine lv_bipush (v := nI 11) hx hb dL_most_337 (by decide) ?_
  refine lv_icmp_ge (tgt := 363) hx hb dL_most_339 (by decide) (fun c9 => absurd c9 (by decide)) (fun c9 => ?_)
  refine lv_aload_n hx hb dL_most_342 rfl (lv_at hl 1 rfl) ?_
  refine lv_bipush (v := nI 100) hx hb dL_most_343 (by decide) ?_
  refine hs_calli w (va_runV (As := [.int (nI 100)]) (rest := []) X (n_pass l hl0 G _ a _ _ _ _ hI _ emq_44) (cwV 1 hts gL_most_X5_pass rfl rfl rfl (by decide +kernel) ⟨Nat.le_of_ble_eq_true rfl, Nat.le_of_ble_eq_true rfl⟩) ⟨b_blind, hs_recv E w, fun U9 hU9 hW9 => ⟨rfl, hs_pre E Z9 w hm9 U9 hU9 hW9⟩⟩ rfl rfl hl.1 rfl (lv_room (Nat.le_of_ble_eq_true rfl)) dL_most_345 ⟨Nat.le_of_ble_eq_true rfl, Nat.le_of_ble_eq_true rfl⟩) hm9 (fun r i H locs hr w => ?_)
  obtain ⟨hI, hr9⟩ := hr
  refine b_tp hr9 ?_
  refine lv_bipush (v := nI 100) hx hb dL_most_348 (by decide) ?_
  refine lv_iload_n hx hb dL_most_350 rfl (lv_at hl 0 rfl) ?_
  refine lv_imul hx hb dL_most_351 ?_
  refine b_tp (show (nI 100) * (nI 7) = nI 700 from by decide) ?_
  refine lv_icmp_eq (tgt := 357) hx hb dL_most_352 (by decide) (fun c9 => ?_) (fun c9 => absurd rfl c9)
  refine lv_iinc (v := nI 8) (lv' := [(1, .int (nI 8)), (0, .ref (a 0))]) hx hb dL_most_357 hl (k := 0) rfl (by decide) (by decide) rfl (fun ls hl => ?_)
  refine lv_goto (tgt := 336) hx hb dL_most_360 (by decide) ?_
  refine lv_iload_n hx hb dL_most_336 rfl (lv_at hl 0 rfl) ?_
  refine lv_bipush (v := nI 11) hx hb dL_most_337 (by decide) ?_
  refine lv_icmp_ge (tgt := 363) hx hb dL_most_339 (by decide) (fun c9 => absurd c9 (by decide)) (fun c9 => ?_)
  refine lv_aload_n hx hb dL_most_342 rfl (lv_at hl 1 rfl) ?_
  refine lv_bipush (v := nI 100) hx hb dL_most_343 (by decide) ?_
  refine hs_calli w (va_runV (As := [.int (nI 100)]) (rest := []) X (n_pass l hl0 G _ a _ _ _ _ hI _ emq_45) (cwV 1 hts gL_most_X5_pass rfl rfl rfl (by decide +kernel) ⟨Nat.le_of_ble_eq_true rfl, Nat.le_of_ble_eq_true rfl⟩) ⟨b_blind, hs_recv E w, fun U9 hU9 hW9 => ⟨rfl, hs_pre E Z9 w hm9 U9 hU9 hW9⟩⟩ rfl rfl hl.1 rfl (lv_room (Nat.le_of_ble_eq_true rfl)) dL_most_345 ⟨Nat.le_of_ble_eq_true rfl, Nat.le_of_ble_eq_true rfl⟩) hm9 (fun r i H locs hr w => ?_)
  obtain ⟨hI, hr9⟩ := hr
  refine b_tp hr9 ?_
  refine lv_bipush (v := nI 100) hx hb dL_most_348 (by decide) ?_
  refine lv_iload_n hx hb dL_most_350 rfl (lv_at hl 0 rfl) ?_
  refine lv_imul hx hb dL_most_351 ?_
  refine b_tp (show (nI 100) * (nI 8) = nI 800 from by decide) ?_
  refine lv_icmp_eq (tgt := 357) hx hb dL_most_352 (by decide) (fun c9 => ?_) (fun c9 => absurd rfl c9)
  exact kk i _ _ _ hI w (lv_sub hl [1, 0] rfl)
set_option maxHeartbeats 4000000 in
set_option maxRecDepth 100000 in
theorem c_most (l : Launch) (hl0 : l.stackTraces = false) (G : bG) (sz : Nat)  : Met l yL_most wsL_most ({ frames := 10, cells := 1128, slots := 16467, locals := 237 }) (va_Pc [] (bPre G vwCl bNW bSW sz [] [])) (va_Qi (fun (r : Int32) (_ : Unit) => r = nI 1) (fun (_ : Unit) (tS : State) => va_P G.1 vwCl [] tS.heap) (Aw [] sz)) 1128 16467 (Aw [] sz) := by
  refine Met.ofW (cc := cL_most) (maxL := 3) (ret := (some .boolean)) (by decide) rfl ?_
  intro p e s m args below meth c s₁ B hml hv
  obtain ⟨rfl, hsz, hP, hD, E, Z⟩ := hv
  have hts := atoms_spec (ws := wsL_most) B.pre
  have hown : s.vm.findClass RL = some m.cls := findClass_of_methodNamed B.named
  have X : CallFix p m c cL_most 3 s _ wsL_most RL := ⟨B.exec, B.bytes, hml, hown, hts⟩
  have hx := B.exec
  have hb := B.bytes
  have hr0 := B.returns
  have hlocks := B.notSynchronized
  have hts2 : ∀ w, w ∈ wsL_most → w ∈ wsL_most := fun _ h9 => h9
  subst hsz
  have w : bSt G vwCl [] s [] s.heap [] := ⟨hP, va_S.rf, hD⟩
  have Z9 : bZ [] s := Z
  have hl := lv_entry ([]) (n := 3) (Nat.le_of_ble_eq_true rfl)
  rw [lg_entry_eq]
  generalize (lg_sl ([]) ++ List.replicate (3 - (lg_sl ([])).length) Slot.unset).toArray = ls at hl ⊢
  have hl : lv_has ls 3 [] := hl
  have iX5 : ∀ w ∈ wsX50, w ∈ wsL_most := by decide +kernel
  have Z0 := Z9
  refine b_new X E w (fs := [.null, .null, .null, .null, .null, .null, .null, .null, .int (nI 0), .int (nI 0), .int (nI 0)]) (ci := 5) iX5 tyX5 tyX5_ok (hts2 (.classLink RL 8 RX5) (by decide +kernel)) (hts2 (.instantiable RX5 11) (by decide +kernel)) (hts2 (.initialized RX5) (by decide +kernel)) rfl (by decide) (Nat.le_of_ble_eq_true rfl) (Nat.le_of_ble_eq_true rfl) dL_most_0 (fun q0 H hq0 w => ?_)
  have w : bSt G vwCl [] s [(q0, .inr (5, [.null, .null, .null, .null, .null, .null, .null, .null, .int (nI 0), .int (nI 0), .int (nI 0)]))] _ _ := w
  refine lv_dup hx hb dL_most_3 rfl ?_
  refine b_callc w (va_runI (As := []) (rest := [.ref q0]) X (c_X5_init l hl0 G _ (h := q0)) (cwI 0 hts gL_most_X5_init rfl rfl rfl (hts (.initialized RX5) (by decide +kernel)) (hts (.methodLink RL 86 yX5_init) (by decide +kernel)) (hts (.instanceMethod yX5_init) (by decide +kernel)) rfl (by decide +kernel) ⟨Nat.le_of_ble_eq_true rfl, Nat.le_of_ble_eq_true rfl⟩) ⟨b_blind, fun U9 hU9 hW9 => ⟨rfl, b_pre E Z0 w [0] (by decide) rfl (b_inc (Or.inr hq0) b_inn) U9 hU9 hW9⟩⟩ rfl rfl hl.1 rfl (lv_room (Nat.le_of_ble_eq_true rfl)) dL_most_4 ⟨Nat.le_of_ble_eq_true rfl, Nat.le_of_ble_eq_true rfl⟩) (Or.inr hq0) 0 (fun _ => rfl) rfl (fun u4 H locs _ hnu4 w => ?_)
  have w : bSt G vwCl [] s [(q0, .inr (5, [.ref (u4 0), .ref (u4 2), .ref (u4 4), .ref (u4 6), .ref (u4 11), .ref (u4 19), .ref (u4 22), .ref (u4 23), .int (nI 0), .int (nI 0), .int (nI 0)])), ((u4 0), .inr (4, [.ref (u4 1), .int (nI 10), .int (nI 0)])), ((u4 1), .inl (G.2.1, 14, .inl (fun _ => 0))), ((u4 2), .inr (4, [.ref (u4 3), .int (nI 1), .int (nI 0)])), ((u4 3), .inl (G.2.1, 10, .inl (fun _ => 0))), ((u4 4), .inr (0, [.ref (u4 5)])), ((u4 5), .inl (G.2.2.1, 56, .inl (zB (fun _ => false)))), ((u4 6), .inr (2, [.ref (u4 7), .ref (u4 8), .ref (u4 9), .ref (u4 10), .int (nI 0)])), ((u4 7), .inl (G.2.1, 16, .inl (fun _ => 0))), ((u4 8), .inl (G.2.1, 16, .inl (fun _ => 0))), ((u4 9), .inl (G.2.1, 16, .inl (fun _ => 0))), ((u4 10), .inl (G.2.1, 16, .inl (fun _ => 0))), ((u4 11), .inr (1, [.ref (u4 12), .ref (u4 13), .ref (u4 14), .ref (u4 15), .ref (u4 16), .ref (u4 17), .ref (u4 18), .int (nI 0)])), ((u4 12), .inl (G.2.1, 1680, .inl (fillF (fun _ => 0) MIS 1680))), ((u4 13), .inl (G.2.1, 1680, .inl (fillF (fun _ => 0) MIS 1680))), ((u4 14), .inl (G.2.1, 1680, .inl (fun _ => 0))), ((u4 15), .inl (G.2.1, 1680, .inl (fun _ => 0))), ((u4 16), .inl (G.2.1, 300, .inl (fun _ => 0))), ((u4 17), .inl (G.2.1, 300, .inl (fun _ => 0))), ((u4 18), .inl (G.2.1, 300, .inl (fun _ => 0))), ((u4 19), .inr (3, [.ref (u4 20), .ref (u4 21)])), ((u4 20), .inl (G.2.1, 140, .inl (fun _ => 0))), ((u4 21), .inl (G.2.2.1, 140, .inl (zB (fun _ => false)))), ((u4 22), .inl (G.2.2.1, 1680, .inl (zB (fun _ => false)))), ((u4 23), .inl (G.2.1, 16, .inl (fun _ => 0)))] _ _ := w
  refine lv_astore_n (lv' := [(0, .ref q0)]) hx hb dL_most_7 rfl hl (by decide) rfl (fun ls hl => ?_)
  have h5 : ∀ k, k < 24 → s.heap.size ≤ u4 k := fun k hk => hnu4 _ (List.mem_of_getElem? (i := k) (by rcases (show k = 0 ∨ k = 1 ∨ k = 2 ∨ k = 3 ∨ k = 4 ∨ k = 5 ∨ k = 6 ∨ k = 7 ∨ k = 8 ∨ k = 9 ∨ k = 10 ∨ k = 11 ∨ k = 12 ∨ k = 13 ∨ k = 14 ∨ k = 15 ∨ k = 16 ∨ k = 17 ∨ k = 18 ∨ k = 19 ∨ k = 20 ∨ k = 21 ∨ k = 22 ∨ k = 23 by omega) with rfl | rfl | rfl | rfl | rfl | rfl | rfl | rfl | rfl | rfl | rfl | rfl | rfl | rfl | rfl | rfl | rfl | rfl | rfl | rfl | rfl | rfl | rfl | rfl <;> rfl))
  have hm9 : ∀ z ∈ hs_M (hs_ad q0 u4), Aw [] s.heap.size z := hs_new hq0 h5
  have w : bSt G vwCl [] s (hs_W G (hs_ad q0 u4) hs_e0 hs_i0) _ _ := w
  have hI := hs_inv0
  have hl : lv_has ls 3 [(0, .ref (hs_ad q0 u4 0))] := hl
  obtain ⟨a, ha9⟩ : ∃ a, a = hs_ad q0 u4 := ⟨_, rfl⟩
  rw [← ha9] at hm9 w hl
  refine sg_most_0 hl0 X E Z9 hm9 hI w hl (fun i H locs ls hI w hl => ?_)
  refine sg_most_1 hl0 X E Z9 hm9 hI w hl (fun i H locs ls hI w hl => ?_)
  refine sg_most_loop hl0 X E Z9 hm9 19 0 _ _ _ _ _ _ rfl (Nat.le_of_ble_eq_true rfl) (Nat.le_of_ble_eq_true rfl) hI w hl (fun i H locs ls hI w hl => ?_)
  rw [em_Leq] at hI w
  refine sg_most_100 hl0 X E Z9 hm9 hI w hl (fun i H locs ls hI w hl => ?_)
  refine lv_iinc (v := nI 9) (lv' := [(1, .int (nI 9)), (0, .ref (a 0))]) hx hb dL_most_357 hl (k := 1) rfl (by decide) (by decide) rfl (fun ls hl => ?_)
  refine lv_goto (tgt := 336) hx hb dL_most_360 (by decide) ?_
  refine lv_iload_n hx hb dL_most_336 rfl (lv_at hl 0 rfl) ?_
  refine lv_bipush (v := nI 11) hx hb dL_most_337 (by decide) ?_
  refine lv_icmp_ge (tgt := 363) hx hb dL_most_339 (by decide) (fun c9 => absurd c9 (by decide)) (fun c9 => ?_)
  refine lv_aload_n hx hb dL_most_342 rfl (lv_at hl 1 rfl) ?_
  refine lv_bipush (v := nI 100) hx hb dL_most_343 (by decide) ?_
  refine hs_calli w (va_runV (As := [.int (nI 100)]) (rest := []) X (n_pass l hl0 G _ a _ _ _ _ hI _ emq_46) (cwV 1 hts gL_most_X5_pass rfl rfl rfl (by decide +kernel) ⟨Nat.le_of_ble_eq_true rfl, Nat.le_of_ble_eq_true rfl⟩) ⟨b_blind, hs_recv E w, fun U9 hU9 hW9 => ⟨rfl, hs_pre E Z9 w hm9 U9 hU9 hW9⟩⟩ rfl rfl hl.1 rfl (lv_room (Nat.le_of_ble_eq_true rfl)) dL_most_345 ⟨Nat.le_of_ble_eq_true rfl, Nat.le_of_ble_eq_true rfl⟩) hm9 (fun r i H locs hr w => ?_)
  obtain ⟨hI, hr9⟩ := hr
  refine b_tp hr9 ?_
  refine lv_bipush (v := nI 100) hx hb dL_most_348 (by decide) ?_
  refine lv_iload_n hx hb dL_most_350 rfl (lv_at hl 0 rfl) ?_
  refine lv_imul hx hb dL_most_351 ?_
  refine b_tp (show (nI 100) * (nI 9) = nI 900 from by decide) ?_
  refine lv_icmp_eq (tgt := 357) hx hb dL_most_352 (by decide) (fun c9 => ?_) (fun c9 => absurd rfl c9)
  refine lv_iinc (v := nI 10) (lv' := [(1, .int (nI 10)), (0, .ref (a 0))]) hx hb dL_most_357 hl (k := 0) rfl (by decide) (by decide) rfl (fun ls hl => ?_)
  refine lv_goto (tgt := 336) hx hb dL_most_360 (by decide) ?_
  refine lv_iload_n hx hb dL_most_336 rfl (lv_at hl 0 rfl) ?_
  refine lv_bipush (v := nI 11) hx hb dL_most_337 (by decide) ?_
  refine lv_icmp_ge (tgt := 363) hx hb dL_most_339 (by decide) (fun c9 => absurd c9 (by decide)) (fun c9 => ?_)
  refine lv_aload_n hx hb dL_most_342 rfl (lv_at hl 1 rfl) ?_
  refine lv_bipush (v := nI 100) hx hb dL_most_343 (by decide) ?_
  refine hs_calli w (va_runV (As := [.int (nI 100)]) (rest := []) X (n_pass l hl0 G _ a _ _ _ _ hI _ emq_47) (cwV 1 hts gL_most_X5_pass rfl rfl rfl (by decide +kernel) ⟨Nat.le_of_ble_eq_true rfl, Nat.le_of_ble_eq_true rfl⟩) ⟨b_blind, hs_recv E w, fun U9 hU9 hW9 => ⟨rfl, hs_pre E Z9 w hm9 U9 hU9 hW9⟩⟩ rfl rfl hl.1 rfl (lv_room (Nat.le_of_ble_eq_true rfl)) dL_most_345 ⟨Nat.le_of_ble_eq_true rfl, Nat.le_of_ble_eq_true rfl⟩) hm9 (fun r i H locs hr w => ?_)
  obtain ⟨hI, hr9⟩ := hr
  refine b_tp hr9 ?_
  refine lv_bipush (v := nI 100) hx hb dL_most_348 (by decide) ?_
  refine lv_iload_n hx hb dL_most_350 rfl (lv_at hl 0 rfl) ?_
  refine lv_imul hx hb dL_most_351 ?_
  refine b_tp (show (nI 100) * (nI 10) = nI 1000 from by decide) ?_
  refine lv_icmp_eq (tgt := 357) hx hb dL_most_352 (by decide) (fun c9 => ?_) (fun c9 => absurd rfl c9)
  refine lv_iinc (v := nI 11) (lv' := [(1, .int (nI 11)), (0, .ref (a 0))]) hx hb dL_most_357 hl (k := 0) rfl (by decide) (by decide) rfl (fun ls hl => ?_)
  refine lv_goto (tgt := 336) hx hb dL_most_360 (by decide) ?_
  refine lv_iload_n hx hb dL_most_336 rfl (lv_at hl 0 rfl) ?_
  refine lv_bipush (v := nI 11) hx hb dL_most_337 (by decide) ?_
  refine lv_icmp_ge (tgt := 363) hx hb dL_most_339 (by decide) (fun c9 => ?_) (fun c9 => absurd (by decide) c9)
  refine lv_aload_n hx hb dL_most_363 rfl (lv_at hl 1 rfl) ?_
  refine lv_bipush (v := nI 7) hx hb dL_most_364 (by decide) ?_
  refine lv_iconst (v := nI 1) hx hb dL_most_366 (by decide) ?_
  refine lv_iconst (v := nI 0) hx hb dL_most_367 (by decide) ?_
  refine lv_iconst (v := nI 0) hx hb dL_most_368 (by decide) ?_
  refine lv_iconst (v := nI 0) hx hb dL_most_369 (by decide) ?_
  refine lv_iconst (v := nI 0) hx hb dL_most_370 (by decide) ?_
  refine hs_calli w (vx_runSW (As := [.ref (a 0), .int (nI 7), .int (nI 1), .int (nI 0), .int (nI 0), .int (nI 0), .int (nI 0)]) (rest := []) X (aF_pass l hl0 G _ a _ _ hI (nI 1) (nI 0) (nI 0) (nI 0) (nI 0) 3 emq_48 (by decide)) (vx_cwSW 7 hts gL_most_L_act rfl rfl rfl (by decide +kernel) ⟨Nat.le_of_ble_eq_true rfl, Nat.le_of_ble_eq_true rfl⟩) ⟨b_blind, fun U9 hU9 hW9 => ⟨rfl, hs_pre E Z9 w hm9 U9 hU9 hW9⟩⟩ rfl rfl hl.1 rfl (lv_room (Nat.le_of_ble_eq_true rfl)) dL_most_371 ⟨Nat.le_of_ble_eq_true rfl, Nat.le_of_ble_eq_true rfl⟩) hm9 (fun r i H locs hr w => ?_)
  obtain ⟨hI, hr9⟩ := hr
  refine b_tp (hr9.trans (show hs_r 3 = -73 from by decide)) ?_
  refine lv_bipush (v := -73) hx hb dL_most_374 (by decide) ?_
  refine lv_icmp_ne (tgt := 487) hx hb dL_most_376 (by decide) (fun c9 => absurd rfl c9) (fun c9 => ?_)
  refine lv_aload_n hx hb dL_most_379 rfl (lv_at hl 1 rfl) ?_
  refine lv_iconst (v := nI 3) hx hb dL_most_380 (by decide) ?_
  refine lv_iconst (v := nI 2) hx hb dL_most_381 (by decide) ?_
  refine lv_iconst (v := nI 0) hx hb dL_most_382 (by decide) ?_
  refine lv_iconst (v := nI 0) hx hb dL_most_383 (by decide) ?_
  refine hs_calli w (va_runV (As := [.int (nI 3), .int (nI 2), .int (nI 0), .int (nI 0)]) (rest := []) X (n_value l hl0 G _ a _ _ _ _ hI _ _ _ _ emq_49) (cwV 4 hts gL_most_X5_value rfl rfl rfl (by decide +kernel) ⟨Nat.le_of_ble_eq_true rfl, Nat.le_of_ble_eq_true rfl⟩) ⟨b_blind, hs_recv E w, fun U9 hU9 hW9 => ⟨rfl, hs_pre E Z9 w hm9 U9 hU9 hW9⟩⟩ rfl rfl hl.1 rfl (lv_room (Nat.le_of_ble_eq_true rfl)) dL_most_384 ⟨Nat.le_of_ble_eq_true rfl, Nat.le_of_ble_eq_true rfl⟩) hm9 (fun r i H locs hr w => ?_)
  obtain ⟨hI, hr9, -⟩ := hr
  refine b_tp hr9 ?_
  refine lv_ldc (v := 1000000) hx hb hown (hts (.constant RL 109 (1000000)) (by decide +kernel)) dL_most_387 ?_
  refine lv_icmp_ne (tgt := 487) hx hb dL_most_389 (by decide) (fun c9 => absurd rfl c9) (fun c9 => ?_)
  refine lv_aload_n hx hb dL_most_392 rfl (lv_at hl 1 rfl) ?_
  refine lv_iconst (v := nI 3) hx hb dL_most_393 (by decide) ?_
  refine lv_iconst (v := nI 2) hx hb dL_most_394 (by decide) ?_
  refine lv_iconst (v := nI 0) hx hb dL_most_395 (by decide) ?_
  refine lv_sipush (v := nI 1000) hx hb dL_most_396 (by decide) ?_
  refine hs_calli w (va_runV (As := [.int (nI 3), .int (nI 2), .int (nI 0), .int (nI 1000)]) (rest := []) X (n_value l hl0 G _ a _ _ _ _ hI _ _ _ _ emq_50) (cwV 4 hts gL_most_X5_value rfl rfl rfl (by decide +kernel) ⟨Nat.le_of_ble_eq_true rfl, Nat.le_of_ble_eq_true rfl⟩) ⟨b_blind, hs_recv E w, fun U9 hU9 hW9 => ⟨rfl, hs_pre E Z9 w hm9 U9 hU9 hW9⟩⟩ rfl rfl hl.1 rfl (lv_room (Nat.le_of_ble_eq_true rfl)) dL_most_399 ⟨Nat.le_of_ble_eq_true rfl, Nat.le_of_ble_eq_true rfl⟩) hm9 (fun r i H locs hr w => ?_)
  obtain ⟨hI, hr9, -⟩ := hr
  refine b_tp hr9 ?_
  refine lv_ldc (v := 1000000) hx hb hown (hts (.constant RL 109 (1000000)) (by decide +kernel)) dL_most_402 ?_
  refine lv_icmp_ne (tgt := 487) hx hb dL_most_404 (by decide) (fun c9 => absurd rfl c9) (fun c9 => ?_)
  refine lv_aload_n hx hb dL_most_407 rfl (lv_at hl 1 rfl) ?_
  refine lv_iconst (v := -1) hx hb dL_most_408 (by decide) ?_
  refine lv_iconst (v := -1) hx hb dL_most_409 (by decide) ?_
  refine lv_iconst (v := nI 0) hx hb dL_most_410 (by decide) ?_
  refine lv_bipush (v := nI 11) hx hb dL_most_411 (by decide) ?_
  refine lv_iconst (v := nI 0) hx hb dL_most_413 (by decide) ?_
  refine lv_bipush (v := nI 11) hx hb dL_most_414 (by decide) ?_
  refine hs_calli w (vx_runSW (As := [.ref (a 0), .int (-1), .int (-1), .int (nI 0), .int (nI 11), .int (nI 0), .int (nI 11)]) (rest := []) X (fS l hl0 G _ a _ _ hI _ _ _ _ _ _  _ emq_51) (vx_cwSW 7 hts gL_most_L_find rfl rfl rfl (by decide +kernel) ⟨Nat.le_of_ble_eq_true rfl, Nat.le_of_ble_eq_true rfl⟩) ⟨b_blind, fun U9 hU9 hW9 => ⟨rfl, hs_pre E Z9 w hm9 U9 hU9 hW9⟩⟩ rfl rfl hl.1 rfl (lv_room (Nat.le_of_ble_eq_true rfl)) dL_most_416 ⟨Nat.le_of_ble_eq_true rfl, Nat.le_of_ble_eq_true rfl⟩) hm9 (fun r i H locs hr w => ?_)
  obtain ⟨hI, hr9⟩ := hr
  refine b_tp hr9 ?_
  refine lv_sipush (v := nI 11269) hx hb dL_most_419 (by decide) ?_
  refine lv_icmp_ne (tgt := 487) hx hb dL_most_422 (by decide) (fun c9 => absurd rfl c9) (fun c9 => ?_)
  refine lv_aload_n hx hb dL_most_425 rfl (lv_at hl 1 rfl) ?_
  refine lv_iconst (v := -1) hx hb dL_most_426 (by decide) ?_
  refine lv_iconst (v := -1) hx hb dL_most_427 (by decide) ?_
  refine lv_iconst (v := nI 0) hx hb dL_most_428 (by decide) ?_
  refine lv_bipush (v := nI 11) hx hb dL_most_429 (by decide) ?_
  refine lv_iconst (v := nI 0) hx hb dL_most_431 (by decide) ?_
  refine lv_bipush (v := nI 12) hx hb dL_most_432 (by decide) ?_
  refine hs_calli w (vx_runSW (As := [.ref (a 0), .int (-1), .int (-1), .int (nI 0), .int (nI 11), .int (nI 0), .int (nI 12)]) (rest := []) X (fS l hl0 G _ a _ _ hI _ _ _ _ _ _  _ emq_52) (vx_cwSW 7 hts gL_most_L_find rfl rfl rfl (by decide +kernel) ⟨Nat.le_of_ble_eq_true rfl, Nat.le_of_ble_eq_true rfl⟩) ⟨b_blind, fun U9 hU9 hW9 => ⟨rfl, hs_pre E Z9 w hm9 U9 hU9 hW9⟩⟩ rfl rfl hl.1 rfl (lv_room (Nat.le_of_ble_eq_true rfl)) dL_most_434 ⟨Nat.le_of_ble_eq_true rfl, Nat.le_of_ble_eq_true rfl⟩) hm9 (fun r i H locs hr w => ?_)
  obtain ⟨hI, hr9⟩ := hr
  refine b_tp hr9 ?_
  refine lv_iconst (v := -1) hx hb dL_most_437 (by decide) ?_
  refine lv_icmp_ne (tgt := 487) hx hb dL_most_438 (by decide) (fun c9 => absurd rfl c9) (fun c9 => ?_)
  refine lv_aload_n hx hb dL_most_441 rfl (lv_at hl 1 rfl) ?_
  refine lv_iconst (v := -1) hx hb dL_most_442 (by decide) ?_
  refine lv_iconst (v := -1) hx hb dL_most_443 (by decide) ?_
  refine lv_iconst (v := nI 0) hx hb dL_most_444 (by decide) ?_
  refine lv_bipush (v := nI 11) hx hb dL_most_445 (by decide) ?_
  refine lv_iconst (v := nI 1) hx hb dL_most_447 (by decide) ?_
  refine lv_iconst (v := nI 0) hx hb dL_most_448 (by decide) ?_
  refine hs_calli w (vx_runSW (As := [.ref (a 0), .int (-1), .int (-1), .int (nI 0), .int (nI 11), .int (nI 1), .int (nI 0)]) (rest := []) X (fS l hl0 G _ a _ _ hI _ _ _ _ _ _  _ emq_53) (vx_cwSW 7 hts gL_most_L_find rfl rfl rfl (by decide +kernel) ⟨Nat.le_of_ble_eq_true rfl, Nat.le_of_ble_eq_true rfl⟩) ⟨b_blind, fun U9 hU9 hW9 => ⟨rfl, hs_pre E Z9 w hm9 U9 hU9 hW9⟩⟩ rfl rfl hl.1 rfl (lv_room (Nat.le_of_ble_eq_true rfl)) dL_most_449 ⟨Nat.le_of_ble_eq_true rfl, Nat.le_of_ble_eq_true rfl⟩) hm9 (fun r i H locs hr w => ?_)
  obtain ⟨hI, hr9⟩ := hr
  refine b_tp hr9 ?_
  refine lv_iconst (v := -1) hx hb dL_most_452 (by decide) ?_
  refine lv_icmp_ne (tgt := 487) hx hb dL_most_453 (by decide) (fun c9 => absurd rfl c9) (fun c9 => ?_)
  refine lv_aload_n hx hb dL_most_456 rfl (lv_at hl 1 rfl) ?_
  refine lv_bipush (v := nI 13) hx hb dL_most_457 (by decide) ?_
  refine lv_bipush (v := nI 9) hx hb dL_most_459 (by decide) ?_
  refine lv_iconst (v := nI 4) hx hb dL_most_461 (by decide) ?_
  refine hs_calli w (va_runV (As := [.int (nI 13), .int (nI 9), .int (nI 4)]) (rest := []) X (n_revisions l hl0 G _ a _ _ _ _ hI _ _ _ emq_54) (cwV 3 hts gL_most_X5_revisions rfl rfl rfl (by decide +kernel) ⟨Nat.le_of_ble_eq_true rfl, Nat.le_of_ble_eq_true rfl⟩) ⟨b_blind, hs_recv E w, fun U9 hU9 hW9 => ⟨rfl, hs_pre E Z9 w hm9 U9 hU9 hW9⟩⟩ rfl rfl hl.1 rfl (lv_room (Nat.le_of_ble_eq_true rfl)) dL_most_462 ⟨Nat.le_of_ble_eq_true rfl, Nat.le_of_ble_eq_true rfl⟩) hm9 (fun r i H locs hr w => ?_)
  obtain ⟨hI, hr9⟩ := hr
  refine b_tp hr9 ?_
  refine lv_iconst (v := nI 1) hx hb dL_most_465 (by decide) ?_
  refine lv_icmp_ne (tgt := 487) hx hb dL_most_466 (by decide) (fun c9 => absurd rfl c9) (fun c9 => ?_)
  refine lv_aload_n hx hb dL_most_469 rfl (lv_at hl 1 rfl) ?_
  refine lv_bipush (v := nI 14) hx hb dL_most_470 (by decide) ?_
  refine lv_bipush (v := nI 10) hx hb dL_most_472 (by decide) ?_
  refine lv_sipush (v := nI 1000) hx hb dL_most_474 (by decide) ?_
  refine hs_calli w (va_runS (As := [.ref (a 0), .int (nI 14), .int (nI 10), .int (nI 1000)]) (rest := []) X (c_refuses l hl0 G _ a _ _ hI 14 10 1000 emq_55) (va_cwS 4 hts gL_most_L_refuses rfl rfl rfl (by decide +kernel) ⟨Nat.le_of_ble_eq_true rfl, Nat.le_of_ble_eq_true rfl⟩) ⟨b_blind, fun U9 hU9 hW9 => ⟨rfl, hs_pre E Z9 w hm9 U9 hU9 hW9⟩⟩ rfl rfl hl.1 rfl (lv_room (Nat.le_of_ble_eq_true rfl)) dL_most_477 ⟨Nat.le_of_ble_eq_true rfl, Nat.le_of_ble_eq_true rfl⟩) hm9 (fun r i H locs hr w => ?_)
  obtain ⟨hI, hr9⟩ := hr
  refine b_tp hr9 ?_
  refine lv_if_eq (tgt := 487) hx hb dL_most_480 (by decide) (fun c9 => absurd c9 (by decide)) (fun c9 => ?_)
  refine lv_iconst (v := nI 1) hx hb dL_most_483 (by decide) ?_
  refine lv_goto (tgt := 488) hx hb dL_most_484 (by decide) ?_
  exact W.zret (v := nI 1) hx hb hr0 rfl (fun t9 ht9 hW9 => ⟨⟨nI 1, (), rfl, rfl, (fun k q h => by simp at h)⟩, w.2.1.F ht9⟩) w.2.1.2.2 dL_most_488
