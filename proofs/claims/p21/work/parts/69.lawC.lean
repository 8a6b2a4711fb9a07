set_option maxHeartbeats 4000000 in
set_option maxRecDepth 100000 in
theorem lp_cell {p : Program} {l : Launch} (hl0 : l.stackTraces = false) {e : Env} {s : State} {m : MethodId} {below : List Frame} {meth : Method} {c : Code} {G : bG} {b : Nat} {Q : State → Prop} (X : CallFix p m c cL_law 16 s #[Value.ref b] wsL_law RL) (E : bE G vwCl bNW bSW s) {a : Nat → Nat} (Z9 : bZ [] s) (hm9 : ∀ q ∈ hs_M a, Aw [] s.heap.size q) {x : hs_E} {k y h A9 j : Nat} {al : Bool} (hL : hs_L x) (hA9 : A9 < hs_nA x) (hj : j < hs_nJ x) {i : hs_I} {H : Heap} {locs : List Loc} {ls : Array Slot} {cells slots : Nat} (hc : cells ≤ 500000) (hs : slots ≤ 7000000) (hI : hs_Inv x i) (w : bSt G vwCl [] s (hs_W G a x i) H locs) (hl : lv_has ls 16 [(0, .ref b), (1, .ref (a 0)), (2, .int (nI (hs_nA x))), (3, .int (nI (hs_nJ x))), (4, .int (nI (hs_td x))), (5, .int (nI k)), (8, .int (nI y)), (10, .int (bI al)), (11, .int (nI h)), (12, .int (nI A9)), (13, .int (nI j))]) 
    (kk : ∀ (h' : Nat) (i : hs_I) (H : Heap) (locs : List Loc) (ls : Array Slot), h' = h + b1 (hs_H x 5 (10 * A9 + j)) → hs_Fx x 5 (nI (hs_td x)) → hs_Inv x i → bSt G vwCl [] s (hs_W G a x i) H locs → lv_has ls 16 [(0, .ref b), (1, .ref (a 0)), (2, .int (nI (hs_nA x))), (3, .int (nI (hs_nJ x))), (4, .int (nI (hs_td x))), (5, .int (nI k)), (8, .int (nI y)), (10, .int (bI al)), (11, .int (nI h')), (12, .int (nI A9)), (13, .int (nI j))] → W p l e room_1 s m #[Value.ref b] below meth c H locs (cells + 3) (slots + 18) Q (F0 m 750 ls [])) : W p l e room_1 s m #[Value.ref b] below meth c H locs cells slots Q (F0 m 686 ls []) := by
  have hx := X.1
  have hb := X.2.1
  have hml := X.2.2.1
  have hown := X.2.2.2.1
  have hts := X.2.2.2.2
  obtain ⟨⟨hnA, hnJ, hTA, hTJ, htd, hst, hbs, hjd, hdn⟩, hbk, hdr, hK⟩ := id hI
  cases hB : hs_H x 5 (10 * A9 + j)
  · refine lv_aload_n hx hb dL_law_686 rfl (lv_at hl 1 rfl) ?_
    refine lv_iload hx hb dL_law_687 (lv_at hl 9 rfl) ?_
    refine lv_iload hx hb dL_law_689 (lv_at hl 10 rfl) ?_
    refine lv_iconst (v := nI 5) hx hb dL_law_691 (by decide) ?_
    refine hs_calli w (va_runV (As := [.int (nI A9), .int (nI j), .int (nI 5)]) (rest := []) X (n_shown l hl0 G _ a _ _ _ _ hI (nI A9) (nI j) (nI 5) ⟨la_cell hA9 hj hnA hnJ, rfl, la_sh0 (by omega) (by omega) hB⟩) (cwV 3 hts gL_law_X5_shown rfl rfl rfl (by decide +kernel) ⟨Nat.le_of_ble_eq_true rfl, Nat.le_of_ble_eq_true rfl⟩) ⟨b_blind, hs_recv E w, fun U9 hU9 hW9 => ⟨rfl, hs_pre E Z9 w hm9 U9 hU9 hW9⟩⟩ rfl rfl hl.1 rfl (lv_room (Nat.le_of_ble_eq_true rfl)) dL_law_692 ⟨by show _ ≤ 600074; omega, by show _ ≤ 7301550; omega⟩) hm9 (fun r i H locs hr w => ?_)
    obtain ⟨hI, hr9, hFx⟩ := hr
    have hF5 : hs_Fx x 5 (nI (hs_td x)) := by have h9 := hFx; rw [la_cl5] at h9; exact h9
    have hu : ¬ hs_V x 5 (nI (hs_td x)) (10 * A9 + j) = HID := hs_nH hI hL hF5 hA9 hj
    refine b_tp hr9 ?_
    refine lv_istore (lv' := [(14, .int (hs_V x 5 (nI (hs_td x)) (10 * A9 + j))), (0, .ref b), (1, .ref (a 0)), (2, .int (nI (hs_nA x))), (3, .int (nI (hs_nJ x))), (4, .int (nI (hs_td x))), (5, .int (nI k)), (8, .int (nI y)), (10, .int (bI al)), (11, .int (nI h)), (12, .int (nI A9)), (13, .int (nI j))]) hx hb dL_law_695 hl (by decide) rfl (fun ls hl => ?_)
    refine lv_aload_n hx hb dL_law_697 rfl (lv_at hl 2 rfl) ?_
    refine lv_iload hx hb dL_law_698 (lv_at hl 10 rfl) ?_
    refine lv_iload hx hb dL_law_700 (lv_at hl 11 rfl) ?_
    refine lv_iconst (v := nI 5) hx hb dL_law_702 (by decide) ?_
    refine lv_iload hx hb dL_law_703 (lv_at hl 5 rfl) ?_
    refine hs_calli w (va_runV (As := [.int (nI A9), .int (nI j), .int (nI 5), .int (nI (hs_td x))]) (rest := []) X (n_value l hl0 G _ a _ _ _ _ hI (nI A9) (nI j) (nI 5) (nI (hs_td x)) (la_val hA9 hj hnA hnJ htd)) (cwV 4 hts gL_law_X5_value rfl rfl rfl (by decide +kernel) ⟨Nat.le_of_ble_eq_true rfl, Nat.le_of_ble_eq_true rfl⟩) ⟨b_blind, hs_recv E w, fun U9 hU9 hW9 => ⟨rfl, hs_pre E Z9 w hm9 U9 hU9 hW9⟩⟩ rfl rfl hl.1 rfl (lv_room (Nat.le_of_ble_eq_true rfl)) dL_law_705 ⟨by show _ ≤ 600074; omega, by show _ ≤ 7301550; omega⟩) hm9 (fun r i H locs hr w => ?_)
    obtain ⟨hI, hr9, -⟩ := hr
    refine b_tp hr9 ?_
    refine lv_istore (lv' := [(15, .int (hs_V x 5 (nI (hs_td x)) (10 * A9 + j))), (14, .int (hs_V x 5 (nI (hs_td x)) (10 * A9 + j))), (0, .ref b), (1, .ref (a 0)), (2, .int (nI (hs_nA x))), (3, .int (nI (hs_nJ x))), (4, .int (nI (hs_td x))), (5, .int (nI k)), (8, .int (nI y)), (10, .int (bI al)), (11, .int (nI h)), (12, .int (nI A9)), (13, .int (nI j))]) hx hb dL_law_708 hl (by decide) rfl (fun ls hl => ?_)
    refine lv_iload hx hb dL_law_710 (lv_at hl 10 rfl) ?_
    refine lv_iload hx hb dL_law_712 (lv_at hl 1 rfl) ?_
    refine lv_ldc (v := HID) hx hb hown (hts (.constant RL 108 (-2000000002)) (by decide +kernel)) dL_law_714 ?_
    refine lv_icmp_ne (tgt := 723) hx hb dL_law_716 (by decide) (fun c_716_1 => ?_) (fun c_716_1 => ?_)
    · refine lv_iconst (v := nI 0) hx hb dL_law_723 (by decide) ?_
      refine lv_iadd hx hb dL_law_724 ?_
      refine b_tp (show (nI h) + (nI 0) = nI (h + 0) from nI_add h 0) ?_
      refine lv_istore (lv' := [(11, .int (nI (h + 0))), (15, .int (hs_V x 5 (nI (hs_td x)) (10 * A9 + j))), (14, .int (hs_V x 5 (nI (hs_td x)) (10 * A9 + j))), (0, .ref b), (1, .ref (a 0)), (2, .int (nI (hs_nA x))), (3, .int (nI (hs_nJ x))), (4, .int (nI (hs_td x))), (5, .int (nI k)), (8, .int (nI y)), (10, .int (bI al)), (12, .int (nI A9)), (13, .int (nI j))]) hx hb dL_law_725 hl (by decide) rfl (fun ls hl => ?_)
      refine lv_iload hx hb dL_law_727 (lv_at hl 2 rfl) ?_
      refine lv_iload hx hb dL_law_729 (lv_at hl 1 rfl) ?_
      refine lv_icmp_eq (tgt := 750) hx hb dL_law_731 (by decide) (fun c9 => ?_) (fun c9 => absurd rfl c9)
      exact kk (h + 0) i _ _ _ (by rw [hB]; rfl) hF5 hI w (lv_sub hl [3, 4, 5, 6, 7, 8, 9, 10, 0, 11, 12] rfl)
    · exact absurd c_716_1 hu
  · refine lv_aload_n hx hb dL_law_686 rfl (lv_at hl 1 rfl) ?_
    refine lv_iload hx hb dL_law_687 (lv_at hl 9 rfl) ?_
    refine lv_iload hx hb dL_law_689 (lv_at hl 10 rfl) ?_
    refine lv_iconst (v := nI 5) hx hb dL_law_691 (by decide) ?_
    refine hs_calli w (va_runV (As := [.int (nI A9), .int (nI j), .int (nI 5)]) (rest := []) X (n_shown l hl0 G _ a _ _ _ _ hI (nI A9) (nI j) (nI 5) ⟨la_cell hA9 hj hnA hnJ, rfl, la_sh1 (by omega) (by omega) hB⟩) (cwV 3 hts gL_law_X5_shown rfl rfl rfl (by decide +kernel) ⟨Nat.le_of_ble_eq_true rfl, Nat.le_of_ble_eq_true rfl⟩) ⟨b_blind, hs_recv E w, fun U9 hU9 hW9 => ⟨rfl, hs_pre E Z9 w hm9 U9 hU9 hW9⟩⟩ rfl rfl hl.1 rfl (lv_room (Nat.le_of_ble_eq_true rfl)) dL_law_692 ⟨by show _ ≤ 600074; omega, by show _ ≤ 7301550; omega⟩) hm9 (fun r i H locs hr w => ?_)
    obtain ⟨hI, hr9, hFx⟩ := hr
    have hF5 : hs_Fx x 5 (nI (hs_td x)) := by have h9 := hFx; rw [la_cl5] at h9; exact h9
    have hm : ¬ hs_V x 5 (nI (hs_td x)) (10 * A9 + j) = MIS := (hs_Hc hF5 _ hB).1
    refine b_tp hr9 ?_
    refine lv_istore (lv' := [(14, .int HID), (0, .ref b), (1, .ref (a 0)), (2, .int (nI (hs_nA x))), (3, .int (nI (hs_nJ x))), (4, .int (nI (hs_td x))), (5, .int (nI k)), (8, .int (nI y)), (10, .int (bI al)), (11, .int (nI h)), (12, .int (nI A9)), (13, .int (nI j))]) hx hb dL_law_695 hl (by decide) rfl (fun ls hl => ?_)
    refine lv_aload_n hx hb dL_law_697 rfl (lv_at hl 2 rfl) ?_
    refine lv_iload hx hb dL_law_698 (lv_at hl 10 rfl) ?_
    refine lv_iload hx hb dL_law_700 (lv_at hl 11 rfl) ?_
    refine lv_iconst (v := nI 5) hx hb dL_law_702 (by decide) ?_
    refine lv_iload hx hb dL_law_703 (lv_at hl 5 rfl) ?_
    refine hs_calli w (va_runV (As := [.int (nI A9), .int (nI j), .int (nI 5), .int (nI (hs_td x))]) (rest := []) X (n_value l hl0 G _ a _ _ _ _ hI (nI A9) (nI j) (nI 5) (nI (hs_td x)) (la_val hA9 hj hnA hnJ htd)) (cwV 4 hts gL_law_X5_value rfl rfl rfl (by decide +kernel) ⟨Nat.le_of_ble_eq_true rfl, Nat.le_of_ble_eq_true rfl⟩) ⟨b_blind, hs_recv E w, fun U9 hU9 hW9 => ⟨rfl, hs_pre E Z9 w hm9 U9 hU9 hW9⟩⟩ rfl rfl hl.1 rfl (lv_room (Nat.le_of_ble_eq_true rfl)) dL_law_705 ⟨by show _ ≤ 600074; omega, by show _ ≤ 7301550; omega⟩) hm9 (fun r i H locs hr w => ?_)
    obtain ⟨hI, hr9, -⟩ := hr
    refine b_tp hr9 ?_
    refine lv_istore (lv' := [(15, .int (hs_V x 5 (nI (hs_td x)) (10 * A9 + j))), (14, .int HID), (0, .ref b), (1, .ref (a 0)), (2, .int (nI (hs_nA x))), (3, .int (nI (hs_nJ x))), (4, .int (nI (hs_td x))), (5, .int (nI k)), (8, .int (nI y)), (10, .int (bI al)), (11, .int (nI h)), (12, .int (nI A9)), (13, .int (nI j))]) hx hb dL_law_708 hl (by decide) rfl (fun ls hl => ?_)
    refine lv_iload hx hb dL_law_710 (lv_at hl 10 rfl) ?_
    refine lv_iload hx hb dL_law_712 (lv_at hl 1 rfl) ?_
    refine lv_ldc (v := HID) hx hb hown (hts (.constant RL 108 (-2000000002)) (by decide +kernel)) dL_law_714 ?_
    refine lv_icmp_ne (tgt := 723) hx hb dL_law_716 (by decide) (fun c9 => absurd rfl c9) (fun c9 => ?_)
    refine lv_iconst (v := nI 1) hx hb dL_law_719 (by decide) ?_
    refine lv_goto (tgt := 724) hx hb dL_law_720 (by decide) ?_
    refine lv_iadd hx hb dL_law_724 ?_
    refine b_tp (show (nI h) + (nI 1) = nI (h + 1) from nI_add h 1) ?_
    refine lv_istore (lv' := [(11, .int (nI (h + 1))), (15, .int (hs_V x 5 (nI (hs_td x)) (10 * A9 + j))), (14, .int HID), (0, .ref b), (1, .ref (a 0)), (2, .int (nI (hs_nA x))), (3, .int (nI (hs_nJ x))), (4, .int (nI (hs_td x))), (5, .int (nI k)), (8, .int (nI y)), (10, .int (bI al)), (12, .int (nI A9)), (13, .int (nI j))]) hx hb dL_law_725 hl (by decide) rfl (fun ls hl => ?_)
    refine lv_iload hx hb dL_law_727 (lv_at hl 2 rfl) ?_
    refine lv_iload hx hb dL_law_729 (lv_at hl 1 rfl) ?_
    refine lv_icmp_eq (tgt := 750) hx hb dL_law_731 (by decide) (fun c_731_2 => ?_) (fun c_731_2 => ?_)
    · exact kk (h + 1) i _ _ _ (by rw [hB]; rfl) hF5 hI w (lv_sub hl [3, 4, 5, 6, 7, 8, 9, 10, 0, 11, 12] rfl)
    · refine lv_iload hx hb dL_law_734 (lv_at hl 2 rfl) ?_
      refine lv_ldc (v := HID) hx hb hown (hts (.constant RL 108 (-2000000002)) (by decide +kernel)) dL_law_736 ?_
      refine lv_icmp_ne (tgt := 748) hx hb dL_law_738 (by decide) (fun c9 => absurd rfl c9) (fun c9 => ?_)
      refine lv_iload hx hb dL_law_741 (lv_at hl 1 rfl) ?_
      refine lv_ldc (v := MIS) hx hb hown (hts (.constant RL 95 (-2000000001)) (by decide +kernel)) dL_law_743 ?_
      refine lv_icmp_ne (tgt := 750) hx hb dL_law_745 (by decide) (fun c_745_3 => ?_) (fun c_745_3 => ?_)
      · exact kk (h + 1) i _ _ _ (by rw [hB]; rfl) hF5 hI w (lv_sub hl [3, 4, 5, 6, 7, 8, 9, 10, 0, 11, 12] rfl)
      · exact absurd c_745_3 hm
set_option maxHeartbeats 4000000 in
set_option maxRecDepth 100000 in
theorem lp_row {p : Program} {l : Launch} (hl0 : l.stackTraces = false) {e : Env} {s : State} {m : MethodId} {below : List Frame} {meth : Method} {c : Code} {G : bG} {b : Nat} {Q : State → Prop} (X : CallFix p m c cL_law 16 s #[Value.ref b] wsL_law RL) (E : bE G vwCl bNW bSW s) {a : Nat → Nat} (Z9 : bZ [] s) (hm9 : ∀ q ∈ hs_M a, Aw [] s.heap.size q) {x : hs_E} {k y A9 : Nat} {al : Bool} (hy : y < 16777216) (hk : k < 60) (hL : hs_L x) (hA9 : A9 < hs_nA x) (hnA : hs_nA x ≤ 14) (hnJ : hs_nJ x ≤ 10) (hJ0 : 0 < hs_nJ x) : ∀ (n j h cells slots : Nat) (i : hs_I) (H : Heap) (locs : List Loc) (ls : Array Slot), j + n = hs_nJ x → cells + 3 * n ≤ 500000 → slots + 18 * n ≤ 7000000 → (al = true → h = hg_n (hs_H x 5) (hs_nJ x) A9 + cH (fun _ => true) (fun t => hs_H x 5 (10 * A9 + t)) j) → hs_Inv x i → bSt G vwCl [] s (hs_W G a x i) H locs → lv_has ls 16 [(0, .ref b), (1, .ref (a 0)), (2, .int (nI (hs_nA x))), (3, .int (nI (hs_nJ x))), (4, .int (nI (hs_td x))), (5, .int (nI k)), (8, .int (nI y)), (10, .int (bI al)), (11, .int (nI h)), (12, .int (nI A9)), (13, .int (nI j))] →
    (∀ (h : Nat) (i : hs_I) (H : Heap) (locs : List Loc) (ls : Array Slot), (al = true → h = hg_n (hs_H x 5) (hs_nJ x) (A9 + 1)) → hs_Inv x i → bSt G vwCl [] s (hs_W G a x i) H locs → lv_has ls 16 [(0, .ref b), (1, .ref (a 0)), (2, .int (nI (hs_nA x))), (3, .int (nI (hs_nJ x))), (4, .int (nI (hs_td x))), (5, .int (nI k)), (8, .int (nI y)), (10, .int (bI al)), (11, .int (nI h)), (12, .int (nI A9))] → W p l e room_1 s m #[Value.ref b] below meth c H locs (cells + 3 * n) (slots + 18 * n) Q (F0 m 756 ls [])) → W p l e room_1 s m #[Value.ref b] below meth c H locs cells slots Q (F0 m 654 ls []) := by
  have hx := X.1
  have hb := X.2.1
  intro n
  induction n with
  | zero =>
    intro j h cells slots i H locs ls h1 h2 h3 hh hI w hl kk
    have hj : j = hs_nJ x := by omega
    refine lv_iload hx hb dL_law_654 (lv_at hl 10 rfl) ?_
    refine lv_iload_n hx hb dL_law_656 rfl (lv_at hl 3 rfl) ?_
    refine lv_icmp_ge (tgt := 756) hx hb dL_law_657 (by decide) (fun c9 => ?_) (fun c9 => absurd ((nI_leI (by omega) (by omega)).mpr (by omega)) c9)
    refine kk h i _ _ _ (fun h9 => ?_) hI w (lv_sub hl [0, 1, 2, 3, 4, 5, 6, 7, 8, 9] rfl)
    rw [hh h9, hj]; rfl
  | succ n ih =>
    intro j h cells slots i H locs ls h1 h2 h3 hh hI w hl kk
    have hj : j < hs_nJ x := by omega
    refine lv_iload hx hb dL_law_654 (lv_at hl 10 rfl) ?_
    refine lv_iload_n hx hb dL_law_656 rfl (lv_at hl 3 rfl) ?_
    refine lv_icmp_ge (tgt := 756) hx hb dL_law_657 (by decide) (fun c9 => absurd (q_le (by omega) (by omega) c9) (by omega)) (fun c9 => ?_)
    have go : ∀ (h' : Nat) (i : hs_I) (H : Heap) (locs : List Loc) (ls : Array Slot), (al = true → h' = h + b1 (hs_H x 5 (10 * A9 + j))) → hs_Inv x i → bSt G vwCl [] s (hs_W G a x i) H locs → lv_has ls 16 [(0, .ref b), (1, .ref (a 0)), (2, .int (nI (hs_nA x))), (3, .int (nI (hs_nJ x))), (4, .int (nI (hs_td x))), (5, .int (nI k)), (8, .int (nI y)), (10, .int (bI al)), (11, .int (nI h')), (12, .int (nI A9)), (13, .int (nI j))] → W p l e room_1 s m #[Value.ref b] below meth c H locs (cells + 3) (slots + 18) Q (F0 m 750 ls []) := by
      intro h' i H locs ls hh' hI w hl
      refine lv_iinc (v := nI (j + 1)) (lv' := [(13, .int (nI (j + 1))), (0, .ref b), (1, .ref (a 0)), (2, .int (nI (hs_nA x))), (3, .int (nI (hs_nJ x))), (4, .int (nI (hs_td x))), (5, .int (nI k)), (8, .int (nI y)), (10, .int (bI al)), (11, .int (nI h')), (12, .int (nI A9))]) hx hb dL_law_750 hl (k := 10) rfl (nI_add j 1) (by decide) rfl (fun ls hl => ?_)
      refine lv_goto (tgt := 654) hx hb dL_law_753 (by decide) ?_
      refine ih (j + 1) h' (cells + 3) (slots + 18) i H locs ls (by omega) (by omega) (by omega) (fun h9 => ?_) hI w (lv_sub hl [1, 2, 3, 4, 5, 6, 7, 8, 9, 10, 0] rfl) (fun h i H locs ls hh hI w hl => ?_)
      · rw [hh' h9, hh h9]
        show _ = _ + (cH (fun _ => true) (fun t => hs_H x 5 (10 * A9 + t)) j + (if (true && hs_H x 5 (10 * A9 + j)) = true then 1 else 0))
        cases hs_H x 5 (10 * A9 + j) <;> rfl
      · rw [show cells + 3 + 3 * n = cells + 3 * (n + 1) by omega, show slots + 18 + 18 * n = slots + 18 * (n + 1) by omega]
        exact kk h i H locs ls hh hI w hl
    have see : W p l e room_1 s m #[Value.ref b] below meth c H locs cells slots Q (F0 m 686 ls []) :=
      lp_cell hl0 X E Z9 hm9 hL hA9 hj (by omega) (by omega) hI w hl (fun h' i H locs ls e1 _ hI w hl => go h' i H locs ls (fun _ => e1) hI w hl)
    refine lv_iload hx hb dL_law_660 (lv_at hl 7 rfl) ?_
    refine lv_if_ne (tgt := 686) hx hb dL_law_662 (by decide) (fun c9 => see) (fun c9 => ?_)
    have hal : al = false := bI_0.mp c9
    have skip : W p l e room_1 s m #[Value.ref b] below meth c H locs cells slots Q (F0 m 750 ls []) := by
      refine W.widen (k := cells + 3) (n := slots + 18) (by omega) (by omega) ?_
      exact go h i H locs ls (fun h9 => by rw [hal] at h9; cases h9) hI w hl
    refine lv_iload hx hb dL_law_665 (lv_at hl 9 rfl) ?_
    refine lv_iload hx hb dL_law_667 (lv_at hl 5 rfl) ?_
    refine lv_iload_n hx hb dL_law_669 rfl (lv_at hl 2 rfl) ?_
    refine lv_irem hx hb dL_law_670 (fun h9 => absurd ((nI_z (by omega)).mp h9) (by omega)) ?_
    refine b_tp (pk_rem (by omega) (by omega) (by omega)) ?_
    refine lv_icmp_ne (tgt := 750) hx hb dL_law_671 (by decide) (fun c9 => skip) (fun c9 => ?_)
    refine lv_iload hx hb dL_law_674 (lv_at hl 10 rfl) ?_
    refine lv_iload hx hb dL_law_676 (lv_at hl 6 rfl) ?_
    refine lv_iload_n hx hb dL_law_678 rfl (lv_at hl 3 rfl) ?_
    refine lv_irem hx hb dL_law_679 (fun h9 => absurd ((nI_z (by omega)).mp h9) (by omega)) ?_
    refine b_tp (pk_rem (by omega) (by omega) (by omega)) ?_
    refine lv_icmp_eq (tgt := 686) hx hb dL_law_680 (by decide) (fun c9 => see) (fun c9 => ?_)
    refine lv_goto (tgt := 750) hx hb dL_law_683 (by decide) ?_
    exact skip
set_option maxHeartbeats 4000000 in
set_option maxRecDepth 100000 in
theorem lp_rows {p : Program} {l : Launch} (hl0 : l.stackTraces = false) {e : Env} {s : State} {m : MethodId} {below : List Frame} {meth : Method} {c : Code} {G : bG} {b : Nat} {Q : State → Prop} (X : CallFix p m c cL_law 16 s #[Value.ref b] wsL_law RL) (E : bE G vwCl bNW bSW s) {a : Nat → Nat} (Z9 : bZ [] s) (hm9 : ∀ q ∈ hs_M a, Aw [] s.heap.size q) {x : hs_E} {k y : Nat} {al : Bool} (hy : y < 16777216) (hk : k < 60) (hL : hs_L x) (hnA : hs_nA x ≤ 14) (hnJ : hs_nJ x ≤ 10) (hJ0 : 0 < hs_nJ x) : ∀ (n A9 h cells slots : Nat) (i : hs_I) (H : Heap) (locs : List Loc) (ls : Array Slot), A9 + n = hs_nA x → cells + 30 * n ≤ 500000 → slots + 180 * n ≤ 7000000 → (al = true → h = hg_n (hs_H x 5) (hs_nJ x) A9) → hs_Inv x i → bSt G vwCl [] s (hs_W G a x i) H locs → lv_has ls 16 [(0, .ref b), (1, .ref (a 0)), (2, .int (nI (hs_nA x))), (3, .int (nI (hs_nJ x))), (4, .int (nI (hs_td x))), (5, .int (nI k)), (8, .int (nI y)), (10, .int (bI al)), (11, .int (nI h)), (12, .int (nI A9))] →
    (∀ (h : Nat) (i : hs_I) (H : Heap) (locs : List Loc) (ls : Array Slot), (al = true → h = hg_n (hs_H x 5) (hs_nJ x) (hs_nA x)) → hs_Inv x i → bSt G vwCl [] s (hs_W G a x i) H locs → lv_has ls 16 [(0, .ref b), (1, .ref (a 0)), (2, .int (nI (hs_nA x))), (3, .int (nI (hs_nJ x))), (4, .int (nI (hs_td x))), (5, .int (nI k)), (8, .int (nI y)), (10, .int (bI al)), (11, .int (nI h))] → W p l e room_1 s m #[Value.ref b] below meth c H locs (cells + 30 * n) (slots + 180 * n) Q (F0 m 762 ls [])) → W p l e room_1 s m #[Value.ref b] below meth c H locs cells slots Q (F0 m 645 ls []) := by
  have hx := X.1
  have hb := X.2.1
  intro n
  induction n with
  | zero =>
    intro A9 h cells slots i H locs ls h1 h2 h3 hh hI w hl kk
    have hj : A9 = hs_nA x := by omega
    refine lv_iload hx hb dL_law_645 (lv_at hl 9 rfl) ?_
    refine lv_iload_n hx hb dL_law_647 rfl (lv_at hl 2 rfl) ?_
    refine lv_icmp_ge (tgt := 762) hx hb dL_law_648 (by decide) (fun c9 => ?_) (fun c9 => absurd ((nI_leI (by omega) (by omega)).mpr (by omega)) c9)
    exact kk h i _ _ _ (fun h9 => by rw [hh h9, hj]) hI w (lv_sub hl [0, 1, 2, 3, 4, 5, 6, 7, 8] rfl)
  | succ n ih =>
    intro A9 h cells slots i H locs ls h1 h2 h3 hh hI w hl kk
    have hA9 : A9 < hs_nA x := by omega
    refine lv_iload hx hb dL_law_645 (lv_at hl 9 rfl) ?_
    refine lv_iload_n hx hb dL_law_647 rfl (lv_at hl 2 rfl) ?_
    refine lv_icmp_ge (tgt := 762) hx hb dL_law_648 (by decide) (fun c9 => absurd (q_le (by omega) (by omega) c9) (by omega)) (fun c9 => ?_)
    refine lv_iconst (v := nI 0) hx hb dL_law_651 (by decide) ?_
    refine lv_istore (lv' := [(13, .int (nI 0)), (0, .ref b), (1, .ref (a 0)), (2, .int (nI (hs_nA x))), (3, .int (nI (hs_nJ x))), (4, .int (nI (hs_td x))), (5, .int (nI k)), (8, .int (nI y)), (10, .int (bI al)), (11, .int (nI h)), (12, .int (nI A9))]) hx hb dL_law_652 hl (by decide) rfl (fun ls hl => ?_)
    refine lp_row hl0 X E Z9 hm9 hy hk hL hA9 hnA hnJ hJ0 (hs_nJ x) 0 h cells slots i H locs ls (Nat.zero_add _) (by omega) (by omega) (fun h9 => hh h9) hI w (lv_sub hl [1, 2, 3, 4, 5, 6, 7, 8, 9, 10, 0] rfl) (fun h i H locs ls hh hI w hl => ?_)
    refine W.widen (k := cells + 30) (n := slots + 180) (by omega) (by omega) ?_
    refine lv_iinc (v := nI (A9 + 1)) (lv' := [(12, .int (nI (A9 + 1))), (0, .ref b), (1, .ref (a 0)), (2, .int (nI (hs_nA x))), (3, .int (nI (hs_nJ x))), (4, .int (nI (hs_td x))), (5, .int (nI k)), (8, .int (nI y)), (10, .int (bI al)), (11, .int (nI h))]) hx hb dL_law_756 hl (k := 9) rfl (nI_add A9 1) (by decide) rfl (fun ls hl => ?_)
    refine lv_goto (tgt := 645) hx hb dL_law_759 (by decide) ?_
    refine ih (A9 + 1) h (cells + 30) (slots + 180) i H locs ls (by omega) (by omega) (by omega) hh hI w (lv_sub hl [1, 2, 3, 4, 5, 6, 7, 8, 9, 0] rfl) (fun h i H locs ls hh hI w hl => ?_)
    rw [show cells + 30 + 30 * n = cells + 30 * (n + 1) by omega, show slots + 180 + 180 * n = slots + 180 * (n + 1) by omega]
    exact kk h i H locs ls hh hI w hl
set_option maxHeartbeats 4000000 in
set_option maxRecDepth 100000 in
theorem lp_after {p : Program} {l : Launch} (hl0 : l.stackTraces = false) {e : Env} {s : State} {m : MethodId} {below : List Frame} {meth : Method} {c : Code} {G : bG} {b : Nat} {Q : State → Prop} (X : CallFix p m c cL_law 16 s #[Value.ref b] wsL_law RL) (E : bE G vwCl bNW bSW s) {a : Nat → Nat} (Z9 : bZ [] s) (hm9 : ∀ q ∈ hs_M a, Aw [] s.heap.size q) {x : hs_E} {k y h : Nat} {al : Bool} (hk : k < 60) (hh : al = true → h = hg_n (hs_H x 5) (hs_nJ x) (hs_nA x)) {i : hs_I} {H : Heap} {locs : List Loc} {ls : Array Slot} {cells slots : Nat} (hc : cells ≤ 500000) (hs : slots ≤ 7000000) (hI : hs_Inv x i) (w : bSt G vwCl [] s (hs_W G a x i) H locs) (hl : lv_has ls 16 [(0, .ref b), (1, .ref (a 0)), (2, .int (nI (hs_nA x))), (3, .int (nI (hs_nJ x))), (4, .int (nI (hs_td x))), (5, .int (nI k)), (8, .int (nI y)), (10, .int (bI al)), (11, .int (nI h))]) 
    (kk : ∀ (i : hs_I) (H : Heap) (locs : List Loc) (ls : Array Slot), hs_Inv x i → bSt G vwCl [] s (hs_W G a x i) H locs → lv_has ls 16 [(0, .ref b), (1, .ref (a 0)), (2, .int (nI (hs_nA x))), (3, .int (nI (hs_nJ x))), (4, .int (nI (hs_td x))), (5, .int (nI k))] → W p l e room_1 s m #[Value.ref b] below meth c H locs (cells + 400) (slots + 2400) Q (F0 m 850 ls [])) : W p l e room_1 s m #[Value.ref b] below meth c H locs cells slots Q (F0 m 762 ls []) := by
  have hx := X.1
  have hb := X.2.1
  have hml := X.2.2.1
  have hown := X.2.2.2.1
  have hts := X.2.2.2.2
  obtain ⟨⟨hnA, hnJ, hTA, hTJ, htd, hst, hbs, hjd, hdn⟩, hbk, hdr, hK⟩ := id hI
  obtain ⟨f9, ef9⟩ : ∃ f, hV_find x (-1) (-1) (nI 5) (nI 6) (nI 0) (nI (k % 7)) = f := ⟨_, rfl⟩
  refine lv_aload_n hx hb dL_law_762 rfl (lv_at hl 1 rfl) ?_
  refine lv_iconst (v := -1) hx hb dL_law_763 (by decide) ?_
  refine lv_iconst (v := -1) hx hb dL_law_764 (by decide) ?_
  refine lv_iconst (v := nI 5) hx hb dL_law_765 (by decide) ?_
  refine lv_bipush (v := nI 6) hx hb dL_law_766 (by decide) ?_
  refine lv_iconst (v := nI 0) hx hb dL_law_768 (by decide) ?_
  refine lv_iload hx hb dL_law_769 (lv_at hl 5 rfl) ?_
  refine lv_bipush (v := nI 7) hx hb dL_law_771 (by decide) ?_
  refine lv_irem hx hb dL_law_773 (by decide) ?_
  refine b_tp (pk_rem (by omega) (by decide) (by decide)) ?_
  refine hs_calli w (vx_runSW (As := [.ref (a 0), .int (-1), .int (-1), .int (nI 5), .int (nI 6), .int (nI 0), .int (nI (k % 7))]) (rest := []) X (fS l hl0 G _ a _ _ hI (-1) (-1) (nI 5) (nI 6) (nI 0) (nI (k % 7)) _ ⟨hf_find0 (nI_pos (by omega)) (by decide), rfl, ef9⟩) (vx_cwSW 7 hts gL_law_L_find rfl rfl rfl (by decide +kernel) ⟨Nat.le_of_ble_eq_true rfl, Nat.le_of_ble_eq_true rfl⟩) ⟨b_blind, fun U9 hU9 hW9 => ⟨rfl, hs_pre E Z9 w hm9 U9 hU9 hW9⟩⟩ rfl rfl hl.1 rfl (lv_room (Nat.le_of_ble_eq_true rfl)) dL_law_774 ⟨by show _ ≤ 600074; omega, by show _ ≤ 7301550; omega⟩) hm9 (fun r i H locs hr w => ?_)
  obtain ⟨hI, hr9⟩ := hr
  refine b_tp hr9 ?_
  refine lv_istore (lv' := [(12, .int f9), (0, .ref b), (1, .ref (a 0)), (2, .int (nI (hs_nA x))), (3, .int (nI (hs_nJ x))), (4, .int (nI (hs_td x))), (5, .int (nI k)), (8, .int (nI y)), (10, .int (bI al)), (11, .int (nI h))]) hx hb dL_law_777 hl (by decide) rfl (fun ls hl => ?_)
  rcases la_find hI ef9 with hf9 | ⟨p9, A9, j9, hp9, hA9, hj9, hf9, hg⟩
  · rw [hf9] at hl
    refine lv_iload hx hb dL_law_779 (lv_at hl 8 rfl) ?_
    refine lv_if_eq (tgt := 794) hx hb dL_law_781 (by decide) (fun c_781_1 => ?_) (fun c_781_1 => ?_)
    · have q_781_2 : al = false := bI_0.mp c_781_1
      refine lv_iload hx hb dL_law_794 (lv_at hl 0 rfl) ?_
      refine lv_if_lt (tgt := 829) hx hb dL_law_796 (by decide) (fun c9 => ?_) (fun c9 => absurd (by decide) c9)
      refine lv_iload hx hb dL_law_829 (lv_at hl 6 rfl) ?_
      refine lv_bipush (v := nI 15) hx hb dL_law_831 (by decide) ?_
      refine lv_irem hx hb dL_law_833 (by decide) ?_
      refine b_tp (pk_rem (by omega) (by decide) (by decide)) ?_
      refine lv_if_ne (tgt := 850) hx hb dL_law_834 (by decide) (fun c_834_3 => ?_) (fun c_834_3 => ?_)
      · have q_834_4 : ¬ (k % 15) = 0 := fun h9 => c_834_3 ((nI_z (by omega)).mpr h9)
        refine W.widen (k := cells + 400) (n := slots + 2400) (by omega) (by omega) ?_
        exact kk i _ _ _ hI w (lv_sub hl [1, 2, 3, 4, 5, 6] rfl)
      · have q_834_4 : (k % 15) = 0 := (nI_z (by omega)).mp c_834_3
        refine lv_aload_n hx hb dL_law_837 rfl (lv_at hl 2 rfl) ?_
        refine lv_iload_n hx hb dL_law_838 rfl (lv_at hl 3 rfl) ?_
        refine lv_iload_n hx hb dL_law_839 rfl (lv_at hl 4 rfl) ?_
        refine lv_iload hx hb dL_law_840 (lv_at hl 5 rfl) ?_
        refine hs_calli w (va_runS (As := [.ref (a 0), .int (nI (hs_nA x)), .int (nI (hs_nJ x)), .int (nI (hs_td x))]) (rest := []) X (c_refuses l hl0 G _ a _ _ hI _ _ _ ⟨rfl, rfl, rfl⟩) (va_cwS 4 hts gL_law_L_refuses rfl rfl rfl (by decide +kernel) ⟨Nat.le_of_ble_eq_true rfl, Nat.le_of_ble_eq_true rfl⟩) ⟨b_blind, fun U9 hU9 hW9 => ⟨rfl, hs_pre E Z9 w hm9 U9 hU9 hW9⟩⟩ rfl rfl hl.1 rfl (lv_room (Nat.le_of_ble_eq_true rfl)) dL_law_842 ⟨by show _ ≤ 600074; omega, by show _ ≤ 7301550; omega⟩) hm9 (fun r i H locs hr w => ?_)
        obtain ⟨hI, hr9⟩ := hr
        refine b_tp hr9 ?_
        refine lv_if_ne (tgt := 850) hx hb dL_law_845 (by decide) (fun c9 => ?_) (fun c9 => absurd c9 (by decide))
        refine W.widen (k := cells + 400) (n := slots + 2400) (by omega) (by omega) ?_
        exact kk i _ _ _ hI w (lv_sub hl [1, 2, 3, 4, 5, 6] rfl)
    · have q_781_2 : al = true := bI_n0.mp c_781_1
      refine lv_iload hx hb dL_law_784 (lv_at hl 9 rfl) ?_
      refine lv_aload_n hx hb dL_law_786 rfl (lv_at hl 2 rfl) ?_
      refine lv_iconst (v := nI 5) hx hb dL_law_787 (by decide) ?_
      refine hs_calli w (va_runV (As := [.int (nI 5)]) (rest := [.int (nI h)]) X (n_hidden l hl0 G _ a _ _ _ _ hI (nI 5) (la_hid rfl)) (cwV 1 hts gL_law_X5_hidden rfl rfl rfl (by decide +kernel) ⟨Nat.le_of_ble_eq_true rfl, Nat.le_of_ble_eq_true rfl⟩) ⟨b_blind, hs_recv E w, fun U9 hU9 hW9 => ⟨rfl, hs_pre E Z9 w hm9 U9 hU9 hW9⟩⟩ rfl rfl hl.1 rfl (lv_room (Nat.le_of_ble_eq_true rfl)) dL_law_788 ⟨by show _ ≤ 600074; omega, by show _ ≤ 7301550; omega⟩) hm9 (fun r i H locs hr w => ?_)
      obtain ⟨hI, hr9, hFx⟩ := hr
      have hF5 : hs_Fx x 5 (nI (hs_td x)) := by have h9 := hFx; rw [la_cl5] at h9; exact h9
      have e5 : hs_C x 5 = h := (la_C hI hF5).trans (hh q_781_2).symm
      refine b_tp (hr9.trans (congrArg nI e5)) ?_
      refine lv_icmp_ne (tgt := 848) hx hb dL_law_791 (by decide) (fun c9 => absurd rfl c9) (fun c9 => ?_)
      refine lv_iload hx hb dL_law_794 (lv_at hl 0 rfl) ?_
      refine lv_if_lt (tgt := 829) hx hb dL_law_796 (by decide) (fun c9 => ?_) (fun c9 => absurd (by decide) c9)
      refine lv_iload hx hb dL_law_829 (lv_at hl 6 rfl) ?_
      refine lv_bipush (v := nI 15) hx hb dL_law_831 (by decide) ?_
      refine lv_irem hx hb dL_law_833 (by decide) ?_
      refine b_tp (pk_rem (by omega) (by decide) (by decide)) ?_
      refine lv_if_ne (tgt := 850) hx hb dL_law_834 (by decide) (fun c_834_5 => ?_) (fun c_834_5 => ?_)
      · have q_834_6 : ¬ (k % 15) = 0 := fun h9 => c_834_5 ((nI_z (by omega)).mpr h9)
        refine W.widen (k := cells + 400) (n := slots + 2400) (by omega) (by omega) ?_
        exact kk i _ _ _ hI w (lv_sub hl [1, 2, 3, 4, 5, 6] rfl)
      · have q_834_6 : (k % 15) = 0 := (nI_z (by omega)).mp c_834_5
        refine lv_aload_n hx hb dL_law_837 rfl (lv_at hl 2 rfl) ?_
        refine lv_iload_n hx hb dL_law_838 rfl (lv_at hl 3 rfl) ?_
        refine lv_iload_n hx hb dL_law_839 rfl (lv_at hl 4 rfl) ?_
        refine lv_iload hx hb dL_law_840 (lv_at hl 5 rfl) ?_
        refine hs_calli w (va_runS (As := [.ref (a 0), .int (nI (hs_nA x)), .int (nI (hs_nJ x)), .int (nI (hs_td x))]) (rest := []) X (c_refuses l hl0 G _ a _ _ hI _ _ _ ⟨rfl, rfl, rfl⟩) (va_cwS 4 hts gL_law_L_refuses rfl rfl rfl (by decide +kernel) ⟨Nat.le_of_ble_eq_true rfl, Nat.le_of_ble_eq_true rfl⟩) ⟨b_blind, fun U9 hU9 hW9 => ⟨rfl, hs_pre E Z9 w hm9 U9 hU9 hW9⟩⟩ rfl rfl hl.1 rfl (lv_room (Nat.le_of_ble_eq_true rfl)) dL_law_842 ⟨by show _ ≤ 600074; omega, by show _ ≤ 7301550; omega⟩) hm9 (fun r i H locs hr w => ?_)
        obtain ⟨hI, hr9⟩ := hr
        refine b_tp hr9 ?_
        refine lv_if_ne (tgt := 850) hx hb dL_law_845 (by decide) (fun c9 => ?_) (fun c9 => absurd c9 (by decide))
        refine W.widen (k := cells + 400) (n := slots + 2400) (by omega) (by omega) ?_
        exact kk i _ _ _ hI w (lv_sub hl [1, 2, 3, 4, 5, 6] rfl)
  · obtain ⟨ff, hff⟩ : ∃ n, n = 1000 * p9 + 20 * A9 + j9 := ⟨_, rfl⟩
    rw [← hff] at hf9
    rw [hf9] at hl
    obtain ⟨g9, eg9⟩ : ∃ g, g = fo (hs_bc x) (hs_bd x) (hs_bf x) (nI (140 * p9 + (10 * A9 + j9))) (nI (hs_td x)) (hs_bn x) := ⟨_, rfl⟩
    rw [← eg9] at hg
    have hg9 := hg
    refine lv_iload hx hb dL_law_779 (lv_at hl 8 rfl) ?_
    refine lv_if_eq (tgt := 794) hx hb dL_law_781 (by decide) (fun c_781_7 => ?_) (fun c_781_7 => ?_)
    · have q_781_8 : al = false := bI_0.mp c_781_7
      refine lv_iload hx hb dL_law_794 (lv_at hl 0 rfl) ?_
      refine lv_if_lt (tgt := 829) hx hb dL_law_796 (by decide) (fun c_796_9 => ?_) (fun c_796_9 => ?_)
      · exact absurd c_796_9 (nI_pos (by omega))
      · refine lv_aload_n hx hb dL_law_799 rfl (lv_at hl 2 rfl) ?_
        refine lv_iload hx hb dL_law_800 (lv_at hl 0 rfl) ?_
        refine lv_bipush (v := nI 20) hx hb dL_law_802 (by decide) ?_
        refine lv_idiv hx hb dL_law_804 (by decide) ?_
        refine b_tp (show (nI ff) / (nI 20) = nI (ff / 20) from pk_div (by omega) (by decide) (by decide)) ?_
        refine lv_bipush (v := nI 50) hx hb dL_law_805 (by decide) ?_
        refine lv_irem hx hb dL_law_807 (by decide) ?_
        refine b_tp (pk_rem (by omega) (by decide) (by decide)) ?_
        refine lv_iload hx hb dL_law_808 (lv_at hl 0 rfl) ?_
        refine lv_bipush (v := nI 20) hx hb dL_law_810 (by decide) ?_
        refine lv_irem hx hb dL_law_812 (by decide) ?_
        refine b_tp (pk_rem (by omega) (by decide) (by decide)) ?_
        refine lv_iload hx hb dL_law_813 (lv_at hl 0 rfl) ?_
        refine lv_sipush (v := nI 1000) hx hb dL_law_815 (by decide) ?_
        refine lv_idiv hx hb dL_law_818 (by decide) ?_
        refine b_tp (show (nI ff) / (nI 1000) = nI (ff / 1000) from pk_div (by omega) (by decide) (by decide)) ?_
        refine lv_iload hx hb dL_law_819 (lv_at hl 5 rfl) ?_
        refine hs_calli w (va_runV (As := [.int (nI ((ff / 20) % 50)), .int (nI (ff % 20)), .int (nI (ff / 1000)), .int (nI (hs_td x))]) (rest := []) X (n_figure l hl0 G _ a _ _ _ _ hI (nI ((ff / 20) % 50)) (nI (ff % 20)) (nI (ff / 1000)) (nI (hs_td x)) ⟨(la_fig hp9 hA9 hj9 hnA hnJ htd hff).1, rfl, (la_fig hp9 hA9 hj9 hnA hnJ htd hff).2.trans eg9.symm⟩) (cwV 4 hts gL_law_X5_figure rfl rfl rfl (by decide +kernel) ⟨Nat.le_of_ble_eq_true rfl, Nat.le_of_ble_eq_true rfl⟩) ⟨b_blind, hs_recv E w, fun U9 hU9 hW9 => ⟨rfl, hs_pre E Z9 w hm9 U9 hU9 hW9⟩⟩ rfl rfl hl.1 rfl (lv_room (Nat.le_of_ble_eq_true rfl)) dL_law_821 ⟨by show _ ≤ 600074; omega, by show _ ≤ 7301550; omega⟩) hm9 (fun r i H locs hr w => ?_)
        obtain ⟨hI, hr9⟩ := hr
        refine b_tp hr9 ?_
        refine lv_ldc (v := MIS) hx hb hown (hts (.constant RL 95 (-2000000001)) (by decide +kernel)) dL_law_824 ?_
        refine lv_icmp_eq (tgt := 848) hx hb dL_law_826 (by decide) (fun c_826_11 => ?_) (fun c_826_11 => ?_)
        · exact absurd c_826_11 hg9
        · refine lv_iload hx hb dL_law_829 (lv_at hl 6 rfl) ?_
          refine lv_bipush (v := nI 15) hx hb dL_law_831 (by decide) ?_
          refine lv_irem hx hb dL_law_833 (by decide) ?_
          refine b_tp (pk_rem (by omega) (by decide) (by decide)) ?_
          refine lv_if_ne (tgt := 850) hx hb dL_law_834 (by decide) (fun c_834_12 => ?_) (fun c_834_12 => ?_)
          · have q_834_13 : ¬ (k % 15) = 0 := fun h9 => c_834_12 ((nI_z (by omega)).mpr h9)
            refine W.widen (k := cells + 400) (n := slots + 2400) (by omega) (by omega) ?_
            exact kk i _ _ _ hI w (lv_sub hl [1, 2, 3, 4, 5, 6] rfl)
          · have q_834_13 : (k % 15) = 0 := (nI_z (by omega)).mp c_834_12
            refine lv_aload_n hx hb dL_law_837 rfl (lv_at hl 2 rfl) ?_
            refine lv_iload_n hx hb dL_law_838 rfl (lv_at hl 3 rfl) ?_
            refine lv_iload_n hx hb dL_law_839 rfl (lv_at hl 4 rfl) ?_
            refine lv_iload hx hb dL_law_840 (lv_at hl 5 rfl) ?_
            refine hs_calli w (va_runS (As := [.ref (a 0), .int (nI (hs_nA x)), .int (nI (hs_nJ x)), .int (nI (hs_td x))]) (rest := []) X (c_refuses l hl0 G _ a _ _ hI _ _ _ ⟨rfl, rfl, rfl⟩) (va_cwS 4 hts gL_law_L_refuses rfl rfl rfl (by decide +kernel) ⟨Nat.le_of_ble_eq_true rfl, Nat.le_of_ble_eq_true rfl⟩) ⟨b_blind, fun U9 hU9 hW9 => ⟨rfl, hs_pre E Z9 w hm9 U9 hU9 hW9⟩⟩ rfl rfl hl.1 rfl (lv_room (Nat.le_of_ble_eq_true rfl)) dL_law_842 ⟨by show _ ≤ 600074; omega, by show _ ≤ 7301550; omega⟩) hm9 (fun r i H locs hr w => ?_)
            obtain ⟨hI, hr9⟩ := hr
            refine b_tp hr9 ?_
            refine lv_if_ne (tgt := 850) hx hb dL_law_845 (by decide) (fun c9 => ?_) (fun c9 => absurd c9 (by decide))
            refine W.widen (k := cells + 400) (n := slots + 2400) (by omega) (by omega) ?_
            exact kk i _ _ _ hI w (lv_sub hl [1, 2, 3, 4, 5, 6] rfl)
    · have q_781_8 : al = true := bI_n0.mp c_781_7
      refine lv_iload hx hb dL_law_784 (lv_at hl 9 rfl) ?_
      refine lv_aload_n hx hb dL_law_786 rfl (lv_at hl 2 rfl) ?_
      refine lv_iconst (v := nI 5) hx hb dL_law_787 (by decide) ?_
      refine hs_calli w (va_runV (As := [.int (nI 5)]) (rest := [.int (nI h)]) X (n_hidden l hl0 G _ a _ _ _ _ hI (nI 5) (la_hid rfl)) (cwV 1 hts gL_law_X5_hidden rfl rfl rfl (by decide +kernel) ⟨Nat.le_of_ble_eq_true rfl, Nat.le_of_ble_eq_true rfl⟩) ⟨b_blind, hs_recv E w, fun U9 hU9 hW9 => ⟨rfl, hs_pre E Z9 w hm9 U9 hU9 hW9⟩⟩ rfl rfl hl.1 rfl (lv_room (Nat.le_of_ble_eq_true rfl)) dL_law_788 ⟨by show _ ≤ 600074; omega, by show _ ≤ 7301550; omega⟩) hm9 (fun r i H locs hr w => ?_)
      obtain ⟨hI, hr9, hFx⟩ := hr
      have hF5 : hs_Fx x 5 (nI (hs_td x)) := by have h9 := hFx; rw [la_cl5] at h9; exact h9
      have e5 : hs_C x 5 = h := (la_C hI hF5).trans (hh q_781_8).symm
      refine b_tp (hr9.trans (congrArg nI e5)) ?_
      refine lv_icmp_ne (tgt := 848) hx hb dL_law_791 (by decide) (fun c9 => absurd rfl c9) (fun c9 => ?_)
      refine lv_iload hx hb dL_law_794 (lv_at hl 0 rfl) ?_
      refine lv_if_lt (tgt := 829) hx hb dL_law_796 (by decide) (fun c_796_14 => ?_) (fun c_796_14 => ?_)
      · exact absurd c_796_14 (nI_pos (by omega))
      · refine lv_aload_n hx hb dL_law_799 rfl (lv_at hl 2 rfl) ?_
        refine lv_iload hx hb dL_law_800 (lv_at hl 0 rfl) ?_
        refine lv_bipush (v := nI 20) hx hb dL_law_802 (by decide) ?_
        refine lv_idiv hx hb dL_law_804 (by decide) ?_
        refine b_tp (show (nI ff) / (nI 20) = nI (ff / 20) from pk_div (by omega) (by decide) (by decide)) ?_
        refine lv_bipush (v := nI 50) hx hb dL_law_805 (by decide) ?_
        refine lv_irem hx hb dL_law_807 (by decide) ?_
        refine b_tp (pk_rem (by omega) (by decide) (by decide)) ?_
        refine lv_iload hx hb dL_law_808 (lv_at hl 0 rfl) ?_
        refine lv_bipush (v := nI 20) hx hb dL_law_810 (by decide) ?_
        refine lv_irem hx hb dL_law_812 (by decide) ?_
        refine b_tp (pk_rem (by omega) (by decide) (by decide)) ?_
        refine lv_iload hx hb dL_law_813 (lv_at hl 0 rfl) ?_
        refine lv_sipush (v := nI 1000) hx hb dL_law_815 (by decide) ?_
        refine lv_idiv hx hb dL_law_818 (by decide) ?_
        refine b_tp (show (nI ff) / (nI 1000) = nI (ff / 1000) from pk_div (by omega) (by decide) (by decide)) ?_
        refine lv_iload hx hb dL_law_819 (lv_at hl 5 rfl) ?_
        refine hs_calli w (va_runV (As := [.int (nI ((ff / 20) % 50)), .int (nI (ff % 20)), .int (nI (ff / 1000)), .int (nI (hs_td x))]) (rest := []) X (n_figure l hl0 G _ a _ _ _ _ hI (nI ((ff / 20) % 50)) (nI (ff % 20)) (nI (ff / 1000)) (nI (hs_td x)) ⟨(la_fig hp9 hA9 hj9 hnA hnJ htd hff).1, rfl, (la_fig hp9 hA9 hj9 hnA hnJ htd hff).2.trans eg9.symm⟩) (cwV 4 hts gL_law_X5_figure rfl rfl rfl (by decide +kernel) ⟨Nat.le_of_ble_eq_true rfl, Nat.le_of_ble_eq_true rfl⟩) ⟨b_blind, hs_recv E w, fun U9 hU9 hW9 => ⟨rfl, hs_pre E Z9 w hm9 U9 hU9 hW9⟩⟩ rfl rfl hl.1 rfl (lv_room (Nat.le_of_ble_eq_true rfl)) dL_law_821 ⟨by show _ ≤ 600074; omega, by show _ ≤ 7301550; omega⟩) hm9 (fun r i H locs hr w => ?_)
        obtain ⟨hI, hr9⟩ := hr
        refine b_tp hr9 ?_
        refine lv_ldc (v := MIS) hx hb hown (hts (.constant RL 95 (-2000000001)) (by decide +kernel)) dL_law_824 ?_
        refine lv_icmp_eq (tgt := 848) hx hb dL_law_826 (by decide) (fun c_826_16 => ?_) (fun c_826_16 => ?_)
        · exact absurd c_826_16 hg9
        · refine lv_iload hx hb dL_law_829 (lv_at hl 6 rfl) ?_
          refine lv_bipush (v := nI 15) hx hb dL_law_831 (by decide) ?_
          refine lv_irem hx hb dL_law_833 (by decide) ?_
          refine b_tp (pk_rem (by omega) (by decide) (by decide)) ?_
          refine lv_if_ne (tgt := 850) hx hb dL_law_834 (by decide) (fun c_834_17 => ?_) (fun c_834_17 => ?_)
          · have q_834_18 : ¬ (k % 15) = 0 := fun h9 => c_834_17 ((nI_z (by omega)).mpr h9)
            refine W.widen (k := cells + 400) (n := slots + 2400) (by omega) (by omega) ?_
            exact kk i _ _ _ hI w (lv_sub hl [1, 2, 3, 4, 5, 6] rfl)
          · have q_834_18 : (k % 15) = 0 := (nI_z (by omega)).mp c_834_17
            refine lv_aload_n hx hb dL_law_837 rfl (lv_at hl 2 rfl) ?_
            refine lv_iload_n hx hb dL_law_838 rfl (lv_at hl 3 rfl) ?_
            refine lv_iload_n hx hb dL_law_839 rfl (lv_at hl 4 rfl) ?_
            refine lv_iload hx hb dL_law_840 (lv_at hl 5 rfl) ?_
            refine hs_calli w (va_runS (As := [.ref (a 0), .int (nI (hs_nA x)), .int (nI (hs_nJ x)), .int (nI (hs_td x))]) (rest := []) X (c_refuses l hl0 G _ a _ _ hI _ _ _ ⟨rfl, rfl, rfl⟩) (va_cwS 4 hts gL_law_L_refuses rfl rfl rfl (by decide +kernel) ⟨Nat.le_of_ble_eq_true rfl, Nat.le_of_ble_eq_true rfl⟩) ⟨b_blind, fun U9 hU9 hW9 => ⟨rfl, hs_pre E Z9 w hm9 U9 hU9 hW9⟩⟩ rfl rfl hl.1 rfl (lv_room (Nat.le_of_ble_eq_true rfl)) dL_law_842 ⟨by show _ ≤ 600074; omega, by show _ ≤ 7301550; omega⟩) hm9 (fun r i H locs hr w => ?_)
            obtain ⟨hI, hr9⟩ := hr
            refine b_tp hr9 ?_
            refine lv_if_ne (tgt := 850) hx hb dL_law_845 (by decide) (fun c9 => ?_) (fun c9 => absurd c9 (by decide))
            refine W.widen (k := cells + 400) (n := slots + 2400) (by omega) (by omega) ?_
            exact kk i _ _ _ hI w (lv_sub hl [1, 2, 3, 4, 5, 6] rfl)
