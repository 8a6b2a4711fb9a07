set_option maxHeartbeats 4000000 in
set_option maxRecDepth 100000 in
theorem lp_area {p : Program} {l : Launch} (hl0 : l.stackTraces = false) {e : Env} {s : State} {m : MethodId} {below : List Frame} {meth : Method} {c : Code} {G : bG} {b : Nat} {Q : State → Prop} (X : CallFix p m c cL_law 16 s #[Value.ref b] wsL_law RL) (E : bE G vwCl bNW bSW s) {a : Nat → Nat} (Z9 : bZ [] s) (hm9 : ∀ q ∈ hs_M a, Aw [] s.heap.size q) {x : hs_E} {k y z : Nat} (hy : y < 16777216) (hL : hs_L x) {i : hs_I} {H : Heap} {locs : List Loc} {ls : Array Slot} {cells slots : Nat} (hc : cells ≤ 500000) (hs : slots ≤ 7000000) (hI : hs_Inv x i) (w : bSt G vwCl [] s (hs_W G a x i) H locs) (hl : lv_has ls 16 [(0, .ref b), (1, .ref (a 0)), (2, .int (nI (hs_nA x))), (3, .int (nI (hs_nJ x))), (4, .int (nI (hs_td x))), (5, .int (nI k)), (8, .int (nI y)), (9, .int (nI z))]) 
    (kk : ∀ (x' : hs_E) (i : hs_I) (H : Heap) (locs : List Loc) (ls : Array Slot), hs_L x' → hs_Inv x' i → bSt G vwCl [] s (hs_W G a x' i) H locs → lv_has ls 16 [(0, .ref b), (1, .ref (a 0)), (2, .int (nI (hs_nA x'))), (3, .int (nI (hs_nJ x'))), (4, .int (nI (hs_td x'))), (5, .int (nI k)), (8, .int (nI y))] → W p l e room_1 s m #[Value.ref b] below meth c H locs (cells + 60) (slots + 400) Q (F0 m 611 ls [])) : W p l e room_1 s m #[Value.ref b] below meth c H locs cells slots Q (F0 m 88 ls []) := by
  have hx := X.1
  have hb := X.2.1
  have hml := X.2.2.1
  have hown := X.2.2.2.1
  have hts := X.2.2.2.2
  obtain ⟨⟨hnA, hnJ, hTA, hTJ, htd, hst, hbs, hjd, hdn⟩, hbk, hdr, hK⟩ := id hI
  refine lv_iload hx hb dL_law_88 (lv_at hl 6 rfl) ?_
  refine lv_iload_n hx hb dL_law_90 rfl (lv_at hl 2 rfl) ?_
  refine lv_iconst (v := nI 1) hx hb dL_law_91 (by decide) ?_
  refine lv_iadd hx hb dL_law_92 ?_
  refine b_tp (show (nI (hs_nA x)) + (nI 1) = nI ((hs_nA x) + 1) from nI_add (hs_nA x) 1) ?_
  refine lv_irem hx hb dL_law_93 (fun h9 => absurd ((nI_z (by omega)).mp h9) (by omega)) ?_
  refine b_tp (pk_rem (by omega) (by omega) (by omega)) ?_
  refine lv_iconst (v := nI 1) hx hb dL_law_94 (by decide) ?_
  refine lv_isub hx hb dL_law_95 ?_
  have hp1 : tPat (hs_nA x) (nI (y % (hs_nA x + 1)) - nI 1) = true := la_pat hnA
  obtain ⟨p1, ep1⟩ : ∃ p1, nI (y % (hs_nA x + 1)) - nI 1 = p1 := ⟨_, rfl⟩
  rw [ep1] at hp1
  refine b_tp ep1 ?_
  refine lv_istore (lv' := [(10, .int p1), (0, .ref b), (1, .ref (a 0)), (2, .int (nI (hs_nA x))), (3, .int (nI (hs_nJ x))), (4, .int (nI (hs_td x))), (5, .int (nI k)), (8, .int (nI y)), (9, .int (nI z))]) hx hb dL_law_96 hl (by decide) rfl (fun ls hl => ?_)
  rcases Nat.lt_or_ge (hs_nA x) 14 with h14 | h14
  · refine lv_aload_n hx hb dL_law_98 rfl (lv_at hl 2 rfl) ?_
    refine lv_iconst (v := nI 0) hx hb dL_law_99 (by decide) ?_
    refine lv_iload hx hb dL_law_100 (lv_at hl 0 rfl) ?_
    refine lv_iconst (v := nI 0) hx hb dL_law_102 (by decide) ?_
    refine lv_iconst (v := nI 0) hx hb dL_law_103 (by decide) ?_
    refine lv_iconst (v := nI 0) hx hb dL_law_104 (by decide) ?_
    refine lv_iconst (v := nI 0) hx hb dL_law_105 (by decide) ?_
    refine hs_calli w (vx_runSW (As := [.ref (a 0), .int (nI 0), .int p1, .int (nI 0), .int (nI 0), .int (nI 0), .int (nI 0)]) (rest := []) X (aS_area l hl0 G _ a _ _ hI p1 (nI 0) (nI 0) (nI 0) (nI 0) _ _ ⟨la_area hp1 h14, rfl, rfl⟩) (vx_cwSW 7 hts gL_law_L_act rfl rfl rfl (by decide +kernel) ⟨Nat.le_of_ble_eq_true rfl, Nat.le_of_ble_eq_true rfl⟩) ⟨b_blind, fun U9 hU9 hW9 => ⟨rfl, hs_pre E Z9 w hm9 U9 hU9 hW9⟩⟩ rfl rfl hl.1 rfl (lv_room (Nat.le_of_ble_eq_true rfl)) dL_law_106 ⟨by show _ ≤ 600074; omega, by show _ ≤ 7301550; omega⟩) hm9 (fun r i H locs hr w => ?_)
    obtain ⟨hI, hr9⟩ := hr
    refine b_tp hr9 ?_
    refine lv_iload_n hx hb dL_law_109 rfl (lv_at hl 3 rfl) ?_
    refine lv_bipush (v := nI 14) hx hb dL_law_110 (by decide) ?_
    refine lv_icmp_ge (tgt := 119) hx hb dL_law_112 (by decide) (fun c_112_1 => ?_) (fun c_112_1 => ?_)
    · have q_112_2 : 14 ≤ hs_nA x := q_le (by omega) (by omega) c_112_1
      exact absurd q_112_2 (Nat.not_le.mpr h14)
    · have q_112_2 : hs_nA x < 14 := q_nle (by omega) (by omega) c_112_1
      refine lv_iload_n hx hb dL_law_115 rfl (lv_at hl 3 rfl) ?_
      refine lv_goto (tgt := 121) hx hb dL_law_116 (by decide) ?_
      refine lv_icmp_eq (tgt := 126) hx hb dL_law_121 (by decide) (fun c9 => ?_) (fun c9 => absurd rfl c9)
      refine lv_iload_n hx hb dL_law_126 rfl (lv_at hl 3 rfl) ?_
      refine lv_iload_n hx hb dL_law_127 rfl (lv_at hl 3 rfl) ?_
      refine lv_bipush (v := nI 14) hx hb dL_law_128 (by decide) ?_
      refine lv_icmp_ge (tgt := 137) hx hb dL_law_130 (by decide) (fun c_130_3 => ?_) (fun c_130_3 => ?_)
      · have q_130_4 : 14 ≤ hs_nA x := q_le (by omega) (by omega) c_130_3
        exact absurd q_130_4 (Nat.not_le.mpr h14)
      · have q_130_4 : hs_nA x < 14 := q_nle (by omega) (by omega) c_130_3
        refine lv_iconst (v := nI 1) hx hb dL_law_133 (by decide) ?_
        refine lv_goto (tgt := 138) hx hb dL_law_134 (by decide) ?_
        refine lv_iadd hx hb dL_law_138 ?_
        refine b_tp (show (nI (hs_nA x)) + (nI 1) = nI ((hs_nA x) + 1) from nI_add (hs_nA x) 1) ?_
        refine lv_istore_n (lv' := [(2, .int (nI ((hs_nA x) + 1))), (10, .int p1), (0, .ref b), (1, .ref (a 0)), (3, .int (nI (hs_nJ x))), (4, .int (nI (hs_td x))), (5, .int (nI k)), (8, .int (nI y)), (9, .int (nI z))]) hx hb dL_law_139 rfl hl (by decide) rfl (fun ls hl => ?_)
        refine lv_aload_n hx hb dL_law_140 rfl (lv_at hl 3 rfl) ?_
        refine lv_iconst (v := nI 0) hx hb dL_law_141 (by decide) ?_
        refine lv_iconst (v := nI 0) hx hb dL_law_142 (by decide) ?_
        refine lv_iconst (v := nI 1) hx hb dL_law_143 (by decide) ?_
        refine b_tp (show nI 1 = bI true from rfl) ?_
        refine hs_calli w (va_runV (As := [.int (nI 0), .int (nI 0), .int (bI true)]) (rest := []) X (n_agree l hl0 G _ a _ _ _ _ hI (nI 0) (nI 0) true ⟨la_ag (by decide) (show 0 < hs_nA x + 1 by omega) (show hs_nA x + 1 ≤ 2000 by omega), rfl, rfl⟩) (cwV 3 hts gL_law_X5_agree rfl rfl rfl (by decide +kernel) ⟨Nat.le_of_ble_eq_true rfl, Nat.le_of_ble_eq_true rfl⟩) ⟨b_blind, hs_recv E w, fun U9 hU9 hW9 => ⟨rfl, hs_pre E Z9 w hm9 U9 hU9 hW9⟩⟩ rfl rfl hl.1 rfl (lv_room (Nat.le_of_ble_eq_true rfl)) dL_law_144 ⟨by show _ ≤ 600074; omega, by show _ ≤ 7301550; omega⟩) hm9 (fun r i H locs hr w => ?_)
        obtain ⟨hI, hr9⟩ := hr
        refine b_tp hr9 ?_
        refine lv_pop hx hb dL_law_147 rfl ?_
        refine lv_goto (tgt := 611) hx hb dL_law_148 (by decide) ?_
        refine W.widen (k := cells + 60) (n := slots + 400) (by omega) (by omega) ?_
        exact kk (hX_agree (hX_area x p1) (nI 0) (nI 0) true) i _ _ _ hL hI w (lv_sub hl [2, 3, 0, 4, 5, 6, 7] rfl)
  · refine lv_aload_n hx hb dL_law_98 rfl (lv_at hl 2 rfl) ?_
    refine lv_iconst (v := nI 0) hx hb dL_law_99 (by decide) ?_
    refine lv_iload hx hb dL_law_100 (lv_at hl 0 rfl) ?_
    refine lv_iconst (v := nI 0) hx hb dL_law_102 (by decide) ?_
    refine lv_iconst (v := nI 0) hx hb dL_law_103 (by decide) ?_
    refine lv_iconst (v := nI 0) hx hb dL_law_104 (by decide) ?_
    refine lv_iconst (v := nI 0) hx hb dL_law_105 (by decide) ?_
    refine hs_calli w (vx_runSW (As := [.ref (a 0), .int (nI 0), .int p1, .int (nI 0), .int (nI 0), .int (nI 0), .int (nI 0)]) (rest := []) X (aF_area l hl0 G _ a _ _ hI p1 (nI 0) (nI 0) (nI 0) (nI 0) 3 (la_areaF hp1 h14) (by decide)) (vx_cwSW 7 hts gL_law_L_act rfl rfl rfl (by decide +kernel) ⟨Nat.le_of_ble_eq_true rfl, Nat.le_of_ble_eq_true rfl⟩) ⟨b_blind, fun U9 hU9 hW9 => ⟨rfl, hs_pre E Z9 w hm9 U9 hU9 hW9⟩⟩ rfl rfl hl.1 rfl (lv_room (Nat.le_of_ble_eq_true rfl)) dL_law_106 ⟨by show _ ≤ 600074; omega, by show _ ≤ 7301550; omega⟩) hm9 (fun r i H locs hr w => ?_)
    obtain ⟨hI, hr9⟩ := hr
    refine b_tp (hr9.trans (show hs_r 3 = -73 from by decide)) ?_
    refine lv_iload_n hx hb dL_law_109 rfl (lv_at hl 3 rfl) ?_
    refine lv_bipush (v := nI 14) hx hb dL_law_110 (by decide) ?_
    refine lv_icmp_ge (tgt := 119) hx hb dL_law_112 (by decide) (fun c_112_5 => ?_) (fun c_112_5 => ?_)
    · have q_112_6 : 14 ≤ hs_nA x := q_le (by omega) (by omega) c_112_5
      refine lv_bipush (v := -73) hx hb dL_law_119 (by decide) ?_
      refine lv_icmp_eq (tgt := 126) hx hb dL_law_121 (by decide) (fun c9 => ?_) (fun c9 => absurd rfl c9)
      refine lv_iload_n hx hb dL_law_126 rfl (lv_at hl 3 rfl) ?_
      refine lv_iload_n hx hb dL_law_127 rfl (lv_at hl 3 rfl) ?_
      refine lv_bipush (v := nI 14) hx hb dL_law_128 (by decide) ?_
      refine lv_icmp_ge (tgt := 137) hx hb dL_law_130 (by decide) (fun c_130_7 => ?_) (fun c_130_7 => ?_)
      · have q_130_8 : 14 ≤ hs_nA x := q_le (by omega) (by omega) c_130_7
        refine lv_iconst (v := nI 0) hx hb dL_law_137 (by decide) ?_
        refine lv_iadd hx hb dL_law_138 ?_
        refine b_tp (show (nI (hs_nA x)) + (nI 0) = nI ((hs_nA x) + 0) from nI_add (hs_nA x) 0) ?_
        refine lv_istore_n (lv' := [(2, .int (nI ((hs_nA x) + 0))), (10, .int p1), (0, .ref b), (1, .ref (a 0)), (3, .int (nI (hs_nJ x))), (4, .int (nI (hs_td x))), (5, .int (nI k)), (8, .int (nI y)), (9, .int (nI z))]) hx hb dL_law_139 rfl hl (by decide) rfl (fun ls hl => ?_)
        refine lv_aload_n hx hb dL_law_140 rfl (lv_at hl 3 rfl) ?_
        refine lv_iconst (v := nI 0) hx hb dL_law_141 (by decide) ?_
        refine lv_iconst (v := nI 0) hx hb dL_law_142 (by decide) ?_
        refine lv_iconst (v := nI 1) hx hb dL_law_143 (by decide) ?_
        refine b_tp (show nI 1 = bI true from rfl) ?_
        refine hs_calli w (va_runV (As := [.int (nI 0), .int (nI 0), .int (bI true)]) (rest := []) X (n_agree l hl0 G _ a _ _ _ _ hI (nI 0) (nI 0) true ⟨la_ag (by decide) (by omega) (by omega), rfl, rfl⟩) (cwV 3 hts gL_law_X5_agree rfl rfl rfl (by decide +kernel) ⟨Nat.le_of_ble_eq_true rfl, Nat.le_of_ble_eq_true rfl⟩) ⟨b_blind, hs_recv E w, fun U9 hU9 hW9 => ⟨rfl, hs_pre E Z9 w hm9 U9 hU9 hW9⟩⟩ rfl rfl hl.1 rfl (lv_room (Nat.le_of_ble_eq_true rfl)) dL_law_144 ⟨by show _ ≤ 600074; omega, by show _ ≤ 7301550; omega⟩) hm9 (fun r i H locs hr w => ?_)
        obtain ⟨hI, hr9⟩ := hr
        refine b_tp hr9 ?_
        refine lv_pop hx hb dL_law_147 rfl ?_
        refine lv_goto (tgt := 611) hx hb dL_law_148 (by decide) ?_
        refine W.widen (k := cells + 60) (n := slots + 400) (by omega) (by omega) ?_
        exact kk (hX_agree (x) (nI 0) (nI 0) true) i _ _ _ hL hI w (lv_sub hl [2, 3, 0, 4, 5, 6, 7] rfl)
      · have q_130_8 : hs_nA x < 14 := q_nle (by omega) (by omega) c_130_7
        exact absurd q_130_8 (Nat.not_lt.mpr h14)
    · have q_112_6 : hs_nA x < 14 := q_nle (by omega) (by omega) c_112_5
      exact absurd q_112_6 (Nat.not_lt.mpr h14)
set_option maxHeartbeats 4000000 in
set_option maxRecDepth 100000 in
theorem lp_item {p : Program} {l : Launch} (hl0 : l.stackTraces = false) {e : Env} {s : State} {m : MethodId} {below : List Frame} {meth : Method} {c : Code} {G : bG} {b : Nat} {Q : State → Prop} (X : CallFix p m c cL_law 16 s #[Value.ref b] wsL_law RL) (E : bE G vwCl bNW bSW s) {a : Nat → Nat} (Z9 : bZ [] s) (hm9 : ∀ q ∈ hs_M a, Aw [] s.heap.size q) {x : hs_E} {k y z : Nat} (hy : y < 16777216) (hL : hs_L x) {i : hs_I} {H : Heap} {locs : List Loc} {ls : Array Slot} {cells slots : Nat} (hc : cells ≤ 500000) (hs : slots ≤ 7000000) (hI : hs_Inv x i) (w : bSt G vwCl [] s (hs_W G a x i) H locs) (hl : lv_has ls 16 [(0, .ref b), (1, .ref (a 0)), (2, .int (nI (hs_nA x))), (3, .int (nI (hs_nJ x))), (4, .int (nI (hs_td x))), (5, .int (nI k)), (8, .int (nI y)), (9, .int (nI z))]) 
    (kk : ∀ (x' : hs_E) (i : hs_I) (H : Heap) (locs : List Loc) (ls : Array Slot), hs_L x' → hs_Inv x' i → bSt G vwCl [] s (hs_W G a x' i) H locs → lv_has ls 16 [(0, .ref b), (1, .ref (a 0)), (2, .int (nI (hs_nA x'))), (3, .int (nI (hs_nJ x'))), (4, .int (nI (hs_td x'))), (5, .int (nI k)), (8, .int (nI y))] → W p l e room_1 s m #[Value.ref b] below meth c H locs (cells + 60) (slots + 400) Q (F0 m 611 ls [])) : W p l e room_1 s m #[Value.ref b] below meth c H locs cells slots Q (F0 m 161 ls []) := by
  have hx := X.1
  have hb := X.2.1
  have hml := X.2.2.1
  have hown := X.2.2.2.1
  have hts := X.2.2.2.2
  obtain ⟨⟨hnA, hnJ, hTA, hTJ, htd, hst, hbs, hjd, hdn⟩, hbk, hdr, hK⟩ := id hI
  refine lv_iload hx hb dL_law_161 (lv_at hl 6 rfl) ?_
  refine lv_iload_n hx hb dL_law_163 rfl (lv_at hl 3 rfl) ?_
  refine lv_iconst (v := nI 1) hx hb dL_law_164 (by decide) ?_
  refine lv_iadd hx hb dL_law_165 ?_
  refine b_tp (show (nI (hs_nJ x)) + (nI 1) = nI ((hs_nJ x) + 1) from nI_add (hs_nJ x) 1) ?_
  refine lv_irem hx hb dL_law_166 (fun h9 => absurd ((nI_z (by omega)).mp h9) (by omega)) ?_
  refine b_tp (pk_rem (by omega) (by omega) (by omega)) ?_
  refine lv_iconst (v := nI 1) hx hb dL_law_167 (by decide) ?_
  refine lv_isub hx hb dL_law_168 ?_
  have hp1 : tPat (hs_nJ x) (nI (y % (hs_nJ x + 1)) - nI 1) = true := la_pat (by omega)
  obtain ⟨p1, ep1⟩ : ∃ p1, nI (y % (hs_nJ x + 1)) - nI 1 = p1 := ⟨_, rfl⟩
  rw [ep1] at hp1
  refine b_tp ep1 ?_
  refine lv_istore (lv' := [(10, .int p1), (0, .ref b), (1, .ref (a 0)), (2, .int (nI (hs_nA x))), (3, .int (nI (hs_nJ x))), (4, .int (nI (hs_td x))), (5, .int (nI k)), (8, .int (nI y)), (9, .int (nI z))]) hx hb dL_law_169 hl (by decide) rfl (fun ls hl => ?_)
  rcases Nat.lt_or_ge (hs_nJ x) 10 with h14 | h14
  · refine lv_aload_n hx hb dL_law_171 rfl (lv_at hl 2 rfl) ?_
    refine lv_iconst (v := nI 1) hx hb dL_law_172 (by decide) ?_
    refine lv_iload hx hb dL_law_173 (lv_at hl 0 rfl) ?_
    refine lv_iconst (v := nI 0) hx hb dL_law_175 (by decide) ?_
    refine lv_iconst (v := nI 0) hx hb dL_law_176 (by decide) ?_
    refine lv_iconst (v := nI 0) hx hb dL_law_177 (by decide) ?_
    refine lv_iconst (v := nI 0) hx hb dL_law_178 (by decide) ?_
    refine hs_calli w (vx_runSW (As := [.ref (a 0), .int (nI 1), .int p1, .int (nI 0), .int (nI 0), .int (nI 0), .int (nI 0)]) (rest := []) X (aS_item l hl0 G _ a _ _ hI p1 (nI 0) (nI 0) (nI 0) (nI 0) _ _ ⟨la_item hp1 h14, rfl, rfl⟩) (vx_cwSW 7 hts gL_law_L_act rfl rfl rfl (by decide +kernel) ⟨Nat.le_of_ble_eq_true rfl, Nat.le_of_ble_eq_true rfl⟩) ⟨b_blind, fun U9 hU9 hW9 => ⟨rfl, hs_pre E Z9 w hm9 U9 hU9 hW9⟩⟩ rfl rfl hl.1 rfl (lv_room (Nat.le_of_ble_eq_true rfl)) dL_law_179 ⟨by show _ ≤ 600074; omega, by show _ ≤ 7301550; omega⟩) hm9 (fun r i H locs hr w => ?_)
    obtain ⟨hI, hr9⟩ := hr
    refine b_tp hr9 ?_
    refine lv_iload_n hx hb dL_law_182 rfl (lv_at hl 4 rfl) ?_
    refine lv_bipush (v := nI 10) hx hb dL_law_183 (by decide) ?_
    refine lv_icmp_ge (tgt := 192) hx hb dL_law_185 (by decide) (fun c_185_1 => ?_) (fun c_185_1 => ?_)
    · have q_185_2 : 10 ≤ hs_nJ x := q_le (by omega) (by omega) c_185_1
      exact absurd q_185_2 (Nat.not_le.mpr h14)
    · have q_185_2 : hs_nJ x < 10 := q_nle (by omega) (by omega) c_185_1
      refine lv_iload_n hx hb dL_law_188 rfl (lv_at hl 4 rfl) ?_
      refine lv_goto (tgt := 194) hx hb dL_law_189 (by decide) ?_
      refine lv_icmp_eq (tgt := 199) hx hb dL_law_194 (by decide) (fun c9 => ?_) (fun c9 => absurd rfl c9)
      refine lv_iload_n hx hb dL_law_199 rfl (lv_at hl 4 rfl) ?_
      refine lv_iload_n hx hb dL_law_200 rfl (lv_at hl 4 rfl) ?_
      refine lv_bipush (v := nI 10) hx hb dL_law_201 (by decide) ?_
      refine lv_icmp_ge (tgt := 210) hx hb dL_law_203 (by decide) (fun c_203_3 => ?_) (fun c_203_3 => ?_)
      · have q_203_4 : 10 ≤ hs_nJ x := q_le (by omega) (by omega) c_203_3
        exact absurd q_203_4 (Nat.not_le.mpr h14)
      · have q_203_4 : hs_nJ x < 10 := q_nle (by omega) (by omega) c_203_3
        refine lv_iconst (v := nI 1) hx hb dL_law_206 (by decide) ?_
        refine lv_goto (tgt := 211) hx hb dL_law_207 (by decide) ?_
        refine lv_iadd hx hb dL_law_211 ?_
        refine b_tp (show (nI (hs_nJ x)) + (nI 1) = nI ((hs_nJ x) + 1) from nI_add (hs_nJ x) 1) ?_
        refine lv_istore_n (lv' := [(3, .int (nI ((hs_nJ x) + 1))), (10, .int p1), (0, .ref b), (1, .ref (a 0)), (2, .int (nI (hs_nA x))), (4, .int (nI (hs_td x))), (5, .int (nI k)), (8, .int (nI y)), (9, .int (nI z))]) hx hb dL_law_212 rfl hl (by decide) rfl (fun ls hl => ?_)
        refine lv_goto (tgt := 611) hx hb dL_law_213 (by decide) ?_
        refine W.widen (k := cells + 60) (n := slots + 400) (by omega) (by omega) ?_
        exact kk (hX_item x p1) i _ _ _ hL hI w (lv_sub hl [2, 3, 4, 0, 5, 6, 7] rfl)
  · refine lv_aload_n hx hb dL_law_171 rfl (lv_at hl 2 rfl) ?_
    refine lv_iconst (v := nI 1) hx hb dL_law_172 (by decide) ?_
    refine lv_iload hx hb dL_law_173 (lv_at hl 0 rfl) ?_
    refine lv_iconst (v := nI 0) hx hb dL_law_175 (by decide) ?_
    refine lv_iconst (v := nI 0) hx hb dL_law_176 (by decide) ?_
    refine lv_iconst (v := nI 0) hx hb dL_law_177 (by decide) ?_
    refine lv_iconst (v := nI 0) hx hb dL_law_178 (by decide) ?_
    refine hs_calli w (vx_runSW (As := [.ref (a 0), .int (nI 1), .int p1, .int (nI 0), .int (nI 0), .int (nI 0), .int (nI 0)]) (rest := []) X (aF_item l hl0 G _ a _ _ hI p1 (nI 0) (nI 0) (nI 0) (nI 0) 3 (la_itemF hp1 h14) (by decide)) (vx_cwSW 7 hts gL_law_L_act rfl rfl rfl (by decide +kernel) ⟨Nat.le_of_ble_eq_true rfl, Nat.le_of_ble_eq_true rfl⟩) ⟨b_blind, fun U9 hU9 hW9 => ⟨rfl, hs_pre E Z9 w hm9 U9 hU9 hW9⟩⟩ rfl rfl hl.1 rfl (lv_room (Nat.le_of_ble_eq_true rfl)) dL_law_179 ⟨by show _ ≤ 600074; omega, by show _ ≤ 7301550; omega⟩) hm9 (fun r i H locs hr w => ?_)
    obtain ⟨hI, hr9⟩ := hr
    refine b_tp (hr9.trans (show hs_r 3 = -73 from by decide)) ?_
    refine lv_iload_n hx hb dL_law_182 rfl (lv_at hl 4 rfl) ?_
    refine lv_bipush (v := nI 10) hx hb dL_law_183 (by decide) ?_
    refine lv_icmp_ge (tgt := 192) hx hb dL_law_185 (by decide) (fun c_185_5 => ?_) (fun c_185_5 => ?_)
    · have q_185_6 : 10 ≤ hs_nJ x := q_le (by omega) (by omega) c_185_5
      refine lv_bipush (v := -73) hx hb dL_law_192 (by decide) ?_
      refine lv_icmp_eq (tgt := 199) hx hb dL_law_194 (by decide) (fun c9 => ?_) (fun c9 => absurd rfl c9)
      refine lv_iload_n hx hb dL_law_199 rfl (lv_at hl 4 rfl) ?_
      refine lv_iload_n hx hb dL_law_200 rfl (lv_at hl 4 rfl) ?_
      refine lv_bipush (v := nI 10) hx hb dL_law_201 (by decide) ?_
      refine lv_icmp_ge (tgt := 210) hx hb dL_law_203 (by decide) (fun c_203_7 => ?_) (fun c_203_7 => ?_)
      · have q_203_8 : 10 ≤ hs_nJ x := q_le (by omega) (by omega) c_203_7
        refine lv_iconst (v := nI 0) hx hb dL_law_210 (by decide) ?_
        refine lv_iadd hx hb dL_law_211 ?_
        refine b_tp (show (nI (hs_nJ x)) + (nI 0) = nI ((hs_nJ x) + 0) from nI_add (hs_nJ x) 0) ?_
        refine lv_istore_n (lv' := [(3, .int (nI ((hs_nJ x) + 0))), (10, .int p1), (0, .ref b), (1, .ref (a 0)), (2, .int (nI (hs_nA x))), (4, .int (nI (hs_td x))), (5, .int (nI k)), (8, .int (nI y)), (9, .int (nI z))]) hx hb dL_law_212 rfl hl (by decide) rfl (fun ls hl => ?_)
        refine lv_goto (tgt := 611) hx hb dL_law_213 (by decide) ?_
        refine W.widen (k := cells + 60) (n := slots + 400) (by omega) (by omega) ?_
        exact kk x i _ _ _ hL hI w (lv_sub hl [2, 3, 4, 0, 5, 6, 7] rfl)
      · have q_203_8 : hs_nJ x < 10 := q_nle (by omega) (by omega) c_203_7
        exact absurd q_203_8 (Nat.not_lt.mpr h14)
    · have q_185_6 : hs_nJ x < 10 := q_nle (by omega) (by omega) c_185_5
      exact absurd q_185_6 (Nat.not_lt.mpr h14)
set_option maxHeartbeats 4000000 in
set_option maxRecDepth 100000 in
theorem lp_pass {p : Program} {l : Launch} (hl0 : l.stackTraces = false) {e : Env} {s : State} {m : MethodId} {below : List Frame} {meth : Method} {c : Code} {G : bG} {b : Nat} {Q : State → Prop} (X : CallFix p m c cL_law 16 s #[Value.ref b] wsL_law RL) (E : bE G vwCl bNW bSW s) {a : Nat → Nat} (Z9 : bZ [] s) (hm9 : ∀ q ∈ hs_M a, Aw [] s.heap.size q) {x : hs_E} {k y z : Nat} (hy : y < 16777216) (hL : hs_L x) {i : hs_I} {H : Heap} {locs : List Loc} {ls : Array Slot} {cells slots : Nat} (hc : cells ≤ 500000) (hs : slots ≤ 7000000) (hI : hs_Inv x i) (w : bSt G vwCl [] s (hs_W G a x i) H locs) (hl : lv_has ls 16 [(0, .ref b), (1, .ref (a 0)), (2, .int (nI (hs_nA x))), (3, .int (nI (hs_nJ x))), (4, .int (nI (hs_td x))), (5, .int (nI k)), (8, .int (nI y)), (9, .int (nI z))]) 
    (kk : ∀ (x' : hs_E) (i : hs_I) (H : Heap) (locs : List Loc) (ls : Array Slot), hs_L x' → hs_Inv x' i → bSt G vwCl [] s (hs_W G a x' i) H locs → lv_has ls 16 [(0, .ref b), (1, .ref (a 0)), (2, .int (nI (hs_nA x'))), (3, .int (nI (hs_nJ x'))), (4, .int (nI (hs_td x'))), (5, .int (nI k)), (8, .int (nI y))] → W p l e room_1 s m #[Value.ref b] below meth c H locs (cells + 60) (slots + 400) Q (F0 m 611 ls [])) : W p l e room_1 s m #[Value.ref b] below meth c H locs cells slots Q (F0 m 573 ls []) := by
  have hx := X.1
  have hb := X.2.1
  have hml := X.2.2.1
  have hown := X.2.2.2.1
  have hts := X.2.2.2.2
  obtain ⟨⟨hnA, hnJ, hTA, hTJ, htd, hst, hbs, hjd, hdn⟩, hbk, hdr, hK⟩ := id hI
  refine lv_iload hx hb dL_law_573 (lv_at hl 4 rfl) ?_
  refine lv_sipush (v := nI 900) hx hb dL_law_575 (by decide) ?_
  refine lv_icmp_ge (tgt := 611) hx hb dL_law_578 (by decide) (fun c_578_1 => ?_) (fun c_578_1 => ?_)
  · have q_578_2 : 900 ≤ hs_td x := q_le (by omega) (by omega) c_578_1
    refine W.widen (k := cells + 60) (n := slots + 400) (by omega) (by omega) ?_
    exact kk x i _ _ _ hL hI w (lv_sub hl [0, 1, 2, 3, 4, 5, 6] rfl)
  · have q_578_2 : hs_td x < 900 := q_nle (by omega) (by omega) c_578_1
    refine lv_iload hx hb dL_law_581 (lv_at hl 4 rfl) ?_
    refine lv_iconst (v := nI 1) hx hb dL_law_583 (by decide) ?_
    refine lv_iload hx hb dL_law_584 (lv_at hl 6 rfl) ?_
    refine lv_bipush (v := nI 9) hx hb dL_law_586 (by decide) ?_
    refine lv_irem hx hb dL_law_588 (by decide) ?_
    refine b_tp (pk_rem (by omega) (by decide) (by decide)) ?_
    refine lv_iadd hx hb dL_law_589 ?_
    refine b_tp (show (nI 1) + (nI (y % 9)) = nI (1 + y % 9) from nI_add 1 (y % 9)) ?_
    refine lv_iadd hx hb dL_law_590 ?_
    refine b_tp (show (nI (hs_td x)) + (nI (1 + y % 9)) = nI ((hs_td x) + (1 + y % 9)) from nI_add (hs_td x) (1 + y % 9)) ?_
    refine lv_istore (lv' := [(4, .int (nI ((hs_td x) + (1 + y % 9)))), (0, .ref b), (1, .ref (a 0)), (2, .int (nI (hs_nA x))), (3, .int (nI (hs_nJ x))), (5, .int (nI k)), (8, .int (nI y)), (9, .int (nI z))]) hx hb dL_law_591 hl (by decide) rfl (fun ls hl => ?_)
    refine lv_aload_n hx hb dL_law_593 rfl (lv_at hl 2 rfl) ?_
    refine lv_iconst (v := nI 1) hx hb dL_law_594 (by decide) ?_
    refine lv_iload hx hb dL_law_595 (lv_at hl 6 rfl) ?_
    refine lv_bipush (v := nI 9) hx hb dL_law_597 (by decide) ?_
    refine lv_irem hx hb dL_law_599 (by decide) ?_
    refine b_tp (pk_rem (by omega) (by decide) (by decide)) ?_
    refine lv_iadd hx hb dL_law_600 ?_
    refine b_tp (show (nI 1) + (nI (y % 9)) = nI (1 + y % 9) from nI_add 1 (y % 9)) ?_
    refine hs_calli w (va_runV (As := [.int (nI (1 + y % 9))]) (rest := []) X (n_pass l hl0 G _ a _ _ _ _ hI (nI (1 + y % 9)) (la_pass (by omega) (by omega) q_578_2)) (cwV 1 hts gL_law_X5_pass rfl rfl rfl (by decide +kernel) ⟨Nat.le_of_ble_eq_true rfl, Nat.le_of_ble_eq_true rfl⟩) ⟨b_blind, hs_recv E w, fun U9 hU9 hW9 => ⟨rfl, hs_pre E Z9 w hm9 U9 hU9 hW9⟩⟩ rfl rfl hl.1 rfl (lv_room (Nat.le_of_ble_eq_true rfl)) dL_law_601 ⟨by show _ ≤ 600074; omega, by show _ ≤ 7301550; omega⟩) hm9 (fun r i H locs hr w => ?_)
    obtain ⟨hI, hr9⟩ := hr
    refine b_tp hr9 ?_
    refine lv_iload hx hb dL_law_604 (lv_at hl 0 rfl) ?_
    refine lv_icmp_eq (tgt := 611) hx hb dL_law_606 (by decide) (fun c9 => ?_) (fun c9 => absurd rfl c9)
    refine W.widen (k := cells + 60) (n := slots + 400) (by omega) (by omega) ?_
    exact kk (hs_mkT x (hs_td x + (1 + y % 9))) i _ _ _ hL hI w (lv_sub hl [1, 2, 3, 4, 0, 5, 6] rfl)
set_option maxHeartbeats 4000000 in
set_option maxRecDepth 100000 in
theorem lp_secret {p : Program} {l : Launch} (hl0 : l.stackTraces = false) {e : Env} {s : State} {m : MethodId} {below : List Frame} {meth : Method} {c : Code} {G : bG} {b : Nat} {Q : State → Prop} (X : CallFix p m c cL_law 16 s #[Value.ref b] wsL_law RL) (E : bE G vwCl bNW bSW s) {a : Nat → Nat} (Z9 : bZ [] s) (hm9 : ∀ q ∈ hs_M a, Aw [] s.heap.size q) {x : hs_E} {k y z : Nat} (hy : y < 16777216) (hz : z < 16777216) (hA0 : 0 < hs_nA x) (hJ0 : 0 < hs_nJ x) (hL : hs_L x) {i : hs_I} {H : Heap} {locs : List Loc} {ls : Array Slot} {cells slots : Nat} (hc : cells ≤ 500000) (hs : slots ≤ 7000000) (hI : hs_Inv x i) (w : bSt G vwCl [] s (hs_W G a x i) H locs) (hl : lv_has ls 16 [(0, .ref b), (1, .ref (a 0)), (2, .int (nI (hs_nA x))), (3, .int (nI (hs_nJ x))), (4, .int (nI (hs_td x))), (5, .int (nI k)), (8, .int (nI y)), (9, .int (nI z))]) 
    (kk : ∀ (x' : hs_E) (i : hs_I) (H : Heap) (locs : List Loc) (ls : Array Slot), hs_L x' → hs_Inv x' i → bSt G vwCl [] s (hs_W G a x' i) H locs → lv_has ls 16 [(0, .ref b), (1, .ref (a 0)), (2, .int (nI (hs_nA x'))), (3, .int (nI (hs_nJ x'))), (4, .int (nI (hs_td x'))), (5, .int (nI k)), (8, .int (nI y))] → W p l e room_1 s m #[Value.ref b] below meth c H locs (cells + 60) (slots + 400) Q (F0 m 611 ls [])) : W p l e room_1 s m #[Value.ref b] below meth c H locs cells slots Q (F0 m 531 ls []) := by
  have hx := X.1
  have hb := X.2.1
  have hml := X.2.2.1
  have hown := X.2.2.2.1
  have hts := X.2.2.2.2
  obtain ⟨⟨hnA, hnJ, hTA, hTJ, htd, hst, hbs, hjd, hdn⟩, hbk, hdr, hK⟩ := id hI
  refine lv_aload_n hx hb dL_law_531 rfl (lv_at hl 1 rfl) ?_
  refine lv_iload hx hb dL_law_532 (lv_at hl 6 rfl) ?_
  refine lv_iload_n hx hb dL_law_534 rfl (lv_at hl 2 rfl) ?_
  refine lv_irem hx hb dL_law_535 (fun h9 => absurd ((nI_z (by omega)).mp h9) (by omega)) ?_
  refine b_tp (pk_rem (by omega) (by omega) (by omega)) ?_
  refine lv_iload hx hb dL_law_536 (lv_at hl 7 rfl) ?_
  refine lv_iload_n hx hb dL_law_538 rfl (lv_at hl 3 rfl) ?_
  refine lv_irem hx hb dL_law_539 (fun h9 => absurd ((nI_z (by omega)).mp h9) (by omega)) ?_
  refine b_tp (pk_rem (by omega) (by omega) (by omega)) ?_
  refine lv_iconst (v := nI 5) hx hb dL_law_540 (by decide) ?_
  refine lv_iload hx hb dL_law_541 (lv_at hl 6 rfl) ?_
  refine lv_iconst (v := nI 5) hx hb dL_law_543 (by decide) ?_
  refine lv_irem hx hb dL_law_544 (by decide) ?_
  refine b_tp (pk_rem (by omega) (by decide) (by decide)) ?_
  refine lv_if_le (tgt := 552) hx hb dL_law_545 (by decide) (fun c_545_1 => ?_) (fun c_545_1 => ?_)
  · have q_545_2 : (y % 5) = 0 := Nat.le_zero.mp (q_le (b := 0) (by decide) (by omega) c_545_1)
    refine lv_iconst (v := nI 0) hx hb dL_law_552 (by decide) ?_
    refine b_tp (show nI 0 = bI false from rfl) ?_
    refine hs_calli w (va_runV (As := [.int (nI (y % (hs_nA x))), .int (nI (z % (hs_nJ x))), .int (nI 5), .int (bI false)]) (rest := []) X (n_secret l hl0 G _ a _ _ _ _ hI (nI (y % (hs_nA x))) (nI (z % (hs_nJ x))) (nI 5) false ⟨(by unfold hT_secret; rw [la_ok (Nat.mod_lt y hA0) (Nat.mod_lt z hJ0) (by decide) hnA hnJ]; rfl), rfl, rfl⟩) (cwV 4 hts gL_law_X5_secret rfl rfl rfl (by decide +kernel) ⟨Nat.le_of_ble_eq_true rfl, Nat.le_of_ble_eq_true rfl⟩) ⟨b_blind, hs_recv E w, fun U9 hU9 hW9 => ⟨rfl, hs_pre E Z9 w hm9 U9 hU9 hW9⟩⟩ rfl rfl hl.1 rfl (lv_room (Nat.le_of_ble_eq_true rfl)) dL_law_553 ⟨by show _ ≤ 600074; omega, by show _ ≤ 7301550; omega⟩) hm9 (fun r i H locs hr w => ?_)
    obtain ⟨hI, hr9, -⟩ := hr
    refine b_tp hr9 ?_
    refine lv_istore (lv' := [(10, .int (hV_hidden (hX_secret x (nI (y % (hs_nA x))) (nI (z % (hs_nJ x))) (nI 5) false) (nI 5))), (0, .ref b), (1, .ref (a 0)), (2, .int (nI (hs_nA x))), (3, .int (nI (hs_nJ x))), (4, .int (nI (hs_td x))), (5, .int (nI k)), (8, .int (nI y)), (9, .int (nI z))]) hx hb dL_law_556 hl (by decide) rfl (fun ls hl => ?_)
    refine lv_iload hx hb dL_law_558 (lv_at hl 0 rfl) ?_
    refine lv_aload_n hx hb dL_law_560 rfl (lv_at hl 2 rfl) ?_
    refine lv_iconst (v := nI 5) hx hb dL_law_561 (by decide) ?_
    refine hs_calli w (va_runV (As := [.int (nI 5)]) (rest := [.int (hV_hidden (hX_secret x (nI (y % (hs_nA x))) (nI (z % (hs_nJ x))) (nI 5) false) (nI 5))]) X (n_hidden l hl0 G _ a _ _ _ _ hI (nI 5) ⟨(show hs_t1 1 (tHas 12 (nI 5)) = 0 from by decide), rfl, rfl⟩) (cwV 1 hts gL_law_X5_hidden rfl rfl rfl (by decide +kernel) ⟨Nat.le_of_ble_eq_true rfl, Nat.le_of_ble_eq_true rfl⟩) ⟨b_blind, hs_recv E w, fun U9 hU9 hW9 => ⟨rfl, hs_pre E Z9 w hm9 U9 hU9 hW9⟩⟩ rfl rfl hl.1 rfl (lv_room (Nat.le_of_ble_eq_true rfl)) dL_law_562 ⟨by show _ ≤ 600074; omega, by show _ ≤ 7301550; omega⟩) hm9 (fun r i H locs hr w => ?_)
    obtain ⟨hI, hr9, -⟩ := hr
    refine b_tp hr9 ?_
    refine lv_icmp_eq (tgt := 570) hx hb dL_law_565 (by decide) (fun c9 => ?_) (fun c9 => absurd rfl c9)
    refine lv_goto (tgt := 611) hx hb dL_law_570 (by decide) ?_
    refine W.widen (k := cells + 60) (n := slots + 400) (by omega) (by omega) ?_
    exact kk (hX_secret x (nI (y % (hs_nA x))) (nI (z % (hs_nJ x))) (nI 5) false) i _ _ _ hL hI w (lv_sub hl [1, 2, 3, 4, 5, 6, 7] rfl)
  · have q_545_2 : 0 < (y % 5) := q_nle (b := 0) (by decide) (by omega) c_545_1
    refine lv_iconst (v := nI 1) hx hb dL_law_548 (by decide) ?_
    refine lv_goto (tgt := 553) hx hb dL_law_549 (by decide) ?_
    refine b_tp (show nI 1 = bI true from rfl) ?_
    refine hs_calli w (va_runV (As := [.int (nI (y % (hs_nA x))), .int (nI (z % (hs_nJ x))), .int (nI 5), .int (bI true)]) (rest := []) X (n_secret l hl0 G _ a _ _ _ _ hI (nI (y % (hs_nA x))) (nI (z % (hs_nJ x))) (nI 5) true ⟨(by unfold hT_secret; rw [la_ok (Nat.mod_lt y hA0) (Nat.mod_lt z hJ0) (by decide) hnA hnJ]; rfl), rfl, rfl⟩) (cwV 4 hts gL_law_X5_secret rfl rfl rfl (by decide +kernel) ⟨Nat.le_of_ble_eq_true rfl, Nat.le_of_ble_eq_true rfl⟩) ⟨b_blind, hs_recv E w, fun U9 hU9 hW9 => ⟨rfl, hs_pre E Z9 w hm9 U9 hU9 hW9⟩⟩ rfl rfl hl.1 rfl (lv_room (Nat.le_of_ble_eq_true rfl)) dL_law_553 ⟨by show _ ≤ 600074; omega, by show _ ≤ 7301550; omega⟩) hm9 (fun r i H locs hr w => ?_)
    obtain ⟨hI, hr9, -⟩ := hr
    refine b_tp hr9 ?_
    refine lv_istore (lv' := [(10, .int (hV_hidden (hX_secret x (nI (y % (hs_nA x))) (nI (z % (hs_nJ x))) (nI 5) true) (nI 5))), (0, .ref b), (1, .ref (a 0)), (2, .int (nI (hs_nA x))), (3, .int (nI (hs_nJ x))), (4, .int (nI (hs_td x))), (5, .int (nI k)), (8, .int (nI y)), (9, .int (nI z))]) hx hb dL_law_556 hl (by decide) rfl (fun ls hl => ?_)
    refine lv_iload hx hb dL_law_558 (lv_at hl 0 rfl) ?_
    refine lv_aload_n hx hb dL_law_560 rfl (lv_at hl 2 rfl) ?_
    refine lv_iconst (v := nI 5) hx hb dL_law_561 (by decide) ?_
    refine hs_calli w (va_runV (As := [.int (nI 5)]) (rest := [.int (hV_hidden (hX_secret x (nI (y % (hs_nA x))) (nI (z % (hs_nJ x))) (nI 5) true) (nI 5))]) X (n_hidden l hl0 G _ a _ _ _ _ hI (nI 5) ⟨(show hs_t1 1 (tHas 12 (nI 5)) = 0 from by decide), rfl, rfl⟩) (cwV 1 hts gL_law_X5_hidden rfl rfl rfl (by decide +kernel) ⟨Nat.le_of_ble_eq_true rfl, Nat.le_of_ble_eq_true rfl⟩) ⟨b_blind, hs_recv E w, fun U9 hU9 hW9 => ⟨rfl, hs_pre E Z9 w hm9 U9 hU9 hW9⟩⟩ rfl rfl hl.1 rfl (lv_room (Nat.le_of_ble_eq_true rfl)) dL_law_562 ⟨by show _ ≤ 600074; omega, by show _ ≤ 7301550; omega⟩) hm9 (fun r i H locs hr w => ?_)
    obtain ⟨hI, hr9, -⟩ := hr
    refine b_tp hr9 ?_
    refine lv_icmp_eq (tgt := 570) hx hb dL_law_565 (by decide) (fun c9 => ?_) (fun c9 => absurd rfl c9)
    refine lv_goto (tgt := 611) hx hb dL_law_570 (by decide) ?_
    refine W.widen (k := cells + 60) (n := slots + 400) (by omega) (by omega) ?_
    exact kk (hX_secret x (nI (y % (hs_nA x))) (nI (z % (hs_nJ x))) (nI 5) true) i _ _ _ hL hI w (lv_sub hl [1, 2, 3, 4, 5, 6, 7] rfl)
set_option maxHeartbeats 4000000 in
set_option maxRecDepth 100000 in
theorem lp_agree {p : Program} {l : Launch} (hl0 : l.stackTraces = false) {e : Env} {s : State} {m : MethodId} {below : List Frame} {meth : Method} {c : Code} {G : bG} {b : Nat} {Q : State → Prop} (X : CallFix p m c cL_law 16 s #[Value.ref b] wsL_law RL) (E : bE G vwCl bNW bSW s) {a : Nat → Nat} (Z9 : bZ [] s) (hm9 : ∀ q ∈ hs_M a, Aw [] s.heap.size q) {x : hs_E} {k y z : Nat} (hy : y < 16777216) (hz : z < 16777216) (hA0 : 0 < hs_nA x) (hJ0 : 0 < hs_nJ x) (hL : hs_L x) {i : hs_I} {H : Heap} {locs : List Loc} {ls : Array Slot} {cells slots : Nat} (hc : cells ≤ 500000) (hs : slots ≤ 7000000) (hI : hs_Inv x i) (w : bSt G vwCl [] s (hs_W G a x i) H locs) (hl : lv_has ls 16 [(0, .ref b), (1, .ref (a 0)), (2, .int (nI (hs_nA x))), (3, .int (nI (hs_nJ x))), (4, .int (nI (hs_td x))), (5, .int (nI k)), (8, .int (nI y)), (9, .int (nI z))]) 
    (kk : ∀ (x' : hs_E) (i : hs_I) (H : Heap) (locs : List Loc) (ls : Array Slot), hs_L x' → hs_Inv x' i → bSt G vwCl [] s (hs_W G a x' i) H locs → lv_has ls 16 [(0, .ref b), (1, .ref (a 0)), (2, .int (nI (hs_nA x'))), (3, .int (nI (hs_nJ x'))), (4, .int (nI (hs_td x'))), (5, .int (nI k)), (8, .int (nI y))] → W p l e room_1 s m #[Value.ref b] below meth c H locs (cells + 60) (slots + 400) Q (F0 m 611 ls [])) : W p l e room_1 s m #[Value.ref b] below meth c H locs cells slots Q (F0 m 425 ls []) := by
  have hx := X.1
  have hb := X.2.1
  have hml := X.2.2.1
  have hown := X.2.2.2.1
  have hts := X.2.2.2.2
  obtain ⟨⟨hnA, hnJ, hTA, hTJ, htd, hst, hbs, hjd, hdn⟩, hbk, hdr, hK⟩ := id hI
  rcases Nat.eq_zero_or_pos (y % 3) with h3 | h3
  · obtain ⟨b1_, eb1⟩ : ∃ B, hV_mayTell x (nI (y % 4)) (nI (z % hs_nA x)) = bI B := ⟨_, rfl⟩
    refine lv_aload_n hx hb dL_law_425 rfl (lv_at hl 1 rfl) ?_
    refine lv_iload hx hb dL_law_426 (lv_at hl 6 rfl) ?_
    refine lv_iconst (v := nI 4) hx hb dL_law_428 (by decide) ?_
    refine lv_irem hx hb dL_law_429 (by decide) ?_
    refine b_tp (pk_rem (by omega) (by decide) (by decide)) ?_
    refine lv_iload hx hb dL_law_430 (lv_at hl 7 rfl) ?_
    refine lv_iload_n hx hb dL_law_432 rfl (lv_at hl 2 rfl) ?_
    refine lv_irem hx hb dL_law_433 (fun h9 => absurd ((nI_z (by omega)).mp h9) (by omega)) ?_
    refine b_tp (pk_rem (by omega) (by omega) (by omega)) ?_
    refine hs_calli w (va_runV (As := [.int (nI (y % 4)), .int (nI (z % (hs_nA x)))]) (rest := []) X (n_mayTell l hl0 G _ a _ _ _ _ hI (nI (y % 4)) (nI (z % (hs_nA x))) ⟨la_mt (Nat.mod_lt y (by decide)) (Nat.mod_lt z hA0) (Nat.le_trans hnA (by decide)), rfl, eb1⟩) (cwV 2 hts gL_law_X5_mayTell rfl rfl rfl (by decide +kernel) ⟨Nat.le_of_ble_eq_true rfl, Nat.le_of_ble_eq_true rfl⟩) ⟨b_blind, hs_recv E w, fun U9 hU9 hW9 => ⟨rfl, hs_pre E Z9 w hm9 U9 hU9 hW9⟩⟩ rfl rfl hl.1 rfl (lv_room (Nat.le_of_ble_eq_true rfl)) dL_law_434 ⟨by show _ ≤ 600074; omega, by show _ ≤ 7301550; omega⟩) hm9 (fun r i H locs hr w => ?_)
    obtain ⟨hI, hr9⟩ := hr
    refine b_tp hr9 ?_
    refine lv_istore (lv' := [(10, .int (bI b1_)), (0, .ref b), (1, .ref (a 0)), (2, .int (nI (hs_nA x))), (3, .int (nI (hs_nJ x))), (4, .int (nI (hs_td x))), (5, .int (nI k)), (8, .int (nI y)), (9, .int (nI z))]) hx hb dL_law_437 hl (by decide) rfl (fun ls hl => ?_)
    refine lv_aload_n hx hb dL_law_439 rfl (lv_at hl 2 rfl) ?_
    refine lv_iload hx hb dL_law_440 (lv_at hl 7 rfl) ?_
    refine lv_iconst (v := nI 4) hx hb dL_law_442 (by decide) ?_
    refine lv_irem hx hb dL_law_443 (by decide) ?_
    refine b_tp (pk_rem (by omega) (by decide) (by decide)) ?_
    refine lv_iload hx hb dL_law_444 (lv_at hl 8 rfl) ?_
    refine lv_iload_n hx hb dL_law_446 rfl (lv_at hl 3 rfl) ?_
    refine lv_irem hx hb dL_law_447 (fun h9 => absurd ((nI_z (by omega)).mp h9) (by omega)) ?_
    refine b_tp (pk_rem (by omega) (by omega) (by omega)) ?_
    obtain ⟨b2_, eb2⟩ : ∃ B, hV_agree x (nI (y % 4)) (nI (z % hs_nA x)) false = bI B := ⟨_, rfl⟩
    refine lv_iload hx hb dL_law_448 (lv_at hl 7 rfl) ?_
    refine lv_iconst (v := nI 3) hx hb dL_law_450 (by decide) ?_
    refine lv_irem hx hb dL_law_451 (by decide) ?_
    refine b_tp (pk_rem (by omega) (by decide) (by decide)) ?_
    refine lv_if_le (tgt := 459) hx hb dL_law_452 (by decide) (fun c_452_1 => ?_) (fun c_452_1 => ?_)
    · have q_452_2 : (y % 3) = 0 := Nat.le_zero.mp (q_le (b := 0) (by decide) (by omega) c_452_1)
      refine lv_iconst (v := nI 0) hx hb dL_law_459 (by decide) ?_
      refine b_tp (show nI 0 = bI false from rfl) ?_
      refine hs_calli w (va_runV (As := [.int (nI (y % 4)), .int (nI (z % (hs_nA x))), .int (bI false)]) (rest := []) X (n_agree l hl0 G _ a _ _ _ _ hI (nI (y % 4)) (nI (z % (hs_nA x))) false ⟨la_ag (Nat.mod_lt y (by decide)) (Nat.mod_lt z hA0) (Nat.le_trans hnA (by decide)), rfl, eb2⟩) (cwV 3 hts gL_law_X5_agree rfl rfl rfl (by decide +kernel) ⟨Nat.le_of_ble_eq_true rfl, Nat.le_of_ble_eq_true rfl⟩) ⟨b_blind, hs_recv E w, fun U9 hU9 hW9 => ⟨rfl, hs_pre E Z9 w hm9 U9 hU9 hW9⟩⟩ rfl rfl hl.1 rfl (lv_room (Nat.le_of_ble_eq_true rfl)) dL_law_460 ⟨by show _ ≤ 600074; omega, by show _ ≤ 7301550; omega⟩) hm9 (fun r i H locs hr w => ?_)
      obtain ⟨hI, hr9⟩ := hr
      refine b_tp hr9 ?_
      refine lv_istore (lv' := [(11, .int (bI b2_)), (10, .int (bI b1_)), (0, .ref b), (1, .ref (a 0)), (2, .int (nI (hs_nA x))), (3, .int (nI (hs_nJ x))), (4, .int (nI (hs_td x))), (5, .int (nI k)), (8, .int (nI y)), (9, .int (nI z))]) hx hb dL_law_463 hl (by decide) rfl (fun ls hl => ?_)
      refine lv_iload hx hb dL_law_465 (lv_at hl 8 rfl) ?_
      refine lv_iconst (v := nI 3) hx hb dL_law_467 (by decide) ?_
      refine lv_irem hx hb dL_law_468 (by decide) ?_
      refine b_tp (pk_rem (by omega) (by decide) (by decide)) ?_
      refine lv_if_le (tgt := 487) hx hb dL_law_469 (by decide) (fun c_469_3 => ?_) (fun c_469_3 => ?_)
      · have q_469_4 : (y % 3) = 0 := Nat.le_zero.mp (q_le (b := 0) (by decide) (by omega) c_469_3)
        refine lv_iload hx hb dL_law_487 (lv_at hl 0 rfl) ?_
        refine lv_if_eq (tgt := 521) hx hb dL_law_489 (by decide) (fun c_489_5 => ?_) (fun c_489_5 => ?_)
        · have q_489_6 : b2_ = false := bI_0.mp c_489_5
          refine lv_goto (tgt := 611) hx hb dL_law_521 (by decide) ?_
          refine W.widen (k := cells + 60) (n := slots + 400) (by omega) (by omega) ?_
          exact kk (hX_agree x (nI (y % 4)) (nI (z % hs_nA x)) false) i _ _ _ hL hI w (lv_sub hl [2, 3, 4, 5, 6, 7, 8] rfl)
        · have q_489_6 : b2_ = true := bI_n0.mp c_489_5
          refine lv_iload hx hb dL_law_492 (lv_at hl 1 rfl) ?_
          refine lv_if_eq (tgt := 521) hx hb dL_law_494 (by decide) (fun c_494_7 => ?_) (fun c_494_7 => ?_)
          · have q_494_8 : b1_ = false := bI_0.mp c_494_7
            refine lv_goto (tgt := 611) hx hb dL_law_521 (by decide) ?_
            refine W.widen (k := cells + 60) (n := slots + 400) (by omega) (by omega) ?_
            exact kk (hX_agree x (nI (y % 4)) (nI (z % hs_nA x)) false) i _ _ _ hL hI w (lv_sub hl [2, 3, 4, 5, 6, 7, 8] rfl)
          · have q_494_8 : b1_ = true := bI_n0.mp c_494_7
            refine lv_iload hx hb dL_law_497 (lv_at hl 8 rfl) ?_
            refine lv_iconst (v := nI 3) hx hb dL_law_499 (by decide) ?_
            refine lv_irem hx hb dL_law_500 (by decide) ?_
            refine b_tp (pk_rem (by omega) (by decide) (by decide)) ?_
            refine lv_if_le (tgt := 521) hx hb dL_law_501 (by decide) (fun c_501_9 => ?_) (fun c_501_9 => ?_)
            · have q_501_10 : (y % 3) = 0 := Nat.le_zero.mp (q_le (b := 0) (by decide) (by omega) c_501_9)
              refine lv_goto (tgt := 611) hx hb dL_law_521 (by decide) ?_
              refine W.widen (k := cells + 60) (n := slots + 400) (by omega) (by omega) ?_
              exact kk (hX_agree x (nI (y % 4)) (nI (z % hs_nA x)) false) i _ _ _ hL hI w (lv_sub hl [2, 3, 4, 5, 6, 7, 8] rfl)
            · have q_501_10 : 0 < (y % 3) := q_nle (b := 0) (by decide) (by omega) c_501_9
              exact absurd h3 (Nat.pos_iff_ne_zero.mp q_501_10)
      · have q_469_4 : 0 < (y % 3) := q_nle (b := 0) (by decide) (by omega) c_469_3
        exact absurd h3 (Nat.pos_iff_ne_zero.mp q_469_4)
    · have q_452_2 : 0 < (y % 3) := q_nle (b := 0) (by decide) (by omega) c_452_1
      exact absurd h3 (Nat.pos_iff_ne_zero.mp q_452_2)
  · obtain ⟨b1_, eb1⟩ : ∃ B, hV_mayTell x (nI (y % 4)) (nI (z % hs_nA x)) = bI B := ⟨_, rfl⟩
    refine lv_aload_n hx hb dL_law_425 rfl (lv_at hl 1 rfl) ?_
    refine lv_iload hx hb dL_law_426 (lv_at hl 6 rfl) ?_
    refine lv_iconst (v := nI 4) hx hb dL_law_428 (by decide) ?_
    refine lv_irem hx hb dL_law_429 (by decide) ?_
    refine b_tp (pk_rem (by omega) (by decide) (by decide)) ?_
    refine lv_iload hx hb dL_law_430 (lv_at hl 7 rfl) ?_
    refine lv_iload_n hx hb dL_law_432 rfl (lv_at hl 2 rfl) ?_
    refine lv_irem hx hb dL_law_433 (fun h9 => absurd ((nI_z (by omega)).mp h9) (by omega)) ?_
    refine b_tp (pk_rem (by omega) (by omega) (by omega)) ?_
    refine hs_calli w (va_runV (As := [.int (nI (y % 4)), .int (nI (z % (hs_nA x)))]) (rest := []) X (n_mayTell l hl0 G _ a _ _ _ _ hI (nI (y % 4)) (nI (z % (hs_nA x))) ⟨la_mt (Nat.mod_lt y (by decide)) (Nat.mod_lt z hA0) (Nat.le_trans hnA (by decide)), rfl, eb1⟩) (cwV 2 hts gL_law_X5_mayTell rfl rfl rfl (by decide +kernel) ⟨Nat.le_of_ble_eq_true rfl, Nat.le_of_ble_eq_true rfl⟩) ⟨b_blind, hs_recv E w, fun U9 hU9 hW9 => ⟨rfl, hs_pre E Z9 w hm9 U9 hU9 hW9⟩⟩ rfl rfl hl.1 rfl (lv_room (Nat.le_of_ble_eq_true rfl)) dL_law_434 ⟨by show _ ≤ 600074; omega, by show _ ≤ 7301550; omega⟩) hm9 (fun r i H locs hr w => ?_)
    obtain ⟨hI, hr9⟩ := hr
    refine b_tp hr9 ?_
    refine lv_istore (lv' := [(10, .int (bI b1_)), (0, .ref b), (1, .ref (a 0)), (2, .int (nI (hs_nA x))), (3, .int (nI (hs_nJ x))), (4, .int (nI (hs_td x))), (5, .int (nI k)), (8, .int (nI y)), (9, .int (nI z))]) hx hb dL_law_437 hl (by decide) rfl (fun ls hl => ?_)
    refine lv_aload_n hx hb dL_law_439 rfl (lv_at hl 2 rfl) ?_
    refine lv_iload hx hb dL_law_440 (lv_at hl 7 rfl) ?_
    refine lv_iconst (v := nI 4) hx hb dL_law_442 (by decide) ?_
    refine lv_irem hx hb dL_law_443 (by decide) ?_
    refine b_tp (pk_rem (by omega) (by decide) (by decide)) ?_
    refine lv_iload hx hb dL_law_444 (lv_at hl 8 rfl) ?_
    refine lv_iload_n hx hb dL_law_446 rfl (lv_at hl 3 rfl) ?_
    refine lv_irem hx hb dL_law_447 (fun h9 => absurd ((nI_z (by omega)).mp h9) (by omega)) ?_
    refine b_tp (pk_rem (by omega) (by omega) (by omega)) ?_
    obtain ⟨b2_, eb2⟩ : ∃ B, hV_agree x (nI (y % 4)) (nI (z % hs_nA x)) true = bI B := ⟨_, rfl⟩
    refine lv_iload hx hb dL_law_448 (lv_at hl 7 rfl) ?_
    refine lv_iconst (v := nI 3) hx hb dL_law_450 (by decide) ?_
    refine lv_irem hx hb dL_law_451 (by decide) ?_
    refine b_tp (pk_rem (by omega) (by decide) (by decide)) ?_
    refine lv_if_le (tgt := 459) hx hb dL_law_452 (by decide) (fun c_452_11 => ?_) (fun c_452_11 => ?_)
    · have q_452_12 : (y % 3) = 0 := Nat.le_zero.mp (q_le (b := 0) (by decide) (by omega) c_452_11)
      exact absurd q_452_12 (Nat.pos_iff_ne_zero.mp h3)
    · have q_452_12 : 0 < (y % 3) := q_nle (b := 0) (by decide) (by omega) c_452_11
      refine lv_iconst (v := nI 1) hx hb dL_law_455 (by decide) ?_
      refine lv_goto (tgt := 460) hx hb dL_law_456 (by decide) ?_
      refine b_tp (show nI 1 = bI true from rfl) ?_
      refine hs_calli w (va_runV (As := [.int (nI (y % 4)), .int (nI (z % (hs_nA x))), .int (bI true)]) (rest := []) X (n_agree l hl0 G _ a _ _ _ _ hI (nI (y % 4)) (nI (z % (hs_nA x))) true ⟨la_ag (Nat.mod_lt y (by decide)) (Nat.mod_lt z hA0) (Nat.le_trans hnA (by decide)), rfl, eb2⟩) (cwV 3 hts gL_law_X5_agree rfl rfl rfl (by decide +kernel) ⟨Nat.le_of_ble_eq_true rfl, Nat.le_of_ble_eq_true rfl⟩) ⟨b_blind, hs_recv E w, fun U9 hU9 hW9 => ⟨rfl, hs_pre E Z9 w hm9 U9 hU9 hW9⟩⟩ rfl rfl hl.1 rfl (lv_room (Nat.le_of_ble_eq_true rfl)) dL_law_460 ⟨by show _ ≤ 600074; omega, by show _ ≤ 7301550; omega⟩) hm9 (fun r i H locs hr w => ?_)
      obtain ⟨hI, hr9⟩ := hr
      refine b_tp hr9 ?_
      refine lv_istore (lv' := [(11, .int (bI b2_)), (10, .int (bI b1_)), (0, .ref b), (1, .ref (a 0)), (2, .int (nI (hs_nA x))), (3, .int (nI (hs_nJ x))), (4, .int (nI (hs_td x))), (5, .int (nI k)), (8, .int (nI y)), (9, .int (nI z))]) hx hb dL_law_463 hl (by decide) rfl (fun ls hl => ?_)
      refine lv_iload hx hb dL_law_465 (lv_at hl 8 rfl) ?_
      refine lv_iconst (v := nI 3) hx hb dL_law_467 (by decide) ?_
      refine lv_irem hx hb dL_law_468 (by decide) ?_
      refine b_tp (pk_rem (by omega) (by decide) (by decide)) ?_
      refine lv_if_le (tgt := 487) hx hb dL_law_469 (by decide) (fun c_469_13 => ?_) (fun c_469_13 => ?_)
      · have q_469_14 : (y % 3) = 0 := Nat.le_zero.mp (q_le (b := 0) (by decide) (by omega) c_469_13)
        exact absurd q_469_14 (Nat.pos_iff_ne_zero.mp h3)
      · have q_469_14 : 0 < (y % 3) := q_nle (b := 0) (by decide) (by omega) c_469_13
        refine lv_aload_n hx hb dL_law_472 rfl (lv_at hl 3 rfl) ?_
        refine lv_iload hx hb dL_law_473 (lv_at hl 8 rfl) ?_
        refine lv_iconst (v := nI 4) hx hb dL_law_475 (by decide) ?_
        refine lv_irem hx hb dL_law_476 (by decide) ?_
        refine b_tp (pk_rem (by omega) (by decide) (by decide)) ?_
        refine lv_iload hx hb dL_law_477 (lv_at hl 9 rfl) ?_
        refine lv_iload_n hx hb dL_law_479 rfl (lv_at hl 4 rfl) ?_
        refine lv_irem hx hb dL_law_480 (fun h9 => absurd ((nI_z (by omega)).mp h9) (by omega)) ?_
        refine b_tp (pk_rem (by omega) (by omega) (by omega)) ?_
        refine hs_calli w (va_runV (As := [.int (nI (y % 4)), .int (nI (z % (hs_nA x)))]) (rest := []) X (n_mayTell l hl0 G _ a _ _ _ _ hI (nI (y % 4)) (nI (z % (hs_nA x))) ⟨la_mt (Nat.mod_lt y (by decide)) (Nat.mod_lt z hA0) (Nat.le_trans hnA (by decide)), rfl, la_may hnA (Nat.mod_lt y (by decide)) (Nat.mod_lt z hA0)⟩) (cwV 2 hts gL_law_X5_mayTell rfl rfl rfl (by decide +kernel) ⟨Nat.le_of_ble_eq_true rfl, Nat.le_of_ble_eq_true rfl⟩) ⟨b_blind, hs_recv E w, fun U9 hU9 hW9 => ⟨rfl, hs_pre E Z9 w hm9 U9 hU9 hW9⟩⟩ rfl rfl hl.1 rfl (lv_room (Nat.le_of_ble_eq_true rfl)) dL_law_481 ⟨by show _ ≤ 600074; omega, by show _ ≤ 7301550; omega⟩) hm9 (fun r i H locs hr w => ?_)
        obtain ⟨hI, hr9⟩ := hr
        refine b_tp hr9 ?_
        refine lv_if_eq (tgt := 519) hx hb dL_law_484 (by decide) (fun c9 => absurd c9 (by decide)) (fun c9 => ?_)
        refine lv_iload hx hb dL_law_487 (lv_at hl 0 rfl) ?_
        refine lv_if_eq (tgt := 521) hx hb dL_law_489 (by decide) (fun c_489_15 => ?_) (fun c_489_15 => ?_)
        · have q_489_16 : b2_ = false := bI_0.mp c_489_15
          refine lv_goto (tgt := 611) hx hb dL_law_521 (by decide) ?_
          refine W.widen (k := cells + 60) (n := slots + 400) (by omega) (by omega) ?_
          exact kk (hX_agree x (nI (y % 4)) (nI (z % hs_nA x)) true) i _ _ _ hL hI w (lv_sub hl [2, 3, 4, 5, 6, 7, 8] rfl)
        · have q_489_16 : b2_ = true := bI_n0.mp c_489_15
          refine lv_iload hx hb dL_law_492 (lv_at hl 1 rfl) ?_
          refine lv_if_eq (tgt := 521) hx hb dL_law_494 (by decide) (fun c_494_17 => ?_) (fun c_494_17 => ?_)
          · have q_494_18 : b1_ = false := bI_0.mp c_494_17
            refine lv_goto (tgt := 611) hx hb dL_law_521 (by decide) ?_
            refine W.widen (k := cells + 60) (n := slots + 400) (by omega) (by omega) ?_
            exact kk (hX_agree x (nI (y % 4)) (nI (z % hs_nA x)) true) i _ _ _ hL hI w (lv_sub hl [2, 3, 4, 5, 6, 7, 8] rfl)
          · have q_494_18 : b1_ = true := bI_n0.mp c_494_17
            refine lv_iload hx hb dL_law_497 (lv_at hl 8 rfl) ?_
            refine lv_iconst (v := nI 3) hx hb dL_law_499 (by decide) ?_
            refine lv_irem hx hb dL_law_500 (by decide) ?_
            refine b_tp (pk_rem (by omega) (by decide) (by decide)) ?_
            refine lv_if_le (tgt := 521) hx hb dL_law_501 (by decide) (fun c_501_19 => ?_) (fun c_501_19 => ?_)
            · have q_501_20 : (y % 3) = 0 := Nat.le_zero.mp (q_le (b := 0) (by decide) (by omega) c_501_19)
              exact absurd q_501_20 (Nat.pos_iff_ne_zero.mp h3)
            · have q_501_20 : 0 < (y % 3) := q_nle (b := 0) (by decide) (by omega) c_501_19
              refine lv_aload_n hx hb dL_law_504 rfl (lv_at hl 3 rfl) ?_
              refine lv_iload hx hb dL_law_505 (lv_at hl 8 rfl) ?_
              refine lv_iconst (v := nI 4) hx hb dL_law_507 (by decide) ?_
              refine lv_irem hx hb dL_law_508 (by decide) ?_
              refine b_tp (pk_rem (by omega) (by decide) (by decide)) ?_
              refine lv_iload hx hb dL_law_509 (lv_at hl 9 rfl) ?_
              refine lv_iload_n hx hb dL_law_511 rfl (lv_at hl 4 rfl) ?_
              refine lv_irem hx hb dL_law_512 (fun h9 => absurd ((nI_z (by omega)).mp h9) (by omega)) ?_
              refine b_tp (pk_rem (by omega) (by omega) (by omega)) ?_
              refine hs_calli w (va_runV (As := [.int (nI (y % 4)), .int (nI (z % (hs_nA x)))]) (rest := []) X (n_mayTell l hl0 G _ a _ _ _ _ hI (nI (y % 4)) (nI (z % (hs_nA x))) ⟨la_mt (Nat.mod_lt y (by decide)) (Nat.mod_lt z hA0) (Nat.le_trans hnA (by decide)), rfl, la_may hnA (Nat.mod_lt y (by decide)) (Nat.mod_lt z hA0)⟩) (cwV 2 hts gL_law_X5_mayTell rfl rfl rfl (by decide +kernel) ⟨Nat.le_of_ble_eq_true rfl, Nat.le_of_ble_eq_true rfl⟩) ⟨b_blind, hs_recv E w, fun U9 hU9 hW9 => ⟨rfl, hs_pre E Z9 w hm9 U9 hU9 hW9⟩⟩ rfl rfl hl.1 rfl (lv_room (Nat.le_of_ble_eq_true rfl)) dL_law_513 ⟨by show _ ≤ 600074; omega, by show _ ≤ 7301550; omega⟩) hm9 (fun r i H locs hr w => ?_)
              obtain ⟨hI, hr9⟩ := hr
              refine b_tp hr9 ?_
              refine lv_if_ne (tgt := 521) hx hb dL_law_516 (by decide) (fun c9 => ?_) (fun c9 => absurd c9 (by decide))
              refine lv_goto (tgt := 611) hx hb dL_law_521 (by decide) ?_
              refine W.widen (k := cells + 60) (n := slots + 400) (by omega) (by omega) ?_
              exact kk (hX_agree x (nI (y % 4)) (nI (z % hs_nA x)) true) i _ _ _ hL hI w (lv_sub hl [2, 3, 4, 5, 6, 7, 8] rfl)
