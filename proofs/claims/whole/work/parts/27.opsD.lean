set_option maxHeartbeats 4000000 in
set_option maxRecDepth 100000 in
theorem op_shown {p : Program} {l : Launch} (hl0 : l.stackTraces = false) {e : Env} {s : State} {m : MethodId} {below : List Frame} {meth : Method} {c : Code} {G : bG} {b L : Nat} {xs : Nat → Int32} {Q : State → Prop} (X : CallFix p m c cL_law 7 s #[Value.ref b] wsL_law RL) (E : bE G vwCl bNW bSW s) (Z0 : bZ [] s) (hX : va_X b L xs s s.heap) (hbl : b < s.heap.size) (hL : L ≤ 3584) {H0 M ot : Nat} {u5 u6 : Nat → Nat} (hH0 : s.heap.size ≤ H0) (hM : s.heap.size ≤ M) (hot : s.heap.size ≤ ot) (h5 : ∀ k, k < 24 → s.heap.size ≤ u5 k) (h6 : ∀ k, k < 13 → s.heap.size ≤ u6 k) {i : Nat} (hi : i + 7 ≤ L) {cells slots : Nat} (hcR : cells + 8 ≤ room_1.cells) (hsR : slots + 48 ≤ room_1.slots) {H : Heap} {locs : List Loc} {ls : Array Slot} (hLC : LC G s H0 M ot u5 u6 H locs) (hl : lv_has ls 7 [(0, .ref b), (1, .ref H0), (2, .ref M), (3, .ref ot), (4, .int (nI i))]) (kk : ∀ (H : Heap) (locs : List Loc) (ls : Array Slot), LC G s H0 M ot u5 u6 H locs → lv_has ls 7 [(0, .ref b), (1, .ref H0), (2, .ref M), (3, .ref ot), (4, .int (nI i))] → W p l e room_1 s m #[Value.ref b] below meth c H locs (cells + 8) (slots + 48) Q (F0 m 1496 ls [])) : W p l e room_1 s m #[Value.ref b] below meth c H locs cells slots Q (F0 m 1167 ls []) := by
  have hx := X.1
  have hb := X.2.1
  have hml := X.2.2.1
  have hown := X.2.2.2.1
  have hts := X.2.2.2.2
  have hbA : ¬ Aw [] s.heap.size b := fun h => h.elim (fun h => nomatch h) (fun h => absurd hbl (Nat.not_lt.mpr h))
  obtain ⟨jd, snt, td, nA, nJ, dn, bn, fA, fJ, da, dw, dc, dv, lat, ear, cnt, ld, bc, bd, bf, rf, v, vm, on, sc, hid, hm, og, th, hI, w⟩ := hLC
  obtain ⟨⟨hnA, hnJ, hTA, hTJ, htd, hst, hbs, hjd, hdn9⟩, hbk, hdr, hK⟩ := id hI
  have hbn : bn ≤ 300 := by omega
  obtain ⟨x1, ex1⟩ : ∃ y : Int32, y = xs (nI (i + 1)).toNatClampNeg := ⟨_, rfl⟩
  obtain ⟨x2, ex2⟩ : ∃ y : Int32, y = xs (nI (i + 2)).toNatClampNeg := ⟨_, rfl⟩
  obtain ⟨x3, ex3⟩ : ∃ y : Int32, y = xs (nI (i + 3)).toNatClampNeg := ⟨_, rfl⟩
  obtain ⟨x4, ex4⟩ : ∃ y : Int32, y = xs (nI (i + 4)).toNatClampNeg := ⟨_, rfl⟩
  obtain ⟨x5, ex5⟩ : ∃ y : Int32, y = xs (nI (i + 5)).toNatClampNeg := ⟨_, rfl⟩
  obtain ⟨x6, ex6⟩ : ∃ y : Int32, y = xs (nI (i + 6)).toNatClampNeg := ⟨_, rfl⟩
  refine lv_aload_n hx hb dL_law_1167 rfl (lv_at hl 1 rfl) ?_
  refine lv_aload_n hx hb dL_law_1168 rfl (lv_at hl 0 rfl) ?_
  refine lv_iload hx hb dL_law_1169 (lv_at hl 4 rfl) ?_
  refine lv_iconst (v := nI 1) hx hb dL_law_1171 (by decide) ?_
  refine lv_iadd hx hb dL_law_1172 ?_
  refine b_tp (show (nI i) + (nI 1) = nI (i + 1) from nI_add i 1) ?_
  refine va_sld hx hb hX hbl hbA w.2.1 (vp_in_nI (by omega) (by omega)) dL_law_1173 ?_
  refine b_tp (show xs (nI (i + 1)).toNatClampNeg = x1 from ex1.symm) ?_
  refine lv_aload_n hx hb dL_law_1174 rfl (lv_at hl 0 rfl) ?_
  refine lv_iload hx hb dL_law_1175 (lv_at hl 4 rfl) ?_
  refine lv_iconst (v := nI 2) hx hb dL_law_1177 (by decide) ?_
  refine lv_iadd hx hb dL_law_1178 ?_
  refine b_tp (show (nI i) + (nI 2) = nI (i + 2) from nI_add i 2) ?_
  refine va_sld hx hb hX hbl hbA w.2.1 (vp_in_nI (by omega) (by omega)) dL_law_1179 ?_
  refine b_tp (show xs (nI (i + 2)).toNatClampNeg = x2 from ex2.symm) ?_
  refine lv_aload_n hx hb dL_law_1180 rfl (lv_at hl 0 rfl) ?_
  refine lv_iload hx hb dL_law_1181 (lv_at hl 4 rfl) ?_
  refine lv_iconst (v := nI 3) hx hb dL_law_1183 (by decide) ?_
  refine lv_iadd hx hb dL_law_1184 ?_
  refine b_tp (show (nI i) + (nI 3) = nI (i + 3) from nI_add i 3) ?_
  refine va_sld hx hb hX hbl hbA w.2.1 (vp_in_nI (by omega) (by omega)) dL_law_1185 ?_
  refine b_tp (show xs (nI (i + 3)).toNatClampNeg = x3 from ex3.symm) ?_
  refine lv_aload_n hx hb dL_law_1186 rfl (lv_at hl 3 rfl) ?_
  refine b_calli w (vx_runSW (As := [.ref H0, .int x1, .int x2, .int x3, .ref ot]) (rest := []) X (c_L_shown l hl0 G _ (H0 := H0) (x := x1) (y := x2) (z := x3) (ot := ot) (tA := (u5 0)) (tJ := (u5 2)) (gO := (u5 4)) (dO := (u5 6)) (bO := (u5 11)) (sO := (u5 19)) (qs := (u5 22)) (qr := (u5 23)) (jd := jd) (snt := snt) (td := td) (oA := (u5 1)) (nA := nA) (fA := fA) (oJ := (u5 3)) (nJ := nJ) (fJ := fJ) (ql := (u5 12)) (qe := (u5 13)) (qn := (u5 14)) (qt := (u5 15)) (qc := (u5 16)) (qd := (u5 17)) (qf := (u5 18)) (bn := bn) (bc := bc) (bd := bd) (bf := bf) (qv := (u5 20)) (qh := (u5 21)) (v := v) (hid := hid) (sc := sc) (og := og) (hnA := (by first | assumption | omega)) (hnJ := (by first | assumption | omega)) (hTA := (by first | assumption | omega)) (hTJ := (by first | assumption | omega)) (hbn := (by first | assumption | omega)) (hbk := (by first | assumption | omega))) (vx_cwSW 5 hts gL_law_L_shown rfl rfl rfl (by decide +kernel) ⟨Nat.le_of_ble_eq_true rfl, Nat.le_of_ble_eq_true rfl⟩) ⟨b_blind, (fun U9 hU9 hW9 => ⟨rfl, b_pre E Z0 w [0, 1, 2, 3, 4, 12, 17, 18, 19, 20, 21, 22, 23, 25] (by decide) rfl (b_inc (Or.inr (h5 20 (by decide))) (b_inc (Or.inr (h5 21 (by decide))) (b_inc (Or.inr hot) b_inn))) U9 hU9 hW9⟩)⟩ rfl rfl hl.1 rfl (lv_room (Nat.le_of_ble_eq_true rfl)) dL_law_1187 ⟨Nat.le_trans (by omega) hcR, Nat.le_trans (by omega) hsR⟩) (b_inc (Or.inr (h5 20 (by decide))) (b_inc (Or.inr (h5 21 (by decide))) (b_inc (Or.inr hot) b_inn))) [21, 22, 25] (fun _ => rfl) rfl (fun r1187_1 u1187_1 H locs hr1187_1 w => ?_)
  have w : bSt G vwCl [] s [(H0, .inr (5, [.ref (u5 0), .ref (u5 2), .ref (u5 4), .ref (u5 6), .ref (u5 11), .ref (u5 19), .ref (u5 22), .ref (u5 23), .int (nI jd), .int (nI snt), .int (nI td)])), ((u5 0), .inr (4, [.ref (u5 1), .int (nI 10), .int (nI nA)])), ((u5 1), .inl (G.2.1, 14, .inl fA)), ((u5 2), .inr (4, [.ref (u5 3), .int (nI 1), .int (nI nJ)])), ((u5 3), .inl (G.2.1, 10, .inl fJ)), ((u5 4), .inr (0, [.ref (u5 5)])), ((u5 5), .inl (G.2.2.1, 56, .inl (zB on))), ((u5 6), .inr (2, [.ref (u5 7), .ref (u5 8), .ref (u5 9), .ref (u5 10), .int (nI dn)])), ((u5 7), .inl (G.2.1, 16, .inl dw)), ((u5 8), .inl (G.2.1, 16, .inl da)), ((u5 9), .inl (G.2.1, 16, .inl dc)), ((u5 10), .inl (G.2.1, 16, .inl dv)), ((u5 11), .inr (1, [.ref (u5 12), .ref (u5 13), .ref (u5 14), .ref (u5 15), .ref (u5 16), .ref (u5 17), .ref (u5 18), .int (nI bn)])), ((u5 12), .inl (G.2.1, 1680, .inl lat)), ((u5 13), .inl (G.2.1, 1680, .inl ear)), ((u5 14), .inl (G.2.1, 1680, .inl cnt)), ((u5 15), .inl (G.2.1, 1680, .inl ld)), ((u5 16), .inl (G.2.1, 300, .inl bc)), ((u5 17), .inl (G.2.1, 300, .inl bd)), ((u5 18), .inl (G.2.1, 300, .inl bf)), ((u5 19), .inr (3, [.ref (u5 20), .ref (u5 21)])), ((u5 20), .inl (G.2.1, 140, .inl u1187_1.1)), ((u5 21), .inl (G.2.2.1, 140, .inl (zB (gF (th1 (okC nA nJ x1 x2 x3)) hid (hdn fA nA fJ nJ sc (cl x3) u1187_1.1 hid))))), ((u5 22), .inl (G.2.2.1, 1680, .inl (zB sc))), ((u5 23), .inl (G.2.1, 16, .inl rf)), (ot, .inl (G.2.2.2, 1, .inr (.inl (gF (th1 (okC nA nJ x1 x2 x3)) og (vp_updL og 0 (u1187_1.2.toInt64)))))), (M, .inr (6, [.int (nI td), .int (nI nA), .int (nI nJ), .ref (u6 0), .ref (u6 1), .ref (u6 2), .int (nI dn), .ref (u6 3), .ref (u6 4), .ref (u6 5), .int (nI snt), .int (nI jd), .ref (u6 6), .int (nI bn), .ref (u6 7), .ref (u6 8), .ref (u6 9), .ref (u6 10), .ref (u6 11), .ref (u6 12), .int th])), ((u6 0), .inl (G.2.1, 14, .inl fA)), ((u6 1), .inl (G.2.1, 10, .inl fJ)), ((u6 2), .inl (G.2.2.1, 56, .inl (zB on))), ((u6 3), .inl (G.2.1, 16, .inl dw)), ((u6 4), .inl (G.2.1, 16, .inl dc)), ((u6 5), .inl (G.2.1, 16, .inl dv)), ((u6 6), .inl (G.2.1, 16, .inl rf)), ((u6 7), .inl (G.2.1, 300, .inl bc)), ((u6 8), .inl (G.2.1, 300, .inl bd)), ((u6 9), .inl (G.2.1, 300, .inl bf)), ((u6 10), .inl (G.2.2.1, 1680, .inl (zB sc))), ((u6 11), .inl (G.2.1, 140, .inl vm)), ((u6 12), .inl (G.2.2.1, 140, .inl (zB hm)))] _ _ := w
  obtain ⟨ehr1187_1, hr1187_1⟩ := hr1187_1
  subst ehr1187_1
  have hcl := hr1187_1
  refine lv_istore (lv' := [(5, .int (nI (th1 (okC nA nJ x1 x2 x3)))), (0, .ref b), (1, .ref H0), (2, .ref M), (3, .ref ot), (4, .int (nI i))]) hx hb dL_law_1190 hl (by decide) rfl (fun ls hl => ?_)
  refine lv_aload_n hx hb dL_law_1192 rfl (lv_at hl 3 rfl) ?_
  refine lv_aload_n hx hb dL_law_1193 rfl (lv_at hl 1 rfl) ?_
  refine lv_iload hx hb dL_law_1194 (lv_at hl 5 rfl) ?_
  refine lv_iconst (v := nI 1) hx hb dL_law_1196 (by decide) ?_
  refine lv_iadd hx hb dL_law_1197 ?_
  refine b_tp (show (nI i) + (nI 1) = nI (i + 1) from nI_add i 1) ?_
  refine va_sld hx hb hX hbl hbA w.2.1 (vp_in_nI (by omega) (by omega)) dL_law_1198 ?_
  refine b_tp (show xs (nI (i + 1)).toNatClampNeg = x1 from ex1.symm) ?_
  refine lv_aload_n hx hb dL_law_1199 rfl (lv_at hl 1 rfl) ?_
  refine lv_iload hx hb dL_law_1200 (lv_at hl 5 rfl) ?_
  refine lv_iconst (v := nI 2) hx hb dL_law_1202 (by decide) ?_
  refine lv_iadd hx hb dL_law_1203 ?_
  refine b_tp (show (nI i) + (nI 2) = nI (i + 2) from nI_add i 2) ?_
  refine va_sld hx hb hX hbl hbA w.2.1 (vp_in_nI (by omega) (by omega)) dL_law_1204 ?_
  refine b_tp (show xs (nI (i + 2)).toNatClampNeg = x2 from ex2.symm) ?_
  refine lv_aload_n hx hb dL_law_1205 rfl (lv_at hl 1 rfl) ?_
  refine lv_iload hx hb dL_law_1206 (lv_at hl 5 rfl) ?_
  refine lv_iconst (v := nI 3) hx hb dL_law_1208 (by decide) ?_
  refine lv_iadd hx hb dL_law_1209 ?_
  refine b_tp (show (nI i) + (nI 3) = nI (i + 3) from nI_add i 3) ?_
  refine va_sld hx hb hX hbl hbA w.2.1 (vp_in_nI (by omega) (by omega)) dL_law_1210 ?_
  refine b_tp (show xs (nI (i + 3)).toNatClampNeg = x3 from ex3.symm) ?_
  refine b_calli w (va_runV (As := [.int x1, .int x2, .int x3]) (rest := []) X (c_X6_shown l hl0 G _ (M := M) (x := x1) (y := x2) (z := x3) (td := td) (nA := nA) (nJ := nJ) (yA := (u6 0)) (yJ := (u6 1)) (yg := (u6 2)) (dn := dn) (yw := (u6 3)) (yc := (u6 4)) (yv := (u6 5)) (snt := snt) (jd := jd) (yr := (u6 6)) (bn := bn) (yC := (u6 7)) (yD := (u6 8)) (yF := (u6 9)) (yS := (u6 10)) (yV := (u6 11)) (yH := (u6 12)) (th := th) (fA := fA) (fJ := fJ) (bc := bc) (bd := bd) (bf := bf) (v := vm) (hid := hm) (sc := sc) (hnA := (by first | assumption | omega)) (hnJ := (by first | assumption | omega)) (hTA := (by first | assumption | omega)) (hTJ := (by first | assumption | omega)) (hbn := (by first | assumption | omega))) (cwV 3 hts gL_law_X6_shown rfl rfl rfl (by decide +kernel) ⟨Nat.le_of_ble_eq_true rfl, Nat.le_of_ble_eq_true rfl⟩) ⟨b_blind, b_recv E w (ci := 6) (q0 := 26) rfl rfl, (fun U9 hU9 hW9 => ⟨rfl, b_pre E Z0 w [26, 27, 28, 34, 35, 36, 38, 39, 37] (by decide) rfl (b_inc (Or.inr hM) (b_inc (Or.inr (h6 11 (by decide))) (b_inc (Or.inr (h6 12 (by decide))) b_inn))) U9 hU9 hW9⟩)⟩ rfl rfl hl.1 rfl (lv_room (Nat.le_of_ble_eq_true rfl)) dL_law_1211 ⟨Nat.le_trans (by omega) hcR, Nat.le_trans (by omega) hsR⟩) (b_inc (Or.inr hM) (b_inc (Or.inr (h6 11 (by decide))) (b_inc (Or.inr (h6 12 (by decide))) b_inn))) [26, 38, 39] (fun _ => rfl) rfl (fun r1211_2 u1211_2 H locs hr1211_2 w => ?_)
  have w : bSt G vwCl [] s [(H0, .inr (5, [.ref (u5 0), .ref (u5 2), .ref (u5 4), .ref (u5 6), .ref (u5 11), .ref (u5 19), .ref (u5 22), .ref (u5 23), .int (nI jd), .int (nI snt), .int (nI td)])), ((u5 0), .inr (4, [.ref (u5 1), .int (nI 10), .int (nI nA)])), ((u5 1), .inl (G.2.1, 14, .inl fA)), ((u5 2), .inr (4, [.ref (u5 3), .int (nI 1), .int (nI nJ)])), ((u5 3), .inl (G.2.1, 10, .inl fJ)), ((u5 4), .inr (0, [.ref (u5 5)])), ((u5 5), .inl (G.2.2.1, 56, .inl (zB on))), ((u5 6), .inr (2, [.ref (u5 7), .ref (u5 8), .ref (u5 9), .ref (u5 10), .int (nI dn)])), ((u5 7), .inl (G.2.1, 16, .inl dw)), ((u5 8), .inl (G.2.1, 16, .inl da)), ((u5 9), .inl (G.2.1, 16, .inl dc)), ((u5 10), .inl (G.2.1, 16, .inl dv)), ((u5 11), .inr (1, [.ref (u5 12), .ref (u5 13), .ref (u5 14), .ref (u5 15), .ref (u5 16), .ref (u5 17), .ref (u5 18), .int (nI bn)])), ((u5 12), .inl (G.2.1, 1680, .inl lat)), ((u5 13), .inl (G.2.1, 1680, .inl ear)), ((u5 14), .inl (G.2.1, 1680, .inl cnt)), ((u5 15), .inl (G.2.1, 1680, .inl ld)), ((u5 16), .inl (G.2.1, 300, .inl bc)), ((u5 17), .inl (G.2.1, 300, .inl bd)), ((u5 18), .inl (G.2.1, 300, .inl bf)), ((u5 19), .inr (3, [.ref (u5 20), .ref (u5 21)])), ((u5 20), .inl (G.2.1, 140, .inl u1187_1.1)), ((u5 21), .inl (G.2.2.1, 140, .inl (zB (gF (th1 (okC nA nJ x1 x2 x3)) hid (hdn fA nA fJ nJ sc (cl x3) u1187_1.1 hid))))), ((u5 22), .inl (G.2.2.1, 1680, .inl (zB sc))), ((u5 23), .inl (G.2.1, 16, .inl rf)), (ot, .inl (G.2.2.2, 1, .inr (.inl (gF (th1 (okC nA nJ x1 x2 x3)) og (vp_updL og 0 (u1187_1.2.toInt64)))))), (M, .inr (6, [.int (nI td), .int (nI nA), .int (nI nJ), .ref (u6 0), .ref (u6 1), .ref (u6 2), .int (nI dn), .ref (u6 3), .ref (u6 4), .ref (u6 5), .int (nI snt), .int (nI jd), .ref (u6 6), .int (nI bn), .ref (u6 7), .ref (u6 8), .ref (u6 9), .ref (u6 10), .ref (u6 11), .ref (u6 12), .int (nI (th1 (okC nA nJ x1 x2 x3)))])), ((u6 0), .inl (G.2.1, 14, .inl fA)), ((u6 1), .inl (G.2.1, 10, .inl fJ)), ((u6 2), .inl (G.2.2.1, 56, .inl (zB on))), ((u6 3), .inl (G.2.1, 16, .inl dw)), ((u6 4), .inl (G.2.1, 16, .inl dc)), ((u6 5), .inl (G.2.1, 16, .inl dv)), ((u6 6), .inl (G.2.1, 16, .inl rf)), ((u6 7), .inl (G.2.1, 300, .inl bc)), ((u6 8), .inl (G.2.1, 300, .inl bd)), ((u6 9), .inl (G.2.1, 300, .inl bf)), ((u6 10), .inl (G.2.2.1, 1680, .inl (zB sc))), ((u6 11), .inl (G.2.1, 140, .inl u1211_2)), ((u6 12), .inl (G.2.2.1, 140, .inl (zB (gF (th1 (okC nA nJ x1 x2 x3)) hm (hdM fA nA fJ nJ sc (cl x3) u1211_2 hm)))))] _ _ := w
  have hmo := hr1211_2
  refine lv_istore (lv' := [(6, .int r1211_2), (5, .int (nI (th1 (okC nA nJ x1 x2 x3)))), (0, .ref b), (1, .ref H0), (2, .ref M), (3, .ref ot), (4, .int (nI i))]) hx hb dL_law_1214 hl (by decide) rfl (fun ls hl => ?_)
  refine lv_aload_n hx hb dL_law_1216 rfl (lv_at hl 4 rfl) ?_
  refine b_calli w (va_runV (As := []) (rest := []) X (c_X6_thrown l hl0 G _ (M := M) (td := td) (nA := nA) (nJ := nJ) (yA := (u6 0)) (yJ := (u6 1)) (yg := (u6 2)) (dn := dn) (yw := (u6 3)) (yc := (u6 4)) (yv := (u6 5)) (snt := snt) (jd := jd) (yr := (u6 6)) (bn := bn) (yC := (u6 7)) (yD := (u6 8)) (yF := (u6 9)) (yS := (u6 10)) (yV := (u6 11)) (yH := (u6 12)) (th := nI (th1 (okC nA nJ x1 x2 x3))) ) (cwV 0 hts gL_law_X6_thrown rfl rfl rfl (by decide +kernel) ⟨Nat.le_of_ble_eq_true rfl, Nat.le_of_ble_eq_true rfl⟩) ⟨b_blind, b_recv E w (ci := 6) (q0 := 26) rfl rfl, (fun U9 hU9 hW9 => ⟨rfl, b_pre E Z0 w [26] (by decide) rfl b_nil U9 hU9 hW9⟩)⟩ rfl rfl hl.1 rfl (lv_room (Nat.le_of_ble_eq_true rfl)) dL_law_1217 ⟨Nat.le_trans (by omega) hcR, Nat.le_trans (by omega) hsR⟩) b_nil [] (fun _ => rfl) rfl (fun r1217_3 u1217_3 H locs hr1217_3 w => ?_)
  have w : bSt G vwCl [] s [(H0, .inr (5, [.ref (u5 0), .ref (u5 2), .ref (u5 4), .ref (u5 6), .ref (u5 11), .ref (u5 19), .ref (u5 22), .ref (u5 23), .int (nI jd), .int (nI snt), .int (nI td)])), ((u5 0), .inr (4, [.ref (u5 1), .int (nI 10), .int (nI nA)])), ((u5 1), .inl (G.2.1, 14, .inl fA)), ((u5 2), .inr (4, [.ref (u5 3), .int (nI 1), .int (nI nJ)])), ((u5 3), .inl (G.2.1, 10, .inl fJ)), ((u5 4), .inr (0, [.ref (u5 5)])), ((u5 5), .inl (G.2.2.1, 56, .inl (zB on))), ((u5 6), .inr (2, [.ref (u5 7), .ref (u5 8), .ref (u5 9), .ref (u5 10), .int (nI dn)])), ((u5 7), .inl (G.2.1, 16, .inl dw)), ((u5 8), .inl (G.2.1, 16, .inl da)), ((u5 9), .inl (G.2.1, 16, .inl dc)), ((u5 10), .inl (G.2.1, 16, .inl dv)), ((u5 11), .inr (1, [.ref (u5 12), .ref (u5 13), .ref (u5 14), .ref (u5 15), .ref (u5 16), .ref (u5 17), .ref (u5 18), .int (nI bn)])), ((u5 12), .inl (G.2.1, 1680, .inl lat)), ((u5 13), .inl (G.2.1, 1680, .inl ear)), ((u5 14), .inl (G.2.1, 1680, .inl cnt)), ((u5 15), .inl (G.2.1, 1680, .inl ld)), ((u5 16), .inl (G.2.1, 300, .inl bc)), ((u5 17), .inl (G.2.1, 300, .inl bd)), ((u5 18), .inl (G.2.1, 300, .inl bf)), ((u5 19), .inr (3, [.ref (u5 20), .ref (u5 21)])), ((u5 20), .inl (G.2.1, 140, .inl u1187_1.1)), ((u5 21), .inl (G.2.2.1, 140, .inl (zB (gF (th1 (okC nA nJ x1 x2 x3)) hid (hdn fA nA fJ nJ sc (cl x3) u1187_1.1 hid))))), ((u5 22), .inl (G.2.2.1, 1680, .inl (zB sc))), ((u5 23), .inl (G.2.1, 16, .inl rf)), (ot, .inl (G.2.2.2, 1, .inr (.inl (gF (th1 (okC nA nJ x1 x2 x3)) og (vp_updL og 0 (u1187_1.2.toInt64)))))), (M, .inr (6, [.int (nI td), .int (nI nA), .int (nI nJ), .ref (u6 0), .ref (u6 1), .ref (u6 2), .int (nI dn), .ref (u6 3), .ref (u6 4), .ref (u6 5), .int (nI snt), .int (nI jd), .ref (u6 6), .int (nI bn), .ref (u6 7), .ref (u6 8), .ref (u6 9), .ref (u6 10), .ref (u6 11), .ref (u6 12), .int (nI (th1 (okC nA nJ x1 x2 x3)))])), ((u6 0), .inl (G.2.1, 14, .inl fA)), ((u6 1), .inl (G.2.1, 10, .inl fJ)), ((u6 2), .inl (G.2.2.1, 56, .inl (zB on))), ((u6 3), .inl (G.2.1, 16, .inl dw)), ((u6 4), .inl (G.2.1, 16, .inl dc)), ((u6 5), .inl (G.2.1, 16, .inl dv)), ((u6 6), .inl (G.2.1, 16, .inl rf)), ((u6 7), .inl (G.2.1, 300, .inl bc)), ((u6 8), .inl (G.2.1, 300, .inl bd)), ((u6 9), .inl (G.2.1, 300, .inl bf)), ((u6 10), .inl (G.2.2.1, 1680, .inl (zB sc))), ((u6 11), .inl (G.2.1, 140, .inl u1211_2)), ((u6 12), .inl (G.2.2.1, 140, .inl (zB (gF (th1 (okC nA nJ x1 x2 x3)) hm (hdM fA nA fJ nJ sc (cl x3) u1211_2 hm)))))] _ _ := w
  subst hr1217_3
  refine lv_iload hx hb dL_law_1220 (lv_at hl 1 rfl) ?_
  refine lv_icmp_eq (tgt := 1227) hx hb dL_law_1222 (by decide) (fun c_1222_4 => ?_) (fun c_1222_4 => ?_)
  · refine lv_iload hx hb dL_law_1227 (lv_at hl 1 rfl) ?_
    refine lv_if_ne (tgt := 1244) hx hb dL_law_1229 (by decide) (fun c_1229_5 => ?_) (fun c_1229_5 => ?_)
    · refine lv_goto (tgt := 1496) hx hb dL_law_1244 (by decide) ?_
      refine W.widen (k := cells + 8) (n := slots + 48) (by omega) (by omega) ?_
      exact kk _ _ _ ⟨jd, snt, td, nA, nJ, dn, bn, fA, fJ, da, dw, dc, dv, lat, ear, cnt, ld, bc, bd, bf, rf, u1187_1.1, u1211_2, on, sc, gF (th1 (okC nA nJ x1 x2 x3)) hid (hdn fA nA fJ nJ sc (cl x3) u1187_1.1 hid), gF (th1 (okC nA nJ x1 x2 x3)) hm (hdM fA nA fJ nJ sc (cl x3) u1211_2 hm), gF (th1 (okC nA nJ x1 x2 x3)) og (vp_updL og 0 (u1187_1.2.toInt64)), nI (th1 (okC nA nJ x1 x2 x3)), hI, w⟩ (lv_sub hl [2, 3, 4, 5, 6] rfl)
    · have hT0 := b_T0 th1_lt c_1229_5
      refine lv_aload_n hx hb dL_law_1232 rfl (lv_at hl 5 rfl) ?_
      refine lv_iconst (v := nI 0) hx hb dL_law_1233 (by decide) ?_
      refine b_jald X E w 25 rfl 0 rfl (by omega) (by first | decide | omega) dL_law_1234 ?_
      refine lv_iload hx hb dL_law_1235 (lv_at hl 0 rfl) ?_
      refine lv_i2l (v := (r1211_2).toInt64) hx hb dL_law_1237 rfl ?_
      refine W.lcmp hx hb dL_law_1238 ?_
      refine b_tp (show lg_cmp ((gF (th1 (okC nA nJ x1 x2 x3)) og (vp_updL og 0 (u1187_1.2.toInt64))) 0) ((r1211_2).toInt64) = nI 0 from b_lc (by rw [hT0]; exact congrArg Int32.toInt64 (an_shown hI (hcl hT0) (hmo hT0)))) ?_
      refine lv_if_eq (tgt := 1244) hx hb dL_law_1239 (by decide) (fun c_1239_6 => ?_) (fun c_1239_6 => ?_)
      · refine lv_goto (tgt := 1496) hx hb dL_law_1244 (by decide) ?_
        refine W.widen (k := cells + 8) (n := slots + 48) (by omega) (by omega) ?_
        exact kk _ _ _ ⟨jd, snt, td, nA, nJ, dn, bn, fA, fJ, da, dw, dc, dv, lat, ear, cnt, ld, bc, bd, bf, rf, u1187_1.1, u1211_2, on, sc, gF (th1 (okC nA nJ x1 x2 x3)) hid (hdn fA nA fJ nJ sc (cl x3) u1187_1.1 hid), gF (th1 (okC nA nJ x1 x2 x3)) hm (hdM fA nA fJ nJ sc (cl x3) u1211_2 hm), gF (th1 (okC nA nJ x1 x2 x3)) og (vp_updL og 0 (u1187_1.2.toInt64)), nI (th1 (okC nA nJ x1 x2 x3)), hI, w⟩ (lv_sub hl [2, 3, 4, 5, 6] rfl)
      · exact absurd (by decide) c_1239_6
  · exact absurd rfl c_1222_4
set_option maxHeartbeats 4000000 in
set_option maxRecDepth 100000 in
theorem op_hidden {p : Program} {l : Launch} (hl0 : l.stackTraces = false) {e : Env} {s : State} {m : MethodId} {below : List Frame} {meth : Method} {c : Code} {G : bG} {b L : Nat} {xs : Nat → Int32} {Q : State → Prop} (X : CallFix p m c cL_law 7 s #[Value.ref b] wsL_law RL) (E : bE G vwCl bNW bSW s) (Z0 : bZ [] s) (hX : va_X b L xs s s.heap) (hbl : b < s.heap.size) (hL : L ≤ 3584) {H0 M ot : Nat} {u5 u6 : Nat → Nat} (hH0 : s.heap.size ≤ H0) (hM : s.heap.size ≤ M) (hot : s.heap.size ≤ ot) (h5 : ∀ k, k < 24 → s.heap.size ≤ u5 k) (h6 : ∀ k, k < 13 → s.heap.size ≤ u6 k) {i : Nat} (hi : i + 7 ≤ L) {cells slots : Nat} (hcR : cells + 8 ≤ room_1.cells) (hsR : slots + 48 ≤ room_1.slots) {H : Heap} {locs : List Loc} {ls : Array Slot} (hLC : LC G s H0 M ot u5 u6 H locs) (hl : lv_has ls 7 [(0, .ref b), (1, .ref H0), (2, .ref M), (3, .ref ot), (4, .int (nI i))]) (kk : ∀ (H : Heap) (locs : List Loc) (ls : Array Slot), LC G s H0 M ot u5 u6 H locs → lv_has ls 7 [(0, .ref b), (1, .ref H0), (2, .ref M), (3, .ref ot), (4, .int (nI i))] → W p l e room_1 s m #[Value.ref b] below meth c H locs (cells + 8) (slots + 48) Q (F0 m 1496 ls [])) : W p l e room_1 s m #[Value.ref b] below meth c H locs cells slots Q (F0 m 1247 ls []) := by
  have hx := X.1
  have hb := X.2.1
  have hml := X.2.2.1
  have hown := X.2.2.2.1
  have hts := X.2.2.2.2
  have hbA : ¬ Aw [] s.heap.size b := fun h => h.elim (fun h => nomatch h) (fun h => absurd hbl (Nat.not_lt.mpr h))
  obtain ⟨jd, snt, td, nA, nJ, dn, bn, fA, fJ, da, dw, dc, dv, lat, ear, cnt, ld, bc, bd, bf, rf, v, vm, on, sc, hid, hm, og, th, hI, w⟩ := hLC
  obtain ⟨⟨hnA, hnJ, hTA, hTJ, htd, hst, hbs, hjd, hdn9⟩, hbk, hdr, hK⟩ := id hI
  have hbn : bn ≤ 300 := by omega
  obtain ⟨x1, ex1⟩ : ∃ y : Int32, y = xs (nI (i + 1)).toNatClampNeg := ⟨_, rfl⟩
  obtain ⟨x2, ex2⟩ : ∃ y : Int32, y = xs (nI (i + 2)).toNatClampNeg := ⟨_, rfl⟩
  obtain ⟨x3, ex3⟩ : ∃ y : Int32, y = xs (nI (i + 3)).toNatClampNeg := ⟨_, rfl⟩
  obtain ⟨x4, ex4⟩ : ∃ y : Int32, y = xs (nI (i + 4)).toNatClampNeg := ⟨_, rfl⟩
  obtain ⟨x5, ex5⟩ : ∃ y : Int32, y = xs (nI (i + 5)).toNatClampNeg := ⟨_, rfl⟩
  obtain ⟨x6, ex6⟩ : ∃ y : Int32, y = xs (nI (i + 6)).toNatClampNeg := ⟨_, rfl⟩
  refine lv_aload_n hx hb dL_law_1247 rfl (lv_at hl 1 rfl) ?_
  refine lv_aload_n hx hb dL_law_1248 rfl (lv_at hl 0 rfl) ?_
  refine lv_iload hx hb dL_law_1249 (lv_at hl 4 rfl) ?_
  refine lv_iconst (v := nI 1) hx hb dL_law_1251 (by decide) ?_
  refine lv_iadd hx hb dL_law_1252 ?_
  refine b_tp (show (nI i) + (nI 1) = nI (i + 1) from nI_add i 1) ?_
  refine va_sld hx hb hX hbl hbA w.2.1 (vp_in_nI (by omega) (by omega)) dL_law_1253 ?_
  refine b_tp (show xs (nI (i + 1)).toNatClampNeg = x1 from ex1.symm) ?_
  refine lv_aload_n hx hb dL_law_1254 rfl (lv_at hl 3 rfl) ?_
  refine b_calli w (vx_runSW (As := [.ref H0, .int x1, .ref ot]) (rest := []) X (c_L_hidden l hl0 G _ (H0 := H0) (x := x1) (ot := ot) (tA := (u5 0)) (tJ := (u5 2)) (gO := (u5 4)) (dO := (u5 6)) (bO := (u5 11)) (sO := (u5 19)) (qs := (u5 22)) (qr := (u5 23)) (jd := jd) (snt := snt) (td := td) (oA := (u5 1)) (nA := nA) (fA := fA) (oJ := (u5 3)) (nJ := nJ) (fJ := fJ) (ql := (u5 12)) (qe := (u5 13)) (qn := (u5 14)) (qt := (u5 15)) (qc := (u5 16)) (qd := (u5 17)) (qf := (u5 18)) (bn := bn) (bc := bc) (bd := bd) (bf := bf) (qv := (u5 20)) (qh := (u5 21)) (v := v) (hid := hid) (sc := sc) (og := og) (hnA := (by first | assumption | omega)) (hnJ := (by first | assumption | omega)) (hTA := (by first | assumption | omega)) (hTJ := (by first | assumption | omega)) (hbn := (by first | assumption | omega)) (hbk := (by first | assumption | omega))) (vx_cwSW 3 hts gL_law_L_hidden rfl rfl rfl (by decide +kernel) ⟨Nat.le_of_ble_eq_true rfl, Nat.le_of_ble_eq_true rfl⟩) ⟨b_blind, (fun U9 hU9 hW9 => ⟨rfl, b_pre E Z0 w [0, 1, 2, 3, 4, 12, 17, 18, 19, 20, 21, 22, 23, 25] (by decide) rfl (b_inc (Or.inr (h5 20 (by decide))) (b_inc (Or.inr (h5 21 (by decide))) (b_inc (Or.inr hot) b_inn))) U9 hU9 hW9⟩)⟩ rfl rfl hl.1 rfl (lv_room (Nat.le_of_ble_eq_true rfl)) dL_law_1255 ⟨Nat.le_trans (by omega) hcR, Nat.le_trans (by omega) hsR⟩) (b_inc (Or.inr (h5 20 (by decide))) (b_inc (Or.inr (h5 21 (by decide))) (b_inc (Or.inr hot) b_inn))) [21, 22, 25] (fun _ => rfl) rfl (fun r1255_1 u1255_1 H locs hr1255_1 w => ?_)
  have w : bSt G vwCl [] s [(H0, .inr (5, [.ref (u5 0), .ref (u5 2), .ref (u5 4), .ref (u5 6), .ref (u5 11), .ref (u5 19), .ref (u5 22), .ref (u5 23), .int (nI jd), .int (nI snt), .int (nI td)])), ((u5 0), .inr (4, [.ref (u5 1), .int (nI 10), .int (nI nA)])), ((u5 1), .inl (G.2.1, 14, .inl fA)), ((u5 2), .inr (4, [.ref (u5 3), .int (nI 1), .int (nI nJ)])), ((u5 3), .inl (G.2.1, 10, .inl fJ)), ((u5 4), .inr (0, [.ref (u5 5)])), ((u5 5), .inl (G.2.2.1, 56, .inl (zB on))), ((u5 6), .inr (2, [.ref (u5 7), .ref (u5 8), .ref (u5 9), .ref (u5 10), .int (nI dn)])), ((u5 7), .inl (G.2.1, 16, .inl dw)), ((u5 8), .inl (G.2.1, 16, .inl da)), ((u5 9), .inl (G.2.1, 16, .inl dc)), ((u5 10), .inl (G.2.1, 16, .inl dv)), ((u5 11), .inr (1, [.ref (u5 12), .ref (u5 13), .ref (u5 14), .ref (u5 15), .ref (u5 16), .ref (u5 17), .ref (u5 18), .int (nI bn)])), ((u5 12), .inl (G.2.1, 1680, .inl lat)), ((u5 13), .inl (G.2.1, 1680, .inl ear)), ((u5 14), .inl (G.2.1, 1680, .inl cnt)), ((u5 15), .inl (G.2.1, 1680, .inl ld)), ((u5 16), .inl (G.2.1, 300, .inl bc)), ((u5 17), .inl (G.2.1, 300, .inl bd)), ((u5 18), .inl (G.2.1, 300, .inl bf)), ((u5 19), .inr (3, [.ref (u5 20), .ref (u5 21)])), ((u5 20), .inl (G.2.1, 140, .inl u1255_1.1)), ((u5 21), .inl (G.2.2.1, 140, .inl (zB (gF (th1 (tHas 12 x1)) hid (hdn fA nA fJ nJ sc (cl x1) u1255_1.1 hid))))), ((u5 22), .inl (G.2.2.1, 1680, .inl (zB sc))), ((u5 23), .inl (G.2.1, 16, .inl rf)), (ot, .inl (G.2.2.2, 1, .inr (.inl (gF (th1 (tHas 12 x1)) og (vp_updL og 0 (u1255_1.2.toInt64)))))), (M, .inr (6, [.int (nI td), .int (nI nA), .int (nI nJ), .ref (u6 0), .ref (u6 1), .ref (u6 2), .int (nI dn), .ref (u6 3), .ref (u6 4), .ref (u6 5), .int (nI snt), .int (nI jd), .ref (u6 6), .int (nI bn), .ref (u6 7), .ref (u6 8), .ref (u6 9), .ref (u6 10), .ref (u6 11), .ref (u6 12), .int th])), ((u6 0), .inl (G.2.1, 14, .inl fA)), ((u6 1), .inl (G.2.1, 10, .inl fJ)), ((u6 2), .inl (G.2.2.1, 56, .inl (zB on))), ((u6 3), .inl (G.2.1, 16, .inl dw)), ((u6 4), .inl (G.2.1, 16, .inl dc)), ((u6 5), .inl (G.2.1, 16, .inl dv)), ((u6 6), .inl (G.2.1, 16, .inl rf)), ((u6 7), .inl (G.2.1, 300, .inl bc)), ((u6 8), .inl (G.2.1, 300, .inl bd)), ((u6 9), .inl (G.2.1, 300, .inl bf)), ((u6 10), .inl (G.2.2.1, 1680, .inl (zB sc))), ((u6 11), .inl (G.2.1, 140, .inl vm)), ((u6 12), .inl (G.2.2.1, 140, .inl (zB hm)))] _ _ := w
  obtain ⟨ehr1255_1, hr1255_1⟩ := hr1255_1
  subst ehr1255_1
  have hcl := hr1255_1
  refine lv_istore (lv' := [(5, .int (nI (th1 (tHas 12 x1)))), (0, .ref b), (1, .ref H0), (2, .ref M), (3, .ref ot), (4, .int (nI i))]) hx hb dL_law_1258 hl (by decide) rfl (fun ls hl => ?_)
  refine lv_aload_n hx hb dL_law_1260 rfl (lv_at hl 3 rfl) ?_
  refine lv_aload_n hx hb dL_law_1261 rfl (lv_at hl 1 rfl) ?_
  refine lv_iload hx hb dL_law_1262 (lv_at hl 5 rfl) ?_
  refine lv_iconst (v := nI 1) hx hb dL_law_1264 (by decide) ?_
  refine lv_iadd hx hb dL_law_1265 ?_
  refine b_tp (show (nI i) + (nI 1) = nI (i + 1) from nI_add i 1) ?_
  refine va_sld hx hb hX hbl hbA w.2.1 (vp_in_nI (by omega) (by omega)) dL_law_1266 ?_
  refine b_tp (show xs (nI (i + 1)).toNatClampNeg = x1 from ex1.symm) ?_
  refine b_calli w (va_runV (As := [.int x1]) (rest := []) X (c_X6_hidden l hl0 G _ (M := M) (x := x1) (td := td) (nA := nA) (nJ := nJ) (yA := (u6 0)) (yJ := (u6 1)) (yg := (u6 2)) (dn := dn) (yw := (u6 3)) (yc := (u6 4)) (yv := (u6 5)) (snt := snt) (jd := jd) (yr := (u6 6)) (bn := bn) (yC := (u6 7)) (yD := (u6 8)) (yF := (u6 9)) (yS := (u6 10)) (yV := (u6 11)) (yH := (u6 12)) (th := th) (fA := fA) (fJ := fJ) (bc := bc) (bd := bd) (bf := bf) (v := vm) (hid := hm) (sc := sc) (hnA := (by first | assumption | omega)) (hnJ := (by first | assumption | omega)) (hTA := (by first | assumption | omega)) (hTJ := (by first | assumption | omega)) (hbn := (by first | assumption | omega))) (cwV 1 hts gL_law_X6_hidden rfl rfl rfl (by decide +kernel) ⟨Nat.le_of_ble_eq_true rfl, Nat.le_of_ble_eq_true rfl⟩) ⟨b_blind, b_recv E w (ci := 6) (q0 := 26) rfl rfl, (fun U9 hU9 hW9 => ⟨rfl, b_pre E Z0 w [26, 27, 28, 34, 35, 36, 38, 39, 37] (by decide) rfl (b_inc (Or.inr hM) (b_inc (Or.inr (h6 11 (by decide))) (b_inc (Or.inr (h6 12 (by decide))) b_inn))) U9 hU9 hW9⟩)⟩ rfl rfl hl.1 rfl (lv_room (Nat.le_of_ble_eq_true rfl)) dL_law_1267 ⟨Nat.le_trans (by omega) hcR, Nat.le_trans (by omega) hsR⟩) (b_inc (Or.inr hM) (b_inc (Or.inr (h6 11 (by decide))) (b_inc (Or.inr (h6 12 (by decide))) b_inn))) [26, 38, 39] (fun _ => rfl) rfl (fun r1267_2 u1267_2 H locs hr1267_2 w => ?_)
  have w : bSt G vwCl [] s [(H0, .inr (5, [.ref (u5 0), .ref (u5 2), .ref (u5 4), .ref (u5 6), .ref (u5 11), .ref (u5 19), .ref (u5 22), .ref (u5 23), .int (nI jd), .int (nI snt), .int (nI td)])), ((u5 0), .inr (4, [.ref (u5 1), .int (nI 10), .int (nI nA)])), ((u5 1), .inl (G.2.1, 14, .inl fA)), ((u5 2), .inr (4, [.ref (u5 3), .int (nI 1), .int (nI nJ)])), ((u5 3), .inl (G.2.1, 10, .inl fJ)), ((u5 4), .inr (0, [.ref (u5 5)])), ((u5 5), .inl (G.2.2.1, 56, .inl (zB on))), ((u5 6), .inr (2, [.ref (u5 7), .ref (u5 8), .ref (u5 9), .ref (u5 10), .int (nI dn)])), ((u5 7), .inl (G.2.1, 16, .inl dw)), ((u5 8), .inl (G.2.1, 16, .inl da)), ((u5 9), .inl (G.2.1, 16, .inl dc)), ((u5 10), .inl (G.2.1, 16, .inl dv)), ((u5 11), .inr (1, [.ref (u5 12), .ref (u5 13), .ref (u5 14), .ref (u5 15), .ref (u5 16), .ref (u5 17), .ref (u5 18), .int (nI bn)])), ((u5 12), .inl (G.2.1, 1680, .inl lat)), ((u5 13), .inl (G.2.1, 1680, .inl ear)), ((u5 14), .inl (G.2.1, 1680, .inl cnt)), ((u5 15), .inl (G.2.1, 1680, .inl ld)), ((u5 16), .inl (G.2.1, 300, .inl bc)), ((u5 17), .inl (G.2.1, 300, .inl bd)), ((u5 18), .inl (G.2.1, 300, .inl bf)), ((u5 19), .inr (3, [.ref (u5 20), .ref (u5 21)])), ((u5 20), .inl (G.2.1, 140, .inl u1255_1.1)), ((u5 21), .inl (G.2.2.1, 140, .inl (zB (gF (th1 (tHas 12 x1)) hid (hdn fA nA fJ nJ sc (cl x1) u1255_1.1 hid))))), ((u5 22), .inl (G.2.2.1, 1680, .inl (zB sc))), ((u5 23), .inl (G.2.1, 16, .inl rf)), (ot, .inl (G.2.2.2, 1, .inr (.inl (gF (th1 (tHas 12 x1)) og (vp_updL og 0 (u1255_1.2.toInt64)))))), (M, .inr (6, [.int (nI td), .int (nI nA), .int (nI nJ), .ref (u6 0), .ref (u6 1), .ref (u6 2), .int (nI dn), .ref (u6 3), .ref (u6 4), .ref (u6 5), .int (nI snt), .int (nI jd), .ref (u6 6), .int (nI bn), .ref (u6 7), .ref (u6 8), .ref (u6 9), .ref (u6 10), .ref (u6 11), .ref (u6 12), .int (nI (th1 (tHas 12 x1)))])), ((u6 0), .inl (G.2.1, 14, .inl fA)), ((u6 1), .inl (G.2.1, 10, .inl fJ)), ((u6 2), .inl (G.2.2.1, 56, .inl (zB on))), ((u6 3), .inl (G.2.1, 16, .inl dw)), ((u6 4), .inl (G.2.1, 16, .inl dc)), ((u6 5), .inl (G.2.1, 16, .inl dv)), ((u6 6), .inl (G.2.1, 16, .inl rf)), ((u6 7), .inl (G.2.1, 300, .inl bc)), ((u6 8), .inl (G.2.1, 300, .inl bd)), ((u6 9), .inl (G.2.1, 300, .inl bf)), ((u6 10), .inl (G.2.2.1, 1680, .inl (zB sc))), ((u6 11), .inl (G.2.1, 140, .inl u1267_2)), ((u6 12), .inl (G.2.2.1, 140, .inl (zB (gF (th1 (tHas 12 x1)) hm (hdM fA nA fJ nJ sc (cl x1) u1267_2 hm)))))] _ _ := w
  have hmo := hr1267_2
  refine lv_istore (lv' := [(6, .int r1267_2), (5, .int (nI (th1 (tHas 12 x1)))), (0, .ref b), (1, .ref H0), (2, .ref M), (3, .ref ot), (4, .int (nI i))]) hx hb dL_law_1270 hl (by decide) rfl (fun ls hl => ?_)
  refine lv_aload_n hx hb dL_law_1272 rfl (lv_at hl 4 rfl) ?_
  refine b_calli w (va_runV (As := []) (rest := []) X (c_X6_thrown l hl0 G _ (M := M) (td := td) (nA := nA) (nJ := nJ) (yA := (u6 0)) (yJ := (u6 1)) (yg := (u6 2)) (dn := dn) (yw := (u6 3)) (yc := (u6 4)) (yv := (u6 5)) (snt := snt) (jd := jd) (yr := (u6 6)) (bn := bn) (yC := (u6 7)) (yD := (u6 8)) (yF := (u6 9)) (yS := (u6 10)) (yV := (u6 11)) (yH := (u6 12)) (th := nI (th1 (tHas 12 x1))) ) (cwV 0 hts gL_law_X6_thrown rfl rfl rfl (by decide +kernel) ⟨Nat.le_of_ble_eq_true rfl, Nat.le_of_ble_eq_true rfl⟩) ⟨b_blind, b_recv E w (ci := 6) (q0 := 26) rfl rfl, (fun U9 hU9 hW9 => ⟨rfl, b_pre E Z0 w [26] (by decide) rfl b_nil U9 hU9 hW9⟩)⟩ rfl rfl hl.1 rfl (lv_room (Nat.le_of_ble_eq_true rfl)) dL_law_1273 ⟨Nat.le_trans (by omega) hcR, Nat.le_trans (by omega) hsR⟩) b_nil [] (fun _ => rfl) rfl (fun r1273_3 u1273_3 H locs hr1273_3 w => ?_)
  have w : bSt G vwCl [] s [(H0, .inr (5, [.ref (u5 0), .ref (u5 2), .ref (u5 4), .ref (u5 6), .ref (u5 11), .ref (u5 19), .ref (u5 22), .ref (u5 23), .int (nI jd), .int (nI snt), .int (nI td)])), ((u5 0), .inr (4, [.ref (u5 1), .int (nI 10), .int (nI nA)])), ((u5 1), .inl (G.2.1, 14, .inl fA)), ((u5 2), .inr (4, [.ref (u5 3), .int (nI 1), .int (nI nJ)])), ((u5 3), .inl (G.2.1, 10, .inl fJ)), ((u5 4), .inr (0, [.ref (u5 5)])), ((u5 5), .inl (G.2.2.1, 56, .inl (zB on))), ((u5 6), .inr (2, [.ref (u5 7), .ref (u5 8), .ref (u5 9), .ref (u5 10), .int (nI dn)])), ((u5 7), .inl (G.2.1, 16, .inl dw)), ((u5 8), .inl (G.2.1, 16, .inl da)), ((u5 9), .inl (G.2.1, 16, .inl dc)), ((u5 10), .inl (G.2.1, 16, .inl dv)), ((u5 11), .inr (1, [.ref (u5 12), .ref (u5 13), .ref (u5 14), .ref (u5 15), .ref (u5 16), .ref (u5 17), .ref (u5 18), .int (nI bn)])), ((u5 12), .inl (G.2.1, 1680, .inl lat)), ((u5 13), .inl (G.2.1, 1680, .inl ear)), ((u5 14), .inl (G.2.1, 1680, .inl cnt)), ((u5 15), .inl (G.2.1, 1680, .inl ld)), ((u5 16), .inl (G.2.1, 300, .inl bc)), ((u5 17), .inl (G.2.1, 300, .inl bd)), ((u5 18), .inl (G.2.1, 300, .inl bf)), ((u5 19), .inr (3, [.ref (u5 20), .ref (u5 21)])), ((u5 20), .inl (G.2.1, 140, .inl u1255_1.1)), ((u5 21), .inl (G.2.2.1, 140, .inl (zB (gF (th1 (tHas 12 x1)) hid (hdn fA nA fJ nJ sc (cl x1) u1255_1.1 hid))))), ((u5 22), .inl (G.2.2.1, 1680, .inl (zB sc))), ((u5 23), .inl (G.2.1, 16, .inl rf)), (ot, .inl (G.2.2.2, 1, .inr (.inl (gF (th1 (tHas 12 x1)) og (vp_updL og 0 (u1255_1.2.toInt64)))))), (M, .inr (6, [.int (nI td), .int (nI nA), .int (nI nJ), .ref (u6 0), .ref (u6 1), .ref (u6 2), .int (nI dn), .ref (u6 3), .ref (u6 4), .ref (u6 5), .int (nI snt), .int (nI jd), .ref (u6 6), .int (nI bn), .ref (u6 7), .ref (u6 8), .ref (u6 9), .ref (u6 10), .ref (u6 11), .ref (u6 12), .int (nI (th1 (tHas 12 x1)))])), ((u6 0), .inl (G.2.1, 14, .inl fA)), ((u6 1), .inl (G.2.1, 10, .inl fJ)), ((u6 2), .inl (G.2.2.1, 56, .inl (zB on))), ((u6 3), .inl (G.2.1, 16, .inl dw)), ((u6 4), .inl (G.2.1, 16, .inl dc)), ((u6 5), .inl (G.2.1, 16, .inl dv)), ((u6 6), .inl (G.2.1, 16, .inl rf)), ((u6 7), .inl (G.2.1, 300, .inl bc)), ((u6 8), .inl (G.2.1, 300, .inl bd)), ((u6 9), .inl (G.2.1, 300, .inl bf)), ((u6 10), .inl (G.2.2.1, 1680, .inl (zB sc))), ((u6 11), .inl (G.2.1, 140, .inl u1267_2)), ((u6 12), .inl (G.2.2.1, 140, .inl (zB (gF (th1 (tHas 12 x1)) hm (hdM fA nA fJ nJ sc (cl x1) u1267_2 hm)))))] _ _ := w
  subst hr1273_3
  refine lv_iload hx hb dL_law_1276 (lv_at hl 1 rfl) ?_
  refine lv_icmp_eq (tgt := 1283) hx hb dL_law_1278 (by decide) (fun c_1278_4 => ?_) (fun c_1278_4 => ?_)
  · refine lv_iload hx hb dL_law_1283 (lv_at hl 1 rfl) ?_
    refine lv_if_ne (tgt := 1300) hx hb dL_law_1285 (by decide) (fun c_1285_5 => ?_) (fun c_1285_5 => ?_)
    · refine lv_goto (tgt := 1496) hx hb dL_law_1300 (by decide) ?_
      refine W.widen (k := cells + 8) (n := slots + 48) (by omega) (by omega) ?_
      exact kk _ _ _ ⟨jd, snt, td, nA, nJ, dn, bn, fA, fJ, da, dw, dc, dv, lat, ear, cnt, ld, bc, bd, bf, rf, u1255_1.1, u1267_2, on, sc, gF (th1 (tHas 12 x1)) hid (hdn fA nA fJ nJ sc (cl x1) u1255_1.1 hid), gF (th1 (tHas 12 x1)) hm (hdM fA nA fJ nJ sc (cl x1) u1267_2 hm), gF (th1 (tHas 12 x1)) og (vp_updL og 0 (u1255_1.2.toInt64)), nI (th1 (tHas 12 x1)), hI, w⟩ (lv_sub hl [2, 3, 4, 5, 6] rfl)
    · have hT0 := b_T0 th1_lt c_1285_5
      refine lv_aload_n hx hb dL_law_1288 rfl (lv_at hl 5 rfl) ?_
      refine lv_iconst (v := nI 0) hx hb dL_law_1289 (by decide) ?_
      refine b_jald X E w 25 rfl 0 rfl (by omega) (by first | decide | omega) dL_law_1290 ?_
      refine lv_iload hx hb dL_law_1291 (lv_at hl 0 rfl) ?_
      refine lv_i2l (v := (r1267_2).toInt64) hx hb dL_law_1293 rfl ?_
      refine W.lcmp hx hb dL_law_1294 ?_
      refine b_tp (show lg_cmp ((gF (th1 (tHas 12 x1)) og (vp_updL og 0 (u1255_1.2.toInt64))) 0) ((r1267_2).toInt64) = nI 0 from b_lc (by rw [hT0]; exact congrArg Int32.toInt64 (an_hid hI (hcl hT0).2 (hmo hT0)))) ?_
      refine lv_if_eq (tgt := 1300) hx hb dL_law_1295 (by decide) (fun c_1295_6 => ?_) (fun c_1295_6 => ?_)
      · refine lv_goto (tgt := 1496) hx hb dL_law_1300 (by decide) ?_
        refine W.widen (k := cells + 8) (n := slots + 48) (by omega) (by omega) ?_
        exact kk _ _ _ ⟨jd, snt, td, nA, nJ, dn, bn, fA, fJ, da, dw, dc, dv, lat, ear, cnt, ld, bc, bd, bf, rf, u1255_1.1, u1267_2, on, sc, gF (th1 (tHas 12 x1)) hid (hdn fA nA fJ nJ sc (cl x1) u1255_1.1 hid), gF (th1 (tHas 12 x1)) hm (hdM fA nA fJ nJ sc (cl x1) u1267_2 hm), gF (th1 (tHas 12 x1)) og (vp_updL og 0 (u1255_1.2.toInt64)), nI (th1 (tHas 12 x1)), hI, w⟩ (lv_sub hl [2, 3, 4, 5, 6] rfl)
      · exact absurd (by decide) c_1295_6
  · exact absurd rfl c_1278_4
set_option maxHeartbeats 4000000 in
set_option maxRecDepth 100000 in
theorem op_find {p : Program} {l : Launch} (hl0 : l.stackTraces = false) {e : Env} {s : State} {m : MethodId} {below : List Frame} {meth : Method} {c : Code} {G : bG} {b L : Nat} {xs : Nat → Int32} {Q : State → Prop} (X : CallFix p m c cL_law 7 s #[Value.ref b] wsL_law RL) (E : bE G vwCl bNW bSW s) (Z0 : bZ [] s) (hX : va_X b L xs s s.heap) (hbl : b < s.heap.size) (hL : L ≤ 3584) {H0 M ot : Nat} {u5 u6 : Nat → Nat} (hH0 : s.heap.size ≤ H0) (hM : s.heap.size ≤ M) (hot : s.heap.size ≤ ot) (h5 : ∀ k, k < 24 → s.heap.size ≤ u5 k) (h6 : ∀ k, k < 13 → s.heap.size ≤ u6 k) {i : Nat} (hi : i + 7 ≤ L) {cells slots : Nat} (hcR : cells + 8 ≤ room_1.cells) (hsR : slots + 48 ≤ room_1.slots) {H : Heap} {locs : List Loc} {ls : Array Slot} (hLC : LC G s H0 M ot u5 u6 H locs) (hl : lv_has ls 7 [(0, .ref b), (1, .ref H0), (2, .ref M), (3, .ref ot), (4, .int (nI i))]) (kk : ∀ (H : Heap) (locs : List Loc) (ls : Array Slot), LC G s H0 M ot u5 u6 H locs → lv_has ls 7 [(0, .ref b), (1, .ref H0), (2, .ref M), (3, .ref ot), (4, .int (nI i))] → W p l e room_1 s m #[Value.ref b] below meth c H locs (cells + 8) (slots + 48) Q (F0 m 1496 ls [])) : W p l e room_1 s m #[Value.ref b] below meth c H locs cells slots Q (F0 m 1303 ls []) := by
  have hx := X.1
  have hb := X.2.1
  have hml := X.2.2.1
  have hown := X.2.2.2.1
  have hts := X.2.2.2.2
  have hbA : ¬ Aw [] s.heap.size b := fun h => h.elim (fun h => nomatch h) (fun h => absurd hbl (Nat.not_lt.mpr h))
  obtain ⟨jd, snt, td, nA, nJ, dn, bn, fA, fJ, da, dw, dc, dv, lat, ear, cnt, ld, bc, bd, bf, rf, v, vm, on, sc, hid, hm, og, th, hI, w⟩ := hLC
  obtain ⟨⟨hnA, hnJ, hTA, hTJ, htd, hst, hbs, hjd, hdn9⟩, hbk, hdr, hK⟩ := id hI
  have hbn : bn ≤ 300 := by omega
  obtain ⟨x1, ex1⟩ : ∃ y : Int32, y = xs (nI (i + 1)).toNatClampNeg := ⟨_, rfl⟩
  obtain ⟨x2, ex2⟩ : ∃ y : Int32, y = xs (nI (i + 2)).toNatClampNeg := ⟨_, rfl⟩
  obtain ⟨x3, ex3⟩ : ∃ y : Int32, y = xs (nI (i + 3)).toNatClampNeg := ⟨_, rfl⟩
  obtain ⟨x4, ex4⟩ : ∃ y : Int32, y = xs (nI (i + 4)).toNatClampNeg := ⟨_, rfl⟩
  obtain ⟨x5, ex5⟩ : ∃ y : Int32, y = xs (nI (i + 5)).toNatClampNeg := ⟨_, rfl⟩
  obtain ⟨x6, ex6⟩ : ∃ y : Int32, y = xs (nI (i + 6)).toNatClampNeg := ⟨_, rfl⟩
  refine lv_aload_n hx hb dL_law_1303 rfl (lv_at hl 1 rfl) ?_
  refine lv_aload_n hx hb dL_law_1304 rfl (lv_at hl 0 rfl) ?_
  refine lv_iload hx hb dL_law_1305 (lv_at hl 4 rfl) ?_
  refine lv_iconst (v := nI 1) hx hb dL_law_1307 (by decide) ?_
  refine lv_iadd hx hb dL_law_1308 ?_
  refine b_tp (show (nI i) + (nI 1) = nI (i + 1) from nI_add i 1) ?_
  refine va_sld hx hb hX hbl hbA w.2.1 (vp_in_nI (by omega) (by omega)) dL_law_1309 ?_
  refine b_tp (show xs (nI (i + 1)).toNatClampNeg = x1 from ex1.symm) ?_
  refine lv_aload_n hx hb dL_law_1310 rfl (lv_at hl 0 rfl) ?_
  refine lv_iload hx hb dL_law_1311 (lv_at hl 4 rfl) ?_
  refine lv_iconst (v := nI 2) hx hb dL_law_1313 (by decide) ?_
  refine lv_iadd hx hb dL_law_1314 ?_
  refine b_tp (show (nI i) + (nI 2) = nI (i + 2) from nI_add i 2) ?_
  refine va_sld hx hb hX hbl hbA w.2.1 (vp_in_nI (by omega) (by omega)) dL_law_1315 ?_
  refine b_tp (show xs (nI (i + 2)).toNatClampNeg = x2 from ex2.symm) ?_
  refine lv_aload_n hx hb dL_law_1316 rfl (lv_at hl 0 rfl) ?_
  refine lv_iload hx hb dL_law_1317 (lv_at hl 4 rfl) ?_
  refine lv_iconst (v := nI 3) hx hb dL_law_1319 (by decide) ?_
  refine lv_iadd hx hb dL_law_1320 ?_
  refine b_tp (show (nI i) + (nI 3) = nI (i + 3) from nI_add i 3) ?_
  refine va_sld hx hb hX hbl hbA w.2.1 (vp_in_nI (by omega) (by omega)) dL_law_1321 ?_
  refine b_tp (show xs (nI (i + 3)).toNatClampNeg = x3 from ex3.symm) ?_
  refine lv_aload_n hx hb dL_law_1322 rfl (lv_at hl 0 rfl) ?_
  refine lv_iload hx hb dL_law_1323 (lv_at hl 4 rfl) ?_
  refine lv_iconst (v := nI 4) hx hb dL_law_1325 (by decide) ?_
  refine lv_iadd hx hb dL_law_1326 ?_
  refine b_tp (show (nI i) + (nI 4) = nI (i + 4) from nI_add i 4) ?_
  refine va_sld hx hb hX hbl hbA w.2.1 (vp_in_nI (by omega) (by omega)) dL_law_1327 ?_
  refine b_tp (show xs (nI (i + 4)).toNatClampNeg = x4 from ex4.symm) ?_
  refine lv_aload_n hx hb dL_law_1328 rfl (lv_at hl 0 rfl) ?_
  refine lv_iload hx hb dL_law_1329 (lv_at hl 4 rfl) ?_
  refine lv_iconst (v := nI 5) hx hb dL_law_1331 (by decide) ?_
  refine lv_iadd hx hb dL_law_1332 ?_
  refine b_tp (show (nI i) + (nI 5) = nI (i + 5) from nI_add i 5) ?_
  refine va_sld hx hb hX hbl hbA w.2.1 (vp_in_nI (by omega) (by omega)) dL_law_1333 ?_
  refine b_tp (show xs (nI (i + 5)).toNatClampNeg = x5 from ex5.symm) ?_
  refine lv_aload_n hx hb dL_law_1334 rfl (lv_at hl 0 rfl) ?_
  refine lv_iload hx hb dL_law_1335 (lv_at hl 4 rfl) ?_
  refine lv_bipush (v := nI 6) hx hb dL_law_1337 (by decide) ?_
  refine lv_iadd hx hb dL_law_1339 ?_
  refine b_tp (show (nI i) + (nI 6) = nI (i + 6) from nI_add i 6) ?_
  refine va_sld hx hb hX hbl hbA w.2.1 (vp_in_nI (by omega) (by omega)) dL_law_1340 ?_
  refine b_tp (show xs (nI (i + 6)).toNatClampNeg = x6 from ex6.symm) ?_
  refine lv_aload_n hx hb dL_law_1341 rfl (lv_at hl 3 rfl) ?_
  refine b_calli w (vx_runSW (As := [.ref H0, .int x1, .int x2, .int x3, .int x4, .int x5, .int x6, .ref ot]) (rest := []) X (c_L_find l hl0 G _ (H0 := H0) (x := x1) (y := x2) (f := x3) (t := x4) (sn := x5) (pl := x6) (ot := ot) (tA := (u5 0)) (tJ := (u5 2)) (gO := (u5 4)) (dO := (u5 6)) (bO := (u5 11)) (sO := (u5 19)) (qs := (u5 22)) (qr := (u5 23)) (jd := jd) (snt := snt) (td := td) (oA := (u5 1)) (nA := nA) (fA := fA) (oJ := (u5 3)) (nJ := nJ) (fJ := fJ) (ql := (u5 12)) (qe := (u5 13)) (qn := (u5 14)) (qt := (u5 15)) (qc := (u5 16)) (qd := (u5 17)) (qf := (u5 18)) (bn := bn) (lat := lat) (ld := ld) (og := og) (hnA := (by first | assumption | omega)) (hnJ := (by first | assumption | omega)) (hTA := (by first | assumption | omega)) (hTJ := (by first | assumption | omega))) (vx_cwSW 8 hts gL_law_L_find rfl rfl rfl (by decide +kernel) ⟨Nat.le_of_ble_eq_true rfl, Nat.le_of_ble_eq_true rfl⟩) ⟨b_blind, (fun U9 hU9 hW9 => ⟨rfl, b_pre E Z0 w [0, 1, 2, 3, 4, 12, 13, 16, 25] (by decide) rfl (b_inc (Or.inr hot) b_inn) U9 hU9 hW9⟩)⟩ rfl rfl hl.1 rfl (lv_room (Nat.le_of_ble_eq_true rfl)) dL_law_1342 ⟨Nat.le_trans (by omega) hcR, Nat.le_trans (by omega) hsR⟩) (b_inc (Or.inr hot) b_inn) [25] (fun _ => rfl) rfl (fun r1342_1 u1342_1 H locs hr1342_1 w => ?_)
  have w : bSt G vwCl [] s [(H0, .inr (5, [.ref (u5 0), .ref (u5 2), .ref (u5 4), .ref (u5 6), .ref (u5 11), .ref (u5 19), .ref (u5 22), .ref (u5 23), .int (nI jd), .int (nI snt), .int (nI td)])), ((u5 0), .inr (4, [.ref (u5 1), .int (nI 10), .int (nI nA)])), ((u5 1), .inl (G.2.1, 14, .inl fA)), ((u5 2), .inr (4, [.ref (u5 3), .int (nI 1), .int (nI nJ)])), ((u5 3), .inl (G.2.1, 10, .inl fJ)), ((u5 4), .inr (0, [.ref (u5 5)])), ((u5 5), .inl (G.2.2.1, 56, .inl (zB on))), ((u5 6), .inr (2, [.ref (u5 7), .ref (u5 8), .ref (u5 9), .ref (u5 10), .int (nI dn)])), ((u5 7), .inl (G.2.1, 16, .inl dw)), ((u5 8), .inl (G.2.1, 16, .inl da)), ((u5 9), .inl (G.2.1, 16, .inl dc)), ((u5 10), .inl (G.2.1, 16, .inl dv)), ((u5 11), .inr (1, [.ref (u5 12), .ref (u5 13), .ref (u5 14), .ref (u5 15), .ref (u5 16), .ref (u5 17), .ref (u5 18), .int (nI bn)])), ((u5 12), .inl (G.2.1, 1680, .inl lat)), ((u5 13), .inl (G.2.1, 1680, .inl ear)), ((u5 14), .inl (G.2.1, 1680, .inl cnt)), ((u5 15), .inl (G.2.1, 1680, .inl ld)), ((u5 16), .inl (G.2.1, 300, .inl bc)), ((u5 17), .inl (G.2.1, 300, .inl bd)), ((u5 18), .inl (G.2.1, 300, .inl bf)), ((u5 19), .inr (3, [.ref (u5 20), .ref (u5 21)])), ((u5 20), .inl (G.2.1, 140, .inl v)), ((u5 21), .inl (G.2.2.1, 140, .inl (zB hid))), ((u5 22), .inl (G.2.2.1, 1680, .inl (zB sc))), ((u5 23), .inl (G.2.1, 16, .inl rf)), (ot, .inl (G.2.2.2, 1, .inr (.inl (gF (th2 (tPat nA x1 && tPat nJ x2 && !decide (x6 < 0)) (tHas 12 x3 && tHas 12 x4 && !decide (x4 < x3) && sOk x5)) og (vp_updL og 0 ((srR (srT (mM fA nA fJ nJ lat ld x1 x2 x5) nA nJ (cl x3) (cl x4) (cl x6))).toInt64)))))), (M, .inr (6, [.int (nI td), .int (nI nA), .int (nI nJ), .ref (u6 0), .ref (u6 1), .ref (u6 2), .int (nI dn), .ref (u6 3), .ref (u6 4), .ref (u6 5), .int (nI snt), .int (nI jd), .ref (u6 6), .int (nI bn), .ref (u6 7), .ref (u6 8), .ref (u6 9), .ref (u6 10), .ref (u6 11), .ref (u6 12), .int th])), ((u6 0), .inl (G.2.1, 14, .inl fA)), ((u6 1), .inl (G.2.1, 10, .inl fJ)), ((u6 2), .inl (G.2.2.1, 56, .inl (zB on))), ((u6 3), .inl (G.2.1, 16, .inl dw)), ((u6 4), .inl (G.2.1, 16, .inl dc)), ((u6 5), .inl (G.2.1, 16, .inl dv)), ((u6 6), .inl (G.2.1, 16, .inl rf)), ((u6 7), .inl (G.2.1, 300, .inl bc)), ((u6 8), .inl (G.2.1, 300, .inl bd)), ((u6 9), .inl (G.2.1, 300, .inl bf)), ((u6 10), .inl (G.2.2.1, 1680, .inl (zB sc))), ((u6 11), .inl (G.2.1, 140, .inl vm)), ((u6 12), .inl (G.2.2.1, 140, .inl (zB hm)))] _ _ := w
  subst hr1342_1
  refine lv_istore (lv' := [(5, .int (nI (th2 (tPat nA x1 && tPat nJ x2 && !decide (x6 < 0)) (tHas 12 x3 && tHas 12 x4 && !decide (x4 < x3) && sOk x5)))), (0, .ref b), (1, .ref H0), (2, .ref M), (3, .ref ot), (4, .int (nI i))]) hx hb dL_law_1345 hl (by decide) rfl (fun ls hl => ?_)
  refine lv_aload_n hx hb dL_law_1347 rfl (lv_at hl 3 rfl) ?_
  refine lv_aload_n hx hb dL_law_1348 rfl (lv_at hl 1 rfl) ?_
  refine lv_iload hx hb dL_law_1349 (lv_at hl 5 rfl) ?_
  refine lv_iconst (v := nI 1) hx hb dL_law_1351 (by decide) ?_
  refine lv_iadd hx hb dL_law_1352 ?_
  refine b_tp (show (nI i) + (nI 1) = nI (i + 1) from nI_add i 1) ?_
  refine va_sld hx hb hX hbl hbA w.2.1 (vp_in_nI (by omega) (by omega)) dL_law_1353 ?_
  refine b_tp (show xs (nI (i + 1)).toNatClampNeg = x1 from ex1.symm) ?_
  refine lv_aload_n hx hb dL_law_1354 rfl (lv_at hl 1 rfl) ?_
  refine lv_iload hx hb dL_law_1355 (lv_at hl 5 rfl) ?_
  refine lv_iconst (v := nI 2) hx hb dL_law_1357 (by decide) ?_
  refine lv_iadd hx hb dL_law_1358 ?_
  refine b_tp (show (nI i) + (nI 2) = nI (i + 2) from nI_add i 2) ?_
  refine va_sld hx hb hX hbl hbA w.2.1 (vp_in_nI (by omega) (by omega)) dL_law_1359 ?_
  refine b_tp (show xs (nI (i + 2)).toNatClampNeg = x2 from ex2.symm) ?_
  refine lv_aload_n hx hb dL_law_1360 rfl (lv_at hl 1 rfl) ?_
  refine lv_iload hx hb dL_law_1361 (lv_at hl 5 rfl) ?_
  refine lv_iconst (v := nI 3) hx hb dL_law_1363 (by decide) ?_
  refine lv_iadd hx hb dL_law_1364 ?_
  refine b_tp (show (nI i) + (nI 3) = nI (i + 3) from nI_add i 3) ?_
  refine va_sld hx hb hX hbl hbA w.2.1 (vp_in_nI (by omega) (by omega)) dL_law_1365 ?_
  refine b_tp (show xs (nI (i + 3)).toNatClampNeg = x3 from ex3.symm) ?_
  refine lv_aload_n hx hb dL_law_1366 rfl (lv_at hl 1 rfl) ?_
  refine lv_iload hx hb dL_law_1367 (lv_at hl 5 rfl) ?_
  refine lv_iconst (v := nI 4) hx hb dL_law_1369 (by decide) ?_
  refine lv_iadd hx hb dL_law_1370 ?_
  refine b_tp (show (nI i) + (nI 4) = nI (i + 4) from nI_add i 4) ?_
  refine va_sld hx hb hX hbl hbA w.2.1 (vp_in_nI (by omega) (by omega)) dL_law_1371 ?_
  refine b_tp (show xs (nI (i + 4)).toNatClampNeg = x4 from ex4.symm) ?_
  refine lv_aload_n hx hb dL_law_1372 rfl (lv_at hl 1 rfl) ?_
  refine lv_iload hx hb dL_law_1373 (lv_at hl 5 rfl) ?_
  refine lv_iconst (v := nI 5) hx hb dL_law_1375 (by decide) ?_
  refine lv_iadd hx hb dL_law_1376 ?_
  refine b_tp (show (nI i) + (nI 5) = nI (i + 5) from nI_add i 5) ?_
  refine va_sld hx hb hX hbl hbA w.2.1 (vp_in_nI (by omega) (by omega)) dL_law_1377 ?_
  refine b_tp (show xs (nI (i + 5)).toNatClampNeg = x5 from ex5.symm) ?_
  refine lv_aload_n hx hb dL_law_1378 rfl (lv_at hl 1 rfl) ?_
  refine lv_iload hx hb dL_law_1379 (lv_at hl 5 rfl) ?_
  refine lv_bipush (v := nI 6) hx hb dL_law_1381 (by decide) ?_
  refine lv_iadd hx hb dL_law_1383 ?_
  refine b_tp (show (nI i) + (nI 6) = nI (i + 6) from nI_add i 6) ?_
  refine va_sld hx hb hX hbl hbA w.2.1 (vp_in_nI (by omega) (by omega)) dL_law_1384 ?_
  refine b_tp (show xs (nI (i + 6)).toNatClampNeg = x6 from ex6.symm) ?_
  refine b_calli w (va_runV (As := [.int x1, .int x2, .int x3, .int x4, .int x5, .int x6]) (rest := []) X (c_X6_find l hl0 G _ (M := M) (x := x1) (y := x2) (f := x3) (t0 := x4) (sn := x5) (pl := x6) (td := td) (nA := nA) (nJ := nJ) (yA := (u6 0)) (yJ := (u6 1)) (yg := (u6 2)) (dn := dn) (yw := (u6 3)) (yc := (u6 4)) (yv := (u6 5)) (snt := snt) (jd := jd) (yr := (u6 6)) (bn := bn) (yC := (u6 7)) (yD := (u6 8)) (yF := (u6 9)) (yS := (u6 10)) (yV := (u6 11)) (yH := (u6 12)) (th := th) (fA := fA) (fJ := fJ) (bc := bc) (bd := bd) (bf := bf) (hnA := (by first | assumption | omega)) (hnJ := (by first | assumption | omega)) (hTA := (by first | assumption | omega)) (hTJ := (by first | assumption | omega)) (hbn := (by first | assumption | omega))) (cwV 6 hts gL_law_X6_find rfl rfl rfl (by decide +kernel) ⟨Nat.le_of_ble_eq_true rfl, Nat.le_of_ble_eq_true rfl⟩) ⟨b_blind, b_recv E w (ci := 6) (q0 := 26) rfl rfl, (fun U9 hU9 hW9 => ⟨rfl, b_pre E Z0 w [26, 27, 28, 34, 35, 36] (by decide) rfl (b_inc (Or.inr hM) b_inn) U9 hU9 hW9⟩)⟩ rfl rfl hl.1 rfl (lv_room (Nat.le_of_ble_eq_true rfl)) dL_law_1385 ⟨Nat.le_trans (by omega) hcR, Nat.le_trans (by omega) hsR⟩) (b_inc (Or.inr hM) b_inn) [26] (fun _ => rfl) rfl (fun r1385_2 u1385_2 H locs hr1385_2 w => ?_)
  have w : bSt G vwCl [] s [(H0, .inr (5, [.ref (u5 0), .ref (u5 2), .ref (u5 4), .ref (u5 6), .ref (u5 11), .ref (u5 19), .ref (u5 22), .ref (u5 23), .int (nI jd), .int (nI snt), .int (nI td)])), ((u5 0), .inr (4, [.ref (u5 1), .int (nI 10), .int (nI nA)])), ((u5 1), .inl (G.2.1, 14, .inl fA)), ((u5 2), .inr (4, [.ref (u5 3), .int (nI 1), .int (nI nJ)])), ((u5 3), .inl (G.2.1, 10, .inl fJ)), ((u5 4), .inr (0, [.ref (u5 5)])), ((u5 5), .inl (G.2.2.1, 56, .inl (zB on))), ((u5 6), .inr (2, [.ref (u5 7), .ref (u5 8), .ref (u5 9), .ref (u5 10), .int (nI dn)])), ((u5 7), .inl (G.2.1, 16, .inl dw)), ((u5 8), .inl (G.2.1, 16, .inl da)), ((u5 9), .inl (G.2.1, 16, .inl dc)), ((u5 10), .inl (G.2.1, 16, .inl dv)), ((u5 11), .inr (1, [.ref (u5 12), .ref (u5 13), .ref (u5 14), .ref (u5 15), .ref (u5 16), .ref (u5 17), .ref (u5 18), .int (nI bn)])), ((u5 12), .inl (G.2.1, 1680, .inl lat)), ((u5 13), .inl (G.2.1, 1680, .inl ear)), ((u5 14), .inl (G.2.1, 1680, .inl cnt)), ((u5 15), .inl (G.2.1, 1680, .inl ld)), ((u5 16), .inl (G.2.1, 300, .inl bc)), ((u5 17), .inl (G.2.1, 300, .inl bd)), ((u5 18), .inl (G.2.1, 300, .inl bf)), ((u5 19), .inr (3, [.ref (u5 20), .ref (u5 21)])), ((u5 20), .inl (G.2.1, 140, .inl v)), ((u5 21), .inl (G.2.2.1, 140, .inl (zB hid))), ((u5 22), .inl (G.2.2.1, 1680, .inl (zB sc))), ((u5 23), .inl (G.2.1, 16, .inl rf)), (ot, .inl (G.2.2.2, 1, .inr (.inl (gF (th2 (tPat nA x1 && tPat nJ x2 && !decide (x6 < 0)) (tHas 12 x3 && tHas 12 x4 && !decide (x4 < x3) && sOk x5)) og (vp_updL og 0 ((srR (srT (mM fA nA fJ nJ lat ld x1 x2 x5) nA nJ (cl x3) (cl x4) (cl x6))).toInt64)))))), (M, .inr (6, [.int (nI td), .int (nI nA), .int (nI nJ), .ref (u6 0), .ref (u6 1), .ref (u6 2), .int (nI dn), .ref (u6 3), .ref (u6 4), .ref (u6 5), .int (nI snt), .int (nI jd), .ref (u6 6), .int (nI bn), .ref (u6 7), .ref (u6 8), .ref (u6 9), .ref (u6 10), .ref (u6 11), .ref (u6 12), .int (nI (th2 (tPat nA x1 && tPat nJ x2 && !decide (x6 < 0)) (tHas 12 x3 && tHas 12 x4 && !decide (x4 < x3) && sOk x5)))])), ((u6 0), .inl (G.2.1, 14, .inl fA)), ((u6 1), .inl (G.2.1, 10, .inl fJ)), ((u6 2), .inl (G.2.2.1, 56, .inl (zB on))), ((u6 3), .inl (G.2.1, 16, .inl dw)), ((u6 4), .inl (G.2.1, 16, .inl dc)), ((u6 5), .inl (G.2.1, 16, .inl dv)), ((u6 6), .inl (G.2.1, 16, .inl rf)), ((u6 7), .inl (G.2.1, 300, .inl bc)), ((u6 8), .inl (G.2.1, 300, .inl bd)), ((u6 9), .inl (G.2.1, 300, .inl bf)), ((u6 10), .inl (G.2.2.1, 1680, .inl (zB sc))), ((u6 11), .inl (G.2.1, 140, .inl vm)), ((u6 12), .inl (G.2.2.1, 140, .inl (zB hm)))] _ _ := w
  subst hr1385_2
  refine lv_istore (lv' := [(6, .int (gF (th2 (tPat nA x1 && tPat nJ x2 && !decide (x6 < 0)) (tHas 12 x3 && tHas 12 x4 && !decide (x4 < x3) && sOk x5)) 0 (srR (srT (mMm fA nA fJ nJ bc bd bf bn td x1 x2 x5) nA nJ (cl x3) (cl x4) (cl x6))))), (5, .int (nI (th2 (tPat nA x1 && tPat nJ x2 && !decide (x6 < 0)) (tHas 12 x3 && tHas 12 x4 && !decide (x4 < x3) && sOk x5)))), (0, .ref b), (1, .ref H0), (2, .ref M), (3, .ref ot), (4, .int (nI i))]) hx hb dL_law_1388 hl (by decide) rfl (fun ls hl => ?_)
  refine lv_aload_n hx hb dL_law_1390 rfl (lv_at hl 4 rfl) ?_
  refine b_calli w (va_runV (As := []) (rest := []) X (c_X6_thrown l hl0 G _ (M := M) (td := td) (nA := nA) (nJ := nJ) (yA := (u6 0)) (yJ := (u6 1)) (yg := (u6 2)) (dn := dn) (yw := (u6 3)) (yc := (u6 4)) (yv := (u6 5)) (snt := snt) (jd := jd) (yr := (u6 6)) (bn := bn) (yC := (u6 7)) (yD := (u6 8)) (yF := (u6 9)) (yS := (u6 10)) (yV := (u6 11)) (yH := (u6 12)) (th := nI (th2 (tPat nA x1 && tPat nJ x2 && !decide (x6 < 0)) (tHas 12 x3 && tHas 12 x4 && !decide (x4 < x3) && sOk x5))) ) (cwV 0 hts gL_law_X6_thrown rfl rfl rfl (by decide +kernel) ⟨Nat.le_of_ble_eq_true rfl, Nat.le_of_ble_eq_true rfl⟩) ⟨b_blind, b_recv E w (ci := 6) (q0 := 26) rfl rfl, (fun U9 hU9 hW9 => ⟨rfl, b_pre E Z0 w [26] (by decide) rfl b_nil U9 hU9 hW9⟩)⟩ rfl rfl hl.1 rfl (lv_room (Nat.le_of_ble_eq_true rfl)) dL_law_1391 ⟨Nat.le_trans (by omega) hcR, Nat.le_trans (by omega) hsR⟩) b_nil [] (fun _ => rfl) rfl (fun r1391_3 u1391_3 H locs hr1391_3 w => ?_)
  have w : bSt G vwCl [] s [(H0, .inr (5, [.ref (u5 0), .ref (u5 2), .ref (u5 4), .ref (u5 6), .ref (u5 11), .ref (u5 19), .ref (u5 22), .ref (u5 23), .int (nI jd), .int (nI snt), .int (nI td)])), ((u5 0), .inr (4, [.ref (u5 1), .int (nI 10), .int (nI nA)])), ((u5 1), .inl (G.2.1, 14, .inl fA)), ((u5 2), .inr (4, [.ref (u5 3), .int (nI 1), .int (nI nJ)])), ((u5 3), .inl (G.2.1, 10, .inl fJ)), ((u5 4), .inr (0, [.ref (u5 5)])), ((u5 5), .inl (G.2.2.1, 56, .inl (zB on))), ((u5 6), .inr (2, [.ref (u5 7), .ref (u5 8), .ref (u5 9), .ref (u5 10), .int (nI dn)])), ((u5 7), .inl (G.2.1, 16, .inl dw)), ((u5 8), .inl (G.2.1, 16, .inl da)), ((u5 9), .inl (G.2.1, 16, .inl dc)), ((u5 10), .inl (G.2.1, 16, .inl dv)), ((u5 11), .inr (1, [.ref (u5 12), .ref (u5 13), .ref (u5 14), .ref (u5 15), .ref (u5 16), .ref (u5 17), .ref (u5 18), .int (nI bn)])), ((u5 12), .inl (G.2.1, 1680, .inl lat)), ((u5 13), .inl (G.2.1, 1680, .inl ear)), ((u5 14), .inl (G.2.1, 1680, .inl cnt)), ((u5 15), .inl (G.2.1, 1680, .inl ld)), ((u5 16), .inl (G.2.1, 300, .inl bc)), ((u5 17), .inl (G.2.1, 300, .inl bd)), ((u5 18), .inl (G.2.1, 300, .inl bf)), ((u5 19), .inr (3, [.ref (u5 20), .ref (u5 21)])), ((u5 20), .inl (G.2.1, 140, .inl v)), ((u5 21), .inl (G.2.2.1, 140, .inl (zB hid))), ((u5 22), .inl (G.2.2.1, 1680, .inl (zB sc))), ((u5 23), .inl (G.2.1, 16, .inl rf)), (ot, .inl (G.2.2.2, 1, .inr (.inl (gF (th2 (tPat nA x1 && tPat nJ x2 && !decide (x6 < 0)) (tHas 12 x3 && tHas 12 x4 && !decide (x4 < x3) && sOk x5)) og (vp_updL og 0 ((srR (srT (mM fA nA fJ nJ lat ld x1 x2 x5) nA nJ (cl x3) (cl x4) (cl x6))).toInt64)))))), (M, .inr (6, [.int (nI td), .int (nI nA), .int (nI nJ), .ref (u6 0), .ref (u6 1), .ref (u6 2), .int (nI dn), .ref (u6 3), .ref (u6 4), .ref (u6 5), .int (nI snt), .int (nI jd), .ref (u6 6), .int (nI bn), .ref (u6 7), .ref (u6 8), .ref (u6 9), .ref (u6 10), .ref (u6 11), .ref (u6 12), .int (nI (th2 (tPat nA x1 && tPat nJ x2 && !decide (x6 < 0)) (tHas 12 x3 && tHas 12 x4 && !decide (x4 < x3) && sOk x5)))])), ((u6 0), .inl (G.2.1, 14, .inl fA)), ((u6 1), .inl (G.2.1, 10, .inl fJ)), ((u6 2), .inl (G.2.2.1, 56, .inl (zB on))), ((u6 3), .inl (G.2.1, 16, .inl dw)), ((u6 4), .inl (G.2.1, 16, .inl dc)), ((u6 5), .inl (G.2.1, 16, .inl dv)), ((u6 6), .inl (G.2.1, 16, .inl rf)), ((u6 7), .inl (G.2.1, 300, .inl bc)), ((u6 8), .inl (G.2.1, 300, .inl bd)), ((u6 9), .inl (G.2.1, 300, .inl bf)), ((u6 10), .inl (G.2.2.1, 1680, .inl (zB sc))), ((u6 11), .inl (G.2.1, 140, .inl vm)), ((u6 12), .inl (G.2.2.1, 140, .inl (zB hm)))] _ _ := w
  subst hr1391_3
  refine lv_iload hx hb dL_law_1394 (lv_at hl 1 rfl) ?_
  refine lv_icmp_eq (tgt := 1401) hx hb dL_law_1396 (by decide) (fun c_1396_4 => ?_) (fun c_1396_4 => ?_)
  · refine lv_iload hx hb dL_law_1401 (lv_at hl 1 rfl) ?_
    refine lv_if_ne (tgt := 1418) hx hb dL_law_1403 (by decide) (fun c_1403_5 => ?_) (fun c_1403_5 => ?_)
    · refine lv_goto (tgt := 1496) hx hb dL_law_1418 (by decide) ?_
      refine W.widen (k := cells + 8) (n := slots + 48) (by omega) (by omega) ?_
      exact kk _ _ _ ⟨jd, snt, td, nA, nJ, dn, bn, fA, fJ, da, dw, dc, dv, lat, ear, cnt, ld, bc, bd, bf, rf, v, vm, on, sc, hid, hm, gF (th2 (tPat nA x1 && tPat nJ x2 && !decide (x6 < 0)) (tHas 12 x3 && tHas 12 x4 && !decide (x4 < x3) && sOk x5)) og (vp_updL og 0 ((srR (srT (mM fA nA fJ nJ lat ld x1 x2 x5) nA nJ (cl x3) (cl x4) (cl x6))).toInt64)), nI (th2 (tPat nA x1 && tPat nJ x2 && !decide (x6 < 0)) (tHas 12 x3 && tHas 12 x4 && !decide (x4 < x3) && sOk x5)), hI, w⟩ (lv_sub hl [2, 3, 4, 5, 6] rfl)
    · have hT0 := b_T0 th2_lt c_1403_5
      refine lv_aload_n hx hb dL_law_1406 rfl (lv_at hl 5 rfl) ?_
      refine lv_iconst (v := nI 0) hx hb dL_law_1407 (by decide) ?_
      refine b_jald X E w 25 rfl 0 rfl (by omega) (by first | decide | omega) dL_law_1408 ?_
      refine lv_iload hx hb dL_law_1409 (lv_at hl 0 rfl) ?_
      refine lv_i2l (v := (gF (th2 (tPat nA x1 && tPat nJ x2 && !decide (x6 < 0)) (tHas 12 x3 && tHas 12 x4 && !decide (x4 < x3) && sOk x5)) 0 (srR (srT (mMm fA nA fJ nJ bc bd bf bn td x1 x2 x5) nA nJ (cl x3) (cl x4) (cl x6)))).toInt64) hx hb dL_law_1411 rfl ?_
      refine W.lcmp hx hb dL_law_1412 ?_
      refine b_tp (show lg_cmp ((gF (th2 (tPat nA x1 && tPat nJ x2 && !decide (x6 < 0)) (tHas 12 x3 && tHas 12 x4 && !decide (x4 < x3) && sOk x5)) og (vp_updL og 0 ((srR (srT (mM fA nA fJ nJ lat ld x1 x2 x5) nA nJ (cl x3) (cl x4) (cl x6))).toInt64))) 0) ((gF (th2 (tPat nA x1 && tPat nJ x2 && !decide (x6 < 0)) (tHas 12 x3 && tHas 12 x4 && !decide (x4 < x3) && sOk x5)) 0 (srR (srT (mMm fA nA fJ nJ bc bd bf bn td x1 x2 x5) nA nJ (cl x3) (cl x4) (cl x6)))).toInt64) = nI 0 from b_lc (by rw [hT0]; exact congrArg (fun q => (srR q).toInt64) (an_find hI (b_t12 (th2_0 hT0).2)))) ?_
      refine lv_if_eq (tgt := 1418) hx hb dL_law_1413 (by decide) (fun c_1413_6 => ?_) (fun c_1413_6 => ?_)
      · refine lv_goto (tgt := 1496) hx hb dL_law_1418 (by decide) ?_
        refine W.widen (k := cells + 8) (n := slots + 48) (by omega) (by omega) ?_
        exact kk _ _ _ ⟨jd, snt, td, nA, nJ, dn, bn, fA, fJ, da, dw, dc, dv, lat, ear, cnt, ld, bc, bd, bf, rf, v, vm, on, sc, hid, hm, gF (th2 (tPat nA x1 && tPat nJ x2 && !decide (x6 < 0)) (tHas 12 x3 && tHas 12 x4 && !decide (x4 < x3) && sOk x5)) og (vp_updL og 0 ((srR (srT (mM fA nA fJ nJ lat ld x1 x2 x5) nA nJ (cl x3) (cl x4) (cl x6))).toInt64)), nI (th2 (tPat nA x1 && tPat nJ x2 && !decide (x6 < 0)) (tHas 12 x3 && tHas 12 x4 && !decide (x4 < x3) && sOk x5)), hI, w⟩ (lv_sub hl [2, 3, 4, 5, 6] rfl)
      · exact absurd (by decide) c_1413_6
  · exact absurd rfl c_1396_4
set_option maxHeartbeats 4000000 in
set_option maxRecDepth 100000 in
theorem op_mayTell {p : Program} {l : Launch} (hl0 : l.stackTraces = false) {e : Env} {s : State} {m : MethodId} {below : List Frame} {meth : Method} {c : Code} {G : bG} {b L : Nat} {xs : Nat → Int32} {Q : State → Prop} (X : CallFix p m c cL_law 7 s #[Value.ref b] wsL_law RL) (E : bE G vwCl bNW bSW s) (Z0 : bZ [] s) (hX : va_X b L xs s s.heap) (hbl : b < s.heap.size) (hL : L ≤ 3584) {H0 M ot : Nat} {u5 u6 : Nat → Nat} (hH0 : s.heap.size ≤ H0) (hM : s.heap.size ≤ M) (hot : s.heap.size ≤ ot) (h5 : ∀ k, k < 24 → s.heap.size ≤ u5 k) (h6 : ∀ k, k < 13 → s.heap.size ≤ u6 k) {i : Nat} (hi : i + 7 ≤ L) {cells slots : Nat} (hcR : cells + 8 ≤ room_1.cells) (hsR : slots + 48 ≤ room_1.slots) {H : Heap} {locs : List Loc} {ls : Array Slot} (hLC : LC G s H0 M ot u5 u6 H locs) (hl : lv_has ls 7 [(0, .ref b), (1, .ref H0), (2, .ref M), (3, .ref ot), (4, .int (nI i))]) (kk : ∀ (H : Heap) (locs : List Loc) (ls : Array Slot), LC G s H0 M ot u5 u6 H locs → lv_has ls 7 [(0, .ref b), (1, .ref H0), (2, .ref M), (3, .ref ot), (4, .int (nI i))] → W p l e room_1 s m #[Value.ref b] below meth c H locs (cells + 8) (slots + 48) Q (F0 m 1496 ls [])) : W p l e room_1 s m #[Value.ref b] below meth c H locs cells slots Q (F0 m 1421 ls []) := by
  have hx := X.1
  have hb := X.2.1
  have hml := X.2.2.1
  have hown := X.2.2.2.1
  have hts := X.2.2.2.2
  have hbA : ¬ Aw [] s.heap.size b := fun h => h.elim (fun h => nomatch h) (fun h => absurd hbl (Nat.not_lt.mpr h))
  obtain ⟨jd, snt, td, nA, nJ, dn, bn, fA, fJ, da, dw, dc, dv, lat, ear, cnt, ld, bc, bd, bf, rf, v, vm, on, sc, hid, hm, og, th, hI, w⟩ := hLC
  obtain ⟨⟨hnA, hnJ, hTA, hTJ, htd, hst, hbs, hjd, hdn9⟩, hbk, hdr, hK⟩ := id hI
  have hbn : bn ≤ 300 := by omega
  obtain ⟨x1, ex1⟩ : ∃ y : Int32, y = xs (nI (i + 1)).toNatClampNeg := ⟨_, rfl⟩
  obtain ⟨x2, ex2⟩ : ∃ y : Int32, y = xs (nI (i + 2)).toNatClampNeg := ⟨_, rfl⟩
  obtain ⟨x3, ex3⟩ : ∃ y : Int32, y = xs (nI (i + 3)).toNatClampNeg := ⟨_, rfl⟩
  obtain ⟨x4, ex4⟩ : ∃ y : Int32, y = xs (nI (i + 4)).toNatClampNeg := ⟨_, rfl⟩
  obtain ⟨x5, ex5⟩ : ∃ y : Int32, y = xs (nI (i + 5)).toNatClampNeg := ⟨_, rfl⟩
  obtain ⟨x6, ex6⟩ : ∃ y : Int32, y = xs (nI (i + 6)).toNatClampNeg := ⟨_, rfl⟩
  refine lv_aload_n hx hb dL_law_1421 rfl (lv_at hl 1 rfl) ?_
  refine lv_aload_n hx hb dL_law_1422 rfl (lv_at hl 0 rfl) ?_
  refine lv_iload hx hb dL_law_1423 (lv_at hl 4 rfl) ?_
  refine lv_iconst (v := nI 1) hx hb dL_law_1425 (by decide) ?_
  refine lv_iadd hx hb dL_law_1426 ?_
  refine b_tp (show (nI i) + (nI 1) = nI (i + 1) from nI_add i 1) ?_
  refine va_sld hx hb hX hbl hbA w.2.1 (vp_in_nI (by omega) (by omega)) dL_law_1427 ?_
  refine b_tp (show xs (nI (i + 1)).toNatClampNeg = x1 from ex1.symm) ?_
  refine lv_aload_n hx hb dL_law_1428 rfl (lv_at hl 0 rfl) ?_
  refine lv_iload hx hb dL_law_1429 (lv_at hl 4 rfl) ?_
  refine lv_iconst (v := nI 2) hx hb dL_law_1431 (by decide) ?_
  refine lv_iadd hx hb dL_law_1432 ?_
  refine b_tp (show (nI i) + (nI 2) = nI (i + 2) from nI_add i 2) ?_
  refine va_sld hx hb hX hbl hbA w.2.1 (vp_in_nI (by omega) (by omega)) dL_law_1433 ?_
  refine b_tp (show xs (nI (i + 2)).toNatClampNeg = x2 from ex2.symm) ?_
  refine lv_aload_n hx hb dL_law_1434 rfl (lv_at hl 3 rfl) ?_
  refine b_calli w (vx_runSW (As := [.ref H0, .int x1, .int x2, .ref ot]) (rest := []) X (c_L_mayTell l hl0 G _ (H0 := H0) (x := x1) (y := x2) (ot := ot) (tA := (u5 0)) (tJ := (u5 2)) (gO := (u5 4)) (dO := (u5 6)) (bO := (u5 11)) (sO := (u5 19)) (qs := (u5 22)) (qr := (u5 23)) (jd := jd) (snt := snt) (td := td) (oA := (u5 1)) (nA := nA) (fA := fA) (qg := (u5 5)) (on := on) (og := og) (hnA := (by first | assumption | omega)) (hTA := (by first | assumption | omega))) (vx_cwSW 4 hts gL_law_L_mayTell rfl rfl rfl (by decide +kernel) ⟨Nat.le_of_ble_eq_true rfl, Nat.le_of_ble_eq_true rfl⟩) ⟨b_blind, (fun U9 hU9 hW9 => ⟨rfl, b_pre E Z0 w [0, 1, 2, 5, 6, 25] (by decide) rfl (b_inc (Or.inr hot) b_inn) U9 hU9 hW9⟩)⟩ rfl rfl hl.1 rfl (lv_room (Nat.le_of_ble_eq_true rfl)) dL_law_1435 ⟨Nat.le_trans (by omega) hcR, Nat.le_trans (by omega) hsR⟩) (b_inc (Or.inr hot) b_inn) [25] (fun _ => rfl) rfl (fun r1435_1 u1435_1 H locs hr1435_1 w => ?_)
  have w : bSt G vwCl [] s [(H0, .inr (5, [.ref (u5 0), .ref (u5 2), .ref (u5 4), .ref (u5 6), .ref (u5 11), .ref (u5 19), .ref (u5 22), .ref (u5 23), .int (nI jd), .int (nI snt), .int (nI td)])), ((u5 0), .inr (4, [.ref (u5 1), .int (nI 10), .int (nI nA)])), ((u5 1), .inl (G.2.1, 14, .inl fA)), ((u5 2), .inr (4, [.ref (u5 3), .int (nI 1), .int (nI nJ)])), ((u5 3), .inl (G.2.1, 10, .inl fJ)), ((u5 4), .inr (0, [.ref (u5 5)])), ((u5 5), .inl (G.2.2.1, 56, .inl (zB on))), ((u5 6), .inr (2, [.ref (u5 7), .ref (u5 8), .ref (u5 9), .ref (u5 10), .int (nI dn)])), ((u5 7), .inl (G.2.1, 16, .inl dw)), ((u5 8), .inl (G.2.1, 16, .inl da)), ((u5 9), .inl (G.2.1, 16, .inl dc)), ((u5 10), .inl (G.2.1, 16, .inl dv)), ((u5 11), .inr (1, [.ref (u5 12), .ref (u5 13), .ref (u5 14), .ref (u5 15), .ref (u5 16), .ref (u5 17), .ref (u5 18), .int (nI bn)])), ((u5 12), .inl (G.2.1, 1680, .inl lat)), ((u5 13), .inl (G.2.1, 1680, .inl ear)), ((u5 14), .inl (G.2.1, 1680, .inl cnt)), ((u5 15), .inl (G.2.1, 1680, .inl ld)), ((u5 16), .inl (G.2.1, 300, .inl bc)), ((u5 17), .inl (G.2.1, 300, .inl bd)), ((u5 18), .inl (G.2.1, 300, .inl bf)), ((u5 19), .inr (3, [.ref (u5 20), .ref (u5 21)])), ((u5 20), .inl (G.2.1, 140, .inl v)), ((u5 21), .inl (G.2.2.1, 140, .inl (zB hid))), ((u5 22), .inl (G.2.2.1, 1680, .inl (zB sc))), ((u5 23), .inl (G.2.1, 16, .inl rf)), (ot, .inl (G.2.2.2, 1, .inr (.inl (gF (th1 (tHas 4 x1 && tHas nA x2)) og (vp_updL og 0 (kL (bI (covR on fA nA (cl x1) (cl x2))))))))), (M, .inr (6, [.int (nI td), .int (nI nA), .int (nI nJ), .ref (u6 0), .ref (u6 1), .ref (u6 2), .int (nI dn), .ref (u6 3), .ref (u6 4), .ref (u6 5), .int (nI snt), .int (nI jd), .ref (u6 6), .int (nI bn), .ref (u6 7), .ref (u6 8), .ref (u6 9), .ref (u6 10), .ref (u6 11), .ref (u6 12), .int th])), ((u6 0), .inl (G.2.1, 14, .inl fA)), ((u6 1), .inl (G.2.1, 10, .inl fJ)), ((u6 2), .inl (G.2.2.1, 56, .inl (zB on))), ((u6 3), .inl (G.2.1, 16, .inl dw)), ((u6 4), .inl (G.2.1, 16, .inl dc)), ((u6 5), .inl (G.2.1, 16, .inl dv)), ((u6 6), .inl (G.2.1, 16, .inl rf)), ((u6 7), .inl (G.2.1, 300, .inl bc)), ((u6 8), .inl (G.2.1, 300, .inl bd)), ((u6 9), .inl (G.2.1, 300, .inl bf)), ((u6 10), .inl (G.2.2.1, 1680, .inl (zB sc))), ((u6 11), .inl (G.2.1, 140, .inl vm)), ((u6 12), .inl (G.2.2.1, 140, .inl (zB hm)))] _ _ := w
  subst hr1435_1
  refine lv_istore (lv' := [(5, .int (nI (th1 (tHas 4 x1 && tHas nA x2)))), (0, .ref b), (1, .ref H0), (2, .ref M), (3, .ref ot), (4, .int (nI i))]) hx hb dL_law_1438 hl (by decide) rfl (fun ls hl => ?_)
  refine lv_aload_n hx hb dL_law_1440 rfl (lv_at hl 3 rfl) ?_
  refine lv_aload_n hx hb dL_law_1441 rfl (lv_at hl 1 rfl) ?_
  refine lv_iload hx hb dL_law_1442 (lv_at hl 5 rfl) ?_
  refine lv_iconst (v := nI 1) hx hb dL_law_1444 (by decide) ?_
  refine lv_iadd hx hb dL_law_1445 ?_
  refine b_tp (show (nI i) + (nI 1) = nI (i + 1) from nI_add i 1) ?_
  refine va_sld hx hb hX hbl hbA w.2.1 (vp_in_nI (by omega) (by omega)) dL_law_1446 ?_
  refine b_tp (show xs (nI (i + 1)).toNatClampNeg = x1 from ex1.symm) ?_
  refine lv_aload_n hx hb dL_law_1447 rfl (lv_at hl 1 rfl) ?_
  refine lv_iload hx hb dL_law_1448 (lv_at hl 5 rfl) ?_
  refine lv_iconst (v := nI 2) hx hb dL_law_1450 (by decide) ?_
  refine lv_iadd hx hb dL_law_1451 ?_
  refine b_tp (show (nI i) + (nI 2) = nI (i + 2) from nI_add i 2) ?_
  refine va_sld hx hb hX hbl hbA w.2.1 (vp_in_nI (by omega) (by omega)) dL_law_1452 ?_
  refine b_tp (show xs (nI (i + 2)).toNatClampNeg = x2 from ex2.symm) ?_
  refine b_calli w (va_runV (As := [.int x1, .int x2]) (rest := []) X (c_X6_mayTell l hl0 G _ (M := M) (x := x1) (y := x2) (td := td) (nA := nA) (nJ := nJ) (yA := (u6 0)) (yJ := (u6 1)) (yg := (u6 2)) (dn := dn) (yw := (u6 3)) (yc := (u6 4)) (yv := (u6 5)) (snt := snt) (jd := jd) (yr := (u6 6)) (bn := bn) (yC := (u6 7)) (yD := (u6 8)) (yF := (u6 9)) (yS := (u6 10)) (yV := (u6 11)) (yH := (u6 12)) (th := th) (fA := fA) (on := on) (hnA := (by first | assumption | omega)) (hTA := (by first | assumption | omega))) (cwV 2 hts gL_law_X6_mayTell rfl rfl rfl (by decide +kernel) ⟨Nat.le_of_ble_eq_true rfl, Nat.le_of_ble_eq_true rfl⟩) ⟨b_blind, b_recv E w (ci := 6) (q0 := 26) rfl rfl, (fun U9 hU9 hW9 => ⟨rfl, b_pre E Z0 w [26, 27, 29] (by decide) rfl (b_inc (Or.inr hM) b_inn) U9 hU9 hW9⟩)⟩ rfl rfl hl.1 rfl (lv_room (Nat.le_of_ble_eq_true rfl)) dL_law_1453 ⟨Nat.le_trans (by omega) hcR, Nat.le_trans (by omega) hsR⟩) (b_inc (Or.inr hM) b_inn) [26] (fun _ => rfl) rfl (fun r1453_2 u1453_2 H locs hr1453_2 w => ?_)
  have w : bSt G vwCl [] s [(H0, .inr (5, [.ref (u5 0), .ref (u5 2), .ref (u5 4), .ref (u5 6), .ref (u5 11), .ref (u5 19), .ref (u5 22), .ref (u5 23), .int (nI jd), .int (nI snt), .int (nI td)])), ((u5 0), .inr (4, [.ref (u5 1), .int (nI 10), .int (nI nA)])), ((u5 1), .inl (G.2.1, 14, .inl fA)), ((u5 2), .inr (4, [.ref (u5 3), .int (nI 1), .int (nI nJ)])), ((u5 3), .inl (G.2.1, 10, .inl fJ)), ((u5 4), .inr (0, [.ref (u5 5)])), ((u5 5), .inl (G.2.2.1, 56, .inl (zB on))), ((u5 6), .inr (2, [.ref (u5 7), .ref (u5 8), .ref (u5 9), .ref (u5 10), .int (nI dn)])), ((u5 7), .inl (G.2.1, 16, .inl dw)), ((u5 8), .inl (G.2.1, 16, .inl da)), ((u5 9), .inl (G.2.1, 16, .inl dc)), ((u5 10), .inl (G.2.1, 16, .inl dv)), ((u5 11), .inr (1, [.ref (u5 12), .ref (u5 13), .ref (u5 14), .ref (u5 15), .ref (u5 16), .ref (u5 17), .ref (u5 18), .int (nI bn)])), ((u5 12), .inl (G.2.1, 1680, .inl lat)), ((u5 13), .inl (G.2.1, 1680, .inl ear)), ((u5 14), .inl (G.2.1, 1680, .inl cnt)), ((u5 15), .inl (G.2.1, 1680, .inl ld)), ((u5 16), .inl (G.2.1, 300, .inl bc)), ((u5 17), .inl (G.2.1, 300, .inl bd)), ((u5 18), .inl (G.2.1, 300, .inl bf)), ((u5 19), .inr (3, [.ref (u5 20), .ref (u5 21)])), ((u5 20), .inl (G.2.1, 140, .inl v)), ((u5 21), .inl (G.2.2.1, 140, .inl (zB hid))), ((u5 22), .inl (G.2.2.1, 1680, .inl (zB sc))), ((u5 23), .inl (G.2.1, 16, .inl rf)), (ot, .inl (G.2.2.2, 1, .inr (.inl (gF (th1 (tHas 4 x1 && tHas nA x2)) og (vp_updL og 0 (kL (bI (covR on fA nA (cl x1) (cl x2))))))))), (M, .inr (6, [.int (nI td), .int (nI nA), .int (nI nJ), .ref (u6 0), .ref (u6 1), .ref (u6 2), .int (nI dn), .ref (u6 3), .ref (u6 4), .ref (u6 5), .int (nI snt), .int (nI jd), .ref (u6 6), .int (nI bn), .ref (u6 7), .ref (u6 8), .ref (u6 9), .ref (u6 10), .ref (u6 11), .ref (u6 12), .int (nI (th1 (tHas 4 x1 && tHas nA x2)))])), ((u6 0), .inl (G.2.1, 14, .inl fA)), ((u6 1), .inl (G.2.1, 10, .inl fJ)), ((u6 2), .inl (G.2.2.1, 56, .inl (zB on))), ((u6 3), .inl (G.2.1, 16, .inl dw)), ((u6 4), .inl (G.2.1, 16, .inl dc)), ((u6 5), .inl (G.2.1, 16, .inl dv)), ((u6 6), .inl (G.2.1, 16, .inl rf)), ((u6 7), .inl (G.2.1, 300, .inl bc)), ((u6 8), .inl (G.2.1, 300, .inl bd)), ((u6 9), .inl (G.2.1, 300, .inl bf)), ((u6 10), .inl (G.2.2.1, 1680, .inl (zB sc))), ((u6 11), .inl (G.2.1, 140, .inl vm)), ((u6 12), .inl (G.2.2.1, 140, .inl (zB hm)))] _ _ := w
  subst hr1453_2
  refine lv_istore (lv' := [(6, .int (bI (gF (th1 (tHas 4 x1 && tHas nA x2)) false (wkB fA (fun k => on (14 * cl x1 + k)) nA x2)))), (5, .int (nI (th1 (tHas 4 x1 && tHas nA x2)))), (0, .ref b), (1, .ref H0), (2, .ref M), (3, .ref ot), (4, .int (nI i))]) hx hb dL_law_1456 hl (by decide) rfl (fun ls hl => ?_)
  refine lv_aload_n hx hb dL_law_1458 rfl (lv_at hl 4 rfl) ?_
  refine b_calli w (va_runV (As := []) (rest := []) X (c_X6_thrown l hl0 G _ (M := M) (td := td) (nA := nA) (nJ := nJ) (yA := (u6 0)) (yJ := (u6 1)) (yg := (u6 2)) (dn := dn) (yw := (u6 3)) (yc := (u6 4)) (yv := (u6 5)) (snt := snt) (jd := jd) (yr := (u6 6)) (bn := bn) (yC := (u6 7)) (yD := (u6 8)) (yF := (u6 9)) (yS := (u6 10)) (yV := (u6 11)) (yH := (u6 12)) (th := nI (th1 (tHas 4 x1 && tHas nA x2))) ) (cwV 0 hts gL_law_X6_thrown rfl rfl rfl (by decide +kernel) ⟨Nat.le_of_ble_eq_true rfl, Nat.le_of_ble_eq_true rfl⟩) ⟨b_blind, b_recv E w (ci := 6) (q0 := 26) rfl rfl, (fun U9 hU9 hW9 => ⟨rfl, b_pre E Z0 w [26] (by decide) rfl b_nil U9 hU9 hW9⟩)⟩ rfl rfl hl.1 rfl (lv_room (Nat.le_of_ble_eq_true rfl)) dL_law_1459 ⟨Nat.le_trans (by omega) hcR, Nat.le_trans (by omega) hsR⟩) b_nil [] (fun _ => rfl) rfl (fun r1459_3 u1459_3 H locs hr1459_3 w => ?_)
  have w : bSt G vwCl [] s [(H0, .inr (5, [.ref (u5 0), .ref (u5 2), .ref (u5 4), .ref (u5 6), .ref (u5 11), .ref (u5 19), .ref (u5 22), .ref (u5 23), .int (nI jd), .int (nI snt), .int (nI td)])), ((u5 0), .inr (4, [.ref (u5 1), .int (nI 10), .int (nI nA)])), ((u5 1), .inl (G.2.1, 14, .inl fA)), ((u5 2), .inr (4, [.ref (u5 3), .int (nI 1), .int (nI nJ)])), ((u5 3), .inl (G.2.1, 10, .inl fJ)), ((u5 4), .inr (0, [.ref (u5 5)])), ((u5 5), .inl (G.2.2.1, 56, .inl (zB on))), ((u5 6), .inr (2, [.ref (u5 7), .ref (u5 8), .ref (u5 9), .ref (u5 10), .int (nI dn)])), ((u5 7), .inl (G.2.1, 16, .inl dw)), ((u5 8), .inl (G.2.1, 16, .inl da)), ((u5 9), .inl (G.2.1, 16, .inl dc)), ((u5 10), .inl (G.2.1, 16, .inl dv)), ((u5 11), .inr (1, [.ref (u5 12), .ref (u5 13), .ref (u5 14), .ref (u5 15), .ref (u5 16), .ref (u5 17), .ref (u5 18), .int (nI bn)])), ((u5 12), .inl (G.2.1, 1680, .inl lat)), ((u5 13), .inl (G.2.1, 1680, .inl ear)), ((u5 14), .inl (G.2.1, 1680, .inl cnt)), ((u5 15), .inl (G.2.1, 1680, .inl ld)), ((u5 16), .inl (G.2.1, 300, .inl bc)), ((u5 17), .inl (G.2.1, 300, .inl bd)), ((u5 18), .inl (G.2.1, 300, .inl bf)), ((u5 19), .inr (3, [.ref (u5 20), .ref (u5 21)])), ((u5 20), .inl (G.2.1, 140, .inl v)), ((u5 21), .inl (G.2.2.1, 140, .inl (zB hid))), ((u5 22), .inl (G.2.2.1, 1680, .inl (zB sc))), ((u5 23), .inl (G.2.1, 16, .inl rf)), (ot, .inl (G.2.2.2, 1, .inr (.inl (gF (th1 (tHas 4 x1 && tHas nA x2)) og (vp_updL og 0 (kL (bI (covR on fA nA (cl x1) (cl x2))))))))), (M, .inr (6, [.int (nI td), .int (nI nA), .int (nI nJ), .ref (u6 0), .ref (u6 1), .ref (u6 2), .int (nI dn), .ref (u6 3), .ref (u6 4), .ref (u6 5), .int (nI snt), .int (nI jd), .ref (u6 6), .int (nI bn), .ref (u6 7), .ref (u6 8), .ref (u6 9), .ref (u6 10), .ref (u6 11), .ref (u6 12), .int (nI (th1 (tHas 4 x1 && tHas nA x2)))])), ((u6 0), .inl (G.2.1, 14, .inl fA)), ((u6 1), .inl (G.2.1, 10, .inl fJ)), ((u6 2), .inl (G.2.2.1, 56, .inl (zB on))), ((u6 3), .inl (G.2.1, 16, .inl dw)), ((u6 4), .inl (G.2.1, 16, .inl dc)), ((u6 5), .inl (G.2.1, 16, .inl dv)), ((u6 6), .inl (G.2.1, 16, .inl rf)), ((u6 7), .inl (G.2.1, 300, .inl bc)), ((u6 8), .inl (G.2.1, 300, .inl bd)), ((u6 9), .inl (G.2.1, 300, .inl bf)), ((u6 10), .inl (G.2.2.1, 1680, .inl (zB sc))), ((u6 11), .inl (G.2.1, 140, .inl vm)), ((u6 12), .inl (G.2.2.1, 140, .inl (zB hm)))] _ _ := w
  subst hr1459_3
  refine lv_iload hx hb dL_law_1462 (lv_at hl 1 rfl) ?_
  refine lv_icmp_eq (tgt := 1469) hx hb dL_law_1464 (by decide) (fun c_1464_4 => ?_) (fun c_1464_4 => ?_)
  · refine lv_iload hx hb dL_law_1469 (lv_at hl 1 rfl) ?_
    refine lv_if_ne (tgt := 1493) hx hb dL_law_1471 (by decide) (fun c_1471_5 => ?_) (fun c_1471_5 => ?_)
    · refine lv_goto (tgt := 1496) hx hb dL_law_1493 (by decide) ?_
      refine W.widen (k := cells + 8) (n := slots + 48) (by omega) (by omega) ?_
      exact kk _ _ _ ⟨jd, snt, td, nA, nJ, dn, bn, fA, fJ, da, dw, dc, dv, lat, ear, cnt, ld, bc, bd, bf, rf, v, vm, on, sc, hid, hm, gF (th1 (tHas 4 x1 && tHas nA x2)) og (vp_updL og 0 (kL (bI (covR on fA nA (cl x1) (cl x2))))), nI (th1 (tHas 4 x1 && tHas nA x2)), hI, w⟩ (lv_sub hl [2, 3, 4, 5, 6] rfl)
    · have hT0 := b_T0 th1_lt c_1471_5
      refine lv_aload_n hx hb dL_law_1474 rfl (lv_at hl 5 rfl) ?_
      refine lv_iconst (v := nI 0) hx hb dL_law_1475 (by decide) ?_
      refine b_jald X E w 25 rfl 0 rfl (by omega) (by first | decide | omega) dL_law_1476 ?_
      refine lv_iload hx hb dL_law_1477 (lv_at hl 0 rfl) ?_
      refine lv_if_eq (tgt := 1486) hx hb dL_law_1479 (by decide) (fun c_1479_6 => ?_) (fun c_1479_6 => ?_)
      · have cb6 := c_1479_6
        refine lv_lconst (v := 0) hx hb dL_law_1486 (by decide) ?_
        refine W.lcmp hx hb dL_law_1487 ?_
        refine b_tp (show lg_cmp ((gF (th1 (tHas 4 x1 && tHas nA x2)) og (vp_updL og 0 (kL (bI (covR on fA nA (cl x1) (cl x2)))))) 0) 0 = nI 0 from b_lc (by rw [hT0] at cb6 ⊢; exact kL_0 ((congrArg bI (an_may hI (th1_0 hT0))).trans cb6))) ?_
        refine lv_if_eq (tgt := 1493) hx hb dL_law_1488 (by decide) (fun c_1488_7 => ?_) (fun c_1488_7 => ?_)
        · refine lv_goto (tgt := 1496) hx hb dL_law_1493 (by decide) ?_
          refine W.widen (k := cells + 8) (n := slots + 48) (by omega) (by omega) ?_
          exact kk _ _ _ ⟨jd, snt, td, nA, nJ, dn, bn, fA, fJ, da, dw, dc, dv, lat, ear, cnt, ld, bc, bd, bf, rf, v, vm, on, sc, hid, hm, gF (th1 (tHas 4 x1 && tHas nA x2)) og (vp_updL og 0 (kL (bI (covR on fA nA (cl x1) (cl x2))))), nI (th1 (tHas 4 x1 && tHas nA x2)), hI, w⟩ (lv_sub hl [2, 3, 4, 5, 6] rfl)
        · exact absurd (by decide) c_1488_7
      · have cb6 := c_1479_6
        refine lv_lconst (v := 1) hx hb dL_law_1482 (by decide) ?_
        refine lv_goto (tgt := 1487) hx hb dL_law_1483 (by decide) ?_
        refine W.lcmp hx hb dL_law_1487 ?_
        refine b_tp (show lg_cmp ((gF (th1 (tHas 4 x1 && tHas nA x2)) og (vp_updL og 0 (kL (bI (covR on fA nA (cl x1) (cl x2)))))) 0) 1 = nI 0 from b_lc (by rw [hT0] at cb6 ⊢; exact kL_1 (fun h9 => cb6 ((congrArg bI (an_may hI (th1_0 hT0))).symm.trans h9)))) ?_
        refine lv_if_eq (tgt := 1493) hx hb dL_law_1488 (by decide) (fun c_1488_8 => ?_) (fun c_1488_8 => ?_)
        · refine lv_goto (tgt := 1496) hx hb dL_law_1493 (by decide) ?_
          refine W.widen (k := cells + 8) (n := slots + 48) (by omega) (by omega) ?_
          exact kk _ _ _ ⟨jd, snt, td, nA, nJ, dn, bn, fA, fJ, da, dw, dc, dv, lat, ear, cnt, ld, bc, bd, bf, rf, v, vm, on, sc, hid, hm, gF (th1 (tHas 4 x1 && tHas nA x2)) og (vp_updL og 0 (kL (bI (covR on fA nA (cl x1) (cl x2))))), nI (th1 (tHas 4 x1 && tHas nA x2)), hI, w⟩ (lv_sub hl [2, 3, 4, 5, 6] rfl)
        · exact absurd (by decide) c_1488_8
  · exact absurd rfl c_1464_4
