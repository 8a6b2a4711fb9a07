set_option maxHeartbeats 4000000 in
set_option maxRecDepth 100000 in
theorem op_secret {p : Program} {l : Launch} (hl0 : l.stackTraces = false) {e : Env} {s : State} {m : MethodId} {below : List Frame} {meth : Method} {c : Code} {G : bG} {b L : Nat} {xs : Nat → Int32} {Q : State → Prop} (X : CallFix p m c cL_law 7 s #[Value.ref b] wsL_law RL) (E : bE G vwCl bNW bSW s) (Z0 : bZ [] s) (hX : va_X b L xs s s.heap) (hbl : b < s.heap.size) (hL : L ≤ 3584) {H0 M ot : Nat} {u5 u6 : Nat → Nat} (hH0 : s.heap.size ≤ H0) (hM : s.heap.size ≤ M) (hot : s.heap.size ≤ ot) (h5 : ∀ k, k < 24 → s.heap.size ≤ u5 k) (h6 : ∀ k, k < 13 → s.heap.size ≤ u6 k) {i : Nat} (hi : i + 7 ≤ L) {cells slots : Nat} (hcR : cells + 8 ≤ room_1.cells) (hsR : slots + 48 ≤ room_1.slots) {H : Heap} {locs : List Loc} {ls : Array Slot} (hLC : LC G s H0 M ot u5 u6 H locs) (hl : lv_has ls 7 [(0, .ref b), (1, .ref H0), (2, .ref M), (3, .ref ot), (4, .int (nI i))]) (kk : ∀ (H : Heap) (locs : List Loc) (ls : Array Slot), LC G s H0 M ot u5 u6 H locs → lv_has ls 7 [(0, .ref b), (1, .ref H0), (2, .ref M), (3, .ref ot), (4, .int (nI i))] → W p l e room_1 s m #[Value.ref b] below meth c H locs (cells + 8) (slots + 48) Q (F0 m 1496 ls [])) : W p l e room_1 s m #[Value.ref b] below meth c H locs cells slots Q (F0 m 572 ls []) := by
  have hx := X.1
  have hb := X.2.1
  have hml := X.2.2.1
  have hown := X.2.2.2.1
  have hts := X.2.2.2.2
  have hbA : ¬ Aw [] s.heap.size b := fun h => h.elim (fun h => nomatch h) (fun h => absurd hbl (Nat.not_lt.mpr h))
  obtain ⟨jd, snt, td, nA, nJ, dn, bn, fA, fJ, da, dw, dc, dv, lat, ear, cnt, ld, bc, bd, bf, rf, v, vm, on, sc, hid, hm, og, th, hI, w⟩ := hLC
  obtain ⟨⟨hnA, hnJ, hTA, hTJ, htd, hst, hbs, hjd, hdn9⟩, hbk, hdr, hK⟩ := id hI
  have hbn : bn ≤ 300 := by omega
  obtain ⟨x1, ex1⟩ : ∃ y : Int32, y = xs (nI (i + 1)).toNatClampNeg := ⟨_, rfl⟩
  obtain ⟨x2, ex2⟩ : ∃ y : Int32, y = xs (nI (i + 2)).toNatClampNeg := ⟨_, rfl⟩
  obtain ⟨x3, ex3⟩ : ∃ y : Int32, y = xs (nI (i + 3)).toNatClampNeg := ⟨_, rfl⟩
  obtain ⟨x4, ex4⟩ : ∃ y : Int32, y = xs (nI (i + 4)).toNatClampNeg := ⟨_, rfl⟩
  obtain ⟨x5, ex5⟩ : ∃ y : Int32, y = xs (nI (i + 5)).toNatClampNeg := ⟨_, rfl⟩
  obtain ⟨x6, ex6⟩ : ∃ y : Int32, y = xs (nI (i + 6)).toNatClampNeg := ⟨_, rfl⟩
  refine lv_aload_n hx hb dL_law_572 rfl (lv_at hl 1 rfl) ?_
  refine lv_aload_n hx hb dL_law_573 rfl (lv_at hl 0 rfl) ?_
  refine lv_iload hx hb dL_law_574 (lv_at hl 4 rfl) ?_
  refine lv_iconst (v := nI 1) hx hb dL_law_576 (by decide) ?_
  refine lv_iadd hx hb dL_law_577 ?_
  refine b_tp (show (nI i) + (nI 1) = nI (i + 1) from nI_add i 1) ?_
  refine va_sld hx hb hX hbl hbA w.2.1 (vp_in_nI (by omega) (by omega)) dL_law_578 ?_
  refine b_tp (show xs (nI (i + 1)).toNatClampNeg = x1 from ex1.symm) ?_
  refine lv_aload_n hx hb dL_law_579 rfl (lv_at hl 0 rfl) ?_
  refine lv_iload hx hb dL_law_580 (lv_at hl 4 rfl) ?_
  refine lv_iconst (v := nI 2) hx hb dL_law_582 (by decide) ?_
  refine lv_iadd hx hb dL_law_583 ?_
  refine b_tp (show (nI i) + (nI 2) = nI (i + 2) from nI_add i 2) ?_
  refine va_sld hx hb hX hbl hbA w.2.1 (vp_in_nI (by omega) (by omega)) dL_law_584 ?_
  refine b_tp (show xs (nI (i + 2)).toNatClampNeg = x2 from ex2.symm) ?_
  refine lv_aload_n hx hb dL_law_585 rfl (lv_at hl 0 rfl) ?_
  refine lv_iload hx hb dL_law_586 (lv_at hl 4 rfl) ?_
  refine lv_iconst (v := nI 3) hx hb dL_law_588 (by decide) ?_
  refine lv_iadd hx hb dL_law_589 ?_
  refine b_tp (show (nI i) + (nI 3) = nI (i + 3) from nI_add i 3) ?_
  refine va_sld hx hb hX hbl hbA w.2.1 (vp_in_nI (by omega) (by omega)) dL_law_590 ?_
  refine b_tp (show xs (nI (i + 3)).toNatClampNeg = x3 from ex3.symm) ?_
  refine lv_aload_n hx hb dL_law_591 rfl (lv_at hl 0 rfl) ?_
  refine lv_iload hx hb dL_law_592 (lv_at hl 4 rfl) ?_
  refine lv_iconst (v := nI 4) hx hb dL_law_594 (by decide) ?_
  refine lv_iadd hx hb dL_law_595 ?_
  refine b_tp (show (nI i) + (nI 4) = nI (i + 4) from nI_add i 4) ?_
  refine va_sld hx hb hX hbl hbA w.2.1 (vp_in_nI (by omega) (by omega)) dL_law_596 ?_
  refine b_tp (show xs (nI (i + 4)).toNatClampNeg = x4 from ex4.symm) ?_
  refine lv_if_eq (tgt := 604) hx hb dL_law_597 (by decide) (fun c_597_1 => ?_) (fun c_597_1 => ?_)
  · refine lv_iconst (v := nI 0) hx hb dL_law_604 (by decide) ?_
    refine lv_aload_n hx hb dL_law_605 rfl (lv_at hl 3 rfl) ?_
    refine b_calli w (vx_runSW (As := [.ref H0, .int x1, .int x2, .int x3, .int (nI 0), .ref ot]) (rest := []) X (c_L_secret l hl0 G _ (H0 := H0) (x := x1) (y := x2) (z := x3) (b := false) (ot := ot) (tA := (u5 0)) (tJ := (u5 2)) (gO := (u5 4)) (dO := (u5 6)) (bO := (u5 11)) (sO := (u5 19)) (qs := (u5 22)) (qr := (u5 23)) (jd := jd) (snt := snt) (td := td) (oA := (u5 1)) (nA := nA) (fA := fA) (oJ := (u5 3)) (nJ := nJ) (fJ := fJ) (ql := (u5 12)) (qe := (u5 13)) (qn := (u5 14)) (qt := (u5 15)) (qc := (u5 16)) (qd := (u5 17)) (qf := (u5 18)) (bn := bn) (bc := bc) (bd := bd) (bf := bf) (qv := (u5 20)) (qh := (u5 21)) (v := v) (hid := hid) (sc := sc) (og := og) (hnA := (by first | assumption | omega)) (hnJ := (by first | assumption | omega)) (hTA := (by first | assumption | omega)) (hTJ := (by first | assumption | omega)) (hbn := (by first | assumption | omega)) (hbk := (by first | assumption | omega))) (vx_cwSW 6 hts gL_law_L_secret rfl rfl rfl (by decide +kernel) ⟨Nat.le_of_ble_eq_true rfl, Nat.le_of_ble_eq_true rfl⟩) ⟨b_blind, (fun U9 hU9 hW9 => ⟨rfl, b_pre E Z0 w [0, 1, 2, 3, 4, 12, 17, 18, 19, 20, 21, 22, 23, 25] (by decide) rfl (b_inc (Or.inr (h5 22 (by decide))) (b_inc (Or.inr (h5 20 (by decide))) (b_inc (Or.inr (h5 21 (by decide))) (b_inc (Or.inr hot) b_inn)))) U9 hU9 hW9⟩)⟩ rfl rfl hl.1 rfl (lv_room (Nat.le_of_ble_eq_true rfl)) dL_law_606 ⟨Nat.le_trans (by omega) hcR, Nat.le_trans (by omega) hsR⟩) (b_inc (Or.inr (h5 22 (by decide))) (b_inc (Or.inr (h5 20 (by decide))) (b_inc (Or.inr (h5 21 (by decide))) (b_inc (Or.inr hot) b_inn)))) [23, 21, 22, 25] (fun _ => rfl) rfl (fun r606_2 u606_2 H locs hr606_2 w => ?_)
    have w : bSt G vwCl [] s [(H0, .inr (5, [.ref (u5 0), .ref (u5 2), .ref (u5 4), .ref (u5 6), .ref (u5 11), .ref (u5 19), .ref (u5 22), .ref (u5 23), .int (nI jd), .int (nI snt), .int (nI td)])), ((u5 0), .inr (4, [.ref (u5 1), .int (nI 10), .int (nI nA)])), ((u5 1), .inl (G.2.1, 14, .inl fA)), ((u5 2), .inr (4, [.ref (u5 3), .int (nI 1), .int (nI nJ)])), ((u5 3), .inl (G.2.1, 10, .inl fJ)), ((u5 4), .inr (0, [.ref (u5 5)])), ((u5 5), .inl (G.2.2.1, 56, .inl (zB on))), ((u5 6), .inr (2, [.ref (u5 7), .ref (u5 8), .ref (u5 9), .ref (u5 10), .int (nI dn)])), ((u5 7), .inl (G.2.1, 16, .inl dw)), ((u5 8), .inl (G.2.1, 16, .inl da)), ((u5 9), .inl (G.2.1, 16, .inl dc)), ((u5 10), .inl (G.2.1, 16, .inl dv)), ((u5 11), .inr (1, [.ref (u5 12), .ref (u5 13), .ref (u5 14), .ref (u5 15), .ref (u5 16), .ref (u5 17), .ref (u5 18), .int (nI bn)])), ((u5 12), .inl (G.2.1, 1680, .inl lat)), ((u5 13), .inl (G.2.1, 1680, .inl ear)), ((u5 14), .inl (G.2.1, 1680, .inl cnt)), ((u5 15), .inl (G.2.1, 1680, .inl ld)), ((u5 16), .inl (G.2.1, 300, .inl bc)), ((u5 17), .inl (G.2.1, 300, .inl bd)), ((u5 18), .inl (G.2.1, 300, .inl bf)), ((u5 19), .inr (3, [.ref (u5 20), .ref (u5 21)])), ((u5 20), .inl (G.2.1, 140, .inl u606_2.1)), ((u5 21), .inl (G.2.2.1, 140, .inl (zB (gF (th1 (okC nA nJ x1 x2 x3)) hid (hdn fA nA fJ nJ (uB sc (cN x1 x2 x3) false) (cl x3) u606_2.1 hid))))), ((u5 22), .inl (G.2.2.1, 1680, .inl (zB (gF (th1 (okC nA nJ x1 x2 x3)) sc (uB sc (cN x1 x2 x3) false))))), ((u5 23), .inl (G.2.1, 16, .inl rf)), (ot, .inl (G.2.2.2, 1, .inr (.inl (gF (th1 (okC nA nJ x1 x2 x3)) og (vp_updL og 0 (u606_2.2.toInt64)))))), (M, .inr (6, [.int (nI td), .int (nI nA), .int (nI nJ), .ref (u6 0), .ref (u6 1), .ref (u6 2), .int (nI dn), .ref (u6 3), .ref (u6 4), .ref (u6 5), .int (nI snt), .int (nI jd), .ref (u6 6), .int (nI bn), .ref (u6 7), .ref (u6 8), .ref (u6 9), .ref (u6 10), .ref (u6 11), .ref (u6 12), .int th])), ((u6 0), .inl (G.2.1, 14, .inl fA)), ((u6 1), .inl (G.2.1, 10, .inl fJ)), ((u6 2), .inl (G.2.2.1, 56, .inl (zB on))), ((u6 3), .inl (G.2.1, 16, .inl dw)), ((u6 4), .inl (G.2.1, 16, .inl dc)), ((u6 5), .inl (G.2.1, 16, .inl dv)), ((u6 6), .inl (G.2.1, 16, .inl rf)), ((u6 7), .inl (G.2.1, 300, .inl bc)), ((u6 8), .inl (G.2.1, 300, .inl bd)), ((u6 9), .inl (G.2.1, 300, .inl bf)), ((u6 10), .inl (G.2.2.1, 1680, .inl (zB sc))), ((u6 11), .inl (G.2.1, 140, .inl vm)), ((u6 12), .inl (G.2.2.1, 140, .inl (zB hm)))] _ _ := w
    obtain ⟨ehr606_2, hr606_2⟩ := hr606_2
    subst ehr606_2
    have hcl := hr606_2
    refine lv_istore (lv' := [(5, .int (nI (th1 (okC nA nJ x1 x2 x3)))), (0, .ref b), (1, .ref H0), (2, .ref M), (3, .ref ot), (4, .int (nI i))]) hx hb dL_law_609 hl (by decide) rfl (fun ls hl => ?_)
    refine lv_aload_n hx hb dL_law_611 rfl (lv_at hl 3 rfl) ?_
    refine lv_aload_n hx hb dL_law_612 rfl (lv_at hl 1 rfl) ?_
    refine lv_iload hx hb dL_law_613 (lv_at hl 5 rfl) ?_
    refine lv_iconst (v := nI 1) hx hb dL_law_615 (by decide) ?_
    refine lv_iadd hx hb dL_law_616 ?_
    refine b_tp (show (nI i) + (nI 1) = nI (i + 1) from nI_add i 1) ?_
    refine va_sld hx hb hX hbl hbA w.2.1 (vp_in_nI (by omega) (by omega)) dL_law_617 ?_
    refine b_tp (show xs (nI (i + 1)).toNatClampNeg = x1 from ex1.symm) ?_
    refine lv_aload_n hx hb dL_law_618 rfl (lv_at hl 1 rfl) ?_
    refine lv_iload hx hb dL_law_619 (lv_at hl 5 rfl) ?_
    refine lv_iconst (v := nI 2) hx hb dL_law_621 (by decide) ?_
    refine lv_iadd hx hb dL_law_622 ?_
    refine b_tp (show (nI i) + (nI 2) = nI (i + 2) from nI_add i 2) ?_
    refine va_sld hx hb hX hbl hbA w.2.1 (vp_in_nI (by omega) (by omega)) dL_law_623 ?_
    refine b_tp (show xs (nI (i + 2)).toNatClampNeg = x2 from ex2.symm) ?_
    refine lv_aload_n hx hb dL_law_624 rfl (lv_at hl 1 rfl) ?_
    refine lv_iload hx hb dL_law_625 (lv_at hl 5 rfl) ?_
    refine lv_iconst (v := nI 3) hx hb dL_law_627 (by decide) ?_
    refine lv_iadd hx hb dL_law_628 ?_
    refine b_tp (show (nI i) + (nI 3) = nI (i + 3) from nI_add i 3) ?_
    refine va_sld hx hb hX hbl hbA w.2.1 (vp_in_nI (by omega) (by omega)) dL_law_629 ?_
    refine b_tp (show xs (nI (i + 3)).toNatClampNeg = x3 from ex3.symm) ?_
    refine lv_aload_n hx hb dL_law_630 rfl (lv_at hl 1 rfl) ?_
    refine lv_iload hx hb dL_law_631 (lv_at hl 5 rfl) ?_
    refine lv_iconst (v := nI 4) hx hb dL_law_633 (by decide) ?_
    refine lv_iadd hx hb dL_law_634 ?_
    refine b_tp (show (nI i) + (nI 4) = nI (i + 4) from nI_add i 4) ?_
    refine va_sld hx hb hX hbl hbA w.2.1 (vp_in_nI (by omega) (by omega)) dL_law_635 ?_
    refine b_tp (show xs (nI (i + 4)).toNatClampNeg = x4 from ex4.symm) ?_
    refine lv_if_eq (tgt := 643) hx hb dL_law_636 (by decide) (fun c_636_3 => ?_) (fun c_636_3 => ?_)
    · refine lv_iconst (v := nI 0) hx hb dL_law_643 (by decide) ?_
      refine b_calli w (va_runV (As := [.int x1, .int x2, .int x3, .int (nI 0)]) (rest := []) X (c_X6_secret l hl0 G _ (M := M) (x := x1) (y := x2) (z := x3) (b := false) (td := td) (nA := nA) (nJ := nJ) (yA := (u6 0)) (yJ := (u6 1)) (yg := (u6 2)) (dn := dn) (yw := (u6 3)) (yc := (u6 4)) (yv := (u6 5)) (snt := snt) (jd := jd) (yr := (u6 6)) (bn := bn) (yC := (u6 7)) (yD := (u6 8)) (yF := (u6 9)) (yS := (u6 10)) (yV := (u6 11)) (yH := (u6 12)) (th := th) (fA := fA) (fJ := fJ) (bc := bc) (bd := bd) (bf := bf) (v := vm) (hid := hm) (sc := sc) (hnA := (by first | assumption | omega)) (hnJ := (by first | assumption | omega)) (hTA := (by first | assumption | omega)) (hTJ := (by first | assumption | omega)) (hbn := (by first | assumption | omega))) (cwV 4 hts gL_law_X6_secret rfl rfl rfl (by decide +kernel) ⟨Nat.le_of_ble_eq_true rfl, Nat.le_of_ble_eq_true rfl⟩) ⟨b_blind, b_recv E w (ci := 6) (q0 := 26) rfl rfl, (fun U9 hU9 hW9 => ⟨rfl, b_pre E Z0 w [26, 27, 28, 34, 35, 36, 38, 39, 37] (by decide) rfl (b_inc (Or.inr hM) (b_inc (Or.inr (h6 10 (by decide))) (b_inc (Or.inr (h6 11 (by decide))) (b_inc (Or.inr (h6 12 (by decide))) b_inn)))) U9 hU9 hW9⟩)⟩ rfl rfl hl.1 rfl (lv_room (Nat.le_of_ble_eq_true rfl)) dL_law_644 ⟨Nat.le_trans (by omega) hcR, Nat.le_trans (by omega) hsR⟩) (b_inc (Or.inr hM) (b_inc (Or.inr (h6 10 (by decide))) (b_inc (Or.inr (h6 11 (by decide))) (b_inc (Or.inr (h6 12 (by decide))) b_inn)))) [26, 37, 38, 39] (fun _ => rfl) rfl (fun r644_4 u644_4 H locs hr644_4 w => ?_)
      have w : bSt G vwCl [] s [(H0, .inr (5, [.ref (u5 0), .ref (u5 2), .ref (u5 4), .ref (u5 6), .ref (u5 11), .ref (u5 19), .ref (u5 22), .ref (u5 23), .int (nI jd), .int (nI snt), .int (nI td)])), ((u5 0), .inr (4, [.ref (u5 1), .int (nI 10), .int (nI nA)])), ((u5 1), .inl (G.2.1, 14, .inl fA)), ((u5 2), .inr (4, [.ref (u5 3), .int (nI 1), .int (nI nJ)])), ((u5 3), .inl (G.2.1, 10, .inl fJ)), ((u5 4), .inr (0, [.ref (u5 5)])), ((u5 5), .inl (G.2.2.1, 56, .inl (zB on))), ((u5 6), .inr (2, [.ref (u5 7), .ref (u5 8), .ref (u5 9), .ref (u5 10), .int (nI dn)])), ((u5 7), .inl (G.2.1, 16, .inl dw)), ((u5 8), .inl (G.2.1, 16, .inl da)), ((u5 9), .inl (G.2.1, 16, .inl dc)), ((u5 10), .inl (G.2.1, 16, .inl dv)), ((u5 11), .inr (1, [.ref (u5 12), .ref (u5 13), .ref (u5 14), .ref (u5 15), .ref (u5 16), .ref (u5 17), .ref (u5 18), .int (nI bn)])), ((u5 12), .inl (G.2.1, 1680, .inl lat)), ((u5 13), .inl (G.2.1, 1680, .inl ear)), ((u5 14), .inl (G.2.1, 1680, .inl cnt)), ((u5 15), .inl (G.2.1, 1680, .inl ld)), ((u5 16), .inl (G.2.1, 300, .inl bc)), ((u5 17), .inl (G.2.1, 300, .inl bd)), ((u5 18), .inl (G.2.1, 300, .inl bf)), ((u5 19), .inr (3, [.ref (u5 20), .ref (u5 21)])), ((u5 20), .inl (G.2.1, 140, .inl u606_2.1)), ((u5 21), .inl (G.2.2.1, 140, .inl (zB (gF (th1 (okC nA nJ x1 x2 x3)) hid (hdn fA nA fJ nJ (uB sc (cN x1 x2 x3) false) (cl x3) u606_2.1 hid))))), ((u5 22), .inl (G.2.2.1, 1680, .inl (zB (gF (th1 (okC nA nJ x1 x2 x3)) sc (uB sc (cN x1 x2 x3) false))))), ((u5 23), .inl (G.2.1, 16, .inl rf)), (ot, .inl (G.2.2.2, 1, .inr (.inl (gF (th1 (okC nA nJ x1 x2 x3)) og (vp_updL og 0 (u606_2.2.toInt64)))))), (M, .inr (6, [.int (nI td), .int (nI nA), .int (nI nJ), .ref (u6 0), .ref (u6 1), .ref (u6 2), .int (nI dn), .ref (u6 3), .ref (u6 4), .ref (u6 5), .int (nI snt), .int (nI jd), .ref (u6 6), .int (nI bn), .ref (u6 7), .ref (u6 8), .ref (u6 9), .ref (u6 10), .ref (u6 11), .ref (u6 12), .int (nI (th1 (okC nA nJ x1 x2 x3)))])), ((u6 0), .inl (G.2.1, 14, .inl fA)), ((u6 1), .inl (G.2.1, 10, .inl fJ)), ((u6 2), .inl (G.2.2.1, 56, .inl (zB on))), ((u6 3), .inl (G.2.1, 16, .inl dw)), ((u6 4), .inl (G.2.1, 16, .inl dc)), ((u6 5), .inl (G.2.1, 16, .inl dv)), ((u6 6), .inl (G.2.1, 16, .inl rf)), ((u6 7), .inl (G.2.1, 300, .inl bc)), ((u6 8), .inl (G.2.1, 300, .inl bd)), ((u6 9), .inl (G.2.1, 300, .inl bf)), ((u6 10), .inl (G.2.2.1, 1680, .inl (zB (gF (th1 (okC nA nJ x1 x2 x3)) sc (uB sc (cN x1 x2 x3) false))))), ((u6 11), .inl (G.2.1, 140, .inl u644_4)), ((u6 12), .inl (G.2.2.1, 140, .inl (zB (gF (th1 (okC nA nJ x1 x2 x3)) hm (hdM fA nA fJ nJ (uB sc (cN x1 x2 x3) false) (cl x3) u644_4 hm)))))] _ _ := w
      have hmo := hr644_4
      refine lv_istore (lv' := [(6, .int r644_4), (5, .int (nI (th1 (okC nA nJ x1 x2 x3)))), (0, .ref b), (1, .ref H0), (2, .ref M), (3, .ref ot), (4, .int (nI i))]) hx hb dL_law_647 hl (by decide) rfl (fun ls hl => ?_)
      refine lv_aload_n hx hb dL_law_649 rfl (lv_at hl 4 rfl) ?_
      refine b_calli w (va_runV (As := []) (rest := []) X (c_X6_thrown l hl0 G _ (M := M) (td := td) (nA := nA) (nJ := nJ) (yA := (u6 0)) (yJ := (u6 1)) (yg := (u6 2)) (dn := dn) (yw := (u6 3)) (yc := (u6 4)) (yv := (u6 5)) (snt := snt) (jd := jd) (yr := (u6 6)) (bn := bn) (yC := (u6 7)) (yD := (u6 8)) (yF := (u6 9)) (yS := (u6 10)) (yV := (u6 11)) (yH := (u6 12)) (th := nI (th1 (okC nA nJ x1 x2 x3))) ) (cwV 0 hts gL_law_X6_thrown rfl rfl rfl (by decide +kernel) ⟨Nat.le_of_ble_eq_true rfl, Nat.le_of_ble_eq_true rfl⟩) ⟨b_blind, b_recv E w (ci := 6) (q0 := 26) rfl rfl, (fun U9 hU9 hW9 => ⟨rfl, b_pre E Z0 w [26] (by decide) rfl b_nil U9 hU9 hW9⟩)⟩ rfl rfl hl.1 rfl (lv_room (Nat.le_of_ble_eq_true rfl)) dL_law_650 ⟨Nat.le_trans (by omega) hcR, Nat.le_trans (by omega) hsR⟩) b_nil [] (fun _ => rfl) rfl (fun r650_5 u650_5 H locs hr650_5 w => ?_)
      have w : bSt G vwCl [] s [(H0, .inr (5, [.ref (u5 0), .ref (u5 2), .ref (u5 4), .ref (u5 6), .ref (u5 11), .ref (u5 19), .ref (u5 22), .ref (u5 23), .int (nI jd), .int (nI snt), .int (nI td)])), ((u5 0), .inr (4, [.ref (u5 1), .int (nI 10), .int (nI nA)])), ((u5 1), .inl (G.2.1, 14, .inl fA)), ((u5 2), .inr (4, [.ref (u5 3), .int (nI 1), .int (nI nJ)])), ((u5 3), .inl (G.2.1, 10, .inl fJ)), ((u5 4), .inr (0, [.ref (u5 5)])), ((u5 5), .inl (G.2.2.1, 56, .inl (zB on))), ((u5 6), .inr (2, [.ref (u5 7), .ref (u5 8), .ref (u5 9), .ref (u5 10), .int (nI dn)])), ((u5 7), .inl (G.2.1, 16, .inl dw)), ((u5 8), .inl (G.2.1, 16, .inl da)), ((u5 9), .inl (G.2.1, 16, .inl dc)), ((u5 10), .inl (G.2.1, 16, .inl dv)), ((u5 11), .inr (1, [.ref (u5 12), .ref (u5 13), .ref (u5 14), .ref (u5 15), .ref (u5 16), .ref (u5 17), .ref (u5 18), .int (nI bn)])), ((u5 12), .inl (G.2.1, 1680, .inl lat)), ((u5 13), .inl (G.2.1, 1680, .inl ear)), ((u5 14), .inl (G.2.1, 1680, .inl cnt)), ((u5 15), .inl (G.2.1, 1680, .inl ld)), ((u5 16), .inl (G.2.1, 300, .inl bc)), ((u5 17), .inl (G.2.1, 300, .inl bd)), ((u5 18), .inl (G.2.1, 300, .inl bf)), ((u5 19), .inr (3, [.ref (u5 20), .ref (u5 21)])), ((u5 20), .inl (G.2.1, 140, .inl u606_2.1)), ((u5 21), .inl (G.2.2.1, 140, .inl (zB (gF (th1 (okC nA nJ x1 x2 x3)) hid (hdn fA nA fJ nJ (uB sc (cN x1 x2 x3) false) (cl x3) u606_2.1 hid))))), ((u5 22), .inl (G.2.2.1, 1680, .inl (zB (gF (th1 (okC nA nJ x1 x2 x3)) sc (uB sc (cN x1 x2 x3) false))))), ((u5 23), .inl (G.2.1, 16, .inl rf)), (ot, .inl (G.2.2.2, 1, .inr (.inl (gF (th1 (okC nA nJ x1 x2 x3)) og (vp_updL og 0 (u606_2.2.toInt64)))))), (M, .inr (6, [.int (nI td), .int (nI nA), .int (nI nJ), .ref (u6 0), .ref (u6 1), .ref (u6 2), .int (nI dn), .ref (u6 3), .ref (u6 4), .ref (u6 5), .int (nI snt), .int (nI jd), .ref (u6 6), .int (nI bn), .ref (u6 7), .ref (u6 8), .ref (u6 9), .ref (u6 10), .ref (u6 11), .ref (u6 12), .int (nI (th1 (okC nA nJ x1 x2 x3)))])), ((u6 0), .inl (G.2.1, 14, .inl fA)), ((u6 1), .inl (G.2.1, 10, .inl fJ)), ((u6 2), .inl (G.2.2.1, 56, .inl (zB on))), ((u6 3), .inl (G.2.1, 16, .inl dw)), ((u6 4), .inl (G.2.1, 16, .inl dc)), ((u6 5), .inl (G.2.1, 16, .inl dv)), ((u6 6), .inl (G.2.1, 16, .inl rf)), ((u6 7), .inl (G.2.1, 300, .inl bc)), ((u6 8), .inl (G.2.1, 300, .inl bd)), ((u6 9), .inl (G.2.1, 300, .inl bf)), ((u6 10), .inl (G.2.2.1, 1680, .inl (zB (gF (th1 (okC nA nJ x1 x2 x3)) sc (uB sc (cN x1 x2 x3) false))))), ((u6 11), .inl (G.2.1, 140, .inl u644_4)), ((u6 12), .inl (G.2.2.1, 140, .inl (zB (gF (th1 (okC nA nJ x1 x2 x3)) hm (hdM fA nA fJ nJ (uB sc (cN x1 x2 x3) false) (cl x3) u644_4 hm)))))] _ _ := w
      subst hr650_5
      refine lv_iload hx hb dL_law_653 (lv_at hl 1 rfl) ?_
      refine lv_icmp_eq (tgt := 660) hx hb dL_law_655 (by decide) (fun c_655_6 => ?_) (fun c_655_6 => ?_)
      · refine lv_iload hx hb dL_law_660 (lv_at hl 1 rfl) ?_
        refine lv_if_ne (tgt := 677) hx hb dL_law_662 (by decide) (fun c_662_7 => ?_) (fun c_662_7 => ?_)
        · refine lv_goto (tgt := 1496) hx hb dL_law_677 (by decide) ?_
          refine W.widen (k := cells + 8) (n := slots + 48) (by omega) (by omega) ?_
          exact kk _ _ _ ⟨jd, snt, td, nA, nJ, dn, bn, fA, fJ, da, dw, dc, dv, lat, ear, cnt, ld, bc, bd, bf, rf, u606_2.1, u644_4, on, gF (th1 (okC nA nJ x1 x2 x3)) sc (uB sc (cN x1 x2 x3) false), gF (th1 (okC nA nJ x1 x2 x3)) hid (hdn fA nA fJ nJ (uB sc (cN x1 x2 x3) false) (cl x3) u606_2.1 hid), gF (th1 (okC nA nJ x1 x2 x3)) hm (hdM fA nA fJ nJ (uB sc (cN x1 x2 x3) false) (cl x3) u644_4 hm), gF (th1 (okC nA nJ x1 x2 x3)) og (vp_updL og 0 (u606_2.2.toInt64)), nI (th1 (okC nA nJ x1 x2 x3)), hI, w⟩ (lv_sub hl [2, 3, 4, 5, 6] rfl)
        · have hT0 := b_T0 th1_lt c_662_7
          refine lv_aload_n hx hb dL_law_665 rfl (lv_at hl 5 rfl) ?_
          refine lv_iconst (v := nI 0) hx hb dL_law_666 (by decide) ?_
          refine b_jald X E w 25 rfl 0 rfl (by omega) (by first | decide | omega) dL_law_667 ?_
          refine lv_iload hx hb dL_law_668 (lv_at hl 0 rfl) ?_
          refine lv_i2l (v := (r644_4).toInt64) hx hb dL_law_670 rfl ?_
          refine W.lcmp hx hb dL_law_671 ?_
          refine b_tp (show lg_cmp ((gF (th1 (okC nA nJ x1 x2 x3)) og (vp_updL og 0 (u606_2.2.toInt64))) 0) ((r644_4).toInt64) = nI 0 from b_lc (by rw [hT0]; exact congrArg Int32.toInt64 (an_hid hI (hcl hT0).2 (hmo hT0)))) ?_
          refine lv_if_eq (tgt := 677) hx hb dL_law_672 (by decide) (fun c_672_8 => ?_) (fun c_672_8 => ?_)
          · refine lv_goto (tgt := 1496) hx hb dL_law_677 (by decide) ?_
            refine W.widen (k := cells + 8) (n := slots + 48) (by omega) (by omega) ?_
            exact kk _ _ _ ⟨jd, snt, td, nA, nJ, dn, bn, fA, fJ, da, dw, dc, dv, lat, ear, cnt, ld, bc, bd, bf, rf, u606_2.1, u644_4, on, gF (th1 (okC nA nJ x1 x2 x3)) sc (uB sc (cN x1 x2 x3) false), gF (th1 (okC nA nJ x1 x2 x3)) hid (hdn fA nA fJ nJ (uB sc (cN x1 x2 x3) false) (cl x3) u606_2.1 hid), gF (th1 (okC nA nJ x1 x2 x3)) hm (hdM fA nA fJ nJ (uB sc (cN x1 x2 x3) false) (cl x3) u644_4 hm), gF (th1 (okC nA nJ x1 x2 x3)) og (vp_updL og 0 (u606_2.2.toInt64)), nI (th1 (okC nA nJ x1 x2 x3)), hI, w⟩ (lv_sub hl [2, 3, 4, 5, 6] rfl)
          · exact absurd (by decide) c_672_8
      · exact absurd rfl c_655_6
    · exact absurd c_597_1 c_636_3
  · refine lv_iconst (v := nI 1) hx hb dL_law_600 (by decide) ?_
    refine lv_goto (tgt := 605) hx hb dL_law_601 (by decide) ?_
    refine lv_aload_n hx hb dL_law_605 rfl (lv_at hl 3 rfl) ?_
    refine b_calli w (vx_runSW (As := [.ref H0, .int x1, .int x2, .int x3, .int (nI 1), .ref ot]) (rest := []) X (c_L_secret l hl0 G _ (H0 := H0) (x := x1) (y := x2) (z := x3) (b := true) (ot := ot) (tA := (u5 0)) (tJ := (u5 2)) (gO := (u5 4)) (dO := (u5 6)) (bO := (u5 11)) (sO := (u5 19)) (qs := (u5 22)) (qr := (u5 23)) (jd := jd) (snt := snt) (td := td) (oA := (u5 1)) (nA := nA) (fA := fA) (oJ := (u5 3)) (nJ := nJ) (fJ := fJ) (ql := (u5 12)) (qe := (u5 13)) (qn := (u5 14)) (qt := (u5 15)) (qc := (u5 16)) (qd := (u5 17)) (qf := (u5 18)) (bn := bn) (bc := bc) (bd := bd) (bf := bf) (qv := (u5 20)) (qh := (u5 21)) (v := v) (hid := hid) (sc := sc) (og := og) (hnA := (by first | assumption | omega)) (hnJ := (by first | assumption | omega)) (hTA := (by first | assumption | omega)) (hTJ := (by first | assumption | omega)) (hbn := (by first | assumption | omega)) (hbk := (by first | assumption | omega))) (vx_cwSW 6 hts gL_law_L_secret rfl rfl rfl (by decide +kernel) ⟨Nat.le_of_ble_eq_true rfl, Nat.le_of_ble_eq_true rfl⟩) ⟨b_blind, (fun U9 hU9 hW9 => ⟨rfl, b_pre E Z0 w [0, 1, 2, 3, 4, 12, 17, 18, 19, 20, 21, 22, 23, 25] (by decide) rfl (b_inc (Or.inr (h5 22 (by decide))) (b_inc (Or.inr (h5 20 (by decide))) (b_inc (Or.inr (h5 21 (by decide))) (b_inc (Or.inr hot) b_inn)))) U9 hU9 hW9⟩)⟩ rfl rfl hl.1 rfl (lv_room (Nat.le_of_ble_eq_true rfl)) dL_law_606 ⟨Nat.le_trans (by omega) hcR, Nat.le_trans (by omega) hsR⟩) (b_inc (Or.inr (h5 22 (by decide))) (b_inc (Or.inr (h5 20 (by decide))) (b_inc (Or.inr (h5 21 (by decide))) (b_inc (Or.inr hot) b_inn)))) [23, 21, 22, 25] (fun _ => rfl) rfl (fun r606_9 u606_9 H locs hr606_9 w => ?_)
    have w : bSt G vwCl [] s [(H0, .inr (5, [.ref (u5 0), .ref (u5 2), .ref (u5 4), .ref (u5 6), .ref (u5 11), .ref (u5 19), .ref (u5 22), .ref (u5 23), .int (nI jd), .int (nI snt), .int (nI td)])), ((u5 0), .inr (4, [.ref (u5 1), .int (nI 10), .int (nI nA)])), ((u5 1), .inl (G.2.1, 14, .inl fA)), ((u5 2), .inr (4, [.ref (u5 3), .int (nI 1), .int (nI nJ)])), ((u5 3), .inl (G.2.1, 10, .inl fJ)), ((u5 4), .inr (0, [.ref (u5 5)])), ((u5 5), .inl (G.2.2.1, 56, .inl (zB on))), ((u5 6), .inr (2, [.ref (u5 7), .ref (u5 8), .ref (u5 9), .ref (u5 10), .int (nI dn)])), ((u5 7), .inl (G.2.1, 16, .inl dw)), ((u5 8), .inl (G.2.1, 16, .inl da)), ((u5 9), .inl (G.2.1, 16, .inl dc)), ((u5 10), .inl (G.2.1, 16, .inl dv)), ((u5 11), .inr (1, [.ref (u5 12), .ref (u5 13), .ref (u5 14), .ref (u5 15), .ref (u5 16), .ref (u5 17), .ref (u5 18), .int (nI bn)])), ((u5 12), .inl (G.2.1, 1680, .inl lat)), ((u5 13), .inl (G.2.1, 1680, .inl ear)), ((u5 14), .inl (G.2.1, 1680, .inl cnt)), ((u5 15), .inl (G.2.1, 1680, .inl ld)), ((u5 16), .inl (G.2.1, 300, .inl bc)), ((u5 17), .inl (G.2.1, 300, .inl bd)), ((u5 18), .inl (G.2.1, 300, .inl bf)), ((u5 19), .inr (3, [.ref (u5 20), .ref (u5 21)])), ((u5 20), .inl (G.2.1, 140, .inl u606_9.1)), ((u5 21), .inl (G.2.2.1, 140, .inl (zB (gF (th1 (okC nA nJ x1 x2 x3)) hid (hdn fA nA fJ nJ (uB sc (cN x1 x2 x3) true) (cl x3) u606_9.1 hid))))), ((u5 22), .inl (G.2.2.1, 1680, .inl (zB (gF (th1 (okC nA nJ x1 x2 x3)) sc (uB sc (cN x1 x2 x3) true))))), ((u5 23), .inl (G.2.1, 16, .inl rf)), (ot, .inl (G.2.2.2, 1, .inr (.inl (gF (th1 (okC nA nJ x1 x2 x3)) og (vp_updL og 0 (u606_9.2.toInt64)))))), (M, .inr (6, [.int (nI td), .int (nI nA), .int (nI nJ), .ref (u6 0), .ref (u6 1), .ref (u6 2), .int (nI dn), .ref (u6 3), .ref (u6 4), .ref (u6 5), .int (nI snt), .int (nI jd), .ref (u6 6), .int (nI bn), .ref (u6 7), .ref (u6 8), .ref (u6 9), .ref (u6 10), .ref (u6 11), .ref (u6 12), .int th])), ((u6 0), .inl (G.2.1, 14, .inl fA)), ((u6 1), .inl (G.2.1, 10, .inl fJ)), ((u6 2), .inl (G.2.2.1, 56, .inl (zB on))), ((u6 3), .inl (G.2.1, 16, .inl dw)), ((u6 4), .inl (G.2.1, 16, .inl dc)), ((u6 5), .inl (G.2.1, 16, .inl dv)), ((u6 6), .inl (G.2.1, 16, .inl rf)), ((u6 7), .inl (G.2.1, 300, .inl bc)), ((u6 8), .inl (G.2.1, 300, .inl bd)), ((u6 9), .inl (G.2.1, 300, .inl bf)), ((u6 10), .inl (G.2.2.1, 1680, .inl (zB sc))), ((u6 11), .inl (G.2.1, 140, .inl vm)), ((u6 12), .inl (G.2.2.1, 140, .inl (zB hm)))] _ _ := w
    obtain ⟨ehr606_9, hr606_9⟩ := hr606_9
    subst ehr606_9
    have hcl := hr606_9
    refine lv_istore (lv' := [(5, .int (nI (th1 (okC nA nJ x1 x2 x3)))), (0, .ref b), (1, .ref H0), (2, .ref M), (3, .ref ot), (4, .int (nI i))]) hx hb dL_law_609 hl (by decide) rfl (fun ls hl => ?_)
    refine lv_aload_n hx hb dL_law_611 rfl (lv_at hl 3 rfl) ?_
    refine lv_aload_n hx hb dL_law_612 rfl (lv_at hl 1 rfl) ?_
    refine lv_iload hx hb dL_law_613 (lv_at hl 5 rfl) ?_
    refine lv_iconst (v := nI 1) hx hb dL_law_615 (by decide) ?_
    refine lv_iadd hx hb dL_law_616 ?_
    refine b_tp (show (nI i) + (nI 1) = nI (i + 1) from nI_add i 1) ?_
    refine va_sld hx hb hX hbl hbA w.2.1 (vp_in_nI (by omega) (by omega)) dL_law_617 ?_
    refine b_tp (show xs (nI (i + 1)).toNatClampNeg = x1 from ex1.symm) ?_
    refine lv_aload_n hx hb dL_law_618 rfl (lv_at hl 1 rfl) ?_
    refine lv_iload hx hb dL_law_619 (lv_at hl 5 rfl) ?_
    refine lv_iconst (v := nI 2) hx hb dL_law_621 (by decide) ?_
    refine lv_iadd hx hb dL_law_622 ?_
    refine b_tp (show (nI i) + (nI 2) = nI (i + 2) from nI_add i 2) ?_
    refine va_sld hx hb hX hbl hbA w.2.1 (vp_in_nI (by omega) (by omega)) dL_law_623 ?_
    refine b_tp (show xs (nI (i + 2)).toNatClampNeg = x2 from ex2.symm) ?_
    refine lv_aload_n hx hb dL_law_624 rfl (lv_at hl 1 rfl) ?_
    refine lv_iload hx hb dL_law_625 (lv_at hl 5 rfl) ?_
    refine lv_iconst (v := nI 3) hx hb dL_law_627 (by decide) ?_
    refine lv_iadd hx hb dL_law_628 ?_
    refine b_tp (show (nI i) + (nI 3) = nI (i + 3) from nI_add i 3) ?_
    refine va_sld hx hb hX hbl hbA w.2.1 (vp_in_nI (by omega) (by omega)) dL_law_629 ?_
    refine b_tp (show xs (nI (i + 3)).toNatClampNeg = x3 from ex3.symm) ?_
    refine lv_aload_n hx hb dL_law_630 rfl (lv_at hl 1 rfl) ?_
    refine lv_iload hx hb dL_law_631 (lv_at hl 5 rfl) ?_
    refine lv_iconst (v := nI 4) hx hb dL_law_633 (by decide) ?_
    refine lv_iadd hx hb dL_law_634 ?_
    refine b_tp (show (nI i) + (nI 4) = nI (i + 4) from nI_add i 4) ?_
    refine va_sld hx hb hX hbl hbA w.2.1 (vp_in_nI (by omega) (by omega)) dL_law_635 ?_
    refine b_tp (show xs (nI (i + 4)).toNatClampNeg = x4 from ex4.symm) ?_
    refine lv_if_eq (tgt := 643) hx hb dL_law_636 (by decide) (fun c_636_10 => ?_) (fun c_636_10 => ?_)
    · exact absurd c_636_10 c_597_1
    · refine lv_iconst (v := nI 1) hx hb dL_law_639 (by decide) ?_
      refine lv_goto (tgt := 644) hx hb dL_law_640 (by decide) ?_
      refine b_calli w (va_runV (As := [.int x1, .int x2, .int x3, .int (nI 1)]) (rest := []) X (c_X6_secret l hl0 G _ (M := M) (x := x1) (y := x2) (z := x3) (b := true) (td := td) (nA := nA) (nJ := nJ) (yA := (u6 0)) (yJ := (u6 1)) (yg := (u6 2)) (dn := dn) (yw := (u6 3)) (yc := (u6 4)) (yv := (u6 5)) (snt := snt) (jd := jd) (yr := (u6 6)) (bn := bn) (yC := (u6 7)) (yD := (u6 8)) (yF := (u6 9)) (yS := (u6 10)) (yV := (u6 11)) (yH := (u6 12)) (th := th) (fA := fA) (fJ := fJ) (bc := bc) (bd := bd) (bf := bf) (v := vm) (hid := hm) (sc := sc) (hnA := (by first | assumption | omega)) (hnJ := (by first | assumption | omega)) (hTA := (by first | assumption | omega)) (hTJ := (by first | assumption | omega)) (hbn := (by first | assumption | omega))) (cwV 4 hts gL_law_X6_secret rfl rfl rfl (by decide +kernel) ⟨Nat.le_of_ble_eq_true rfl, Nat.le_of_ble_eq_true rfl⟩) ⟨b_blind, b_recv E w (ci := 6) (q0 := 26) rfl rfl, (fun U9 hU9 hW9 => ⟨rfl, b_pre E Z0 w [26, 27, 28, 34, 35, 36, 38, 39, 37] (by decide) rfl (b_inc (Or.inr hM) (b_inc (Or.inr (h6 10 (by decide))) (b_inc (Or.inr (h6 11 (by decide))) (b_inc (Or.inr (h6 12 (by decide))) b_inn)))) U9 hU9 hW9⟩)⟩ rfl rfl hl.1 rfl (lv_room (Nat.le_of_ble_eq_true rfl)) dL_law_644 ⟨Nat.le_trans (by omega) hcR, Nat.le_trans (by omega) hsR⟩) (b_inc (Or.inr hM) (b_inc (Or.inr (h6 10 (by decide))) (b_inc (Or.inr (h6 11 (by decide))) (b_inc (Or.inr (h6 12 (by decide))) b_inn)))) [26, 37, 38, 39] (fun _ => rfl) rfl (fun r644_11 u644_11 H locs hr644_11 w => ?_)
      have w : bSt G vwCl [] s [(H0, .inr (5, [.ref (u5 0), .ref (u5 2), .ref (u5 4), .ref (u5 6), .ref (u5 11), .ref (u5 19), .ref (u5 22), .ref (u5 23), .int (nI jd), .int (nI snt), .int (nI td)])), ((u5 0), .inr (4, [.ref (u5 1), .int (nI 10), .int (nI nA)])), ((u5 1), .inl (G.2.1, 14, .inl fA)), ((u5 2), .inr (4, [.ref (u5 3), .int (nI 1), .int (nI nJ)])), ((u5 3), .inl (G.2.1, 10, .inl fJ)), ((u5 4), .inr (0, [.ref (u5 5)])), ((u5 5), .inl (G.2.2.1, 56, .inl (zB on))), ((u5 6), .inr (2, [.ref (u5 7), .ref (u5 8), .ref (u5 9), .ref (u5 10), .int (nI dn)])), ((u5 7), .inl (G.2.1, 16, .inl dw)), ((u5 8), .inl (G.2.1, 16, .inl da)), ((u5 9), .inl (G.2.1, 16, .inl dc)), ((u5 10), .inl (G.2.1, 16, .inl dv)), ((u5 11), .inr (1, [.ref (u5 12), .ref (u5 13), .ref (u5 14), .ref (u5 15), .ref (u5 16), .ref (u5 17), .ref (u5 18), .int (nI bn)])), ((u5 12), .inl (G.2.1, 1680, .inl lat)), ((u5 13), .inl (G.2.1, 1680, .inl ear)), ((u5 14), .inl (G.2.1, 1680, .inl cnt)), ((u5 15), .inl (G.2.1, 1680, .inl ld)), ((u5 16), .inl (G.2.1, 300, .inl bc)), ((u5 17), .inl (G.2.1, 300, .inl bd)), ((u5 18), .inl (G.2.1, 300, .inl bf)), ((u5 19), .inr (3, [.ref (u5 20), .ref (u5 21)])), ((u5 20), .inl (G.2.1, 140, .inl u606_9.1)), ((u5 21), .inl (G.2.2.1, 140, .inl (zB (gF (th1 (okC nA nJ x1 x2 x3)) hid (hdn fA nA fJ nJ (uB sc (cN x1 x2 x3) true) (cl x3) u606_9.1 hid))))), ((u5 22), .inl (G.2.2.1, 1680, .inl (zB (gF (th1 (okC nA nJ x1 x2 x3)) sc (uB sc (cN x1 x2 x3) true))))), ((u5 23), .inl (G.2.1, 16, .inl rf)), (ot, .inl (G.2.2.2, 1, .inr (.inl (gF (th1 (okC nA nJ x1 x2 x3)) og (vp_updL og 0 (u606_9.2.toInt64)))))), (M, .inr (6, [.int (nI td), .int (nI nA), .int (nI nJ), .ref (u6 0), .ref (u6 1), .ref (u6 2), .int (nI dn), .ref (u6 3), .ref (u6 4), .ref (u6 5), .int (nI snt), .int (nI jd), .ref (u6 6), .int (nI bn), .ref (u6 7), .ref (u6 8), .ref (u6 9), .ref (u6 10), .ref (u6 11), .ref (u6 12), .int (nI (th1 (okC nA nJ x1 x2 x3)))])), ((u6 0), .inl (G.2.1, 14, .inl fA)), ((u6 1), .inl (G.2.1, 10, .inl fJ)), ((u6 2), .inl (G.2.2.1, 56, .inl (zB on))), ((u6 3), .inl (G.2.1, 16, .inl dw)), ((u6 4), .inl (G.2.1, 16, .inl dc)), ((u6 5), .inl (G.2.1, 16, .inl dv)), ((u6 6), .inl (G.2.1, 16, .inl rf)), ((u6 7), .inl (G.2.1, 300, .inl bc)), ((u6 8), .inl (G.2.1, 300, .inl bd)), ((u6 9), .inl (G.2.1, 300, .inl bf)), ((u6 10), .inl (G.2.2.1, 1680, .inl (zB (gF (th1 (okC nA nJ x1 x2 x3)) sc (uB sc (cN x1 x2 x3) true))))), ((u6 11), .inl (G.2.1, 140, .inl u644_11)), ((u6 12), .inl (G.2.2.1, 140, .inl (zB (gF (th1 (okC nA nJ x1 x2 x3)) hm (hdM fA nA fJ nJ (uB sc (cN x1 x2 x3) true) (cl x3) u644_11 hm)))))] _ _ := w
      have hmo := hr644_11
      refine lv_istore (lv' := [(6, .int r644_11), (5, .int (nI (th1 (okC nA nJ x1 x2 x3)))), (0, .ref b), (1, .ref H0), (2, .ref M), (3, .ref ot), (4, .int (nI i))]) hx hb dL_law_647 hl (by decide) rfl (fun ls hl => ?_)
      refine lv_aload_n hx hb dL_law_649 rfl (lv_at hl 4 rfl) ?_
      refine b_calli w (va_runV (As := []) (rest := []) X (c_X6_thrown l hl0 G _ (M := M) (td := td) (nA := nA) (nJ := nJ) (yA := (u6 0)) (yJ := (u6 1)) (yg := (u6 2)) (dn := dn) (yw := (u6 3)) (yc := (u6 4)) (yv := (u6 5)) (snt := snt) (jd := jd) (yr := (u6 6)) (bn := bn) (yC := (u6 7)) (yD := (u6 8)) (yF := (u6 9)) (yS := (u6 10)) (yV := (u6 11)) (yH := (u6 12)) (th := nI (th1 (okC nA nJ x1 x2 x3))) ) (cwV 0 hts gL_law_X6_thrown rfl rfl rfl (by decide +kernel) ⟨Nat.le_of_ble_eq_true rfl, Nat.le_of_ble_eq_true rfl⟩) ⟨b_blind, b_recv E w (ci := 6) (q0 := 26) rfl rfl, (fun U9 hU9 hW9 => ⟨rfl, b_pre E Z0 w [26] (by decide) rfl b_nil U9 hU9 hW9⟩)⟩ rfl rfl hl.1 rfl (lv_room (Nat.le_of_ble_eq_true rfl)) dL_law_650 ⟨Nat.le_trans (by omega) hcR, Nat.le_trans (by omega) hsR⟩) b_nil [] (fun _ => rfl) rfl (fun r650_12 u650_12 H locs hr650_12 w => ?_)
      have w : bSt G vwCl [] s [(H0, .inr (5, [.ref (u5 0), .ref (u5 2), .ref (u5 4), .ref (u5 6), .ref (u5 11), .ref (u5 19), .ref (u5 22), .ref (u5 23), .int (nI jd), .int (nI snt), .int (nI td)])), ((u5 0), .inr (4, [.ref (u5 1), .int (nI 10), .int (nI nA)])), ((u5 1), .inl (G.2.1, 14, .inl fA)), ((u5 2), .inr (4, [.ref (u5 3), .int (nI 1), .int (nI nJ)])), ((u5 3), .inl (G.2.1, 10, .inl fJ)), ((u5 4), .inr (0, [.ref (u5 5)])), ((u5 5), .inl (G.2.2.1, 56, .inl (zB on))), ((u5 6), .inr (2, [.ref (u5 7), .ref (u5 8), .ref (u5 9), .ref (u5 10), .int (nI dn)])), ((u5 7), .inl (G.2.1, 16, .inl dw)), ((u5 8), .inl (G.2.1, 16, .inl da)), ((u5 9), .inl (G.2.1, 16, .inl dc)), ((u5 10), .inl (G.2.1, 16, .inl dv)), ((u5 11), .inr (1, [.ref (u5 12), .ref (u5 13), .ref (u5 14), .ref (u5 15), .ref (u5 16), .ref (u5 17), .ref (u5 18), .int (nI bn)])), ((u5 12), .inl (G.2.1, 1680, .inl lat)), ((u5 13), .inl (G.2.1, 1680, .inl ear)), ((u5 14), .inl (G.2.1, 1680, .inl cnt)), ((u5 15), .inl (G.2.1, 1680, .inl ld)), ((u5 16), .inl (G.2.1, 300, .inl bc)), ((u5 17), .inl (G.2.1, 300, .inl bd)), ((u5 18), .inl (G.2.1, 300, .inl bf)), ((u5 19), .inr (3, [.ref (u5 20), .ref (u5 21)])), ((u5 20), .inl (G.2.1, 140, .inl u606_9.1)), ((u5 21), .inl (G.2.2.1, 140, .inl (zB (gF (th1 (okC nA nJ x1 x2 x3)) hid (hdn fA nA fJ nJ (uB sc (cN x1 x2 x3) true) (cl x3) u606_9.1 hid))))), ((u5 22), .inl (G.2.2.1, 1680, .inl (zB (gF (th1 (okC nA nJ x1 x2 x3)) sc (uB sc (cN x1 x2 x3) true))))), ((u5 23), .inl (G.2.1, 16, .inl rf)), (ot, .inl (G.2.2.2, 1, .inr (.inl (gF (th1 (okC nA nJ x1 x2 x3)) og (vp_updL og 0 (u606_9.2.toInt64)))))), (M, .inr (6, [.int (nI td), .int (nI nA), .int (nI nJ), .ref (u6 0), .ref (u6 1), .ref (u6 2), .int (nI dn), .ref (u6 3), .ref (u6 4), .ref (u6 5), .int (nI snt), .int (nI jd), .ref (u6 6), .int (nI bn), .ref (u6 7), .ref (u6 8), .ref (u6 9), .ref (u6 10), .ref (u6 11), .ref (u6 12), .int (nI (th1 (okC nA nJ x1 x2 x3)))])), ((u6 0), .inl (G.2.1, 14, .inl fA)), ((u6 1), .inl (G.2.1, 10, .inl fJ)), ((u6 2), .inl (G.2.2.1, 56, .inl (zB on))), ((u6 3), .inl (G.2.1, 16, .inl dw)), ((u6 4), .inl (G.2.1, 16, .inl dc)), ((u6 5), .inl (G.2.1, 16, .inl dv)), ((u6 6), .inl (G.2.1, 16, .inl rf)), ((u6 7), .inl (G.2.1, 300, .inl bc)), ((u6 8), .inl (G.2.1, 300, .inl bd)), ((u6 9), .inl (G.2.1, 300, .inl bf)), ((u6 10), .inl (G.2.2.1, 1680, .inl (zB (gF (th1 (okC nA nJ x1 x2 x3)) sc (uB sc (cN x1 x2 x3) true))))), ((u6 11), .inl (G.2.1, 140, .inl u644_11)), ((u6 12), .inl (G.2.2.1, 140, .inl (zB (gF (th1 (okC nA nJ x1 x2 x3)) hm (hdM fA nA fJ nJ (uB sc (cN x1 x2 x3) true) (cl x3) u644_11 hm)))))] _ _ := w
      subst hr650_12
      refine lv_iload hx hb dL_law_653 (lv_at hl 1 rfl) ?_
      refine lv_icmp_eq (tgt := 660) hx hb dL_law_655 (by decide) (fun c_655_13 => ?_) (fun c_655_13 => ?_)
      · refine lv_iload hx hb dL_law_660 (lv_at hl 1 rfl) ?_
        refine lv_if_ne (tgt := 677) hx hb dL_law_662 (by decide) (fun c_662_14 => ?_) (fun c_662_14 => ?_)
        · refine lv_goto (tgt := 1496) hx hb dL_law_677 (by decide) ?_
          refine W.widen (k := cells + 8) (n := slots + 48) (by omega) (by omega) ?_
          exact kk _ _ _ ⟨jd, snt, td, nA, nJ, dn, bn, fA, fJ, da, dw, dc, dv, lat, ear, cnt, ld, bc, bd, bf, rf, u606_9.1, u644_11, on, gF (th1 (okC nA nJ x1 x2 x3)) sc (uB sc (cN x1 x2 x3) true), gF (th1 (okC nA nJ x1 x2 x3)) hid (hdn fA nA fJ nJ (uB sc (cN x1 x2 x3) true) (cl x3) u606_9.1 hid), gF (th1 (okC nA nJ x1 x2 x3)) hm (hdM fA nA fJ nJ (uB sc (cN x1 x2 x3) true) (cl x3) u644_11 hm), gF (th1 (okC nA nJ x1 x2 x3)) og (vp_updL og 0 (u606_9.2.toInt64)), nI (th1 (okC nA nJ x1 x2 x3)), hI, w⟩ (lv_sub hl [2, 3, 4, 5, 6] rfl)
        · have hT0 := b_T0 th1_lt c_662_14
          refine lv_aload_n hx hb dL_law_665 rfl (lv_at hl 5 rfl) ?_
          refine lv_iconst (v := nI 0) hx hb dL_law_666 (by decide) ?_
          refine b_jald X E w 25 rfl 0 rfl (by omega) (by first | decide | omega) dL_law_667 ?_
          refine lv_iload hx hb dL_law_668 (lv_at hl 0 rfl) ?_
          refine lv_i2l (v := (r644_11).toInt64) hx hb dL_law_670 rfl ?_
          refine W.lcmp hx hb dL_law_671 ?_
          refine b_tp (show lg_cmp ((gF (th1 (okC nA nJ x1 x2 x3)) og (vp_updL og 0 (u606_9.2.toInt64))) 0) ((r644_11).toInt64) = nI 0 from b_lc (by rw [hT0]; exact congrArg Int32.toInt64 (an_hid hI (hcl hT0).2 (hmo hT0)))) ?_
          refine lv_if_eq (tgt := 677) hx hb dL_law_672 (by decide) (fun c_672_15 => ?_) (fun c_672_15 => ?_)
          · refine lv_goto (tgt := 1496) hx hb dL_law_677 (by decide) ?_
            refine W.widen (k := cells + 8) (n := slots + 48) (by omega) (by omega) ?_
            exact kk _ _ _ ⟨jd, snt, td, nA, nJ, dn, bn, fA, fJ, da, dw, dc, dv, lat, ear, cnt, ld, bc, bd, bf, rf, u606_9.1, u644_11, on, gF (th1 (okC nA nJ x1 x2 x3)) sc (uB sc (cN x1 x2 x3) true), gF (th1 (okC nA nJ x1 x2 x3)) hid (hdn fA nA fJ nJ (uB sc (cN x1 x2 x3) true) (cl x3) u606_9.1 hid), gF (th1 (okC nA nJ x1 x2 x3)) hm (hdM fA nA fJ nJ (uB sc (cN x1 x2 x3) true) (cl x3) u644_11 hm), gF (th1 (okC nA nJ x1 x2 x3)) og (vp_updL og 0 (u606_9.2.toInt64)), nI (th1 (okC nA nJ x1 x2 x3)), hI, w⟩ (lv_sub hl [2, 3, 4, 5, 6] rfl)
          · exact absurd (by decide) c_672_15
      · exact absurd rfl c_655_13
set_option maxHeartbeats 4000000 in
set_option maxRecDepth 100000 in
theorem op_value {p : Program} {l : Launch} (hl0 : l.stackTraces = false) {e : Env} {s : State} {m : MethodId} {below : List Frame} {meth : Method} {c : Code} {G : bG} {b L : Nat} {xs : Nat → Int32} {Q : State → Prop} (X : CallFix p m c cL_law 7 s #[Value.ref b] wsL_law RL) (E : bE G vwCl bNW bSW s) (Z0 : bZ [] s) (hX : va_X b L xs s s.heap) (hbl : b < s.heap.size) (hL : L ≤ 3584) {H0 M ot : Nat} {u5 u6 : Nat → Nat} (hH0 : s.heap.size ≤ H0) (hM : s.heap.size ≤ M) (hot : s.heap.size ≤ ot) (h5 : ∀ k, k < 24 → s.heap.size ≤ u5 k) (h6 : ∀ k, k < 13 → s.heap.size ≤ u6 k) {i : Nat} (hi : i + 7 ≤ L) {cells slots : Nat} (hcR : cells + 8 ≤ room_1.cells) (hsR : slots + 48 ≤ room_1.slots) {H : Heap} {locs : List Loc} {ls : Array Slot} (hLC : LC G s H0 M ot u5 u6 H locs) (hl : lv_has ls 7 [(0, .ref b), (1, .ref H0), (2, .ref M), (3, .ref ot), (4, .int (nI i))]) (kk : ∀ (H : Heap) (locs : List Loc) (ls : Array Slot), LC G s H0 M ot u5 u6 H locs → lv_has ls 7 [(0, .ref b), (1, .ref H0), (2, .ref M), (3, .ref ot), (4, .int (nI i))] → W p l e room_1 s m #[Value.ref b] below meth c H locs (cells + 8) (slots + 48) Q (F0 m 1496 ls [])) : W p l e room_1 s m #[Value.ref b] below meth c H locs cells slots Q (F0 m 828 ls []) := by
  have hx := X.1
  have hb := X.2.1
  have hml := X.2.2.1
  have hown := X.2.2.2.1
  have hts := X.2.2.2.2
  have hbA : ¬ Aw [] s.heap.size b := fun h => h.elim (fun h => nomatch h) (fun h => absurd hbl (Nat.not_lt.mpr h))
  obtain ⟨jd, snt, td, nA, nJ, dn, bn, fA, fJ, da, dw, dc, dv, lat, ear, cnt, ld, bc, bd, bf, rf, v, vm, on, sc, hid, hm, og, th, hI, w⟩ := hLC
  obtain ⟨⟨hnA, hnJ, hTA, hTJ, htd, hst, hbs, hjd, hdn9⟩, hbk, hdr, hK⟩ := id hI
  have hbn : bn ≤ 300 := by omega
  obtain ⟨x1, ex1⟩ : ∃ y : Int32, y = xs (nI (i + 1)).toNatClampNeg := ⟨_, rfl⟩
  obtain ⟨x2, ex2⟩ : ∃ y : Int32, y = xs (nI (i + 2)).toNatClampNeg := ⟨_, rfl⟩
  obtain ⟨x3, ex3⟩ : ∃ y : Int32, y = xs (nI (i + 3)).toNatClampNeg := ⟨_, rfl⟩
  obtain ⟨x4, ex4⟩ : ∃ y : Int32, y = xs (nI (i + 4)).toNatClampNeg := ⟨_, rfl⟩
  obtain ⟨x5, ex5⟩ : ∃ y : Int32, y = xs (nI (i + 5)).toNatClampNeg := ⟨_, rfl⟩
  obtain ⟨x6, ex6⟩ : ∃ y : Int32, y = xs (nI (i + 6)).toNatClampNeg := ⟨_, rfl⟩
  refine lv_aload_n hx hb dL_law_828 rfl (lv_at hl 1 rfl) ?_
  refine lv_aload_n hx hb dL_law_829 rfl (lv_at hl 0 rfl) ?_
  refine lv_iload hx hb dL_law_830 (lv_at hl 4 rfl) ?_
  refine lv_iconst (v := nI 1) hx hb dL_law_832 (by decide) ?_
  refine lv_iadd hx hb dL_law_833 ?_
  refine b_tp (show (nI i) + (nI 1) = nI (i + 1) from nI_add i 1) ?_
  refine va_sld hx hb hX hbl hbA w.2.1 (vp_in_nI (by omega) (by omega)) dL_law_834 ?_
  refine b_tp (show xs (nI (i + 1)).toNatClampNeg = x1 from ex1.symm) ?_
  refine lv_aload_n hx hb dL_law_835 rfl (lv_at hl 0 rfl) ?_
  refine lv_iload hx hb dL_law_836 (lv_at hl 4 rfl) ?_
  refine lv_iconst (v := nI 2) hx hb dL_law_838 (by decide) ?_
  refine lv_iadd hx hb dL_law_839 ?_
  refine b_tp (show (nI i) + (nI 2) = nI (i + 2) from nI_add i 2) ?_
  refine va_sld hx hb hX hbl hbA w.2.1 (vp_in_nI (by omega) (by omega)) dL_law_840 ?_
  refine b_tp (show xs (nI (i + 2)).toNatClampNeg = x2 from ex2.symm) ?_
  refine lv_aload_n hx hb dL_law_841 rfl (lv_at hl 0 rfl) ?_
  refine lv_iload hx hb dL_law_842 (lv_at hl 4 rfl) ?_
  refine lv_iconst (v := nI 3) hx hb dL_law_844 (by decide) ?_
  refine lv_iadd hx hb dL_law_845 ?_
  refine b_tp (show (nI i) + (nI 3) = nI (i + 3) from nI_add i 3) ?_
  refine va_sld hx hb hX hbl hbA w.2.1 (vp_in_nI (by omega) (by omega)) dL_law_846 ?_
  refine b_tp (show xs (nI (i + 3)).toNatClampNeg = x3 from ex3.symm) ?_
  refine lv_aload_n hx hb dL_law_847 rfl (lv_at hl 0 rfl) ?_
  refine lv_iload hx hb dL_law_848 (lv_at hl 4 rfl) ?_
  refine lv_iconst (v := nI 4) hx hb dL_law_850 (by decide) ?_
  refine lv_iadd hx hb dL_law_851 ?_
  refine b_tp (show (nI i) + (nI 4) = nI (i + 4) from nI_add i 4) ?_
  refine va_sld hx hb hX hbl hbA w.2.1 (vp_in_nI (by omega) (by omega)) dL_law_852 ?_
  refine b_tp (show xs (nI (i + 4)).toNatClampNeg = x4 from ex4.symm) ?_
  refine lv_aload_n hx hb dL_law_853 rfl (lv_at hl 3 rfl) ?_
  refine b_calli w (vx_runSW (As := [.ref H0, .int x1, .int x2, .int x3, .int x4, .ref ot]) (rest := []) X (c_L_value l hl0 G _ (H0 := H0) (x := x1) (y := x2) (z := x3) (d := x4) (ot := ot) (tA := (u5 0)) (tJ := (u5 2)) (gO := (u5 4)) (dO := (u5 6)) (bO := (u5 11)) (sO := (u5 19)) (qs := (u5 22)) (qr := (u5 23)) (jd := jd) (snt := snt) (td := td) (oA := (u5 1)) (nA := nA) (fA := fA) (oJ := (u5 3)) (nJ := nJ) (fJ := fJ) (ql := (u5 12)) (qe := (u5 13)) (qn := (u5 14)) (qt := (u5 15)) (qc := (u5 16)) (qd := (u5 17)) (qf := (u5 18)) (bn := bn) (bc := bc) (bd := bd) (bf := bf) (qv := (u5 20)) (qh := (u5 21)) (v := v) (og := og) (hnA := (by first | assumption | omega)) (hnJ := (by first | assumption | omega)) (hTA := (by first | assumption | omega)) (hTJ := (by first | assumption | omega)) (hbn := (by first | assumption | omega)) (hbk := (by first | assumption | omega))) (vx_cwSW 6 hts gL_law_L_value rfl rfl rfl (by decide +kernel) ⟨Nat.le_of_ble_eq_true rfl, Nat.le_of_ble_eq_true rfl⟩) ⟨b_blind, (fun U9 hU9 hW9 => ⟨rfl, b_pre E Z0 w [0, 1, 2, 3, 4, 12, 17, 18, 19, 20, 21, 25] (by decide) rfl (b_inc (Or.inr (h5 20 (by decide))) (b_inc (Or.inr hot) b_inn)) U9 hU9 hW9⟩)⟩ rfl rfl hl.1 rfl (lv_room (Nat.le_of_ble_eq_true rfl)) dL_law_854 ⟨Nat.le_trans (by omega) hcR, Nat.le_trans (by omega) hsR⟩) (b_inc (Or.inr (h5 20 (by decide))) (b_inc (Or.inr hot) b_inn)) [21, 25] (fun _ => rfl) rfl (fun r854_1 u854_1 H locs hr854_1 w => ?_)
  have w : bSt G vwCl [] s [(H0, .inr (5, [.ref (u5 0), .ref (u5 2), .ref (u5 4), .ref (u5 6), .ref (u5 11), .ref (u5 19), .ref (u5 22), .ref (u5 23), .int (nI jd), .int (nI snt), .int (nI td)])), ((u5 0), .inr (4, [.ref (u5 1), .int (nI 10), .int (nI nA)])), ((u5 1), .inl (G.2.1, 14, .inl fA)), ((u5 2), .inr (4, [.ref (u5 3), .int (nI 1), .int (nI nJ)])), ((u5 3), .inl (G.2.1, 10, .inl fJ)), ((u5 4), .inr (0, [.ref (u5 5)])), ((u5 5), .inl (G.2.2.1, 56, .inl (zB on))), ((u5 6), .inr (2, [.ref (u5 7), .ref (u5 8), .ref (u5 9), .ref (u5 10), .int (nI dn)])), ((u5 7), .inl (G.2.1, 16, .inl dw)), ((u5 8), .inl (G.2.1, 16, .inl da)), ((u5 9), .inl (G.2.1, 16, .inl dc)), ((u5 10), .inl (G.2.1, 16, .inl dv)), ((u5 11), .inr (1, [.ref (u5 12), .ref (u5 13), .ref (u5 14), .ref (u5 15), .ref (u5 16), .ref (u5 17), .ref (u5 18), .int (nI bn)])), ((u5 12), .inl (G.2.1, 1680, .inl lat)), ((u5 13), .inl (G.2.1, 1680, .inl ear)), ((u5 14), .inl (G.2.1, 1680, .inl cnt)), ((u5 15), .inl (G.2.1, 1680, .inl ld)), ((u5 16), .inl (G.2.1, 300, .inl bc)), ((u5 17), .inl (G.2.1, 300, .inl bd)), ((u5 18), .inl (G.2.1, 300, .inl bf)), ((u5 19), .inr (3, [.ref (u5 20), .ref (u5 21)])), ((u5 20), .inl (G.2.1, 140, .inl u854_1.1)), ((u5 21), .inl (G.2.2.1, 140, .inl (zB hid))), ((u5 22), .inl (G.2.2.1, 1680, .inl (zB sc))), ((u5 23), .inl (G.2.1, 16, .inl rf)), (ot, .inl (G.2.2.2, 1, .inr (.inl (gF (th2 (okC nA nJ x1 x2 x3) (dOk td x4)) og (vp_updL og 0 (u854_1.2.toInt64)))))), (M, .inr (6, [.int (nI td), .int (nI nA), .int (nI nJ), .ref (u6 0), .ref (u6 1), .ref (u6 2), .int (nI dn), .ref (u6 3), .ref (u6 4), .ref (u6 5), .int (nI snt), .int (nI jd), .ref (u6 6), .int (nI bn), .ref (u6 7), .ref (u6 8), .ref (u6 9), .ref (u6 10), .ref (u6 11), .ref (u6 12), .int th])), ((u6 0), .inl (G.2.1, 14, .inl fA)), ((u6 1), .inl (G.2.1, 10, .inl fJ)), ((u6 2), .inl (G.2.2.1, 56, .inl (zB on))), ((u6 3), .inl (G.2.1, 16, .inl dw)), ((u6 4), .inl (G.2.1, 16, .inl dc)), ((u6 5), .inl (G.2.1, 16, .inl dv)), ((u6 6), .inl (G.2.1, 16, .inl rf)), ((u6 7), .inl (G.2.1, 300, .inl bc)), ((u6 8), .inl (G.2.1, 300, .inl bd)), ((u6 9), .inl (G.2.1, 300, .inl bf)), ((u6 10), .inl (G.2.2.1, 1680, .inl (zB sc))), ((u6 11), .inl (G.2.1, 140, .inl vm)), ((u6 12), .inl (G.2.2.1, 140, .inl (zB hm)))] _ _ := w
  obtain ⟨ehr854_1, hr854_1⟩ := hr854_1
  subst ehr854_1
  have hcl := hr854_1
  refine lv_istore (lv' := [(5, .int (nI (th2 (okC nA nJ x1 x2 x3) (dOk td x4)))), (0, .ref b), (1, .ref H0), (2, .ref M), (3, .ref ot), (4, .int (nI i))]) hx hb dL_law_857 hl (by decide) rfl (fun ls hl => ?_)
  refine lv_aload_n hx hb dL_law_859 rfl (lv_at hl 3 rfl) ?_
  refine lv_aload_n hx hb dL_law_860 rfl (lv_at hl 1 rfl) ?_
  refine lv_iload hx hb dL_law_861 (lv_at hl 5 rfl) ?_
  refine lv_iconst (v := nI 1) hx hb dL_law_863 (by decide) ?_
  refine lv_iadd hx hb dL_law_864 ?_
  refine b_tp (show (nI i) + (nI 1) = nI (i + 1) from nI_add i 1) ?_
  refine va_sld hx hb hX hbl hbA w.2.1 (vp_in_nI (by omega) (by omega)) dL_law_865 ?_
  refine b_tp (show xs (nI (i + 1)).toNatClampNeg = x1 from ex1.symm) ?_
  refine lv_aload_n hx hb dL_law_866 rfl (lv_at hl 1 rfl) ?_
  refine lv_iload hx hb dL_law_867 (lv_at hl 5 rfl) ?_
  refine lv_iconst (v := nI 2) hx hb dL_law_869 (by decide) ?_
  refine lv_iadd hx hb dL_law_870 ?_
  refine b_tp (show (nI i) + (nI 2) = nI (i + 2) from nI_add i 2) ?_
  refine va_sld hx hb hX hbl hbA w.2.1 (vp_in_nI (by omega) (by omega)) dL_law_871 ?_
  refine b_tp (show xs (nI (i + 2)).toNatClampNeg = x2 from ex2.symm) ?_
  refine lv_aload_n hx hb dL_law_872 rfl (lv_at hl 1 rfl) ?_
  refine lv_iload hx hb dL_law_873 (lv_at hl 5 rfl) ?_
  refine lv_iconst (v := nI 3) hx hb dL_law_875 (by decide) ?_
  refine lv_iadd hx hb dL_law_876 ?_
  refine b_tp (show (nI i) + (nI 3) = nI (i + 3) from nI_add i 3) ?_
  refine va_sld hx hb hX hbl hbA w.2.1 (vp_in_nI (by omega) (by omega)) dL_law_877 ?_
  refine b_tp (show xs (nI (i + 3)).toNatClampNeg = x3 from ex3.symm) ?_
  refine lv_aload_n hx hb dL_law_878 rfl (lv_at hl 1 rfl) ?_
  refine lv_iload hx hb dL_law_879 (lv_at hl 5 rfl) ?_
  refine lv_iconst (v := nI 4) hx hb dL_law_881 (by decide) ?_
  refine lv_iadd hx hb dL_law_882 ?_
  refine b_tp (show (nI i) + (nI 4) = nI (i + 4) from nI_add i 4) ?_
  refine va_sld hx hb hX hbl hbA w.2.1 (vp_in_nI (by omega) (by omega)) dL_law_883 ?_
  refine b_tp (show xs (nI (i + 4)).toNatClampNeg = x4 from ex4.symm) ?_
  refine b_calli w (va_runV (As := [.int x1, .int x2, .int x3, .int x4]) (rest := []) X (c_X6_value l hl0 G _ (M := M) (x := x1) (y := x2) (z := x3) (d := x4) (td := td) (nA := nA) (nJ := nJ) (yA := (u6 0)) (yJ := (u6 1)) (yg := (u6 2)) (dn := dn) (yw := (u6 3)) (yc := (u6 4)) (yv := (u6 5)) (snt := snt) (jd := jd) (yr := (u6 6)) (bn := bn) (yC := (u6 7)) (yD := (u6 8)) (yF := (u6 9)) (yS := (u6 10)) (yV := (u6 11)) (yH := (u6 12)) (th := th) (fA := fA) (fJ := fJ) (bc := bc) (bd := bd) (bf := bf) (v := vm) (hnA := (by first | assumption | omega)) (hnJ := (by first | assumption | omega)) (hTA := (by first | assumption | omega)) (hTJ := (by first | assumption | omega)) (hbn := (by first | assumption | omega))) (cwV 4 hts gL_law_X6_value rfl rfl rfl (by decide +kernel) ⟨Nat.le_of_ble_eq_true rfl, Nat.le_of_ble_eq_true rfl⟩) ⟨b_blind, b_recv E w (ci := 6) (q0 := 26) rfl rfl, (fun U9 hU9 hW9 => ⟨rfl, b_pre E Z0 w [26, 27, 28, 34, 35, 36, 38] (by decide) rfl (b_inc (Or.inr hM) (b_inc (Or.inr (h6 11 (by decide))) b_inn)) U9 hU9 hW9⟩)⟩ rfl rfl hl.1 rfl (lv_room (Nat.le_of_ble_eq_true rfl)) dL_law_884 ⟨Nat.le_trans (by omega) hcR, Nat.le_trans (by omega) hsR⟩) (b_inc (Or.inr hM) (b_inc (Or.inr (h6 11 (by decide))) b_inn)) [26, 38] (fun _ => rfl) rfl (fun r884_2 u884_2 H locs hr884_2 w => ?_)
  have w : bSt G vwCl [] s [(H0, .inr (5, [.ref (u5 0), .ref (u5 2), .ref (u5 4), .ref (u5 6), .ref (u5 11), .ref (u5 19), .ref (u5 22), .ref (u5 23), .int (nI jd), .int (nI snt), .int (nI td)])), ((u5 0), .inr (4, [.ref (u5 1), .int (nI 10), .int (nI nA)])), ((u5 1), .inl (G.2.1, 14, .inl fA)), ((u5 2), .inr (4, [.ref (u5 3), .int (nI 1), .int (nI nJ)])), ((u5 3), .inl (G.2.1, 10, .inl fJ)), ((u5 4), .inr (0, [.ref (u5 5)])), ((u5 5), .inl (G.2.2.1, 56, .inl (zB on))), ((u5 6), .inr (2, [.ref (u5 7), .ref (u5 8), .ref (u5 9), .ref (u5 10), .int (nI dn)])), ((u5 7), .inl (G.2.1, 16, .inl dw)), ((u5 8), .inl (G.2.1, 16, .inl da)), ((u5 9), .inl (G.2.1, 16, .inl dc)), ((u5 10), .inl (G.2.1, 16, .inl dv)), ((u5 11), .inr (1, [.ref (u5 12), .ref (u5 13), .ref (u5 14), .ref (u5 15), .ref (u5 16), .ref (u5 17), .ref (u5 18), .int (nI bn)])), ((u5 12), .inl (G.2.1, 1680, .inl lat)), ((u5 13), .inl (G.2.1, 1680, .inl ear)), ((u5 14), .inl (G.2.1, 1680, .inl cnt)), ((u5 15), .inl (G.2.1, 1680, .inl ld)), ((u5 16), .inl (G.2.1, 300, .inl bc)), ((u5 17), .inl (G.2.1, 300, .inl bd)), ((u5 18), .inl (G.2.1, 300, .inl bf)), ((u5 19), .inr (3, [.ref (u5 20), .ref (u5 21)])), ((u5 20), .inl (G.2.1, 140, .inl u854_1.1)), ((u5 21), .inl (G.2.2.1, 140, .inl (zB hid))), ((u5 22), .inl (G.2.2.1, 1680, .inl (zB sc))), ((u5 23), .inl (G.2.1, 16, .inl rf)), (ot, .inl (G.2.2.2, 1, .inr (.inl (gF (th2 (okC nA nJ x1 x2 x3) (dOk td x4)) og (vp_updL og 0 (u854_1.2.toInt64)))))), (M, .inr (6, [.int (nI td), .int (nI nA), .int (nI nJ), .ref (u6 0), .ref (u6 1), .ref (u6 2), .int (nI dn), .ref (u6 3), .ref (u6 4), .ref (u6 5), .int (nI snt), .int (nI jd), .ref (u6 6), .int (nI bn), .ref (u6 7), .ref (u6 8), .ref (u6 9), .ref (u6 10), .ref (u6 11), .ref (u6 12), .int (nI (th2 (okC nA nJ x1 x2 x3) (dOk td x4)))])), ((u6 0), .inl (G.2.1, 14, .inl fA)), ((u6 1), .inl (G.2.1, 10, .inl fJ)), ((u6 2), .inl (G.2.2.1, 56, .inl (zB on))), ((u6 3), .inl (G.2.1, 16, .inl dw)), ((u6 4), .inl (G.2.1, 16, .inl dc)), ((u6 5), .inl (G.2.1, 16, .inl dv)), ((u6 6), .inl (G.2.1, 16, .inl rf)), ((u6 7), .inl (G.2.1, 300, .inl bc)), ((u6 8), .inl (G.2.1, 300, .inl bd)), ((u6 9), .inl (G.2.1, 300, .inl bf)), ((u6 10), .inl (G.2.2.1, 1680, .inl (zB sc))), ((u6 11), .inl (G.2.1, 140, .inl u884_2)), ((u6 12), .inl (G.2.2.1, 140, .inl (zB hm)))] _ _ := w
  have hmo := hr884_2
  refine lv_istore (lv' := [(6, .int r884_2), (5, .int (nI (th2 (okC nA nJ x1 x2 x3) (dOk td x4)))), (0, .ref b), (1, .ref H0), (2, .ref M), (3, .ref ot), (4, .int (nI i))]) hx hb dL_law_887 hl (by decide) rfl (fun ls hl => ?_)
  refine lv_aload_n hx hb dL_law_889 rfl (lv_at hl 4 rfl) ?_
  refine b_calli w (va_runV (As := []) (rest := []) X (c_X6_thrown l hl0 G _ (M := M) (td := td) (nA := nA) (nJ := nJ) (yA := (u6 0)) (yJ := (u6 1)) (yg := (u6 2)) (dn := dn) (yw := (u6 3)) (yc := (u6 4)) (yv := (u6 5)) (snt := snt) (jd := jd) (yr := (u6 6)) (bn := bn) (yC := (u6 7)) (yD := (u6 8)) (yF := (u6 9)) (yS := (u6 10)) (yV := (u6 11)) (yH := (u6 12)) (th := nI (th2 (okC nA nJ x1 x2 x3) (dOk td x4))) ) (cwV 0 hts gL_law_X6_thrown rfl rfl rfl (by decide +kernel) ⟨Nat.le_of_ble_eq_true rfl, Nat.le_of_ble_eq_true rfl⟩) ⟨b_blind, b_recv E w (ci := 6) (q0 := 26) rfl rfl, (fun U9 hU9 hW9 => ⟨rfl, b_pre E Z0 w [26] (by decide) rfl b_nil U9 hU9 hW9⟩)⟩ rfl rfl hl.1 rfl (lv_room (Nat.le_of_ble_eq_true rfl)) dL_law_890 ⟨Nat.le_trans (by omega) hcR, Nat.le_trans (by omega) hsR⟩) b_nil [] (fun _ => rfl) rfl (fun r890_3 u890_3 H locs hr890_3 w => ?_)
  have w : bSt G vwCl [] s [(H0, .inr (5, [.ref (u5 0), .ref (u5 2), .ref (u5 4), .ref (u5 6), .ref (u5 11), .ref (u5 19), .ref (u5 22), .ref (u5 23), .int (nI jd), .int (nI snt), .int (nI td)])), ((u5 0), .inr (4, [.ref (u5 1), .int (nI 10), .int (nI nA)])), ((u5 1), .inl (G.2.1, 14, .inl fA)), ((u5 2), .inr (4, [.ref (u5 3), .int (nI 1), .int (nI nJ)])), ((u5 3), .inl (G.2.1, 10, .inl fJ)), ((u5 4), .inr (0, [.ref (u5 5)])), ((u5 5), .inl (G.2.2.1, 56, .inl (zB on))), ((u5 6), .inr (2, [.ref (u5 7), .ref (u5 8), .ref (u5 9), .ref (u5 10), .int (nI dn)])), ((u5 7), .inl (G.2.1, 16, .inl dw)), ((u5 8), .inl (G.2.1, 16, .inl da)), ((u5 9), .inl (G.2.1, 16, .inl dc)), ((u5 10), .inl (G.2.1, 16, .inl dv)), ((u5 11), .inr (1, [.ref (u5 12), .ref (u5 13), .ref (u5 14), .ref (u5 15), .ref (u5 16), .ref (u5 17), .ref (u5 18), .int (nI bn)])), ((u5 12), .inl (G.2.1, 1680, .inl lat)), ((u5 13), .inl (G.2.1, 1680, .inl ear)), ((u5 14), .inl (G.2.1, 1680, .inl cnt)), ((u5 15), .inl (G.2.1, 1680, .inl ld)), ((u5 16), .inl (G.2.1, 300, .inl bc)), ((u5 17), .inl (G.2.1, 300, .inl bd)), ((u5 18), .inl (G.2.1, 300, .inl bf)), ((u5 19), .inr (3, [.ref (u5 20), .ref (u5 21)])), ((u5 20), .inl (G.2.1, 140, .inl u854_1.1)), ((u5 21), .inl (G.2.2.1, 140, .inl (zB hid))), ((u5 22), .inl (G.2.2.1, 1680, .inl (zB sc))), ((u5 23), .inl (G.2.1, 16, .inl rf)), (ot, .inl (G.2.2.2, 1, .inr (.inl (gF (th2 (okC nA nJ x1 x2 x3) (dOk td x4)) og (vp_updL og 0 (u854_1.2.toInt64)))))), (M, .inr (6, [.int (nI td), .int (nI nA), .int (nI nJ), .ref (u6 0), .ref (u6 1), .ref (u6 2), .int (nI dn), .ref (u6 3), .ref (u6 4), .ref (u6 5), .int (nI snt), .int (nI jd), .ref (u6 6), .int (nI bn), .ref (u6 7), .ref (u6 8), .ref (u6 9), .ref (u6 10), .ref (u6 11), .ref (u6 12), .int (nI (th2 (okC nA nJ x1 x2 x3) (dOk td x4)))])), ((u6 0), .inl (G.2.1, 14, .inl fA)), ((u6 1), .inl (G.2.1, 10, .inl fJ)), ((u6 2), .inl (G.2.2.1, 56, .inl (zB on))), ((u6 3), .inl (G.2.1, 16, .inl dw)), ((u6 4), .inl (G.2.1, 16, .inl dc)), ((u6 5), .inl (G.2.1, 16, .inl dv)), ((u6 6), .inl (G.2.1, 16, .inl rf)), ((u6 7), .inl (G.2.1, 300, .inl bc)), ((u6 8), .inl (G.2.1, 300, .inl bd)), ((u6 9), .inl (G.2.1, 300, .inl bf)), ((u6 10), .inl (G.2.2.1, 1680, .inl (zB sc))), ((u6 11), .inl (G.2.1, 140, .inl u884_2)), ((u6 12), .inl (G.2.2.1, 140, .inl (zB hm)))] _ _ := w
  subst hr890_3
  refine lv_iload hx hb dL_law_893 (lv_at hl 1 rfl) ?_
  refine lv_icmp_eq (tgt := 900) hx hb dL_law_895 (by decide) (fun c_895_4 => ?_) (fun c_895_4 => ?_)
  · refine lv_iload hx hb dL_law_900 (lv_at hl 1 rfl) ?_
    refine lv_if_ne (tgt := 917) hx hb dL_law_902 (by decide) (fun c_902_5 => ?_) (fun c_902_5 => ?_)
    · refine lv_goto (tgt := 1496) hx hb dL_law_917 (by decide) ?_
      refine W.widen (k := cells + 8) (n := slots + 48) (by omega) (by omega) ?_
      exact kk _ _ _ ⟨jd, snt, td, nA, nJ, dn, bn, fA, fJ, da, dw, dc, dv, lat, ear, cnt, ld, bc, bd, bf, rf, u854_1.1, u884_2, on, sc, hid, hm, gF (th2 (okC nA nJ x1 x2 x3) (dOk td x4)) og (vp_updL og 0 (u854_1.2.toInt64)), nI (th2 (okC nA nJ x1 x2 x3) (dOk td x4)), hI, w⟩ (lv_sub hl [2, 3, 4, 5, 6] rfl)
    · have hT0 := b_T0 th2_lt c_902_5
      refine lv_aload_n hx hb dL_law_905 rfl (lv_at hl 5 rfl) ?_
      refine lv_iconst (v := nI 0) hx hb dL_law_906 (by decide) ?_
      refine b_jald X E w 25 rfl 0 rfl (by omega) (by first | decide | omega) dL_law_907 ?_
      refine lv_iload hx hb dL_law_908 (lv_at hl 0 rfl) ?_
      refine lv_i2l (v := (r884_2).toInt64) hx hb dL_law_910 rfl ?_
      refine W.lcmp hx hb dL_law_911 ?_
      refine b_tp (show lg_cmp ((gF (th2 (okC nA nJ x1 x2 x3) (dOk td x4)) og (vp_updL og 0 (u854_1.2.toInt64))) 0) ((r884_2).toInt64) = nI 0 from b_lc (by rw [hT0]; exact congrArg Int32.toInt64 (an_value hI (hcl hT0) (hmo hT0)))) ?_
      refine lv_if_eq (tgt := 917) hx hb dL_law_912 (by decide) (fun c_912_6 => ?_) (fun c_912_6 => ?_)
      · refine lv_goto (tgt := 1496) hx hb dL_law_917 (by decide) ?_
        refine W.widen (k := cells + 8) (n := slots + 48) (by omega) (by omega) ?_
        exact kk _ _ _ ⟨jd, snt, td, nA, nJ, dn, bn, fA, fJ, da, dw, dc, dv, lat, ear, cnt, ld, bc, bd, bf, rf, u854_1.1, u884_2, on, sc, hid, hm, gF (th2 (okC nA nJ x1 x2 x3) (dOk td x4)) og (vp_updL og 0 (u854_1.2.toInt64)), nI (th2 (okC nA nJ x1 x2 x3) (dOk td x4)), hI, w⟩ (lv_sub hl [2, 3, 4, 5, 6] rfl)
      · exact absurd (by decide) c_912_6
  · exact absurd rfl c_895_4
set_option maxHeartbeats 4000000 in
set_option maxRecDepth 100000 in
theorem op_hasFault {p : Program} {l : Launch} (hl0 : l.stackTraces = false) {e : Env} {s : State} {m : MethodId} {below : List Frame} {meth : Method} {c : Code} {G : bG} {b L : Nat} {xs : Nat → Int32} {Q : State → Prop} (X : CallFix p m c cL_law 7 s #[Value.ref b] wsL_law RL) (E : bE G vwCl bNW bSW s) (Z0 : bZ [] s) (hX : va_X b L xs s s.heap) (hbl : b < s.heap.size) (hL : L ≤ 3584) {H0 M ot : Nat} {u5 u6 : Nat → Nat} (hH0 : s.heap.size ≤ H0) (hM : s.heap.size ≤ M) (hot : s.heap.size ≤ ot) (h5 : ∀ k, k < 24 → s.heap.size ≤ u5 k) (h6 : ∀ k, k < 13 → s.heap.size ≤ u6 k) {i : Nat} (hi : i + 7 ≤ L) {cells slots : Nat} (hcR : cells + 8 ≤ room_1.cells) (hsR : slots + 48 ≤ room_1.slots) {H : Heap} {locs : List Loc} {ls : Array Slot} (hLC : LC G s H0 M ot u5 u6 H locs) (hl : lv_has ls 7 [(0, .ref b), (1, .ref H0), (2, .ref M), (3, .ref ot), (4, .int (nI i))]) (kk : ∀ (H : Heap) (locs : List Loc) (ls : Array Slot), LC G s H0 M ot u5 u6 H locs → lv_has ls 7 [(0, .ref b), (1, .ref H0), (2, .ref M), (3, .ref ot), (4, .int (nI i))] → W p l e room_1 s m #[Value.ref b] below meth c H locs (cells + 8) (slots + 48) Q (F0 m 1496 ls [])) : W p l e room_1 s m #[Value.ref b] below meth c H locs cells slots Q (F0 m 1080 ls []) := by
  have hx := X.1
  have hb := X.2.1
  have hml := X.2.2.1
  have hown := X.2.2.2.1
  have hts := X.2.2.2.2
  have hbA : ¬ Aw [] s.heap.size b := fun h => h.elim (fun h => nomatch h) (fun h => absurd hbl (Nat.not_lt.mpr h))
  obtain ⟨jd, snt, td, nA, nJ, dn, bn, fA, fJ, da, dw, dc, dv, lat, ear, cnt, ld, bc, bd, bf, rf, v, vm, on, sc, hid, hm, og, th, hI, w⟩ := hLC
  obtain ⟨⟨hnA, hnJ, hTA, hTJ, htd, hst, hbs, hjd, hdn9⟩, hbk, hdr, hK⟩ := id hI
  have hbn : bn ≤ 300 := by omega
  obtain ⟨x1, ex1⟩ : ∃ y : Int32, y = xs (nI (i + 1)).toNatClampNeg := ⟨_, rfl⟩
  obtain ⟨x2, ex2⟩ : ∃ y : Int32, y = xs (nI (i + 2)).toNatClampNeg := ⟨_, rfl⟩
  obtain ⟨x3, ex3⟩ : ∃ y : Int32, y = xs (nI (i + 3)).toNatClampNeg := ⟨_, rfl⟩
  obtain ⟨x4, ex4⟩ : ∃ y : Int32, y = xs (nI (i + 4)).toNatClampNeg := ⟨_, rfl⟩
  obtain ⟨x5, ex5⟩ : ∃ y : Int32, y = xs (nI (i + 5)).toNatClampNeg := ⟨_, rfl⟩
  obtain ⟨x6, ex6⟩ : ∃ y : Int32, y = xs (nI (i + 6)).toNatClampNeg := ⟨_, rfl⟩
  refine lv_aload_n hx hb dL_law_1080 rfl (lv_at hl 1 rfl) ?_
  refine lv_aload_n hx hb dL_law_1081 rfl (lv_at hl 0 rfl) ?_
  refine lv_iload hx hb dL_law_1082 (lv_at hl 4 rfl) ?_
  refine lv_iconst (v := nI 1) hx hb dL_law_1084 (by decide) ?_
  refine lv_iadd hx hb dL_law_1085 ?_
  refine b_tp (show (nI i) + (nI 1) = nI (i + 1) from nI_add i 1) ?_
  refine va_sld hx hb hX hbl hbA w.2.1 (vp_in_nI (by omega) (by omega)) dL_law_1086 ?_
  refine b_tp (show xs (nI (i + 1)).toNatClampNeg = x1 from ex1.symm) ?_
  refine lv_aload_n hx hb dL_law_1087 rfl (lv_at hl 0 rfl) ?_
  refine lv_iload hx hb dL_law_1088 (lv_at hl 4 rfl) ?_
  refine lv_iconst (v := nI 2) hx hb dL_law_1090 (by decide) ?_
  refine lv_iadd hx hb dL_law_1091 ?_
  refine b_tp (show (nI i) + (nI 2) = nI (i + 2) from nI_add i 2) ?_
  refine va_sld hx hb hX hbl hbA w.2.1 (vp_in_nI (by omega) (by omega)) dL_law_1092 ?_
  refine b_tp (show xs (nI (i + 2)).toNatClampNeg = x2 from ex2.symm) ?_
  refine lv_aload_n hx hb dL_law_1093 rfl (lv_at hl 0 rfl) ?_
  refine lv_iload hx hb dL_law_1094 (lv_at hl 4 rfl) ?_
  refine lv_iconst (v := nI 3) hx hb dL_law_1096 (by decide) ?_
  refine lv_iadd hx hb dL_law_1097 ?_
  refine b_tp (show (nI i) + (nI 3) = nI (i + 3) from nI_add i 3) ?_
  refine va_sld hx hb hX hbl hbA w.2.1 (vp_in_nI (by omega) (by omega)) dL_law_1098 ?_
  refine b_tp (show xs (nI (i + 3)).toNatClampNeg = x3 from ex3.symm) ?_
  refine lv_aload_n hx hb dL_law_1099 rfl (lv_at hl 3 rfl) ?_
  refine b_calli w (vx_runSW (As := [.ref H0, .int x1, .int x2, .int x3, .ref ot]) (rest := []) X (c_L_hasFault l hl0 G _ (H0 := H0) (x := x1) (y := x2) (z := x3) (ot := ot) (tA := (u5 0)) (tJ := (u5 2)) (gO := (u5 4)) (dO := (u5 6)) (bO := (u5 11)) (sO := (u5 19)) (qs := (u5 22)) (qr := (u5 23)) (jd := jd) (snt := snt) (td := td) (oA := (u5 1)) (nA := nA) (fA := fA) (oJ := (u5 3)) (nJ := nJ) (fJ := fJ) (ql := (u5 12)) (qe := (u5 13)) (qn := (u5 14)) (qt := (u5 15)) (qc := (u5 16)) (qd := (u5 17)) (qf := (u5 18)) (bn := bn) (lat := lat) (bc := bc) (bd := bd) (bf := bf) (qv := (u5 20)) (qh := (u5 21)) (v := v) (og := og) (hnA := (by first | assumption | omega)) (hnJ := (by first | assumption | omega)) (hTA := (by first | assumption | omega)) (hTJ := (by first | assumption | omega)) (hbn := (by first | assumption | omega)) (hbk := (by first | assumption | omega))) (vx_cwSW 5 hts gL_law_L_hasFault rfl rfl rfl (by decide +kernel) ⟨Nat.le_of_ble_eq_true rfl, Nat.le_of_ble_eq_true rfl⟩) ⟨b_blind, (fun U9 hU9 hW9 => ⟨rfl, b_pre E Z0 w [0, 1, 2, 3, 4, 12, 13, 17, 18, 19, 20, 21, 25] (by decide) rfl (b_inc (Or.inr (h5 20 (by decide))) (b_inc (Or.inr hot) b_inn)) U9 hU9 hW9⟩)⟩ rfl rfl hl.1 rfl (lv_room (Nat.le_of_ble_eq_true rfl)) dL_law_1100 ⟨Nat.le_trans (by omega) hcR, Nat.le_trans (by omega) hsR⟩) (b_inc (Or.inr (h5 20 (by decide))) (b_inc (Or.inr hot) b_inn)) [21, 25] (fun _ => rfl) rfl (fun r1100_1 u1100_1 H locs hr1100_1 w => ?_)
  have w : bSt G vwCl [] s [(H0, .inr (5, [.ref (u5 0), .ref (u5 2), .ref (u5 4), .ref (u5 6), .ref (u5 11), .ref (u5 19), .ref (u5 22), .ref (u5 23), .int (nI jd), .int (nI snt), .int (nI td)])), ((u5 0), .inr (4, [.ref (u5 1), .int (nI 10), .int (nI nA)])), ((u5 1), .inl (G.2.1, 14, .inl fA)), ((u5 2), .inr (4, [.ref (u5 3), .int (nI 1), .int (nI nJ)])), ((u5 3), .inl (G.2.1, 10, .inl fJ)), ((u5 4), .inr (0, [.ref (u5 5)])), ((u5 5), .inl (G.2.2.1, 56, .inl (zB on))), ((u5 6), .inr (2, [.ref (u5 7), .ref (u5 8), .ref (u5 9), .ref (u5 10), .int (nI dn)])), ((u5 7), .inl (G.2.1, 16, .inl dw)), ((u5 8), .inl (G.2.1, 16, .inl da)), ((u5 9), .inl (G.2.1, 16, .inl dc)), ((u5 10), .inl (G.2.1, 16, .inl dv)), ((u5 11), .inr (1, [.ref (u5 12), .ref (u5 13), .ref (u5 14), .ref (u5 15), .ref (u5 16), .ref (u5 17), .ref (u5 18), .int (nI bn)])), ((u5 12), .inl (G.2.1, 1680, .inl lat)), ((u5 13), .inl (G.2.1, 1680, .inl ear)), ((u5 14), .inl (G.2.1, 1680, .inl cnt)), ((u5 15), .inl (G.2.1, 1680, .inl ld)), ((u5 16), .inl (G.2.1, 300, .inl bc)), ((u5 17), .inl (G.2.1, 300, .inl bd)), ((u5 18), .inl (G.2.1, 300, .inl bf)), ((u5 19), .inr (3, [.ref (u5 20), .ref (u5 21)])), ((u5 20), .inl (G.2.1, 140, .inl u1100_1.1)), ((u5 21), .inl (G.2.2.1, 140, .inl (zB hid))), ((u5 22), .inl (G.2.2.1, 1680, .inl (zB sc))), ((u5 23), .inl (G.2.1, 16, .inl rf)), (ot, .inl (G.2.2.2, 1, .inr (.inl (gF (th1 (okC nA nJ x1 x2 x3)) og (vp_updL og 0 (kL u1100_1.2)))))), (M, .inr (6, [.int (nI td), .int (nI nA), .int (nI nJ), .ref (u6 0), .ref (u6 1), .ref (u6 2), .int (nI dn), .ref (u6 3), .ref (u6 4), .ref (u6 5), .int (nI snt), .int (nI jd), .ref (u6 6), .int (nI bn), .ref (u6 7), .ref (u6 8), .ref (u6 9), .ref (u6 10), .ref (u6 11), .ref (u6 12), .int th])), ((u6 0), .inl (G.2.1, 14, .inl fA)), ((u6 1), .inl (G.2.1, 10, .inl fJ)), ((u6 2), .inl (G.2.2.1, 56, .inl (zB on))), ((u6 3), .inl (G.2.1, 16, .inl dw)), ((u6 4), .inl (G.2.1, 16, .inl dc)), ((u6 5), .inl (G.2.1, 16, .inl dv)), ((u6 6), .inl (G.2.1, 16, .inl rf)), ((u6 7), .inl (G.2.1, 300, .inl bc)), ((u6 8), .inl (G.2.1, 300, .inl bd)), ((u6 9), .inl (G.2.1, 300, .inl bf)), ((u6 10), .inl (G.2.2.1, 1680, .inl (zB sc))), ((u6 11), .inl (G.2.1, 140, .inl vm)), ((u6 12), .inl (G.2.2.1, 140, .inl (zB hm)))] _ _ := w
  obtain ⟨ehr1100_1, hr1100_1⟩ := hr1100_1
  subst ehr1100_1
  have hcl := hr1100_1
  refine lv_istore (lv' := [(5, .int (nI (th1 (okC nA nJ x1 x2 x3)))), (0, .ref b), (1, .ref H0), (2, .ref M), (3, .ref ot), (4, .int (nI i))]) hx hb dL_law_1103 hl (by decide) rfl (fun ls hl => ?_)
  refine lv_aload_n hx hb dL_law_1105 rfl (lv_at hl 3 rfl) ?_
  refine lv_aload_n hx hb dL_law_1106 rfl (lv_at hl 1 rfl) ?_
  refine lv_iload hx hb dL_law_1107 (lv_at hl 5 rfl) ?_
  refine lv_iconst (v := nI 1) hx hb dL_law_1109 (by decide) ?_
  refine lv_iadd hx hb dL_law_1110 ?_
  refine b_tp (show (nI i) + (nI 1) = nI (i + 1) from nI_add i 1) ?_
  refine va_sld hx hb hX hbl hbA w.2.1 (vp_in_nI (by omega) (by omega)) dL_law_1111 ?_
  refine b_tp (show xs (nI (i + 1)).toNatClampNeg = x1 from ex1.symm) ?_
  refine lv_aload_n hx hb dL_law_1112 rfl (lv_at hl 1 rfl) ?_
  refine lv_iload hx hb dL_law_1113 (lv_at hl 5 rfl) ?_
  refine lv_iconst (v := nI 2) hx hb dL_law_1115 (by decide) ?_
  refine lv_iadd hx hb dL_law_1116 ?_
  refine b_tp (show (nI i) + (nI 2) = nI (i + 2) from nI_add i 2) ?_
  refine va_sld hx hb hX hbl hbA w.2.1 (vp_in_nI (by omega) (by omega)) dL_law_1117 ?_
  refine b_tp (show xs (nI (i + 2)).toNatClampNeg = x2 from ex2.symm) ?_
  refine lv_aload_n hx hb dL_law_1118 rfl (lv_at hl 1 rfl) ?_
  refine lv_iload hx hb dL_law_1119 (lv_at hl 5 rfl) ?_
  refine lv_iconst (v := nI 3) hx hb dL_law_1121 (by decide) ?_
  refine lv_iadd hx hb dL_law_1122 ?_
  refine b_tp (show (nI i) + (nI 3) = nI (i + 3) from nI_add i 3) ?_
  refine va_sld hx hb hX hbl hbA w.2.1 (vp_in_nI (by omega) (by omega)) dL_law_1123 ?_
  refine b_tp (show xs (nI (i + 3)).toNatClampNeg = x3 from ex3.symm) ?_
  refine b_calli w (va_runV (As := [.int x1, .int x2, .int x3]) (rest := []) X (c_X6_hasFault l hl0 G _ (M := M) (x := x1) (y := x2) (z := x3) (td := td) (nA := nA) (nJ := nJ) (yA := (u6 0)) (yJ := (u6 1)) (yg := (u6 2)) (dn := dn) (yw := (u6 3)) (yc := (u6 4)) (yv := (u6 5)) (snt := snt) (jd := jd) (yr := (u6 6)) (bn := bn) (yC := (u6 7)) (yD := (u6 8)) (yF := (u6 9)) (yS := (u6 10)) (yV := (u6 11)) (yH := (u6 12)) (th := th) (fA := fA) (fJ := fJ) (bc := bc) (bd := bd) (bf := bf) (v := vm) (hnA := (by first | assumption | omega)) (hnJ := (by first | assumption | omega)) (hTA := (by first | assumption | omega)) (hTJ := (by first | assumption | omega)) (hbn := (by first | assumption | omega))) (cwV 3 hts gL_law_X6_hasFault rfl rfl rfl (by decide +kernel) ⟨Nat.le_of_ble_eq_true rfl, Nat.le_of_ble_eq_true rfl⟩) ⟨b_blind, b_recv E w (ci := 6) (q0 := 26) rfl rfl, (fun U9 hU9 hW9 => ⟨rfl, b_pre E Z0 w [26, 27, 28, 34, 35, 36, 38] (by decide) rfl (b_inc (Or.inr hM) (b_inc (Or.inr (h6 11 (by decide))) b_inn)) U9 hU9 hW9⟩)⟩ rfl rfl hl.1 rfl (lv_room (Nat.le_of_ble_eq_true rfl)) dL_law_1124 ⟨Nat.le_trans (by omega) hcR, Nat.le_trans (by omega) hsR⟩) (b_inc (Or.inr hM) (b_inc (Or.inr (h6 11 (by decide))) b_inn)) [26, 38] (fun _ => rfl) rfl (fun r1124_2 u1124_2 H locs hr1124_2 w => ?_)
  have w : bSt G vwCl [] s [(H0, .inr (5, [.ref (u5 0), .ref (u5 2), .ref (u5 4), .ref (u5 6), .ref (u5 11), .ref (u5 19), .ref (u5 22), .ref (u5 23), .int (nI jd), .int (nI snt), .int (nI td)])), ((u5 0), .inr (4, [.ref (u5 1), .int (nI 10), .int (nI nA)])), ((u5 1), .inl (G.2.1, 14, .inl fA)), ((u5 2), .inr (4, [.ref (u5 3), .int (nI 1), .int (nI nJ)])), ((u5 3), .inl (G.2.1, 10, .inl fJ)), ((u5 4), .inr (0, [.ref (u5 5)])), ((u5 5), .inl (G.2.2.1, 56, .inl (zB on))), ((u5 6), .inr (2, [.ref (u5 7), .ref (u5 8), .ref (u5 9), .ref (u5 10), .int (nI dn)])), ((u5 7), .inl (G.2.1, 16, .inl dw)), ((u5 8), .inl (G.2.1, 16, .inl da)), ((u5 9), .inl (G.2.1, 16, .inl dc)), ((u5 10), .inl (G.2.1, 16, .inl dv)), ((u5 11), .inr (1, [.ref (u5 12), .ref (u5 13), .ref (u5 14), .ref (u5 15), .ref (u5 16), .ref (u5 17), .ref (u5 18), .int (nI bn)])), ((u5 12), .inl (G.2.1, 1680, .inl lat)), ((u5 13), .inl (G.2.1, 1680, .inl ear)), ((u5 14), .inl (G.2.1, 1680, .inl cnt)), ((u5 15), .inl (G.2.1, 1680, .inl ld)), ((u5 16), .inl (G.2.1, 300, .inl bc)), ((u5 17), .inl (G.2.1, 300, .inl bd)), ((u5 18), .inl (G.2.1, 300, .inl bf)), ((u5 19), .inr (3, [.ref (u5 20), .ref (u5 21)])), ((u5 20), .inl (G.2.1, 140, .inl u1100_1.1)), ((u5 21), .inl (G.2.2.1, 140, .inl (zB hid))), ((u5 22), .inl (G.2.2.1, 1680, .inl (zB sc))), ((u5 23), .inl (G.2.1, 16, .inl rf)), (ot, .inl (G.2.2.2, 1, .inr (.inl (gF (th1 (okC nA nJ x1 x2 x3)) og (vp_updL og 0 (kL u1100_1.2)))))), (M, .inr (6, [.int (nI td), .int (nI nA), .int (nI nJ), .ref (u6 0), .ref (u6 1), .ref (u6 2), .int (nI dn), .ref (u6 3), .ref (u6 4), .ref (u6 5), .int (nI snt), .int (nI jd), .ref (u6 6), .int (nI bn), .ref (u6 7), .ref (u6 8), .ref (u6 9), .ref (u6 10), .ref (u6 11), .ref (u6 12), .int (nI (th1 (okC nA nJ x1 x2 x3)))])), ((u6 0), .inl (G.2.1, 14, .inl fA)), ((u6 1), .inl (G.2.1, 10, .inl fJ)), ((u6 2), .inl (G.2.2.1, 56, .inl (zB on))), ((u6 3), .inl (G.2.1, 16, .inl dw)), ((u6 4), .inl (G.2.1, 16, .inl dc)), ((u6 5), .inl (G.2.1, 16, .inl dv)), ((u6 6), .inl (G.2.1, 16, .inl rf)), ((u6 7), .inl (G.2.1, 300, .inl bc)), ((u6 8), .inl (G.2.1, 300, .inl bd)), ((u6 9), .inl (G.2.1, 300, .inl bf)), ((u6 10), .inl (G.2.2.1, 1680, .inl (zB sc))), ((u6 11), .inl (G.2.1, 140, .inl u1124_2)), ((u6 12), .inl (G.2.2.1, 140, .inl (zB hm)))] _ _ := w
  have hmo := hr1124_2
  refine lv_istore (lv' := [(6, .int r1124_2), (5, .int (nI (th1 (okC nA nJ x1 x2 x3)))), (0, .ref b), (1, .ref H0), (2, .ref M), (3, .ref ot), (4, .int (nI i))]) hx hb dL_law_1127 hl (by decide) rfl (fun ls hl => ?_)
  refine lv_aload_n hx hb dL_law_1129 rfl (lv_at hl 4 rfl) ?_
  refine b_calli w (va_runV (As := []) (rest := []) X (c_X6_thrown l hl0 G _ (M := M) (td := td) (nA := nA) (nJ := nJ) (yA := (u6 0)) (yJ := (u6 1)) (yg := (u6 2)) (dn := dn) (yw := (u6 3)) (yc := (u6 4)) (yv := (u6 5)) (snt := snt) (jd := jd) (yr := (u6 6)) (bn := bn) (yC := (u6 7)) (yD := (u6 8)) (yF := (u6 9)) (yS := (u6 10)) (yV := (u6 11)) (yH := (u6 12)) (th := nI (th1 (okC nA nJ x1 x2 x3))) ) (cwV 0 hts gL_law_X6_thrown rfl rfl rfl (by decide +kernel) ⟨Nat.le_of_ble_eq_true rfl, Nat.le_of_ble_eq_true rfl⟩) ⟨b_blind, b_recv E w (ci := 6) (q0 := 26) rfl rfl, (fun U9 hU9 hW9 => ⟨rfl, b_pre E Z0 w [26] (by decide) rfl b_nil U9 hU9 hW9⟩)⟩ rfl rfl hl.1 rfl (lv_room (Nat.le_of_ble_eq_true rfl)) dL_law_1130 ⟨Nat.le_trans (by omega) hcR, Nat.le_trans (by omega) hsR⟩) b_nil [] (fun _ => rfl) rfl (fun r1130_3 u1130_3 H locs hr1130_3 w => ?_)
  have w : bSt G vwCl [] s [(H0, .inr (5, [.ref (u5 0), .ref (u5 2), .ref (u5 4), .ref (u5 6), .ref (u5 11), .ref (u5 19), .ref (u5 22), .ref (u5 23), .int (nI jd), .int (nI snt), .int (nI td)])), ((u5 0), .inr (4, [.ref (u5 1), .int (nI 10), .int (nI nA)])), ((u5 1), .inl (G.2.1, 14, .inl fA)), ((u5 2), .inr (4, [.ref (u5 3), .int (nI 1), .int (nI nJ)])), ((u5 3), .inl (G.2.1, 10, .inl fJ)), ((u5 4), .inr (0, [.ref (u5 5)])), ((u5 5), .inl (G.2.2.1, 56, .inl (zB on))), ((u5 6), .inr (2, [.ref (u5 7), .ref (u5 8), .ref (u5 9), .ref (u5 10), .int (nI dn)])), ((u5 7), .inl (G.2.1, 16, .inl dw)), ((u5 8), .inl (G.2.1, 16, .inl da)), ((u5 9), .inl (G.2.1, 16, .inl dc)), ((u5 10), .inl (G.2.1, 16, .inl dv)), ((u5 11), .inr (1, [.ref (u5 12), .ref (u5 13), .ref (u5 14), .ref (u5 15), .ref (u5 16), .ref (u5 17), .ref (u5 18), .int (nI bn)])), ((u5 12), .inl (G.2.1, 1680, .inl lat)), ((u5 13), .inl (G.2.1, 1680, .inl ear)), ((u5 14), .inl (G.2.1, 1680, .inl cnt)), ((u5 15), .inl (G.2.1, 1680, .inl ld)), ((u5 16), .inl (G.2.1, 300, .inl bc)), ((u5 17), .inl (G.2.1, 300, .inl bd)), ((u5 18), .inl (G.2.1, 300, .inl bf)), ((u5 19), .inr (3, [.ref (u5 20), .ref (u5 21)])), ((u5 20), .inl (G.2.1, 140, .inl u1100_1.1)), ((u5 21), .inl (G.2.2.1, 140, .inl (zB hid))), ((u5 22), .inl (G.2.2.1, 1680, .inl (zB sc))), ((u5 23), .inl (G.2.1, 16, .inl rf)), (ot, .inl (G.2.2.2, 1, .inr (.inl (gF (th1 (okC nA nJ x1 x2 x3)) og (vp_updL og 0 (kL u1100_1.2)))))), (M, .inr (6, [.int (nI td), .int (nI nA), .int (nI nJ), .ref (u6 0), .ref (u6 1), .ref (u6 2), .int (nI dn), .ref (u6 3), .ref (u6 4), .ref (u6 5), .int (nI snt), .int (nI jd), .ref (u6 6), .int (nI bn), .ref (u6 7), .ref (u6 8), .ref (u6 9), .ref (u6 10), .ref (u6 11), .ref (u6 12), .int (nI (th1 (okC nA nJ x1 x2 x3)))])), ((u6 0), .inl (G.2.1, 14, .inl fA)), ((u6 1), .inl (G.2.1, 10, .inl fJ)), ((u6 2), .inl (G.2.2.1, 56, .inl (zB on))), ((u6 3), .inl (G.2.1, 16, .inl dw)), ((u6 4), .inl (G.2.1, 16, .inl dc)), ((u6 5), .inl (G.2.1, 16, .inl dv)), ((u6 6), .inl (G.2.1, 16, .inl rf)), ((u6 7), .inl (G.2.1, 300, .inl bc)), ((u6 8), .inl (G.2.1, 300, .inl bd)), ((u6 9), .inl (G.2.1, 300, .inl bf)), ((u6 10), .inl (G.2.2.1, 1680, .inl (zB sc))), ((u6 11), .inl (G.2.1, 140, .inl u1124_2)), ((u6 12), .inl (G.2.2.1, 140, .inl (zB hm)))] _ _ := w
  subst hr1130_3
  refine lv_iload hx hb dL_law_1133 (lv_at hl 1 rfl) ?_
  refine lv_icmp_eq (tgt := 1140) hx hb dL_law_1135 (by decide) (fun c_1135_4 => ?_) (fun c_1135_4 => ?_)
  · refine lv_iload hx hb dL_law_1140 (lv_at hl 1 rfl) ?_
    refine lv_if_ne (tgt := 1164) hx hb dL_law_1142 (by decide) (fun c_1142_5 => ?_) (fun c_1142_5 => ?_)
    · refine lv_goto (tgt := 1496) hx hb dL_law_1164 (by decide) ?_
      refine W.widen (k := cells + 8) (n := slots + 48) (by omega) (by omega) ?_
      exact kk _ _ _ ⟨jd, snt, td, nA, nJ, dn, bn, fA, fJ, da, dw, dc, dv, lat, ear, cnt, ld, bc, bd, bf, rf, u1100_1.1, u1124_2, on, sc, hid, hm, gF (th1 (okC nA nJ x1 x2 x3)) og (vp_updL og 0 (kL u1100_1.2)), nI (th1 (okC nA nJ x1 x2 x3)), hI, w⟩ (lv_sub hl [2, 3, 4, 5, 6] rfl)
    · have hT0 := b_T0 th1_lt c_1142_5
      refine lv_aload_n hx hb dL_law_1145 rfl (lv_at hl 5 rfl) ?_
      refine lv_iconst (v := nI 0) hx hb dL_law_1146 (by decide) ?_
      refine b_jald X E w 25 rfl 0 rfl (by omega) (by first | decide | omega) dL_law_1147 ?_
      refine lv_iload hx hb dL_law_1148 (lv_at hl 0 rfl) ?_
      refine lv_if_eq (tgt := 1157) hx hb dL_law_1150 (by decide) (fun c_1150_6 => ?_) (fun c_1150_6 => ?_)
      · have cb6 := c_1150_6
        refine lv_lconst (v := 0) hx hb dL_law_1157 (by decide) ?_
        refine W.lcmp hx hb dL_law_1158 ?_
        refine b_tp (show lg_cmp ((gF (th1 (okC nA nJ x1 x2 x3)) og (vp_updL og 0 (kL u1100_1.2))) 0) 0 = nI 0 from b_lc (by rw [hT0]; exact kL_0 ((an_fault hI (hcl hT0) (hmo hT0)).trans cb6))) ?_
        refine lv_if_eq (tgt := 1164) hx hb dL_law_1159 (by decide) (fun c_1159_7 => ?_) (fun c_1159_7 => ?_)
        · refine lv_goto (tgt := 1496) hx hb dL_law_1164 (by decide) ?_
          refine W.widen (k := cells + 8) (n := slots + 48) (by omega) (by omega) ?_
          exact kk _ _ _ ⟨jd, snt, td, nA, nJ, dn, bn, fA, fJ, da, dw, dc, dv, lat, ear, cnt, ld, bc, bd, bf, rf, u1100_1.1, u1124_2, on, sc, hid, hm, gF (th1 (okC nA nJ x1 x2 x3)) og (vp_updL og 0 (kL u1100_1.2)), nI (th1 (okC nA nJ x1 x2 x3)), hI, w⟩ (lv_sub hl [2, 3, 4, 5, 6] rfl)
        · exact absurd (by decide) c_1159_7
      · have cb6 := c_1150_6
        refine lv_lconst (v := 1) hx hb dL_law_1153 (by decide) ?_
        refine lv_goto (tgt := 1158) hx hb dL_law_1154 (by decide) ?_
        refine W.lcmp hx hb dL_law_1158 ?_
        refine b_tp (show lg_cmp ((gF (th1 (okC nA nJ x1 x2 x3)) og (vp_updL og 0 (kL u1100_1.2))) 0) 1 = nI 0 from b_lc (by rw [hT0]; exact kL_1 (fun h9 => cb6 ((an_fault hI (hcl hT0) (hmo hT0)).symm.trans h9)))) ?_
        refine lv_if_eq (tgt := 1164) hx hb dL_law_1159 (by decide) (fun c_1159_8 => ?_) (fun c_1159_8 => ?_)
        · refine lv_goto (tgt := 1496) hx hb dL_law_1164 (by decide) ?_
          refine W.widen (k := cells + 8) (n := slots + 48) (by omega) (by omega) ?_
          exact kk _ _ _ ⟨jd, snt, td, nA, nJ, dn, bn, fA, fJ, da, dw, dc, dv, lat, ear, cnt, ld, bc, bd, bf, rf, u1100_1.1, u1124_2, on, sc, hid, hm, gF (th1 (okC nA nJ x1 x2 x3)) og (vp_updL og 0 (kL u1100_1.2)), nI (th1 (okC nA nJ x1 x2 x3)), hI, w⟩ (lv_sub hl [2, 3, 4, 5, 6] rfl)
        · exact absurd (by decide) c_1159_8
  · exact absurd rfl c_1135_4
